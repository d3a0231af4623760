/-! worlds told outright; constructors -/
def EQ (ad0 : Nat → Nat) (w0 : gW) : (Nat → Nat) → gW → Prop := fun ad w => ad = ad0 ∧ w = w0
def Z0 : rS := fun _ _ => 0
section FIX
variable {p : Program} {l : Launch} {e : Env} {R : Room} {s : State} {m : MethodId} {args : Array Value} {below : List Frame} {meth : Method} {c : Code} {D : va_G} {cl : List vw_C} {A : Nat → Prop} {nL : Nat} {Q : State → Prop} {cells slots : Nat} {V : (Nat → Nat) → gW → Prop} {pc : Nat} {lo : List (Nat × Value)} {st : List Value}
theorem g_fix (k : ∀ ad w, V ad w → G p l e R s m args below meth c D cl A nL Q cells slots (EQ ad w) pc lo st) : G p l e R s m args below meth c D cl A nL Q cells slots V pc lo st := fun ad w H locs ls hx hw hS hl => k ad w hx ad w H locs ls ⟨rfl, rfl⟩ hw hS hl
theorem g_loopC {ι : Type} {pc0 : Nat} (μ : ι → Nat) (I : ι → Prop) (C T : ι → Nat) (V : ι → (Nat → Nat) → gW → Prop) (lo : ι → List (Nat × Value)) (hs : ∀ i, I i → (∀ j, I j → μ j < μ i → G p l e R s m args below meth c D cl A nL Q (C j) (T j) (V j) pc0 (lo j) []) → G p l e R s m args below meth c D cl A nL Q (C i) (T i) (V i) pc0 (lo i) []) (i0 : ι) (h0 : I i0) : G p l e R s m args below meth c D cl A nL Q (C i0) (T i0) (V i0) pc0 (lo i0) [] := by
  have key : ∀ (n : Nat) (i : ι), μ i = n → I i → G p l e R s m args below meth c D cl A nL Q (C i) (T i) (V i) pc0 (lo i) [] := by
    intro n
    induction n using Nat.strongRecOn with
    | ind n ih =>
      intro i hi hI
      exact hs i hI (fun j hj hlt => ih (μ j) (by omega) j rfl hj)
  exact key _ i0 rfl h0
end FIX
theorem arrV_c {cA : ClassId} {n : Nat} {f g : Nat → Value} (h : ∀ j, j < n → f j = g j) : arrV cA n f = arrV cA n g := by
  unfold arrV
  congr 2
  funext j
  exact h j.val j.isLt
theorem vu_vu {α : Type} {f : Nat → α} {k : Nat} {a b : α} : va_up (va_up f k a) k b = va_up f k b := by
  funext j
  unfold va_up
  split <;> rfl
theorem fill_s {f : Nat → Int32} {i : Nat} {v : Int32} : va_up (fun j => if j < i then v else f j) i v = fun j => if j < i + 1 then v else f j := by
  funext j
  unfold va_up
  by_cases h : j = i
  · rw [if_pos h, if_pos (by omega)]
  · rw [if_neg h]
    show (if j < i then v else f j) = _
    by_cases q : j < i
    · rw [if_pos q, if_pos (by omega)]
    · rw [if_neg q, if_neg (by omega)]
theorem fill_0 {w0 : gW} {q n : Nat} {f : Nat → Int32} {v : Int32} (h : w0 q = some (.inl (.int, n, .inl f))) : w0 = va_up w0 q (some (.inl (.int, n, .inl (fun j => if j < 0 then v else f j)))) := by
  funext j
  unfold va_up
  split
  · rename_i z
    rw [z, h]
    rfl
  · rfl
set_option maxRecDepth 100000 in
set_option maxHeartbeats 4000000 in
theorem a_fill (l : Launch) (D : va_G) (ad0 : Nat → Nat) (w0 : gW) (q n : Nat) (f : Nat → Int32) (v : Int32) (hn : n < 2 ^ 31) (hq : w0 q = some (.inl (.int, n, .inl f))) : g_M l y_A_fill w_A_fill (rk 0) D gCl g_N [.ref (ad0 q), .int v] (EQ ad0 w0) 0 0 (fun A => g_Qv D gCl A (fun ad w => EQ ad0 (va_up w0 q (some (.inl (.int, n, .inl (fun j => if j < n then v else f j))))) ad w)) := by
  refine g_of (cc := c_A_fill) (nL := 4) (ret := none) (by decide) rfl (Nat.le_of_ble_eq_true rfl) ?_
  intro pp ee ss mm bb me cc A hC hr hlk hnm
  refine g_los [0, 1] (lo' := [(0, .ref (ad0 q)), (1, .int v)]) rfl ?_
  refine g_iconst (v := nI 0) hC d_A_fill_0 (by decide) ?_
  refine g_istore_n (i := 2) (lo' := [(2, _), (0, _), (1, _)]) hC d_A_fill_1 rfl (by decide) rfl ?_
  refine g_aload_n (i := 0) hC d_A_fill_2 rfl rfl (Or.inr ⟨_, rfl⟩) ?_
  refine g_len hC q (fun ad w h => by obtain ⟨rfl, rfl⟩ := h; exact ⟨rfl, hq⟩) d_A_fill_3 ?_
  refine g_istore_n (i := 3) (lo' := [(3, _), (2, _), (0, _), (1, _)]) hC d_A_fill_4 rfl (by decide) rfl ?_
  refine g_V (V' := EQ ad0 (va_up w0 q (some (.inl (.int, n, .inl (fun j => if j < 0 then v else f j)))))) (fun ad w h => ⟨h.1, h.2.trans (fill_0 hq)⟩) ?_
  refine g_los [2, 3, 1, 0] (lo' := [(0, _), (1, _), (2, _), (3, _)]) rfl ?_
  refine g_loop (ι := Nat) (pc0 := 5) (fun i => n - i) (fun i => i ≤ n) (fun i => EQ ad0 (va_up w0 q (some (.inl (.int, n, .inl (fun j => if j < i then v else f j)))))) (fun i => [(0, .ref (ad0 q)), (1, .int v), (2, .int (nI i)), (3, .int (nI n))]) ?_ 0 (Nat.zero_le _)
  rintro i hI ih
  try dsimp only at hI ih ⊢
  refine g_iload_n (i := 2) hC d_A_fill_5 rfl rfl ?_
  refine g_iload_n (i := 3) hC d_A_fill_6 rfl rfl ?_
  refine g_icmp_geN (tgt := 20) hC d_A_fill_7 (by decide) (by omega) (by omega) (fun h7 => ?_) (fun h7 => ?_)
  · refine g_vret hC hr hlk d_A_fill_20 (by decide) (by decide) (fun ad w hw => ?_)
    obtain ⟨rfl, rfl⟩ := hw
    rw [show i = n by omega]
    exact ⟨rfl, rfl⟩
  · refine g_aload_n (i := 0) hC d_A_fill_10 rfl rfl (Or.inr ⟨_, rfl⟩) ?_
    refine g_iload_n (i := 2) hC d_A_fill_11 rfl rfl ?_
    refine g_iload_n (i := 1) hC d_A_fill_12 rfl rfl ?_
    refine g_ast (f := fun j => if j < i then v else f j) (V' := EQ ad0 (va_up w0 q (some (.inl (.int, n, .inl (fun j => if j < (i + 1) then v else f j)))))) hC q (fun ad w h => by obtain ⟨rfl, rfl⟩ := h; exact ⟨rfl, va_up_self _ _ _⟩) (by omega) hn (fun ad w h => by obtain ⟨rfl, rfl⟩ := h; rw [vu_vu, fill_s]; exact ⟨rfl, rfl⟩) d_A_fill_13 ?_
    refine g_iinc (i := 2) (k := 2) (lo' := [(2, _), (0, _), (1, _), (3, _)]) hC d_A_fill_14 rfl (nI_inc _) (by decide) rfl ?_
    refine g_goto (tgt := 5) hC d_A_fill_17 (by decide) ?_
    refine g_los [1, 2, 0, 3] rfl ?_
    exact ih (i + 1) (by omega) (by omega)
def KI (s : Nat) (ad0 : Nat → Nat) (w0 : gW) : (Nat → Nat) → gW → Prop := fun ad w => (∀ q, q ≠ 11 + 4 * s → q ≠ 12 + 4 * s → q ≠ 13 + 4 * s → ad q = ad0 q) ∧ (∀ q, q ≠ 10 + 4 * s → q ≠ 11 + 4 * s → q ≠ 12 + 4 * s → q ≠ 13 + 4 * s → w q = w0 q) ∧ w (10 + 4 * s) = some (.inr (0, cw_cp ad Z0 s)) ∧ w (11 + 4 * s) = some (cw_row Z0 s) ∧ w (12 + 4 * s) = some (cw_arr Z0 s) ∧ w (13 + 4 * s) = some (cw_plc Z0 s)
theorem z_row {s : Nat} : cw_row Z0 s = .inl (.int, 18, .inl (fun _ => 0)) := by
  unfold cw_row
  rw [show (fun j => sI (Z0 (10 * s + 1) j)) = fun _ => (0 : Int32) from funext (fun _ => by show sI 0 = 0; decide +kernel)]
theorem z_arr {s : Nat} : cw_arr Z0 s = .inl (.boolean, 18, .inl (fun _ => 0)) := by
  unfold cw_arr
  rw [show (fun j => nI (Z0 (10 * s + 2) j)) = fun _ => (0 : Int32) from funext (fun _ => by show nI 0 = 0; decide +kernel)]
theorem z_m1 {n : Nat} : (fun _ : Nat => nI 0 - 1) = fun j => if j < n then (-1 : Int32) else if j < n then 0 else -1 := by
  funext j
  by_cases h : j < n
  · rw [if_pos h]
    decide +kernel
  · rw [if_neg h, if_neg h]
    decide +kernel
theorem z_plc {s : Nat} : cw_plc Z0 s = .inl (.int, 18, .inl (fun j => if j < 18 then -1 else if j < 18 then 0 else -1)) := by
  unfold cw_plc
  rw [show (fun j => nI (Z0 (10 * s + 3) j) - 1) = fun _ => nI 0 - 1 from rfl, z_m1 (n := 18)]
theorem z_kn {S : Nat} : cw_kn Z0 S = .inl (.int, S * p8 S, .inl (fun j => if j < S * p8 S then -1 else if j < S * p8 S then 0 else -1)) := by
  unfold cw_kn
  rw [show (fun j => nI (Z0 50 j) - 1) = fun _ => nI 0 - 1 from rfl, z_m1 (n := S * p8 S)]
theorem z_made {S : Nat} {ad : Nat → Nat} : cw_made ad Z0 S = .inl (.object "TombstoneSites$Operation", 6 * S, .inr (.inr (.inr (.inr (fun _ => none))))) := rfl
section STQ
variable {p : Program} {l : Launch} {e : Env} {R : Room} {s : State} {m : MethodId} {args : Array Value} {below : List Frame} {meth : Method} {c : Code} {D : va_G} {cl : List vw_C} {A : Nat → Prop} {nL : Nat} {Q : State → Prop} {cells slots : Nat} {V : (Nat → Nat) → gW → Prop} {pc : Nat} {lo : List (Nat × Value)} {st st' : List Value}
theorem g_st (h : st = st') (k : G p l e R s m args below meth c D cl A nL Q cells slots V pc lo st') : G p l e R s m args below meth c D cl A nL Q cells slots V pc lo st := by
  rw [h]
  exact k
end STQ
set_option maxRecDepth 100000 in
set_option maxHeartbeats 4000000 in
theorem k_init (l : Launch) (D : va_G) (ad0 : Nat → Nat) (w0 : gW) (s : Nat) (h0 : w0 (10 + 4 * s) = some (.inr (0, [.int 0, .null, .int 0, .int 0, .null, .int 0, .int 0, .null]))) (h1 : w0 (11 + 4 * s) = none) (h2 : w0 (12 + 4 * s) = none) (h3 : w0 (13 + 4 * s) = none) : g_M l y_K_init w_K_init (rkc 1 3 54) D gCl g_N [.ref (ad0 (10 + 4 * s)), .int (nI s)] (EQ ad0 w0) 3 54 (fun A => g_Qv D gCl A (fun ad w => KI s ad0 w0 ad w)) := by
  refine g_of (cc := c_K_init) (nL := 2) (ret := none) (by decide) rfl (Nat.le_of_ble_eq_true rfl) ?_
  intro pp ee ss mm bb me cc A hC hr hlk hnm
  refine g_los [0, 1] (lo' := [(0, .ref (ad0 (10 + 4 * s))), (1, .int (nI s))]) rfl ?_
  refine g_aload_n (i := 0) hC d_K_init_0 rfl rfl (Or.inr ⟨_, rfl⟩) ?_
  refine g_objInit hC (List.mem_cons_of_mem _ m_48) (List.mem_cons_of_mem _ m_15) (List.mem_cons_of_mem _ m_16) (by decide) (Nat.le_of_ble_eq_true rfl) d_K_init_1 ?_
  refine g_aload_n (i := 0) hC d_K_init_4 rfl rfl (Or.inr ⟨_, rfl⟩) ?_
  refine g_bipush (v := nI 18) hC d_K_init_5 (by decide) ?_
  refine g_newa (atype := .int) (ty := .int) (n := 18) (k := 11 + 4 * s) (a0 := (18, .inl (fun _ => 0))) (V' := fun z => EQ (va_up ad0 (11 + 4 * s) z) (va_up w0 (11 + 4 * s) (some (.inl (.int, 18, .inl (fun _ => 0)))))) hC (List.mem_cons_of_mem _ m_41) rfl (fun cA => rfl) (fun ad w h => by rw [h.2]; simp [va_up, h0, h1, h2, h3]) (by decide) (by decide) (by decide) (by decide) (fun z ad w h => by obtain ⟨rfl, rfl⟩ := h; exact ⟨rfl, rfl⟩) d_K_init_7 (fun z1 => ?_)
  refine g_putF (ci := 0) (ty := .array .int) (fs := [.int 0, .null, .int 0, .int 0, .null, .int 0, .int 0, .null]) (V' := EQ (va_up ad0 (11 + 4 * s) z1) (va_up (va_up w0 (11 + 4 * s) (some (.inl (.int, 18, .inl (fun _ => 0))))) (10 + 4 * s) (some (.inr (0, [.int 0, .ref z1, .int 0, .int 0, .null, .int 0, .int 0, .null]))))) hC hnm (fun x h => List.mem_cons_of_mem _ (in_K x h)) ft_K tk_K n_K (10 + 4 * s) (fun ad w h => by obtain ⟨rfl, rfl⟩ := h; exact ⟨by simp [va_up], by simp [va_up, h0, h1, h2, h3]⟩) rfl 1 (by decide) (List.mem_cons_of_mem _ m_52) rfl rfl rfl (by decide +kernel) rfl rfl (Nat.le_of_ble_eq_true rfl) (fun ad w h => by obtain ⟨rfl, rfl⟩ := h; exact ⟨rfl, rfl⟩) d_K_init_9 ?_
  refine g_aload_n (i := 0) hC d_K_init_12 rfl rfl (Or.inr ⟨_, rfl⟩) ?_
  refine g_bipush (v := nI 18) hC d_K_init_13 (by decide) ?_
  refine g_newa (atype := .boolean) (ty := .boolean) (n := 18) (k := 12 + 4 * s) (a0 := (18, .inl (fun _ => 0))) (V' := fun z => EQ (va_up (va_up ad0 (11 + 4 * s) z1) (12 + 4 * s) z) (va_up (va_up (va_up w0 (11 + 4 * s) (some (.inl (.int, 18, .inl (fun _ => 0))))) (10 + 4 * s) (some (.inr (0, [.int 0, .ref z1, .int 0, .int 0, .null, .int 0, .int 0, .null])))) (12 + 4 * s) (some (.inl (.boolean, 18, .inl (fun _ => 0)))))) hC (List.mem_cons_of_mem _ m_83) rfl (fun cA => rfl) (fun ad w h => by rw [h.2]; simp [va_up, h0, h1, h2, h3]) (by decide) (by decide) (by decide) (by decide) (fun z ad w h => by obtain ⟨rfl, rfl⟩ := h; exact ⟨rfl, rfl⟩) d_K_init_15 (fun z2 => ?_)
  refine g_putF (ci := 0) (ty := .array .boolean) (fs := [.int 0, .ref z1, .int 0, .int 0, .null, .int 0, .int 0, .null]) (V' := EQ (va_up (va_up ad0 (11 + 4 * s) z1) (12 + 4 * s) z2) (va_up (va_up (va_up (va_up w0 (11 + 4 * s) (some (.inl (.int, 18, .inl (fun _ => 0))))) (10 + 4 * s) (some (.inr (0, [.int 0, .ref z1, .int 0, .int 0, .null, .int 0, .int 0, .null])))) (12 + 4 * s) (some (.inl (.boolean, 18, .inl (fun _ => 0))))) (10 + 4 * s) (some (.inr (0, [.int 0, .ref z1, .int 0, .int 0, .ref z2, .int 0, .int 0, .null]))))) hC hnm (fun x h => List.mem_cons_of_mem _ (in_K x h)) ft_K tk_K n_K (10 + 4 * s) (fun ad w h => by obtain ⟨rfl, rfl⟩ := h; exact ⟨by simp [va_up], by simp [va_up, h0, h1, h2, h3]⟩) rfl 4 (by decide) (List.mem_cons_of_mem _ m_58) rfl rfl rfl (by decide +kernel) rfl rfl (Nat.le_of_ble_eq_true rfl) (fun ad w h => by obtain ⟨rfl, rfl⟩ := h; exact ⟨rfl, rfl⟩) d_K_init_17 ?_
  refine g_aload_n (i := 0) hC d_K_init_20 rfl rfl (Or.inr ⟨_, rfl⟩) ?_
  refine g_bipush (v := nI 18) hC d_K_init_21 (by decide) ?_
  refine g_newa (atype := .int) (ty := .int) (n := 18) (k := 13 + 4 * s) (a0 := (18, .inl (fun j => if j < 18 then 0 else -1))) (V' := fun z => EQ (va_up (va_up (va_up ad0 (11 + 4 * s) z1) (12 + 4 * s) z2) (13 + 4 * s) z) (va_up (va_up (va_up (va_up (va_up w0 (11 + 4 * s) (some (.inl (.int, 18, .inl (fun _ => 0))))) (10 + 4 * s) (some (.inr (0, [.int 0, .ref z1, .int 0, .int 0, .null, .int 0, .int 0, .null])))) (12 + 4 * s) (some (.inl (.boolean, 18, .inl (fun _ => 0))))) (10 + 4 * s) (some (.inr (0, [.int 0, .ref z1, .int 0, .int 0, .ref z2, .int 0, .int 0, .null])))) (13 + 4 * s) (some (.inl (.int, 18, .inl (fun j => if j < 18 then 0 else -1)))))) hC (List.mem_cons_of_mem _ m_41) rfl (fun cA => by rw [vp_cell_i]; exact arrV_c (fun j hj => by first | rw [if_pos hj]; rfl | rw [if_pos hj])) (fun ad w h => by rw [h.2]; simp [va_up, h0, h1, h2, h3]) (by decide) (by decide) (by decide) (by decide) (fun z ad w h => by obtain ⟨rfl, rfl⟩ := h; exact ⟨rfl, rfl⟩) d_K_init_23 (fun z3 => ?_)
  refine g_putF (ci := 0) (ty := .array .int) (fs := [.int 0, .ref z1, .int 0, .int 0, .ref z2, .int 0, .int 0, .null]) (V' := EQ (va_up (va_up (va_up ad0 (11 + 4 * s) z1) (12 + 4 * s) z2) (13 + 4 * s) z3) (va_up (va_up (va_up (va_up (va_up (va_up w0 (11 + 4 * s) (some (.inl (.int, 18, .inl (fun _ => 0))))) (10 + 4 * s) (some (.inr (0, [.int 0, .ref z1, .int 0, .int 0, .null, .int 0, .int 0, .null])))) (12 + 4 * s) (some (.inl (.boolean, 18, .inl (fun _ => 0))))) (10 + 4 * s) (some (.inr (0, [.int 0, .ref z1, .int 0, .int 0, .ref z2, .int 0, .int 0, .null])))) (13 + 4 * s) (some (.inl (.int, 18, .inl (fun j => if j < 18 then 0 else -1))))) (10 + 4 * s) (some (.inr (0, [.int 0, .ref z1, .int 0, .int 0, .ref z2, .int 0, .int 0, .ref z3]))))) hC hnm (fun x h => List.mem_cons_of_mem _ (in_K x h)) ft_K tk_K n_K (10 + 4 * s) (fun ad w h => by obtain ⟨rfl, rfl⟩ := h; exact ⟨by simp [va_up], by simp [va_up, h0, h1, h2, h3]⟩) rfl 7 (by decide) (List.mem_cons_of_mem _ m_64) rfl rfl rfl (by decide +kernel) rfl rfl (Nat.le_of_ble_eq_true rfl) (fun ad w h => by obtain ⟨rfl, rfl⟩ := h; exact ⟨rfl, rfl⟩) d_K_init_25 ?_
  refine g_aload_n (i := 0) hC d_K_init_28 rfl rfl (Or.inr ⟨_, rfl⟩) ?_
  refine g_iload_n (i := 1) hC d_K_init_29 rfl rfl ?_
  refine g_putF (ci := 0) (ty := .int) (fs := [.int 0, .ref z1, .int 0, .int 0, .ref z2, .int 0, .int 0, .ref z3]) (V' := EQ (va_up (va_up (va_up ad0 (11 + 4 * s) z1) (12 + 4 * s) z2) (13 + 4 * s) z3) (va_up (va_up (va_up (va_up (va_up (va_up (va_up w0 (11 + 4 * s) (some (.inl (.int, 18, .inl (fun _ => 0))))) (10 + 4 * s) (some (.inr (0, [.int 0, .ref z1, .int 0, .int 0, .null, .int 0, .int 0, .null])))) (12 + 4 * s) (some (.inl (.boolean, 18, .inl (fun _ => 0))))) (10 + 4 * s) (some (.inr (0, [.int 0, .ref z1, .int 0, .int 0, .ref z2, .int 0, .int 0, .null])))) (13 + 4 * s) (some (.inl (.int, 18, .inl (fun j => if j < 18 then 0 else -1))))) (10 + 4 * s) (some (.inr (0, [.int 0, .ref z1, .int 0, .int 0, .ref z2, .int 0, .int 0, .ref z3])))) (10 + 4 * s) (some (.inr (0, [.int (nI s), .ref z1, .int 0, .int 0, .ref z2, .int 0, .int 0, .ref z3]))))) hC hnm (fun x h => List.mem_cons_of_mem _ (in_K x h)) ft_K tk_K n_K (10 + 4 * s) (fun ad w h => by obtain ⟨rfl, rfl⟩ := h; exact ⟨by simp [va_up], by simp [va_up, h0, h1, h2, h3]⟩) rfl 0 (by decide) (List.mem_cons_of_mem _ m_50) rfl rfl rfl (by decide +kernel) rfl rfl (Nat.le_of_ble_eq_true rfl) (fun ad w h => by obtain ⟨rfl, rfl⟩ := h; exact ⟨rfl, rfl⟩) d_K_init_30 ?_
  refine g_aload_n (i := 0) hC d_K_init_33 rfl rfl (Or.inr ⟨_, rfl⟩) ?_
  refine g_get (ci := 0) (fs := [.int (nI s), .ref z1, .int 0, .int 0, .ref z2, .int 0, .int 0, .ref z3]) hC (fun x h => List.mem_cons_of_mem _ (in_K x h)) (10 + 4 * s) (fun ad w h => by obtain ⟨rfl, rfl⟩ := h; exact ⟨by simp [va_up], by simp [va_up, h0, h1, h2, h3]⟩) rfl 7 (by decide) (List.mem_cons_of_mem _ m_64) rfl rfl d_K_init_34 ?_
  refine g_iconst (v := -1) hC d_K_init_37 (by decide) ?_
  obtain ⟨adN, hadN⟩ : ∃ a : Nat → Nat, a = (va_up (va_up (va_up ad0 (11 + 4 * s) z1) (12 + 4 * s) z2) (13 + 4 * s) z3) := ⟨_, rfl⟩
  obtain ⟨wN, hwN⟩ : ∃ a : gW, a = (va_up (va_up (va_up (va_up (va_up (va_up (va_up w0 (11 + 4 * s) (some (.inl (.int, 18, .inl (fun _ => 0))))) (10 + 4 * s) (some (.inr (0, [.int 0, .ref z1, .int 0, .int 0, .null, .int 0, .int 0, .null])))) (12 + 4 * s) (some (.inl (.boolean, 18, .inl (fun _ => 0))))) (10 + 4 * s) (some (.inr (0, [.int 0, .ref z1, .int 0, .int 0, .ref z2, .int 0, .int 0, .null])))) (13 + 4 * s) (some (.inl (.int, 18, .inl (fun j => if j < 18 then 0 else -1))))) (10 + 4 * s) (some (.inr (0, [.int 0, .ref z1, .int 0, .int 0, .ref z2, .int 0, .int 0, .ref z3])))) (10 + 4 * s) (some (.inr (0, [.int (nI s), .ref z1, .int 0, .int 0, .ref z2, .int 0, .int 0, .ref z3])))) := ⟨_, rfl⟩
  rw [← hadN, ← hwN]
  refine g_st (show [Value.int (-1), .ref z3] = [.int (-1), .ref (adN (13 + 4 * s))] by rw [hadN]; simp [va_up]) ?_
  refine g_callv hC (g_runS (As := [_, _]) (st := []) hC g_NOK_N (a_fill l D adN wN (13 + 4 * s) 18 (fun j => if j < 18 then 0 else -1) (-1) (by decide) (by rw [hwN]; simp [va_up])) (t_cwS 2 hC.1.2.2.2.2 m_49 m_29 m_4 k_A_fill rfl rfl hd_A_fill ⟨by decide, by decide⟩) rfl rfl (Nat.le_of_ble_eq_true rfl) d_K_init_38 ⟨by decide, by decide⟩) ?_
  refine g_vret hC hr hlk d_K_init_41 (by decide) (by decide) (fun ad w hw => ?_)
  obtain ⟨rfl, rfl⟩ := hw
  subst hadN
  subst hwN
  refine ⟨fun q a b c => by simp [va_up, a, b, c], fun q a b c d => by simp [va_up, a, b, c, d], ?_, ?_, ?_, ?_⟩
  · simp [va_up, cw_cp, Z0]
    rfl
  · rw [z_row]
    simp [va_up]
  · rw [z_arr]
    simp [va_up]
  · rw [z_plc]
    simp [va_up]
def HI (S : Nat) (ad0 : Nat → Nat) (w0 : gW) : (Nat → Nat) → gW → Prop := fun ad w => (∀ q, q ≠ 2 → q ≠ 3 → ad q = ad0 q) ∧ (∀ q, q ≠ 1 → q ≠ 2 → q ≠ 3 → w q = w0 q) ∧ w 1 = some (.inr (1, [.int (nI S), .ref (ad 2), .ref (ad 3)])) ∧ w 2 = some (cw_made ad Z0 S) ∧ w 3 = some (cw_kn Z0 S)
set_option maxRecDepth 100000 in
set_option maxHeartbeats 4000000 in
theorem h_init (l : Launch) (D : va_G) (ad0 : Nat → Nat) (w0 : gW) (S : Nat) (hSS : S = 2 ∨ S = 3) (h0 : w0 1 = some (.inr (1, [.int 0, .null, .null]))) (h1 : w0 2 = none) (h2 : w0 3 = none) : g_M l y_H_init w_H_init (rkc 1 2 1554) D gCl g_N [.ref (ad0 1), .int (nI S)] (EQ ad0 w0) 2 1554 (fun A => g_Qv D gCl A (fun ad w => HI S ad0 w0 ad w)) := by
  refine g_of (cc := c_H_init) (nL := 2) (ret := none) (by decide) rfl (Nat.le_of_ble_eq_true rfl) ?_
  intro pp ee ss mm bb me cc A hC hr hlk hnm
  refine g_los [0, 1] (lo' := [(0, .ref (ad0 1)), (1, .int (nI S))]) rfl ?_
  refine g_aload_n (i := 0) hC d_H_init_0 rfl rfl (Or.inr ⟨_, rfl⟩) ?_
  refine g_objInit hC (List.mem_cons_of_mem _ m_22) (List.mem_cons_of_mem _ m_15) (List.mem_cons_of_mem _ m_16) (by decide) (Nat.le_of_ble_eq_true rfl) d_H_init_1 ?_
  refine g_aload_n (i := 0) hC d_H_init_4 rfl rfl (Or.inr ⟨_, rfl⟩) ?_
  refine g_iload_n (i := 1) hC d_H_init_5 rfl rfl ?_
  refine g_putF (ci := 1) (ty := .int) (fs := [.int 0, .null, .null]) (V' := EQ ad0 (va_up w0 (1) (some (.inr (1, [.int (nI S), .null, .null]))))) hC hnm (fun x h => List.mem_cons_of_mem _ (in_H x h)) ft_H tk_H n_H (1) (fun ad w h => by obtain ⟨rfl, rfl⟩ := h; exact ⟨by simp [va_up], by simp [va_up, h0, h1, h2]⟩) rfl 0 (by decide) (List.mem_cons_of_mem _ m_31) rfl rfl rfl (by decide +kernel) rfl rfl (Nat.le_of_ble_eq_true rfl) (fun ad w h => by obtain ⟨rfl, rfl⟩ := h; exact ⟨rfl, rfl⟩) d_H_init_6 ?_
  refine g_aload_n (i := 0) hC d_H_init_9 rfl rfl (Or.inr ⟨_, rfl⟩) ?_
  refine g_iload_n (i := 1) hC d_H_init_10 rfl rfl ?_
  refine g_bipush (v := nI 6) hC d_H_init_11 (by decide) ?_
  refine g_imulN hC d_H_init_13 ?_
  refine g_eqi (show nI (S * 6) = nI (6 * S) by rw [Nat.mul_comm]) ?_
  refine g_newq (C := "TombstoneSites$Operation") (n := 6 * S) (k := 2) (V' := fun z => EQ (va_up ad0 2 z) (va_up (va_up w0 (1) (some (.inr (1, [.int (nI S), .null, .null])))) 2 (some (.inl (.object "TombstoneSites$Operation", 6 * S, .inr (.inr (.inr (.inr (fun _ => none))))))))) hC (List.mem_cons_of_mem _ m_23) hC.2.2.1.2.1 (fun ad w h => by rw [h.2]; simp [va_up, h0, h1, h2]) (by omega) (by omega) (by decide) (by rcases hSS with rfl | rfl <;> decide) (fun z ad w h => by obtain ⟨rfl, rfl⟩ := h; exact ⟨rfl, rfl⟩) d_H_init_14 (fun z1 => ?_)
  refine g_putF (ci := 1) (ty := .array (.object "TombstoneSites$Operation")) (fs := [.int (nI S), .null, .null]) (V' := EQ (va_up ad0 2 z1) (va_up (va_up (va_up w0 (1) (some (.inr (1, [.int (nI S), .null, .null])))) 2 (some (.inl (.object "TombstoneSites$Operation", 6 * S, .inr (.inr (.inr (.inr (fun _ => none)))))))) (1) (some (.inr (1, [.int (nI S), .ref z1, .null]))))) hC hnm (fun x h => List.mem_cons_of_mem _ (in_H x h)) ft_H tk_H n_H (1) (fun ad w h => by obtain ⟨rfl, rfl⟩ := h; exact ⟨by simp [va_up], by simp [va_up, h0, h1, h2]⟩) rfl 1 (by decide) (List.mem_cons_of_mem _ m_32) rfl rfl rfl (by decide +kernel) rfl rfl (Nat.le_of_ble_eq_true rfl) (fun ad w h => by obtain ⟨rfl, rfl⟩ := h; exact ⟨rfl, rfl⟩) d_H_init_17 ?_
  refine g_aload_n (i := 0) hC d_H_init_20 rfl rfl (Or.inr ⟨_, rfl⟩) ?_
  refine g_iload_n (i := 1) hC d_H_init_21 rfl rfl ?_
  refine g_iload_n (i := 1) hC d_H_init_22 rfl rfl ?_
  refine g_calli hC (g_runS (As := [_]) (st := [_, _]) hC g_NOK_N (v_many l D (EQ (va_up ad0 2 z1) (va_up (va_up (va_up w0 (1) (some (.inr (1, [.int (nI S), .null, .null])))) 2 (some (.inl (.object "TombstoneSites$Operation", 6 * S, .inr (.inr (.inr (.inr (fun _ => none)))))))) (1) (some (.inr (1, [.int (nI S), .ref z1, .null]))))) S hSS) (t_cwS 1 hC.1.2.2.2.2 m_25 m_26 m_3 k_V_howMany rfl rfl hd_V_howMany ⟨by decide, by decide⟩) rfl rfl (Nat.le_of_ble_eq_true rfl) d_H_init_23 ⟨by decide, by rcases hSS with rfl | rfl <;> decide⟩) (fun r23 => ?_)
  refine g_and (fun e => ?_)
  subst e
  refine g_imulN hC d_H_init_26 ?_
  refine g_newa (atype := .int) (ty := .int) (n := S * p8 S) (k := 3) (a0 := (S * p8 S, .inl (fun j => if j < S * p8 S then 0 else -1))) (V' := fun z => EQ (va_up (va_up ad0 2 z1) (3) z) (va_up (va_up (va_up (va_up w0 (1) (some (.inr (1, [.int (nI S), .null, .null])))) 2 (some (.inl (.object "TombstoneSites$Operation", 6 * S, .inr (.inr (.inr (.inr (fun _ => none)))))))) (1) (some (.inr (1, [.int (nI S), .ref z1, .null])))) (3) (some (.inl (.int, S * p8 S, .inl (fun j => if j < S * p8 S then 0 else -1)))))) hC (List.mem_cons_of_mem _ m_41) rfl (fun cA => by rw [vp_cell_i]; exact arrV_c (fun j hj => by first | rw [if_pos hj]; rfl | rw [if_pos hj])) (fun ad w h => by rw [h.2]; simp [va_up, h0, h1, h2]) (by rcases hSS with rfl | rfl <;> decide) (by rcases hSS with rfl | rfl <;> decide) (by decide) (by rcases hSS with rfl | rfl <;> decide) (fun z ad w h => by obtain ⟨rfl, rfl⟩ := h; exact ⟨rfl, rfl⟩) d_H_init_27 (fun z2 => ?_)
  refine g_putF (ci := 1) (ty := .array .int) (fs := [.int (nI S), .ref z1, .null]) (V' := EQ (va_up (va_up ad0 2 z1) (3) z2) (va_up (va_up (va_up (va_up (va_up w0 (1) (some (.inr (1, [.int (nI S), .null, .null])))) 2 (some (.inl (.object "TombstoneSites$Operation", 6 * S, .inr (.inr (.inr (.inr (fun _ => none)))))))) (1) (some (.inr (1, [.int (nI S), .ref z1, .null])))) (3) (some (.inl (.int, S * p8 S, .inl (fun j => if j < S * p8 S then 0 else -1))))) (1) (some (.inr (1, [.int (nI S), .ref z1, .ref z2]))))) hC hnm (fun x h => List.mem_cons_of_mem _ (in_H x h)) ft_H tk_H n_H (1) (fun ad w h => by obtain ⟨rfl, rfl⟩ := h; exact ⟨by simp [va_up], by simp [va_up, h0, h1, h2]⟩) rfl 2 (by decide) (List.mem_cons_of_mem _ m_33) rfl rfl rfl (by decide +kernel) rfl rfl (Nat.le_of_ble_eq_true rfl) (fun ad w h => by obtain ⟨rfl, rfl⟩ := h; exact ⟨rfl, rfl⟩) d_H_init_29 ?_
  refine g_aload_n (i := 0) hC d_H_init_32 rfl rfl (Or.inr ⟨_, rfl⟩) ?_
  refine g_get (ci := 1) (fs := [.int (nI S), .ref z1, .ref z2]) hC (fun x h => List.mem_cons_of_mem _ (in_H x h)) (1) (fun ad w h => by obtain ⟨rfl, rfl⟩ := h; exact ⟨by simp [va_up], by simp [va_up, h0, h1, h2]⟩) rfl 2 (by decide) (List.mem_cons_of_mem _ m_33) rfl rfl d_H_init_33 ?_
  refine g_iconst (v := -1) hC d_H_init_36 (by decide) ?_
  obtain ⟨adN, hadN⟩ : ∃ a : Nat → Nat, a = (va_up (va_up ad0 2 z1) (3) z2) := ⟨_, rfl⟩
  obtain ⟨wN, hwN⟩ : ∃ a : gW, a = (va_up (va_up (va_up (va_up (va_up w0 (1) (some (.inr (1, [.int (nI S), .null, .null])))) 2 (some (.inl (.object "TombstoneSites$Operation", 6 * S, .inr (.inr (.inr (.inr (fun _ => none)))))))) (1) (some (.inr (1, [.int (nI S), .ref z1, .null])))) (3) (some (.inl (.int, S * p8 S, .inl (fun j => if j < S * p8 S then 0 else -1))))) (1) (some (.inr (1, [.int (nI S), .ref z1, .ref z2])))) := ⟨_, rfl⟩
  rw [← hadN, ← hwN]
  refine g_st (show [Value.int (-1), .ref z2] = [.int (-1), .ref (adN 3)] by rw [hadN]; simp [va_up]) ?_
  refine g_callv hC (g_runS (As := [_, _]) (st := []) hC g_NOK_N (a_fill l D adN wN 3 (S * p8 S) (fun j => if j < S * p8 S then 0 else -1) (-1) (kn_lt hSS) (by rw [hwN]; simp [va_up])) (t_cwS 2 hC.1.2.2.2.2 m_28 m_29 m_4 k_A_fill rfl rfl hd_A_fill ⟨by decide, by decide⟩) rfl rfl (Nat.le_of_ble_eq_true rfl) d_H_init_37 ⟨by decide, by rcases hSS with rfl | rfl <;> decide⟩) ?_
  refine g_vret hC hr hlk d_H_init_40 (by decide) (by rcases hSS with rfl | rfl <;> decide) (fun ad w hw => ?_)
  obtain ⟨rfl, rfl⟩ := hw
  subst hadN
  subst hwN
  refine ⟨fun q a b => by simp [va_up, a, b], fun q a b c => by simp [va_up, a, b, c], ?_, ?_, ?_⟩
  · simp [va_up]
  · rw [z_made]
    simp [va_up]
  · rw [z_kn]
    simp [va_up]
