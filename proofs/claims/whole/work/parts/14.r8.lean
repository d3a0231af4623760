theorem E12.ih {S : Nat} {σ σ' : rS} (h : E12 σ σ') (hI : IH S σ) : IH S σ' := by
  unfold IH
  rw [h.mk, h.cx, h.row, h 1 (by omega) (by omega), h 2 (by omega) (by omega), h 3 (by omega) (by omega), h 4 (by omega) (by omega), h 9 (by omega) (by omega)]
  exact hI
theorem E12.iw {σ σ' : rS} {s : Nat} (h : E12 σ σ') (hI : IW σ s) : IW σ' s := by
  unfold IW
  rw [h.mk, h.cx, h.row, h.vc, h 2 (by omega) (by omega), h 6 (by omega) (by omega), h 7 (by omega) (by omega), h 10 (by omega) (by omega), h 11 (by omega) (by omega)]
  exact hI
theorem E12.rdy {σ σ' : rS} {s o : Nat} (h : E12 σ σ') (hI : RDY σ s o) : RDY σ' s o := by
  unfold RDY
  rw [h.mk, h.cx, h.vc, h 6 (by omega) (by omega)]
  exact hI
theorem E12.wt {σ σ' : rS} (h : E12 σ σ') (s o : Nat) : WT σ' s o ↔ WT σ s o := by
  unfold WT
  rw [h.cx, h.vc, h 6 (by omega) (by omega), h 7 (by omega) (by omega)]
theorem E12.ex {σ σ' : rS} (h : E12 σ σ') (s o p : Nat) : E12 (exS σ s o p) (exS σ' s o p) := by
  intro k h1 h2
  funext j
  unfold exS
  rw [h 2 (by omega) (by omega), h 8 (by omega) (by omega), h 10 (by omega) (by omega), h 11 (by omega) (by omega), h 12 (by omega) (by omega), h k h1 h2]
theorem E12.inv {S : Nat} {σ σ' : rS} (h : E12 σ σ') (hI : INV S σ) : INV S σ' := ⟨h.ih hI.1, fun s hs => ⟨h.iw (hI.2 s hs).1, by rw [h.vc, h.mk]; exact (hI.2 s hs).2⟩⟩
theorem E12.symm {σ σ' : rS} (h : E12 σ σ') : E12 σ' σ := fun k h1 h2 => (h k h1 h2).symm
def RQ (σ : rS) (s o n : Nat) : Prop := σ 8 (3 * s + o / 6) = o % 6 ∧ ∀ t, t < n → t = o / 6 ∨ σ 5 (3 * o + t) ≤ σ 8 (3 * s + t)
theorem WT_iff {σ : rS} {s o : Nat} (ho : o < 18) : WT σ s o ↔ σ 6 (18 * s + o) ≠ 0 ∧ σ 7 (18 * s + o) = 0 ∧ RQ σ s o 3 := by
  unfold WT RQ
  rw [s_vc_lt (by omega)]
  constructor
  · rintro ⟨a, b, c, d⟩
    refine ⟨a, b, c, fun t ht => ?_⟩
    by_cases q : t = o / 6
    · exact Or.inl q
    · have := d t ht q
      rw [s_vc_lt ht, s_cx_lt ht] at this
      exact Or.inr this
  · rintro ⟨a, b, c, d⟩
    refine ⟨a, b, c, fun t ht q => ?_⟩
    rw [s_vc_lt ht, s_cx_lt ht]
    exact (d t ht).elim (fun z => absurd z q) id
theorem en_ge {a : Nat} (ha : a < 2 ^ 31) : 0 ≤ nI a - 1 ↔ a ≠ 0 := by
  constructor
  · intro h e
    subst e
    exact absurd h (by decide +kernel)
  · intro h
    rw [show a = (a - 1) + 1 by omega, nI_pred]
    exact nI_pos' (by omega)
/-- the lowest of those from i on that wait and are ready -/
def NXi (σ : rS) (s i : Nat) (r : Option Nat) : Prop := match r with
  | none => ∀ o, i ≤ o → o < 18 → ¬ WT σ s o
  | some o => i ≤ o ∧ o < 18 ∧ WT σ s o ∧ ∀ o', i ≤ o' → o' < o → ¬ WT σ s o'
def ovI (r : Option Nat) : Int32 := match r with
  | none => -1
  | some o => nI o
theorem NXi_0 {σ : rS} {s : Nat} {r : Option Nat} (h : NXi σ s 0 r) : NX σ s r := by
  cases r with
  | none => exact fun o ho => h o (Nat.zero_le _) ho
  | some o => exact ⟨h.2.1, h.2.2.1, fun o' ho' => h.2.2.2 o' (Nat.zero_le _) ho'⟩
theorem NXi_y {σ : rS} {s i : Nat} {r : Option Nat} (hi : i < 18) (hw : WT σ s i) : NXi σ s i (some i) := ⟨Nat.le_refl _, hi, hw, fun o' h1 h2 => by omega⟩
theorem NXi_n {σ : rS} {s i : Nat} {r : Option Nat} (h : NXi σ s (i + 1) r) (hw : ¬ WT σ s i) : NXi σ s i r := by
  cases r with
  | none =>
    intro o h1 h2
    rcases (show o = i ∨ i + 1 ≤ o by omega) with rfl | q
    · exact hw
    · exact h o q h2
  | some o =>
    obtain ⟨a, b, c, d⟩ := h
    refine ⟨by omega, b, c, fun o' h1 h2 => ?_⟩
    rcases (show o' = i ∨ i + 1 ≤ o' by omega) with rfl | q
    · exact hw
    · exact d o' q h2
set_option maxRecDepth 100000 in
set_option maxHeartbeats 4000000 in
theorem r_ready (l : Launch) (D : va_G) (S : Nat) (σ : rS) (ad0 : Nat → Nat) (w0 : gW) (site o : Nat) (hs : site < 3) (ho : o < 18) : g_M l y_M_ready w_M_ready (rk 0) D gCl g_N [.ref (ad0 200), .int (nI site), .int (nI o)] (RX S σ ad0 w0) 0 0 (fun A => g_Qi D gCl A (fun r ad w => r = nI (pb (RQ σ site o 3)) ∧ RX S σ ad0 w0 ad w)) := by
  refine g_of (cc := c_M_ready) (nL := 5) (ret := some .boolean) (by decide) rfl (Nat.le_of_ble_eq_true rfl) ?_
  intro pp ee ss mm bb me cc A hC hr hlk hnm
  refine g_los [0, 1, 2] (lo' := [(0, .ref (ad0 200)), (1, .int (nI site)), (2, .int (nI o))]) rfl ?_
  refine g_pure r_bl_of (fun hb => ?_)
  refine g_aload_n (i := 0) hC d_M_ready_0 rfl rfl (Or.inr ⟨_, rfl⟩) ?_
  refine g_get hC (fun x h => List.mem_cons_of_mem _ (in_M x h)) 200 r_this rfl 8 (by decide) (List.mem_cons_of_mem _ m_328) rfl rfl d_M_ready_1 ?_
  refine g_iconst (v := nI 3) hC d_M_ready_4 (by decide) ?_
  refine g_iload_n (i := 1) hC d_M_ready_5 rfl rfl ?_
  refine g_imulN hC d_M_ready_6 ?_
  refine g_iload_n (i := 2) hC d_M_ready_7 rfl rfl ?_
  refine g_bipush (v := nI 6) hC d_M_ready_8 (by decide) ?_
  refine g_idivN hC d_M_ready_10 (by omega) (by omega) (by omega) ?_
  refine g_iaddN hC d_M_ready_11 ?_
  refine r_ld 8 hC (by decide) (by decide) rfl (fun _ => rfl) (by simp only [r_ln]; omega) d_M_ready_12 ?_
  refine g_iload_n (i := 2) hC d_M_ready_13 rfl rfl ?_
  refine g_bipush (v := nI 6) hC d_M_ready_14 (by decide) ?_
  refine g_iremN hC d_M_ready_16 (by omega) (by omega) (by omega) ?_
  refine g_icmp_neN (tgt := 24) hC d_M_ready_17 (by decide) (by first | omega | exact r_lt hb _ _ | exact pb_le _) (by first | omega | exact r_lt hb _ _ | exact pb_le _) (fun h17 => ?_) (fun h17 => ?_)
  · refine g_iconst (v := nI 0) hC d_M_ready_24 (by decide) ?_
    refine g_istore_n (i := 3) (lo' := [(3, _), (0, _), (1, _), (2, _)]) hC d_M_ready_25 rfl (by decide) rfl ?_
    refine g_iconst (v := nI 0) hC d_M_ready_26 (by decide) ?_
    refine g_istore (i := 4) (lo' := [(4, _), (3, _), (0, _), (1, _), (2, _)]) hC d_M_ready_27 (by decide) rfl ?_
    refine g_los [2, 3, 4, 1, 0] (lo' := [(0, _), (1, _), (2, _), (3, _), (4, _)]) rfl ?_
    refine g_loop (ι := Nat × Nat) (pc0 := 29) (fun ⟨t, g⟩ => 3 - t) (fun ⟨t, g⟩ => t ≤ 3 ∧ g = pb (RQ σ site o t)) (fun ⟨t, g⟩ => RX S σ ad0 w0) (fun ⟨t, g⟩ => [(0, .ref (ad0 200)), (1, .int (nI site)), (2, .int (nI o)), (3, .int (nI g)), (4, .int (nI t))]) ?_ (0, 0) (⟨by omega, (pb_f (fun h9 => h17 h9.1)).symm⟩)
    rintro ⟨t, g⟩ hI ih
    try dsimp only at hI ih ⊢
    refine g_iload (i := 4) hC d_M_ready_29 rfl ?_
    refine g_iconst (v := nI 3) hC d_M_ready_31 (by decide) ?_
    refine g_icmp_geN (tgt := 85) hC d_M_ready_32 (by decide) (by first | omega | exact r_lt hb _ _ | exact pb_le _) (by first | omega | exact r_lt hb _ _ | exact pb_le _) (fun h32 => ?_) (fun h32 => ?_)
    · refine g_iload_n (i := 3) hC d_M_ready_85 rfl rfl ?_
      refine g_zret hC hr hlk (r_nar2 (by rw [hI.2]; exact pb_lt _)) d_M_ready_86 (by decide) (by decide) (fun ad w hw => ?_)
      have e : t = 3 := by omega
      subst e
      exact ⟨by rw [hI.2], hw⟩
    · refine g_iload_n (i := 3) hC d_M_ready_35 rfl rfl ?_
      refine g_if_eqN (tgt := 77) hC d_M_ready_36 (by decide) (by rw [hI.2]; exact pb_le _) (fun h36 => ?_) (fun h36 => ?_)
      · have g36 := pb_0 ((hI.2).symm.trans h36)
        refine g_iconst (v := nI 0) hC d_M_ready_77 (by decide) ?_
        refine g_istore_n (i := 3) (lo' := [(3, _), (0, _), (1, _), (2, _), (4, _)]) hC d_M_ready_78 rfl (by decide) rfl ?_
        refine g_iinc (i := 4) (k := 4) (lo' := [(4, _), (3, _), (0, _), (1, _), (2, _)]) hC d_M_ready_79 rfl (nI_inc _) (by decide) rfl ?_
        refine g_goto (tgt := 29) hC d_M_ready_82 (by decide) ?_
        refine g_los [2, 3, 4, 1, 0] rfl ?_
        exact ih (t + 1, 0) ⟨by omega, (pb_f (fun h9 => g36 ⟨h9.1, fun u hu => h9.2 u (Nat.lt_succ_of_lt hu)⟩)).symm⟩ (by first | omega | (dsimp only; omega))
      · have g36 := pb_1 (fun z => h36 ((hI.2).trans z))
        refine g_iload (i := 4) hC d_M_ready_39 rfl ?_
        refine g_iload_n (i := 2) hC d_M_ready_41 rfl rfl ?_
        refine g_bipush (v := nI 6) hC d_M_ready_42 (by decide) ?_
        refine g_idivN hC d_M_ready_44 (by omega) (by omega) (by omega) ?_
        refine g_icmp_eqN (tgt := 73) hC d_M_ready_45 (by decide) (by first | omega | exact r_lt hb _ _ | exact pb_le _) (by first | omega | exact r_lt hb _ _ | exact pb_le _) (fun h45 => ?_) (fun h45 => ?_)
        · refine g_iconst (v := nI 1) hC d_M_ready_73 (by decide) ?_
          refine g_goto (tgt := 78) hC d_M_ready_74 (by decide) ?_
          refine g_istore_n (i := 3) (lo' := [(3, _), (0, _), (1, _), (2, _), (4, _)]) hC d_M_ready_78 rfl (by decide) rfl ?_
          refine g_iinc (i := 4) (k := 4) (lo' := [(4, _), (3, _), (0, _), (1, _), (2, _)]) hC d_M_ready_79 rfl (nI_inc _) (by decide) rfl ?_
          refine g_goto (tgt := 29) hC d_M_ready_82 (by decide) ?_
          refine g_los [2, 3, 4, 1, 0] rfl ?_
          exact ih (t + 1, 1) ⟨by omega, (pb_t ⟨g36.1, lt_s g36.2 (Or.inl h45)⟩).symm⟩ (by first | omega | (dsimp only; omega))
        · refine g_aload_n (i := 0) hC d_M_ready_48 rfl rfl (Or.inr ⟨_, rfl⟩) ?_
          refine g_get hC (fun x h => List.mem_cons_of_mem _ (in_M x h)) 200 r_this rfl 8 (by decide) (List.mem_cons_of_mem _ m_328) rfl rfl d_M_ready_49 ?_
          refine g_iconst (v := nI 3) hC d_M_ready_52 (by decide) ?_
          refine g_iload_n (i := 1) hC d_M_ready_53 rfl rfl ?_
          refine g_imulN hC d_M_ready_54 ?_
          refine g_iload (i := 4) hC d_M_ready_55 rfl ?_
          refine g_iaddN hC d_M_ready_57 ?_
          refine r_ld 8 hC (by decide) (by decide) rfl (fun _ => rfl) (by simp only [r_ln]; omega) d_M_ready_58 ?_
          refine g_aload_n (i := 0) hC d_M_ready_59 rfl rfl (Or.inr ⟨_, rfl⟩) ?_
          refine g_get hC (fun x h => List.mem_cons_of_mem _ (in_M x h)) 200 r_this rfl 5 (by decide) (List.mem_cons_of_mem _ m_325) rfl rfl d_M_ready_60 ?_
          refine g_iconst (v := nI 3) hC d_M_ready_63 (by decide) ?_
          refine g_iload_n (i := 2) hC d_M_ready_64 rfl rfl ?_
          refine g_imulN hC d_M_ready_65 ?_
          refine g_iload (i := 4) hC d_M_ready_66 rfl ?_
          refine g_iaddN hC d_M_ready_68 ?_
          refine r_ld 5 hC (by decide) (by decide) rfl (fun _ => rfl) (by simp only [r_ln]; omega) d_M_ready_69 ?_
          refine g_icmp_ltN (tgt := 77) hC d_M_ready_70 (by decide) (by first | omega | exact r_lt hb _ _ | exact pb_le _) (by first | omega | exact r_lt hb _ _ | exact pb_le _) (fun h70 => ?_) (fun h70 => ?_)
          · refine g_iconst (v := nI 0) hC d_M_ready_77 (by decide) ?_
            refine g_istore_n (i := 3) (lo' := [(3, _), (0, _), (1, _), (2, _), (4, _)]) hC d_M_ready_78 rfl (by decide) rfl ?_
            refine g_iinc (i := 4) (k := 4) (lo' := [(4, _), (3, _), (0, _), (1, _), (2, _)]) hC d_M_ready_79 rfl (nI_inc _) (by decide) rfl ?_
            refine g_goto (tgt := 29) hC d_M_ready_82 (by decide) ?_
            refine g_los [2, 3, 4, 1, 0] rfl ?_
            exact ih (t + 1, 0) ⟨by omega, (pb_f (fun h9 => (h9.2 t (Nat.lt_succ_self t)).elim h45 (fun q => absurd q (Nat.not_le.mpr h70)))).symm⟩ (by first | omega | (dsimp only; omega))
          · refine g_iconst (v := nI 1) hC d_M_ready_73 (by decide) ?_
            refine g_goto (tgt := 78) hC d_M_ready_74 (by decide) ?_
            refine g_istore_n (i := 3) (lo' := [(3, _), (0, _), (1, _), (2, _), (4, _)]) hC d_M_ready_78 rfl (by decide) rfl ?_
            refine g_iinc (i := 4) (k := 4) (lo' := [(4, _), (3, _), (0, _), (1, _), (2, _)]) hC d_M_ready_79 rfl (nI_inc _) (by decide) rfl ?_
            refine g_goto (tgt := 29) hC d_M_ready_82 (by decide) ?_
            refine g_los [2, 3, 4, 1, 0] rfl ?_
            exact ih (t + 1, 1) ⟨by omega, (pb_t ⟨g36.1, lt_s g36.2 (Or.inr h70)⟩).symm⟩ (by first | omega | (dsimp only; omega))
  · refine g_iconst (v := nI 1) hC d_M_ready_20 (by decide) ?_
    refine g_goto (tgt := 25) hC d_M_ready_21 (by decide) ?_
    refine g_istore_n (i := 3) (lo' := [(3, _), (0, _), (1, _), (2, _)]) hC d_M_ready_25 rfl (by decide) rfl ?_
    refine g_iconst (v := nI 0) hC d_M_ready_26 (by decide) ?_
    refine g_istore (i := 4) (lo' := [(4, _), (3, _), (0, _), (1, _), (2, _)]) hC d_M_ready_27 (by decide) rfl ?_
    refine g_los [2, 3, 4, 1, 0] (lo' := [(0, _), (1, _), (2, _), (3, _), (4, _)]) rfl ?_
    refine g_loop (ι := Nat × Nat) (pc0 := 29) (fun ⟨t, g⟩ => 3 - t) (fun ⟨t, g⟩ => t ≤ 3 ∧ g = pb (RQ σ site o t)) (fun ⟨t, g⟩ => RX S σ ad0 w0) (fun ⟨t, g⟩ => [(0, .ref (ad0 200)), (1, .int (nI site)), (2, .int (nI o)), (3, .int (nI g)), (4, .int (nI t))]) ?_ (0, 1) (⟨by omega, (pb_t ⟨h17, fun u hu => absurd hu (Nat.not_lt_zero u)⟩).symm⟩)
    rintro ⟨t, g⟩ hI ih
    try dsimp only at hI ih ⊢
    refine g_iload (i := 4) hC d_M_ready_29 rfl ?_
    refine g_iconst (v := nI 3) hC d_M_ready_31 (by decide) ?_
    refine g_icmp_geN (tgt := 85) hC d_M_ready_32 (by decide) (by first | omega | exact r_lt hb _ _ | exact pb_le _) (by first | omega | exact r_lt hb _ _ | exact pb_le _) (fun h32 => ?_) (fun h32 => ?_)
    · refine g_iload_n (i := 3) hC d_M_ready_85 rfl rfl ?_
      refine g_zret hC hr hlk (r_nar2 (by rw [hI.2]; exact pb_lt _)) d_M_ready_86 (by decide) (by decide) (fun ad w hw => ?_)
      have e : t = 3 := by omega
      subst e
      exact ⟨by rw [hI.2], hw⟩
    · refine g_iload_n (i := 3) hC d_M_ready_35 rfl rfl ?_
      refine g_if_eqN (tgt := 77) hC d_M_ready_36 (by decide) (by rw [hI.2]; exact pb_le _) (fun h36 => ?_) (fun h36 => ?_)
      · have g36 := pb_0 ((hI.2).symm.trans h36)
        refine g_iconst (v := nI 0) hC d_M_ready_77 (by decide) ?_
        refine g_istore_n (i := 3) (lo' := [(3, _), (0, _), (1, _), (2, _), (4, _)]) hC d_M_ready_78 rfl (by decide) rfl ?_
        refine g_iinc (i := 4) (k := 4) (lo' := [(4, _), (3, _), (0, _), (1, _), (2, _)]) hC d_M_ready_79 rfl (nI_inc _) (by decide) rfl ?_
        refine g_goto (tgt := 29) hC d_M_ready_82 (by decide) ?_
        refine g_los [2, 3, 4, 1, 0] rfl ?_
        exact ih (t + 1, 0) ⟨by omega, (pb_f (fun h9 => g36 ⟨h9.1, fun u hu => h9.2 u (Nat.lt_succ_of_lt hu)⟩)).symm⟩ (by first | omega | (dsimp only; omega))
      · have g36 := pb_1 (fun z => h36 ((hI.2).trans z))
        refine g_iload (i := 4) hC d_M_ready_39 rfl ?_
        refine g_iload_n (i := 2) hC d_M_ready_41 rfl rfl ?_
        refine g_bipush (v := nI 6) hC d_M_ready_42 (by decide) ?_
        refine g_idivN hC d_M_ready_44 (by omega) (by omega) (by omega) ?_
        refine g_icmp_eqN (tgt := 73) hC d_M_ready_45 (by decide) (by first | omega | exact r_lt hb _ _ | exact pb_le _) (by first | omega | exact r_lt hb _ _ | exact pb_le _) (fun h45 => ?_) (fun h45 => ?_)
        · refine g_iconst (v := nI 1) hC d_M_ready_73 (by decide) ?_
          refine g_goto (tgt := 78) hC d_M_ready_74 (by decide) ?_
          refine g_istore_n (i := 3) (lo' := [(3, _), (0, _), (1, _), (2, _), (4, _)]) hC d_M_ready_78 rfl (by decide) rfl ?_
          refine g_iinc (i := 4) (k := 4) (lo' := [(4, _), (3, _), (0, _), (1, _), (2, _)]) hC d_M_ready_79 rfl (nI_inc _) (by decide) rfl ?_
          refine g_goto (tgt := 29) hC d_M_ready_82 (by decide) ?_
          refine g_los [2, 3, 4, 1, 0] rfl ?_
          exact ih (t + 1, 1) ⟨by omega, (pb_t ⟨g36.1, lt_s g36.2 (Or.inl h45)⟩).symm⟩ (by first | omega | (dsimp only; omega))
        · refine g_aload_n (i := 0) hC d_M_ready_48 rfl rfl (Or.inr ⟨_, rfl⟩) ?_
          refine g_get hC (fun x h => List.mem_cons_of_mem _ (in_M x h)) 200 r_this rfl 8 (by decide) (List.mem_cons_of_mem _ m_328) rfl rfl d_M_ready_49 ?_
          refine g_iconst (v := nI 3) hC d_M_ready_52 (by decide) ?_
          refine g_iload_n (i := 1) hC d_M_ready_53 rfl rfl ?_
          refine g_imulN hC d_M_ready_54 ?_
          refine g_iload (i := 4) hC d_M_ready_55 rfl ?_
          refine g_iaddN hC d_M_ready_57 ?_
          refine r_ld 8 hC (by decide) (by decide) rfl (fun _ => rfl) (by simp only [r_ln]; omega) d_M_ready_58 ?_
          refine g_aload_n (i := 0) hC d_M_ready_59 rfl rfl (Or.inr ⟨_, rfl⟩) ?_
          refine g_get hC (fun x h => List.mem_cons_of_mem _ (in_M x h)) 200 r_this rfl 5 (by decide) (List.mem_cons_of_mem _ m_325) rfl rfl d_M_ready_60 ?_
          refine g_iconst (v := nI 3) hC d_M_ready_63 (by decide) ?_
          refine g_iload_n (i := 2) hC d_M_ready_64 rfl rfl ?_
          refine g_imulN hC d_M_ready_65 ?_
          refine g_iload (i := 4) hC d_M_ready_66 rfl ?_
          refine g_iaddN hC d_M_ready_68 ?_
          refine r_ld 5 hC (by decide) (by decide) rfl (fun _ => rfl) (by simp only [r_ln]; omega) d_M_ready_69 ?_
          refine g_icmp_ltN (tgt := 77) hC d_M_ready_70 (by decide) (by first | omega | exact r_lt hb _ _ | exact pb_le _) (by first | omega | exact r_lt hb _ _ | exact pb_le _) (fun h70 => ?_) (fun h70 => ?_)
          · refine g_iconst (v := nI 0) hC d_M_ready_77 (by decide) ?_
            refine g_istore_n (i := 3) (lo' := [(3, _), (0, _), (1, _), (2, _), (4, _)]) hC d_M_ready_78 rfl (by decide) rfl ?_
            refine g_iinc (i := 4) (k := 4) (lo' := [(4, _), (3, _), (0, _), (1, _), (2, _)]) hC d_M_ready_79 rfl (nI_inc _) (by decide) rfl ?_
            refine g_goto (tgt := 29) hC d_M_ready_82 (by decide) ?_
            refine g_los [2, 3, 4, 1, 0] rfl ?_
            exact ih (t + 1, 0) ⟨by omega, (pb_f (fun h9 => (h9.2 t (Nat.lt_succ_self t)).elim h45 (fun q => absurd q (Nat.not_le.mpr h70)))).symm⟩ (by first | omega | (dsimp only; omega))
          · refine g_iconst (v := nI 1) hC d_M_ready_73 (by decide) ?_
            refine g_goto (tgt := 78) hC d_M_ready_74 (by decide) ?_
            refine g_istore_n (i := 3) (lo' := [(3, _), (0, _), (1, _), (2, _), (4, _)]) hC d_M_ready_78 rfl (by decide) rfl ?_
            refine g_iinc (i := 4) (k := 4) (lo' := [(4, _), (3, _), (0, _), (1, _), (2, _)]) hC d_M_ready_79 rfl (nI_inc _) (by decide) rfl ?_
            refine g_goto (tgt := 29) hC d_M_ready_82 (by decide) ?_
            refine g_los [2, 3, 4, 1, 0] rfl ?_
            exact ih (t + 1, 1) ⟨by omega, (pb_t ⟨g36.1, lt_s g36.2 (Or.inr h70)⟩).symm⟩ (by first | omega | (dsimp only; omega))
set_option maxRecDepth 100000 in
set_option maxHeartbeats 4000000 in
theorem r_work (l : Launch) (D : va_G) (S : Nat) (σ : rS) (ad0 : Nat → Nat) (w0 : gW) (site : Nat) (hS3 : S ≤ 3) (hsS : site < S) (hInv : INV S σ) : g_M l y_M_work w_M_work (rk 5) D gCl g_N [.ref (ad0 200), .int (nI site)] (RX S σ ad0 w0) 0 0 (fun A => g_Qi D gCl A (fun r ad w => ∃ (n : Nat) (σs σ' : rS), ((WK site n σ σs ∧ INV S σs) ∧ E12 σs σ' ∧ r = nI n ∧ n ≤ 18) ∧ RX S σ' ad0 w0 ad w)) := by
  refine g_of (cc := c_M_work) (nL := 7) (ret := some .int) (by decide) rfl (Nat.le_of_ble_eq_true rfl) ?_
  intro pp ee ss mm bb me cc A hC hr hlk hnm
  refine g_los [0, 1] (lo' := [(0, .ref (ad0 200)), (1, .int (nI site))]) rfl ?_
  refine g_pure r_bl_of (fun hb => ?_)
  refine g_iconst (v := nI 0) hC d_M_work_0 (by decide) ?_
  refine g_istore_n (i := 2) (lo' := [(2, _), (0, _), (1, _)]) hC d_M_work_1 rfl (by decide) rfl ?_
  refine g_iconst (v := nI 1) hC d_M_work_2 (by decide) ?_
  refine g_istore_n (i := 3) (lo' := [(3, _), (2, _), (0, _), (1, _)]) hC d_M_work_3 rfl (by decide) rfl ?_
  refine g_los [2, 3, 1, 0] (lo' := [(0, _), (1, _), (2, _), (3, _)]) rfl ?_
  refine g_loop (ι := (Nat × Nat) × rS × rS) (pc0 := 4) (fun ⟨⟨n, m⟩, τs, τ⟩ => 2 * s_left τs site + m) (fun ⟨⟨n, m⟩, τs, τ⟩ => m < 2 ∧ INV S τs ∧ E12 τs τ ∧ (∀ n' σ'', WK site n' τs σ'' → WK site (n + n') σ σ'') ∧ (m = 0 → NX τs site none) ∧ n + s_left τs site ≤ 18) (fun ⟨⟨n, m⟩, τs, τ⟩ => RX S τ ad0 w0) (fun ⟨⟨n, m⟩, τs, τ⟩ => [(0, .ref (ad0 200)), (1, .int (nI site)), (2, .int (nI n)), (3, .int (nI m))]) ?_ ((0, 1), σ, σ) (⟨by first | omega | (dsimp only; omega), hInv, E12.refl σ, fun n' σ'' h => by rw [Nat.zero_add]; exact h, fun q => absurd q (by first | omega | (dsimp only; omega)), by have := s_left_18 σ site; omega⟩)
  rintro ⟨⟨n, m⟩, τs, τ⟩ hI ih
  try dsimp only at hI ih ⊢
  refine g_pure r_bl_of (fun hb => ?_)
  refine g_iload_n (i := 3) hC d_M_work_4 rfl rfl ?_
  refine g_if_eqN (tgt := 115) hC d_M_work_5 (by decide) (by omega) (fun h5 => ?_) (fun h5 => ?_)
  · refine g_iload_n (i := 2) hC d_M_work_115 rfl rfl ?_
    refine g_iret hC hr hlk d_M_work_116 (by decide) (by decide) (fun ad w hw => ?_)
    exact ⟨n, τs, τ, ⟨⟨hI.2.2.2.1 0 τs ⟨rfl, hI.2.2.2.2.1 h5⟩, hI.2.1⟩, hI.2.2.1, rfl, by omega⟩, hw⟩
  · refine g_iconst (v := -1) hC d_M_work_8 (by decide) ?_
    refine g_istore (i := 4) (lo' := [(4, _), (0, _), (1, _), (2, _), (3, _)]) hC d_M_work_9 (by decide) rfl ?_
    refine g_bipush (v := nI 18 - 1) hC d_M_work_11 (by decide +kernel) ?_
    refine g_istore (i := 5) (lo' := [(5, _), (4, _), (0, _), (1, _), (2, _), (3, _)]) hC d_M_work_13 (by decide) rfl ?_
    refine g_los [2, 3, 4, 5, 1, 0] (lo' := [(0, _), (1, _), (2, _), (3, _), (4, _), (5, _)]) rfl ?_
    refine g_loop (ι := Nat × Option Nat) (pc0 := 15) (fun ⟨i, r⟩ => i) (fun ⟨i, r⟩ => i ≤ 18 ∧ NXi τ site i r) (fun _ => RX S τ ad0 w0) (fun ⟨i, r⟩ => [(0, .ref (ad0 200)), (1, .int (nI site)), (2, .int (nI n)), (3, .int (nI m)), (4, .int (ovI r)), (5, .int (nI i - 1))]) ?_ (18, none) ⟨Nat.le_refl _, fun o h1 h2 => by omega⟩
    rintro ⟨i, r⟩ hJ ih2
    try dsimp only at hJ ih2 ⊢
    rcases i with _ | t
    · refine g_iload (i := 5) hC d_M_work_15 rfl ?_
      refine g_if_lt (tgt := 87) hC d_M_work_17 (by decide) (fun h17 => ?_) (fun h17 => ?_)
      · rcases r with _ | o
        · have hnx : NX τs site none := fun o ho q => NXi_0 hJ.2 o ho ((hI.2.2.1.wt site o).mpr q)
          refine g_iload (i := 4) hC d_M_work_87 rfl ?_
          refine g_if_lt (tgt := 96) hC d_M_work_89 (by decide) (fun h89 => ?_) (fun h89 => ?_)
          · refine g_iconst (v := nI 0) hC d_M_work_96 (by decide) ?_
            refine g_istore_n (i := 3) (lo' := [(3, _), (0, _), (1, _), (2, _), (4, _), (5, _)]) hC d_M_work_97 rfl (by decide) rfl ?_
            refine g_iload_n (i := 3) hC d_M_work_98 rfl rfl ?_
            refine g_if_eqN (tgt := 112) hC d_M_work_99 (by decide) (by decide) (fun h99 => ?_) (fun h99 => ?_)
            · refine g_goto (tgt := 4) hC d_M_work_112 (by decide) ?_
              refine g_los [1, 2, 3, 0] rfl ?_
              exact ih ((n, 0), τs, τ) ⟨by first | omega | (dsimp only; omega), hI.2.1, hI.2.2.1, hI.2.2.2.1, fun _ => hnx, hI.2.2.2.2.2⟩ (by first | omega | (dsimp only; omega))
            · exact absurd rfl h99
          · exact absurd (by decide +kernel) h89
        · have hnx0 := NXi_0 hJ.2
          have hnx : NX τs site (some o) := ⟨hnx0.1, (hI.2.2.1.wt site o).mp hnx0.2.1, fun o' h' q => hnx0.2.2 o' h' ((hI.2.2.1.wt site o').mpr q)⟩
          have ho := hnx.1
          have hrd := WT.rdy hI.2.1 hsS ho hnx.2.1
          have hlf := s_left_ex (p := s_pl τs o (s_vc τs site)) ho hnx.2.1.2.1
          refine g_iload (i := 4) hC d_M_work_87 rfl ?_
          refine g_if_ltN (tgt := 96) hC d_M_work_89 (by decide) (by first | omega | exact r_lt hb _ _ | exact pb_le _) ?_
          refine g_iconst (v := nI 1) hC d_M_work_92 (by decide) ?_
          refine g_goto (tgt := 97) hC d_M_work_93 (by decide) ?_
          refine g_istore_n (i := 3) (lo' := [(3, _), (0, _), (1, _), (2, _), (4, _), (5, _)]) hC d_M_work_97 rfl (by decide) rfl ?_
          refine g_iload_n (i := 3) hC d_M_work_98 rfl rfl ?_
          refine g_if_eqN (tgt := 112) hC d_M_work_99 (by decide) (by decide) (fun h99 => ?_) (fun h99 => ?_)
          · exact absurd h99 (by decide)
          · refine g_aload_n (i := 0) hC d_M_work_102 rfl rfl (Or.inr ⟨_, rfl⟩) ?_
            refine g_iload_n (i := 1) hC d_M_work_103 rfl rfl ?_
            refine g_iload (i := 4) hC d_M_work_104 rfl ?_
            refine g_callv hC (g_runV (q := 200) (As := [_, _]) (st := []) hC g_NOK_N (r_execute l D S τ ad0 w0 site o (by omega) (hI.2.2.1.ih hI.2.1.1) (hI.2.2.1.iw (hI.2.1.2 site hsS).1) (hI.2.2.1.rdy hrd.1)) (t_cwV 2 hC.1.2.2.2.2 m_390 m_392 ms_12 m_6 k_M_execute rfl rfl hd_M_execute ⟨by decide, by decide⟩) r_this rfl rfl rfl (Nat.le_of_ble_eq_true rfl) d_M_work_106 ⟨by decide, by decide⟩) ?_
            refine g_ex (fun τ' => g_and (fun e106 => ?_))
            have hEE : E12 (exS τs site o (s_pl τs o (s_vc τs site))) τ' := by
              rw [hI.2.2.1.pl, hI.2.2.1.vc] at e106
              exact (hI.2.2.1.ex site o _).trans e106
            refine g_iinc (i := 2) (k := 3) (lo' := [(2, _), (3, _), (0, _), (1, _), (4, _), (5, _)]) hC d_M_work_109 rfl (nI_inc _) (by decide) rfl ?_
            refine g_goto (tgt := 4) hC d_M_work_112 (by decide) ?_
            refine g_los [2, 3, 0, 1] rfl ?_
            exact ih ((n + 1, 1), exS τs site o (s_pl τs o (s_vc τs site)), τ') ⟨by first | omega | (dsimp only; omega), exS_INV hI.2.1 hsS hrd.1 hrd.2, hEE, fun n' σ'' h => (show n + 1 + n' = n + (n' + 1) by omega) ▸ hI.2.2.2.1 (n' + 1) σ'' ⟨o, hnx, h⟩, fun q => absurd q (by first | omega | (dsimp only; omega)), by first | omega | (dsimp only; omega)⟩ (by first | omega | (dsimp only; omega))
      · exact absurd nI_m1lt h17
    · rw [nI_pred]
      have ht : t < 18 := by omega
      refine g_iload (i := 5) hC d_M_work_15 rfl ?_
      refine g_if_ltN (tgt := 87) hC d_M_work_17 (by decide) (by first | omega | exact r_lt hb _ _ | exact pb_le _) ?_
      refine g_aload_n (i := 0) hC d_M_work_20 rfl rfl (Or.inr ⟨_, rfl⟩) ?_
      refine g_get hC (fun x h => List.mem_cons_of_mem _ (in_M x h)) 200 r_this rfl 6 (by decide) (List.mem_cons_of_mem _ m_326) rfl rfl d_M_work_21 ?_
      refine g_bipush (v := nI 18) hC d_M_work_24 (by decide) ?_
      refine g_iload_n (i := 1) hC d_M_work_26 rfl rfl ?_
      refine g_imulN hC d_M_work_27 ?_
      refine g_iload (i := 5) hC d_M_work_28 rfl ?_
      refine g_iaddN hC d_M_work_30 ?_
      refine r_zld 6 hC (by decide) (by decide) rfl (fun _ => rfl) (by simp only [r_ln]; omega) d_M_work_31 ?_
      refine g_if_eqN (tgt := 54) hC d_M_work_32 (by decide) (r_lt hb _ _) (fun h32 => ?_) (fun h32 => ?_)
      · refine g_iconst (v := nI 0) hC d_M_work_54 (by decide) ?_
        refine g_istore (i := 6) (lo' := [(6, _), (0, _), (1, _), (2, _), (3, _), (4, _), (5, _)]) hC d_M_work_55 (by decide) rfl ?_
        refine g_iload (i := 6) hC d_M_work_57 rfl ?_
        refine g_if_eqN (tgt := 77) hC d_M_work_59 (by decide) (by decide) (fun h59 => ?_) (fun h59 => ?_)
        · refine g_iload (i := 4) hC d_M_work_77 rfl ?_
          refine g_istore (i := 4) (lo' := [(4, _), (6, _), (0, _), (1, _), (2, _), (3, _), (5, _)]) hC d_M_work_79 (by decide) rfl ?_
          refine g_iinc (i := 5) (k := 6) (lo' := [(5, _), (4, _), (6, _), (0, _), (1, _), (2, _), (3, _)]) hC d_M_work_81 rfl (nI_dec1 _) (by decide) rfl ?_
          refine g_goto (tgt := 15) hC d_M_work_84 (by decide) ?_
          refine g_los [3, 4, 5, 6, 1, 0] rfl ?_
          exact ih2 (t, r) ⟨by omega, NXi_n hJ.2 (fun q => ((WT_iff ht).mp q).1 h32)⟩ (by first | omega | (dsimp only; omega))
        · exact absurd rfl h59
      · refine g_aload_n (i := 0) hC d_M_work_35 rfl rfl (Or.inr ⟨_, rfl⟩) ?_
        refine g_get hC (fun x h => List.mem_cons_of_mem _ (in_M x h)) 200 r_this rfl 7 (by decide) (List.mem_cons_of_mem _ m_327) rfl rfl d_M_work_36 ?_
        refine g_bipush (v := nI 18) hC d_M_work_39 (by decide) ?_
        refine g_iload_n (i := 1) hC d_M_work_41 rfl rfl ?_
        refine g_imulN hC d_M_work_42 ?_
        refine g_iload (i := 5) hC d_M_work_43 rfl ?_
        refine g_iaddN hC d_M_work_45 ?_
        refine r_lde 7 hC (by decide) (by decide) rfl (fun _ => rfl) (by simp only [r_ln]; omega) d_M_work_46 ?_
        refine g_if_ge (tgt := 54) hC d_M_work_47 (by decide) (fun h47 => ?_) (fun h47 => ?_)
        · refine g_iconst (v := nI 0) hC d_M_work_54 (by decide) ?_
          refine g_istore (i := 6) (lo' := [(6, _), (0, _), (1, _), (2, _), (3, _), (4, _), (5, _)]) hC d_M_work_55 (by decide) rfl ?_
          refine g_iload (i := 6) hC d_M_work_57 rfl ?_
          refine g_if_eqN (tgt := 77) hC d_M_work_59 (by decide) (by decide) (fun h59 => ?_) (fun h59 => ?_)
          · refine g_iload (i := 4) hC d_M_work_77 rfl ?_
            refine g_istore (i := 4) (lo' := [(4, _), (6, _), (0, _), (1, _), (2, _), (3, _), (5, _)]) hC d_M_work_79 (by decide) rfl ?_
            refine g_iinc (i := 5) (k := 6) (lo' := [(5, _), (4, _), (6, _), (0, _), (1, _), (2, _), (3, _)]) hC d_M_work_81 rfl (nI_dec1 _) (by decide) rfl ?_
            refine g_goto (tgt := 15) hC d_M_work_84 (by decide) ?_
            refine g_los [3, 4, 5, 6, 1, 0] rfl ?_
            exact ih2 (t, r) ⟨by omega, NXi_n hJ.2 (fun q => (en_ge (r_lt hb _ _)).mp h47 ((WT_iff ht).mp q).2.1)⟩ (by first | omega | (dsimp only; omega))
          · exact absurd rfl h59
        · refine g_iconst (v := nI 1) hC d_M_work_50 (by decide) ?_
          refine g_goto (tgt := 55) hC d_M_work_51 (by decide) ?_
          refine g_istore (i := 6) (lo' := [(6, _), (0, _), (1, _), (2, _), (3, _), (4, _), (5, _)]) hC d_M_work_55 (by decide) rfl ?_
          refine g_iload (i := 6) hC d_M_work_57 rfl ?_
          refine g_if_eqN (tgt := 77) hC d_M_work_59 (by decide) (by decide) (fun h59 => ?_) (fun h59 => ?_)
          · exact absurd h59 (by decide)
          · refine g_aload_n (i := 0) hC d_M_work_62 rfl rfl (Or.inr ⟨_, rfl⟩) ?_
            refine g_iload_n (i := 1) hC d_M_work_63 rfl rfl ?_
            refine g_iload (i := 5) hC d_M_work_64 rfl ?_
            refine g_calli hC (g_runV (q := 200) (As := [_, _]) (st := []) hC g_NOK_N (r_ready l D S τ ad0 w0 site t (by omega) ht) (t_cwV 2 hC.1.2.2.2.2 m_445 m_447 ms_23 m_6 k_M_ready rfl rfl hd_M_ready ⟨by decide, by decide⟩) r_this rfl rfl rfl (Nat.le_of_ble_eq_true rfl) d_M_work_66 ⟨by decide, by decide⟩) (fun r66 => ?_)
            refine g_and (fun e66 => ?_)
            subst e66
            refine g_if_eqN (tgt := 77) hC d_M_work_69 (by decide) (pb_le _) (fun h69 => ?_) (fun h69 => ?_)
            · have g69 := pb_0 h69
              refine g_iload (i := 4) hC d_M_work_77 rfl ?_
              refine g_istore (i := 4) (lo' := [(4, _), (6, _), (0, _), (1, _), (2, _), (3, _), (5, _)]) hC d_M_work_79 (by decide) rfl ?_
              refine g_iinc (i := 5) (k := 6) (lo' := [(5, _), (4, _), (6, _), (0, _), (1, _), (2, _), (3, _)]) hC d_M_work_81 rfl (nI_dec1 _) (by decide) rfl ?_
              refine g_goto (tgt := 15) hC d_M_work_84 (by decide) ?_
              refine g_los [3, 4, 5, 6, 1, 0] rfl ?_
              exact ih2 (t, r) ⟨by omega, NXi_n hJ.2 (fun q => g69 ((WT_iff ht).mp q).2.2)⟩ (by first | omega | (dsimp only; omega))
            · have g69 := pb_1 h69
              refine g_iload (i := 5) hC d_M_work_72 rfl ?_
              refine g_goto (tgt := 79) hC d_M_work_74 (by decide) ?_
              refine g_istore (i := 4) (lo' := [(4, _), (6, _), (0, _), (1, _), (2, _), (3, _), (5, _)]) hC d_M_work_79 (by decide) rfl ?_
              refine g_iinc (i := 5) (k := 6) (lo' := [(5, _), (4, _), (6, _), (0, _), (1, _), (2, _), (3, _)]) hC d_M_work_81 rfl (nI_dec1 _) (by decide) rfl ?_
              refine g_goto (tgt := 15) hC d_M_work_84 (by decide) ?_
              refine g_los [3, 4, 5, 6, 1, 0] rfl ?_
              exact ih2 (t, some t) ⟨by omega, NXi_y (r := r) ht ((WT_iff ht).mpr ⟨h32, Classical.byContradiction (fun z => h47 ((en_ge (r_lt hb _ _)).mpr z)), g69⟩)⟩ (by first | omega | (dsimp only; omega))
