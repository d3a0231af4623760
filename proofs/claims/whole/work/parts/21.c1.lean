section NUL
variable {p : Program} {l : Launch} {e : Env} {R : Room} {s : State} {m : MethodId} {args : Array Value} {below : List Frame} {meth : Method} {c : Code} {D : va_G} {cl : List vw_C} {N : State → Prop} {A : Nat → Prop} {nL : Nat} {Q : State → Prop} {cells slots : Nat} {V : (Nat → Nat) → gW → Prop} {pc : Nat} {lo : List (Nat × Value)} {st : List Value} {cc : ByteArray} {own : String} {Ts : List Cond}
theorem g_ifnullR (hC : g_C p s m args c D cl N A nL cc own Ts) {a : Nat} {off : Int} (hd : decode cc pc = .ok (.ifnull off, 3)) (k : G p l e R s m args below meth c D cl A nL Q cells slots V (pc + 3) lo (st)) : G p l e R s m args below meth c D cl A nL Q cells slots V (pc) lo (.ref a :: st) := fun ad w H locs ls hx0 hw hS hl => lv_ifnull hC.1.1 hC.1.2.1 hd (k ad w H locs ls hx0 hw hS hl)
theorem g_ifnonnullR (hC : g_C p s m args c D cl N A nL cc own Ts) {a : Nat} {off : Int} {tgt : Nat} (hd : decode cc pc = .ok (.ifnonnull off, 3)) (ht : (pc : Int) + off = (tgt : Int)) (k : G p l e R s m args below meth c D cl A nL Q cells slots V (tgt) lo (st)) : G p l e R s m args below meth c D cl A nL Q cells slots V (pc) lo (.ref a :: st) := fun ad w H locs ls hx0 hw hS hl => lv_ifnonnull hC.1.1 hC.1.2.1 hd ht (k ad w H locs ls hx0 hw hS hl)
theorem g_ifnullZ (hC : g_C p s m args c D cl N A nL cc own Ts) {off : Int} {tgt : Nat} (hd : decode cc pc = .ok (.ifnull off, 3)) (ht : (pc : Int) + off = (tgt : Int)) (k : G p l e R s m args below meth c D cl A nL Q cells slots V (tgt) lo (st)) : G p l e R s m args below meth c D cl A nL Q cells slots V (pc) lo (.null :: st) := fun ad w H locs ls hx0 hw hS hl => lv_ifnullN hC.1.1 hC.1.2.1 hd ht (k ad w H locs ls hx0 hw hS hl)
theorem g_ifnonnullZ (hC : g_C p s m args c D cl N A nL cc own Ts) {off : Int} (hd : decode cc pc = .ok (.ifnonnull off, 3)) (k : G p l e R s m args below meth c D cl A nL Q cells slots V (pc + 3) lo (st)) : G p l e R s m args below meth c D cl A nL Q cells slots V (pc) lo (.null :: st) := fun ad w H locs ls hx0 hw hS hl => lv_ifnonnullN hC.1.1 hC.1.2.1 hd (k ad w H locs ls hx0 hw hS hl)
end NUL
theorem shr3 {a t : Nat} (ha : a < 2 ^ 31) (ht : t < 3) : nI a >>> (nI (3 * t) &&& 31) = nI (a / 8 ^ t) := by
  rcases (show t = 0 ∨ t = 1 ∨ t = 2 by omega) with rfl | rfl | rfl
  · exact pk_shrN ha _ 0 (by decide +kernel)
  · exact pk_shrN ha _ 3 (by decide +kernel)
  · exact pk_shrN ha _ 6 (by decide +kernel)
theorem and7 {a : Nat} (ha : a < 2 ^ 31) : nI a &&& nI 7 = nI (a % 8) := pk_andN (by omega) 3 (by decide +kernel)
theorem shl3 {t : Nat} (ht : t < 3) : nI 1 <<< (nI (3 * t) &&& 31) = nI (8 ^ t) := by
  rcases (show t = 0 ∨ t = 1 ∨ t = 2 by omega) with rfl | rfl | rfl <;> decide +kernel
theorem evv_dig {v : Nat → Nat} {t : Nat} (h : ∀ t, v t ≤ 6) (ht : t < 3) : evv v / 8 ^ t % 8 = v t := by
  have h0 := h 0
  have h1 := h 1
  have h2 := h 2
  unfold evv
  rcases (show t = 0 ∨ t = 1 ∨ t = 2 by omega) with rfl | rfl | rfl
  · rw [Nat.pow_zero]; omega
  · rw [Nat.pow_one]; omega
  · rw [show (8 : Nat) ^ 2 = 64 from rfl]; omega
theorem evv_lt {v : Nat → Nat} (h : ∀ t, v t ≤ 6) : evv v ≤ 438 := by
  have h0 := h 0
  have h1 := h 1
  have h2 := h 2
  unfold evv
  omega
theorem evv_inj {u v : Nat → Nat} (hu : ∀ t, u t ≤ 6) (hv : ∀ t, v t ≤ 6) (hu3 : ∀ t, 3 ≤ t → u t = 0) (hv3 : ∀ t, 3 ≤ t → v t = 0) (h : evv u = evv v) : u = v := by
  funext t
  by_cases ht : t < 3
  · rw [← evv_dig hu ht, ← evv_dig hv ht, h]
  · rw [hu3 t (by omega), hv3 t (by omega)]
theorem evv_mu {v : Nat → Nat} {t : Nat} (ht : t < 3) : evv (mu v t) = evv v + 8 ^ t := by
  unfold evv
  rcases (show t = 0 ∨ t = 1 ∨ t = 2 by omega) with rfl | rfl | rfl
  · rw [mu_self, mu_ne (by omega), mu_ne (by omega), Nat.pow_zero]; omega
  · rw [mu_self, mu_ne (by omega), mu_ne (by omega), Nat.pow_one]; omega
  · rw [mu_self, mu_ne (by omega), mu_ne (by omega), show (8 : Nat) ^ 2 = 64 from rfl]; omega
theorem evv_md {v : Nat → Nat} {t : Nat} (ht : t < 3) (h0 : 0 < v t) : evv (md v t) + 8 ^ t = evv v := by
  unfold evv
  rcases (show t = 0 ∨ t = 1 ∨ t = 2 by omega) with rfl | rfl | rfl
  · rw [md_self, md_ne (by omega), md_ne (by omega), Nat.pow_zero]; omega
  · rw [md_self, md_ne (by omega), md_ne (by omega), Nat.pow_one]; omega
  · rw [md_self, md_ne (by omega), md_ne (by omega), show (8 : Nat) ^ 2 = 64 from rfl]; omega
set_option maxRecDepth 100000 in
set_option maxHeartbeats 4000000 in
theorem v_count (l : Launch) (D : va_G) (V : (Nat → Nat) → gW → Prop) (v : Nat → Nat) (t : Nat) (hv : ∀ t, v t ≤ 6) (ht : t < 3) : g_M l y_V_count w_V_count (rk 0) D gCl g_N [.int (nI (evv v)), .int (nI t)] (V) 0 0 (fun A => g_Qi D gCl A (fun r ad w => r = nI (v t) ∧ V ad w)) := by
  refine g_of (cc := c_V_count) (nL := 2) (ret := some .int) (by decide) rfl (Nat.le_of_ble_eq_true rfl) ?_
  intro pp ee ss mm bb me cc A hC hr hlk hnm
  refine g_los [0, 1] (lo' := [(0, .int (nI (evv v))), (1, .int (nI t))]) rfl ?_
  refine g_iload_n (i := 0) hC d_V_count_0 rfl rfl ?_
  refine g_iconst (v := nI 3) hC d_V_count_1 (by decide) ?_
  refine g_iload_n (i := 1) hC d_V_count_2 rfl rfl ?_
  refine g_imulN hC d_V_count_3 ?_
  refine g_ishr hC d_V_count_4 ?_
  refine g_eqi (shr3 (by have := evv_lt hv; omega) ht) ?_
  refine g_bipush (v := nI 7) hC d_V_count_5 (by decide) ?_
  refine g_iand hC d_V_count_7 ?_
  refine g_eqi (and7 (by have := evv_lt hv; have := Nat.div_le_self (evv v) (8 ^ t); omega)) ?_
  refine g_iret hC hr hlk d_V_count_8 (by decide) (by decide) (fun ad w hw => ?_)
  exact ⟨by rw [evv_dig hv ht], hw⟩
set_option maxRecDepth 100000 in
set_option maxHeartbeats 4000000 in
theorem v_more (l : Launch) (D : va_G) (V : (Nat → Nat) → gW → Prop) (v : Nat → Nat) (t : Nat) (ht : t < 3) : g_M l y_V_withOneMore w_V_withOneMore (rk 0) D gCl g_N [.int (nI (evv v)), .int (nI t)] (V) 0 0 (fun A => g_Qi D gCl A (fun r ad w => r = nI (evv (mu v t)) ∧ V ad w)) := by
  refine g_of (cc := c_V_withOneMore) (nL := 2) (ret := some .int) (by decide) rfl (Nat.le_of_ble_eq_true rfl) ?_
  intro pp ee ss mm bb me cc A hC hr hlk hnm
  refine g_los [0, 1] (lo' := [(0, .int (nI (evv v))), (1, .int (nI t))]) rfl ?_
  refine g_iload_n (i := 0) hC d_V_withOneMore_0 rfl rfl ?_
  refine g_iconst (v := nI 1) hC d_V_withOneMore_1 (by decide) ?_
  refine g_iconst (v := nI 3) hC d_V_withOneMore_2 (by decide) ?_
  refine g_iload_n (i := 1) hC d_V_withOneMore_3 rfl rfl ?_
  refine g_imulN hC d_V_withOneMore_4 ?_
  refine g_ishl hC d_V_withOneMore_5 ?_
  refine g_eqi (shl3 ht) ?_
  refine g_iaddN hC d_V_withOneMore_6 ?_
  refine g_iret hC hr hlk d_V_withOneMore_7 (by decide) (by decide) (fun ad w hw => ?_)
  exact ⟨by rw [evv_mu ht], hw⟩
set_option maxRecDepth 100000 in
set_option maxHeartbeats 4000000 in
theorem v_less (l : Launch) (D : va_G) (V : (Nat → Nat) → gW → Prop) (v : Nat → Nat) (t : Nat) (ht : t < 3) (h0 : 0 < v t) : g_M l y_V_withOneLess w_V_withOneLess (rk 0) D gCl g_N [.int (nI (evv v)), .int (nI t)] (V) 0 0 (fun A => g_Qi D gCl A (fun r ad w => r = nI (evv (md v t)) ∧ V ad w)) := by
  refine g_of (cc := c_V_withOneLess) (nL := 2) (ret := some .int) (by decide) rfl (Nat.le_of_ble_eq_true rfl) ?_
  intro pp ee ss mm bb me cc A hC hr hlk hnm
  refine g_los [0, 1] (lo' := [(0, .int (nI (evv v))), (1, .int (nI t))]) rfl ?_
  refine g_iload_n (i := 0) hC d_V_withOneLess_0 rfl rfl ?_
  refine g_iconst (v := nI 1) hC d_V_withOneLess_1 (by decide) ?_
  refine g_iconst (v := nI 3) hC d_V_withOneLess_2 (by decide) ?_
  refine g_iload_n (i := 1) hC d_V_withOneLess_3 rfl rfl ?_
  refine g_imulN hC d_V_withOneLess_4 ?_
  refine g_ishl hC d_V_withOneLess_5 ?_
  refine g_eqi (shl3 ht) ?_
  refine g_isubN hC d_V_withOneLess_6 (by have := evv_md ht h0; omega) ?_
  refine g_iret hC hr hlk d_V_withOneLess_7 (by decide) (by decide) (fun ad w hw => ?_)
  exact ⟨by have := evv_md ht h0; rw [← this, Nat.add_sub_cancel], hw⟩
set_option maxRecDepth 100000 in
set_option maxHeartbeats 4000000 in
theorem v_many (l : Launch) (D : va_G) (V : (Nat → Nat) → gW → Prop) (S : Nat) (hS : S = 2 ∨ S = 3) : g_M l y_V_howMany w_V_howMany (rk 0) D gCl g_N [.int (nI S)] (V) 0 0 (fun A => g_Qi D gCl A (fun r ad w => r = nI (p8 S) ∧ V ad w)) := by
  refine g_of (cc := c_V_howMany) (nL := 1) (ret := some .int) (by decide) rfl (Nat.le_of_ble_eq_true rfl) ?_
  intro pp ee ss mm bb me cc A hC hr hlk hnm
  refine g_los [0] (lo' := [(0, .int (nI S))]) rfl ?_
  refine g_iconst (v := nI 1) hC d_V_howMany_0 (by decide) ?_
  refine g_iconst (v := nI 3) hC d_V_howMany_1 (by decide) ?_
  refine g_iload_n (i := 0) hC d_V_howMany_2 rfl rfl ?_
  refine g_imulN hC d_V_howMany_3 ?_
  refine g_ishl hC d_V_howMany_4 ?_
  refine g_eqi (show nI 1 <<< (nI (3 * S) &&& 31) = nI (p8 S) by rcases hS with rfl | rfl <;> decide +kernel) ?_
  refine g_iret hC hr hlk d_V_howMany_5 (by decide) (by decide) (fun ad w hw => ?_)
  exact ⟨rfl, hw⟩
set_option maxRecDepth 100000 in
set_option maxHeartbeats 4000000 in
theorem v_covers (l : Launch) (D : va_G) (V : (Nat → Nat) → gW → Prop) (v c : Nat → Nat) (hv : ∀ t, v t ≤ 6) (hc : ∀ t, c t ≤ 6) : g_M l y_V_covers w_V_covers (rk 1) D gCl g_N [.int (nI (evv v)), .int (nI (evv c))] (V) 0 0 (fun A => g_Qi D gCl A (fun r ad w => r = nI (pb (∀ t, t < 3 → c t ≤ v t)) ∧ V ad w)) := by
  refine g_of (cc := c_V_covers) (nL := 3) (ret := some .boolean) (by decide) rfl (Nat.le_of_ble_eq_true rfl) ?_
  intro pp ee ss mm bb me cc A hC hr hlk hnm
  refine g_los [0, 1] (lo' := [(0, .int (nI (evv v))), (1, .int (nI (evv c)))]) rfl ?_
  refine g_iconst (v := nI 0) hC d_V_covers_0 (by decide) ?_
  refine g_istore_n (i := 2) (lo' := [(2, _), (0, _), (1, _)]) hC d_V_covers_1 rfl (by decide) rfl ?_
  refine g_los [1, 2, 0] (lo' := [(0, _), (1, _), (2, _)]) rfl ?_
  refine g_loop (ι := Nat) (pc0 := 2) (fun t => 3 - t) (fun t => t ≤ 3 ∧ ∀ t', t' < t → c t' ≤ v t') (fun t => V) (fun t => [(0, .int (nI (evv v))), (1, .int (nI (evv c))), (2, .int (nI t))]) ?_ 0 (⟨Nat.zero_le _, fun t' ht' => absurd ht' (Nat.not_lt_zero _)⟩)
  rintro t hI ih
  try dsimp only at hI ih ⊢
  refine g_iload_n (i := 2) hC d_V_covers_2 rfl rfl ?_
  refine g_iconst (v := nI 3) hC d_V_covers_3 (by decide) ?_
  refine g_icmp_geN (tgt := 28) hC d_V_covers_4 (by decide) (by first | omega | exact c_lt hb _ _ | exact pb_le _) (by first | omega | exact c_lt hb _ _ | exact pb_le _) (fun h4 => ?_) (fun h4 => ?_)
  · refine g_iconst (v := nI 1) hC d_V_covers_28 (by decide) ?_
    refine g_zret hC hr hlk (r_nar2 (by decide)) d_V_covers_29 (by decide) (by decide) (fun ad w hw => ?_)
    exact ⟨nI_one (fun t' ht' => hI.2 t' (by omega)), hw⟩
  · refine g_iload_n (i := 0) hC d_V_covers_7 rfl rfl ?_
    refine g_iload_n (i := 2) hC d_V_covers_8 rfl rfl ?_
    refine g_calli hC (g_runS (As := [_, _]) (st := []) hC g_NOK_N (v_count l D V v t hv (by omega)) (t_cwS 2 hC.1.2.2.2.2 m_212 m_123 m_3 k_V_count rfl rfl hd_V_count ⟨by decide, by decide⟩) rfl rfl (Nat.le_of_ble_eq_true rfl) d_V_covers_9 ⟨by decide, by decide⟩) (fun r9 => ?_)
    refine g_and (fun e => ?_)
    subst e
    refine g_iload_n (i := 1) hC d_V_covers_12 rfl rfl ?_
    refine g_iload_n (i := 2) hC d_V_covers_13 rfl rfl ?_
    refine g_calli hC (g_runS (As := [_, _]) (st := [_]) hC g_NOK_N (v_count l D V c t hc (by omega)) (t_cwS 2 hC.1.2.2.2.2 m_212 m_123 m_3 k_V_count rfl rfl hd_V_count ⟨by decide, by decide⟩) rfl rfl (Nat.le_of_ble_eq_true rfl) d_V_covers_14 ⟨by decide, by decide⟩) (fun r14 => ?_)
    refine g_and (fun e => ?_)
    subst e
    refine g_icmp_geN (tgt := 22) hC d_V_covers_17 (by decide) (by have := hv t; omega) (by have := hc t; omega) (fun h17 => ?_) (fun h17 => ?_)
    · refine g_iinc (i := 2) (k := 2) (lo' := [(2, _), (0, _), (1, _)]) hC d_V_covers_22 rfl (nI_inc _) (by decide) rfl ?_
      refine g_goto (tgt := 2) hC d_V_covers_25 (by decide) ?_
      refine g_los [1, 2, 0] rfl ?_
      exact ih (t + 1) ⟨by omega, lt_s hI.2 (by omega)⟩ (by omega)
    · refine g_iconst (v := nI 0) hC d_V_covers_20 (by decide) ?_
      refine g_zret hC hr hlk (r_nar2 (by decide)) d_V_covers_21 (by decide) (by decide) (fun ad w hw => ?_)
      exact ⟨nI_zero (fun q => by have := q t (by omega); omega), hw⟩
set_option maxRecDepth 100000 in
set_option maxHeartbeats 4000000 in
theorem o_isInsert (l : Launch) (D : va_G) (S : Nat) (ρ : rS) (ad0 : Nat → Nat) (w0 : gW) (o : Nat) (ho : o < 18) (hal : ρ 41 o ≠ 0) : g_M l y_O_isInsert w_O_isInsert (rk 0) D gCl g_N [.ref (ad0 (100 + o))] (CW S ρ ad0 w0) 0 0 (fun A => g_Qi D gCl A (fun r ad w => r = nI (pb (ρ (60 + o) 0 ≠ 0)) ∧ CW S ρ ad0 w0 ad w)) := by
  refine g_of (cc := c_O_isInsert) (nL := 1) (ret := some .boolean) (by decide) rfl (Nat.le_of_ble_eq_true rfl) ?_
  intro pp ee ss mm bb me cc A hC hr hlk hnm
  refine g_los [0] (lo' := [(0, .ref (ad0 (100 + o)))]) rfl ?_
  refine g_pure cw_bl (fun hbS => ?_)
  obtain ⟨hb, hSS⟩ := hbS
  refine g_aload_n (i := 0) hC d_O_isInsert_0 rfl rfl (Or.inr ⟨_, rfl⟩) ?_
  refine g_get hC (fun x h => List.mem_cons_of_mem _ (in_O x h)) (100 + o) (cw_o ho hal) rfl 2 (by decide) (List.mem_cons_of_mem _ m_137) rfl rfl d_O_isInsert_1 ?_
  refine g_if_eqN (tgt := 11) hC d_O_isInsert_4 (by decide) (c_lt hb _ _) (fun h4a => ?_) (fun h4a => ?_)
  · refine g_iconst (v := nI 0) hC d_O_isInsert_11 (by decide) ?_
    refine g_zret hC hr hlk (r_nar2 (by decide)) d_O_isInsert_12 (by decide) (by decide) (fun ad w hw => ?_)
    exact ⟨nI_zero (fun q => q h4a), hw⟩
  · refine g_iconst (v := nI 1) hC d_O_isInsert_7 (by decide) ?_
    refine g_goto (tgt := 12) hC d_O_isInsert_8 (by decide) ?_
    refine g_zret hC hr hlk (r_nar2 (by decide)) d_O_isInsert_12 (by decide) (by decide) (fun ad w hw => ?_)
    exact ⟨nI_one h4a, hw⟩
set_option maxRecDepth 100000 in
set_option maxHeartbeats 4000000 in
theorem o_index (l : Launch) (D : va_G) (S : Nat) (ρ : rS) (ad0 : Nat → Nat) (w0 : gW) (o : Nat) (ho : o < 18) (hal : ρ 41 o ≠ 0) (hsi : ρ (60 + o) 3 = o / 6) (hnu : ρ (60 + o) 4 = o % 6) : g_M l y_O_index w_O_index (rk 0) D gCl g_N [.ref (ad0 (100 + o))] (CW S ρ ad0 w0) 0 0 (fun A => g_Qi D gCl A (fun r ad w => r = nI o ∧ CW S ρ ad0 w0 ad w)) := by
  refine g_of (cc := c_O_index) (nL := 1) (ret := some .int) (by decide) rfl (Nat.le_of_ble_eq_true rfl) ?_
  intro pp ee ss mm bb me cc A hC hr hlk hnm
  refine g_los [0] (lo' := [(0, .ref (ad0 (100 + o)))]) rfl ?_
  refine g_pure cw_bl (fun hbS => ?_)
  obtain ⟨hb, hSS⟩ := hbS
  refine g_aload_n (i := 0) hC d_O_index_0 rfl rfl (Or.inr ⟨_, rfl⟩) ?_
  refine g_get hC (fun x h => List.mem_cons_of_mem _ (in_O x h)) (100 + o) (cw_o ho hal) rfl 0 (by decide) (List.mem_cons_of_mem _ m_131) rfl rfl d_O_index_1 ?_
  refine g_bipush (v := nI 6) hC d_O_index_4 (by decide) ?_
  refine g_imulN hC d_O_index_6 ?_
  refine g_aload_n (i := 0) hC d_O_index_7 rfl rfl (Or.inr ⟨_, rfl⟩) ?_
  refine g_get hC (fun x h => List.mem_cons_of_mem _ (in_O x h)) (100 + o) (cw_o ho hal) rfl 1 (by decide) (List.mem_cons_of_mem _ m_135) rfl rfl d_O_index_8 ?_
  refine g_iaddN hC d_O_index_11 ?_
  refine g_iret hC hr hlk d_O_index_12 (by decide) (by decide) (fun ad w hw => ?_)
  exact ⟨by rw [hsi, hnu, show o / 6 * 6 + o % 6 = o by omega], hw⟩
set_option maxRecDepth 100000 in
set_option maxHeartbeats 4000000 in
theorem o_movedPast (l : Launch) (D : va_G) (S : Nat) (ρ : rS) (ad0 : Nat → Nat) (w0 : gW) (o y p q : Nat) (ho : o < 18) (hal : ρ 41 o ≠ 0) (hy : y < 18) (hyal : ρ 41 y ≠ 0) (hsi : ρ (60 + o) 3 = o / 6) (hysi : ρ (60 + y) 3 = y / 6) (hp : p < 1000) (hq : q < 1000) : g_M l y_O_movedPast w_O_movedPast (rk 1) D gCl g_N [.ref (ad0 (100 + o)), .int (nI p), .ref (ad0 (100 + y)), .int (nI q)] (CW S ρ ad0 w0) 0 0 (fun A => g_Qi D gCl A (fun r ad w => r = nI (mmv (ρ (60 + o) 0) (o / 6) p (ρ (60 + y) 0) (y / 6) q) ∧ CW S ρ ad0 w0 ad w)) := by
  refine g_of (cc := c_O_movedPast) (nL := 4) (ret := some .int) (by decide) rfl (Nat.le_of_ble_eq_true rfl) ?_
  intro pp ee ss mm bb me cc A hC hr hlk hnm
  refine g_los [0, 1, 2, 3] (lo' := [(0, .ref (ad0 (100 + o))), (1, .int (nI p)), (2, .ref (ad0 (100 + y))), (3, .int (nI q))]) rfl ?_
  refine g_pure cw_bl (fun hbS => ?_)
  obtain ⟨hb, hSS⟩ := hbS
  refine g_aload_n (i := 2) hC d_O_movedPast_0 rfl rfl (Or.inr ⟨_, rfl⟩) ?_
  refine g_calli hC (g_runV (q := (100 + y)) (As := []) (st := []) hC g_NOK_N (o_isInsert l D S ρ ad0 w0 y hy hyal) (t_cwV 0 hC.1.2.2.2.2 m_242 m_168 m_169 m_7 k_O_isInsert rfl rfl hd_O_isInsert ⟨by decide, by decide⟩) (cw_o hy hyal) rfl rfl rfl (Nat.le_of_ble_eq_true rfl) d_O_movedPast_1 ⟨by decide, by decide⟩) (fun r1 => ?_)
  refine g_and (fun e => ?_)
  subst e
  refine g_if_eqN (tgt := 12) hC d_O_movedPast_4 (by decide) (pb_le _) (fun h4 => ?_) (fun h4 => ?_)
  · have g4 := pb_0 h4
    refine g_iload_n (i := 1) hC d_O_movedPast_12 rfl rfl ?_
    refine g_iret hC hr hlk d_O_movedPast_13 (by decide) (by decide) (fun ad w hw => ?_)
    exact ⟨congrArg nI (mmv_0 (Decidable.not_not.mp g4)).symm, hw⟩
  · have g4 := pb_1 h4
    refine g_iload_n (i := 1) hC d_O_movedPast_7 rfl rfl ?_
    refine g_iload_n (i := 3) hC d_O_movedPast_8 rfl rfl ?_
    refine g_icmp_geN (tgt := 14) hC d_O_movedPast_9 (by decide) (by first | omega | exact c_lt hb _ _ | exact pb_le _) (by first | omega | exact c_lt hb _ _ | exact pb_le _) (fun h9 => ?_) (fun h9 => ?_)
    · refine g_iload_n (i := 1) hC d_O_movedPast_14 rfl rfl ?_
      refine g_iload_n (i := 3) hC d_O_movedPast_15 rfl rfl ?_
      refine g_icmp_neN (tgt := 41) hC d_O_movedPast_16 (by decide) (by first | omega | exact c_lt hb _ _ | exact pb_le _) (by first | omega | exact c_lt hb _ _ | exact pb_le _) (fun h16 => ?_) (fun h16 => ?_)
      · refine g_iload_n (i := 1) hC d_O_movedPast_41 rfl rfl ?_
        refine g_iconst (v := nI 1) hC d_O_movedPast_42 (by decide) ?_
        refine g_iaddN hC d_O_movedPast_43 ?_
        refine g_iret hC hr hlk d_O_movedPast_44 (by decide) (by decide) (fun ad w hw => ?_)
        exact ⟨congrArg nI (mmv_1 ⟨g4, by omega, Or.inl h16⟩).symm, hw⟩
      · refine g_aload_n (i := 0) hC d_O_movedPast_19 rfl rfl (Or.inr ⟨_, rfl⟩) ?_
        refine g_calli hC (g_runV (q := (100 + o)) (As := []) (st := []) hC g_NOK_N (o_isInsert l D S ρ ad0 w0 o ho hal) (t_cwV 0 hC.1.2.2.2.2 m_242 m_168 m_169 m_7 k_O_isInsert rfl rfl hd_O_isInsert ⟨by decide, by decide⟩) (cw_o ho hal) rfl rfl rfl (Nat.le_of_ble_eq_true rfl) d_O_movedPast_20 ⟨by decide, by decide⟩) (fun r20 => ?_)
        refine g_and (fun e => ?_)
        subst e
        refine g_if_eqN (tgt := 41) hC d_O_movedPast_23 (by decide) (pb_le _) (fun h23 => ?_) (fun h23 => ?_)
        · have g23 := pb_0 h23
          refine g_iload_n (i := 1) hC d_O_movedPast_41 rfl rfl ?_
          refine g_iconst (v := nI 1) hC d_O_movedPast_42 (by decide) ?_
          refine g_iaddN hC d_O_movedPast_43 ?_
          refine g_iret hC hr hlk d_O_movedPast_44 (by decide) (by decide) (fun ad w hw => ?_)
          exact ⟨congrArg nI (mmv_1 ⟨g4, by omega, Or.inr (Or.inl (Decidable.not_not.mp g23))⟩).symm, hw⟩
        · have g23 := pb_1 h23
          refine g_aload_n (i := 0) hC d_O_movedPast_26 rfl rfl (Or.inr ⟨_, rfl⟩) ?_
          refine g_get hC (fun x h => List.mem_cons_of_mem _ (in_O x h)) (100 + o) (cw_o ho hal) rfl 0 (by decide) (List.mem_cons_of_mem _ m_131) rfl rfl d_O_movedPast_27 ?_
          refine g_aload_n (i := 2) hC d_O_movedPast_30 rfl rfl (Or.inr ⟨_, rfl⟩) ?_
          refine g_get hC (fun x h => List.mem_cons_of_mem _ (in_O x h)) (100 + y) (cw_o hy hyal) rfl 0 (by decide) (List.mem_cons_of_mem _ m_131) rfl rfl d_O_movedPast_31 ?_
          rw [hsi, hysi]
          refine g_icmp_geN (tgt := 41) hC d_O_movedPast_34 (by decide) (by omega) (by omega) (fun h34 => ?_) (fun h34 => ?_)
          · refine g_iload_n (i := 1) hC d_O_movedPast_41 rfl rfl ?_
            refine g_iconst (v := nI 1) hC d_O_movedPast_42 (by decide) ?_
            refine g_iaddN hC d_O_movedPast_43 ?_
            refine g_iret hC hr hlk d_O_movedPast_44 (by decide) (by decide) (fun ad w hw => ?_)
            exact ⟨congrArg nI (mmv_1 ⟨g4, by omega, Or.inr (Or.inr (by omega))⟩).symm, hw⟩
          · refine g_iload_n (i := 1) hC d_O_movedPast_37 rfl rfl ?_
            refine g_goto (tgt := 44) hC d_O_movedPast_38 (by decide) ?_
            refine g_iret hC hr hlk d_O_movedPast_44 (by decide) (by decide) (fun ad w hw => ?_)
            exact ⟨congrArg nI (mmv_2 (Or.inr ⟨h16, g23, by omega⟩)).symm, hw⟩
    · refine g_iload_n (i := 1) hC d_O_movedPast_12 rfl rfl ?_
      refine g_iret hC hr hlk d_O_movedPast_13 (by decide) (by decide) (fun ad w hw => ?_)
      exact ⟨congrArg nI (mmv_2 (Or.inl h9)).symm, hw⟩
