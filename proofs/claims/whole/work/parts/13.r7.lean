set_option maxRecDepth 100000 in
set_option maxHeartbeats 4000000 in
theorem r_find (l : Launch) (D : va_G) (S : Nat) (σ : rS) (ad0 : Nat → Nat) (w0 : gW) (site q0 z : Nat) (hs : site < 3) (hc : σ 10 site ≤ 18) (hq : q0 < σ 10 site) (hz : σ 11 (18 * site + q0) = z) (hu : ∀ i, i < σ 10 site → σ 11 (18 * site + i) = z → i = q0) : g_M l y_M_find w_M_find (rk 0) D gCl g_N [.ref (ad0 200), .int (nI site), .int (nI z)] (RX S σ ad0 w0) 0 0 (fun A => g_Qi D gCl A (fun r ad w => r = nI q0 ∧ RX S σ ad0 w0 ad w)) := by
  refine g_of (cc := c_M_find) (nL := 5) (ret := some .int) (by decide) rfl (Nat.le_of_ble_eq_true rfl) ?_
  intro pp ee ss mm bb me cc A hC hr hlk hnm
  refine g_los [0, 1, 2] (lo' := [(0, .ref (ad0 200)), (1, .int (nI site)), (2, .int (nI z))]) rfl ?_
  refine g_pure r_bl_of (fun hb => ?_)
  refine g_iconst (v := -1) hC d_M_find_0 (by decide) ?_
  refine g_istore_n (i := 3) (lo' := [(3, _), (0, _), (1, _), (2, _)]) hC d_M_find_1 rfl (by decide) rfl ?_
  refine g_iconst (v := nI 0) hC d_M_find_2 (by decide) ?_
  refine g_istore (i := 4) (lo' := [(4, _), (3, _), (0, _), (1, _), (2, _)]) hC d_M_find_3 (by decide) rfl ?_
  refine g_los [2, 3, 4, 1, 0] (lo' := [(0, _), (1, _), (2, _), (3, _), (4, _)]) rfl ?_
  refine g_loop (ι := Nat × Int32) (pc0 := 5) (fun ⟨i, v⟩ => 18 - i) (fun ⟨i, v⟩ => i ≤ σ 10 site ∧ (q0 < i → v = nI q0)) (fun ⟨i, v⟩ => RX S σ ad0 w0) (fun ⟨i, v⟩ => [(0, .ref (ad0 200)), (1, .int (nI site)), (2, .int (nI z)), (3, .int v), (4, .int (nI i))]) ?_ (0, -1) (⟨Nat.zero_le _, fun q => absurd q (Nat.not_lt_zero _)⟩)
  rintro ⟨i, v⟩ hI ih
  try dsimp only at hI ih ⊢
  refine g_iload (i := 4) hC d_M_find_5 rfl ?_
  refine g_aload_n (i := 0) hC d_M_find_7 rfl rfl (Or.inr ⟨_, rfl⟩) ?_
  refine g_get hC (fun x h => List.mem_cons_of_mem _ (in_M x h)) 200 r_this rfl 10 (by decide) (List.mem_cons_of_mem _ m_330) rfl rfl d_M_find_8 ?_
  refine g_iload_n (i := 1) hC d_M_find_11 rfl rfl ?_
  refine r_ld 10 hC (by decide) (by decide) rfl (fun _ => rfl) (by simp only [r_ln]; omega) d_M_find_12 ?_
  refine g_icmp_geN (tgt := 45) hC d_M_find_13 (by decide) (by first | omega | exact r_lt hb _ _ | exact pb_le _) (by first | omega | exact r_lt hb _ _ | exact pb_le _) (fun h13 => ?_) (fun h13 => ?_)
  · refine g_iload_n (i := 3) hC d_M_find_45 rfl rfl ?_
    refine g_iret hC hr hlk d_M_find_46 (by decide) (by decide) (fun ad w hw => ?_)
    exact ⟨hI.2 (by omega), hw⟩
  · refine g_aload_n (i := 0) hC d_M_find_16 rfl rfl (Or.inr ⟨_, rfl⟩) ?_
    refine g_get hC (fun x h => List.mem_cons_of_mem _ (in_M x h)) 200 r_this rfl 11 (by decide) (List.mem_cons_of_mem _ m_331) rfl rfl d_M_find_17 ?_
    refine g_bipush (v := nI 18) hC d_M_find_20 (by decide) ?_
    refine g_iload_n (i := 1) hC d_M_find_22 rfl rfl ?_
    refine g_imulN hC d_M_find_23 ?_
    refine g_iload (i := 4) hC d_M_find_24 rfl ?_
    refine g_iaddN hC d_M_find_26 ?_
    refine r_ld 11 hC (by decide) (by decide) rfl (fun _ => rfl) (by simp only [r_ln]; omega) d_M_find_27 ?_
    refine g_iload_n (i := 2) hC d_M_find_28 rfl rfl ?_
    refine g_icmp_neN (tgt := 37) hC d_M_find_29 (by decide) (r_lt hb _ _) (by rw [← hz]; exact r_lt hb _ _) (fun h29 => ?_) (fun h29 => ?_)
    · refine g_iload_n (i := 3) hC d_M_find_37 rfl rfl ?_
      refine g_istore_n (i := 3) (lo' := [(3, _), (0, _), (1, _), (2, _), (4, _)]) hC d_M_find_38 rfl (by decide) rfl ?_
      refine g_iinc (i := 4) (k := 4) (lo' := [(4, _), (3, _), (0, _), (1, _), (2, _)]) hC d_M_find_39 rfl (nI_inc _) (by decide) rfl ?_
      refine g_goto (tgt := 5) hC d_M_find_42 (by decide) ?_
      refine g_los [2, 3, 4, 1, 0] rfl ?_
      exact ih (i + 1, v) ⟨by omega, fun q => hI.2 (by
        rcases (show q0 = i ∨ q0 < i by omega) with rfl | q1
        · exact absurd hz h29
        · exact q1)⟩ (by dsimp only; omega)
    · refine g_iload (i := 4) hC d_M_find_32 rfl ?_
      refine g_goto (tgt := 38) hC d_M_find_34 (by decide) ?_
      refine g_istore_n (i := 3) (lo' := [(3, _), (0, _), (1, _), (2, _), (4, _)]) hC d_M_find_38 rfl (by decide) rfl ?_
      refine g_iinc (i := 4) (k := 4) (lo' := [(4, _), (3, _), (0, _), (1, _), (2, _)]) hC d_M_find_39 rfl (nI_inc _) (by decide) rfl ?_
      refine g_goto (tgt := 5) hC d_M_find_42 (by decide) ?_
      refine g_los [2, 3, 4, 1, 0] rfl ?_
      exact ih (i + 1, nI i) ⟨by omega, fun q => by rw [hu i (by omega) h29]⟩ (by dsimp only; omega)
/-- the cells above i moved up by one -/
def shS (σ : rS) (s i c : Nat) : rS := fun k j => if (k = 11 ∨ k = 12) ∧ 18 * s + i < j ∧ j ≤ 18 * s + c then σ k (j - 1) else σ k j
theorem shS_ne {σ : rS} {s i c k : Nat} (h : ¬ (k = 11 ∨ k = 12)) : shS σ s i c k = σ k := by
  funext j
  exact if_neg (fun q => h q.1)
theorem shS_lo {σ : rS} {s i c k j : Nat} (h : j ≤ 18 * s + i) : shS σ s i c k j = σ k j := if_neg (by omega)
theorem shS_0 {σ : rS} {s c : Nat} : shS σ s c c = σ := by
  funext k j
  exact if_neg (by omega)
theorem shS_s {σ : rS} {s i c a b : Nat} (h0 : 0 < i) (hc : i ≤ c) (ha : a = σ 11 (18 * s + i - 1)) (hb : b = σ 12 (18 * s + i - 1)) : u2 (u2 (shS σ s i c) 11 (18 * s + i) a) 12 (18 * s + i) b = shS σ s (i - 1) c := by
  funext k j
  unfold u2 shS
  by_cases h12 : k = 12 ∧ j = 18 * s + i
  · rw [if_pos h12, if_pos (by omega), h12.1, h12.2, hb]
  · rw [if_neg h12]
    by_cases h11 : k = 11 ∧ j = 18 * s + i
    · rw [if_pos h11, if_pos (by omega), h11.1, h11.2, ha]
    · rw [if_neg h11]
      by_cases q : (k = 11 ∨ k = 12) ∧ 18 * s + i < j ∧ j ≤ 18 * s + c
      · rw [if_pos q, if_pos (by omega)]
      · rw [if_neg q, if_neg (by omega)]
theorem ex_ins {σ τ : rS} {s o p a b : Nat} (hE : E12 σ τ) (hi : σ 2 o ≠ 0) (hp : p ≤ σ 10 s) (ha : a = σ 10 s + 1) (hb : b = σ 8 (3 * s + o / 6) + 1) : E12 (exS σ s o p) (u2 (u2 (u2 (u2 (shS (u2 τ 7 (18 * s + o) (p + 1)) s p (σ 10 s)) 11 (18 * s + p) o) 12 (18 * s + p) 1) 10 s a) 8 (3 * s + o / 6) b) := by
  intro k h13 h14
  have e := hE k h13 h14
  funext j
  by_cases k8 : k = 8
  · subst k8
    rw [u2_in, u2_ne (by omega), u2_ne (by omega), u2_ne (by omega), shS_ne (by omega), u2_ne (by omega), e, exS_8, hb]
    split
    · rename_i q
      rw [q]
    · rfl
  rw [u2_ne k8]
  by_cases k10 : k = 10
  · subst k10
    rw [u2_in, u2_ne (by omega), u2_ne (by omega), shS_ne (by omega), u2_ne (by omega), e, exS_10, ha]
    by_cases q : j = s
    · rw [if_pos q, if_pos ⟨hi, q⟩, q]
    · rw [if_neg q, if_neg (fun z => q z.2)]
  rw [u2_ne k10]
  by_cases k12 : k = 12
  · subst k12
    rw [u2_in, u2_ne (by omega), exS_12, if_pos hi]
    unfold shS
    rw [u2_ne (by omega), e]
    by_cases q : j = 18 * s + p
    · rw [if_pos q, if_pos (by omega), if_pos q]
    · rw [if_neg q]
      by_cases z : 18 * s + p < j ∧ j ≤ 18 * s + σ 10 s
      · rw [if_pos ⟨Or.inr rfl, z⟩, if_pos (by omega), if_neg q]
      · rw [if_neg (fun y => z y.2), if_neg (by omega)]
  rw [u2_ne k12]
  by_cases k11 : k = 11
  · subst k11
    rw [u2_in, exS_11]
    unfold shS
    rw [u2_ne (by omega), e]
    by_cases q : j = 18 * s + p
    · rw [if_pos q, if_pos ⟨hi, by omega, by omega⟩, if_pos q]
    · rw [if_neg q]
      by_cases z : 18 * s + p < j ∧ j ≤ 18 * s + σ 10 s
      · rw [if_pos ⟨Or.inl rfl, z⟩, if_pos (c := σ 2 o ≠ 0 ∧ 18 * s + p ≤ j ∧ j ≤ 18 * s + σ 10 s) ⟨hi, by omega, z.2⟩, if_neg q]
      · rw [if_neg (fun y => z y.2), if_neg (by omega)]
  rw [u2_ne k11, shS_ne (by omega)]
  by_cases k7 : k = 7
  · subst k7
    rw [u2_in, e, exS_7]
  rw [u2_ne k7, e]
  unfold exS
  rw [if_neg (by omega), if_neg (by omega), if_pos hi, if_neg (by omega), if_neg (by omega), if_neg (by omega)]
theorem ex_era {σ τ : rS} {s o p b : Nat} (hE : E12 σ τ) (hi : σ 2 o = 0) (hb : b = σ 8 (3 * s + o / 6) + 1) : E12 (exS σ s o p) (u2 (u2 (u2 τ 7 (18 * s + o) (p + 1)) 12 (18 * s + p) 0) 8 (3 * s + o / 6) b) := by
  intro k h13 h14
  have e := hE k h13 h14
  funext j
  by_cases k8 : k = 8
  · subst k8
    rw [u2_in, u2_ne (by omega), u2_ne (by omega), e, exS_8, hb]
    split
    · rename_i q
      rw [q]
    · rfl
  rw [u2_ne k8]
  by_cases k12 : k = 12
  · subst k12
    rw [u2_in, u2_ne (by omega), e, exS_12, if_neg (c := σ 2 o ≠ 0) (fun z => z hi)]
  rw [u2_ne k12]
  by_cases k7 : k = 7
  · subst k7
    rw [u2_in, e, exS_7]
  rw [u2_ne k7, e]
  unfold exS
  rw [if_neg (by omega), if_neg (by omega), if_neg (fun z => z hi), if_neg (by omega)]
theorem pl_bound {S : Nat} {σ : rS} (h : IH S σ) : ∀ o u, MC (s_mk σ) (s_cx σ) u → MX (s_mk σ) (s_cx σ) o u → s_pl σ o u < 1000 := fun o u hM hX => by
  have := mplace_in h.2.2.1 (fun o => if σ 2 o = 0 then 1 else 0) (fun o ho => (h.2.2.2 o ho).1) _ _ _ rfl hM hX
  have := mcnt_18 (σ 2) u
  unfold s_pl
  omega
set_option maxRecDepth 100000 in
set_option maxHeartbeats 4000000 in
theorem r_execute (l : Launch) (D : va_G) (S : Nat) (σ : rS) (ad0 : Nat → Nat) (w0 : gW) (site o : Nat) (hs : site < 3) (hIH : IH S σ) (hIW : IW σ site) (hR : RDY σ site o) : g_M l y_M_execute w_M_execute (rk 4) D gCl g_N [.ref (ad0 200), .int (nI site), .int (nI o)] (RX S σ ad0 w0) 0 0 (fun A => g_Qv D gCl A (fun ad w => ∃ σ', E12 (exS σ site o (s_pl σ o (s_vc σ site))) σ' ∧ RX S σ' ad0 w0 ad w)) := by
  have ho := hIH.lt18 hR.1
  have hX : MX (s_mk σ) (s_cx σ) o (s_vc σ site) := MX.ready hR.1 hR.2.1 hR.2.2.1
  obtain ⟨hpin, hc18⟩ := hR.in hIH hIW
  have hcnt : σ 10 site ≤ 18 := INV.in18 (S := S) hIW
  have hv8 : σ 8 (3 * site + o / 6) ≤ 6 := by
    have := hIW.1.le6 hIH.2.2.1 (o / 6)
    rw [s_vc_lt (by omega)] at this
    exact this
  refine g_of (cc := c_M_execute) (nL := 6) (ret := none) (by decide) rfl (Nat.le_of_ble_eq_true rfl) ?_
  intro pp ee ss mm bb me cc A hC hr hlk hnm
  refine g_los [0, 1, 2] (lo' := [(0, .ref (ad0 200)), (1, .int (nI site)), (2, .int (nI o))]) rfl ?_
  refine g_pure r_bl_of (fun hb => ?_)
  refine g_aload_n (i := 0) hC d_M_execute_0 rfl rfl (Or.inr ⟨_, rfl⟩) ?_
  refine g_get hC (fun x h => List.mem_cons_of_mem _ (in_M x h)) 200 r_this rfl 2 (by decide) (List.mem_cons_of_mem _ m_322) rfl rfl d_M_execute_1 ?_
  refine g_iload_n (i := 2) hC d_M_execute_4 rfl rfl ?_
  refine r_zld 2 hC (by decide) (by decide) rfl (fun _ => rfl) (by simp only [r_ln]; omega) d_M_execute_5 ?_
  refine g_if_eqN (tgt := 18) hC d_M_execute_6 (by decide) (r_lt hb _ _) (fun h6 => ?_) (fun h6 => ?_)
  · have hpin : s_pl σ o (s_vc σ site) < σ 10 site := by
      rw [if_pos h6] at hpin
      omega
    obtain ⟨h4e, h9e⟩ := (hIH.2.2.2 o hR.1).2.1 h6
    have hrow : s_row σ (s_vc σ site) (s_pl σ o (s_vc σ site)) = s_row σ (s_cx σ o) (σ 3 o) := mrow_erase (tg := fun _ => s_row σ (s_cx σ o) (σ 3 o)) hIH.2.2.1 h6 rfl (fun t ht => if_neg (by omega)) _ _ rfl hIW.1 hX
    have hcell := (hIW.2.2.1 _ hpin).1
    rw [hrow] at hcell
    refine g_aload_n (i := 0) hC d_M_execute_18 rfl rfl (Or.inr ⟨_, rfl⟩) ?_
    refine g_iload_n (i := 1) hC d_M_execute_19 rfl rfl ?_
    refine g_aload_n (i := 0) hC d_M_execute_20 rfl rfl (Or.inr ⟨_, rfl⟩) ?_
    refine g_get hC (fun x h => List.mem_cons_of_mem _ (in_M x h)) 200 r_this rfl 9 (by decide) (List.mem_cons_of_mem _ m_329) rfl rfl d_M_execute_21 ?_
    refine g_iload_n (i := 2) hC d_M_execute_24 rfl rfl ?_
    refine r_lde 9 hC (by decide) (by decide) rfl (fun _ => rfl) (by simp only [r_ln]; omega) d_M_execute_25 ?_
    rw [show nI (σ 9 o) - 1 = nI (s_row σ (s_cx σ o) (σ 3 o)) by rw [h9e, Nat.add_comm, nI_pred]]
    refine g_calli hC (g_runV (q := 200) (As := [_, _]) (st := []) hC g_NOK_N (r_find l D S σ ad0 w0 site (s_pl σ o (s_vc σ site)) (s_row σ (s_cx σ o) (σ 3 o)) hs hcnt hpin hcell (fun i hi q => hIW.2.2.2.1 i _ hi hpin (q.trans hcell.symm))) (t_cwV 2 hC.1.2.2.2.2 m_425 m_427 ms_20 m_6 k_M_find rfl rfl hd_M_find ⟨by decide, by decide⟩) r_this rfl rfl rfl (Nat.le_of_ble_eq_true rfl) d_M_execute_26 ⟨by decide, by decide⟩) (fun r26 => ?_)
    refine g_and (fun e26 => ?_)
    subst e26
    refine g_istore_n (i := 3) (lo' := [(3, _), (0, _), (1, _), (2, _)]) hC d_M_execute_29 rfl (by decide) rfl ?_
    have hE : E12 σ σ := E12.refl σ
    refine g_aload_n (i := 0) hC d_M_execute_30 rfl rfl (Or.inr ⟨_, rfl⟩) ?_
    refine g_get hC (fun x h => List.mem_cons_of_mem _ (in_M x h)) 200 r_this rfl 7 (by decide) (List.mem_cons_of_mem _ m_327) rfl rfl d_M_execute_31 ?_
    refine g_bipush (v := nI 18) hC d_M_execute_34 (by decide) ?_
    refine g_iload_n (i := 1) hC d_M_execute_36 rfl rfl ?_
    refine g_imulN hC d_M_execute_37 ?_
    refine g_iload_n (i := 2) hC d_M_execute_38 rfl rfl ?_
    refine g_iaddN hC d_M_execute_39 ?_
    refine g_iload_n (i := 3) hC d_M_execute_40 rfl rfl ?_
    refine r_ste 7 hC (by decide) (by decide) rfl (fun _ => rfl) (by decide) (nI_pred _).symm (by omega) (by simp only [r_ln]; omega) d_M_execute_41 ?_
    refine g_pure r_bl_of (fun hb1 => ?_)
    refine g_bipush (v := nI 18) hC d_M_execute_42 (by decide) ?_
    refine g_iload_n (i := 1) hC d_M_execute_44 rfl rfl ?_
    refine g_imulN hC d_M_execute_45 ?_
    refine g_istore (i := 4) (lo' := [(4, _), (3, _), (0, _), (1, _), (2, _)]) hC d_M_execute_46 (by decide) rfl ?_
    refine g_aload_n (i := 0) hC d_M_execute_48 rfl rfl (Or.inr ⟨_, rfl⟩) ?_
    refine g_get hC (fun x h => List.mem_cons_of_mem _ (in_M x h)) 200 r_this rfl 2 (by decide) (List.mem_cons_of_mem _ m_322) rfl rfl d_M_execute_49 ?_
    refine g_iload_n (i := 2) hC d_M_execute_52 rfl rfl ?_
    refine r_zld 2 hC (by decide) (by decide) rfl (fun _ => rfl) (by simp only [r_ln]; omega) d_M_execute_53 ?_
    rw [u2_ne (a := 2) (by omega)]
    refine g_if_eqN (tgt := 154) hC d_M_execute_54 (by decide) (r_lt hb _ _) (fun h54 => ?_) (fun h54 => ?_)
    · refine g_aload_n (i := 0) hC d_M_execute_154 rfl rfl (Or.inr ⟨_, rfl⟩) ?_
      refine g_get hC (fun x h => List.mem_cons_of_mem _ (in_M x h)) 200 r_this rfl 12 (by decide) (List.mem_cons_of_mem _ m_332) rfl rfl d_M_execute_155 ?_
      refine g_iload (i := 4) hC d_M_execute_158 rfl ?_
      refine g_iload_n (i := 3) hC d_M_execute_160 rfl rfl ?_
      refine g_iaddN hC d_M_execute_161 ?_
      refine g_iconst (v := nI 0) hC d_M_execute_162 (by decide) ?_
      refine r_zst 12 hC (by decide) (by decide) rfl (fun _ => rfl) (by decide) (by simp only [r_ln]; omega) d_M_execute_163 ?_
      refine g_aload_n (i := 0) hC d_M_execute_164 rfl rfl (Or.inr ⟨_, rfl⟩) ?_
      refine g_get hC (fun x h => List.mem_cons_of_mem _ (in_M x h)) 200 r_this rfl 8 (by decide) (List.mem_cons_of_mem _ m_328) rfl rfl d_M_execute_165 ?_
      refine g_iconst (v := nI 3) hC d_M_execute_168 (by decide) ?_
      refine g_iload_n (i := 1) hC d_M_execute_169 rfl rfl ?_
      refine g_imulN hC d_M_execute_170 ?_
      refine g_iload_n (i := 2) hC d_M_execute_171 rfl rfl ?_
      refine g_bipush (v := nI 6) hC d_M_execute_172 (by decide) ?_
      refine g_idivN hC d_M_execute_174 (by omega) (by omega) (by omega) ?_
      refine g_iaddN hC d_M_execute_175 ?_
      refine g_dup2 hC d_M_execute_176 rfl rfl ?_
      refine r_ld 8 hC (by decide) (by decide) rfl (fun _ => rfl) (by simp only [r_ln]; omega) d_M_execute_177 ?_
      rw [u2_ne (a := 8) (by omega), u2_ne (a := 8) (by omega)]
      refine g_iconst (v := nI 1) hC d_M_execute_178 (by decide) ?_
      refine g_iaddN hC d_M_execute_179 ?_
      refine r_st 8 hC (by decide) (by decide) rfl (fun _ => rfl) (by decide) (by omega) (by simp only [r_ln]; omega) d_M_execute_180 ?_
      refine g_vret hC hr hlk d_M_execute_181 (by decide) (by decide) (fun ad w hw => ?_)
      exact ⟨_, ex_era hE h6 rfl, hw⟩
    · exact absurd h6 h54
  · have hpin : s_pl σ o (s_vc σ site) ≤ σ 10 site := by
      rw [if_neg h6] at hpin
      omega
    have hc18 := hc18 h6
    refine g_aload_n (i := 0) hC d_M_execute_9 rfl rfl (Or.inr ⟨_, rfl⟩) ?_
    refine g_iload_n (i := 2) hC d_M_execute_10 rfl rfl ?_
    refine g_iload_n (i := 1) hC d_M_execute_11 rfl rfl ?_
    refine g_calli hC (g_runV (q := 200) (As := [_, _]) (st := []) hC g_NOK_N (r_placeFor l D S σ ad0 w0 o site hs h6 hIH.2.2.1 hIW.1 hX (pl_bound hIH)) (t_cwV 2 hC.1.2.2.2.2 m_394 m_396 ms_13 m_6 k_M_placeFor rfl rfl hd_M_placeFor ⟨by decide, by decide⟩) r_this rfl rfl rfl (Nat.le_of_ble_eq_true rfl) d_M_execute_12 ⟨by decide, by decide⟩) (fun r12 => ?_)
    refine g_ex (fun τ => g_and (fun e12 => ?_))
    obtain ⟨hE, rfl⟩ := e12
    refine g_goto (tgt := 29) hC d_M_execute_15 (by decide) ?_
    refine g_istore_n (i := 3) (lo' := [(3, _), (0, _), (1, _), (2, _)]) hC d_M_execute_29 rfl (by decide) rfl ?_
    refine g_aload_n (i := 0) hC d_M_execute_30 rfl rfl (Or.inr ⟨_, rfl⟩) ?_
    refine g_get hC (fun x h => List.mem_cons_of_mem _ (in_M x h)) 200 r_this rfl 7 (by decide) (List.mem_cons_of_mem _ m_327) rfl rfl d_M_execute_31 ?_
    refine g_bipush (v := nI 18) hC d_M_execute_34 (by decide) ?_
    refine g_iload_n (i := 1) hC d_M_execute_36 rfl rfl ?_
    refine g_imulN hC d_M_execute_37 ?_
    refine g_iload_n (i := 2) hC d_M_execute_38 rfl rfl ?_
    refine g_iaddN hC d_M_execute_39 ?_
    refine g_iload_n (i := 3) hC d_M_execute_40 rfl rfl ?_
    refine r_ste 7 hC (by decide) (by decide) rfl (fun _ => rfl) (by decide) (nI_pred _).symm (by omega) (by simp only [r_ln]; omega) d_M_execute_41 ?_
    refine g_pure r_bl_of (fun hb1 => ?_)
    refine g_bipush (v := nI 18) hC d_M_execute_42 (by decide) ?_
    refine g_iload_n (i := 1) hC d_M_execute_44 rfl rfl ?_
    refine g_imulN hC d_M_execute_45 ?_
    refine g_istore (i := 4) (lo' := [(4, _), (3, _), (0, _), (1, _), (2, _)]) hC d_M_execute_46 (by decide) rfl ?_
    refine g_aload_n (i := 0) hC d_M_execute_48 rfl rfl (Or.inr ⟨_, rfl⟩) ?_
    refine g_get hC (fun x h => List.mem_cons_of_mem _ (in_M x h)) 200 r_this rfl 2 (by decide) (List.mem_cons_of_mem _ m_322) rfl rfl d_M_execute_49 ?_
    refine g_iload_n (i := 2) hC d_M_execute_52 rfl rfl ?_
    refine r_zld 2 hC (by decide) (by decide) rfl (fun _ => rfl) (by simp only [r_ln]; omega) d_M_execute_53 ?_
    rw [u2_ne (a := 2) (by omega), hE 2 (by omega) (by omega)]
    refine g_if_eqN (tgt := 154) hC d_M_execute_54 (by decide) (r_lt hb _ _) (fun h54 => ?_) (fun h54 => ?_)
    · exact absurd h54 h6
    · refine g_aload_n (i := 0) hC d_M_execute_57 rfl rfl (Or.inr ⟨_, rfl⟩) ?_
      refine g_get hC (fun x h => List.mem_cons_of_mem _ (in_M x h)) 200 r_this rfl 10 (by decide) (List.mem_cons_of_mem _ m_330) rfl rfl d_M_execute_58 ?_
      refine g_iload_n (i := 1) hC d_M_execute_61 rfl rfl ?_
      refine r_ld 10 hC (by decide) (by decide) rfl (fun _ => rfl) (by simp only [r_ln]; omega) d_M_execute_62 ?_
      rw [u2_ne (a := 10) (by omega), hE 10 (by omega) (by omega)]
      refine g_istore (i := 5) (lo' := [(5, _), (4, _), (3, _), (0, _), (1, _), (2, _)]) hC d_M_execute_63 (by decide) rfl ?_
      rw [show RX S (u2 τ 7 (18 * site + o) (s_pl σ o (s_vc σ site) + 1)) ad0 w0 = RX S (shS (u2 τ 7 (18 * site + o) (s_pl σ o (s_vc σ site) + 1)) site (σ 10 site) (σ 10 site)) ad0 w0 by rw [shS_0]]
      refine g_los [3, 4, 5, 2, 1, 0] (lo' := [(0, _), (1, _), (2, _), (3, _), (4, _), (5, _)]) rfl ?_
      refine g_loop (ι := Nat) (pc0 := 65) (fun i => i) (fun i => s_pl σ o (s_vc σ site) ≤ i ∧ i ≤ σ 10 site) (fun i => RX S (shS (u2 τ 7 (18 * site + o) (s_pl σ o (s_vc σ site) + 1)) site i (σ 10 site)) ad0 w0) (fun i => [(0, .ref (ad0 200)), (1, .int (nI site)), (2, .int (nI o)), (3, .int (nI (s_pl σ o (s_vc σ site)))), (4, .int (nI (18 * site))), (5, .int (nI i))]) ?_ (σ 10 site) (⟨hpin, Nat.le_refl _⟩)
      rintro i hI ih
      try dsimp only at hI ih ⊢
      refine g_pure r_bl_of (fun hb2 => ?_)
      refine g_iload (i := 5) hC d_M_execute_65 rfl ?_
      refine g_iload_n (i := 3) hC d_M_execute_67 rfl rfl ?_
      refine g_icmp_leN (tgt := 121) hC d_M_execute_68 (by decide) (by first | omega | exact r_lt hb _ _ | exact pb_le _) (by first | omega | exact r_lt hb _ _ | exact pb_le _) (fun h68 => ?_) (fun h68 => ?_)
      · have e68 : i = s_pl σ o (s_vc σ site) := by omega
        subst e68
        refine g_aload_n (i := 0) hC d_M_execute_121 rfl rfl (Or.inr ⟨_, rfl⟩) ?_
        refine g_get hC (fun x h => List.mem_cons_of_mem _ (in_M x h)) 200 r_this rfl 11 (by decide) (List.mem_cons_of_mem _ m_331) rfl rfl d_M_execute_122 ?_
        refine g_iload (i := 4) hC d_M_execute_125 rfl ?_
        refine g_iload_n (i := 3) hC d_M_execute_127 rfl rfl ?_
        refine g_iaddN hC d_M_execute_128 ?_
        refine g_iload_n (i := 2) hC d_M_execute_129 rfl rfl ?_
        refine r_st 11 hC (by decide) (by decide) rfl (fun _ => rfl) (by decide) (by omega) (by simp only [r_ln]; omega) d_M_execute_130 ?_
        refine g_aload_n (i := 0) hC d_M_execute_131 rfl rfl (Or.inr ⟨_, rfl⟩) ?_
        refine g_get hC (fun x h => List.mem_cons_of_mem _ (in_M x h)) 200 r_this rfl 12 (by decide) (List.mem_cons_of_mem _ m_332) rfl rfl d_M_execute_132 ?_
        refine g_iload (i := 4) hC d_M_execute_135 rfl ?_
        refine g_iload_n (i := 3) hC d_M_execute_137 rfl rfl ?_
        refine g_iaddN hC d_M_execute_138 ?_
        refine g_iconst (v := nI 1) hC d_M_execute_139 (by decide) ?_
        refine r_zst 12 hC (by decide) (by decide) rfl (fun _ => rfl) (by decide) (by simp only [r_ln]; omega) d_M_execute_140 ?_
        refine g_aload_n (i := 0) hC d_M_execute_141 rfl rfl (Or.inr ⟨_, rfl⟩) ?_
        refine g_get hC (fun x h => List.mem_cons_of_mem _ (in_M x h)) 200 r_this rfl 10 (by decide) (List.mem_cons_of_mem _ m_330) rfl rfl d_M_execute_142 ?_
        refine g_iload_n (i := 1) hC d_M_execute_145 rfl rfl ?_
        refine g_dup2 hC d_M_execute_146 rfl rfl ?_
        refine r_ld 10 hC (by decide) (by decide) rfl (fun _ => rfl) (by simp only [r_ln]; omega) d_M_execute_147 ?_
        rw [u2_ne (a := 10) (by omega), u2_ne (a := 10) (by omega), shS_ne (k := 10) (by omega), u2_ne (a := 10) (by omega), hE 10 (by omega) (by omega)]
        refine g_iconst (v := nI 1) hC d_M_execute_148 (by decide) ?_
        refine g_iaddN hC d_M_execute_149 ?_
        refine r_st 10 hC (by decide) (by decide) rfl (fun _ => rfl) (by decide) (by omega) (by simp only [r_ln]; omega) d_M_execute_150 ?_
        refine g_goto (tgt := 164) hC d_M_execute_151 (by decide) ?_
        refine g_aload_n (i := 0) hC d_M_execute_164 rfl rfl (Or.inr ⟨_, rfl⟩) ?_
        refine g_get hC (fun x h => List.mem_cons_of_mem _ (in_M x h)) 200 r_this rfl 8 (by decide) (List.mem_cons_of_mem _ m_328) rfl rfl d_M_execute_165 ?_
        refine g_iconst (v := nI 3) hC d_M_execute_168 (by decide) ?_
        refine g_iload_n (i := 1) hC d_M_execute_169 rfl rfl ?_
        refine g_imulN hC d_M_execute_170 ?_
        refine g_iload_n (i := 2) hC d_M_execute_171 rfl rfl ?_
        refine g_bipush (v := nI 6) hC d_M_execute_172 (by decide) ?_
        refine g_idivN hC d_M_execute_174 (by omega) (by omega) (by omega) ?_
        refine g_iaddN hC d_M_execute_175 ?_
        refine g_dup2 hC d_M_execute_176 rfl rfl ?_
        refine r_ld 8 hC (by decide) (by decide) rfl (fun _ => rfl) (by simp only [r_ln]; omega) d_M_execute_177 ?_
        rw [u2_ne (a := 8) (by omega), u2_ne (a := 8) (by omega), u2_ne (a := 8) (by omega), shS_ne (k := 8) (by omega), u2_ne (a := 8) (by omega), hE 8 (by omega) (by omega)]
        refine g_iconst (v := nI 1) hC d_M_execute_178 (by decide) ?_
        refine g_iaddN hC d_M_execute_179 ?_
        refine r_st 8 hC (by decide) (by decide) rfl (fun _ => rfl) (by decide) (by omega) (by simp only [r_ln]; omega) d_M_execute_180 ?_
        refine g_vret hC hr hlk d_M_execute_181 (by decide) (by decide) (fun ad w hw => ?_)
        exact ⟨_, ex_ins hE h6 hpin rfl rfl, hw⟩
      · refine g_aload_n (i := 0) hC d_M_execute_71 rfl rfl (Or.inr ⟨_, rfl⟩) ?_
        refine g_get hC (fun x h => List.mem_cons_of_mem _ (in_M x h)) 200 r_this rfl 11 (by decide) (List.mem_cons_of_mem _ m_331) rfl rfl d_M_execute_72 ?_
        refine g_iload (i := 4) hC d_M_execute_75 rfl ?_
        refine g_iload (i := 5) hC d_M_execute_77 rfl ?_
        refine g_iaddN hC d_M_execute_79 ?_
        refine g_aload_n (i := 0) hC d_M_execute_80 rfl rfl (Or.inr ⟨_, rfl⟩) ?_
        refine g_get hC (fun x h => List.mem_cons_of_mem _ (in_M x h)) 200 r_this rfl 11 (by decide) (List.mem_cons_of_mem _ m_331) rfl rfl d_M_execute_81 ?_
        refine g_iload (i := 4) hC d_M_execute_84 rfl ?_
        refine g_iload (i := 5) hC d_M_execute_86 rfl ?_
        refine g_iaddN hC d_M_execute_88 ?_
        refine g_iconst (v := nI 1) hC d_M_execute_89 (by decide) ?_
        refine g_isubN hC d_M_execute_90 (by omega) ?_
        refine r_ld 11 hC (by decide) (by decide) rfl (fun _ => rfl) (by simp only [r_ln]; omega) d_M_execute_91 ?_
        refine r_st 11 hC (by decide) (by decide) rfl (fun _ => rfl) (by decide) (r_lt1 hb2 _ _) (by simp only [r_ln]; omega) d_M_execute_92 ?_
        refine g_aload_n (i := 0) hC d_M_execute_93 rfl rfl (Or.inr ⟨_, rfl⟩) ?_
        refine g_get hC (fun x h => List.mem_cons_of_mem _ (in_M x h)) 200 r_this rfl 12 (by decide) (List.mem_cons_of_mem _ m_332) rfl rfl d_M_execute_94 ?_
        refine g_iload (i := 4) hC d_M_execute_97 rfl ?_
        refine g_iload (i := 5) hC d_M_execute_99 rfl ?_
        refine g_iaddN hC d_M_execute_101 ?_
        refine g_aload_n (i := 0) hC d_M_execute_102 rfl rfl (Or.inr ⟨_, rfl⟩) ?_
        refine g_get hC (fun x h => List.mem_cons_of_mem _ (in_M x h)) 200 r_this rfl 12 (by decide) (List.mem_cons_of_mem _ m_332) rfl rfl d_M_execute_103 ?_
        refine g_iload (i := 4) hC d_M_execute_106 rfl ?_
        refine g_iload (i := 5) hC d_M_execute_108 rfl ?_
        refine g_iaddN hC d_M_execute_110 ?_
        refine g_iconst (v := nI 1) hC d_M_execute_111 (by decide) ?_
        refine g_isubN hC d_M_execute_112 (by omega) ?_
        refine r_zld 12 hC (by decide) (by decide) rfl (fun _ => rfl) (by simp only [r_ln]; omega) d_M_execute_113 ?_
        refine r_zst 12 hC (by decide) (by decide) rfl (fun _ => rfl) (by rw [u2_ne (by omega)]; exact (hb2 12 _).2 (by decide)) (by simp only [r_ln]; omega) d_M_execute_114 ?_
        refine g_iinc (i := 5) (k := 5) (lo' := [(5, _), (0, _), (1, _), (2, _), (3, _), (4, _)]) hC d_M_execute_115 rfl (nI_dec (by omega)) (by decide) rfl ?_
        refine g_goto (tgt := 65) hC d_M_execute_118 (by decide) ?_
        refine g_los [1, 2, 3, 4, 5, 0] rfl ?_
        rw [shS_s (by omega) hI.2 (shS_lo (by omega)) (by rw [u2_ne (by omega)]; exact shS_lo (by omega))]
        exact ih (i - 1) ⟨by omega, by omega⟩ (by omega)
