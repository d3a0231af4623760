/-! one and nought for true and false -/
noncomputable def pb (P : Prop) : Nat := by
  classical exact if P then 1 else 0
theorem pb_t {P : Prop} (h : P) : pb P = 1 := by
  unfold pb
  rw [if_pos h]
theorem pb_f {P : Prop} (h : ¬ P) : pb P = 0 := by
  unfold pb
  rw [if_neg h]
theorem pb_lt (P : Prop) : pb P < 2 := by
  unfold pb
  split <;> omega
theorem pb_le (P : Prop) : pb P < 2 ^ 31 := Nat.lt_of_lt_of_le (pb_lt P) (by decide)
theorem pb_0 {P : Prop} (h : pb P = 0) : ¬ P := fun q => by
  rw [pb_t q] at h
  cases h
theorem pb_1 {P : Prop} (h : pb P ≠ 0) : P := Classical.byContradiction fun q => h (pb_f q)
theorem pb_iff {P P' : Prop} (h : P ↔ P') : pb P = pb P' := by
  rw [show P = P' from propext h]
theorem nI_one {P : Prop} (h : P) : nI 1 = nI (pb P) := by rw [pb_t h]
theorem nI_zero {P : Prop} (h : ¬ P) : nI 0 = nI (pb P) := by rw [pb_f h]
def s_nw (σ : rS) (t : Nat) : Nat := if t < 3 then σ 14 t else 0
set_option maxRecDepth 100000 in
set_option maxHeartbeats 4000000 in
/-- isSite -/
theorem r_isSite (l : Launch) (D : va_G) (S : Nat) (σ : rS) (ad0 : Nat → Nat) (w0 : gW) (hS : S < 2 ^ 31) (x : Int32) : g_M l y_M_isSite w_M_isSite (rk 0) D gCl g_N [.ref (ad0 200), .int x] (RX S σ ad0 w0) 0 0 (fun A => g_Qi D gCl A (fun r ad w => r = nI (pb (∃ j, ix S x = some j)) ∧ RX S σ ad0 w0 ad w)) := by
  refine g_of (cc := c_M_isSite) (nL := 2) (ret := some .boolean) (by decide) rfl (Nat.le_of_ble_eq_true rfl) ?_
  intro pp ee ss mm bb me cc A hC hr hlk hnm
  refine g_los [0, 1] (lo' := [(0, .ref (ad0 200)), (1, .int x)]) rfl ?_
  refine g_pure r_bl_of (fun hb => ?_)
  refine g_iload_n (i := 1) hC d_M_isSite_0 rfl rfl ?_
  refine g_if_lt (tgt := 16) hC d_M_isSite_1 (by decide) (fun h1 => ?_) (fun h1 => ?_)
  · refine g_iconst (v := nI 0) hC d_M_isSite_16 (by decide) ?_
    refine g_zret hC hr hlk (r_nar2 (by decide)) d_M_isSite_17 (by decide) (by decide) (fun ad w hw => ?_)
    first
      | exact ⟨nI_zero (fun ⟨j, q⟩ => by rw [ix_neg h1] at q; cases q), hw⟩
      | exact ⟨nI_zero (fun ⟨j, q⟩ => by rw [ix_big hS h9] at q; cases q), hw⟩
      | (obtain ⟨j, -, -, q⟩ := ix_of hS h1 h9
         exact ⟨nI_one ⟨j, q⟩, hw⟩)
  · refine g_iload_n (i := 1) hC d_M_isSite_4 rfl rfl ?_
    refine g_aload_n (i := 0) hC d_M_isSite_5 rfl rfl (Or.inr ⟨_, rfl⟩) ?_
    refine g_get hC (fun x h => List.mem_cons_of_mem _ (in_M x h)) 200 r_this rfl 0 (by decide) (List.mem_cons_of_mem _ m_320) rfl rfl d_M_isSite_6 ?_
    refine g_icmp_ge (tgt := 16) hC d_M_isSite_9 (by decide) (fun h9 => ?_) (fun h9 => ?_)
    · refine g_iconst (v := nI 0) hC d_M_isSite_16 (by decide) ?_
      refine g_zret hC hr hlk (r_nar2 (by decide)) d_M_isSite_17 (by decide) (by decide) (fun ad w hw => ?_)
      first
        | exact ⟨nI_zero (fun ⟨j, q⟩ => by rw [ix_neg h1] at q; cases q), hw⟩
        | exact ⟨nI_zero (fun ⟨j, q⟩ => by rw [ix_big hS h9] at q; cases q), hw⟩
        | (obtain ⟨j, -, -, q⟩ := ix_of hS h1 h9
           exact ⟨nI_one ⟨j, q⟩, hw⟩)
    · refine g_iconst (v := nI 1) hC d_M_isSite_12 (by decide) ?_
      refine g_goto (tgt := 17) hC d_M_isSite_13 (by decide) ?_
      refine g_zret hC hr hlk (r_nar2 (by decide)) d_M_isSite_17 (by decide) (by decide) (fun ad w hw => ?_)
      first
        | exact ⟨nI_zero (fun ⟨j, q⟩ => by rw [ix_neg h1] at q; cases q), hw⟩
        | exact ⟨nI_zero (fun ⟨j, q⟩ => by rw [ix_big hS h9] at q; cases q), hw⟩
        | (obtain ⟨j, -, -, q⟩ := ix_of hS h1 h9
           exact ⟨nI_one ⟨j, q⟩, hw⟩)
set_option maxRecDepth 100000 in
set_option maxHeartbeats 4000000 in
theorem r_sites (l : Launch) (D : va_G) (S : Nat) (σ : rS) (ad0 : Nat → Nat) (w0 : gW)  : g_M l y_M_sites w_M_sites (rk 0) D gCl g_N [.ref (ad0 200)] (RX S σ ad0 w0) 0 0 (fun A => g_Qi D gCl A (fun r ad w => r = nI S ∧ RX S σ ad0 w0 ad w)) := by
  refine g_of (cc := c_M_sites) (nL := 1) (ret := some .int) (by decide) rfl (Nat.le_of_ble_eq_true rfl) ?_
  intro pp ee ss mm bb me cc A hC hr hlk hnm
  refine g_los [0] (lo' := [(0, .ref (ad0 200))]) rfl ?_
  refine g_pure r_bl_of (fun hb => ?_)
  refine g_aload_n (i := 0) hC d_M_sites_0 rfl rfl (Or.inr ⟨_, rfl⟩) ?_
  refine g_get hC (fun x h => List.mem_cons_of_mem _ (in_M x h)) 200 r_this rfl 0 (by decide) (List.mem_cons_of_mem _ m_320) rfl rfl d_M_sites_1 ?_
  refine g_iret hC hr hlk d_M_sites_4 (by decide) (by decide) (fun ad w hw => ?_)
  exact ⟨rfl, hw⟩
set_option maxRecDepth 100000 in
set_option maxHeartbeats 4000000 in
theorem r_has (l : Launch) (D : va_G) (S : Nat) (σ : rS) (ad0 : Nat → Nat) (w0 : gW) (o : Nat) (ho : o < 18) : g_M l y_M_has w_M_has (rk 0) D gCl g_N [.ref (ad0 200), .int (nI o)] (RX S σ ad0 w0) 0 0 (fun A => g_Qi D gCl A (fun r ad w => r = nI (pb (o % 6 < σ 14 (o / 6))) ∧ RX S σ ad0 w0 ad w)) := by
  refine g_of (cc := c_M_has) (nL := 2) (ret := some .boolean) (by decide) rfl (Nat.le_of_ble_eq_true rfl) ?_
  intro pp ee ss mm bb me cc A hC hr hlk hnm
  refine g_los [0, 1] (lo' := [(0, .ref (ad0 200)), (1, .int (nI o))]) rfl ?_
  refine g_pure r_bl_of (fun hb => ?_)
  refine g_iload_n (i := 1) hC d_M_has_0 rfl rfl ?_
  refine g_bipush (v := nI 6) hC d_M_has_1 (by decide) ?_
  refine g_iremN hC d_M_has_3 (by omega) (by omega) (by omega) ?_
  refine g_aload_n (i := 0) hC d_M_has_4 rfl rfl (Or.inr ⟨_, rfl⟩) ?_
  refine g_get hC (fun x h => List.mem_cons_of_mem _ (in_M x h)) 200 r_this rfl 14 (by decide) (List.mem_cons_of_mem _ m_334) rfl rfl d_M_has_5 ?_
  refine g_iload_n (i := 1) hC d_M_has_8 rfl rfl ?_
  refine g_bipush (v := nI 6) hC d_M_has_9 (by decide) ?_
  refine g_idivN hC d_M_has_11 (by omega) (by omega) (by omega) ?_
  refine r_ld 14 hC (by decide) (by decide) rfl (fun _ => rfl) (by simp only [r_ln]; omega) d_M_has_12 ?_
  refine g_icmp_geN (tgt := 20) hC d_M_has_13 (by decide) (by first | omega | exact r_lt hb _ _ | exact pb_le _) (by first | omega | exact r_lt hb _ _ | exact pb_le _) (fun h13 => ?_) (fun h13 => ?_)
  · refine g_iconst (v := nI 0) hC d_M_has_20 (by decide) ?_
    refine g_zret hC hr hlk (r_nar2 (by decide)) d_M_has_21 (by decide) (by decide) (fun ad w hw => ?_)
    first
      | exact ⟨nI_one h13, hw⟩
      | exact ⟨nI_zero (by omega), hw⟩
  · refine g_iconst (v := nI 1) hC d_M_has_16 (by decide) ?_
    refine g_goto (tgt := 21) hC d_M_has_17 (by decide) ?_
    refine g_zret hC hr hlk (r_nar2 (by decide)) d_M_has_21 (by decide) (by decide) (fun ad w hw => ?_)
    first
      | exact ⟨nI_one h13, hw⟩
      | exact ⟨nI_zero (by omega), hw⟩
set_option maxRecDepth 100000 in
set_option maxHeartbeats 4000000 in
theorem r_covers (l : Launch) (D : va_G) (S : Nat) (σ : rS) (ad0 : Nat → Nat) (w0 : gW) (o : Nat) (ho : o < 18) : g_M l y_M_covers w_M_covers (rk 0) D gCl g_N [.ref (ad0 200), .int (nI o)] (RX S σ ad0 w0) 0 0 (fun A => g_Qi D gCl A (fun r ad w => r = nI (pb (σ 5 (3 * o) ≤ σ 14 0 ∧ σ 5 (3 * o + 1) ≤ σ 14 1 ∧ σ 5 (3 * o + 2) ≤ σ 14 2)) ∧ RX S σ ad0 w0 ad w)) := by
  refine g_of (cc := c_M_covers) (nL := 2) (ret := some .boolean) (by decide) rfl (Nat.le_of_ble_eq_true rfl) ?_
  intro pp ee ss mm bb me cc A hC hr hlk hnm
  refine g_los [0, 1] (lo' := [(0, .ref (ad0 200)), (1, .int (nI o))]) rfl ?_
  refine g_pure r_bl_of (fun hb => ?_)
  refine g_aload_n (i := 0) hC d_M_covers_0 rfl rfl (Or.inr ⟨_, rfl⟩) ?_
  refine g_get hC (fun x h => List.mem_cons_of_mem _ (in_M x h)) 200 r_this rfl 5 (by decide) (List.mem_cons_of_mem _ m_325) rfl rfl d_M_covers_1 ?_
  refine g_iconst (v := nI 3) hC d_M_covers_4 (by decide) ?_
  refine g_iload_n (i := 1) hC d_M_covers_5 rfl rfl ?_
  refine g_imulN hC d_M_covers_6 ?_
  refine r_ld 5 hC (by decide) (by decide) rfl (fun _ => rfl) (by simp only [r_ln]; omega) d_M_covers_7 ?_
  refine g_aload_n (i := 0) hC d_M_covers_8 rfl rfl (Or.inr ⟨_, rfl⟩) ?_
  refine g_get hC (fun x h => List.mem_cons_of_mem _ (in_M x h)) 200 r_this rfl 14 (by decide) (List.mem_cons_of_mem _ m_334) rfl rfl d_M_covers_9 ?_
  refine g_iconst (v := nI 0) hC d_M_covers_12 (by decide) ?_
  refine r_ld 14 hC (by decide) (by decide) rfl (fun _ => rfl) (by simp only [r_ln]; omega) d_M_covers_13 ?_
  refine g_icmp_gtN (tgt := 59) hC d_M_covers_14 (by decide) (by first | omega | exact r_lt hb _ _ | exact pb_le _) (by first | omega | exact r_lt hb _ _ | exact pb_le _) (fun h14 => ?_) (fun h14 => ?_)
  · refine g_iconst (v := nI 0) hC d_M_covers_59 (by decide) ?_
    refine g_zret hC hr hlk (r_nar2 (by decide)) d_M_covers_60 (by decide) (by decide) (fun ad w hw => ?_)
    first
      | exact ⟨nI_one ⟨by omega, by omega, by omega⟩, hw⟩
      | exact ⟨nI_zero (by omega), hw⟩
  · refine g_aload_n (i := 0) hC d_M_covers_17 rfl rfl (Or.inr ⟨_, rfl⟩) ?_
    refine g_get hC (fun x h => List.mem_cons_of_mem _ (in_M x h)) 200 r_this rfl 5 (by decide) (List.mem_cons_of_mem _ m_325) rfl rfl d_M_covers_18 ?_
    refine g_iconst (v := nI 3) hC d_M_covers_21 (by decide) ?_
    refine g_iload_n (i := 1) hC d_M_covers_22 rfl rfl ?_
    refine g_imulN hC d_M_covers_23 ?_
    refine g_iconst (v := nI 1) hC d_M_covers_24 (by decide) ?_
    refine g_iaddN hC d_M_covers_25 ?_
    refine r_ld 5 hC (by decide) (by decide) rfl (fun _ => rfl) (by simp only [r_ln]; omega) d_M_covers_26 ?_
    refine g_aload_n (i := 0) hC d_M_covers_27 rfl rfl (Or.inr ⟨_, rfl⟩) ?_
    refine g_get hC (fun x h => List.mem_cons_of_mem _ (in_M x h)) 200 r_this rfl 14 (by decide) (List.mem_cons_of_mem _ m_334) rfl rfl d_M_covers_28 ?_
    refine g_iconst (v := nI 1) hC d_M_covers_31 (by decide) ?_
    refine r_ld 14 hC (by decide) (by decide) rfl (fun _ => rfl) (by simp only [r_ln]; omega) d_M_covers_32 ?_
    refine g_icmp_gtN (tgt := 59) hC d_M_covers_33 (by decide) (by first | omega | exact r_lt hb _ _ | exact pb_le _) (by first | omega | exact r_lt hb _ _ | exact pb_le _) (fun h33 => ?_) (fun h33 => ?_)
    · refine g_iconst (v := nI 0) hC d_M_covers_59 (by decide) ?_
      refine g_zret hC hr hlk (r_nar2 (by decide)) d_M_covers_60 (by decide) (by decide) (fun ad w hw => ?_)
      first
        | exact ⟨nI_one ⟨by omega, by omega, by omega⟩, hw⟩
        | exact ⟨nI_zero (by omega), hw⟩
    · refine g_aload_n (i := 0) hC d_M_covers_36 rfl rfl (Or.inr ⟨_, rfl⟩) ?_
      refine g_get hC (fun x h => List.mem_cons_of_mem _ (in_M x h)) 200 r_this rfl 5 (by decide) (List.mem_cons_of_mem _ m_325) rfl rfl d_M_covers_37 ?_
      refine g_iconst (v := nI 3) hC d_M_covers_40 (by decide) ?_
      refine g_iload_n (i := 1) hC d_M_covers_41 rfl rfl ?_
      refine g_imulN hC d_M_covers_42 ?_
      refine g_iconst (v := nI 2) hC d_M_covers_43 (by decide) ?_
      refine g_iaddN hC d_M_covers_44 ?_
      refine r_ld 5 hC (by decide) (by decide) rfl (fun _ => rfl) (by simp only [r_ln]; omega) d_M_covers_45 ?_
      refine g_aload_n (i := 0) hC d_M_covers_46 rfl rfl (Or.inr ⟨_, rfl⟩) ?_
      refine g_get hC (fun x h => List.mem_cons_of_mem _ (in_M x h)) 200 r_this rfl 14 (by decide) (List.mem_cons_of_mem _ m_334) rfl rfl d_M_covers_47 ?_
      refine g_iconst (v := nI 2) hC d_M_covers_50 (by decide) ?_
      refine r_ld 14 hC (by decide) (by decide) rfl (fun _ => rfl) (by simp only [r_ln]; omega) d_M_covers_51 ?_
      refine g_icmp_gtN (tgt := 59) hC d_M_covers_52 (by decide) (by first | omega | exact r_lt hb _ _ | exact pb_le _) (by first | omega | exact r_lt hb _ _ | exact pb_le _) (fun h52 => ?_) (fun h52 => ?_)
      · refine g_iconst (v := nI 0) hC d_M_covers_59 (by decide) ?_
        refine g_zret hC hr hlk (r_nar2 (by decide)) d_M_covers_60 (by decide) (by decide) (fun ad w hw => ?_)
        first
          | exact ⟨nI_one ⟨by omega, by omega, by omega⟩, hw⟩
          | exact ⟨nI_zero (by omega), hw⟩
      · refine g_iconst (v := nI 1) hC d_M_covers_55 (by decide) ?_
        refine g_goto (tgt := 60) hC d_M_covers_56 (by decide) ?_
        refine g_zret hC hr hlk (r_nar2 (by decide)) d_M_covers_60 (by decide) (by decide) (fun ad w hw => ?_)
        first
          | exact ⟨nI_one ⟨by omega, by omega, by omega⟩, hw⟩
          | exact ⟨nI_zero (by omega), hw⟩
set_option maxRecDepth 100000 in
set_option maxHeartbeats 4000000 in
theorem r_index (l : Launch) (D : va_G) (S : Nat) (σ : rS) (ad0 : Nat → Nat) (w0 : gW) (o : Nat) (ho : o < 18) : g_M l y_M_index w_M_index (rk 0) D gCl g_N [.ref (ad0 200), .int (nI o)] (RX S σ ad0 w0) 0 0 (fun A => g_Qi D gCl A (fun r ad w => r = nI (343 * o + σ 14 0 + 7 * σ 14 1 + 49 * σ 14 2) ∧ RX S σ ad0 w0 ad w)) := by
  refine g_of (cc := c_M_index) (nL := 2) (ret := some .int) (by decide) rfl (Nat.le_of_ble_eq_true rfl) ?_
  intro pp ee ss mm bb me cc A hC hr hlk hnm
  refine g_los [0, 1] (lo' := [(0, .ref (ad0 200)), (1, .int (nI o))]) rfl ?_
  refine g_pure r_bl_of (fun hb => ?_)
  refine g_sipush (v := nI 343) hC d_M_index_0 (by decide) ?_
  refine g_iload_n (i := 1) hC d_M_index_3 rfl rfl ?_
  refine g_imulN hC d_M_index_4 ?_
  refine g_aload_n (i := 0) hC d_M_index_5 rfl rfl (Or.inr ⟨_, rfl⟩) ?_
  refine g_get hC (fun x h => List.mem_cons_of_mem _ (in_M x h)) 200 r_this rfl 14 (by decide) (List.mem_cons_of_mem _ m_334) rfl rfl d_M_index_6 ?_
  refine g_iconst (v := nI 0) hC d_M_index_9 (by decide) ?_
  refine r_ld 14 hC (by decide) (by decide) rfl (fun _ => rfl) (by simp only [r_ln]; omega) d_M_index_10 ?_
  refine g_iaddN hC d_M_index_11 ?_
  refine g_bipush (v := nI 7) hC d_M_index_12 (by decide) ?_
  refine g_aload_n (i := 0) hC d_M_index_14 rfl rfl (Or.inr ⟨_, rfl⟩) ?_
  refine g_get hC (fun x h => List.mem_cons_of_mem _ (in_M x h)) 200 r_this rfl 14 (by decide) (List.mem_cons_of_mem _ m_334) rfl rfl d_M_index_15 ?_
  refine g_iconst (v := nI 1) hC d_M_index_18 (by decide) ?_
  refine r_ld 14 hC (by decide) (by decide) rfl (fun _ => rfl) (by simp only [r_ln]; omega) d_M_index_19 ?_
  refine g_imulN hC d_M_index_20 ?_
  refine g_iaddN hC d_M_index_21 ?_
  refine g_bipush (v := nI 49) hC d_M_index_22 (by decide) ?_
  refine g_aload_n (i := 0) hC d_M_index_24 rfl rfl (Or.inr ⟨_, rfl⟩) ?_
  refine g_get hC (fun x h => List.mem_cons_of_mem _ (in_M x h)) 200 r_this rfl 14 (by decide) (List.mem_cons_of_mem _ m_334) rfl rfl d_M_index_25 ?_
  refine g_iconst (v := nI 2) hC d_M_index_28 (by decide) ?_
  refine r_ld 14 hC (by decide) (by decide) rfl (fun _ => rfl) (by simp only [r_ln]; omega) d_M_index_29 ?_
  refine g_imulN hC d_M_index_30 ?_
  refine g_iaddN hC d_M_index_31 ?_
  refine g_iret hC hr hlk d_M_index_32 (by decide) (by decide) (fun ad w hw => ?_)
  exact ⟨rfl, hw⟩
set_option maxRecDepth 100000 in
set_option maxHeartbeats 4000000 in
theorem r_moved (l : Launch) (D : va_G) (S : Nat) (σ : rS) (ad0 : Nat → Nat) (w0 : gW) (x p y q : Nat) (hx : x < 18) (hp : p < 1000) (hy : y < 18) (hq : q < 1000) : g_M l y_M_moved w_M_moved (rk 0) D gCl g_N [.int (nI x), .int (nI p), .int (nI y), .int (nI q)] (RX S σ ad0 w0) 0 0 (fun A => g_Qi D gCl A (fun r ad w => r = nI (mmv 1 (x / 6) p 1 (y / 6) q) ∧ RX S σ ad0 w0 ad w)) := by
  refine g_of (cc := c_M_moved) (nL := 4) (ret := some .int) (by decide) rfl (Nat.le_of_ble_eq_true rfl) ?_
  intro pp ee ss mm bb me cc A hC hr hlk hnm
  refine g_los [0, 1, 2, 3] (lo' := [(0, .int (nI x)), (1, .int (nI p)), (2, .int (nI y)), (3, .int (nI q))]) rfl ?_
  refine g_pure r_bl_of (fun hb => ?_)
  refine g_iload_n (i := 1) hC d_M_moved_0 rfl rfl ?_
  refine g_iload_n (i := 3) hC d_M_moved_1 rfl rfl ?_
  refine g_icmp_ltN (tgt := 21) hC d_M_moved_2 (by decide) (by first | omega | exact r_lt hb _ _ | exact pb_le _) (by first | omega | exact r_lt hb _ _ | exact pb_le _) (fun h2 => ?_) (fun h2 => ?_)
  · refine g_iload_n (i := 1) hC d_M_moved_21 rfl rfl ?_
    refine g_goto (tgt := 28) hC d_M_moved_22 (by decide) ?_
    refine g_iret hC hr hlk d_M_moved_28 (by decide) (by decide) (fun ad w hw => ?_)
    first
      | exact ⟨congrArg nI (mmv_2 (by omega)).symm, hw⟩
      | exact ⟨congrArg nI (mmv_1 (by omega)).symm, hw⟩
  · refine g_iload_n (i := 1) hC d_M_moved_5 rfl rfl ?_
    refine g_iload_n (i := 3) hC d_M_moved_6 rfl rfl ?_
    refine g_icmp_neN (tgt := 25) hC d_M_moved_7 (by decide) (by first | omega | exact r_lt hb _ _ | exact pb_le _) (by first | omega | exact r_lt hb _ _ | exact pb_le _) (fun h7 => ?_) (fun h7 => ?_)
    · refine g_iload_n (i := 1) hC d_M_moved_25 rfl rfl ?_
      refine g_iconst (v := nI 1) hC d_M_moved_26 (by decide) ?_
      refine g_iaddN hC d_M_moved_27 ?_
      refine g_iret hC hr hlk d_M_moved_28 (by decide) (by decide) (fun ad w hw => ?_)
      first
        | exact ⟨congrArg nI (mmv_2 (by omega)).symm, hw⟩
        | exact ⟨congrArg nI (mmv_1 (by omega)).symm, hw⟩
    · refine g_iload_n (i := 0) hC d_M_moved_10 rfl rfl ?_
      refine g_bipush (v := nI 6) hC d_M_moved_11 (by decide) ?_
      refine g_idivN hC d_M_moved_13 (by omega) (by omega) (by omega) ?_
      refine g_iload_n (i := 2) hC d_M_moved_14 rfl rfl ?_
      refine g_bipush (v := nI 6) hC d_M_moved_15 (by decide) ?_
      refine g_idivN hC d_M_moved_17 (by omega) (by omega) (by omega) ?_
      refine g_icmp_geN (tgt := 25) hC d_M_moved_18 (by decide) (by first | omega | exact r_lt hb _ _ | exact pb_le _) (by first | omega | exact r_lt hb _ _ | exact pb_le _) (fun h18 => ?_) (fun h18 => ?_)
      · refine g_iload_n (i := 1) hC d_M_moved_25 rfl rfl ?_
        refine g_iconst (v := nI 1) hC d_M_moved_26 (by decide) ?_
        refine g_iaddN hC d_M_moved_27 ?_
        refine g_iret hC hr hlk d_M_moved_28 (by decide) (by decide) (fun ad w hw => ?_)
        first
          | exact ⟨congrArg nI (mmv_2 (by omega)).symm, hw⟩
          | exact ⟨congrArg nI (mmv_1 (by omega)).symm, hw⟩
      · refine g_iload_n (i := 1) hC d_M_moved_21 rfl rfl ?_
        refine g_goto (tgt := 28) hC d_M_moved_22 (by decide) ?_
        refine g_iret hC hr hlk d_M_moved_28 (by decide) (by decide) (fun ad w hw => ?_)
        first
          | exact ⟨congrArg nI (mmv_2 (by omega)).symm, hw⟩
          | exact ⟨congrArg nI (mmv_1 (by omega)).symm, hw⟩
