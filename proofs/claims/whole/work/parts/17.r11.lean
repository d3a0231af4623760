/-- x, y are the site and the number of an operation that was made -/
def MD (S : Nat) (σ : rS) (x y : Int32) (s k : Nat) : Prop := x = nI s ∧ s < S ∧ y = nI k ∧ k < σ 1 s
theorem MD.opn {S : Nat} {σ : rS} (h : INV S σ) {x y : Int32} {s k : Nat} (hm : MD S σ x y s k) : mh (s_mk σ) (6 * s + k) ∧ 6 * s + k < 18 ∧ (6 * s + k) / 6 = s ∧ (6 * s + k) % 6 = k ∧ k < 6 := by
  have h6 := h.m6 hm.2.1
  have h3 := h.S3
  obtain ⟨-, a, -, b⟩ := hm
  have e1 : (6 * s + k) / 6 = s := by omega
  have e2 : (6 * s + k) % 6 = k := by omega
  refine ⟨?_, by omega, e1, e2, by omega⟩
  unfold mh
  rw [e1, e2, s_mk_lt (by omega)]
  exact b
def DlOK (S : Nat) (σ : rS) (t f y : Int32) (s s' k : Nat) : Prop := t = nI s ∧ s < S ∧ MD S σ f y s' k ∧ s ≠ s' ∧ σ 6 (18 * s + (6 * s' + k)) = 0
def SpDl (S : Nat) (σ : rS) (t f y : Int32) (r : Int32) (σs : rS) : Prop := (∃ s s' k n, DlOK S σ t f y s s' k ∧ WK s n (arS σ s (6 * s' + k)) σs ∧ r = nI n) ∨ ((¬ ∃ s s' k, DlOK S σ t f y s s' k) ∧ r = -1 ∧ σs = σ)
theorem ar_eq {σ : rS} {s a b : Nat} : u2 σ 6 (18 * s + a + b) 1 = arS σ s (a + b) := by
  funext k j
  unfold u2 arS
  rw [Nat.add_assoc]
set_option maxRecDepth 100000 in
set_option maxHeartbeats 4000000 in
theorem r_isMade (l : Launch) (D : va_G) (S : Nat) (σ : rS) (ad0 : Nat → Nat) (w0 : gW) (hInv : INV S σ) (x y : Int32) : g_M l y_M_isMade w_M_isMade (rk 1) D gCl g_N [.ref (ad0 200), .int x, .int y] (RX S σ ad0 w0) 0 0 (fun A => g_Qi D gCl A (fun r ad w => r = nI (pb (∃ s k, MD S σ x y s k)) ∧ RX S σ ad0 w0 ad w)) := by
  have hS3 := hInv.S3
  refine g_of (cc := c_M_isMade) (nL := 3) (ret := some .boolean) (by decide) rfl (Nat.le_of_ble_eq_true rfl) ?_
  intro pp ee ss mm bb me cc A hC hr hlk hnm
  refine g_los [0, 1, 2] (lo' := [(0, .ref (ad0 200)), (1, .int x), (2, .int y)]) rfl ?_
  refine g_pure r_bl_of (fun hb => ?_)
  refine g_aload_n (i := 0) hC d_M_isMade_0 rfl rfl (Or.inr ⟨_, rfl⟩) ?_
  refine g_iload_n (i := 1) hC d_M_isMade_1 rfl rfl ?_
  refine g_calli hC (g_runV (q := 200) (As := [_]) (st := []) hC g_NOK_N (r_isSite l D S σ ad0 w0 (by omega) (x)) (t_cwV 1 hC.1.2.2.2.2 m_374 m_376 ms_9 m_6 k_M_isSite rfl rfl hd_M_isSite ⟨by decide, by decide⟩) r_this rfl rfl rfl (Nat.le_of_ble_eq_true rfl) d_M_isMade_2 ⟨by decide, by decide⟩) (fun r2 => ?_)
  refine g_and (fun e => ?_)
  subst e
  refine g_if_eqN (tgt := 26) hC d_M_isMade_5 (by decide) (pb_le _) (fun h5 => ?_) (fun h5 => ?_)
  · have g5 := pb_0 h5
    refine g_iconst (v := nI 0) hC d_M_isMade_26 (by decide) ?_
    refine g_zret hC hr hlk (r_nar2 (by decide)) d_M_isMade_27 (by decide) (by decide) (fun ad w hw => ?_)
    exact ⟨nI_zero (fun ⟨s', k, h⟩ => g5 ⟨s', by rw [h.1]; exact ix_nI (by omega) h.2.1⟩), hw⟩
  · have g5 := pb_1 h5
    obtain ⟨s, hxs⟩ := g5
    obtain ⟨hsS, rfl⟩ := ix_some (by omega) hxs
    refine g_iload_n (i := 2) hC d_M_isMade_8 rfl rfl ?_
    refine g_if_lt (tgt := 26) hC d_M_isMade_9 (by decide) (fun h9 => ?_) (fun h9 => ?_)
    · refine g_iconst (v := nI 0) hC d_M_isMade_26 (by decide) ?_
      refine g_zret hC hr hlk (r_nar2 (by decide)) d_M_isMade_27 (by decide) (by decide) (fun ad w hw => ?_)
      exact ⟨nI_zero (fun ⟨s', k, h⟩ => absurd h9 (by have := hInv.m6 h.2.1; have := h.2.2.2; rw [h.2.2.1]; exact nI_pos (by omega))), hw⟩
    · refine g_iload_n (i := 2) hC d_M_isMade_12 rfl rfl ?_
      refine g_aload_n (i := 0) hC d_M_isMade_13 rfl rfl (Or.inr ⟨_, rfl⟩) ?_
      refine g_get hC (fun x h => List.mem_cons_of_mem _ (in_M x h)) 200 r_this rfl 1 (by decide) (List.mem_cons_of_mem _ m_321) rfl rfl d_M_isMade_14 ?_
      refine g_iload_n (i := 1) hC d_M_isMade_17 rfl rfl ?_
      refine r_ld 1 hC (by decide) (by decide) rfl (fun _ => rfl) (by simp only [r_ln]; omega) d_M_isMade_18 ?_
      refine g_icmp_ge (tgt := 26) hC d_M_isMade_19 (by decide) (fun h19 => ?_) (fun h19 => ?_)
      · refine g_iconst (v := nI 0) hC d_M_isMade_26 (by decide) ?_
        refine g_zret hC hr hlk (r_nar2 (by decide)) d_M_isMade_27 (by decide) (by decide) (fun ad w hw => ?_)
        exact ⟨nI_zero (fun ⟨s', k, h⟩ => by
          have e := nI_inj h.1 (by omega) (by have := h.2.1; omega)
          subst e
          have h6 := hInv.m6 hsS
          have h7 := h.2.2.2
          rw [h.2.2.1] at h19
          have := (nI_leI (by omega) (by omega)).mp h19
          omega), hw⟩
      · refine g_iconst (v := nI 1) hC d_M_isMade_22 (by decide) ?_
        refine g_goto (tgt := 27) hC d_M_isMade_23 (by decide) ?_
        refine g_zret hC hr hlk (r_nar2 (by decide)) d_M_isMade_27 (by decide) (by decide) (fun ad w hw => ?_)
        obtain ⟨k, hk, rfl⟩ := nI_of h9
        have h6 := hInv.m6 hsS
        exact ⟨nI_one ⟨s, k, rfl, hsS, rfl, Nat.lt_of_not_le (fun z => h19 ((nI_leI (by omega) (by omega)).mpr z))⟩, hw⟩
set_option maxRecDepth 100000 in
set_option maxHeartbeats 4000000 in
theorem r_deliver (l : Launch) (D : va_G) (S : Nat) (σ : rS) (ad0 : Nat → Nat) (w0 : gW) (hInv : INV S σ) (t f y : Int32) : g_M l y_M_deliver w_M_deliver (rk 6) D gCl g_N [.ref (ad0 200), .int t, .int f, .int y] (RX S σ ad0 w0) 0 0 (fun A => g_Qi D gCl A (fun r ad w => ∃ σs σ', ((SpDl S σ t f y r σs ∧ INV S σs) ∧ E12 σs σ') ∧ RX S σ' ad0 w0 ad w)) := by
  have hS3 := hInv.S3
  refine g_of (cc := c_M_deliver) (nL := 4) (ret := some .int) (by decide) rfl (Nat.le_of_ble_eq_true rfl) ?_
  intro pp ee ss mm bb me cc A hC hr hlk hnm
  refine g_los [0, 1, 2, 3] (lo' := [(0, .ref (ad0 200)), (1, .int t), (2, .int f), (3, .int y)]) rfl ?_
  refine g_pure r_bl_of (fun hb => ?_)
  refine g_aload_n (i := 0) hC d_M_deliver_0 rfl rfl (Or.inr ⟨_, rfl⟩) ?_
  refine g_iload_n (i := 1) hC d_M_deliver_1 rfl rfl ?_
  refine g_calli hC (g_runV (q := 200) (As := [_]) (st := []) hC g_NOK_N (r_isSite l D S σ ad0 w0 (by omega) (t)) (t_cwV 1 hC.1.2.2.2.2 m_374 m_376 ms_9 m_6 k_M_isSite rfl rfl hd_M_isSite ⟨by decide, by decide⟩) r_this rfl rfl rfl (Nat.le_of_ble_eq_true rfl) d_M_deliver_2 ⟨by decide, by decide⟩) (fun r2 => ?_)
  refine g_and (fun e => ?_)
  subst e
  refine g_if_eqN (tgt := 41) hC d_M_deliver_5 (by decide) (pb_le _) (fun h5 => ?_) (fun h5 => ?_)
  · have g5 := pb_0 h5
    refine g_iconst (v := -1) hC d_M_deliver_41 (by decide) ?_
    refine g_iret hC hr hlk d_M_deliver_42 (by decide) (by decide) (fun ad w hw => ?_)
    exact ⟨σ, σ, ⟨⟨Or.inr ⟨fun ⟨s1, s2, k2, h⟩ => g5 ⟨s1, by rw [h.1]; exact ix_nI (by omega) h.2.1⟩, rfl, rfl⟩, hInv⟩, E12.refl σ⟩, hw⟩
  · have g5 := pb_1 h5
    obtain ⟨s, hxs⟩ := g5
    obtain ⟨hsS, rfl⟩ := ix_some (by omega) hxs
    refine g_iload_n (i := 1) hC d_M_deliver_8 rfl rfl ?_
    refine g_iload_n (i := 2) hC d_M_deliver_9 rfl rfl ?_
    refine g_icmp_eq (tgt := 41) hC d_M_deliver_10 (by decide) (fun h10 => ?_) (fun h10 => ?_)
    · refine g_iconst (v := -1) hC d_M_deliver_41 (by decide) ?_
      refine g_iret hC hr hlk d_M_deliver_42 (by decide) (by decide) (fun ad w hw => ?_)
      exact ⟨σ, σ, ⟨⟨Or.inr ⟨fun ⟨s1, s2, k2, h⟩ => by
        have e := nI_inj h.1 (by omega) (by have := h.2.1; omega)
        have e2 := nI_inj (h10.trans h.2.2.1.1) (by omega) (by have := h.2.2.1.2.1; omega)
        exact h.2.2.2.1 (e.symm.trans e2), rfl, rfl⟩, hInv⟩, E12.refl σ⟩, hw⟩
    · refine g_aload_n (i := 0) hC d_M_deliver_13 rfl rfl (Or.inr ⟨_, rfl⟩) ?_
      refine g_iload_n (i := 2) hC d_M_deliver_14 rfl rfl ?_
      refine g_iload_n (i := 3) hC d_M_deliver_15 rfl rfl ?_
      refine g_calli hC (g_runV (q := 200) (As := [_, _]) (st := []) hC g_NOK_N (r_isMade l D S σ ad0 w0 hInv f y) (t_cwV 2 hC.1.2.2.2.2 m_437 m_439 ms_21 m_6 k_M_isMade rfl rfl hd_M_isMade ⟨by decide, by decide⟩) r_this rfl rfl rfl (Nat.le_of_ble_eq_true rfl) d_M_deliver_16 ⟨by decide, by decide⟩) (fun r16 => ?_)
      refine g_and (fun e => ?_)
      subst e
      refine g_if_eqN (tgt := 41) hC d_M_deliver_19 (by decide) (pb_le _) (fun h19 => ?_) (fun h19 => ?_)
      · have g19 := pb_0 h19
        refine g_iconst (v := -1) hC d_M_deliver_41 (by decide) ?_
        refine g_iret hC hr hlk d_M_deliver_42 (by decide) (by decide) (fun ad w hw => ?_)
        exact ⟨σ, σ, ⟨⟨Or.inr ⟨fun ⟨s1, s2, k2, h⟩ => g19 ⟨s2, k2, h.2.2.1⟩, rfl, rfl⟩, hInv⟩, E12.refl σ⟩, hw⟩
      · have g19 := pb_1 h19
        obtain ⟨s', k, hmd⟩ := g19
        obtain ⟨rfl, hs', rfl, hk⟩ := id hmd
        obtain ⟨hmh, ho18, hod, hom, hk6⟩ := MD.opn hInv hmd
        have hne : s ≠ s' := fun e => h10 (by rw [e])
        refine g_aload_n (i := 0) hC d_M_deliver_22 rfl rfl (Or.inr ⟨_, rfl⟩) ?_
        refine g_get hC (fun x h => List.mem_cons_of_mem _ (in_M x h)) 200 r_this rfl 6 (by decide) (List.mem_cons_of_mem _ m_326) rfl rfl d_M_deliver_23 ?_
        refine g_bipush (v := nI 18) hC d_M_deliver_26 (by decide) ?_
        refine g_iload_n (i := 1) hC d_M_deliver_28 rfl rfl ?_
        refine g_imulN hC d_M_deliver_29 ?_
        refine g_bipush (v := nI 6) hC d_M_deliver_30 (by decide) ?_
        refine g_iload_n (i := 2) hC d_M_deliver_32 rfl rfl ?_
        refine g_imulN hC d_M_deliver_33 ?_
        refine g_iaddN hC d_M_deliver_34 ?_
        refine g_iload_n (i := 3) hC d_M_deliver_35 rfl rfl ?_
        refine g_iaddN hC d_M_deliver_36 ?_
        refine r_zld 6 hC (by decide) (by decide) rfl (fun _ => rfl) (by simp only [r_ln]; omega) d_M_deliver_37 ?_
        refine g_if_eqN (tgt := 43) hC d_M_deliver_38 (by decide) (r_lt hb _ _) (fun h38 => ?_) (fun h38 => ?_)
        · refine g_aload_n (i := 0) hC d_M_deliver_43 rfl rfl (Or.inr ⟨_, rfl⟩) ?_
          refine g_get hC (fun x h => List.mem_cons_of_mem _ (in_M x h)) 200 r_this rfl 6 (by decide) (List.mem_cons_of_mem _ m_326) rfl rfl d_M_deliver_44 ?_
          refine g_bipush (v := nI 18) hC d_M_deliver_47 (by decide) ?_
          refine g_iload_n (i := 1) hC d_M_deliver_49 rfl rfl ?_
          refine g_imulN hC d_M_deliver_50 ?_
          refine g_bipush (v := nI 6) hC d_M_deliver_51 (by decide) ?_
          refine g_iload_n (i := 2) hC d_M_deliver_53 rfl rfl ?_
          refine g_imulN hC d_M_deliver_54 ?_
          refine g_iaddN hC d_M_deliver_55 ?_
          refine g_iload_n (i := 3) hC d_M_deliver_56 rfl rfl ?_
          refine g_iaddN hC d_M_deliver_57 ?_
          refine g_iconst (v := nI 1) hC d_M_deliver_58 (by decide) ?_
          refine r_zst 6 hC (by decide) (by decide) rfl (fun _ => rfl) (by decide) (by simp only [r_ln]; omega) d_M_deliver_59 ?_
          rw [ar_eq]
          refine g_aload_n (i := 0) hC d_M_deliver_60 rfl rfl (Or.inr ⟨_, rfl⟩) ?_
          refine g_iload_n (i := 1) hC d_M_deliver_61 rfl rfl ?_
          refine g_calli hC (g_runV (q := 200) (As := [_]) (st := []) hC g_NOK_N (r_work l D S (arS σ s (6 * s' + k)) ad0 w0 s hS3 hsS (arS_INV hInv hmh)) (t_cwV 1 hC.1.2.2.2.2 m_441 m_443 ms_22 m_6 k_M_work rfl rfl hd_M_work ⟨by decide, by decide⟩) r_this rfl rfl rfl (Nat.le_of_ble_eq_true rfl) d_M_deliver_62 ⟨by decide, by decide⟩) (fun r62 => ?_)
          refine g_ex (fun n => g_ex (fun σs => g_ex (fun σ2 => g_and (fun e62 => ?_))))
          obtain ⟨hwk, hE, hr2, hn18⟩ := e62
          refine g_iret hC hr hlk d_M_deliver_65 (by decide) (by decide) (fun ad w hw => ?_)
          exact ⟨σs, σ2, ⟨⟨Or.inl ⟨s, s', k, n, ⟨rfl, hsS, hmd, hne, by rw [← Nat.add_assoc]; exact h38⟩, hwk.1, hr2⟩, hwk.2⟩, hE⟩, hw⟩
        · refine g_iconst (v := -1) hC d_M_deliver_41 (by decide) ?_
          refine g_iret hC hr hlk d_M_deliver_42 (by decide) (by decide) (fun ad w hw => ?_)
          exact ⟨σ, σ, ⟨⟨Or.inr ⟨fun ⟨s1, s2, k2, h⟩ => by
            have e := nI_inj h.1 (by omega) (by have := h.2.1; omega)
            have e2 := nI_inj h.2.2.1.1 (by omega) (by have := h.2.2.1.2.1; omega)
            subst e
            subst e2
            have hk6 := (MD.opn hInv h.2.2.1).2.2.2.2
            have e3 := nI_inj h.2.2.1.2.2.1 (by omega) (by omega)
            subst e3
            have := h.2.2.2.2
            rw [← Nat.add_assoc] at this
            exact h38 this, rfl, rfl⟩, hInv⟩, E12.refl σ⟩, hw⟩
/-- the code of operation o -/
def cdv (σ : rS) (o : Nat) : Nat := o / 6 + 4 * (o % 6) + (if σ 2 o = 0 then 0 else 64) + 128 * σ 3 o + 8192 * σ 4 o + 2097152 * σ 5 (3 * o) + 33554432 * σ 5 (3 * o + 1) + 536870912 * σ 5 (3 * o + 2)
def SpCd (S : Nat) (σ : rS) (x y : Int32) (r : Int64) : Prop := (∃ s k, MD S σ x y s k ∧ r = lN (cdv σ (6 * s + k))) ∨ ((¬ ∃ s k, MD S σ x y s k) ∧ r = -1)
def q_ex (S : Nat) (σ : rS) (x y : Int32) : Int32 := match ix S x, ix S y with
  | some s, some t => nI (σ 8 (3 * s + t))
  | _, _ => -1
def s_wt (σ : rS) (s i : Nat) : Nat := msum (fun o => if σ 6 (18 * s + o) ≠ 0 ∧ σ 7 (18 * s + o) = 0 then 1 else 0) i
def q_wt (S : Nat) (σ : rS) (x : Int32) : Int32 := match ix S x with
  | some s => nI (s_wt σ s 18)
  | none => -1
def SpPl (S : Nat) (σ : rS) (x y z : Int32) (r : Int32) : Prop := (∃ s t k, x = nI s ∧ s < S ∧ MD S σ y z t k ∧ r = nI (σ 7 (18 * s + (6 * t + k))) - 1) ∨ ((¬ ∃ s t k, x = nI s ∧ s < S ∧ MD S σ y z t k) ∧ r = -1)
def SpAt (S : Nat) (σ : rS) (x i : Int32) (r : Int32) : Prop := (∃ s i' k, (x = nI s ∧ s < S ∧ i = nI i' ∧ i' < s_vis σ s (σ 10 s)) ∧ CO σ s i' k ∧ r = nI (σ 4 (σ 11 (18 * s + k)))) ∨ ((¬ ∃ s i', x = nI s ∧ s < S ∧ i = nI i' ∧ i' < s_vis σ s (σ 10 s)) ∧ r = -1)
def q_cs (S : Nat) (σ : rS) (x : Int32) : Int32 := match ix S x with
  | some s => nI (σ 10 s)
  | none => -1
def s_sg (σ : rS) (s i : Nat) : Int32 := if σ 12 (18 * s + i) = 0 then -nI (σ 4 (σ 11 (18 * s + i))) else nI (σ 4 (σ 11 (18 * s + i)))
def SpCe (S : Nat) (σ : rS) (x i : Int32) (r : Int32) : Prop := (∃ s i', (x = nI s ∧ s < S ∧ i = nI i' ∧ i' < σ 10 s) ∧ r = s_sg σ s i') ∨ ((¬ ∃ s i', x = nI s ∧ s < S ∧ i = nI i' ∧ i' < σ 10 s) ∧ r = 0)
set_option maxRecDepth 100000 in
set_option maxHeartbeats 4000000 in
theorem r_executed (l : Launch) (D : va_G) (S : Nat) (σ : rS) (ad0 : Nat → Nat) (w0 : gW) (hS3 : S ≤ 3) (x y : Int32) : g_M l y_M_executed w_M_executed (rk 1) D gCl g_N [.ref (ad0 200), .int x, .int y] (RX S σ ad0 w0) 0 0 (fun A => g_Qi D gCl A (fun r ad w => r = q_ex S σ x y ∧ RX S σ ad0 w0 ad w)) := by
  refine g_of (cc := c_M_executed) (nL := 3) (ret := some .int) (by decide) rfl (Nat.le_of_ble_eq_true rfl) ?_
  intro pp ee ss mm bb me cc A hC hr hlk hnm
  refine g_los [0, 1, 2] (lo' := [(0, .ref (ad0 200)), (1, .int x), (2, .int y)]) rfl ?_
  refine g_pure r_bl_of (fun hb => ?_)
  refine g_aload_n (i := 0) hC d_M_executed_0 rfl rfl (Or.inr ⟨_, rfl⟩) ?_
  refine g_iload_n (i := 1) hC d_M_executed_1 rfl rfl ?_
  refine g_calli hC (g_runV (q := 200) (As := [_]) (st := []) hC g_NOK_N (r_isSite l D S σ ad0 w0 (by omega) (x)) (t_cwV 1 hC.1.2.2.2.2 m_374 m_376 ms_9 m_6 k_M_isSite rfl rfl hd_M_isSite ⟨by decide, by decide⟩) r_this rfl rfl rfl (Nat.le_of_ble_eq_true rfl) d_M_executed_2 ⟨by decide, by decide⟩) (fun r2 => ?_)
  refine g_and (fun e => ?_)
  subst e
  refine g_if_eqN (tgt := 29) hC d_M_executed_5 (by decide) (pb_le _) (fun h5 => ?_) (fun h5 => ?_)
  · have g5 := pb_0 h5
    refine g_iconst (v := -1) hC d_M_executed_29 (by decide) ?_
    refine g_iret hC hr hlk d_M_executed_30 (by decide) (by decide) (fun ad w hw => ?_)
    exact ⟨by unfold q_ex; rw [ix_no g5], hw⟩
  · have g5 := pb_1 h5
    obtain ⟨s, hxs⟩ := g5
    obtain ⟨hsS, rfl⟩ := ix_some (by omega) hxs
    refine g_aload_n (i := 0) hC d_M_executed_8 rfl rfl (Or.inr ⟨_, rfl⟩) ?_
    refine g_iload_n (i := 2) hC d_M_executed_9 rfl rfl ?_
    refine g_calli hC (g_runV (q := 200) (As := [_]) (st := []) hC g_NOK_N (r_isSite l D S σ ad0 w0 (by omega) (y)) (t_cwV 1 hC.1.2.2.2.2 m_374 m_376 ms_9 m_6 k_M_isSite rfl rfl hd_M_isSite ⟨by decide, by decide⟩) r_this rfl rfl rfl (Nat.le_of_ble_eq_true rfl) d_M_executed_10 ⟨by decide, by decide⟩) (fun r10 => ?_)
    refine g_and (fun e => ?_)
    subst e
    refine g_if_eqN (tgt := 29) hC d_M_executed_13 (by decide) (pb_le _) (fun h13 => ?_) (fun h13 => ?_)
    · have g13 := pb_0 h13
      refine g_iconst (v := -1) hC d_M_executed_29 (by decide) ?_
      refine g_iret hC hr hlk d_M_executed_30 (by decide) (by decide) (fun ad w hw => ?_)
      exact ⟨by unfold q_ex; rw [hxs, ix_no g13], hw⟩
    · have g13 := pb_1 h13
      obtain ⟨t, hys⟩ := g13
      obtain ⟨htS, rfl⟩ := ix_some (by omega) hys
      refine g_aload_n (i := 0) hC d_M_executed_16 rfl rfl (Or.inr ⟨_, rfl⟩) ?_
      refine g_get hC (fun x h => List.mem_cons_of_mem _ (in_M x h)) 200 r_this rfl 8 (by decide) (List.mem_cons_of_mem _ m_328) rfl rfl d_M_executed_17 ?_
      refine g_iconst (v := nI 3) hC d_M_executed_20 (by decide) ?_
      refine g_iload_n (i := 1) hC d_M_executed_21 rfl rfl ?_
      refine g_imulN hC d_M_executed_22 ?_
      refine g_iload_n (i := 2) hC d_M_executed_23 rfl rfl ?_
      refine g_iaddN hC d_M_executed_24 ?_
      refine r_ld 8 hC (by decide) (by decide) rfl (fun _ => rfl) (by simp only [r_ln]; omega) d_M_executed_25 ?_
      refine g_goto (tgt := 30) hC d_M_executed_26 (by decide) ?_
      refine g_iret hC hr hlk d_M_executed_30 (by decide) (by decide) (fun ad w hw => ?_)
      exact ⟨by unfold q_ex; rw [hxs, hys], hw⟩
set_option maxRecDepth 100000 in
set_option maxHeartbeats 4000000 in
theorem r_waiting (l : Launch) (D : va_G) (S : Nat) (σ : rS) (ad0 : Nat → Nat) (w0 : gW) (hS3 : S ≤ 3) (x : Int32) : g_M l y_M_waiting w_M_waiting (rk 1) D gCl g_N [.ref (ad0 200), .int x] (RX S σ ad0 w0) 0 0 (fun A => g_Qi D gCl A (fun r ad w => r = q_wt S σ x ∧ RX S σ ad0 w0 ad w)) := by
  refine g_of (cc := c_M_waiting) (nL := 4) (ret := some .int) (by decide) rfl (Nat.le_of_ble_eq_true rfl) ?_
  intro pp ee ss mm bb me cc A hC hr hlk hnm
  refine g_los [0, 1] (lo' := [(0, .ref (ad0 200)), (1, .int x)]) rfl ?_
  refine g_pure r_bl_of (fun hb => ?_)
  refine g_aload_n (i := 0) hC d_M_waiting_0 rfl rfl (Or.inr ⟨_, rfl⟩) ?_
  refine g_iload_n (i := 1) hC d_M_waiting_1 rfl rfl ?_
  refine g_calli hC (g_runV (q := 200) (As := [_]) (st := []) hC g_NOK_N (r_isSite l D S σ ad0 w0 (by omega) (x)) (t_cwV 1 hC.1.2.2.2.2 m_374 m_376 ms_9 m_6 k_M_isSite rfl rfl hd_M_isSite ⟨by decide, by decide⟩) r_this rfl rfl rfl (Nat.le_of_ble_eq_true rfl) d_M_waiting_2 ⟨by decide, by decide⟩) (fun r2 => ?_)
  refine g_and (fun e => ?_)
  subst e
  refine g_if_neN (tgt := 10) hC d_M_waiting_5 (by decide) (pb_le _) (fun h5 => ?_) (fun h5 => ?_)
  · have g5 := pb_1 h5
    obtain ⟨s, hxs⟩ := g5
    obtain ⟨hsS, rfl⟩ := ix_some (by omega) hxs
    refine g_iconst (v := nI 0) hC d_M_waiting_10 (by decide) ?_
    refine g_istore_n (i := 2) (lo' := [(2, _), (0, _), (1, _)]) hC d_M_waiting_11 rfl (by decide) rfl ?_
    refine g_iconst (v := nI 0) hC d_M_waiting_12 (by decide) ?_
    refine g_istore_n (i := 3) (lo' := [(3, _), (2, _), (0, _), (1, _)]) hC d_M_waiting_13 rfl (by decide) rfl ?_
    refine g_los [2, 3, 1, 0] (lo' := [(0, _), (1, _), (2, _), (3, _)]) rfl ?_
    refine g_loop (ι := Nat × Nat) (pc0 := 14) (fun ⟨i, v⟩ => 18 - i) (fun ⟨i, v⟩ => i ≤ 18 ∧ v = s_wt σ s i) (fun ⟨i, v⟩ => RX S σ ad0 w0) (fun ⟨i, v⟩ => [(0, .ref (ad0 200)), (1, .int (nI s)), (2, .int (nI v)), (3, .int (nI i))]) ?_ (0, 0) (⟨Nat.zero_le _, rfl⟩)
    rintro ⟨i, v⟩ hI ih
    try dsimp only at hI ih ⊢
    refine g_iload_n (i := 3) hC d_M_waiting_14 rfl rfl ?_
    refine g_bipush (v := nI 18) hC d_M_waiting_15 (by decide) ?_
    refine g_icmp_geN (tgt := 62) hC d_M_waiting_17 (by decide) (by first | omega | exact r_lt hb _ _ | exact pb_le _) (by first | omega | exact r_lt hb _ _ | exact pb_le _) (fun h17 => ?_) (fun h17 => ?_)
    · refine g_iload_n (i := 2) hC d_M_waiting_62 rfl rfl ?_
      refine g_iret hC hr hlk d_M_waiting_63 (by decide) (by decide) (fun ad w hw => ?_)
      exact ⟨by unfold q_wt; rw [hxs]; show nI v = nI (s_wt σ s 18); rw [hI.2, show i = 18 by omega], hw⟩
    · refine g_aload_n (i := 0) hC d_M_waiting_20 rfl rfl (Or.inr ⟨_, rfl⟩) ?_
      refine g_get hC (fun x h => List.mem_cons_of_mem _ (in_M x h)) 200 r_this rfl 6 (by decide) (List.mem_cons_of_mem _ m_326) rfl rfl d_M_waiting_21 ?_
      refine g_bipush (v := nI 18) hC d_M_waiting_24 (by decide) ?_
      refine g_iload_n (i := 1) hC d_M_waiting_26 rfl rfl ?_
      refine g_imulN hC d_M_waiting_27 ?_
      refine g_iload_n (i := 3) hC d_M_waiting_28 rfl rfl ?_
      refine g_iaddN hC d_M_waiting_29 ?_
      refine r_zld 6 hC (by decide) (by decide) rfl (fun _ => rfl) (by simp only [r_ln]; omega) d_M_waiting_30 ?_
      refine g_if_eqN (tgt := 54) hC d_M_waiting_31 (by decide) (r_lt hb _ _) (fun h31 => ?_) (fun h31 => ?_)
      · refine g_iload_n (i := 2) hC d_M_waiting_54 rfl rfl ?_
        refine g_istore_n (i := 2) (lo' := [(2, _), (0, _), (1, _), (3, _)]) hC d_M_waiting_55 rfl (by decide) rfl ?_
        refine g_iinc (i := 3) (k := 3) (lo' := [(3, _), (2, _), (0, _), (1, _)]) hC d_M_waiting_56 rfl (nI_inc _) (by decide) rfl ?_
        refine g_goto (tgt := 14) hC d_M_waiting_59 (by decide) ?_
        refine g_los [2, 3, 1, 0] rfl ?_
        exact ih (i + 1, v) ⟨by omega, by unfold s_wt; simp only [msum]; rw [if_neg (fun q => q.1 h31), Nat.add_zero]; exact hI.2⟩ (by first | omega | (dsimp only; omega))
      · refine g_aload_n (i := 0) hC d_M_waiting_34 rfl rfl (Or.inr ⟨_, rfl⟩) ?_
        refine g_get hC (fun x h => List.mem_cons_of_mem _ (in_M x h)) 200 r_this rfl 7 (by decide) (List.mem_cons_of_mem _ m_327) rfl rfl d_M_waiting_35 ?_
        refine g_bipush (v := nI 18) hC d_M_waiting_38 (by decide) ?_
        refine g_iload_n (i := 1) hC d_M_waiting_40 rfl rfl ?_
        refine g_imulN hC d_M_waiting_41 ?_
        refine g_iload_n (i := 3) hC d_M_waiting_42 rfl rfl ?_
        refine g_iaddN hC d_M_waiting_43 ?_
        refine r_lde 7 hC (by decide) (by decide) rfl (fun _ => rfl) (by simp only [r_ln]; omega) d_M_waiting_44 ?_
        refine g_if_ge (tgt := 54) hC d_M_waiting_45 (by decide) (fun h45 => ?_) (fun h45 => ?_)
        · refine g_iload_n (i := 2) hC d_M_waiting_54 rfl rfl ?_
          refine g_istore_n (i := 2) (lo' := [(2, _), (0, _), (1, _), (3, _)]) hC d_M_waiting_55 rfl (by decide) rfl ?_
          refine g_iinc (i := 3) (k := 3) (lo' := [(3, _), (2, _), (0, _), (1, _)]) hC d_M_waiting_56 rfl (nI_inc _) (by decide) rfl ?_
          refine g_goto (tgt := 14) hC d_M_waiting_59 (by decide) ?_
          refine g_los [2, 3, 1, 0] rfl ?_
          exact ih (i + 1, v) ⟨by omega, by unfold s_wt; simp only [msum]; rw [if_neg (fun q => (en_ge (r_lt hb _ _)).mp h45 q.2), Nat.add_zero]; exact hI.2⟩ (by first | omega | (dsimp only; omega))
        · refine g_iload_n (i := 2) hC d_M_waiting_48 rfl rfl ?_
          refine g_iconst (v := nI 1) hC d_M_waiting_49 (by decide) ?_
          refine g_iaddN hC d_M_waiting_50 ?_
          refine g_goto (tgt := 55) hC d_M_waiting_51 (by decide) ?_
          refine g_istore_n (i := 2) (lo' := [(2, _), (0, _), (1, _), (3, _)]) hC d_M_waiting_55 rfl (by decide) rfl ?_
          refine g_iinc (i := 3) (k := 3) (lo' := [(3, _), (2, _), (0, _), (1, _)]) hC d_M_waiting_56 rfl (nI_inc _) (by decide) rfl ?_
          refine g_goto (tgt := 14) hC d_M_waiting_59 (by decide) ?_
          refine g_los [2, 3, 1, 0] rfl ?_
          exact ih (i + 1, v + 1) ⟨by omega, by unfold s_wt; simp only [msum]; rw [if_pos ⟨h31, Classical.byContradiction (fun z => h45 ((en_ge (r_lt hb _ _)).mpr z))⟩, hI.2]; rfl⟩ (by first | omega | (dsimp only; omega))
  · have g5 := pb_0 h5
    refine g_iconst (v := -1) hC d_M_waiting_8 (by decide) ?_
    refine g_iret hC hr hlk d_M_waiting_9 (by decide) (by decide) (fun ad w hw => ?_)
    exact ⟨by unfold q_wt; rw [ix_no g5], hw⟩
set_option maxRecDepth 100000 in
set_option maxHeartbeats 4000000 in
theorem r_place (l : Launch) (D : va_G) (S : Nat) (σ : rS) (ad0 : Nat → Nat) (w0 : gW) (hInv : INV S σ) (x y z : Int32) : g_M l y_M_place w_M_place (rk 2) D gCl g_N [.ref (ad0 200), .int x, .int y, .int z] (RX S σ ad0 w0) 0 0 (fun A => g_Qi D gCl A (fun r ad w => SpPl S σ x y z r ∧ RX S σ ad0 w0 ad w)) := by
  have hS3 := hInv.S3
  refine g_of (cc := c_M_place) (nL := 4) (ret := some .int) (by decide) rfl (Nat.le_of_ble_eq_true rfl) ?_
  intro pp ee ss mm bb me cc A hC hr hlk hnm
  refine g_los [0, 1, 2, 3] (lo' := [(0, .ref (ad0 200)), (1, .int x), (2, .int y), (3, .int z)]) rfl ?_
  refine g_pure r_bl_of (fun hb => ?_)
  refine g_aload_n (i := 0) hC d_M_place_0 rfl rfl (Or.inr ⟨_, rfl⟩) ?_
  refine g_iload_n (i := 1) hC d_M_place_1 rfl rfl ?_
  refine g_calli hC (g_runV (q := 200) (As := [_]) (st := []) hC g_NOK_N (r_isSite l D S σ ad0 w0 (by omega) (x)) (t_cwV 1 hC.1.2.2.2.2 m_374 m_376 ms_9 m_6 k_M_isSite rfl rfl hd_M_isSite ⟨by decide, by decide⟩) r_this rfl rfl rfl (Nat.le_of_ble_eq_true rfl) d_M_place_2 ⟨by decide, by decide⟩) (fun r2 => ?_)
  refine g_and (fun e => ?_)
  subst e
  refine g_if_eqN (tgt := 36) hC d_M_place_5 (by decide) (pb_le _) (fun h5 => ?_) (fun h5 => ?_)
  · have g5 := pb_0 h5
    refine g_iconst (v := -1) hC d_M_place_36 (by decide) ?_
    refine g_iret hC hr hlk d_M_place_37 (by decide) (by decide) (fun ad w hw => ?_)
    exact ⟨Or.inr ⟨fun ⟨s1, t1, k1, h⟩ => g5 ⟨s1, by rw [h.1]; exact ix_nI (by omega) h.2.1⟩, rfl⟩, hw⟩
  · have g5 := pb_1 h5
    obtain ⟨s, hxs⟩ := g5
    obtain ⟨hsS, rfl⟩ := ix_some (by omega) hxs
    refine g_aload_n (i := 0) hC d_M_place_8 rfl rfl (Or.inr ⟨_, rfl⟩) ?_
    refine g_iload_n (i := 2) hC d_M_place_9 rfl rfl ?_
    refine g_iload_n (i := 3) hC d_M_place_10 rfl rfl ?_
    refine g_calli hC (g_runV (q := 200) (As := [_, _]) (st := []) hC g_NOK_N (r_isMade l D S σ ad0 w0 hInv y z) (t_cwV 2 hC.1.2.2.2.2 m_437 m_439 ms_21 m_6 k_M_isMade rfl rfl hd_M_isMade ⟨by decide, by decide⟩) r_this rfl rfl rfl (Nat.le_of_ble_eq_true rfl) d_M_place_11 ⟨by decide, by decide⟩) (fun r11 => ?_)
    refine g_and (fun e => ?_)
    subst e
    refine g_if_eqN (tgt := 36) hC d_M_place_14 (by decide) (pb_le _) (fun h14 => ?_) (fun h14 => ?_)
    · have g14 := pb_0 h14
      refine g_iconst (v := -1) hC d_M_place_36 (by decide) ?_
      refine g_iret hC hr hlk d_M_place_37 (by decide) (by decide) (fun ad w hw => ?_)
      exact ⟨Or.inr ⟨fun ⟨s1, t1, k1, h⟩ => g14 ⟨t1, k1, h.2.2⟩, rfl⟩, hw⟩
    · have g14 := pb_1 h14
      obtain ⟨t, k, hmd⟩ := g14
      obtain ⟨rfl, hs', rfl, hk⟩ := id hmd
      obtain ⟨hmh, ho18, hod, hom, hk6⟩ := MD.opn hInv hmd
      refine g_aload_n (i := 0) hC d_M_place_17 rfl rfl (Or.inr ⟨_, rfl⟩) ?_
      refine g_get hC (fun x h => List.mem_cons_of_mem _ (in_M x h)) 200 r_this rfl 7 (by decide) (List.mem_cons_of_mem _ m_327) rfl rfl d_M_place_18 ?_
      refine g_bipush (v := nI 18) hC d_M_place_21 (by decide) ?_
      refine g_iload_n (i := 1) hC d_M_place_23 rfl rfl ?_
      refine g_imulN hC d_M_place_24 ?_
      refine g_bipush (v := nI 6) hC d_M_place_25 (by decide) ?_
      refine g_iload_n (i := 2) hC d_M_place_27 rfl rfl ?_
      refine g_imulN hC d_M_place_28 ?_
      refine g_iaddN hC d_M_place_29 ?_
      refine g_iload_n (i := 3) hC d_M_place_30 rfl rfl ?_
      refine g_iaddN hC d_M_place_31 ?_
      refine r_lde 7 hC (by decide) (by decide) rfl (fun _ => rfl) (by simp only [r_ln]; omega) d_M_place_32 ?_
      refine g_goto (tgt := 37) hC d_M_place_33 (by decide) ?_
      refine g_iret hC hr hlk d_M_place_37 (by decide) (by decide) (fun ad w hw => ?_)
      exact ⟨Or.inl ⟨s, t, k, rfl, hsS, hmd, by rw [← Nat.add_assoc]⟩, hw⟩
set_option maxRecDepth 100000 in
set_option maxHeartbeats 4000000 in
theorem r_at (l : Launch) (D : va_G) (S : Nat) (σ : rS) (ad0 : Nat → Nat) (w0 : gW) (hInv : INV S σ) (x i : Int32) : g_M l y_M_at w_M_at (rk 2) D gCl g_N [.ref (ad0 200), .int x, .int i] (RX S σ ad0 w0) 0 0 (fun A => g_Qi D gCl A (fun r ad w => SpAt S σ x i r ∧ RX S σ ad0 w0 ad w)) := by
  have hS3 := hInv.S3
  have hc := hInv.c18
  refine g_of (cc := c_M_at) (nL := 4) (ret := some .int) (by decide) rfl (Nat.le_of_ble_eq_true rfl) ?_
  intro pp ee ss mm bb me cc A hC hr hlk hnm
  refine g_los [0, 1, 2] (lo' := [(0, .ref (ad0 200)), (1, .int x), (2, .int i)]) rfl ?_
  refine g_pure r_bl_of (fun hb => ?_)
  refine g_aload_n (i := 0) hC d_M_at_0 rfl rfl (Or.inr ⟨_, rfl⟩) ?_
  refine g_iload_n (i := 1) hC d_M_at_1 rfl rfl ?_
  refine g_calli hC (g_runV (q := 200) (As := [_]) (st := []) hC g_NOK_N (r_isSite l D S σ ad0 w0 (by omega) (x)) (t_cwV 1 hC.1.2.2.2.2 m_374 m_376 ms_9 m_6 k_M_isSite rfl rfl hd_M_isSite ⟨by decide, by decide⟩) r_this rfl rfl rfl (Nat.le_of_ble_eq_true rfl) d_M_at_2 ⟨by decide, by decide⟩) (fun r2 => ?_)
  refine g_and (fun e => ?_)
  subst e
  refine g_if_eqN (tgt := 21) hC d_M_at_5 (by decide) (pb_le _) (fun h5 => ?_) (fun h5 => ?_)
  · have g5 := pb_0 h5
    refine g_iconst (v := -1) hC d_M_at_21 (by decide) ?_
    refine g_iret hC hr hlk d_M_at_22 (by decide) (by decide) (fun ad w hw => ?_)
    exact ⟨Or.inr ⟨fun ⟨s1, i1, h⟩ => g5 ⟨s1, by rw [h.1]; exact ix_nI (by omega) h.2.1⟩, rfl⟩, hw⟩
  · have g5 := pb_1 h5
    obtain ⟨s, hxs⟩ := g5
    obtain ⟨hsS, rfl⟩ := ix_some (by omega) hxs
    refine g_iload_n (i := 2) hC d_M_at_8 rfl rfl ?_
    refine g_if_lt (tgt := 21) hC d_M_at_9 (by decide) (fun h9 => ?_) (fun h9 => ?_)
    · refine g_iconst (v := -1) hC d_M_at_21 (by decide) ?_
      refine g_iret hC hr hlk d_M_at_22 (by decide) (by decide) (fun ad w hw => ?_)
      exact ⟨Or.inr ⟨fun ⟨s1, i1, h⟩ => absurd h9 (by have hb1 := h.2.2.2; have hb2 := s_vis_le (σ := σ) (s := s1) (i := σ 10 s1); have hb3 := hc s1 h.2.1; rw [h.2.2.1]; exact nI_pos (by omega)), rfl⟩, hw⟩
    · refine g_iload_n (i := 2) hC d_M_at_12 rfl rfl ?_
      refine g_aload_n (i := 0) hC d_M_at_13 rfl rfl (Or.inr ⟨_, rfl⟩) ?_
      refine g_iload_n (i := 1) hC d_M_at_14 rfl rfl ?_
      refine g_calli hC (g_runV (q := 200) (As := [_]) (st := [_]) hC g_NOK_N (r_length l D S σ ad0 w0 hS3 hc (nI s)) (t_cwV 1 hC.1.2.2.2.2 m_378 m_379 m_380 m_6 k_M_length rfl rfl hd_M_length ⟨by decide, by decide⟩) r_this rfl rfl rfl (Nat.le_of_ble_eq_true rfl) d_M_at_15 ⟨by decide, by decide⟩) (fun r15 => ?_)
      refine g_and (fun e15 => ?_)
      rw [q_len_s hxs] at e15
      subst e15
      refine g_icmp_lt (tgt := 23) hC d_M_at_18 (by decide) (fun h18 => ?_) (fun h18 => ?_)
      · obtain ⟨i', hi31, rfl⟩ := nI_of h9
        have hvl := s_vis_le (σ := σ) (s := s) (i := σ 10 s)
        have hcs := hc s hsS
        have hil : i' < s_vis σ s (σ 10 s) := (nI_ltI (by omega) (by omega)).mp h18
        refine g_aload_n (i := 0) hC d_M_at_23 rfl rfl (Or.inr ⟨_, rfl⟩) ?_
        refine g_iload_n (i := 1) hC d_M_at_24 rfl rfl ?_
        refine g_iload_n (i := 2) hC d_M_at_25 rfl rfl ?_
        refine g_calli hC (g_runV (q := 200) (As := [_, _]) (st := []) hC g_NOK_N (r_cellOf l D S σ ad0 w0 s i' (by omega) hcs (by omega)) (t_cwV 2 hC.1.2.2.2.2 m_382 m_384 ms_10 m_6 k_M_cellOf rfl rfl hd_M_cellOf ⟨by decide, by decide⟩) r_this rfl rfl rfl (Nat.le_of_ble_eq_true rfl) d_M_at_26 ⟨by decide, by decide⟩) (fun r26 => ?_)
        refine g_ex (fun k => g_and (fun e26 => ?_))
        obtain ⟨hco, rfl⟩ := e26
        refine g_istore_n (i := 3) (lo' := [(3, _), (0, _), (1, _), (2, _)]) hC d_M_at_29 rfl (by decide) rfl ?_
        have hkl := CO_lt hco hil
        have hce := hInv.1.lt18 ((hInv.2 s hsS).1.1.made ((hInv.2 s hsS).1.2.2.1 k hkl).2.1)
        refine g_aload_n (i := 0) hC d_M_at_30 rfl rfl (Or.inr ⟨_, rfl⟩) ?_
        refine g_get hC (fun x h => List.mem_cons_of_mem _ (in_M x h)) 200 r_this rfl 4 (by decide) (List.mem_cons_of_mem _ m_324) rfl rfl d_M_at_31 ?_
        refine g_aload_n (i := 0) hC d_M_at_34 rfl rfl (Or.inr ⟨_, rfl⟩) ?_
        refine g_get hC (fun x h => List.mem_cons_of_mem _ (in_M x h)) 200 r_this rfl 11 (by decide) (List.mem_cons_of_mem _ m_331) rfl rfl d_M_at_35 ?_
        refine g_bipush (v := nI 18) hC d_M_at_38 (by decide) ?_
        refine g_iload_n (i := 1) hC d_M_at_40 rfl rfl ?_
        refine g_imulN hC d_M_at_41 ?_
        refine g_iload_n (i := 3) hC d_M_at_42 rfl rfl ?_
        refine g_iaddN hC d_M_at_43 ?_
        refine r_ld 11 hC (by decide) (by decide) rfl (fun _ => rfl) (by simp only [r_ln]; omega) d_M_at_44 ?_
        refine r_ld 4 hC (by decide) (by decide) rfl (fun _ => rfl) (by simp only [r_ln]; omega) d_M_at_45 ?_
        refine g_iret hC hr hlk d_M_at_46 (by decide) (by decide) (fun ad w hw => ?_)
        exact ⟨Or.inl ⟨s, i', k, ⟨rfl, hsS, rfl, hil⟩, hco, rfl⟩, hw⟩
      · refine g_iconst (v := -1) hC d_M_at_21 (by decide) ?_
        refine g_iret hC hr hlk d_M_at_22 (by decide) (by decide) (fun ad w hw => ?_)
        exact ⟨Or.inr ⟨fun ⟨s1, i1, h⟩ => by
          have hb1 := h.2.2.2
          have hb2 := s_vis_le (σ := σ) (s := s1) (i := σ 10 s1)
          have hb3 := hc s1 h.2.1
          have e := nI_inj h.1 (by omega) (by have := h.2.1; omega)
          subst e
          rw [h.2.2.1] at h18
          exact h18 ((nI_ltI (by omega) (by omega)).mpr hb1), rfl⟩, hw⟩
set_option maxRecDepth 100000 in
set_option maxHeartbeats 4000000 in
theorem r_cells (l : Launch) (D : va_G) (S : Nat) (σ : rS) (ad0 : Nat → Nat) (w0 : gW) (hS3 : S ≤ 3) (x : Int32) : g_M l y_M_cells w_M_cells (rk 1) D gCl g_N [.ref (ad0 200), .int x] (RX S σ ad0 w0) 0 0 (fun A => g_Qi D gCl A (fun r ad w => r = q_cs S σ x ∧ RX S σ ad0 w0 ad w)) := by
  refine g_of (cc := c_M_cells) (nL := 2) (ret := some .int) (by decide) rfl (Nat.le_of_ble_eq_true rfl) ?_
  intro pp ee ss mm bb me cc A hC hr hlk hnm
  refine g_los [0, 1] (lo' := [(0, .ref (ad0 200)), (1, .int x)]) rfl ?_
  refine g_pure r_bl_of (fun hb => ?_)
  refine g_aload_n (i := 0) hC d_M_cells_0 rfl rfl (Or.inr ⟨_, rfl⟩) ?_
  refine g_iload_n (i := 1) hC d_M_cells_1 rfl rfl ?_
  refine g_calli hC (g_runV (q := 200) (As := [_]) (st := []) hC g_NOK_N (r_isSite l D S σ ad0 w0 (by omega) (x)) (t_cwV 1 hC.1.2.2.2.2 m_374 m_376 ms_9 m_6 k_M_isSite rfl rfl hd_M_isSite ⟨by decide, by decide⟩) r_this rfl rfl rfl (Nat.le_of_ble_eq_true rfl) d_M_cells_2 ⟨by decide, by decide⟩) (fun r2 => ?_)
  refine g_and (fun e => ?_)
  subst e
  refine g_if_eqN (tgt := 17) hC d_M_cells_5 (by decide) (pb_le _) (fun h5 => ?_) (fun h5 => ?_)
  · have g5 := pb_0 h5
    refine g_iconst (v := -1) hC d_M_cells_17 (by decide) ?_
    refine g_iret hC hr hlk d_M_cells_18 (by decide) (by decide) (fun ad w hw => ?_)
    exact ⟨by unfold q_cs; rw [ix_no g5], hw⟩
  · have g5 := pb_1 h5
    obtain ⟨s, hxs⟩ := g5
    obtain ⟨hsS, rfl⟩ := ix_some (by omega) hxs
    refine g_aload_n (i := 0) hC d_M_cells_8 rfl rfl (Or.inr ⟨_, rfl⟩) ?_
    refine g_get hC (fun x h => List.mem_cons_of_mem _ (in_M x h)) 200 r_this rfl 10 (by decide) (List.mem_cons_of_mem _ m_330) rfl rfl d_M_cells_9 ?_
    refine g_iload_n (i := 1) hC d_M_cells_12 rfl rfl ?_
    refine r_ld 10 hC (by decide) (by decide) rfl (fun _ => rfl) (by simp only [r_ln]; omega) d_M_cells_13 ?_
    refine g_goto (tgt := 18) hC d_M_cells_14 (by decide) ?_
    refine g_iret hC hr hlk d_M_cells_18 (by decide) (by decide) (fun ad w hw => ?_)
    exact ⟨by unfold q_cs; rw [hxs], hw⟩
set_option maxRecDepth 100000 in
set_option maxHeartbeats 4000000 in
theorem r_cell (l : Launch) (D : va_G) (S : Nat) (σ : rS) (ad0 : Nat → Nat) (w0 : gW) (hInv : INV S σ) (x i : Int32) : g_M l y_M_cell w_M_cell (rk 1) D gCl g_N [.ref (ad0 200), .int x, .int i] (RX S σ ad0 w0) 0 0 (fun A => g_Qi D gCl A (fun r ad w => SpCe S σ x i r ∧ RX S σ ad0 w0 ad w)) := by
  have hS3 := hInv.S3
  have hc := hInv.c18
  refine g_of (cc := c_M_cell) (nL := 4) (ret := some .int) (by decide) rfl (Nat.le_of_ble_eq_true rfl) ?_
  intro pp ee ss mm bb me cc A hC hr hlk hnm
  refine g_los [0, 1, 2] (lo' := [(0, .ref (ad0 200)), (1, .int x), (2, .int i)]) rfl ?_
  refine g_pure r_bl_of (fun hb => ?_)
  refine g_aload_n (i := 0) hC d_M_cell_0 rfl rfl (Or.inr ⟨_, rfl⟩) ?_
  refine g_iload_n (i := 1) hC d_M_cell_1 rfl rfl ?_
  refine g_calli hC (g_runV (q := 200) (As := [_]) (st := []) hC g_NOK_N (r_isSite l D S σ ad0 w0 (by omega) (x)) (t_cwV 1 hC.1.2.2.2.2 m_374 m_376 ms_9 m_6 k_M_isSite rfl rfl hd_M_isSite ⟨by decide, by decide⟩) r_this rfl rfl rfl (Nat.le_of_ble_eq_true rfl) d_M_cell_2 ⟨by decide, by decide⟩) (fun r2 => ?_)
  refine g_and (fun e => ?_)
  subst e
  refine g_if_eqN (tgt := 22) hC d_M_cell_5 (by decide) (pb_le _) (fun h5 => ?_) (fun h5 => ?_)
  · have g5 := pb_0 h5
    refine g_iconst (v := nI 0) hC d_M_cell_22 (by decide) ?_
    refine g_iret hC hr hlk d_M_cell_23 (by decide) (by decide) (fun ad w hw => ?_)
    exact ⟨Or.inr ⟨fun ⟨s1, i1, h⟩ => g5 ⟨s1, by rw [h.1]; exact ix_nI (by omega) h.2.1⟩, rfl⟩, hw⟩
  · have g5 := pb_1 h5
    obtain ⟨s, hxs⟩ := g5
    obtain ⟨hsS, rfl⟩ := ix_some (by omega) hxs
    refine g_iload_n (i := 2) hC d_M_cell_8 rfl rfl ?_
    refine g_if_lt (tgt := 22) hC d_M_cell_9 (by decide) (fun h9 => ?_) (fun h9 => ?_)
    · refine g_iconst (v := nI 0) hC d_M_cell_22 (by decide) ?_
      refine g_iret hC hr hlk d_M_cell_23 (by decide) (by decide) (fun ad w hw => ?_)
      exact ⟨Or.inr ⟨fun ⟨s1, i1, h⟩ => absurd h9 (by have hb1 := h.2.2.2; have hb3 := hc s1 h.2.1; rw [h.2.2.1]; exact nI_pos (by omega)), rfl⟩, hw⟩
    · refine g_iload_n (i := 2) hC d_M_cell_12 rfl rfl ?_
      refine g_aload_n (i := 0) hC d_M_cell_13 rfl rfl (Or.inr ⟨_, rfl⟩) ?_
      refine g_get hC (fun x h => List.mem_cons_of_mem _ (in_M x h)) 200 r_this rfl 10 (by decide) (List.mem_cons_of_mem _ m_330) rfl rfl d_M_cell_14 ?_
      refine g_iload_n (i := 1) hC d_M_cell_17 rfl rfl ?_
      refine r_ld 10 hC (by decide) (by decide) rfl (fun _ => rfl) (by simp only [r_ln]; omega) d_M_cell_18 ?_
      refine g_icmp_lt (tgt := 24) hC d_M_cell_19 (by decide) (fun h19 => ?_) (fun h19 => ?_)
      · obtain ⟨i', hi31, rfl⟩ := nI_of h9
        have hcs := hc s hsS
        have hil : i' < σ 10 s := (nI_ltI (by omega) (by omega)).mp h19
        have hce := hInv.1.lt18 ((hInv.2 s hsS).1.1.made ((hInv.2 s hsS).1.2.2.1 i' hil).2.1)
        refine g_aload_n (i := 0) hC d_M_cell_24 rfl rfl (Or.inr ⟨_, rfl⟩) ?_
        refine g_get hC (fun x h => List.mem_cons_of_mem _ (in_M x h)) 200 r_this rfl 4 (by decide) (List.mem_cons_of_mem _ m_324) rfl rfl d_M_cell_25 ?_
        refine g_aload_n (i := 0) hC d_M_cell_28 rfl rfl (Or.inr ⟨_, rfl⟩) ?_
        refine g_get hC (fun x h => List.mem_cons_of_mem _ (in_M x h)) 200 r_this rfl 11 (by decide) (List.mem_cons_of_mem _ m_331) rfl rfl d_M_cell_29 ?_
        refine g_bipush (v := nI 18) hC d_M_cell_32 (by decide) ?_
        refine g_iload_n (i := 1) hC d_M_cell_34 rfl rfl ?_
        refine g_imulN hC d_M_cell_35 ?_
        refine g_iload_n (i := 2) hC d_M_cell_36 rfl rfl ?_
        refine g_iaddN hC d_M_cell_37 ?_
        refine r_ld 11 hC (by decide) (by decide) rfl (fun _ => rfl) (by simp only [r_ln]; omega) d_M_cell_38 ?_
        refine r_ld 4 hC (by decide) (by decide) rfl (fun _ => rfl) (by simp only [r_ln]; omega) d_M_cell_39 ?_
        refine g_istore_n (i := 3) (lo' := [(3, _), (0, _), (1, _), (2, _)]) hC d_M_cell_40 rfl (by decide) rfl ?_
        refine g_aload_n (i := 0) hC d_M_cell_41 rfl rfl (Or.inr ⟨_, rfl⟩) ?_
        refine g_get hC (fun x h => List.mem_cons_of_mem _ (in_M x h)) 200 r_this rfl 12 (by decide) (List.mem_cons_of_mem _ m_332) rfl rfl d_M_cell_42 ?_
        refine g_bipush (v := nI 18) hC d_M_cell_45 (by decide) ?_
        refine g_iload_n (i := 1) hC d_M_cell_47 rfl rfl ?_
        refine g_imulN hC d_M_cell_48 ?_
        refine g_iload_n (i := 2) hC d_M_cell_49 rfl rfl ?_
        refine g_iaddN hC d_M_cell_50 ?_
        refine r_zld 12 hC (by decide) (by decide) rfl (fun _ => rfl) (by simp only [r_ln]; omega) d_M_cell_51 ?_
        refine g_if_eqN (tgt := 59) hC d_M_cell_52 (by decide) (r_lt hb _ _) (fun h52 => ?_) (fun h52 => ?_)
        · refine g_iload_n (i := 3) hC d_M_cell_59 rfl rfl ?_
          refine g_ineg hC d_M_cell_60 ?_
          refine g_iret hC hr hlk d_M_cell_61 (by decide) (by decide) (fun ad w hw => ?_)
          exact ⟨Or.inl ⟨s, i', ⟨rfl, hsS, rfl, hil⟩, by unfold s_sg; rw [if_pos h52]⟩, hw⟩
        · refine g_iload_n (i := 3) hC d_M_cell_55 rfl rfl ?_
          refine g_goto (tgt := 61) hC d_M_cell_56 (by decide) ?_
          refine g_iret hC hr hlk d_M_cell_61 (by decide) (by decide) (fun ad w hw => ?_)
          exact ⟨Or.inl ⟨s, i', ⟨rfl, hsS, rfl, hil⟩, by unfold s_sg; rw [if_neg h52]⟩, hw⟩
      · refine g_iconst (v := nI 0) hC d_M_cell_22 (by decide) ?_
        refine g_iret hC hr hlk d_M_cell_23 (by decide) (by decide) (fun ad w hw => ?_)
        exact ⟨Or.inr ⟨fun ⟨s1, i1, h⟩ => by
          have hb1 := h.2.2.2
          have hb3 := hc s1 h.2.1
          have e := nI_inj h.1 (by omega) (by have := h.2.1; omega)
          subst e
          rw [h.2.2.1] at h19
          exact h19 ((nI_ltI (by omega) (by omega)).mpr hb1), rfl⟩, hw⟩
