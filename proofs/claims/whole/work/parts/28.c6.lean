set_option maxRecDepth 100000 in
set_option maxHeartbeats 4000000 in
theorem t_isSite (l : Launch) (D : va_G) (S : Nat) (ρ : rS) (ad0 : Nat → Nat) (w0 : gW) (hS : S < 2 ^ 31) (x : Int32) : g_M l y_T_isSite w_T_isSite (rk 0) D gCl g_N [.ref (ad0 0), .int x] (CW S ρ ad0 w0) 0 0 (fun A => g_Qi D gCl A (fun r ad w => r = nI (pb (∃ j, ix S x = some j)) ∧ CW S ρ ad0 w0 ad w)) := by
  refine g_of (cc := c_T_isSite) (nL := 2) (ret := some .boolean) (by decide) rfl (Nat.le_of_ble_eq_true rfl) ?_
  intro pp ee ss mm bb me cc A hC hr hlk hnm
  refine g_los [0, 1] (lo' := [(0, .ref (ad0 0)), (1, .int x)]) rfl ?_
  refine g_pure cw_bl (fun hbS => ?_)
  obtain ⟨hb, hSS⟩ := hbS
  refine g_iload_n (i := 1) hC d_T_isSite_0 rfl rfl ?_
  refine g_if_lt (tgt := 16) hC d_T_isSite_1 (by decide) (fun h1 => ?_) (fun h1 => ?_)
  · refine g_iconst (v := nI 0) hC d_T_isSite_16 (by decide) ?_
    refine g_zret hC hr hlk (r_nar2 (by decide)) d_T_isSite_17 (by decide) (by decide) (fun ad w hw => ?_)
    exact ⟨nI_zero (fun ⟨j, q⟩ => by rw [ix_neg h1] at q; cases q), hw⟩
  · refine g_iload_n (i := 1) hC d_T_isSite_4 rfl rfl ?_
    refine g_aload_n (i := 0) hC d_T_isSite_5 rfl rfl (Or.inr ⟨_, rfl⟩) ?_
    refine g_get hC (fun x h => List.mem_cons_of_mem _ (in_T x h)) 0 cw_ts rfl 0 (by decide) (List.mem_cons_of_mem _ m_84) rfl rfl d_T_isSite_6 ?_
    refine g_icmp_ge (tgt := 16) hC d_T_isSite_9 (by decide) (fun h9 => ?_) (fun h9 => ?_)
    · refine g_iconst (v := nI 0) hC d_T_isSite_16 (by decide) ?_
      refine g_zret hC hr hlk (r_nar2 (by decide)) d_T_isSite_17 (by decide) (by decide) (fun ad w hw => ?_)
      exact ⟨nI_zero (fun ⟨j, q⟩ => by rw [ix_big hS h9] at q; cases q), hw⟩
    · refine g_iconst (v := nI 1) hC d_T_isSite_12 (by decide) ?_
      refine g_goto (tgt := 17) hC d_T_isSite_13 (by decide) ?_
      refine g_zret hC hr hlk (r_nar2 (by decide)) d_T_isSite_17 (by decide) (by decide) (fun ad w hw => ?_)
      obtain ⟨j, -, -, q⟩ := ix_of hS h1 h9
      exact ⟨nI_one ⟨j, q⟩, hw⟩
set_option maxRecDepth 100000 in
set_option maxHeartbeats 4000000 in
theorem t_sites (l : Launch) (D : va_G) (S : Nat) (ρ : rS) (ad0 : Nat → Nat) (w0 : gW)  : g_M l y_T_sites w_T_sites (rk 0) D gCl g_N [.ref (ad0 0)] (CW S ρ ad0 w0) 0 0 (fun A => g_Qi D gCl A (fun r ad w => r = nI S ∧ CW S ρ ad0 w0 ad w)) := by
  refine g_of (cc := c_T_sites) (nL := 1) (ret := some .int) (by decide) rfl (Nat.le_of_ble_eq_true rfl) ?_
  intro pp ee ss mm bb me cc A hC hr hlk hnm
  refine g_los [0] (lo' := [(0, .ref (ad0 0))]) rfl ?_
  refine g_pure cw_bl (fun hbS => ?_)
  obtain ⟨hb, hSS⟩ := hbS
  refine g_aload_n (i := 0) hC d_T_sites_0 rfl rfl (Or.inr ⟨_, rfl⟩) ?_
  refine g_get hC (fun x h => List.mem_cons_of_mem _ (in_T x h)) 0 cw_ts rfl 0 (by decide) (List.mem_cons_of_mem _ m_84) rfl rfl d_T_sites_1 ?_
  refine g_iret hC hr hlk d_T_sites_4 (by decide) (by decide) (fun ad w hw => ?_)
  exact ⟨rfl, hw⟩
set_option maxRecDepth 100000 in
set_option maxHeartbeats 4000000 in
theorem t_executed (l : Launch) (D : va_G) (S : Nat) (σ ρ : rS) (ad0 : Nat → Nat) (w0 : gW) (hInv : INV S σ) (hM : SIM S σ ρ) (x y : Int32) : g_M l y_T_executed w_T_executed (rk 1) D gCl g_N [.ref (ad0 0), .int x, .int y] (CW S ρ ad0 w0) 0 0 (fun A => g_Qi D gCl A (fun r ad w => r = q_ex S σ x y ∧ CW S ρ ad0 w0 ad w)) := by
  have hS3 := hInv.S3
  have hO := hM.1
  refine g_of (cc := c_T_executed) (nL := 3) (ret := some .int) (by decide) rfl (Nat.le_of_ble_eq_true rfl) ?_
  intro pp ee ss mm bb me cc A hC hr hlk hnm
  refine g_los [0, 1, 2] (lo' := [(0, .ref (ad0 0)), (1, .int x), (2, .int y)]) rfl ?_
  refine g_pure cw_bl (fun hbS => ?_)
  obtain ⟨hb, hSS⟩ := hbS
  refine g_aload_n (i := 0) hC d_T_executed_0 rfl rfl (Or.inr ⟨_, rfl⟩) ?_
  refine g_iload_n (i := 1) hC d_T_executed_1 rfl rfl ?_
  refine g_calli hC (g_runV (q := 0) (As := [_]) (st := []) hC g_NOK_N (t_isSite l D S ρ ad0 w0 (by omega) (x)) (t_cwV 1 hC.1.2.2.2.2 m_102 m_104 ms_0 m_1 k_T_isSite rfl rfl hd_T_isSite ⟨by decide, by decide⟩) cw_ts rfl rfl rfl (Nat.le_of_ble_eq_true rfl) d_T_executed_2 ⟨by decide, by decide⟩) (fun r2 => ?_)
  refine g_and (fun e => ?_)
  subst e
  refine g_if_eqN (tgt := 16) hC d_T_executed_5 (by decide) (pb_le _) (fun h5 => ?_) (fun h5 => ?_)
  · have g5 := pb_0 h5
    refine g_iconst (v := -1) hC d_T_executed_16 (by decide) ?_
    refine g_iret hC hr hlk d_T_executed_17 (by decide) (by decide) (fun ad w hw => ?_)
    exact ⟨by unfold q_ex; rw [ix_no g5], hw⟩
  · have g5 := pb_1 h5
    obtain ⟨s, hxs⟩ := g5
    obtain ⟨hsS, rfl⟩ := ix_some (by omega) hxs
    obtain ⟨⟨hrow, hvec, hao⟩, hcn⟩ := hM.2.2.2 s hsS
    obtain ⟨hcn1, hcn2⟩ := id hcn
    have hv6 : ∀ t, s_vc σ s t ≤ 6 := fun t => (hInv.2 s hsS).1.1.le6 hInv.1.2.2.1 t
    refine g_aload_n (i := 0) hC d_T_executed_8 rfl rfl (Or.inr ⟨_, rfl⟩) ?_
    refine g_iload_n (i := 2) hC d_T_executed_9 rfl rfl ?_
    refine g_calli hC (g_runV (q := 0) (As := [_]) (st := []) hC g_NOK_N (t_isSite l D S ρ ad0 w0 (by omega) (y)) (t_cwV 1 hC.1.2.2.2.2 m_102 m_104 ms_0 m_1 k_T_isSite rfl rfl hd_T_isSite ⟨by decide, by decide⟩) cw_ts rfl rfl rfl (Nat.le_of_ble_eq_true rfl) d_T_executed_10 ⟨by decide, by decide⟩) (fun r10 => ?_)
    refine g_and (fun e => ?_)
    subst e
    refine g_if_neN (tgt := 18) hC d_T_executed_13 (by decide) (pb_le _) (fun h13 => ?_) (fun h13 => ?_)
    · have g13 := pb_1 h13
      obtain ⟨t, hys⟩ := g13
      obtain ⟨htS, rfl⟩ := ix_some (by omega) hys
      refine g_aload_n (i := 0) hC d_T_executed_18 rfl rfl (Or.inr ⟨_, rfl⟩) ?_
      refine g_get hC (fun x h => List.mem_cons_of_mem _ (in_T x h)) 0 cw_ts rfl 2 (by decide) (List.mem_cons_of_mem _ m_86) rfl rfl d_T_executed_19 ?_
      refine g_iload_n (i := 1) hC d_T_executed_22 rfl rfl ?_
      refine cl_cps hC (by omega) (by omega) d_T_executed_23 ?_
      refine g_getN (host := R_T) hC (fun x h => List.mem_cons_of_mem _ (in_K x h)) (10 + 4 * s) (cw_co hsS) rfl 3 (by decide) (hC.2.2.1.1 _ mn_57) rfl rfl d_T_executed_24 ?_
      refine g_iload_n (i := 2) hC d_T_executed_27 rfl rfl ?_
      rw [hvec]
      refine g_calli hC (g_runS (As := [_, _]) (st := []) hC g_NOK_N (v_count l D (CW S ρ ad0 w0) (s_vc σ s) t hv6 (by omega)) (t_cwS 2 hC.1.2.2.2.2 m_122 m_123 m_3 k_V_count rfl rfl hd_V_count ⟨by decide, by decide⟩) rfl rfl (Nat.le_of_ble_eq_true rfl) d_T_executed_28 ⟨by decide, by decide⟩) (fun r28 => ?_)
      refine g_and (fun e => ?_)
      subst e
      refine g_iret hC hr hlk d_T_executed_31 (by decide) (by decide) (fun ad w hw => ?_)
      exact ⟨by unfold q_ex; rw [hxs, hys, s_vc_lt (by omega)], hw⟩
    · have g13 := pb_0 h13
      refine g_iconst (v := -1) hC d_T_executed_16 (by decide) ?_
      refine g_iret hC hr hlk d_T_executed_17 (by decide) (by decide) (fun ad w hw => ?_)
      exact ⟨by unfold q_ex; rw [hxs, ix_no g13], hw⟩
set_option maxRecDepth 100000 in
set_option maxHeartbeats 4000000 in
theorem t_waiting (l : Launch) (D : va_G) (S : Nat) (σ ρ : rS) (ad0 : Nat → Nat) (w0 : gW) (hInv : INV S σ) (hM : SIM S σ ρ) (x : Int32) : g_M l y_T_waiting w_T_waiting (rk 1) D gCl g_N [.ref (ad0 0), .int x] (CW S ρ ad0 w0) 0 0 (fun A => g_Qi D gCl A (fun r ad w => r = q_wt S σ x ∧ CW S ρ ad0 w0 ad w)) := by
  have hS3 := hInv.S3
  have hO := hM.1
  refine g_of (cc := c_T_waiting) (nL := 2) (ret := some .int) (by decide) rfl (Nat.le_of_ble_eq_true rfl) ?_
  intro pp ee ss mm bb me cc A hC hr hlk hnm
  refine g_los [0, 1] (lo' := [(0, .ref (ad0 0)), (1, .int x)]) rfl ?_
  refine g_pure cw_bl (fun hbS => ?_)
  obtain ⟨hb, hSS⟩ := hbS
  refine g_aload_n (i := 0) hC d_T_waiting_0 rfl rfl (Or.inr ⟨_, rfl⟩) ?_
  refine g_iload_n (i := 1) hC d_T_waiting_1 rfl rfl ?_
  refine g_calli hC (g_runV (q := 0) (As := [_]) (st := []) hC g_NOK_N (t_isSite l D S ρ ad0 w0 (by omega) (x)) (t_cwV 1 hC.1.2.2.2.2 m_102 m_104 ms_0 m_1 k_T_isSite rfl rfl hd_T_isSite ⟨by decide, by decide⟩) cw_ts rfl rfl rfl (Nat.le_of_ble_eq_true rfl) d_T_waiting_2 ⟨by decide, by decide⟩) (fun r2 => ?_)
  refine g_and (fun e => ?_)
  subst e
  refine g_if_neN (tgt := 10) hC d_T_waiting_5 (by decide) (pb_le _) (fun h5 => ?_) (fun h5 => ?_)
  · have g5 := pb_1 h5
    obtain ⟨s, hxs⟩ := g5
    obtain ⟨hsS, rfl⟩ := ix_some (by omega) hxs
    obtain ⟨⟨hrow, hvec, hao⟩, hcn⟩ := hM.2.2.2 s hsS
    obtain ⟨hcn1, hcn2⟩ := id hcn
    have hv6 : ∀ t, s_vc σ s t ≤ 6 := fun t => (hInv.2 s hsS).1.1.le6 hInv.1.2.2.1 t
    refine g_aload_n (i := 0) hC d_T_waiting_10 rfl rfl (Or.inr ⟨_, rfl⟩) ?_
    refine g_get hC (fun x h => List.mem_cons_of_mem _ (in_T x h)) 0 cw_ts rfl 2 (by decide) (List.mem_cons_of_mem _ m_86) rfl rfl d_T_waiting_11 ?_
    refine g_iload_n (i := 1) hC d_T_waiting_14 rfl rfl ?_
    refine cl_cps hC (by omega) (by omega) d_T_waiting_15 ?_
    refine g_getN (host := R_T) hC (fun x h => List.mem_cons_of_mem _ (in_K x h)) (10 + 4 * s) (cw_co hsS) rfl 5 (by decide) (hC.2.2.1.1 _ mn_61) rfl rfl d_T_waiting_16 ?_
    refine g_aload_n (i := 0) hC d_T_waiting_19 rfl rfl (Or.inr ⟨_, rfl⟩) ?_
    refine g_get hC (fun x h => List.mem_cons_of_mem _ (in_T x h)) 0 cw_ts rfl 2 (by decide) (List.mem_cons_of_mem _ m_86) rfl rfl d_T_waiting_20 ?_
    refine g_iload_n (i := 1) hC d_T_waiting_23 rfl rfl ?_
    refine cl_cps hC (by omega) (by omega) d_T_waiting_24 ?_
    refine g_getN (host := R_T) hC (fun x h => List.mem_cons_of_mem _ (in_K x h)) (10 + 4 * s) (cw_co hsS) rfl 6 (by decide) (hC.2.2.1.1 _ mn_63) rfl rfl d_T_waiting_25 ?_
    refine g_isubN hC d_T_waiting_28 (by omega) ?_
    refine g_iret hC hr hlk d_T_waiting_29 (by decide) (by decide) (fun ad w hw => ?_)
    exact ⟨by unfold q_wt; rw [hxs, show ρ (10 * s) 2 - ρ (10 * s) 3 = s_wt σ s 18 by omega], hw⟩
  · have g5 := pb_0 h5
    refine g_iconst (v := -1) hC d_T_waiting_8 (by decide) ?_
    refine g_iret hC hr hlk d_T_waiting_9 (by decide) (by decide) (fun ad w hw => ?_)
    exact ⟨by unfold q_wt; rw [ix_no g5], hw⟩
set_option maxRecDepth 100000 in
set_option maxHeartbeats 4000000 in
theorem t_length (l : Launch) (D : va_G) (S : Nat) (σ ρ : rS) (ad0 : Nat → Nat) (w0 : gW) (hInv : INV S σ) (hM : SIM S σ ρ) (x : Int32) : g_M l y_T_length w_T_length (rk 1) D gCl g_N [.ref (ad0 0), .int x] (CW S ρ ad0 w0) 0 0 (fun A => g_Qi D gCl A (fun r ad w => r = q_len S σ x ∧ CW S ρ ad0 w0 ad w)) := by
  have hS3 := hInv.S3
  have hO := hM.1
  refine g_of (cc := c_T_length) (nL := 2) (ret := some .int) (by decide) rfl (Nat.le_of_ble_eq_true rfl) ?_
  intro pp ee ss mm bb me cc A hC hr hlk hnm
  refine g_los [0, 1] (lo' := [(0, .ref (ad0 0)), (1, .int x)]) rfl ?_
  refine g_pure cw_bl (fun hbS => ?_)
  obtain ⟨hb, hSS⟩ := hbS
  refine g_aload_n (i := 0) hC d_T_length_0 rfl rfl (Or.inr ⟨_, rfl⟩) ?_
  refine g_iload_n (i := 1) hC d_T_length_1 rfl rfl ?_
  refine g_calli hC (g_runV (q := 0) (As := [_]) (st := []) hC g_NOK_N (t_isSite l D S ρ ad0 w0 (by omega) (x)) (t_cwV 1 hC.1.2.2.2.2 m_102 m_104 ms_0 m_1 k_T_isSite rfl rfl hd_T_isSite ⟨by decide, by decide⟩) cw_ts rfl rfl rfl (Nat.le_of_ble_eq_true rfl) d_T_length_2 ⟨by decide, by decide⟩) (fun r2 => ?_)
  refine g_and (fun e => ?_)
  subst e
  refine g_if_neN (tgt := 10) hC d_T_length_5 (by decide) (pb_le _) (fun h5 => ?_) (fun h5 => ?_)
  · have g5 := pb_1 h5
    obtain ⟨s, hxs⟩ := g5
    obtain ⟨hsS, rfl⟩ := ix_some (by omega) hxs
    obtain ⟨⟨hrow, hvec, hao⟩, hcn⟩ := hM.2.2.2 s hsS
    obtain ⟨hcn1, hcn2⟩ := id hcn
    have hv6 : ∀ t, s_vc σ s t ≤ 6 := fun t => (hInv.2 s hsS).1.1.le6 hInv.1.2.2.1 t
    refine g_aload_n (i := 0) hC d_T_length_10 rfl rfl (Or.inr ⟨_, rfl⟩) ?_
    refine g_get hC (fun x h => List.mem_cons_of_mem _ (in_T x h)) 0 cw_ts rfl 2 (by decide) (List.mem_cons_of_mem _ m_86) rfl rfl d_T_length_11 ?_
    refine g_iload_n (i := 1) hC d_T_length_14 rfl rfl ?_
    refine cl_cps hC (by omega) (by omega) d_T_length_15 ?_
    refine g_calli hC (g_runV (q := (10 + 4 * s)) (As := []) (st := []) hC g_NOK_N (k_vis l D S σ ρ ad0 w0 s hsS hrow) (t_cwV 0 hC.1.2.2.2.2 m_287 m_111 m_112 m_5 k_K_visibleCount rfl rfl hd_K_visibleCount ⟨by decide, by decide⟩) (cw_co hsS) rfl rfl rfl (Nat.le_of_ble_eq_true rfl) d_T_length_16 ⟨by decide, by decide⟩) (fun r16 => ?_)
    refine g_and (fun e => ?_)
    subst e
    refine g_iret hC hr hlk d_T_length_19 (by decide) (by decide) (fun ad w hw => ?_)
    exact ⟨by rw [q_len_s hxs], hw⟩
  · have g5 := pb_0 h5
    refine g_iconst (v := -1) hC d_T_length_8 (by decide) ?_
    refine g_iret hC hr hlk d_T_length_9 (by decide) (by decide) (fun ad w hw => ?_)
    exact ⟨by unfold q_len; rw [ix_no g5], hw⟩
set_option maxRecDepth 100000 in
set_option maxHeartbeats 4000000 in
theorem t_cells (l : Launch) (D : va_G) (S : Nat) (σ ρ : rS) (ad0 : Nat → Nat) (w0 : gW) (hInv : INV S σ) (hM : SIM S σ ρ) (x : Int32) : g_M l y_T_cells w_T_cells (rk 1) D gCl g_N [.ref (ad0 0), .int x] (CW S ρ ad0 w0) 0 0 (fun A => g_Qi D gCl A (fun r ad w => r = q_cs S σ x ∧ CW S ρ ad0 w0 ad w)) := by
  have hS3 := hInv.S3
  have hO := hM.1
  refine g_of (cc := c_T_cells) (nL := 2) (ret := some .int) (by decide) rfl (Nat.le_of_ble_eq_true rfl) ?_
  intro pp ee ss mm bb me cc A hC hr hlk hnm
  refine g_los [0, 1] (lo' := [(0, .ref (ad0 0)), (1, .int x)]) rfl ?_
  refine g_pure cw_bl (fun hbS => ?_)
  obtain ⟨hb, hSS⟩ := hbS
  refine g_aload_n (i := 0) hC d_T_cells_0 rfl rfl (Or.inr ⟨_, rfl⟩) ?_
  refine g_iload_n (i := 1) hC d_T_cells_1 rfl rfl ?_
  refine g_calli hC (g_runV (q := 0) (As := [_]) (st := []) hC g_NOK_N (t_isSite l D S ρ ad0 w0 (by omega) (x)) (t_cwV 1 hC.1.2.2.2.2 m_102 m_104 ms_0 m_1 k_T_isSite rfl rfl hd_T_isSite ⟨by decide, by decide⟩) cw_ts rfl rfl rfl (Nat.le_of_ble_eq_true rfl) d_T_cells_2 ⟨by decide, by decide⟩) (fun r2 => ?_)
  refine g_and (fun e => ?_)
  subst e
  refine g_if_neN (tgt := 10) hC d_T_cells_5 (by decide) (pb_le _) (fun h5 => ?_) (fun h5 => ?_)
  · have g5 := pb_1 h5
    obtain ⟨s, hxs⟩ := g5
    obtain ⟨hsS, rfl⟩ := ix_some (by omega) hxs
    obtain ⟨⟨hrow, hvec, hao⟩, hcn⟩ := hM.2.2.2 s hsS
    obtain ⟨hcn1, hcn2⟩ := id hcn
    have hv6 : ∀ t, s_vc σ s t ≤ 6 := fun t => (hInv.2 s hsS).1.1.le6 hInv.1.2.2.1 t
    refine g_aload_n (i := 0) hC d_T_cells_10 rfl rfl (Or.inr ⟨_, rfl⟩) ?_
    refine g_get hC (fun x h => List.mem_cons_of_mem _ (in_T x h)) 0 cw_ts rfl 2 (by decide) (List.mem_cons_of_mem _ m_86) rfl rfl d_T_cells_11 ?_
    refine g_iload_n (i := 1) hC d_T_cells_14 rfl rfl ?_
    refine cl_cps hC (by omega) (by omega) d_T_cells_15 ?_
    refine g_getN (host := R_T) hC (fun x h => List.mem_cons_of_mem _ (in_K x h)) (10 + 4 * s) (cw_co hsS) rfl 2 (by decide) (hC.2.2.1.1 _ mn_55) rfl rfl d_T_cells_16 ?_
    refine g_iret hC hr hlk d_T_cells_19 (by decide) (by decide) (fun ad w hw => ?_)
    exact ⟨by unfold q_cs; rw [hxs, hrow.1], hw⟩
  · have g5 := pb_0 h5
    refine g_iconst (v := -1) hC d_T_cells_8 (by decide) ?_
    refine g_iret hC hr hlk d_T_cells_9 (by decide) (by decide) (fun ad w hw => ?_)
    exact ⟨by unfold q_cs; rw [ix_no g5], hw⟩
set_option maxRecDepth 100000 in
set_option maxHeartbeats 4000000 in
theorem t_at (l : Launch) (D : va_G) (S : Nat) (σ ρ : rS) (ad0 : Nat → Nat) (w0 : gW) (hInv : INV S σ) (hM : SIM S σ ρ) (x i : Int32) : g_M l y_T_at w_T_at (rk 2) D gCl g_N [.ref (ad0 0), .int x, .int i] (CW S ρ ad0 w0) 0 0 (fun A => g_Qi D gCl A (fun r ad w => SpAt S σ x i r ∧ CW S ρ ad0 w0 ad w)) := by
  have hS3 := hInv.S3
  have hO := hM.1
  refine g_of (cc := c_T_at) (nL := 4) (ret := some .int) (by decide) rfl (Nat.le_of_ble_eq_true rfl) ?_
  intro pp ee ss mm bb me cc A hC hr hlk hnm
  refine g_los [0, 1, 2] (lo' := [(0, .ref (ad0 0)), (1, .int x), (2, .int i)]) rfl ?_
  refine g_pure cw_bl (fun hbS => ?_)
  obtain ⟨hb, hSS⟩ := hbS
  refine g_aload_n (i := 0) hC d_T_at_0 rfl rfl (Or.inr ⟨_, rfl⟩) ?_
  refine g_iload_n (i := 1) hC d_T_at_1 rfl rfl ?_
  refine g_calli hC (g_runV (q := 0) (As := [_]) (st := []) hC g_NOK_N (t_isSite l D S ρ ad0 w0 (by omega) (x)) (t_cwV 1 hC.1.2.2.2.2 m_102 m_104 ms_0 m_1 k_T_isSite rfl rfl hd_T_isSite ⟨by decide, by decide⟩) cw_ts rfl rfl rfl (Nat.le_of_ble_eq_true rfl) d_T_at_2 ⟨by decide, by decide⟩) (fun r2 => ?_)
  refine g_and (fun e => ?_)
  subst e
  refine g_if_neN (tgt := 10) hC d_T_at_5 (by decide) (pb_le _) (fun h5 => ?_) (fun h5 => ?_)
  · have g5 := pb_1 h5
    obtain ⟨s, hxs⟩ := g5
    obtain ⟨hsS, rfl⟩ := ix_some (by omega) hxs
    obtain ⟨⟨hrow, hvec, hao⟩, hcn⟩ := hM.2.2.2 s hsS
    obtain ⟨hcn1, hcn2⟩ := id hcn
    have hv6 : ∀ t, s_vc σ s t ≤ 6 := fun t => (hInv.2 s hsS).1.1.le6 hInv.1.2.2.1 t
    have h18c := hrow.2.1
    refine g_aload_n (i := 0) hC d_T_at_10 rfl rfl (Or.inr ⟨_, rfl⟩) ?_
    refine g_get hC (fun x h => List.mem_cons_of_mem _ (in_T x h)) 0 cw_ts rfl 2 (by decide) (List.mem_cons_of_mem _ m_86) rfl rfl d_T_at_11 ?_
    refine g_iload_n (i := 1) hC d_T_at_14 rfl rfl ?_
    refine cl_cps hC (by omega) (by omega) d_T_at_15 ?_
    refine g_iload_n (i := 2) hC d_T_at_16 rfl rfl ?_
    refine g_calli hC (g_runV (q := (10 + 4 * s)) (As := [_]) (st := []) hC g_NOK_N (k_cell l D S σ ρ ad0 w0 s hsS hrow i) (t_cwV 1 hC.1.2.2.2.2 m_187 m_115 m_116 m_5 k_K_cellOfVisible rfl rfl hd_K_cellOfVisible ⟨by decide, by decide⟩) (cw_co hsS) rfl rfl rfl (Nat.le_of_ble_eq_true rfl) d_T_at_17 ⟨by decide, by decide⟩) (fun r17 => ?_)
    refine g_and (fun e17 => ?_)
    rcases e17 with ⟨i', k, rfl, hil, hkl, hco, rfl⟩ | ⟨hno, rfl⟩
    · refine g_istore_n (i := 3) (lo' := [(3, _), (0, _), (1, _), (2, _)]) hC d_T_at_20 rfl (by decide) rfl ?_
      refine g_iload_n (i := 3) hC d_T_at_21 rfl rfl ?_
      refine g_iconst (v := -1) hC d_T_at_22 (by decide) ?_
      refine g_icmp_ne (tgt := 30) hC d_T_at_23 (by decide) (fun h23 => ?_) (fun h23 => ?_)
      · refine g_aload_n (i := 0) hC d_T_at_30 rfl rfl (Or.inr ⟨_, rfl⟩) ?_
        refine g_get hC (fun x h => List.mem_cons_of_mem _ (in_T x h)) 0 cw_ts rfl 2 (by decide) (List.mem_cons_of_mem _ m_86) rfl rfl d_T_at_31 ?_
        refine g_iload_n (i := 1) hC d_T_at_34 rfl rfl ?_
        refine cl_cps hC (by omega) (by omega) d_T_at_35 ?_
        refine g_getN (host := R_T) hC (fun x h => List.mem_cons_of_mem _ (in_K x h)) (10 + 4 * s) (cw_co hsS) rfl 1 (by decide) (hC.2.2.1.1 _ mn_53) rfl rfl d_T_at_36 ?_
        refine g_iload_n (i := 3) hC d_T_at_39 rfl rfl ?_
        refine cl_row (si := s) hC hsS (by omega) d_T_at_40 ?_
        refine g_iret hC hr hlk d_T_at_41 (by decide) (by decide) (fun ad w hw => ?_)
        refine ⟨Or.inl ⟨s, i', k, ⟨rfl, hsS, rfl, hil⟩, hco, ?_⟩, hw⟩
        have hv := (hrow.2.2 k hkl).2
        rcases hco with ⟨-, z, -⟩ | ⟨z, -⟩
        · rw [hv, if_neg z, sI_odd]
        · omega
      · exact absurd h23 (fun z => absurd (show nI k < 0 by rw [z]; decide +kernel) (nI_pos (by omega)))
    · refine g_istore_n (i := 3) (lo' := [(3, _), (0, _), (1, _), (2, _)]) hC d_T_at_20 rfl (by decide) rfl ?_
      refine g_iload_n (i := 3) hC d_T_at_21 rfl rfl ?_
      refine g_iconst (v := -1) hC d_T_at_22 (by decide) ?_
      refine g_icmp_ne (tgt := 30) hC d_T_at_23 (by decide) (fun h23 => ?_) (fun h23 => ?_)
      · exact absurd rfl h23
      · refine g_iconst (v := -1) hC d_T_at_26 (by decide) ?_
        refine g_goto (tgt := 41) hC d_T_at_27 (by decide) ?_
        refine g_iret hC hr hlk d_T_at_41 (by decide) (by decide) (fun ad w hw => ?_)
        exact ⟨Or.inr ⟨fun ⟨s1, i1, h⟩ => by
          have e := nI_inj h.1 (by omega) (by have := h.2.1; omega)
          subst e
          exact hno ⟨i1, h.2.2⟩, rfl⟩, hw⟩
  · have g5 := pb_0 h5
    refine g_iconst (v := -1) hC d_T_at_8 (by decide) ?_
    refine g_iret hC hr hlk d_T_at_9 (by decide) (by decide) (fun ad w hw => ?_)
    exact ⟨Or.inr ⟨fun ⟨s1, i1, h⟩ => g5 ⟨s1, by rw [h.1]; exact ix_nI (by omega) h.2.1⟩, rfl⟩, hw⟩
set_option maxRecDepth 100000 in
set_option maxHeartbeats 4000000 in
theorem t_cell (l : Launch) (D : va_G) (S : Nat) (σ ρ : rS) (ad0 : Nat → Nat) (w0 : gW) (hInv : INV S σ) (hM : SIM S σ ρ) (x i : Int32) : g_M l y_T_cell w_T_cell (rk 1) D gCl g_N [.ref (ad0 0), .int x, .int i] (CW S ρ ad0 w0) 0 0 (fun A => g_Qi D gCl A (fun r ad w => SpCe S σ x i r ∧ CW S ρ ad0 w0 ad w)) := by
  have hS3 := hInv.S3
  have hO := hM.1
  refine g_of (cc := c_T_cell) (nL := 3) (ret := some .int) (by decide) rfl (Nat.le_of_ble_eq_true rfl) ?_
  intro pp ee ss mm bb me cc A hC hr hlk hnm
  refine g_los [0, 1, 2] (lo' := [(0, .ref (ad0 0)), (1, .int x), (2, .int i)]) rfl ?_
  refine g_pure cw_bl (fun hbS => ?_)
  obtain ⟨hb, hSS⟩ := hbS
  refine g_aload_n (i := 0) hC d_T_cell_0 rfl rfl (Or.inr ⟨_, rfl⟩) ?_
  refine g_iload_n (i := 1) hC d_T_cell_1 rfl rfl ?_
  refine g_calli hC (g_runV (q := 0) (As := [_]) (st := []) hC g_NOK_N (t_isSite l D S ρ ad0 w0 (by omega) (x)) (t_cwV 1 hC.1.2.2.2.2 m_102 m_104 ms_0 m_1 k_T_isSite rfl rfl hd_T_isSite ⟨by decide, by decide⟩) cw_ts rfl rfl rfl (Nat.le_of_ble_eq_true rfl) d_T_cell_2 ⟨by decide, by decide⟩) (fun r2 => ?_)
  refine g_and (fun e => ?_)
  subst e
  refine g_if_eqN (tgt := 25) hC d_T_cell_5 (by decide) (pb_le _) (fun h5 => ?_) (fun h5 => ?_)
  · have g5 := pb_0 h5
    refine g_iconst (v := nI 0) hC d_T_cell_25 (by decide) ?_
    refine g_iret hC hr hlk d_T_cell_26 (by decide) (by decide) (fun ad w hw => ?_)
    exact ⟨Or.inr ⟨fun ⟨s1, i1, h⟩ => g5 ⟨s1, by rw [h.1]; exact ix_nI (by omega) h.2.1⟩, rfl⟩, hw⟩
  · have g5 := pb_1 h5
    obtain ⟨s, hxs⟩ := g5
    obtain ⟨hsS, rfl⟩ := ix_some (by omega) hxs
    obtain ⟨⟨hrow, hvec, hao⟩, hcn⟩ := hM.2.2.2 s hsS
    obtain ⟨hcn1, hcn2⟩ := id hcn
    have hv6 : ∀ t, s_vc σ s t ≤ 6 := fun t => (hInv.2 s hsS).1.1.le6 hInv.1.2.2.1 t
    have h18c := hrow.2.1
    refine g_iload_n (i := 2) hC d_T_cell_8 rfl rfl ?_
    refine g_if_lt (tgt := 25) hC d_T_cell_9 (by decide) (fun h9 => ?_) (fun h9 => ?_)
    · refine g_iconst (v := nI 0) hC d_T_cell_25 (by decide) ?_
      refine g_iret hC hr hlk d_T_cell_26 (by decide) (by decide) (fun ad w hw => ?_)
      exact ⟨Or.inr ⟨fun ⟨s1, i1, h⟩ => absurd h9 (by have hb1 := h.2.2.2; have hb3 := hInv.c18 s1 h.2.1; rw [h.2.2.1]; exact nI_pos (by omega)), rfl⟩, hw⟩
    · refine g_iload_n (i := 2) hC d_T_cell_12 rfl rfl ?_
      refine g_aload_n (i := 0) hC d_T_cell_13 rfl rfl (Or.inr ⟨_, rfl⟩) ?_
      refine g_get hC (fun x h => List.mem_cons_of_mem _ (in_T x h)) 0 cw_ts rfl 2 (by decide) (List.mem_cons_of_mem _ m_86) rfl rfl d_T_cell_14 ?_
      refine g_iload_n (i := 1) hC d_T_cell_17 rfl rfl ?_
      refine cl_cps hC (by omega) (by omega) d_T_cell_18 ?_
      refine g_getN (host := R_T) hC (fun x h => List.mem_cons_of_mem _ (in_K x h)) (10 + 4 * s) (cw_co hsS) rfl 2 (by decide) (hC.2.2.1.1 _ mn_55) rfl rfl d_T_cell_19 ?_
      refine g_icmp_lt (tgt := 27) hC d_T_cell_22 (by decide) (fun h22 => ?_) (fun h22 => ?_)
      · obtain ⟨i', hi31, rfl⟩ := nI_of h9
        have hil : i' < σ 10 s := by
          rw [hrow.1] at h22
          exact (nI_ltI (by omega) (by omega)).mp h22
        refine g_aload_n (i := 0) hC d_T_cell_27 rfl rfl (Or.inr ⟨_, rfl⟩) ?_
        refine g_get hC (fun x h => List.mem_cons_of_mem _ (in_T x h)) 0 cw_ts rfl 2 (by decide) (List.mem_cons_of_mem _ m_86) rfl rfl d_T_cell_28 ?_
        refine g_iload_n (i := 1) hC d_T_cell_31 rfl rfl ?_
        refine cl_cps hC (by omega) (by omega) d_T_cell_32 ?_
        refine g_getN (host := R_T) hC (fun x h => List.mem_cons_of_mem _ (in_K x h)) (10 + 4 * s) (cw_co hsS) rfl 1 (by decide) (hC.2.2.1.1 _ mn_53) rfl rfl d_T_cell_33 ?_
        refine g_iload_n (i := 2) hC d_T_cell_36 rfl rfl ?_
        refine cl_row (si := s) hC hsS (by omega) d_T_cell_37 ?_
        refine g_iret hC hr hlk d_T_cell_38 (by decide) (by decide) (fun ad w hw => ?_)
        refine ⟨Or.inl ⟨s, i', ⟨rfl, hsS, rfl, hil⟩, ?_⟩, hw⟩
        unfold s_sg
        rw [(hrow.2.2 i' hil).2]
        by_cases z : σ 12 (18 * s + i') = 0
        · rw [if_pos z, if_pos z, Nat.add_zero, sI_ev]
        · rw [if_neg z, if_neg z, sI_odd]
      · refine g_iconst (v := nI 0) hC d_T_cell_25 (by decide) ?_
        refine g_iret hC hr hlk d_T_cell_26 (by decide) (by decide) (fun ad w hw => ?_)
        exact ⟨Or.inr ⟨fun ⟨s1, i1, h⟩ => by
          have hb1 := h.2.2.2
          have hb3 := hInv.c18 s1 h.2.1
          have e := nI_inj h.1 (by omega) (by have := h.2.1; omega)
          subst e
          rw [h.2.2.1, hrow.1] at h22
          exact h22 ((nI_ltI (by omega) (by omega)).mpr hb1), rfl⟩, hw⟩
set_option maxRecDepth 100000 in
set_option maxHeartbeats 4000000 in
theorem t_place (l : Launch) (D : va_G) (S : Nat) (σ ρ : rS) (ad0 : Nat → Nat) (w0 : gW) (hInv : INV S σ) (hM : SIM S σ ρ) (x y z : Int32) : g_M l y_T_place w_T_place (rk 2) D gCl g_N [.ref (ad0 0), .int x, .int y, .int z] (CW S ρ ad0 w0) 0 0 (fun A => g_Qi D gCl A (fun r ad w => SpPl S σ x y z r ∧ CW S ρ ad0 w0 ad w)) := by
  have hS3 := hInv.S3
  have hO := hM.1
  refine g_of (cc := c_T_place) (nL := 5) (ret := some .int) (by decide) rfl (Nat.le_of_ble_eq_true rfl) ?_
  intro pp ee ss mm bb me cc A hC hr hlk hnm
  refine g_los [0, 1, 2, 3] (lo' := [(0, .ref (ad0 0)), (1, .int x), (2, .int y), (3, .int z)]) rfl ?_
  refine g_pure cw_bl (fun hbS => ?_)
  obtain ⟨hb, hSS⟩ := hbS
  refine g_aload_n (i := 0) hC d_T_place_0 rfl rfl (Or.inr ⟨_, rfl⟩) ?_
  refine g_get hC (fun x h => List.mem_cons_of_mem _ (in_T x h)) 0 cw_ts rfl 1 (by decide) (List.mem_cons_of_mem _ m_85) rfl rfl d_T_place_1 ?_
  refine g_iload_n (i := 2) hC d_T_place_4 rfl rfl ?_
  refine g_iload_n (i := 3) hC d_T_place_5 rfl rfl ?_
  refine g_callq hC (g_runV (q := 1) (As := [_, _]) (st := []) hC g_NOK_N (h_find l D S σ ρ ad0 w0 hInv hO (y) (z)) (t_cwV 2 hC.1.2.2.2.2 m_192 m_193 m_194 m_2 k_H_find rfl rfl hd_H_find ⟨by decide, by decide⟩) cw_hi rfl rfl rfl (Nat.le_of_ble_eq_true rfl) d_T_place_6 ⟨by decide, by decide⟩) (fun r6 => ?_)
  refine g_and (fun e6 => ?_)
  replace e6 := fd_o hInv e6
  rcases e6 with ⟨o, hm, rfl⟩ | ⟨hm, rfl⟩
  · rw [show va_rf (some (ad0 (100 + o))) = .ref (ad0 (100 + o)) from rfl]
    obtain ⟨ho, hal, hosi, honu, hoch, hopo, hocx⟩ := hO.al hInv hm.1
    refine g_astore (i := 4) (lo' := [(4, _), (0, _), (1, _), (2, _), (3, _)]) hC d_T_place_9 (Or.inr ⟨_, rfl⟩) (by decide) rfl ?_
    refine g_aload_n (i := 0) hC d_T_place_11 rfl rfl (Or.inr ⟨_, rfl⟩) ?_
    refine g_iload_n (i := 1) hC d_T_place_12 rfl rfl ?_
    refine g_calli hC (g_runV (q := 0) (As := [_]) (st := []) hC g_NOK_N (t_isSite l D S ρ ad0 w0 (by omega) (x)) (t_cwV 1 hC.1.2.2.2.2 m_102 m_104 ms_0 m_1 k_T_isSite rfl rfl hd_T_isSite ⟨by decide, by decide⟩) cw_ts rfl rfl rfl (Nat.le_of_ble_eq_true rfl) d_T_place_13 ⟨by decide, by decide⟩) (fun r13 => ?_)
    refine g_and (fun e => ?_)
    subst e
    refine g_if_eqN (tgt := 24) hC d_T_place_16 (by decide) (pb_le _) (fun h16 => ?_) (fun h16 => ?_)
    · have g16 := pb_0 h16
      refine g_iconst (v := -1) hC d_T_place_24 (by decide) ?_
      refine g_iret hC hr hlk d_T_place_25 (by decide) (by decide) (fun ad w hw => ?_)
      exact ⟨Or.inr ⟨fun ⟨s1, t1, k1, h⟩ => g16 ⟨s1, by rw [h.1]; exact ix_nI (by omega) h.2.1⟩, rfl⟩, hw⟩
    · have g16 := pb_1 h16
      obtain ⟨s, hxs⟩ := g16
      obtain ⟨hsS, rfl⟩ := ix_some (by omega) hxs
      obtain ⟨⟨hrow, hvec, hao⟩, hcn⟩ := hM.2.2.2 s hsS
      obtain ⟨hcn1, hcn2⟩ := id hcn
      have hv6 : ∀ t, s_vc σ s t ≤ 6 := fun t => (hInv.2 s hsS).1.1.le6 hInv.1.2.2.1 t
      refine g_aload (i := 4) hC d_T_place_19 rfl (Or.inr ⟨_, rfl⟩) ?_
      refine g_ifnonnullR (tgt := 26) hC d_T_place_21 (by decide) ?_
      refine g_aload_n (i := 0) hC d_T_place_26 rfl rfl (Or.inr ⟨_, rfl⟩) ?_
      refine g_get hC (fun x h => List.mem_cons_of_mem _ (in_T x h)) 0 cw_ts rfl 2 (by decide) (List.mem_cons_of_mem _ m_86) rfl rfl d_T_place_27 ?_
      refine g_iload_n (i := 1) hC d_T_place_30 rfl rfl ?_
      refine cl_cps hC (by omega) (by omega) d_T_place_31 ?_
      refine g_getN (host := R_T) hC (fun x h => List.mem_cons_of_mem _ (in_K x h)) (10 + 4 * s) (cw_co hsS) rfl 7 (by decide) (hC.2.2.1.1 _ mn_65) rfl rfl d_T_place_32 ?_
      refine g_aload (i := 4) hC d_T_place_35 rfl (Or.inr ⟨_, rfl⟩) ?_
      refine g_calli hC (g_runV (q := (100 + o)) (As := []) (st := [_]) hC g_NOK_N (o_index l D S ρ ad0 w0 o ho hal hosi honu) (t_cwV 0 hC.1.2.2.2.2 m_200 m_160 m_161 m_7 k_O_index rfl rfl hd_O_index ⟨by decide, by decide⟩) (cw_o ho hal) rfl rfl rfl (Nat.le_of_ble_eq_true rfl) d_T_place_37 ⟨by decide, by decide⟩) (fun r37 => ?_)
      refine g_and (fun e => ?_)
      subst e
      refine cl_plc (si := s) hC hsS (by omega) d_T_place_40 ?_
      refine g_iret hC hr hlk d_T_place_41 (by decide) (by decide) (fun ad w hw => ?_)
      refine ⟨Or.inl ⟨s, o / 6, o % 6, rfl, hsS, hm.md hInv, ?_⟩, hw⟩
      rw [(hao o ho).2, show 6 * (o / 6) + o % 6 = o by omega]
  · rw [show va_rf none = .null from rfl]
    refine g_astore (i := 4) (lo' := [(4, _), (0, _), (1, _), (2, _), (3, _)]) hC d_T_place_9 (Or.inl rfl) (by decide) rfl ?_
    refine g_aload_n (i := 0) hC d_T_place_11 rfl rfl (Or.inr ⟨_, rfl⟩) ?_
    refine g_iload_n (i := 1) hC d_T_place_12 rfl rfl ?_
    refine g_calli hC (g_runV (q := 0) (As := [_]) (st := []) hC g_NOK_N (t_isSite l D S ρ ad0 w0 (by omega) (x)) (t_cwV 1 hC.1.2.2.2.2 m_102 m_104 ms_0 m_1 k_T_isSite rfl rfl hd_T_isSite ⟨by decide, by decide⟩) cw_ts rfl rfl rfl (Nat.le_of_ble_eq_true rfl) d_T_place_13 ⟨by decide, by decide⟩) (fun r13 => ?_)
    refine g_and (fun e => ?_)
    subst e
    refine g_if_eqN (tgt := 24) hC d_T_place_16 (by decide) (pb_le _) (fun h16 => ?_) (fun h16 => ?_)
    · have g16 := pb_0 h16
      refine g_iconst (v := -1) hC d_T_place_24 (by decide) ?_
      refine g_iret hC hr hlk d_T_place_25 (by decide) (by decide) (fun ad w hw => ?_)
      exact ⟨Or.inr ⟨fun ⟨s1, t1, k1, h⟩ => g16 ⟨s1, by rw [h.1]; exact ix_nI (by omega) h.2.1⟩, rfl⟩, hw⟩
    · have g16 := pb_1 h16
      obtain ⟨s, hxs⟩ := g16
      obtain ⟨hsS, rfl⟩ := ix_some (by omega) hxs
      obtain ⟨⟨hrow, hvec, hao⟩, hcn⟩ := hM.2.2.2 s hsS
      obtain ⟨hcn1, hcn2⟩ := id hcn
      have hv6 : ∀ t, s_vc σ s t ≤ 6 := fun t => (hInv.2 s hsS).1.1.le6 hInv.1.2.2.1 t
      refine g_aload (i := 4) hC d_T_place_19 rfl (Or.inl rfl) ?_
      refine g_ifnonnullZ hC d_T_place_21 ?_
      refine g_iconst (v := -1) hC d_T_place_24 (by decide) ?_
      refine g_iret hC hr hlk d_T_place_25 (by decide) (by decide) (fun ad w hw => ?_)
      exact ⟨Or.inr ⟨fun ⟨s1, t1, k1, h⟩ => hm ⟨_, h.2.2.mo hInv⟩, rfl⟩, hw⟩
set_option maxRecDepth 100000 in
set_option maxHeartbeats 4000000 in
theorem t_code (l : Launch) (D : va_G) (S : Nat) (σ ρ : rS) (ad0 : Nat → Nat) (w0 : gW) (hInv : INV S σ) (hM : SIM S σ ρ) (x y : Int32) : g_M l y_T_code w_T_code (rk 2) D gCl g_N [.ref (ad0 0), .int x, .int y] (CW S ρ ad0 w0) 0 0 (fun A => g_Ql D gCl A (fun r ad w => SpCd S σ x y r ∧ CW S ρ ad0 w0 ad w)) := by
  have hS3 := hInv.S3
  have hO := hM.1
  refine g_of (cc := c_T_code) (nL := 4) (ret := some .long) (by decide) rfl (Nat.le_of_ble_eq_true rfl) ?_
  intro pp ee ss mm bb me cc A hC hr hlk hnm
  refine g_los [0, 1, 2] (lo' := [(0, .ref (ad0 0)), (1, .int x), (2, .int y)]) rfl ?_
  refine g_pure cw_bl (fun hbS => ?_)
  obtain ⟨hb, hSS⟩ := hbS
  refine g_aload_n (i := 0) hC d_T_code_0 rfl rfl (Or.inr ⟨_, rfl⟩) ?_
  refine g_get hC (fun x h => List.mem_cons_of_mem _ (in_T x h)) 0 cw_ts rfl 1 (by decide) (List.mem_cons_of_mem _ m_85) rfl rfl d_T_code_1 ?_
  refine g_iload_n (i := 1) hC d_T_code_4 rfl rfl ?_
  refine g_iload_n (i := 2) hC d_T_code_5 rfl rfl ?_
  refine g_callq hC (g_runV (q := 1) (As := [_, _]) (st := []) hC g_NOK_N (h_find l D S σ ρ ad0 w0 hInv hO (x) (y)) (t_cwV 2 hC.1.2.2.2.2 m_192 m_193 m_194 m_2 k_H_find rfl rfl hd_H_find ⟨by decide, by decide⟩) cw_hi rfl rfl rfl (Nat.le_of_ble_eq_true rfl) d_T_code_6 ⟨by decide, by decide⟩) (fun r6 => ?_)
  refine g_and (fun e6 => ?_)
  replace e6 := fd_o hInv e6
  rcases e6 with ⟨o, hm, rfl⟩ | ⟨hm, rfl⟩
  · rw [show va_rf (some (ad0 (100 + o))) = .ref (ad0 (100 + o)) from rfl]
    obtain ⟨ho, hal, hosi, honu, hoch, hopo, hocx⟩ := hO.al hInv hm.1
    refine g_astore_n (i := 3) (lo' := [(3, _), (0, _), (1, _), (2, _)]) hC d_T_code_9 rfl (Or.inr ⟨_, rfl⟩) (by decide) rfl ?_
    refine g_aload_n (i := 3) hC d_T_code_10 rfl rfl (Or.inr ⟨_, rfl⟩) ?_
    refine g_ifnonnullR (tgt := 20) hC d_T_code_11 (by decide) ?_
    refine g_aload_n (i := 3) hC d_T_code_20 rfl rfl (Or.inr ⟨_, rfl⟩) ?_
    refine g_calll hC (g_runV (q := (100 + o)) (As := []) (st := []) hC g_NOK_N (o_toCode l D S ρ ad0 w0 o (s_cx σ o) ho hal hosi honu hocx (hInv.cx6 hm.1)) (t_cwV 0 hC.1.2.2.2.2 m_270 m_254 m_255 m_7 k_O_toCode rfl rfl hd_O_toCode ⟨by decide, by decide⟩) (cw_o ho hal) rfl rfl rfl (Nat.le_of_ble_eq_true rfl) d_T_code_21 ⟨by decide, by decide⟩) (fun r21 => ?_)
    refine g_and (fun e => ?_)
    rw [cdv_eq hInv hO hm.1] at e
    subst e
    refine g_lret hC hr hlk d_T_code_24 (by decide) (by decide) (fun ad w hw => ?_)
    exact ⟨Or.inl ⟨o / 6, o % 6, hm.md hInv, by rw [show 6 * (o / 6) + o % 6 = o by omega]⟩, hw⟩
  · rw [show va_rf none = .null from rfl]
    refine g_astore_n (i := 3) (lo' := [(3, _), (0, _), (1, _), (2, _)]) hC d_T_code_9 rfl (Or.inl rfl) (by decide) rfl ?_
    refine g_aload_n (i := 3) hC d_T_code_10 rfl rfl (Or.inl rfl) ?_
    refine g_ifnonnullZ hC d_T_code_11 ?_
    refine g_ldc2 (v := -1) hC d_T_code_14 (List.mem_cons_of_mem _ m_269) ?_
    refine g_goto (tgt := 24) hC d_T_code_17 (by decide) ?_
    refine g_lret hC hr hlk d_T_code_24 (by decide) (by decide) (fun ad w hw => ?_)
    exact ⟨Or.inr ⟨fun ⟨s, k, h⟩ => hm ⟨_, h.mo hInv⟩, rfl⟩, hw⟩
