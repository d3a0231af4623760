theorem nI_inj {a b : Nat} (h : nI a = nI b) (ha : a < 2 ^ 31) (hb : b < 2 ^ 31) : a = b := (nI_eq ha hb).mp h
def InsOK (S : Nat) (σ : rS) (x i c : Int32) (s i' c' : Nat) : Prop := x = nI s ∧ s < S ∧ i = nI i' ∧ i' ≤ s_vis σ s (σ 10 s) ∧ c = nI c' ∧ 1 ≤ c' ∧ c' ≤ 255 ∧ σ 1 s < 6
def SpIns (S : Nat) (σ : rS) (x i c : Int32) (r : Int32) (σs : rS) : Prop := (∃ s i' c' k, InsOK S σ x i c s i' c' ∧ CO σ s i' k ∧ r = nI (σ 1 s) ∧ σs = mkS σ s 1 k c') ∨ ((¬ ∃ s i' c', InsOK S σ x i c s i' c') ∧ r = -1 ∧ σs = σ)
def EraOK (S : Nat) (σ : rS) (x i : Int32) (s i' : Nat) : Prop := x = nI s ∧ s < S ∧ i = nI i' ∧ i' < s_vis σ s (σ 10 s) ∧ σ 1 s < 6
def SpEra (S : Nat) (σ : rS) (x i : Int32) (r : Int32) (σs : rS) : Prop := (∃ s i' k, EraOK S σ x i s i' ∧ CO σ s i' k ∧ r = nI (σ 1 s) ∧ σs = mkS σ s 0 k 0) ∨ ((¬ ∃ s i', EraOK S σ x i s i') ∧ r = -1 ∧ σs = σ)
theorem INV.c18 {S : Nat} {σ : rS} (h : INV S σ) : ∀ s, s < S → σ 10 s ≤ 18 := fun s hs => INV.in18 (S := S) (h.2 s hs).1
theorem INV.S3 {S : Nat} {σ : rS} (h : INV S σ) : S ≤ 3 := by
  have := h.1.1
  omega
theorem INV.m6 {S : Nat} {σ : rS} (h : INV S σ) {s : Nat} (hs : s < S) : σ 1 s ≤ 6 := by
  have := h.1.2.2.1.1 s
  have := h.S3
  rw [s_mk_lt (by omega)] at *
  omega
theorem q_len_s {S s : Nat} {σ : rS} (h : ix S (nI s) = some s) : q_len S σ (nI s) = nI (s_vis σ s (σ 10 s)) := by
  unfold q_len
  rw [h]
set_option maxRecDepth 100000 in
set_option maxHeartbeats 4000000 in
theorem r_insert (l : Launch) (D : va_G) (S : Nat) (σ : rS) (ad0 : Nat → Nat) (w0 : gW) (hInv : INV S σ) (x i c : Int32) : g_M l y_M_insert w_M_insert (rk 6) D gCl g_N [.ref (ad0 200), .int x, .int i, .int c] (RX S σ ad0 w0) 0 0 (fun A => g_Qi D gCl A (fun r ad w => ∃ σs σ', (SpIns S σ x i c r σs ∧ E12 σs σ') ∧ RX S σ' ad0 w0 ad w)) := by
  have hS3 := hInv.S3
  have hc := hInv.c18
  refine g_of (cc := c_M_insert) (nL := 5) (ret := some .int) (by decide) rfl (Nat.le_of_ble_eq_true rfl) ?_
  intro pp ee ss mm bb me cc A hC hr hlk hnm
  refine g_los [0, 1, 2, 3] (lo' := [(0, .ref (ad0 200)), (1, .int x), (2, .int i), (3, .int c)]) rfl ?_
  refine g_pure r_bl_of (fun hb => ?_)
  refine g_aload_n (i := 0) hC d_M_insert_0 rfl rfl (Or.inr ⟨_, rfl⟩) ?_
  refine g_iload_n (i := 1) hC d_M_insert_1 rfl rfl ?_
  refine g_calli hC (g_runV (q := 200) (As := [_]) (st := []) hC g_NOK_N (r_isSite l D S σ ad0 w0 (by omega) x) (t_cwV 1 hC.1.2.2.2.2 m_374 m_376 ms_9 m_6 k_M_isSite rfl rfl hd_M_isSite ⟨by decide, by decide⟩) r_this rfl rfl rfl (Nat.le_of_ble_eq_true rfl) d_M_insert_2 ⟨by decide, by decide⟩) (fun r2 => ?_)
  refine g_and (fun e2 => ?_)
  subst e2
  refine g_if_eqN (tgt := 44) hC d_M_insert_5 (by decide) (pb_le _) (fun h5 => ?_) (fun h5 => ?_)
  · have g5 := pb_0 h5
    refine g_iconst (v := -1) hC d_M_insert_44 (by decide) ?_
    refine g_iret hC hr hlk d_M_insert_45 (by decide) (by decide) (fun ad w hw => ?_)
    exact ⟨σ, σ, ⟨Or.inr ⟨fun ⟨s', i', c', h⟩ => g5 ⟨s', by rw [h.1]; exact ix_nI (by omega) h.2.1⟩, rfl, rfl⟩, E12.refl σ⟩, hw⟩
  · have g5 := pb_1 h5
    obtain ⟨s, hxs⟩ := g5
    obtain ⟨hsS, rfl⟩ := ix_some (by omega) hxs
    refine g_iload_n (i := 2) hC d_M_insert_8 rfl rfl ?_
    refine g_if_lt (tgt := 44) hC d_M_insert_9 (by decide) (fun h9 => ?_) (fun h9 => ?_)
    · refine g_iconst (v := -1) hC d_M_insert_44 (by decide) ?_
      refine g_iret hC hr hlk d_M_insert_45 (by decide) (by decide) (fun ad w hw => ?_)
      exact ⟨σ, σ, ⟨Or.inr ⟨fun ⟨s', i', c', h⟩ => absurd h9 (by have hb1 := h.2.2.2.1; have hb2 := s_vis_le (σ := σ) (s := s') (i := σ 10 s'); have hb3 := hc s' h.2.1; rw [h.2.2.1]; exact nI_pos (by omega)), rfl, rfl⟩, E12.refl σ⟩, hw⟩
    · refine g_iload_n (i := 2) hC d_M_insert_12 rfl rfl ?_
      refine g_aload_n (i := 0) hC d_M_insert_13 rfl rfl (Or.inr ⟨_, rfl⟩) ?_
      refine g_iload_n (i := 1) hC d_M_insert_14 rfl rfl ?_
      refine g_calli hC (g_runV (q := 200) (As := [_]) (st := [_]) hC g_NOK_N (r_length l D S σ ad0 w0 hS3 hc (nI s)) (t_cwV 1 hC.1.2.2.2.2 m_378 m_379 m_380 m_6 k_M_length rfl rfl hd_M_length ⟨by decide, by decide⟩) r_this rfl rfl rfl (Nat.le_of_ble_eq_true rfl) d_M_insert_15 ⟨by decide, by decide⟩) (fun r15 => ?_)
      refine g_and (fun e15 => ?_)
      rw [q_len_s hxs] at e15
      subst e15
      refine g_icmp_gt (tgt := 44) hC d_M_insert_18 (by decide) (fun h18 => ?_) (fun h18 => ?_)
      · refine g_iconst (v := -1) hC d_M_insert_44 (by decide) ?_
        refine g_iret hC hr hlk d_M_insert_45 (by decide) (by decide) (fun ad w hw => ?_)
        exact ⟨σ, σ, ⟨Or.inr ⟨fun ⟨s', i', c', h⟩ => by
          have hb1 := h.2.2.2.1
          have hb2 := s_vis_le (σ := σ) (s := s') (i := σ 10 s')
          have hb3 := hc s' h.2.1
          have e := nI_inj h.1 (by omega) (by have := h.2.1; omega)
          subst e
          rw [h.2.2.1] at h18
          have := (nI_ltI (by omega) (by omega)).mp h18
          omega, rfl, rfl⟩, E12.refl σ⟩, hw⟩
      · refine g_iload_n (i := 3) hC d_M_insert_21 rfl rfl ?_
        refine g_iconst (v := nI 1) hC d_M_insert_22 (by decide) ?_
        refine g_icmp_lt (tgt := 44) hC d_M_insert_23 (by decide) (fun h23 => ?_) (fun h23 => ?_)
        · refine g_iconst (v := -1) hC d_M_insert_44 (by decide) ?_
          refine g_iret hC hr hlk d_M_insert_45 (by decide) (by decide) (fun ad w hw => ?_)
          exact ⟨σ, σ, ⟨Or.inr ⟨fun ⟨s', i', c', h⟩ => by
            have a := h.2.2.2.2
            rw [a.1] at h23
            have := (nI_ltI (by omega) (by omega)).mp h23
            omega, rfl, rfl⟩, E12.refl σ⟩, hw⟩
        · refine g_iload_n (i := 3) hC d_M_insert_26 rfl rfl ?_
          refine g_sipush (v := nI 255) hC d_M_insert_27 (by decide) ?_
          refine g_icmp_gt (tgt := 44) hC d_M_insert_30 (by decide) (fun h30 => ?_) (fun h30 => ?_)
          · refine g_iconst (v := -1) hC d_M_insert_44 (by decide) ?_
            refine g_iret hC hr hlk d_M_insert_45 (by decide) (by decide) (fun ad w hw => ?_)
            exact ⟨σ, σ, ⟨Or.inr ⟨fun ⟨s', i', c', h⟩ => by
              have a := h.2.2.2.2
              rw [a.1] at h30
              have := (nI_ltI (by omega) (by omega)).mp h30
              omega, rfl, rfl⟩, E12.refl σ⟩, hw⟩
          · obtain ⟨i', hi31, rfl⟩ := nI_of h9
            have hvl := s_vis_le (σ := σ) (s := s) (i := σ 10 s)
            have hcs := hc s hsS
            have hil : i' ≤ s_vis σ s (σ 10 s) := Nat.le_of_not_lt (fun z => h18 ((nI_ltI (by omega) (by omega)).mpr z))
            obtain ⟨c', hc31, rfl⟩ := nI_of (x := c) (fun z => h23 (Int32.lt_trans z (by decide +kernel)))
            have hc1 : 1 ≤ c' := Nat.le_of_not_lt (fun z => h23 ((nI_ltI (by omega) (by omega)).mpr z))
            have hc2 : c' ≤ 255 := Nat.le_of_not_lt (fun z => h30 ((nI_ltI (by omega) (by omega)).mpr z))
            refine g_aload_n (i := 0) hC d_M_insert_33 rfl rfl (Or.inr ⟨_, rfl⟩) ?_
            refine g_get hC (fun x h => List.mem_cons_of_mem _ (in_M x h)) 200 r_this rfl 1 (by decide) (List.mem_cons_of_mem _ m_321) rfl rfl d_M_insert_34 ?_
            refine g_iload_n (i := 1) hC d_M_insert_37 rfl rfl ?_
            refine r_ld 1 hC (by decide) (by decide) rfl (fun _ => rfl) (by simp only [r_ln]; omega) d_M_insert_38 ?_
            refine g_bipush (v := nI 6) hC d_M_insert_39 (by decide) ?_
            refine g_icmp_neN (tgt := 46) hC d_M_insert_41 (by decide) (r_lt hb _ _) (by omega) (fun h41 => ?_) (fun h41 => ?_)
            · have hm6 : σ 1 s < 6 := by
                have := hInv.m6 hsS
                omega
              refine g_aload_n (i := 0) hC d_M_insert_46 rfl rfl (Or.inr ⟨_, rfl⟩) ?_
              refine g_iload_n (i := 1) hC d_M_insert_47 rfl rfl ?_
              refine g_iload_n (i := 2) hC d_M_insert_48 rfl rfl ?_
              refine g_calli hC (g_runV (q := 200) (As := [_, _]) (st := []) hC g_NOK_N (r_cellOf l D S σ ad0 w0 s i' (by omega) hcs (by omega)) (t_cwV 2 hC.1.2.2.2.2 m_382 m_384 ms_10 m_6 k_M_cellOf rfl rfl hd_M_cellOf ⟨by decide, by decide⟩) r_this rfl rfl rfl (Nat.le_of_ble_eq_true rfl) d_M_insert_49 ⟨by decide, by decide⟩) (fun r49 => ?_)
              refine g_ex (fun k => g_and (fun e49 => ?_))
              obtain ⟨hco, rfl⟩ := e49
              refine g_istore (i := 4) (lo' := [(4, _), (0, _), (1, _), (2, _), (3, _)]) hC d_M_insert_52 (by decide) rfl ?_
              refine g_aload_n (i := 0) hC d_M_insert_54 rfl rfl (Or.inr ⟨_, rfl⟩) ?_
              refine g_iload_n (i := 1) hC d_M_insert_55 rfl rfl ?_
              refine g_iconst (v := nI 1) hC d_M_insert_56 (by decide) ?_
              refine g_iload (i := 4) hC d_M_insert_57 rfl ?_
              refine g_iload_n (i := 3) hC d_M_insert_59 rfl rfl ?_
              refine g_calli hC (g_runV (q := 200) (As := [_, _, _, _]) (st := []) hC g_NOK_N (r_make l D S σ ad0 w0 s 1 k c' hS3 hsS hInv hm6 (Or.inr ⟨rfl, hc1, hc2, CO_le hco⟩)) (t_cwV 4 hC.1.2.2.2.2 m_386 m_388 ms_11 m_6 k_M_make rfl rfl hd_M_make ⟨by decide, by decide⟩) r_this rfl rfl rfl (Nat.le_of_ble_eq_true rfl) d_M_insert_60 ⟨by decide, by decide⟩) (fun r60 => ?_)
              refine g_ex (fun σ2 => g_and (fun e60 => ?_))
              obtain ⟨hE, hr2⟩ := e60
              refine g_iret hC hr hlk d_M_insert_63 (by decide) (by decide) (fun ad w hw => ?_)
              exact ⟨_, σ2, ⟨Or.inl ⟨s, i', c', k, ⟨rfl, hsS, rfl, hil, rfl, hc1, hc2, hm6⟩, hco, hr2, rfl⟩, hE⟩, hw⟩
            · refine g_iconst (v := -1) hC d_M_insert_44 (by decide) ?_
              refine g_iret hC hr hlk d_M_insert_45 (by decide) (by decide) (fun ad w hw => ?_)
              exact ⟨σ, σ, ⟨Or.inr ⟨fun ⟨s', i', c', h⟩ => by
                have e := nI_inj h.1 (by omega) (by have := h.2.1; omega)
                subst e
                have := h.2.2.2.2.2.2.2
                omega, rfl, rfl⟩, E12.refl σ⟩, hw⟩
set_option maxRecDepth 100000 in
set_option maxHeartbeats 4000000 in
theorem r_erase (l : Launch) (D : va_G) (S : Nat) (σ : rS) (ad0 : Nat → Nat) (w0 : gW) (hInv : INV S σ) (x i : Int32) : g_M l y_M_erase w_M_erase (rk 6) D gCl g_N [.ref (ad0 200), .int x, .int i] (RX S σ ad0 w0) 0 0 (fun A => g_Qi D gCl A (fun r ad w => ∃ σs σ', (SpEra S σ x i r σs ∧ E12 σs σ') ∧ RX S σ' ad0 w0 ad w)) := by
  have hS3 := hInv.S3
  have hc := hInv.c18
  refine g_of (cc := c_M_erase) (nL := 4) (ret := some .int) (by decide) rfl (Nat.le_of_ble_eq_true rfl) ?_
  intro pp ee ss mm bb me cc A hC hr hlk hnm
  refine g_los [0, 1, 2] (lo' := [(0, .ref (ad0 200)), (1, .int x), (2, .int i)]) rfl ?_
  refine g_pure r_bl_of (fun hb => ?_)
  refine g_aload_n (i := 0) hC d_M_erase_0 rfl rfl (Or.inr ⟨_, rfl⟩) ?_
  refine g_iload_n (i := 1) hC d_M_erase_1 rfl rfl ?_
  refine g_calli hC (g_runV (q := 200) (As := [_]) (st := []) hC g_NOK_N (r_isSite l D S σ ad0 w0 (by omega) x) (t_cwV 1 hC.1.2.2.2.2 m_374 m_376 ms_9 m_6 k_M_isSite rfl rfl hd_M_isSite ⟨by decide, by decide⟩) r_this rfl rfl rfl (Nat.le_of_ble_eq_true rfl) d_M_erase_2 ⟨by decide, by decide⟩) (fun r2 => ?_)
  refine g_and (fun e2 => ?_)
  subst e2
  refine g_if_eqN (tgt := 32) hC d_M_erase_5 (by decide) (pb_le _) (fun h5 => ?_) (fun h5 => ?_)
  · have g5 := pb_0 h5
    refine g_iconst (v := -1) hC d_M_erase_32 (by decide) ?_
    refine g_iret hC hr hlk d_M_erase_33 (by decide) (by decide) (fun ad w hw => ?_)
    exact ⟨σ, σ, ⟨Or.inr ⟨fun ⟨s', i', h⟩ => g5 ⟨s', by rw [h.1]; exact ix_nI (by omega) h.2.1⟩, rfl, rfl⟩, E12.refl σ⟩, hw⟩
  · have g5 := pb_1 h5
    obtain ⟨s, hxs⟩ := g5
    obtain ⟨hsS, rfl⟩ := ix_some (by omega) hxs
    refine g_iload_n (i := 2) hC d_M_erase_8 rfl rfl ?_
    refine g_if_lt (tgt := 32) hC d_M_erase_9 (by decide) (fun h9 => ?_) (fun h9 => ?_)
    · refine g_iconst (v := -1) hC d_M_erase_32 (by decide) ?_
      refine g_iret hC hr hlk d_M_erase_33 (by decide) (by decide) (fun ad w hw => ?_)
      exact ⟨σ, σ, ⟨Or.inr ⟨fun ⟨s', i', h⟩ => absurd h9 (by have hb1 := h.2.2.2.1; have hb2 := s_vis_le (σ := σ) (s := s') (i := σ 10 s'); have hb3 := hc s' h.2.1; rw [h.2.2.1]; exact nI_pos (by omega)), rfl, rfl⟩, E12.refl σ⟩, hw⟩
    · refine g_iload_n (i := 2) hC d_M_erase_12 rfl rfl ?_
      refine g_aload_n (i := 0) hC d_M_erase_13 rfl rfl (Or.inr ⟨_, rfl⟩) ?_
      refine g_iload_n (i := 1) hC d_M_erase_14 rfl rfl ?_
      refine g_calli hC (g_runV (q := 200) (As := [_]) (st := [_]) hC g_NOK_N (r_length l D S σ ad0 w0 hS3 hc (nI s)) (t_cwV 1 hC.1.2.2.2.2 m_378 m_379 m_380 m_6 k_M_length rfl rfl hd_M_length ⟨by decide, by decide⟩) r_this rfl rfl rfl (Nat.le_of_ble_eq_true rfl) d_M_erase_15 ⟨by decide, by decide⟩) (fun r15 => ?_)
      refine g_and (fun e15 => ?_)
      rw [q_len_s hxs] at e15
      subst e15
      refine g_icmp_ge (tgt := 32) hC d_M_erase_18 (by decide) (fun h18 => ?_) (fun h18 => ?_)
      · refine g_iconst (v := -1) hC d_M_erase_32 (by decide) ?_
        refine g_iret hC hr hlk d_M_erase_33 (by decide) (by decide) (fun ad w hw => ?_)
        exact ⟨σ, σ, ⟨Or.inr ⟨fun ⟨s', i', h⟩ => by
          have hb1 := h.2.2.2.1
          have hb2 := s_vis_le (σ := σ) (s := s') (i := σ 10 s')
          have hb3 := hc s' h.2.1
          have e := nI_inj h.1 (by omega) (by have := h.2.1; omega)
          subst e
          rw [h.2.2.1] at h18
          have := (nI_leI (by omega) (by omega)).mp h18
          omega, rfl, rfl⟩, E12.refl σ⟩, hw⟩
      · obtain ⟨i', hi31, rfl⟩ := nI_of h9
        have hvl := s_vis_le (σ := σ) (s := s) (i := σ 10 s)
        have hcs := hc s hsS
        have hil : i' < s_vis σ s (σ 10 s) := Nat.lt_of_not_le (fun z => h18 ((nI_leI (by omega) (by omega)).mpr z))
        refine g_aload_n (i := 0) hC d_M_erase_21 rfl rfl (Or.inr ⟨_, rfl⟩) ?_
        refine g_get hC (fun x h => List.mem_cons_of_mem _ (in_M x h)) 200 r_this rfl 1 (by decide) (List.mem_cons_of_mem _ m_321) rfl rfl d_M_erase_22 ?_
        refine g_iload_n (i := 1) hC d_M_erase_25 rfl rfl ?_
        refine r_ld 1 hC (by decide) (by decide) rfl (fun _ => rfl) (by simp only [r_ln]; omega) d_M_erase_26 ?_
        refine g_bipush (v := nI 6) hC d_M_erase_27 (by decide) ?_
        refine g_icmp_neN (tgt := 34) hC d_M_erase_29 (by decide) (r_lt hb _ _) (by omega) (fun h29 => ?_) (fun h29 => ?_)
        · have hm6 : σ 1 s < 6 := by
            have := hInv.m6 hsS
            omega
          refine g_aload_n (i := 0) hC d_M_erase_34 rfl rfl (Or.inr ⟨_, rfl⟩) ?_
          refine g_iload_n (i := 1) hC d_M_erase_35 rfl rfl ?_
          refine g_iload_n (i := 2) hC d_M_erase_36 rfl rfl ?_
          refine g_calli hC (g_runV (q := 200) (As := [_, _]) (st := []) hC g_NOK_N (r_cellOf l D S σ ad0 w0 s i' (by omega) hcs (by omega)) (t_cwV 2 hC.1.2.2.2.2 m_382 m_384 ms_10 m_6 k_M_cellOf rfl rfl hd_M_cellOf ⟨by decide, by decide⟩) r_this rfl rfl rfl (Nat.le_of_ble_eq_true rfl) d_M_erase_37 ⟨by decide, by decide⟩) (fun r37 => ?_)
          refine g_ex (fun k => g_and (fun e37 => ?_))
          obtain ⟨hco, rfl⟩ := e37
          refine g_istore_n (i := 3) (lo' := [(3, _), (0, _), (1, _), (2, _)]) hC d_M_erase_40 rfl (by decide) rfl ?_
          refine g_aload_n (i := 0) hC d_M_erase_41 rfl rfl (Or.inr ⟨_, rfl⟩) ?_
          refine g_iload_n (i := 1) hC d_M_erase_42 rfl rfl ?_
          refine g_iconst (v := nI 0) hC d_M_erase_43 (by decide) ?_
          refine g_iload_n (i := 3) hC d_M_erase_44 rfl rfl ?_
          refine g_iconst (v := nI 0) hC d_M_erase_45 (by decide) ?_
          refine g_calli hC (g_runV (q := 200) (As := [_, _, _, _]) (st := []) hC g_NOK_N (r_make l D S σ ad0 w0 s 0 k 0 hS3 hsS hInv hm6 (Or.inl ⟨rfl, rfl, CO_lt hco hil⟩)) (t_cwV 4 hC.1.2.2.2.2 m_386 m_388 ms_11 m_6 k_M_make rfl rfl hd_M_make ⟨by decide, by decide⟩) r_this rfl rfl rfl (Nat.le_of_ble_eq_true rfl) d_M_erase_46 ⟨by decide, by decide⟩) (fun r46 => ?_)
          refine g_ex (fun σ2 => g_and (fun e46 => ?_))
          obtain ⟨hE, hr2⟩ := e46
          refine g_iret hC hr hlk d_M_erase_49 (by decide) (by decide) (fun ad w hw => ?_)
          exact ⟨_, σ2, ⟨Or.inl ⟨s, i', k, ⟨rfl, hsS, rfl, hil, hm6⟩, hco, hr2, rfl⟩, hE⟩, hw⟩
        · refine g_iconst (v := -1) hC d_M_erase_32 (by decide) ?_
          refine g_iret hC hr hlk d_M_erase_33 (by decide) (by decide) (fun ad w hw => ?_)
          exact ⟨σ, σ, ⟨Or.inr ⟨fun ⟨s', i', h⟩ => by
            have e := nI_inj h.1 (by omega) (by have := h.2.1; omega)
            subst e
            have := h.2.2.2.2
            omega, rfl, rfl⟩, E12.refl σ⟩, hw⟩
