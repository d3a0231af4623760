def ra (ad0 : Nat → Nat) (q : Option Nat) : Option Nat := match q with
  | none => none
  | some o => some (ad0 (100 + o))
set_option maxRecDepth 100000 in
set_option maxHeartbeats 4000000 in
theorem t_first (l : Launch) (D : va_G) (S : Nat) (σ ρ : rS) (ad0 : Nat → Nat) (w0 : gW) (hInv : INV S σ) (hM : SIM S σ ρ) (s : Nat) (hsS : s < S)  : g_M l y_T_firstReady w_T_firstReady (rk 2) D gCl g_N [.ref (ad0 0), .ref (ad0 (10 + 4 * s))] (CW S ρ ad0 w0) 0 0 (fun A => g_Qq D gCl A (fun r ad w => ∃ q, (NX σ s q ∧ r = ra ad0 q) ∧ CW S ρ ad0 w0 ad w)) := by
  have hS3 := hInv.S3
  have hO := hM.1
  obtain ⟨⟨hrow, hvec, hao⟩, hcn⟩ := hM.2.2.2 s hsS
  obtain ⟨hcn1, hcn2⟩ := id hcn
  have hv6 : ∀ t, s_vc σ s t ≤ 6 := fun t => (hInv.2 s hsS).1.1.le6 hInv.1.2.2.1 t
  refine g_of (cc := c_T_firstReady) (nL := 4) (ret := some (.object "TombstoneSites$Operation")) (by decide) rfl (Nat.le_of_ble_eq_true rfl) ?_
  intro pp ee ss mm bb me cc A hC hr hlk hnm
  refine g_los [0, 1] (lo' := [(0, .ref (ad0 0)), (1, .ref (ad0 (10 + 4 * s)))]) rfl ?_
  refine g_pure cw_bl (fun hbS => ?_)
  obtain ⟨hb, hSS⟩ := hbS
  refine g_iconst (v := nI 0) hC d_T_firstReady_0 (by decide) ?_
  refine g_istore_n (i := 2) (lo' := [(2, _), (0, _), (1, _)]) hC d_T_firstReady_1 rfl (by decide) rfl ?_
  refine g_los [1, 2, 0] (lo' := [(0, _), (1, _), (2, _)]) rfl ?_
  refine g_loop (ι := Nat) (pc0 := 2) (fun t => 3 - t) (fun t => t ≤ S ∧ ∀ o', o' < 18 → o' / 6 < t → ¬ WT σ s o') (fun t => CW S ρ ad0 w0) (fun t => [(0, .ref (ad0 0)), (1, .ref (ad0 (10 + 4 * s))), (2, .int (nI t))]) ?_ 0 (⟨Nat.zero_le _, fun o' _ h => absurd h (Nat.not_lt_zero _)⟩)
  rintro t hI ih
  try dsimp only at hI ih ⊢
  refine g_iload_n (i := 2) hC d_T_firstReady_2 rfl rfl ?_
  refine g_aload_n (i := 0) hC d_T_firstReady_3 rfl rfl (Or.inr ⟨_, rfl⟩) ?_
  refine g_get hC (fun x h => List.mem_cons_of_mem _ (in_T x h)) 0 cw_ts rfl 0 (by decide) (List.mem_cons_of_mem _ m_84) rfl rfl d_T_firstReady_4 ?_
  refine g_icmp_geN (tgt := 65) hC d_T_firstReady_7 (by decide) (by first | omega | exact c_lt hb _ _ | exact pb_le _) (by first | omega | exact c_lt hb _ _ | exact pb_le _) (fun h7 => ?_) (fun h7 => ?_)
  · refine g_null hC d_T_firstReady_65 ?_
    refine g_aret (r := none) hC hr hlk d_T_firstReady_66 (by decide) (by decide) (fun ad w hw => ?_)
    refine ⟨none, ⟨fun o' ho' z => ?_, rfl⟩, hw⟩
    by_cases q1 : o' / 6 < t
    · exact hI.2 o' ho' q1 z
    · have := ((hInv.2 s hsS).1.2.2.2.2 o' ho').2.2.2 z.1
      unfold mh at this
      rw [hInv.mkS0 (by omega)] at this
      omega
  · refine g_aload_n (i := 0) hC d_T_firstReady_10 rfl rfl (Or.inr ⟨_, rfl⟩) ?_
    refine g_get hC (fun x h => List.mem_cons_of_mem _ (in_T x h)) 0 cw_ts rfl 1 (by decide) (List.mem_cons_of_mem _ m_85) rfl rfl d_T_firstReady_11 ?_
    refine g_iload_n (i := 2) hC d_T_firstReady_14 rfl rfl ?_
    refine g_aload_n (i := 1) hC d_T_firstReady_15 rfl rfl (Or.inr ⟨_, rfl⟩) ?_
    refine g_getN (host := R_T) hC (fun x h => List.mem_cons_of_mem _ (in_K x h)) (10 + 4 * s) (cw_co hsS) rfl 3 (by decide) (hC.2.2.1.1 _ mn_57) rfl rfl d_T_firstReady_16 ?_
    refine g_iload_n (i := 2) hC d_T_firstReady_19 rfl rfl ?_
    rw [hvec]
    refine g_calli hC (g_runS (As := [_, _]) (st := [_, _]) hC g_NOK_N (v_count l D (CW S ρ ad0 w0) (s_vc σ s) t hv6 (by omega)) (t_cwS 2 hC.1.2.2.2.2 m_122 m_123 m_3 k_V_count rfl rfl hd_V_count ⟨by decide, by decide⟩) rfl rfl (Nat.le_of_ble_eq_true rfl) d_T_firstReady_20 ⟨by decide, by decide⟩) (fun r20 => ?_)
    refine g_and (fun e => ?_)
    subst e
    refine g_callq hC (g_runV (q := 1) (As := [_, _]) (st := []) hC g_NOK_N (h_find l D S σ ρ ad0 w0 hInv hO (nI t) (nI (s_vc σ s t))) (t_cwV 2 hC.1.2.2.2.2 m_192 m_193 m_194 m_2 k_H_find rfl rfl hd_H_find ⟨by decide, by decide⟩) cw_hi rfl rfl rfl (Nat.le_of_ble_eq_true rfl) d_T_firstReady_23 ⟨by decide, by decide⟩) (fun r23 => ?_)
    refine g_and (fun e23 => ?_)
    replace e23 := fd_o hInv e23
    rcases e23 with ⟨o, hm, rfl⟩ | ⟨hm, rfl⟩
    · rw [show va_rf (some (ad0 (100 + o))) = .ref (ad0 (100 + o)) from rfl]
      obtain ⟨ho, hal, hosi, honu, hoch, hopo, hocx⟩ := hO.al hInv hm.1
      have e1 : o / 6 = t := (nI_inj hm.2.1 (by omega) (by omega)).symm
      have e2 : o % 6 = s_vc σ s t := (nI_inj hm.2.2 (by have := hv6 t; omega) (by omega)).symm
      have hne : o / 6 ≠ s := by
        intro z
        have h1 := hm.1
        unfold mh at h1
        rw [z, ← (hInv.2 s hsS).2] at h1
        rw [← e1, z] at e2
        omega
      have harr : ρ (10 * s + 2) o = σ 6 (18 * s + o) := (hao o ho).1 hne
      have hcxo := (hInv.1.2.2.1.2.2 o hm.1).1
      have h7 : σ 7 (18 * s + o) = 0 := by
        apply Classical.byContradiction
        intro z
        have := ((hInv.2 s hsS).1.2.2.2.2 o ho).1.mp z
        unfold mh at this
        rw [e1] at this
        omega
      refine g_astore_n (i := 3) (lo' := [(3, _), (0, _), (1, _), (2, _)]) hC d_T_firstReady_26 rfl (Or.inr ⟨_, rfl⟩) (by decide) rfl ?_
      refine g_aload_n (i := 3) hC d_T_firstReady_27 rfl rfl (Or.inr ⟨_, rfl⟩) ?_
      refine g_ifnullR hC d_T_firstReady_28 ?_
      refine g_aload_n (i := 1) hC d_T_firstReady_31 rfl rfl (Or.inr ⟨_, rfl⟩) ?_
      refine g_getN (host := R_T) hC (fun x h => List.mem_cons_of_mem _ (in_K x h)) (10 + 4 * s) (cw_co hsS) rfl 4 (by decide) (hC.2.2.1.1 _ mn_59) rfl rfl d_T_firstReady_32 ?_
      refine g_aload_n (i := 3) hC d_T_firstReady_35 rfl rfl (Or.inr ⟨_, rfl⟩) ?_
      refine g_calli hC (g_runV (q := (100 + o)) (As := []) (st := [_]) hC g_NOK_N (o_index l D S ρ ad0 w0 o ho hal hosi honu) (t_cwV 0 hC.1.2.2.2.2 m_200 m_160 m_161 m_7 k_O_index rfl rfl hd_O_index ⟨by decide, by decide⟩) (cw_o ho hal) rfl rfl rfl (Nat.le_of_ble_eq_true rfl) d_T_firstReady_36 ⟨by decide, by decide⟩) (fun r36 => ?_)
      refine g_and (fun e => ?_)
      subst e
      refine cl_arr (si := s) hC hsS (by omega) d_T_firstReady_39 ?_
      refine g_if_eqN (tgt := 59) hC d_T_firstReady_40 (by decide) (c_lt hb _ _) (fun h40 => ?_) (fun h40 => ?_)
      · refine g_iinc (i := 2) (k := 3) (lo' := [(2, _), (3, _), (0, _), (1, _)]) hC d_T_firstReady_59 rfl (nI_inc _) (by decide) rfl ?_
        refine g_goto (tgt := 2) hC d_T_firstReady_62 (by decide) ?_
        refine g_los [2, 3, 0] rfl ?_
        have key : ∀ o', o' < 18 → o' / 6 < t + 1 → ¬ WT σ s o' := by
          intro o' ho' hlt
          by_cases q1 : o' / 6 < t
          · exact hI.2 o' ho' q1
          · have q2 : o' / 6 = t := by omega
            intro z
            have e := z.2.2.1
            rw [q2] at e
            have eo : o' = o := by omega
            subst eo
            exact z.1 (by rw [← harr]; exact h40)
        exact ih (t + 1) ⟨by omega, key⟩ (by omega)
      · refine g_aload_n (i := 1) hC d_T_firstReady_43 rfl rfl (Or.inr ⟨_, rfl⟩) ?_
        refine g_getN (host := R_T) hC (fun x h => List.mem_cons_of_mem _ (in_K x h)) (10 + 4 * s) (cw_co hsS) rfl 3 (by decide) (hC.2.2.1.1 _ mn_57) rfl rfl d_T_firstReady_44 ?_
        refine g_aload_n (i := 3) hC d_T_firstReady_47 rfl rfl (Or.inr ⟨_, rfl⟩) ?_
        refine g_getN (host := R_T) hC (fun x h => List.mem_cons_of_mem _ (in_O x h)) (100 + o) (cw_o ho hal) rfl 4 (by decide) (hC.2.2.1.1 _ mn_143) rfl rfl d_T_firstReady_48 ?_
        rw [hvec, hocx]
        refine g_calli hC (g_runS (As := [_, _]) (st := []) hC g_NOK_N (v_covers l D (CW S ρ ad0 w0) (s_vc σ s) (s_cx σ o) hv6 (hInv.cx6 hm.1)) (t_cwS 2 hC.1.2.2.2.2 m_209 m_210 m_3 k_V_covers rfl rfl hd_V_covers ⟨by decide, by decide⟩) rfl rfl (Nat.le_of_ble_eq_true rfl) d_T_firstReady_51 ⟨by decide, by decide⟩) (fun r51 => ?_)
        refine g_and (fun e => ?_)
        subst e
        refine g_if_eqN (tgt := 59) hC d_T_firstReady_54 (by decide) (pb_le _) (fun h54 => ?_) (fun h54 => ?_)
        · have g54 := pb_0 h54
          refine g_iinc (i := 2) (k := 3) (lo' := [(2, _), (3, _), (0, _), (1, _)]) hC d_T_firstReady_59 rfl (nI_inc _) (by decide) rfl ?_
          refine g_goto (tgt := 2) hC d_T_firstReady_62 (by decide) ?_
          refine g_los [2, 3, 0] rfl ?_
          have key : ∀ o', o' < 18 → o' / 6 < t + 1 → ¬ WT σ s o' := by
            intro o' ho' hlt
            by_cases q1 : o' / 6 < t
            · exact hI.2 o' ho' q1
            · have q2 : o' / 6 = t := by omega
              intro z
              have e := z.2.2.1
              rw [q2] at e
              have eo : o' = o := by omega
              subst eo
              exact g54 (fun t' ht' => by
                by_cases q3 : t' = o' / 6
                · rw [q3, hcxo, z.2.2.1]
                  exact Nat.le_refl _
                · exact z.2.2.2 t' ht' q3)
          exact ih (t + 1) ⟨by omega, key⟩ (by omega)
        · have g54 := pb_1 h54
          refine g_aload_n (i := 3) hC d_T_firstReady_57 rfl rfl (Or.inr ⟨_, rfl⟩) ?_
          refine g_aret (r := some (ad0 (100 + o))) hC hr hlk d_T_firstReady_58 (by decide) (by decide) (fun ad w hw => ?_)
          refine ⟨some o, ⟨⟨ho, ⟨by rw [← harr]; exact h40, h7, by rw [e1]; exact e2.symm, fun t' ht' _ => g54 t' ht'⟩, fun o' hlt z => ?_⟩, rfl⟩, hw⟩
          by_cases q1 : o' / 6 < t
          · exact hI.2 o' (by omega) q1 z
          · have q2 : o' / 6 = t := by omega
            have e := z.2.2.1
            rw [q2] at e
            omega
    · rw [show va_rf none = .null from rfl]
      refine g_astore_n (i := 3) (lo' := [(3, _), (0, _), (1, _), (2, _)]) hC d_T_firstReady_26 rfl (Or.inl rfl) (by decide) rfl ?_
      refine g_aload_n (i := 3) hC d_T_firstReady_27 rfl rfl (Or.inl rfl) ?_
      refine g_ifnullZ (tgt := 59) hC d_T_firstReady_28 (by decide) ?_
      refine g_iinc (i := 2) (k := 3) (lo' := [(2, _), (3, _), (0, _), (1, _)]) hC d_T_firstReady_59 rfl (nI_inc _) (by decide) rfl ?_
      refine g_goto (tgt := 2) hC d_T_firstReady_62 (by decide) ?_
      refine g_los [2, 3, 0] rfl ?_
      have key : ∀ o', o' < 18 → o' / 6 < t + 1 → ¬ WT σ s o' := by
        intro o' ho' hlt
        by_cases q1 : o' / 6 < t
        · exact hI.2 o' ho' q1
        · have q2 : o' / 6 = t := by omega
          intro z
          have e := z.2.2.1
          rw [q2] at e
          exact hm ⟨o', ((hInv.2 s hsS).1.2.2.2.2 o' ho').2.2.2 z.1, by rw [q2], by rw [← e]⟩
      exact ih (t + 1) ⟨by omega, key⟩ (by omega)
theorem SIM.hp {S : Nat} {σ ρ : rS} {s o : Nat} (h : SIM S σ ρ) (hInv : INV S σ) (hs : s < S) (hr : RDY σ s o) : if ρ (60 + o) 0 = 0 then s_pl σ o (s_vc σ s) < ρ (10 * s) 0 ∧ ρ (10 * s) 0 ≤ 18 ∧ ρ (10 * s + 1) (s_pl σ o (s_vc σ s)) / 2 ≠ 0 else s_pl σ o (s_vc σ s) ≤ ρ (10 * s) 0 ∧ ρ (10 * s) 0 < 18 := by
  obtain ⟨hp, h18⟩ := hr.in hInv.1 (hInv.2 s hs).1
  obtain ⟨-, -, -, -, hch, -, -⟩ := h.1.al hInv hr.1
  obtain ⟨a1, a2, a3⟩ := (h.2.2.2 s hs).1.1
  have hcc := hInv.chr hr.1
  rw [hch, a1]
  by_cases q : σ 4 o = 0
  · rw [if_pos q]
    rw [if_pos (hcc.mp q)] at hp
    have hl : s_pl σ o (s_vc σ s) < σ 10 s := by omega
    obtain ⟨c1, c2⟩ := a3 _ hl
    refine ⟨hl, a2, ?_⟩
    rw [c2]
    split <;> omega
  · rw [if_neg q]
    have q2 : σ 2 o ≠ 0 := fun z => q (hcc.mpr z)
    rw [if_neg q2] at hp
    exact ⟨by omega, h18 q2⟩
theorem INV.ch5 {S : Nat} {σ : rS} (h : INV S σ) {o : Nat} (ho : mh (s_mk σ) o) : σ 4 o ≤ 255 := by
  have := (h.1.2.2.2 o ho).2
  by_cases q : σ 2 o = 0
  · rw [(this.1 q).1]
    omega
  · exact (this.2 q).2.2
/-- what comes of an arrival of o at s -/
def RCV (s o : Nat) (σ : rS) (r : Int32) (σs : rS) : Prop := (∃ n, (o / 6 ≠ s ∧ σ 6 (18 * s + o) = 0) ∧ WK s n (arS σ s o) σs ∧ r = nI n ∧ n ≤ 18) ∨ (¬ (o / 6 ≠ s ∧ σ 6 (18 * s + o) = 0) ∧ r = -1 ∧ σs = σ)
set_option maxRecDepth 100000 in
set_option maxHeartbeats 4000000 in
theorem t_recvN (l : Launch) (D : va_G) (S : Nat) (ρ : rS) (ad0 : Nat → Nat) (w0 : gW) (s : Nat)  : g_M l y_T_receive w_T_receive (rk 23) D gCl g_N [.ref (ad0 0), .ref (ad0 (10 + 4 * s)), .null] (CW S ρ ad0 w0) 0 0 (fun A => g_Qi D gCl A (fun r ad w => r = -1 ∧ CW S ρ ad0 w0 ad w)) := by
  refine g_of (cc := c_T_receive) (nL := 5) (ret := some .int) (by decide) rfl (Nat.le_of_ble_eq_true rfl) ?_
  intro pp ee ss mm bb me cc A hC hr hlk hnm
  refine g_los [0, 1, 2] (lo' := [(0, .ref (ad0 0)), (1, .ref (ad0 (10 + 4 * s))), (2, .null)]) rfl ?_
  refine g_pure cw_bl (fun hbS => ?_)
  obtain ⟨hb, hSS⟩ := hbS
  refine g_aload_n (i := 2) hC d_T_receive_0 rfl rfl (Or.inl rfl) ?_
  refine g_ifnullZ (tgt := 27) hC d_T_receive_1 (by decide) ?_
  refine g_iconst (v := -1) hC d_T_receive_27 (by decide) ?_
  refine g_iret hC hr hlk d_T_receive_28 (by decide) (by decide) (fun ad w hw => ?_)
  exact ⟨rfl, hw⟩
set_option maxRecDepth 100000 in
set_option maxHeartbeats 4000000 in
theorem t_recv (l : Launch) (D : va_G) (S : Nat) (σ ρ : rS) (ad0 : Nat → Nat) (w0 : gW) (hInv : INV S σ) (hM : SIM S σ ρ) (s : Nat) (hsS : s < S) (o : Nat) (hm : mh (s_mk σ) o) : g_M l y_T_receive w_T_receive (rk 23) D gCl g_N [.ref (ad0 0), .ref (ad0 (10 + 4 * s)), .ref (ad0 (100 + o))] (CW S ρ ad0 w0) 0 0 (fun A => g_Qi D gCl A (fun r ad w => ∃ ρ' σs, (RCV s o σ r σs ∧ INV S σs ∧ SIM S σs ρ') ∧ CW S ρ' ad0 w0 ad w)) := by
  have hS3 := hInv.S3
  have hO := hM.1
  obtain ⟨⟨hrow, hvec, hao⟩, hcn⟩ := hM.2.2.2 s hsS
  obtain ⟨hcn1, hcn2⟩ := id hcn
  have hv6 : ∀ t, s_vc σ s t ≤ 6 := fun t => (hInv.2 s hsS).1.1.le6 hInv.1.2.2.1 t
  obtain ⟨ho, hal, hosi, honu, hoch, hopo, hocx⟩ := hO.al hInv hm
  have harr := (hao o ho).1
  refine g_of (cc := c_T_receive) (nL := 5) (ret := some .int) (by decide) rfl (Nat.le_of_ble_eq_true rfl) ?_
  intro pp ee ss mm bb me cc A hC hr hlk hnm
  refine g_los [0, 1, 2] (lo' := [(0, .ref (ad0 0)), (1, .ref (ad0 (10 + 4 * s))), (2, .ref (ad0 (100 + o)))]) rfl ?_
  refine g_pure cw_bl (fun hbS => ?_)
  obtain ⟨hb, hSS⟩ := hbS
  refine g_aload_n (i := 2) hC d_T_receive_0 rfl rfl (Or.inr ⟨_, rfl⟩) ?_
  refine g_ifnullR hC d_T_receive_1 ?_
  refine g_aload_n (i := 2) hC d_T_receive_4 rfl rfl (Or.inr ⟨_, rfl⟩) ?_
  refine g_getN (host := R_T) hC (fun x h => List.mem_cons_of_mem _ (in_O x h)) (100 + o) (cw_o ho hal) rfl 0 (by decide) (hC.2.2.1.1 _ mn_134) rfl rfl d_T_receive_5 ?_
  refine g_aload_n (i := 1) hC d_T_receive_8 rfl rfl (Or.inr ⟨_, rfl⟩) ?_
  refine g_getN (host := R_T) hC (fun x h => List.mem_cons_of_mem _ (in_K x h)) (10 + 4 * s) (cw_co hsS) rfl 0 (by decide) (hC.2.2.1.1 _ mn_51) rfl rfl d_T_receive_9 ?_
  rw [hosi]
  refine g_icmp_eqN (tgt := 27) hC d_T_receive_12 (by decide) (by omega) (by omega) (fun h12 => ?_) (fun h12 => ?_)
  · refine g_iconst (v := -1) hC d_T_receive_27 (by decide) ?_
    refine g_iret hC hr hlk d_T_receive_28 (by decide) (by decide) (fun ad w hw => ?_)
    exact ⟨ρ, σ, ⟨Or.inr ⟨fun z => z.1 h12, rfl, rfl⟩, hInv, hM⟩, hw⟩
  · refine g_aload_n (i := 1) hC d_T_receive_15 rfl rfl (Or.inr ⟨_, rfl⟩) ?_
    refine g_getN (host := R_T) hC (fun x h => List.mem_cons_of_mem _ (in_K x h)) (10 + 4 * s) (cw_co hsS) rfl 4 (by decide) (hC.2.2.1.1 _ mn_59) rfl rfl d_T_receive_16 ?_
    refine g_aload_n (i := 2) hC d_T_receive_19 rfl rfl (Or.inr ⟨_, rfl⟩) ?_
    refine g_calli hC (g_runV (q := (100 + o)) (As := []) (st := [_]) hC g_NOK_N (o_index l D S ρ ad0 w0 o ho hal hosi honu) (t_cwV 0 hC.1.2.2.2.2 m_200 m_160 m_161 m_7 k_O_index rfl rfl hd_O_index ⟨by decide, by decide⟩) (cw_o ho hal) rfl rfl rfl (Nat.le_of_ble_eq_true rfl) d_T_receive_20 ⟨by decide, by decide⟩) (fun r20 => ?_)
    refine g_and (fun e => ?_)
    subst e
    refine cl_arr (si := s) hC hsS (by omega) d_T_receive_23 ?_
    refine g_if_eqN (tgt := 29) hC d_T_receive_24 (by decide) (c_lt hb _ _) (fun h24 => ?_) (fun h24 => ?_)
    · have h60 : σ 6 (18 * s + o) = 0 := by
        rw [← harr h12]
        exact h24
      have hI1 := arS_INV (s := s) hInv hm
      have hM1 := hM.nt hInv hsS hm h60
      refine g_aload_n (i := 1) hC d_T_receive_29 rfl rfl (Or.inr ⟨_, rfl⟩) ?_
      refine g_aload_n (i := 2) hC d_T_receive_30 rfl rfl (Or.inr ⟨_, rfl⟩) ?_
      refine g_callv hC (g_runV (q := (10 + 4 * s)) (As := [_]) (st := []) hC g_NOK_N (k_note l D S ρ ad0 w0 s hsS o ho hal hosi honu (by have := hcn.lt; omega)) (t_cwV 1 hC.1.2.2.2.2 m_201 m_202 m_203 m_5 k_K_noteArrival rfl rfl hd_K_noteArrival ⟨by decide, by decide⟩) (cw_co hsS) rfl rfl rfl (Nat.le_of_ble_eq_true rfl) d_T_receive_31 ⟨by decide, by decide⟩) ?_
      refine g_V (V' := CW S (ntR ρ s o) ad0 w0) (fun _ _ h => h) ?_
      refine g_iconst (v := nI 0) hC d_T_receive_34 (by decide) ?_
      refine g_istore_n (i := 3) (lo' := [(3, _), (0, _), (1, _), (2, _)]) hC d_T_receive_35 rfl (by decide) rfl ?_
      refine g_aload_n (i := 0) hC d_T_receive_36 rfl rfl (Or.inr ⟨_, rfl⟩) ?_
      refine g_aload_n (i := 1) hC d_T_receive_37 rfl rfl (Or.inr ⟨_, rfl⟩) ?_
      refine g_callq hC (g_runV (q := 0) (As := [_]) (st := []) hC g_NOK_N (t_first l D S (arS σ s o) (ntR ρ s o) ad0 w0 hI1 hM1 s hsS) (t_cwV 1 hC.1.2.2.2.2 m_205 m_207 ms_5 m_1 k_T_firstReady rfl rfl hd_T_firstReady ⟨by decide, by decide⟩) cw_ts rfl rfl rfl (Nat.le_of_ble_eq_true rfl) d_T_receive_38 ⟨by decide, by decide⟩) (fun r38 => ?_)
      refine g_ex (fun q0 => g_and (fun e => ?_))
      obtain ⟨hNX0, rfl⟩ := e
      refine g_astore (i := 4) (lo' := [(4, _), (3, _), (0, _), (1, _), (2, _)]) hC d_T_receive_41 (va_rf_or _) (by decide) rfl ?_
      refine g_los [2, 3, 1, 0] (lo' := [(0, _), (1, _), (3, _), (4, _)]) rfl ?_
      refine g_loop (ι := (Nat × Option Nat) × rS × rS) (pc0 := 43) (fun ⟨⟨n, q⟩, τ, ρt⟩ => 18 - n) (fun ⟨⟨n, q⟩, τ, ρt⟩ => INV S τ ∧ SIM S τ ρt ∧ NX τ s q ∧ (∀ m σ', WK s m τ σ' → WK s (n + m) (arS σ s o) σ') ∧ n + s_left τ s ≤ 18) (fun ⟨⟨n, q⟩, τ, ρt⟩ => CW S ρt ad0 w0) (fun ⟨⟨n, q⟩, τ, ρt⟩ => [(0, .ref (ad0 0)), (1, .ref (ad0 (10 + 4 * s))), (3, .int (nI n)), (4, va_rf (ra ad0 q))]) ?_ ((0, q0), arS σ s o, ntR ρ s o) (⟨hI1, hM1, hNX0, fun m σ' h => by rw [Nat.zero_add]; exact h, by rw [Nat.zero_add]; exact s_left_18 _ _⟩)
      rintro ⟨⟨n, q⟩, τ, ρt⟩ hI ih
      try dsimp only at hI ih ⊢
      refine g_aload (i := 4) hC d_T_receive_43 rfl (va_rf_or _) ?_
      rcases q with _ | o'
      · rw [show va_rf (ra ad0 none) = .null from rfl]
        refine g_ifnullZ (tgt := 88) hC d_T_receive_45 (by decide) ?_
        refine g_iload_n (i := 3) hC d_T_receive_88 rfl rfl ?_
        refine g_iret hC hr hlk d_T_receive_89 (by decide) (by decide) (fun ad w hw => ?_)
        obtain ⟨hIt, hMt, hNX, hcont, hleft⟩ := hI
        exact ⟨ρt, τ, ⟨Or.inl ⟨n, ⟨h12, by rw [← harr h12]; exact h24⟩, hcont 0 τ ⟨rfl, hNX⟩, rfl, by omega⟩, hIt, hMt⟩, hw⟩
      · rw [show va_rf (ra ad0 (some o')) = .ref (ad0 (100 + o')) from rfl]
        obtain ⟨hIt, hMt, hNX, hcont, hleft⟩ := hI
        obtain ⟨hr', hne'⟩ := WT.rdy hIt hsS hNX.1 hNX.2.1
        obtain ⟨ho', hal', hosi', honu', hoch', hopo', hocx'⟩ := hMt.1.al hIt hr'.1
        have hvec' : ρt (10 * s) 1 = evv (s_vc τ s) := (hMt.2.2.2 s hsS).1.2.1
        have hIW' := (hIt.2 s hsS).1
        have hv6' : ∀ t, s_vc τ s t ≤ 6 := fun t => hIW'.1.le6 hIt.1.2.2.1 t
        have hle1 := s_left_ex (s := s) (p := s_pl τ o' (s_vc τ s)) ho' hNX.2.1.2.1
        have hmz : msz (s_vc τ s) < 18 := by
          have h0 := hv6' 0
          have h1 := hv6' 1
          have h2 := hv6' 2
          have h3 := hr'.2.1
          unfold msz
          rcases (show o' / 6 = 0 ∨ o' / 6 = 1 ∨ o' / 6 = 2 by omega) with z | z | z <;> rw [z] at h3 <;> omega
        refine g_ifnullR hC d_T_receive_45 ?_
        refine g_iload_n (i := 3) hC d_T_receive_48 rfl rfl ?_
        refine g_bipush (v := nI 18) hC d_T_receive_49 (by decide) ?_
        refine g_icmp_geN (tgt := 88) hC d_T_receive_51 (by decide) (by omega) (by decide) (fun h51 => ?_) (fun h51 => ?_)
        · exact absurd h51 (by omega)
        · refine g_aload_n (i := 1) hC d_T_receive_54 rfl rfl (Or.inr ⟨_, rfl⟩) ?_
          refine g_aload (i := 4) hC d_T_receive_55 rfl (Or.inr ⟨_, rfl⟩) ?_
          refine g_aload_n (i := 0) hC d_T_receive_57 rfl rfl (Or.inr ⟨_, rfl⟩) ?_
          refine g_get hC (fun x h => List.mem_cons_of_mem _ (in_T x h)) 0 cw_ts rfl 1 (by decide) (List.mem_cons_of_mem _ m_85) rfl rfl d_T_receive_58 ?_
          refine g_aload (i := 4) hC d_T_receive_61 rfl (Or.inr ⟨_, rfl⟩) ?_
          refine g_aload_n (i := 1) hC d_T_receive_63 rfl rfl (Or.inr ⟨_, rfl⟩) ?_
          refine g_getN (host := R_T) hC (fun x h => List.mem_cons_of_mem _ (in_K x h)) (10 + 4 * s) (cw_co hsS) rfl 3 (by decide) (hC.2.2.1.1 _ mn_57) rfl rfl d_T_receive_64 ?_
          refine g_bipush (v := nI 18) hC d_T_receive_67 (by decide) ?_
          rw [hvec']
          refine g_calli hC (g_runVN (q := 1) (As := [_, _, _]) (st := [_, _]) hC g_NOK_N (h_placeFor l D S τ ad0 w0 hIt 18 ρt o' (s_vc τ s) hMt.1 hMt.2.1 ⟨hr'.1, hIW'.1, MX.ready hr'.1 hr'.2.1 hr'.2.2.1⟩ hmz (by decide)) (t_cwN (host := R_T) 3 hC.1.2.2.2.2 (hC.2.2.1.1 _ mn_213) m_215 ms_6 m_2 k_H_placeFor rfl rfl hd_H_placeFor ⟨by decide, by decide⟩) cw_hi rfl rfl rfl (Nat.le_of_ble_eq_true rfl) d_T_receive_69 ⟨by decide, by decide⟩) (fun r69 => ?_)
          refine g_ex (fun ρ2 => g_and (fun e => ?_))
          obtain ⟨hMe2, hK2, rfl⟩ := e
          have hM2 := hMt.kn hK2 hMe2 hS3
          obtain ⟨-, hal2, hosi2, honu2, hoch2, -, -⟩ := hM2.1.al hIt hr'.1
          obtain ⟨⟨hrow2, hvec2, hao2⟩, hcn2'⟩ := hM2.2.2.2 s hsS
          have hc5 := hIt.ch5 hr'.1
          have hlt2 := hcn2'.lt
          refine g_callv hC (g_runV (q := (10 + 4 * s)) (As := [_, _]) (st := []) hC g_NOK_N (k_exec l D S ρ2 ad0 w0 s hsS o' (s_pl τ o' (s_vc τ s)) (s_vc τ s) ho' hal2 hosi2 honu2 hvec2 (fun t => (MC.inc hIt.1.2.2.1 hIW'.1 hr'.1 hr'.2.1 hr'.2.2.1).1.le6 hIt.1.2.2.1 t) (by rw [hoch2]; exact hc5) (by omega) (hM2.hp hIt hsS hr')) (t_cwV 2 hC.1.2.2.2.2 m_163 m_164 m_165 m_5 k_K_execute rfl rfl hd_K_execute ⟨by decide, by decide⟩) (cw_co hsS) rfl rfl rfl (Nat.le_of_ble_eq_true rfl) d_T_receive_72 ⟨by decide, by decide⟩) ?_
          have hI2 := exS_INV hIt hsS hr' hne'
          have hM3 := hM2.ex hIt hsS hr' hne'
          refine g_iinc (i := 3) (k := 2) (lo' := [(3, _), (0, _), (1, _), (4, _)]) hC d_T_receive_75 rfl (nI_inc _) (by decide) rfl ?_
          refine g_aload_n (i := 0) hC d_T_receive_78 rfl rfl (Or.inr ⟨_, rfl⟩) ?_
          refine g_aload_n (i := 1) hC d_T_receive_79 rfl rfl (Or.inr ⟨_, rfl⟩) ?_
          refine g_callq hC (g_runV (q := 0) (As := [_]) (st := []) hC g_NOK_N (t_first l D S (exS τ s o' (s_pl τ o' (s_vc τ s))) (exR ρ2 s o' (s_pl τ o' (s_vc τ s)) (evv (mu (s_vc τ s) (o' / 6)))) ad0 w0 hI2 hM3 s hsS) (t_cwV 1 hC.1.2.2.2.2 m_205 m_207 ms_5 m_1 k_T_firstReady rfl rfl hd_T_firstReady ⟨by decide, by decide⟩) cw_ts rfl rfl rfl (Nat.le_of_ble_eq_true rfl) d_T_receive_80 ⟨by decide, by decide⟩) (fun r80 => ?_)
          refine g_ex (fun q1 => g_and (fun e => ?_))
          obtain ⟨hNX1, rfl⟩ := e
          refine g_astore (i := 4) (lo' := [(4, _), (3, _), (0, _), (1, _)]) hC d_T_receive_83 (va_rf_or _) (by decide) rfl ?_
          refine g_goto (tgt := 43) hC d_T_receive_85 (by decide) ?_
          refine g_los [2, 3, 1, 0] rfl ?_
          exact ih ((n + 1, q1), exS τ s o' (s_pl τ o' (s_vc τ s)), exR ρ2 s o' (s_pl τ o' (s_vc τ s)) (evv (mu (s_vc τ s) (o' / 6)))) ⟨hI2, hM3, hNX1, fun m σ' h => by rw [show n + 1 + m = n + (m + 1) by omega]; exact hcont (m + 1) σ' ⟨o', hNX, h⟩, by dsimp only; omega⟩ (by dsimp only; omega)
    · refine g_iconst (v := -1) hC d_T_receive_27 (by decide) ?_
      refine g_iret hC hr hlk d_T_receive_28 (by decide) (by decide) (fun ad w hw => ?_)
      exact ⟨ρ, σ, ⟨Or.inr ⟨fun z => h24 (by rw [harr h12]; exact z.2), rfl, rfl⟩, hInv, hM⟩, hw⟩
theorem RCV.dl {S : Nat} {σ σs : rS} {s o : Nat} {f y r : Int32} (hInv : INV S σ) (hs : s < S) (hm : MO σ f y o) (h : RCV s o σ r σs) : SpDl S σ (nI s) f y r σs := by
  have hS3 := hInv.S3
  have e6 : 6 * (o / 6) + o % 6 = o := by omega
  rcases h with ⟨n, ⟨h1, h2⟩, h3, h4, h5⟩ | ⟨h1, h2, h3⟩
  · refine Or.inl ⟨s, o / 6, o % 6, n, ⟨rfl, hs, hm.md hInv, fun z => h1 z.symm, ?_⟩, ?_, h4⟩
    · rw [e6]
      exact h2
    · rw [e6]
      exact h3
  · refine Or.inr ⟨fun ⟨s1, s2, k, a, b, c, d, e⟩ => h1 ?_, h2, h3⟩
    have e1 := nI_inj a (by omega) (by omega)
    have e2 := (MO.eq hInv (c.mo hInv) hm)
    have hk := (MD.opn hInv c).2.2.1
    rw [e2] at hk e
    subst e1
    exact ⟨fun z => d (by omega), e⟩
set_option maxRecDepth 100000 in
set_option maxHeartbeats 4000000 in
theorem t_deliver (l : Launch) (D : va_G) (S : Nat) (σ ρ : rS) (ad0 : Nat → Nat) (w0 : gW) (hInv : INV S σ) (hM : SIM S σ ρ) (t f y : Int32) : g_M l y_T_deliver w_T_deliver (rk 24) D gCl g_N [.ref (ad0 0), .int t, .int f, .int y] (CW S ρ ad0 w0) 0 0 (fun A => g_Qi D gCl A (fun r ad w => ∃ ρ' σs, (SpDl S σ t f y r σs ∧ INV S σs ∧ SIM S σs ρ') ∧ CW S ρ' ad0 w0 ad w)) := by
  have hS3 := hInv.S3
  have hO := hM.1
  refine g_of (cc := c_T_deliver) (nL := 4) (ret := some .int) (by decide) rfl (Nat.le_of_ble_eq_true rfl) ?_
  intro pp ee ss mm bb me cc A hC hr hlk hnm
  refine g_los [0, 1, 2, 3] (lo' := [(0, .ref (ad0 0)), (1, .int t), (2, .int f), (3, .int y)]) rfl ?_
  refine g_pure cw_bl (fun hbS => ?_)
  obtain ⟨hb, hSS⟩ := hbS
  refine g_aload_n (i := 0) hC d_T_deliver_0 rfl rfl (Or.inr ⟨_, rfl⟩) ?_
  refine g_iload_n (i := 1) hC d_T_deliver_1 rfl rfl ?_
  refine g_calli hC (g_runV (q := 0) (As := [_]) (st := []) hC g_NOK_N (t_isSite l D S ρ ad0 w0 (by omega) (t)) (t_cwV 1 hC.1.2.2.2.2 m_102 m_104 ms_0 m_1 k_T_isSite rfl rfl hd_T_isSite ⟨by decide, by decide⟩) cw_ts rfl rfl rfl (Nat.le_of_ble_eq_true rfl) d_T_deliver_2 ⟨by decide, by decide⟩) (fun r2 => ?_)
  refine g_and (fun e => ?_)
  subst e
  refine g_if_neN (tgt := 10) hC d_T_deliver_5 (by decide) (pb_le _) (fun h5 => ?_) (fun h5 => ?_)
  · have g5 := pb_1 h5
    obtain ⟨s, hxs⟩ := g5
    obtain ⟨hsS, rfl⟩ := ix_some (by omega) hxs
    obtain ⟨⟨hrow, hvec, hao⟩, hcn⟩ := hM.2.2.2 s hsS
    obtain ⟨hcn1, hcn2⟩ := id hcn
    have hv6 : ∀ t, s_vc σ s t ≤ 6 := fun t => (hInv.2 s hsS).1.1.le6 hInv.1.2.2.1 t
    refine g_aload_n (i := 0) hC d_T_deliver_10 rfl rfl (Or.inr ⟨_, rfl⟩) ?_
    refine g_aload_n (i := 0) hC d_T_deliver_11 rfl rfl (Or.inr ⟨_, rfl⟩) ?_
    refine g_get hC (fun x h => List.mem_cons_of_mem _ (in_T x h)) 0 cw_ts rfl 2 (by decide) (List.mem_cons_of_mem _ m_86) rfl rfl d_T_deliver_12 ?_
    refine g_iload_n (i := 1) hC d_T_deliver_15 rfl rfl ?_
    refine cl_cps hC (by omega) (by omega) d_T_deliver_16 ?_
    refine g_aload_n (i := 0) hC d_T_deliver_17 rfl rfl (Or.inr ⟨_, rfl⟩) ?_
    refine g_get hC (fun x h => List.mem_cons_of_mem _ (in_T x h)) 0 cw_ts rfl 1 (by decide) (List.mem_cons_of_mem _ m_85) rfl rfl d_T_deliver_18 ?_
    refine g_iload_n (i := 2) hC d_T_deliver_21 rfl rfl ?_
    refine g_iload_n (i := 3) hC d_T_deliver_22 rfl rfl ?_
    refine g_callq hC (g_runV (q := 1) (As := [_, _]) (st := [_, _]) hC g_NOK_N (h_find l D S σ ρ ad0 w0 hInv hO (f) (y)) (t_cwV 2 hC.1.2.2.2.2 m_192 m_193 m_194 m_2 k_H_find rfl rfl hd_H_find ⟨by decide, by decide⟩) cw_hi rfl rfl rfl (Nat.le_of_ble_eq_true rfl) d_T_deliver_23 ⟨by decide, by decide⟩) (fun r23 => ?_)
    refine g_and (fun e23 => ?_)
    replace e23 := fd_o hInv e23
    rcases e23 with ⟨o, hm, rfl⟩ | ⟨hm, rfl⟩
    · rw [show va_rf (some (ad0 (100 + o))) = .ref (ad0 (100 + o)) from rfl]
      obtain ⟨ho, hal, hosi, honu, hoch, hopo, hocx⟩ := hO.al hInv hm.1
      refine g_calli hC (g_runV (q := 0) (As := [_, _]) (st := []) hC g_NOK_N (t_recv l D S σ ρ ad0 w0 hInv hM s hsS o hm.1) (t_cwV 2 hC.1.2.2.2.2 m_196 m_198 ms_4 m_1 k_T_receive rfl rfl hd_T_receive ⟨by decide, by decide⟩) cw_ts rfl rfl rfl (Nat.le_of_ble_eq_true rfl) d_T_deliver_26 ⟨by decide, by decide⟩) (fun r26 => ?_)
      refine g_iret hC hr hlk d_T_deliver_29 (by decide) (by decide) (fun ad w hw => ?_)
      obtain ⟨ρ', σs, ⟨a, b, c⟩, d⟩ := hw
      exact ⟨ρ', σs, ⟨a.dl hInv hsS hm, b, c⟩, d⟩
    · rw [show va_rf none = .null from rfl]
      refine g_calli hC (g_runV (q := 0) (As := [_, _]) (st := []) hC g_NOK_N (t_recvN l D S ρ ad0 w0 s) (t_cwV 2 hC.1.2.2.2.2 m_196 m_198 ms_4 m_1 k_T_receive rfl rfl hd_T_receive ⟨by decide, by decide⟩) cw_ts rfl rfl rfl (Nat.le_of_ble_eq_true rfl) d_T_deliver_26 ⟨by decide, by decide⟩) (fun r26 => ?_)
      refine g_iret hC hr hlk d_T_deliver_29 (by decide) (by decide) (fun ad w hw => ?_)
      obtain ⟨rfl, hw⟩ := hw
      exact ⟨ρ, σ, ⟨Or.inr ⟨fun ⟨s1, s2, k, h⟩ => hm ⟨_, h.2.2.1.mo hInv⟩, rfl, rfl⟩, hInv, hM⟩, hw⟩
  · have g5 := pb_0 h5
    refine g_iconst (v := -1) hC d_T_deliver_8 (by decide) ?_
    refine g_iret hC hr hlk d_T_deliver_9 (by decide) (by decide) (fun ad w hw => ?_)
    exact ⟨ρ, σ, ⟨Or.inr ⟨fun ⟨s1, s2, k, h⟩ => g5 ⟨s1, by rw [h.1]; exact ix_nI (by omega) h.2.1⟩, rfl, rfl⟩, hInv, hM⟩, hw⟩
set_option maxRecDepth 100000 in
set_option maxHeartbeats 4000000 in
theorem t_arrive (l : Launch) (D : va_G) (S : Nat) (σ ρ : rS) (ad0 : Nat → Nat) (w0 : gW) (hInv : INV S σ) (hM : SIM S σ ρ) (t : Int32) (cd : Int64) : g_M l y_T_arrive w_T_arrive (rk 24) D gCl g_N [.ref (ad0 0), .int t, .long cd] (CW S ρ ad0 w0) 0 0 (fun A => g_Qi D gCl A (fun r ad w => ∃ ρ' σs, (SpAr S σ t cd r σs ∧ INV S σs ∧ SIM S σs ρ') ∧ CW S ρ' ad0 w0 ad w)) := by
  have hS3 := hInv.S3
  have hO := hM.1
  refine g_of (cc := c_T_arrive) (nL := 4) (ret := some .int) (by decide) rfl (Nat.le_of_ble_eq_true rfl) ?_
  intro pp ee ss mm bb me cc A hC hr hlk hnm
  refine g_los [0, 1, 2] (lo' := [(0, .ref (ad0 0)), (1, .int t), (2, .long cd)]) rfl ?_
  refine g_pure cw_bl (fun hbS => ?_)
  obtain ⟨hb, hSS⟩ := hbS
  refine g_aload_n (i := 0) hC d_T_arrive_0 rfl rfl (Or.inr ⟨_, rfl⟩) ?_
  refine g_iload_n (i := 1) hC d_T_arrive_1 rfl rfl ?_
  refine g_calli hC (g_runV (q := 0) (As := [_]) (st := []) hC g_NOK_N (t_isSite l D S ρ ad0 w0 (by omega) (t)) (t_cwV 1 hC.1.2.2.2.2 m_102 m_104 ms_0 m_1 k_T_isSite rfl rfl hd_T_isSite ⟨by decide, by decide⟩) cw_ts rfl rfl rfl (Nat.le_of_ble_eq_true rfl) d_T_arrive_2 ⟨by decide, by decide⟩) (fun r2 => ?_)
  refine g_and (fun e => ?_)
  subst e
  refine g_if_neN (tgt := 10) hC d_T_arrive_5 (by decide) (pb_le _) (fun h5 => ?_) (fun h5 => ?_)
  · have g5 := pb_1 h5
    obtain ⟨s, hxs⟩ := g5
    obtain ⟨hsS, rfl⟩ := ix_some (by omega) hxs
    obtain ⟨⟨hrow, hvec, hao⟩, hcn⟩ := hM.2.2.2 s hsS
    obtain ⟨hcn1, hcn2⟩ := id hcn
    have hv6 : ∀ t, s_vc σ s t ≤ 6 := fun t => (hInv.2 s hsS).1.1.le6 hInv.1.2.2.1 t
    refine g_aload_n (i := 0) hC d_T_arrive_10 rfl rfl (Or.inr ⟨_, rfl⟩) ?_
    refine g_aload_n (i := 0) hC d_T_arrive_11 rfl rfl (Or.inr ⟨_, rfl⟩) ?_
    refine g_get hC (fun x h => List.mem_cons_of_mem _ (in_T x h)) 0 cw_ts rfl 2 (by decide) (List.mem_cons_of_mem _ m_86) rfl rfl d_T_arrive_12 ?_
    refine g_iload_n (i := 1) hC d_T_arrive_15 rfl rfl ?_
    refine cl_cps hC (by omega) (by omega) d_T_arrive_16 ?_
    refine g_aload_n (i := 0) hC d_T_arrive_17 rfl rfl (Or.inr ⟨_, rfl⟩) ?_
    refine g_get hC (fun x h => List.mem_cons_of_mem _ (in_T x h)) 0 cw_ts rfl 1 (by decide) (List.mem_cons_of_mem _ m_85) rfl rfl d_T_arrive_18 ?_
    refine g_lload_n (i := 2) hC d_T_arrive_21 rfl rfl ?_
    refine g_callq hC (g_runV (q := 1) (As := [_]) (st := [_, _]) hC g_NOK_N (h_code l D S σ ρ ad0 w0 hInv hO cd) (t_cwV 1 hC.1.2.2.2.2 m_247 m_248 m_249 m_2 k_H_findByCode rfl rfl hd_H_findByCode ⟨by decide, by decide⟩) cw_hi rfl rfl rfl (Nat.le_of_ble_eq_true rfl) d_T_arrive_22 ⟨by decide, by decide⟩) (fun r22 => ?_)
    refine g_and (fun e22 => ?_)
    rcases e22 with ⟨o, hm, rfl⟩ | ⟨hm, rfl⟩
    · rw [show va_rf (some (ad0 (100 + o))) = .ref (ad0 (100 + o)) from rfl]
      obtain ⟨ho, hal, hosi, honu, hoch, hopo, hocx⟩ := hO.al hInv hm.1
      refine g_calli hC (g_runV (q := 0) (As := [_, _]) (st := []) hC g_NOK_N (t_recv l D S σ ρ ad0 w0 hInv hM s hsS o hm.1) (t_cwV 2 hC.1.2.2.2.2 m_196 m_198 ms_4 m_1 k_T_receive rfl rfl hd_T_receive ⟨by decide, by decide⟩) cw_ts rfl rfl rfl (Nat.le_of_ble_eq_true rfl) d_T_arrive_25 ⟨by decide, by decide⟩) (fun r25 => ?_)
      refine g_iret hC hr hlk d_T_arrive_28 (by decide) (by decide) (fun ad w hw => ?_)
      obtain ⟨ρ', σs, ⟨a, b, c⟩, d⟩ := hw
      exact ⟨ρ', σs, ⟨Or.inl ⟨o, ⟨ho, hm.1, hm.2⟩, a.dl hInv hsS ⟨hm.1, rfl, rfl⟩⟩, b, c⟩, d⟩
    · rw [show va_rf none = .null from rfl]
      refine g_calli hC (g_runV (q := 0) (As := [_, _]) (st := []) hC g_NOK_N (t_recvN l D S ρ ad0 w0 s) (t_cwV 2 hC.1.2.2.2.2 m_196 m_198 ms_4 m_1 k_T_receive rfl rfl hd_T_receive ⟨by decide, by decide⟩) cw_ts rfl rfl rfl (Nat.le_of_ble_eq_true rfl) d_T_arrive_25 ⟨by decide, by decide⟩) (fun r25 => ?_)
      refine g_iret hC hr hlk d_T_arrive_28 (by decide) (by decide) (fun ad w hw => ?_)
      obtain ⟨rfl, hw⟩ := hw
      exact ⟨ρ, σ, ⟨Or.inr ⟨fun ⟨o, h⟩ => hm ⟨o, h.2⟩, rfl, rfl⟩, hInv, hM⟩, hw⟩
  · have g5 := pb_0 h5
    refine g_iconst (v := -1) hC d_T_arrive_8 (by decide) ?_
    refine g_iret hC hr hlk d_T_arrive_9 (by decide) (by decide) (fun ad w hw => ?_)
    by_cases q : ∃ o, o < 18 ∧ mh (s_mk σ) o ∧ cd = lN (cdv σ o)
    · obtain ⟨o, q⟩ := q
      exact ⟨ρ, σ, ⟨Or.inl ⟨o, q, Or.inr ⟨fun ⟨s1, s2, k, h⟩ => g5 ⟨s1, by rw [h.1]; exact ix_nI (by omega) h.2.1⟩, rfl, rfl⟩⟩, hInv, hM⟩, hw⟩
    · exact ⟨ρ, σ, ⟨Or.inr ⟨q, rfl, rfl⟩, hInv, hM⟩, hw⟩
