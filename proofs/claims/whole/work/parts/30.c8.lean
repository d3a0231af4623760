set_option maxRecDepth 100000 in
set_option maxHeartbeats 4000000 in
theorem t_toldN (l : Launch) (D : va_G) (S : Nat) (ρ : rS) (ad0 : Nat → Nat) (w0 : gW) (t : Nat) : g_M l y_T_toldBy w_T_toldBy (rk 1) D gCl g_N [.null, .int (nI t)] (CW S ρ ad0 w0) 0 0 (fun A => g_Qi D gCl A (fun r ad w => r = nI 0 ∧ CW S ρ ad0 w0 ad w)) := by
  refine g_of (cc := c_T_toldBy) (nL := 3) (ret := some .int) (by decide) rfl (Nat.le_of_ble_eq_true rfl) ?_
  intro pp ee ss mm bb me cc A hC hr hlk hnm
  refine g_los [0, 1] (lo' := [(0, .null), (1, .int (nI t))]) rfl ?_
  refine g_pure cw_bl (fun hbS => ?_)
  obtain ⟨hb, hSS⟩ := hbS
  refine g_aload_n (i := 0) hC d_T_toldBy_0 rfl rfl (Or.inl rfl) ?_
  refine g_ifnonnullZ hC d_T_toldBy_1 ?_
  refine g_iconst (v := nI 0) hC d_T_toldBy_4 (by decide) ?_
  refine g_iret hC hr hlk d_T_toldBy_5 (by decide) (by decide) (fun ad w hw => ?_)
  exact ⟨rfl, hw⟩
set_option maxRecDepth 100000 in
set_option maxHeartbeats 4000000 in
theorem t_told (l : Launch) (D : va_G) (S : Nat) (σ ρ : rS) (ad0 : Nat → Nat) (w0 : gW) (hInv : INV S σ) (hM : SIM S σ ρ) (o t : Nat) (hm : mh (s_mk σ) o) (ht : t < S) : g_M l y_T_toldBy w_T_toldBy (rk 1) D gCl g_N [.ref (ad0 (100 + o)), .int (nI t)] (CW S ρ ad0 w0) 0 0 (fun A => g_Qi D gCl A (fun r ad w => r = nI (s_cx σ o t + (if o / 6 = t then 1 else 0)) ∧ CW S ρ ad0 w0 ad w)) := by
  have hS3 := hInv.S3
  have hO := hM.1
  obtain ⟨ho, hal, hosi, honu, hoch, hopo, hocx⟩ := hO.al hInv hm
  refine g_of (cc := c_T_toldBy) (nL := 3) (ret := some .int) (by decide) rfl (Nat.le_of_ble_eq_true rfl) ?_
  intro pp ee ss mm bb me cc A hC hr hlk hnm
  refine g_los [0, 1] (lo' := [(0, .ref (ad0 (100 + o))), (1, .int (nI t))]) rfl ?_
  refine g_pure cw_bl (fun hbS => ?_)
  obtain ⟨hb, hSS⟩ := hbS
  refine g_aload_n (i := 0) hC d_T_toldBy_0 rfl rfl (Or.inr ⟨_, rfl⟩) ?_
  refine g_ifnonnullR (tgt := 6) hC d_T_toldBy_1 (by decide) ?_
  refine g_aload_n (i := 0) hC d_T_toldBy_6 rfl rfl (Or.inr ⟨_, rfl⟩) ?_
  refine g_getN (host := R_T) hC (fun x h => List.mem_cons_of_mem _ (in_O x h)) (100 + o) (cw_o ho hal) rfl 4 (by decide) (hC.2.2.1.1 _ mn_143) rfl rfl d_T_toldBy_7 ?_
  refine g_iload_n (i := 1) hC d_T_toldBy_10 rfl rfl ?_
  rw [hocx]
  refine g_calli hC (g_runS (As := [_, _]) (st := []) hC g_NOK_N (v_count l D (CW S ρ ad0 w0) (s_cx σ o) t (hInv.cx6 hm) (by omega)) (t_cwS 2 hC.1.2.2.2.2 m_122 m_123 m_3 k_V_count rfl rfl hd_V_count ⟨by decide, by decide⟩) rfl rfl (Nat.le_of_ble_eq_true rfl) d_T_toldBy_11 ⟨by decide, by decide⟩) (fun r11 => ?_)
  refine g_and (fun e => ?_)
  subst e
  refine g_istore_n (i := 2) (lo' := [(2, _), (0, _), (1, _)]) hC d_T_toldBy_14 rfl (by decide) rfl ?_
  refine g_aload_n (i := 0) hC d_T_toldBy_15 rfl rfl (Or.inr ⟨_, rfl⟩) ?_
  refine g_getN (host := R_T) hC (fun x h => List.mem_cons_of_mem _ (in_O x h)) (100 + o) (cw_o ho hal) rfl 0 (by decide) (hC.2.2.1.1 _ mn_134) rfl rfl d_T_toldBy_16 ?_
  refine g_iload_n (i := 1) hC d_T_toldBy_19 rfl rfl ?_
  rw [hosi]
  refine g_icmp_neN (tgt := 29) hC d_T_toldBy_20 (by decide) (by omega) (by omega) (fun h20 => ?_) (fun h20 => ?_)
  · refine g_iload_n (i := 2) hC d_T_toldBy_29 rfl rfl ?_
    refine g_iret hC hr hlk d_T_toldBy_30 (by decide) (by decide) (fun ad w hw => ?_)
    exact ⟨by rw [if_neg h20, Nat.add_zero], hw⟩
  · refine g_iload_n (i := 2) hC d_T_toldBy_23 rfl rfl ?_
    refine g_iconst (v := nI 1) hC d_T_toldBy_24 (by decide) ?_
    refine g_iaddN hC d_T_toldBy_25 ?_
    refine g_goto (tgt := 30) hC d_T_toldBy_26 (by decide) ?_
    refine g_iret hC hr hlk d_T_toldBy_30 (by decide) (by decide) (fun ad w hw => ?_)
    exact ⟨by rw [if_pos h20], hw⟩
theorem mn_n {a b : Nat} (ha : a < 2 ^ 31) (hb : b < 2 ^ 31) : (if nI b < nI a then nI b else nI a) = nI (if b < a then b else a) := by
  by_cases q : b < a
  · rw [if_pos q, if_pos ((nI_ltI hb ha).mpr q)]
  · rw [if_neg q, if_neg (fun z => q ((nI_ltI hb ha).mp z))]
theorem stA {a b v : Nat} (h : v = if a < b then a else b) : v = if a < (if a < b then a else b) then a else (if a < b then a else b) := by
  by_cases q : a < b
  · rw [h, if_pos q, if_neg (Nat.lt_irrefl _)]
  · rw [h, if_neg q, if_neg q]
theorem stB {a b k v : Nat} (h : v = if a < b then a else b) : (if k < v then k else v) = if a < (if k < b then k else b) then a else (if k < b then k else b) := by
  rw [h]
  by_cases q1 : a < b
  · rw [if_pos q1]
    by_cases q2 : k < b
    · rw [if_pos q2]
      split <;> split <;> omega
    · rw [if_neg q2, if_pos q1, if_neg (by omega)]
  · rw [if_neg q1]
    by_cases q2 : k < b
    · rw [if_pos q2]
      split <;> omega
    · rw [if_neg q2, if_neg q1]
theorem st_le {σ : rS} {s t j : Nat} : ∀ n, j < n → s_st σ s t n ≤ s_kn σ s t j
  | 0, h => absurd h (Nat.not_lt_zero _)
  | n + 1, h => by
    simp only [s_st]
    rcases (show j = n ∨ j < n by omega) with q | q
    · rw [q]
      split <;> omega
    · have := st_le (σ := σ) (s := s) (t := t) n q
      split <;> omega
set_option maxRecDepth 100000 in
set_option maxHeartbeats 4000000 in
theorem t_stable (l : Launch) (D : va_G) (S : Nat) (σ ρ : rS) (ad0 : Nat → Nat) (w0 : gW) (hInv : INV S σ) (hM : SIM S σ ρ) (x y : Int32) : g_M l y_T_stable w_T_stable (rk 3) D gCl g_N [.ref (ad0 0), .int x, .int y] (CW S ρ ad0 w0) 0 0 (fun A => g_Qi D gCl A (fun r ad w => r = q_st S σ x y ∧ CW S ρ ad0 w0 ad w)) := by
  have hS3 := hInv.S3
  have hO := hM.1
  have hInv_top : ∀ v : Nat → Nat, (∀ t, v t ≤ s_mk σ t) → ∀ s, 0 < v s → mh (s_mk σ) (mtop v s) := fun v hv s h0 => Nat.lt_of_lt_of_le (mh_top h0 (Nat.le_trans (hv s) (hInv.1.2.2.1.1 s))) (hv _)
  refine g_of (cc := c_T_stable) (nL := 6) (ret := some .int) (by decide) rfl (Nat.le_of_ble_eq_true rfl) ?_
  intro pp ee ss mm bb me cc A hC hr hlk hnm
  refine g_los [0, 1, 2] (lo' := [(0, .ref (ad0 0)), (1, .int x), (2, .int y)]) rfl ?_
  refine g_pure cw_bl (fun hbS => ?_)
  obtain ⟨hb, hSS⟩ := hbS
  refine g_aload_n (i := 0) hC d_T_stable_0 rfl rfl (Or.inr ⟨_, rfl⟩) ?_
  refine g_iload_n (i := 1) hC d_T_stable_1 rfl rfl ?_
  refine g_calli hC (g_runV (q := 0) (As := [_]) (st := []) hC g_NOK_N (t_isSite l D S ρ ad0 w0 (by omega) (x)) (t_cwV 1 hC.1.2.2.2.2 m_102 m_104 ms_0 m_1 k_T_isSite rfl rfl hd_T_isSite ⟨by decide, by decide⟩) cw_ts rfl rfl rfl (Nat.le_of_ble_eq_true rfl) d_T_stable_2 ⟨by decide, by decide⟩) (fun r2 => ?_)
  refine g_and (fun e => ?_)
  subst e
  refine g_if_eqN (tgt := 16) hC d_T_stable_5 (by decide) (pb_le _) (fun h5 => ?_) (fun h5 => ?_)
  · have g5 := pb_0 h5
    refine g_iconst (v := -1) hC d_T_stable_16 (by decide) ?_
    refine g_iret hC hr hlk d_T_stable_17 (by decide) (by decide) (fun ad w hw => ?_)
    exact ⟨by unfold q_st; rw [ix_no g5], hw⟩
  · have g5 := pb_1 h5
    obtain ⟨s, hxs⟩ := g5
    obtain ⟨hsS, rfl⟩ := ix_some (by omega) hxs
    obtain ⟨⟨hrow, hvec, hao⟩, hcn⟩ := hM.2.2.2 s hsS
    obtain ⟨hcn1, hcn2⟩ := id hcn
    have hv6 : ∀ t, s_vc σ s t ≤ 6 := fun t => (hInv.2 s hsS).1.1.le6 hInv.1.2.2.1 t
    refine g_aload_n (i := 0) hC d_T_stable_8 rfl rfl (Or.inr ⟨_, rfl⟩) ?_
    refine g_iload_n (i := 2) hC d_T_stable_9 rfl rfl ?_
    refine g_calli hC (g_runV (q := 0) (As := [_]) (st := []) hC g_NOK_N (t_isSite l D S ρ ad0 w0 (by omega) (y)) (t_cwV 1 hC.1.2.2.2.2 m_102 m_104 ms_0 m_1 k_T_isSite rfl rfl hd_T_isSite ⟨by decide, by decide⟩) cw_ts rfl rfl rfl (Nat.le_of_ble_eq_true rfl) d_T_stable_10 ⟨by decide, by decide⟩) (fun r10 => ?_)
    refine g_and (fun e => ?_)
    subst e
    refine g_if_neN (tgt := 18) hC d_T_stable_13 (by decide) (pb_le _) (fun h13 => ?_) (fun h13 => ?_)
    · have g13 := pb_1 h13
      obtain ⟨t, hys⟩ := g13
      obtain ⟨htS, rfl⟩ := ix_some (by omega) hys
      refine g_aload_n (i := 0) hC d_T_stable_18 rfl rfl (Or.inr ⟨_, rfl⟩) ?_
      refine g_get hC (fun x h => List.mem_cons_of_mem _ (in_T x h)) 0 cw_ts rfl 2 (by decide) (List.mem_cons_of_mem _ m_86) rfl rfl d_T_stable_19 ?_
      refine g_iload_n (i := 1) hC d_T_stable_22 rfl rfl ?_
      refine cl_cps hC (by omega) (by omega) d_T_stable_23 ?_
      refine g_getN (host := R_T) hC (fun x h => List.mem_cons_of_mem _ (in_K x h)) (10 + 4 * s) (cw_co hsS) rfl 3 (by decide) (hC.2.2.1.1 _ mn_57) rfl rfl d_T_stable_24 ?_
      rw [hvec]
      refine g_istore_n (i := 3) (lo' := [(3, _), (0, _), (1, _), (2, _)]) hC d_T_stable_27 rfl (by decide) rfl ?_
      refine g_iload_n (i := 3) hC d_T_stable_28 rfl rfl ?_
      refine g_iload_n (i := 2) hC d_T_stable_29 rfl rfl ?_
      refine g_calli hC (g_runS (As := [_, _]) (st := []) hC g_NOK_N (v_count l D (CW S ρ ad0 w0) (s_vc σ s) t hv6 (by omega)) (t_cwS 2 hC.1.2.2.2.2 m_122 m_123 m_3 k_V_count rfl rfl hd_V_count ⟨by decide, by decide⟩) rfl rfl (Nat.le_of_ble_eq_true rfl) d_T_stable_30 ⟨by decide, by decide⟩) (fun r30 => ?_)
      refine g_and (fun e => ?_)
      subst e
      refine g_istore (i := 4) (lo' := [(4, _), (3, _), (0, _), (1, _), (2, _)]) hC d_T_stable_33 (by decide) rfl ?_
      refine g_iconst (v := nI 0) hC d_T_stable_35 (by decide) ?_
      refine g_istore (i := 5) (lo' := [(5, _), (4, _), (3, _), (0, _), (1, _), (2, _)]) hC d_T_stable_36 (by decide) rfl ?_
      refine g_los [3, 4, 5, 2, 1, 0] (lo' := [(0, _), (1, _), (2, _), (3, _), (4, _), (5, _)]) rfl ?_
      refine g_loop (ι := Nat × Nat) (pc0 := 38) (fun ⟨j, v⟩ => 3 - j) (fun ⟨j, v⟩ => j ≤ S ∧ (v = if s_kn σ s t s < s_st σ s t j then s_kn σ s t s else s_st σ s t j) ∧ v ≤ 7) (fun ⟨j, v⟩ => CW S ρ ad0 w0) (fun ⟨j, v⟩ => [(0, .ref (ad0 0)), (1, .int (nI s)), (2, .int (nI t)), (3, .int (nI (evv (s_vc σ s)))), (4, .int (nI v)), (5, .int (nI j))]) ?_ (0, s_vc σ s t) (⟨Nat.zero_le _, by have h6 := hv6 t; have e8 := s_vc_lt (σ := σ) (s := s) (t := t) (by omega); unfold s_kn s_st; rw [if_pos rfl, ← e8, if_pos (by omega)], by have := hv6 t; omega⟩)
      rintro ⟨j, v⟩ hI ih
      try dsimp only at hI ih ⊢
      refine g_iload (i := 5) hC d_T_stable_38 rfl ?_
      refine g_aload_n (i := 0) hC d_T_stable_40 rfl rfl (Or.inr ⟨_, rfl⟩) ?_
      refine g_get hC (fun x h => List.mem_cons_of_mem _ (in_T x h)) 0 cw_ts rfl 0 (by decide) (List.mem_cons_of_mem _ m_84) rfl rfl d_T_stable_41 ?_
      refine g_icmp_geN (tgt := 80) hC d_T_stable_44 (by decide) (by first | omega | exact c_lt hb _ _ | exact pb_le _) (by first | omega | exact c_lt hb _ _ | exact pb_le _) (fun h44 => ?_) (fun h44 => ?_)
      · refine g_iload (i := 4) hC d_T_stable_80 rfl ?_
        refine g_iret hC hr hlk d_T_stable_82 (by decide) (by decide) (fun ad w hw => ?_)
        refine ⟨?_, hw⟩
        unfold q_st
        rw [hxs, hys]
        show nI v = nI (s_st σ s t S)
        have hle := st_le (σ := σ) (s := s) (t := t) S hsS
        rw [hI.2.1, show j = S by omega, if_neg (by omega)]
      · refine g_iload (i := 5) hC d_T_stable_47 rfl ?_
        refine g_iload_n (i := 1) hC d_T_stable_49 rfl rfl ?_
        refine g_icmp_eqN (tgt := 74) hC d_T_stable_50 (by decide) (by omega) (by omega) (fun h50 => ?_) (fun h50 => ?_)
        · refine g_iinc (i := 5) (k := 5) (lo' := [(5, _), (0, _), (1, _), (2, _), (3, _), (4, _)]) hC d_T_stable_74 rfl (nI_inc _) (by decide) rfl ?_
          refine g_goto (tgt := 38) hC d_T_stable_77 (by decide) ?_
          refine g_los [1, 2, 3, 4, 5, 0] rfl ?_
          exact ih (j + 1, v) ⟨by omega, by simp only [s_st]; rw [h50]; rw [h50] at hI; exact stA hI.2.1, hI.2.2⟩ (by first | omega | (dsimp only; omega))
        · refine g_iload (i := 4) hC d_T_stable_53 rfl ?_
          refine g_aload_n (i := 0) hC d_T_stable_55 rfl rfl (Or.inr ⟨_, rfl⟩) ?_
          refine g_get hC (fun x h => List.mem_cons_of_mem _ (in_T x h)) 0 cw_ts rfl 1 (by decide) (List.mem_cons_of_mem _ m_85) rfl rfl d_T_stable_56 ?_
          refine g_iload_n (i := 3) hC d_T_stable_59 rfl rfl ?_
          refine g_iload (i := 5) hC d_T_stable_60 rfl ?_
          refine g_callq hC (g_runV (q := 1) (As := [_, _]) (st := [_]) hC g_NOK_N (h_last l D S σ ρ ad0 w0 hInv hO (s_vc σ s) j (hInv.2 s hsS).1.1.1 (by omega)) (t_cwV 2 hC.1.2.2.2.2 m_304 m_222 m_223 m_2 k_H_last rfl rfl hd_H_last ⟨by decide, by decide⟩) cw_hi rfl rfl rfl (Nat.le_of_ble_eq_true rfl) d_T_stable_62 ⟨by decide, by decide⟩) (fun r62 => ?_)
          refine g_and (fun e => ?_)
          subst e
          by_cases hv0 : 0 < s_vc σ s j
          · have htm : mh (s_mk σ) (mtop (s_vc σ s) j) := hInv_top (s_vc σ s) (hInv.2 s hsS).1.1.1 j hv0
            rw [show va_rf (if s_vc σ s j = 0 then none else some (ad0 (100 + mtop (s_vc σ s) j))) = .ref (ad0 (100 + mtop (s_vc σ s) j)) by rw [if_neg (by omega)]; rfl]
            have htd := mtop_d (hv6 j)
            have hkn : s_cx σ (mtop (s_vc σ s) j) t + (if mtop (s_vc σ s) j / 6 = t then 1 else 0) = s_kn σ s t j := by
              have e8 := s_vc_lt (σ := σ) (s := s) (t := j) (by omega)
              unfold s_kn
              rw [if_neg h50, htd.1, s_cx_lt (by omega), if_neg (c := σ 8 (3 * s + j) = 0) (by omega)]
              have em : mtop (s_vc σ s) j = 6 * j + σ 8 (3 * s + j) - 1 := by
                unfold mtop
                omega
              rw [em]
              by_cases q : j = t
              · rw [if_pos q, if_pos q.symm]
              · rw [if_neg q, if_neg (fun z => q z.symm)]
            refine g_iload_n (i := 2) hC d_T_stable_65 rfl rfl ?_
            refine g_calli hC (g_runS (As := [_, _]) (st := [_]) hC g_NOK_N (t_told l D S σ ρ ad0 w0 hInv hM (mtop (s_vc σ s) j) t htm htS) (t_cwS 2 hC.1.2.2.2.2 m_305 m_306 m_1 k_T_toldBy rfl rfl hd_T_toldBy ⟨by decide, by decide⟩) rfl rfl (Nat.le_of_ble_eq_true rfl) d_T_stable_66 ⟨by decide, by decide⟩) (fun r66 => ?_)
            refine g_and (fun e => ?_)
            subst e
            refine g_eqi (congrArg nI hkn) ?_
            refine g_mmin hC (List.mem_cons_of_mem _ m_308) (List.mem_cons_of_mem _ m_309) (List.mem_cons_of_mem _ m_8) (List.mem_cons_of_mem _ m_310) (by decide) (Nat.le_of_ble_eq_true rfl) (by decide) (by decide) d_T_stable_69 ?_
            have hkb : s_kn σ s t j ≤ 7 := by
              have := hv6 t
              rw [← hkn]
              first | omega | (have := hInv.cx6 htm t; split <;> omega)
            refine g_eqi (mn_n (by omega) (by omega)) ?_
            refine g_istore (i := 4) (lo' := [(4, _), (0, _), (1, _), (2, _), (3, _), (5, _)]) hC d_T_stable_72 (by decide) rfl ?_
            refine g_iinc (i := 5) (k := 5) (lo' := [(5, _), (4, _), (0, _), (1, _), (2, _), (3, _)]) hC d_T_stable_74 rfl (nI_inc _) (by decide) rfl ?_
            refine g_goto (tgt := 38) hC d_T_stable_77 (by decide) ?_
            refine g_los [2, 3, 4, 5, 1, 0] rfl ?_
            exact ih (j + 1, if s_kn σ s t j < v then s_kn σ s t j else v) ⟨by omega, by simp only [s_st]; exact stB hI.2.1, by dsimp only; split <;> omega⟩ (by first | omega | (dsimp only; omega))
          · rw [show va_rf (if s_vc σ s j = 0 then none else some (ad0 (100 + mtop (s_vc σ s) j))) = .null by rw [if_pos (by omega)]; rfl]
            have hkn : 0 = s_kn σ s t j := by
              unfold s_kn
              rw [if_neg h50, if_pos (by have := s_vc_lt (σ := σ) (s := s) (t := j) (by omega); omega)]
            refine g_iload_n (i := 2) hC d_T_stable_65 rfl rfl ?_
            refine g_calli hC (g_runS (As := [_, _]) (st := [_]) hC g_NOK_N (t_toldN l D S ρ ad0 w0 t) (t_cwS 2 hC.1.2.2.2.2 m_305 m_306 m_1 k_T_toldBy rfl rfl hd_T_toldBy ⟨by decide, by decide⟩) rfl rfl (Nat.le_of_ble_eq_true rfl) d_T_stable_66 ⟨by decide, by decide⟩) (fun r66 => ?_)
            refine g_and (fun e => ?_)
            subst e
            refine g_eqi (congrArg nI hkn) ?_
            refine g_mmin hC (List.mem_cons_of_mem _ m_308) (List.mem_cons_of_mem _ m_309) (List.mem_cons_of_mem _ m_8) (List.mem_cons_of_mem _ m_310) (by decide) (Nat.le_of_ble_eq_true rfl) (by decide) (by decide) d_T_stable_69 ?_
            have hkb : s_kn σ s t j ≤ 7 := by
              have := hv6 t
              rw [← hkn]
              first | omega | (have := hInv.cx6 htm t; split <;> omega)
            refine g_eqi (mn_n (by omega) (by omega)) ?_
            refine g_istore (i := 4) (lo' := [(4, _), (0, _), (1, _), (2, _), (3, _), (5, _)]) hC d_T_stable_72 (by decide) rfl ?_
            refine g_iinc (i := 5) (k := 5) (lo' := [(5, _), (4, _), (0, _), (1, _), (2, _), (3, _)]) hC d_T_stable_74 rfl (nI_inc _) (by decide) rfl ?_
            refine g_goto (tgt := 38) hC d_T_stable_77 (by decide) ?_
            refine g_los [2, 3, 4, 5, 1, 0] rfl ?_
            exact ih (j + 1, if s_kn σ s t j < v then s_kn σ s t j else v) ⟨by omega, by simp only [s_st]; exact stB hI.2.1, by dsimp only; split <;> omega⟩ (by first | omega | (dsimp only; omega))
    · have g13 := pb_0 h13
      refine g_iconst (v := -1) hC d_T_stable_16 (by decide) ?_
      refine g_iret hC hr hlk d_T_stable_17 (by decide) (by decide) (fun ad w hw => ?_)
      exact ⟨by unfold q_st; rw [hxs, ix_no g13], hw⟩
theorem WK.vc_ne {s s' : Nat} (hn : s' ≠ s) : ∀ {n : Nat} {σ σ' : rS}, WK s n σ σ' → s_vc σ' s' = s_vc σ s'
  | 0, σ, σ', h => by rw [h.1]
  | n + 1, σ, σ', h => by
    obtain ⟨o, ho, hw⟩ := h
    rw [WK.vc_ne hn hw, exS_vc_ne ho.1 hn]
theorem SYR_skip {s s' a n : Nat} {σ τ : rS} : ∀ b, a ≤ b → (∀ i, a ≤ i → i < b → ¬ SYC s s' i τ) → SYR s s' a σ n τ → SYR s s' b σ n τ
  | 0, h, _, hs => by
    rw [show a = 0 by omega] at hs
    exact hs
  | b + 1, h, hn, hs => by
    rcases (show a = b + 1 ∨ a ≤ b by omega) with q | q
    · rw [← q]
      exact hs
    · exact ⟨n, τ, SYR_skip b q (fun i h1 h2 => hn i h1 (by omega)) hs, Or.inr ⟨hn b q (by omega), rfl, rfl⟩⟩
theorem RCV.sy {s s' i m : Nat} {σ κ κ2 : rS} {r : Int32} (hn : s' ≠ s) (hin : κ 7 (18 * s' + i) ≠ 0) (h : SYR s s' i σ m κ) (hr : RCV s i κ r κ2) : ∃ m2, (if nI 0 < r then r else nI 0) = nI m2 ∧ SYR s s' (i + 1) σ (m + m2) κ2 ∧ s_vc κ2 s' = s_vc κ s' := by
  rcases hr with ⟨n, ⟨h1, h2⟩, h3, h4, h5⟩ | ⟨h1, h2, h3⟩
  · refine ⟨n, ?_, ⟨m, κ, h, Or.inl ⟨⟨hin, h1, h2⟩, n, h3, rfl⟩⟩, ?_⟩
    · rw [h4]
      by_cases q : nI 0 < nI n
      · rw [if_pos q]
      · rw [if_neg q]
        have : ¬ 0 < n := fun z => q ((nI_ltI (by omega) (by omega)).mpr z)
        rw [show n = 0 by omega]
    · rw [WK.vc_ne hn h3, arS_vc]
  · refine ⟨0, ?_, ⟨m, κ, h, Or.inr ⟨fun z => h1 z.2, h3, rfl⟩⟩, by rw [h3]⟩
    rw [h2]
    decide +kernel
set_option maxRecDepth 100000 in
set_option maxHeartbeats 4000000 in
theorem t_sync (l : Launch) (D : va_G) (S : Nat) (σ ρ : rS) (ad0 : Nat → Nat) (w0 : gW) (hInv : INV S σ) (hM : SIM S σ ρ) (t f : Int32) : g_M l y_T_sync w_T_sync (rk 24) D gCl g_N [.ref (ad0 0), .int t, .int f] (CW S ρ ad0 w0) 0 0 (fun A => g_Qi D gCl A (fun r ad w => ∃ ρ' σs, (SpSy S σ t f r σs ∧ INV S σs ∧ SIM S σs ρ') ∧ CW S ρ' ad0 w0 ad w)) := by
  have hS3 := hInv.S3
  have hO := hM.1
  refine g_of (cc := c_T_sync) (nL := 7) (ret := some .int) (by decide) rfl (Nat.le_of_ble_eq_true rfl) ?_
  intro pp ee ss mm bb me cc A hC hr hlk hnm
  refine g_los [0, 1, 2] (lo' := [(0, .ref (ad0 0)), (1, .int t), (2, .int f)]) rfl ?_
  refine g_pure cw_bl (fun hbS => ?_)
  obtain ⟨hb, hSS⟩ := hbS
  refine g_aload_n (i := 0) hC d_T_sync_0 rfl rfl (Or.inr ⟨_, rfl⟩) ?_
  refine g_iload_n (i := 1) hC d_T_sync_1 rfl rfl ?_
  refine g_calli hC (g_runV (q := 0) (As := [_]) (st := []) hC g_NOK_N (t_isSite l D S ρ ad0 w0 (by omega) (t)) (t_cwV 1 hC.1.2.2.2.2 m_102 m_104 ms_0 m_1 k_T_isSite rfl rfl hd_T_isSite ⟨by decide, by decide⟩) cw_ts rfl rfl rfl (Nat.le_of_ble_eq_true rfl) d_T_sync_2 ⟨by decide, by decide⟩) (fun r2 => ?_)
  refine g_and (fun e => ?_)
  subst e
  refine g_if_eqN (tgt := 21) hC d_T_sync_5 (by decide) (pb_le _) (fun h5 => ?_) (fun h5 => ?_)
  · have g5 := pb_0 h5
    refine g_iconst (v := -1) hC d_T_sync_21 (by decide) ?_
    refine g_iret hC hr hlk d_T_sync_22 (by decide) (by decide) (fun ad w hw => ?_)
    exact ⟨ρ, σ, ⟨Or.inr ⟨fun ⟨s1, s2, h⟩ => g5 ⟨s1, by rw [h.1]; exact ix_nI (by omega) h.2.1⟩, rfl, rfl⟩, hInv, hM⟩, hw⟩
  · have g5 := pb_1 h5
    obtain ⟨s, hxs⟩ := g5
    obtain ⟨hsS, rfl⟩ := ix_some (by omega) hxs
    refine g_aload_n (i := 0) hC d_T_sync_8 rfl rfl (Or.inr ⟨_, rfl⟩) ?_
    refine g_iload_n (i := 2) hC d_T_sync_9 rfl rfl ?_
    refine g_calli hC (g_runV (q := 0) (As := [_]) (st := []) hC g_NOK_N (t_isSite l D S ρ ad0 w0 (by omega) (f)) (t_cwV 1 hC.1.2.2.2.2 m_102 m_104 ms_0 m_1 k_T_isSite rfl rfl hd_T_isSite ⟨by decide, by decide⟩) cw_ts rfl rfl rfl (Nat.le_of_ble_eq_true rfl) d_T_sync_10 ⟨by decide, by decide⟩) (fun r10 => ?_)
    refine g_and (fun e => ?_)
    subst e
    refine g_if_eqN (tgt := 21) hC d_T_sync_13 (by decide) (pb_le _) (fun h13 => ?_) (fun h13 => ?_)
    · have g13 := pb_0 h13
      refine g_iconst (v := -1) hC d_T_sync_21 (by decide) ?_
      refine g_iret hC hr hlk d_T_sync_22 (by decide) (by decide) (fun ad w hw => ?_)
      exact ⟨ρ, σ, ⟨Or.inr ⟨fun ⟨s1, s2, h⟩ => g13 ⟨s2, by rw [h.2.2.1]; exact ix_nI (by omega) h.2.2.2.1⟩, rfl, rfl⟩, hInv, hM⟩, hw⟩
    · have g13 := pb_1 h13
      obtain ⟨s', hxs'⟩ := g13
      obtain ⟨hs'S, rfl⟩ := ix_some (by omega) hxs'
      have hv6' : ∀ t, s_vc σ s' t ≤ 6 := fun t => (hInv.2 s' hs'S).1.1.le6 hInv.1.2.2.1 t
      refine g_iload_n (i := 1) hC d_T_sync_16 rfl rfl ?_
      refine g_iload_n (i := 2) hC d_T_sync_17 rfl rfl ?_
      refine g_icmp_neN (tgt := 23) hC d_T_sync_18 (by decide) (by omega) (by omega) (fun h18 => ?_) (fun h18 => ?_)
      · refine g_iconst (v := nI 0) hC d_T_sync_23 (by decide) ?_
        refine g_istore_n (i := 3) (lo' := [(3, _), (0, _), (1, _), (2, _)]) hC d_T_sync_24 rfl (by decide) rfl ?_
        refine g_iconst (v := nI 0) hC d_T_sync_25 (by decide) ?_
        refine g_istore (i := 4) (lo' := [(4, _), (3, _), (0, _), (1, _), (2, _)]) hC d_T_sync_26 (by decide) rfl ?_
        refine g_los [2, 3, 4, 1, 0] (lo' := [(0, _), (1, _), (2, _), (3, _), (4, _)]) rfl ?_
        refine g_loop (ι := (Nat × Nat) × rS × rS) (pc0 := 28) (fun ⟨⟨u, n⟩, τ, ρt⟩ => 3 - u) (fun ⟨⟨u, n⟩, τ, ρt⟩ => u ≤ S ∧ SYR s s' (6 * u) σ n τ ∧ INV S τ ∧ SIM S τ ρt ∧ s_vc τ s' = s_vc σ s') (fun ⟨⟨u, n⟩, τ, ρt⟩ => CW S ρt ad0 w0) (fun ⟨⟨u, n⟩, τ, ρt⟩ => [(0, .ref (ad0 0)), (1, .int (nI s)), (2, .int (nI s')), (3, .int (nI n)), (4, .int (nI u))]) ?_ ((0, 0), σ, ρ) (⟨Nat.zero_le _, ⟨rfl, rfl⟩, hInv, hM, rfl⟩)
        rintro ⟨⟨u, n⟩, τ, ρt⟩ hI ih
        try dsimp only at hI ih ⊢
        refine g_iload (i := 4) hC d_T_sync_28 rfl ?_
        refine g_aload_n (i := 0) hC d_T_sync_30 rfl rfl (Or.inr ⟨_, rfl⟩) ?_
        refine g_get hC (fun x h => List.mem_cons_of_mem _ (in_T x h)) 0 cw_ts rfl 0 (by decide) (List.mem_cons_of_mem _ m_84) rfl rfl d_T_sync_31 ?_
        refine g_icmp_geN (tgt := 103) hC d_T_sync_34 (by decide) (by first | omega | exact c_lt hb _ _ | exact pb_le _) (by first | omega | exact c_lt hb _ _ | exact pb_le _) (fun h34 => ?_) (fun h34 => ?_)
        · refine g_iload_n (i := 3) hC d_T_sync_103 rfl rfl ?_
          refine g_iret hC hr hlk d_T_sync_104 (by decide) (by decide) (fun ad w hw => ?_)
          refine ⟨ρt, τ, ⟨Or.inl ⟨s, s', n, ⟨rfl, hsS, rfl, hs'S, h18⟩, SYR_skip 18 (by omega) (fun i h1 h2 z => ?_) hI.2.1, rfl⟩, hI.2.2.1, hI.2.2.2.1⟩, hw⟩
          have hmi := (hI.2.2.1.2 s' hs'S).1.1.made (((hI.2.2.1.2 s' hs'S).1.2.2.2.2 i h2).1.mp z.1)
          unfold mh at hmi
          rw [hI.2.2.1.mkS0 (by omega)] at hmi
          omega
        · refine g_aload_n (i := 0) hC d_T_sync_37 rfl rfl (Or.inr ⟨_, rfl⟩) ?_
          refine g_get hC (fun x h => List.mem_cons_of_mem _ (in_T x h)) 0 cw_ts rfl 2 (by decide) (List.mem_cons_of_mem _ m_86) rfl rfl d_T_sync_38 ?_
          refine g_iload_n (i := 2) hC d_T_sync_41 rfl rfl ?_
          refine cl_cps hC (by omega) (by omega) d_T_sync_42 ?_
          refine g_getN (host := R_T) hC (fun x h => List.mem_cons_of_mem _ (in_K x h)) (10 + 4 * s') (cw_co hs'S) rfl 3 (by decide) (hC.2.2.1.1 _ mn_57) rfl rfl d_T_sync_43 ?_
          refine g_iload (i := 4) hC d_T_sync_46 rfl ?_
          rw [show ρt (10 * s') 1 = evv (s_vc σ s') by rw [(hI.2.2.2.1.2.2.2 s' hs'S).1.2.1, hI.2.2.2.2]]
          refine g_calli hC (g_runS (As := [_, _]) (st := []) hC g_NOK_N (v_count l D (CW S ρt ad0 w0) (s_vc σ s') u hv6' (by omega)) (t_cwS 2 hC.1.2.2.2.2 m_122 m_123 m_3 k_V_count rfl rfl hd_V_count ⟨by decide, by decide⟩) rfl rfl (Nat.le_of_ble_eq_true rfl) d_T_sync_48 ⟨by decide, by decide⟩) (fun r48 => ?_)
          refine g_and (fun e => ?_)
          subst e
          refine g_istore (i := 5) (lo' := [(5, _), (0, _), (1, _), (2, _), (3, _), (4, _)]) hC d_T_sync_51 (by decide) rfl ?_
          have hvu := hv6' u
          refine g_iconst (v := nI 0) hC d_T_sync_53 (by decide) ?_
          refine g_istore (i := 6) (lo' := [(6, _), (5, _), (0, _), (1, _), (2, _), (3, _), (4, _)]) hC d_T_sync_54 (by decide) rfl ?_
          refine g_los [2, 3, 4, 5, 6, 1, 0] (lo' := [(0, _), (1, _), (2, _), (3, _), (4, _), (5, _), (6, _)]) rfl ?_
          refine g_loop (ι := (Nat × Nat) × rS × rS) (pc0 := 56) (fun ⟨⟨k, m⟩, κ, ρk⟩ => 6 - k) (fun ⟨⟨k, m⟩, κ, ρk⟩ => k ≤ s_vc σ s' u ∧ SYR s s' (6 * u + k) σ m κ ∧ INV S κ ∧ SIM S κ ρk ∧ s_vc κ s' = s_vc σ s') (fun ⟨⟨k, m⟩, κ, ρk⟩ => CW S ρk ad0 w0) (fun ⟨⟨k, m⟩, κ, ρk⟩ => [(0, .ref (ad0 0)), (1, .int (nI s)), (2, .int (nI s')), (3, .int (nI m)), (4, .int (nI u)), (5, .int (nI (s_vc σ s' u))), (6, .int (nI k))]) ?_ ((0, n), τ, ρt) (⟨Nat.zero_le _, hI.2⟩)
          rintro ⟨⟨k, m⟩, κ, ρk⟩ hJ jh
          try dsimp only at hJ jh ⊢
          refine g_iload (i := 6) hC d_T_sync_56 rfl ?_
          refine g_iload (i := 5) hC d_T_sync_58 rfl ?_
          refine g_icmp_geN (tgt := 97) hC d_T_sync_60 (by decide) (by omega) (by omega) (fun h60 => ?_) (fun h60 => ?_)
          · refine g_iinc (i := 4) (k := 4) (lo' := [(4, _), (0, _), (1, _), (2, _), (3, _), (5, _), (6, _)]) hC d_T_sync_97 rfl (nI_inc _) (by decide) rfl ?_
            refine g_goto (tgt := 28) hC d_T_sync_100 (by decide) ?_
            refine g_los [1, 2, 3, 4, 0] rfl ?_
            refine ih ((u + 1, m), κ, ρk) ⟨by dsimp only; omega, SYR_skip (6 * (u + 1)) (by omega) (fun i h1 h2 z => ?_) hJ.2.1, hJ.2.2⟩ (by dsimp only; omega)
            have hmi := ((hJ.2.2.1.2 s' hs'S).1.2.2.2.2 i (by omega)).1.mp z.1
            unfold mh at hmi
            rw [hJ.2.2.2.2, show i / 6 = u by omega] at hmi
            omega
          · have hIk := hJ.2.2.1
            have hmh : mh (s_vc κ s') (6 * u + k) := by
              unfold mh
              rw [hJ.2.2.2.2, show (6 * u + k) / 6 = u by omega]
              omega
            have h18k : 6 * u + k < 18 := by omega
            have hmk : MO κ (nI u) (nI k) (6 * u + k) := ⟨(hIk.2 s' hs'S).1.1.made hmh, by rw [show (6 * u + k) / 6 = u by omega], by rw [show (6 * u + k) % 6 = k by omega]⟩
            have hin : κ 7 (18 * s' + (6 * u + k)) ≠ 0 := ((hIk.2 s' hs'S).1.2.2.2.2 _ h18k).1.mpr hmh
            refine g_iload_n (i := 3) hC d_T_sync_63 rfl rfl ?_
            refine g_iconst (v := nI 0) hC d_T_sync_64 (by decide) ?_
            refine g_aload_n (i := 0) hC d_T_sync_65 rfl rfl (Or.inr ⟨_, rfl⟩) ?_
            refine g_aload_n (i := 0) hC d_T_sync_66 rfl rfl (Or.inr ⟨_, rfl⟩) ?_
            refine g_get hC (fun x h => List.mem_cons_of_mem _ (in_T x h)) 0 cw_ts rfl 2 (by decide) (List.mem_cons_of_mem _ m_86) rfl rfl d_T_sync_67 ?_
            refine g_iload_n (i := 1) hC d_T_sync_70 rfl rfl ?_
            refine cl_cps hC (by omega) (by omega) d_T_sync_71 ?_
            refine g_aload_n (i := 0) hC d_T_sync_72 rfl rfl (Or.inr ⟨_, rfl⟩) ?_
            refine g_get hC (fun x h => List.mem_cons_of_mem _ (in_T x h)) 0 cw_ts rfl 1 (by decide) (List.mem_cons_of_mem _ m_85) rfl rfl d_T_sync_73 ?_
            refine g_iload (i := 4) hC d_T_sync_76 rfl ?_
            refine g_iload (i := 6) hC d_T_sync_78 rfl ?_
            refine g_callq hC (g_runV (q := 1) (As := [_, _]) (st := [_, _, _, _]) hC g_NOK_N (h_find l D S κ ρk ad0 w0 hIk hJ.2.2.2.1.1 (nI u) (nI k)) (t_cwV 2 hC.1.2.2.2.2 m_192 m_193 m_194 m_2 k_H_find rfl rfl hd_H_find ⟨by decide, by decide⟩) cw_hi rfl rfl rfl (Nat.le_of_ble_eq_true rfl) d_T_sync_80 ⟨by decide, by decide⟩) (fun r80 => ?_)
            refine g_and (fun e80 => ?_)
            obtain rfl : r80 = some (ad0 (100 + (6 * u + k))) := by
              rcases fd_o hIk e80 with ⟨o1, h1, h2⟩ | ⟨h1, -⟩
              · rw [h2, MO.eq hIk h1 hmk]
              · exact absurd ⟨_, hmk⟩ h1
            rw [show va_rf (some (ad0 (100 + (6 * u + k)))) = .ref (ad0 (100 + (6 * u + k))) from rfl]
            refine g_calli hC (g_runV (q := 0) (As := [_, _]) (st := [_, _]) hC g_NOK_N (t_recv l D S κ ρk ad0 w0 hIk hJ.2.2.2.1 s hsS (6 * u + k) hmk.1) (t_cwV 2 hC.1.2.2.2.2 m_196 m_198 ms_4 m_1 k_T_receive rfl rfl hd_T_receive ⟨by decide, by decide⟩) cw_ts rfl rfl rfl (Nat.le_of_ble_eq_true rfl) d_T_sync_83 ⟨by decide, by decide⟩) (fun r83 => ?_)
            refine g_ex (fun ρ2 => g_ex (fun κ2 => g_and (fun e83 => ?_)))
            obtain ⟨hrc, hI2, hM2⟩ := e83
            refine g_mmax hC (List.mem_cons_of_mem _ m_262) (List.mem_cons_of_mem _ m_263) (List.mem_cons_of_mem _ m_8) (List.mem_cons_of_mem _ m_264) (by decide) (Nat.le_of_ble_eq_true rfl) (by decide) (by decide) d_T_sync_86 ?_
            obtain ⟨m2, e86, hsy, hvc2⟩ := hrc.sy (fun z => h18 z.symm) hin hJ.2.1
            refine g_eqi e86 ?_
            refine g_iaddN hC d_T_sync_89 ?_
            refine g_istore_n (i := 3) (lo' := [(3, _), (0, _), (1, _), (2, _), (4, _), (5, _), (6, _)]) hC d_T_sync_90 rfl (by decide) rfl ?_
            refine g_iinc (i := 6) (k := 6) (lo' := [(6, _), (3, _), (0, _), (1, _), (2, _), (4, _), (5, _)]) hC d_T_sync_91 rfl (nI_inc _) (by decide) rfl ?_
            refine g_goto (tgt := 56) hC d_T_sync_94 (by decide) ?_
            refine g_los [2, 3, 4, 1, 5, 6, 0] rfl ?_
            exact jh ((k + 1, m + m2), κ2, ρ2) ⟨by dsimp only; omega, hsy, hI2, hM2, hvc2.trans hJ.2.2.2.2⟩ (by dsimp only; omega)
      · refine g_iconst (v := -1) hC d_T_sync_21 (by decide) ?_
        refine g_iret hC hr hlk d_T_sync_22 (by decide) (by decide) (fun ad w hw => ?_)
        exact ⟨ρ, σ, ⟨Or.inr ⟨fun ⟨s1, s2, h⟩ => h.2.2.2.2 (by
          have e1 := nI_inj h.1 (by omega) (by have := h.2.1; omega)
          have e2 := nI_inj h.2.2.1 (by omega) (by have := h.2.2.2.1; omega)
          rw [← e1, ← e2]
          exact h18), rfl, rfl⟩, hInv, hM⟩, hw⟩
