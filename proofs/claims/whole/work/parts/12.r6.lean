theorem SOK_of {σ τ : rS} {x : Nat} {vv : Nat → Nat} {A B k i : Nat} (hE : E12 σ τ) (hH : MH (s_mk σ) (s_cx σ)) (hA : 0 < A) (hB : 0 < B) (hv6 : ∀ t, vv t ≤ 6) (hd : ∀ t, dgw A B k t ≤ vv t) (hM : MC (s_mk σ) (s_cx σ) (dgw A B k)) (hX : MX (s_mk σ) (s_cx σ) i (dgw A B k)) (hk : i = x ∨ mh vv i) (hi : σ 2 i ≠ 0) (h18 : i < 18) (hPD : PD σ τ x vv A B k i) : SOK τ i (dgw A B k) := by
  intro t ht hc
  rw [hE.cx] at hc
  rw [hE.pl, hE 2 (by omega) (by omega)]
  have hcd : cdx A B (md (dgw A B k) t) < k := by
    have := cdx_md (u := dgw A B k) hA hB ht hc.2.2.1
    rw [dgw_cdx] at this
    exact this
  have hle : ∀ j, md (dgw A B k) t j ≤ vv j := fun j => by
    have := hd j
    unfold md
    split <;> omega
  refine ⟨hPD i _ ⟨h18, hk, hi, hle, hM.dn hH hc.2, hX.dn hc⟩ (Or.inl hcd), fun hy => ?_⟩
  have hh := mh_top hc.2.2.1 (hM.le6 hH t)
  exact hPD _ _ ⟨hM.lt18 hH hh, Or.inr (Nat.lt_of_lt_of_le hh (hd _)), hy, hle, hM.dn hH hc.2, MX.top hH hM hc.2⟩ (Or.inl hcd)
theorem s_nw_eq {τ τ' : rS} (h : τ' 14 = τ 14) : s_nw τ' = s_nw τ := by
  funext t
  unfold s_nw
  rw [h]
set_option maxRecDepth 100000 in
set_option maxHeartbeats 4000000 in
theorem r_placeFor (l : Launch) (D : va_G) (S : Nat) (σ : rS) (ad0 : Nat → Nat) (w0 : gW) (x site : Nat) (hs : site < 3) (hi : σ 2 x ≠ 0) (hH : MH (s_mk σ) (s_cx σ)) (hM : MC (s_mk σ) (s_cx σ) (s_vc σ site)) (hX : MX (s_mk σ) (s_cx σ) x (s_vc σ site)) (hBB : ∀ o u, MC (s_mk σ) (s_cx σ) u → MX (s_mk σ) (s_cx σ) o u → s_pl σ o u < 1000) : g_M l y_M_placeFor w_M_placeFor (rk 3) D gCl g_N [.ref (ad0 200), .int (nI x), .int (nI site)] (RX S σ ad0 w0) 0 0 (fun A => g_Qi D gCl A (fun r ad w => ∃ σ', (E12 σ σ' ∧ r = nI (s_pl σ x (s_vc σ site))) ∧ RX S σ' ad0 w0 ad w)) := by
  have hA0 : σ 8 (3 * site) ≤ 6 := hM.le6 hH 0
  have hB0 : σ 8 (3 * site + 1) ≤ 6 := hM.le6 hH 1
  have hC0 : σ 8 (3 * site + 2) ≤ 6 := hM.le6 hH 2
  have hPR : (σ 8 (3 * site) + 1) * (σ 8 (3 * site + 1) + 1) * (σ 8 (3 * site + 2) + 1) ≤ 343 := Nat.mul_le_mul (Nat.mul_le_mul (show (σ 8 (3 * site) + 1) ≤ 7 by omega) (show (σ 8 (3 * site + 1) + 1) ≤ 7 by omega)) (show (σ 8 (3 * site + 2) + 1) ≤ 7 by omega)
  have hv6 : ∀ t, s_vc σ site t ≤ 6 := fun t => hM.le6 hH t
  have hv3 : ∀ t, 3 ≤ t → s_vc σ site t = 0 := fun t ht => if_neg (by omega)
  have hx18 : x < 18 := by
    have := hX.1
    unfold mh at this
    by_cases q : 3 ≤ x / 6
    · rw [hH.2.1 _ q] at this
      omega
    · omega
  refine g_of (cc := c_M_placeFor) (nL := 10) (ret := some .int) (by decide) rfl (Nat.le_of_ble_eq_true rfl) ?_
  intro pp ee ss mm bb me cc A hC hr hlk hnm
  refine g_los [0, 1, 2] (lo' := [(0, .ref (ad0 200)), (1, .int (nI x)), (2, .int (nI site))]) rfl ?_
  refine g_pure r_bl_of (fun hb => ?_)
  refine g_aload_n (i := 0) hC d_M_placeFor_0 rfl rfl (Or.inr ⟨_, rfl⟩) ?_
  refine g_get hC (fun x h => List.mem_cons_of_mem _ (in_M x h)) 200 r_this rfl 8 (by decide) (List.mem_cons_of_mem _ m_328) rfl rfl d_M_placeFor_1 ?_
  refine g_iconst (v := nI 3) hC d_M_placeFor_4 (by decide) ?_
  refine g_iload_n (i := 2) hC d_M_placeFor_5 rfl rfl ?_
  refine g_imulN hC d_M_placeFor_6 ?_
  refine r_ld 8 hC (by decide) (by decide) rfl (fun _ => rfl) (by simp only [r_ln]; omega) d_M_placeFor_7 ?_
  refine g_istore_n (i := 3) (lo' := [(3, _), (0, _), (1, _), (2, _)]) hC d_M_placeFor_8 rfl (by decide) rfl ?_
  refine g_aload_n (i := 0) hC d_M_placeFor_9 rfl rfl (Or.inr ⟨_, rfl⟩) ?_
  refine g_get hC (fun x h => List.mem_cons_of_mem _ (in_M x h)) 200 r_this rfl 8 (by decide) (List.mem_cons_of_mem _ m_328) rfl rfl d_M_placeFor_10 ?_
  refine g_iconst (v := nI 3) hC d_M_placeFor_13 (by decide) ?_
  refine g_iload_n (i := 2) hC d_M_placeFor_14 rfl rfl ?_
  refine g_imulN hC d_M_placeFor_15 ?_
  refine g_iconst (v := nI 1) hC d_M_placeFor_16 (by decide) ?_
  refine g_iaddN hC d_M_placeFor_17 ?_
  refine r_ld 8 hC (by decide) (by decide) rfl (fun _ => rfl) (by simp only [r_ln]; omega) d_M_placeFor_18 ?_
  refine g_istore (i := 4) (lo' := [(4, _), (3, _), (0, _), (1, _), (2, _)]) hC d_M_placeFor_19 (by decide) rfl ?_
  refine g_aload_n (i := 0) hC d_M_placeFor_21 rfl rfl (Or.inr ⟨_, rfl⟩) ?_
  refine g_get hC (fun x h => List.mem_cons_of_mem _ (in_M x h)) 200 r_this rfl 8 (by decide) (List.mem_cons_of_mem _ m_328) rfl rfl d_M_placeFor_22 ?_
  refine g_iconst (v := nI 3) hC d_M_placeFor_25 (by decide) ?_
  refine g_iload_n (i := 2) hC d_M_placeFor_26 rfl rfl ?_
  refine g_imulN hC d_M_placeFor_27 ?_
  refine g_iconst (v := nI 2) hC d_M_placeFor_28 (by decide) ?_
  refine g_iaddN hC d_M_placeFor_29 ?_
  refine r_ld 8 hC (by decide) (by decide) rfl (fun _ => rfl) (by simp only [r_ln]; omega) d_M_placeFor_30 ?_
  refine g_istore (i := 5) (lo' := [(5, _), (4, _), (3, _), (0, _), (1, _), (2, _)]) hC d_M_placeFor_31 (by decide) rfl ?_
  refine g_iconst (v := nI 0) hC d_M_placeFor_33 (by decide) ?_
  refine g_istore (i := 6) (lo' := [(6, _), (5, _), (4, _), (3, _), (0, _), (1, _), (2, _)]) hC d_M_placeFor_34 (by decide) rfl ?_
  refine g_los [4, 5, 6, 3, 2, 1, 0] (lo' := [(0, _), (1, _), (2, _), (3, _), (4, _), (5, _), (6, _)]) rfl ?_
  refine g_loop (ι := Nat × rS) (pc0 := 36) (fun ⟨k, τ⟩ => (σ 8 (3 * site) + 1) * (σ 8 (3 * site + 1) + 1) * (σ 8 (3 * site + 2) + 1) - k) (fun ⟨k, τ⟩ => k ≤ (σ 8 (3 * site) + 1) * (σ 8 (3 * site + 1) + 1) * (σ 8 (3 * site + 2) + 1) ∧ E12 σ τ ∧ PD σ τ x (s_vc σ site) (σ 8 (3 * site) + 1) (σ 8 (3 * site + 1) + 1) k 0) (fun ⟨k, τ⟩ => RX S τ ad0 w0) (fun ⟨k, τ⟩ => [(0, .ref (ad0 200)), (1, .int (nI x)), (2, .int (nI site)), (3, .int (nI (σ 8 (3 * site)))), (4, .int (nI (σ 8 (3 * site + 1)))), (5, .int (nI (σ 8 (3 * site + 2)))), (6, .int (nI k))]) ?_ (0, σ) (⟨Nat.zero_le _, E12.refl σ, fun o u _ h => by omega⟩)
  rintro ⟨k, τ⟩ hI ih
  try dsimp only at hI ih ⊢
  refine g_pure r_bl_of (fun hb => ?_)
  refine g_iload (i := 6) hC d_M_placeFor_36 rfl ?_
  refine g_iload_n (i := 3) hC d_M_placeFor_38 rfl rfl ?_
  refine g_iconst (v := nI 1) hC d_M_placeFor_39 (by decide) ?_
  refine g_iaddN hC d_M_placeFor_40 ?_
  refine g_iload (i := 4) hC d_M_placeFor_41 rfl ?_
  refine g_iconst (v := nI 1) hC d_M_placeFor_43 (by decide) ?_
  refine g_iaddN hC d_M_placeFor_44 ?_
  refine g_imulN hC d_M_placeFor_45 ?_
  refine g_iload (i := 5) hC d_M_placeFor_46 rfl ?_
  refine g_iconst (v := nI 1) hC d_M_placeFor_48 (by decide) ?_
  refine g_iaddN hC d_M_placeFor_49 ?_
  refine g_imulN hC d_M_placeFor_50 ?_
  refine g_icmp_geN (tgt := 207) hC d_M_placeFor_51 (by decide) (by omega) (by omega) (fun h51 => ?_) (fun h51 => ?_)
  · refine g_aload_n (i := 0) hC d_M_placeFor_207 rfl rfl (Or.inr ⟨_, rfl⟩) ?_
    refine g_get hC (fun x h => List.mem_cons_of_mem _ (in_M x h)) 200 r_this rfl 14 (by decide) (List.mem_cons_of_mem _ m_334) rfl rfl d_M_placeFor_208 ?_
    refine g_iconst (v := nI 0) hC d_M_placeFor_211 (by decide) ?_
    refine g_iload_n (i := 3) hC d_M_placeFor_212 rfl rfl ?_
    refine r_st 14 hC (by decide) (by decide) rfl (fun _ => rfl) (by decide) (by omega) (by simp only [r_ln]; omega) d_M_placeFor_213 ?_
    refine g_aload_n (i := 0) hC d_M_placeFor_214 rfl rfl (Or.inr ⟨_, rfl⟩) ?_
    refine g_get hC (fun x h => List.mem_cons_of_mem _ (in_M x h)) 200 r_this rfl 14 (by decide) (List.mem_cons_of_mem _ m_334) rfl rfl d_M_placeFor_215 ?_
    refine g_iconst (v := nI 1) hC d_M_placeFor_218 (by decide) ?_
    refine g_iload (i := 4) hC d_M_placeFor_219 rfl ?_
    refine r_st 14 hC (by decide) (by decide) rfl (fun _ => rfl) (by decide) (by omega) (by simp only [r_ln]; omega) d_M_placeFor_221 ?_
    refine g_aload_n (i := 0) hC d_M_placeFor_222 rfl rfl (Or.inr ⟨_, rfl⟩) ?_
    refine g_get hC (fun x h => List.mem_cons_of_mem _ (in_M x h)) 200 r_this rfl 14 (by decide) (List.mem_cons_of_mem _ m_334) rfl rfl d_M_placeFor_223 ?_
    refine g_iconst (v := nI 2) hC d_M_placeFor_226 (by decide) ?_
    refine g_iload (i := 5) hC d_M_placeFor_227 rfl ?_
    refine r_st 14 hC (by decide) (by decide) rfl (fun _ => rfl) (by decide) (by omega) (by simp only [r_ln]; omega) d_M_placeFor_229 ?_
    refine g_aload_n (i := 0) hC d_M_placeFor_230 rfl rfl (Or.inr ⟨_, rfl⟩) ?_
    refine g_get hC (fun x h => List.mem_cons_of_mem _ (in_M x h)) 200 r_this rfl 13 (by decide) (List.mem_cons_of_mem _ m_333) rfl rfl d_M_placeFor_231 ?_
    refine g_aload_n (i := 0) hC d_M_placeFor_234 rfl rfl (Or.inr ⟨_, rfl⟩) ?_
    refine g_iload_n (i := 1) hC d_M_placeFor_235 rfl rfl ?_
    refine g_calli hC (g_runV (q := 200) (As := [_]) (st := [_]) hC g_NOK_N (r_index l D S (u2 (u2 (u2 τ 14 0 (σ 8 (3 * site))) 14 1 (σ 8 (3 * site + 1))) 14 2 (σ 8 (3 * site + 2))) ad0 w0 x hx18) (t_cwV 1 hC.1.2.2.2.2 m_418 m_420 ms_19 m_6 k_M_index rfl rfl hd_M_index ⟨by decide, by decide⟩) r_this rfl rfl rfl (Nat.le_of_ble_eq_true rfl) d_M_placeFor_236 ⟨by decide, by decide⟩) (fun r236 => ?_)
    refine g_and (fun e236 => ?_)
    have e3 : 343 * x + (u2 (u2 (u2 τ 14 0 (σ 8 (3 * site))) 14 1 (σ 8 (3 * site + 1))) 14 2 (σ 8 (3 * site + 2))) 14 0 + 7 * (u2 (u2 (u2 τ 14 0 (σ 8 (3 * site))) 14 1 (σ 8 (3 * site + 1))) 14 2 (σ 8 (3 * site + 2))) 14 1 + 49 * (u2 (u2 (u2 τ 14 0 (σ 8 (3 * site))) 14 1 (σ 8 (3 * site + 1))) 14 2 (σ 8 (3 * site + 2))) 14 2 = 343 * x + mvi (s_vc σ site) := by
      have e4 : mvi (s_nw (u2 (u2 (u2 τ 14 0 (σ 8 (3 * site))) 14 1 (σ 8 (3 * site + 1))) 14 2 (σ 8 (3 * site + 2)))) = mvi (s_vc σ site) := by
        rw [nw3]
        rfl
      rw [mvi_nw] at e4
      omega
    rw [e3] at e236
    subst e236
    refine r_ld 13 hC (by decide) (by decide) rfl (fun _ => rfl) (by have := mvi_le hv6; simp only [r_ln]; omega) d_M_placeFor_239 ?_
    refine g_iret hC hr hlk d_M_placeFor_240 (by decide) (by decide) (fun ad w hw => ?_)
    refine ⟨_, ⟨((hI.2.1.u2 (Or.inr rfl)).u2 (Or.inr rfl)).u2 (Or.inr rfl), ?_⟩, hw⟩
    have hpd := hI.2.2 x (s_vc σ site) ⟨hx18, Or.inl rfl, hi, fun _ => Nat.le_refl _, hM, hX⟩ (Or.inl (Nat.lt_of_lt_of_le (cdx_lt (C := (σ 8 (3 * site + 2) + 1)) (show s_vc σ site 0 < (σ 8 (3 * site) + 1) from Nat.lt_succ_self _) (show s_vc σ site 1 < (σ 8 (3 * site + 1) + 1) from Nat.lt_succ_self _) (show s_vc σ site 2 < (σ 8 (3 * site + 2) + 1) from Nat.lt_succ_self _)) h51))
    rw [u2_ne (by omega), u2_ne (by omega), u2_ne (by omega), hpd]
  · refine g_aload_n (i := 0) hC d_M_placeFor_54 rfl rfl (Or.inr ⟨_, rfl⟩) ?_
    refine g_get hC (fun x h => List.mem_cons_of_mem _ (in_M x h)) 200 r_this rfl 14 (by decide) (List.mem_cons_of_mem _ m_334) rfl rfl d_M_placeFor_55 ?_
    refine g_iconst (v := nI 0) hC d_M_placeFor_58 (by decide) ?_
    refine g_iload (i := 6) hC d_M_placeFor_59 rfl ?_
    refine g_iload_n (i := 3) hC d_M_placeFor_61 rfl rfl ?_
    refine g_iconst (v := nI 1) hC d_M_placeFor_62 (by decide) ?_
    refine g_iaddN hC d_M_placeFor_63 ?_
    refine g_iremN hC d_M_placeFor_64 (by omega) (by omega) (by omega) ?_
    refine r_st 14 hC (by decide) (by decide) rfl (fun _ => rfl) (by decide) (by have := Nat.mod_lt k (show 0 < (σ 8 (3 * site) + 1) by omega); omega) (by simp only [r_ln]; omega) d_M_placeFor_65 ?_
    refine g_aload_n (i := 0) hC d_M_placeFor_66 rfl rfl (Or.inr ⟨_, rfl⟩) ?_
    refine g_get hC (fun x h => List.mem_cons_of_mem _ (in_M x h)) 200 r_this rfl 14 (by decide) (List.mem_cons_of_mem _ m_334) rfl rfl d_M_placeFor_67 ?_
    refine g_iconst (v := nI 1) hC d_M_placeFor_70 (by decide) ?_
    refine g_iload (i := 6) hC d_M_placeFor_71 rfl ?_
    refine g_iload_n (i := 3) hC d_M_placeFor_73 rfl rfl ?_
    refine g_iconst (v := nI 1) hC d_M_placeFor_74 (by decide) ?_
    refine g_iaddN hC d_M_placeFor_75 ?_
    refine g_idivN hC d_M_placeFor_76 (by omega) (by omega) (by omega) ?_
    refine g_iload (i := 4) hC d_M_placeFor_77 rfl ?_
    refine g_iconst (v := nI 1) hC d_M_placeFor_79 (by decide) ?_
    refine g_iaddN hC d_M_placeFor_80 ?_
    refine g_iremN hC d_M_placeFor_81 (by have := Nat.div_le_self k (σ 8 (3 * site) + 1); omega) (by omega) (by omega) ?_
    refine r_st 14 hC (by decide) (by decide) rfl (fun _ => rfl) (by decide) (by have := Nat.mod_lt (k / (σ 8 (3 * site) + 1)) (show 0 < (σ 8 (3 * site + 1) + 1) by omega); omega) (by simp only [r_ln]; omega) d_M_placeFor_82 ?_
    refine g_aload_n (i := 0) hC d_M_placeFor_83 rfl rfl (Or.inr ⟨_, rfl⟩) ?_
    refine g_get hC (fun x h => List.mem_cons_of_mem _ (in_M x h)) 200 r_this rfl 14 (by decide) (List.mem_cons_of_mem _ m_334) rfl rfl d_M_placeFor_84 ?_
    refine g_iconst (v := nI 2) hC d_M_placeFor_87 (by decide) ?_
    refine g_iload (i := 6) hC d_M_placeFor_88 rfl ?_
    refine g_iload_n (i := 3) hC d_M_placeFor_90 rfl rfl ?_
    refine g_iconst (v := nI 1) hC d_M_placeFor_91 (by decide) ?_
    refine g_iaddN hC d_M_placeFor_92 ?_
    refine g_idivN hC d_M_placeFor_93 (by omega) (by omega) (by omega) ?_
    refine g_iload (i := 4) hC d_M_placeFor_94 rfl ?_
    refine g_iconst (v := nI 1) hC d_M_placeFor_96 (by decide) ?_
    refine g_iaddN hC d_M_placeFor_97 ?_
    refine g_idivN hC d_M_placeFor_98 (by have := Nat.div_le_self k (σ 8 (3 * site) + 1); omega) (by omega) (by omega) ?_
    refine r_st 14 hC (by decide) (by decide) rfl (fun _ => rfl) (by decide) (by have := Nat.div_le_self k (σ 8 (3 * site) + 1); have := Nat.div_le_self (k / (σ 8 (3 * site) + 1)) (σ 8 (3 * site + 1) + 1); omega) (by simp only [r_ln]; omega) d_M_placeFor_99 ?_
    have dl := dgw_lt (A := (σ 8 (3 * site) + 1)) (B := (σ 8 (3 * site + 1) + 1)) (C := (σ 8 (3 * site + 2) + 1)) (by omega) (by omega) h51
    have hdle : ∀ t, dgw (σ 8 (3 * site) + 1) (σ 8 (3 * site + 1) + 1) k t ≤ s_vc σ site t := fun t => by
      by_cases q0 : t = 0
      · rw [q0]; exact Nat.le_of_lt_succ dl.1
      · by_cases q1 : t = 1
        · rw [q1]; exact Nat.le_of_lt_succ dl.2.1
        · by_cases q2 : t = 2
          · rw [q2]; exact Nat.le_of_lt_succ dl.2.2
          · unfold dgw
            rw [if_neg q0, if_neg q1, if_neg q2]
            exact Nat.zero_le _
    generalize hτ : u2 (u2 (u2 τ 14 0 (k % (σ 8 (3 * site) + 1))) 14 1 (k / (σ 8 (3 * site) + 1) % (σ 8 (3 * site + 1) + 1))) 14 2 (k / (σ 8 (3 * site) + 1) / (σ 8 (3 * site + 1) + 1)) = τ1
    have hnw : s_nw τ1 = dgw (σ 8 (3 * site) + 1) (σ 8 (3 * site + 1) + 1) k := by
      rw [← hτ, nw3]
      rfl
    have hE1 : E12 σ τ1 := by
      rw [← hτ]
      exact ((hI.2.1.u2 (Or.inr rfl)).u2 (Or.inr rfl)).u2 (Or.inr rfl)
    have h13 : τ1 13 = τ 13 := by
      rw [← hτ, u2_ne (by omega), u2_ne (by omega), u2_ne (by omega)]
    have hPD : PD σ τ1 x (s_vc σ site) (σ 8 (3 * site) + 1) (σ 8 (3 * site + 1) + 1) k 0 := fun o u h1 h2 => by
      rw [h13]
      exact hI.2.2 o u h1 h2
    refine g_pure r_bl_of (fun hb1 => ?_)
    refine g_aload_n (i := 0) hC d_M_placeFor_100 rfl rfl (Or.inr ⟨_, rfl⟩) ?_
    refine g_calli hC (g_runV (q := 200) (As := []) (st := []) hC g_NOK_N (r_closed l D S τ1 ad0 w0) (t_cwV 0 hC.1.2.2.2.2 m_398 m_400 ms_14 m_6 k_M_closed rfl rfl hd_M_closed ⟨by decide, by decide⟩) r_this rfl rfl rfl (Nat.le_of_ble_eq_true rfl) d_M_placeFor_101 ⟨by decide, by decide⟩) (fun r101 => ?_)
    refine g_and (fun e101 => ?_)
    rw [pb_iff (closed_iff (fun t => by rw [hnw, hE1.mk]; exact Nat.le_trans (hdle t) (hM.1 t))), hE1.mk, hE1.cx, hnw] at e101
    subst e101
    refine g_istore (i := 7) (lo' := [(7, _), (0, _), (1, _), (2, _), (3, _), (4, _), (5, _), (6, _)]) hC d_M_placeFor_104 (by decide) rfl ?_
    refine g_iconst (v := nI 0) hC d_M_placeFor_106 (by decide) ?_
    refine g_istore (i := 8) (lo' := [(8, _), (7, _), (0, _), (1, _), (2, _), (3, _), (4, _), (5, _), (6, _)]) hC d_M_placeFor_107 (by decide) rfl ?_
    refine g_los [2, 3, 4, 5, 6, 7, 8, 1, 0] (lo' := [(0, _), (1, _), (2, _), (3, _), (4, _), (5, _), (6, _), (7, _), (8, _)]) rfl ?_
    refine g_loop (ι := Nat × rS) (pc0 := 109) (fun ⟨i, τ2⟩ => 18 - i) (fun ⟨i, τ2⟩ => i ≤ 18 ∧ E12 σ τ2 ∧ τ2 14 = τ1 14 ∧ PD σ τ2 x (s_vc σ site) (σ 8 (3 * site) + 1) (σ 8 (3 * site + 1) + 1) k i) (fun ⟨i, τ2⟩ => RX S τ2 ad0 w0) (fun ⟨i, τ2⟩ => [(0, .ref (ad0 200)), (1, .int (nI x)), (2, .int (nI site)), (3, .int (nI (σ 8 (3 * site)))), (4, .int (nI (σ 8 (3 * site + 1)))), (5, .int (nI (σ 8 (3 * site + 2)))), (6, .int (nI k)), (7, .int (nI (pb (MC (s_mk σ) (s_cx σ) (dgw (σ 8 (3 * site) + 1) (σ 8 (3 * site + 1) + 1) k))))), (8, .int (nI i))]) ?_ (0, τ1) (⟨Nat.zero_le _, hE1, rfl, hPD⟩)
    rintro ⟨i, τ2⟩ hJ ih2
    try dsimp only at hJ ih2 ⊢
    refine g_pure r_bl_of (fun hb2 => ?_)
    have hnw2 : s_nw τ2 = dgw (σ 8 (3 * site) + 1) (σ 8 (3 * site + 1) + 1) k := (s_nw_eq hJ.2.2.1).trans hnw
    refine g_iload (i := 8) hC d_M_placeFor_109 rfl ?_
    refine g_bipush (v := nI 18) hC d_M_placeFor_111 (by decide) ?_
    refine g_icmp_geN (tgt := 201) hC d_M_placeFor_113 (by decide) (by first | omega | exact r_lt hb _ _ | exact pb_le _) (by first | omega | exact r_lt hb _ _ | exact pb_le _) (fun h113 => ?_) (fun h113 => ?_)
    · refine g_iinc (i := 6) (k := 6) (lo' := [(6, _), (0, _), (1, _), (2, _), (3, _), (4, _), (5, _), (7, _), (8, _)]) hC d_M_placeFor_201 rfl (nI_inc _) (by decide) rfl ?_
      refine g_goto (tgt := 36) hC d_M_placeFor_204 (by decide) ?_
      refine g_los [1, 2, 3, 4, 5, 6, 0] rfl ?_
      exact ih (k + 1, τ2) ⟨by omega, hJ.2.1, hJ.2.2.2.next rfl rfl hv3 (Or.inl (by omega))⟩ (by dsimp only; omega)
    · refine g_iload (i := 7) hC d_M_placeFor_116 rfl ?_
      refine g_if_eqN (tgt := 201) hC d_M_placeFor_118 (by decide) (pb_le _) (fun h118 => ?_) (fun h118 => ?_)
      · have g118 := pb_0 h118
        refine g_iinc (i := 6) (k := 6) (lo' := [(6, _), (0, _), (1, _), (2, _), (3, _), (4, _), (5, _), (7, _), (8, _)]) hC d_M_placeFor_201 rfl (nI_inc _) (by decide) rfl ?_
        refine g_goto (tgt := 36) hC d_M_placeFor_204 (by decide) ?_
        refine g_los [1, 2, 3, 4, 5, 6, 0] rfl ?_
        exact ih (k + 1, τ2) ⟨by omega, hJ.2.1, hJ.2.2.2.next rfl rfl hv3 (Or.inr g118)⟩ (by dsimp only; omega)
      · have g118 := pb_1 h118
        refine g_iload (i := 8) hC d_M_placeFor_121 rfl ?_
        refine g_iload_n (i := 1) hC d_M_placeFor_123 rfl rfl ?_
        refine g_icmp_eqN (tgt := 149) hC d_M_placeFor_124 (by decide) (by first | omega | exact r_lt hb _ _ | exact pb_le _) (by first | omega | exact r_lt hb _ _ | exact pb_le _) (fun h124 => ?_) (fun h124 => ?_)
        · refine g_iconst (v := nI 1) hC d_M_placeFor_149 (by decide) ?_
          refine g_goto (tgt := 154) hC d_M_placeFor_150 (by decide) ?_
          refine g_istore (i := 9) (lo' := [(9, _), (0, _), (1, _), (2, _), (3, _), (4, _), (5, _), (6, _), (7, _), (8, _)]) hC d_M_placeFor_154 (by decide) rfl ?_
          refine g_iload (i := 9) hC d_M_placeFor_156 rfl ?_
          refine g_if_eqN (tgt := 195) hC d_M_placeFor_158 (by decide) (by decide) (fun h158 => ?_) (fun h158 => ?_)
          · exact absurd h158 (by decide)
          · refine g_aload_n (i := 0) hC d_M_placeFor_161 rfl rfl (Or.inr ⟨_, rfl⟩) ?_
            refine g_get hC (fun x h => List.mem_cons_of_mem _ (in_M x h)) 200 r_this rfl 2 (by decide) (List.mem_cons_of_mem _ m_322) rfl rfl d_M_placeFor_162 ?_
            refine g_iload (i := 8) hC d_M_placeFor_165 rfl ?_
            refine r_zld 2 hC (by decide) (by decide) rfl (fun _ => rfl) (by simp only [r_ln]; omega) d_M_placeFor_167 ?_
            rw [hJ.2.1 2 (by omega) (by omega)]
            refine g_if_eqN (tgt := 195) hC d_M_placeFor_168 (by decide) (by have := r_lt hb2 2 i; rw [hJ.2.1 2 (by omega) (by omega)] at this; exact this) (fun h168 => ?_) (fun h168 => ?_)
            · refine g_iinc (i := 8) (k := 9) (lo' := [(8, _), (9, _), (0, _), (1, _), (2, _), (3, _), (4, _), (5, _), (6, _), (7, _)]) hC d_M_placeFor_195 rfl (nI_inc _) (by decide) rfl ?_
              refine g_goto (tgt := 109) hC d_M_placeFor_198 (by decide) ?_
              refine g_los [2, 3, 4, 5, 6, 7, 8, 9, 0] rfl ?_
              exact ih2 (i + 1, τ2) ⟨by omega, hJ.2.1, hJ.2.2.1, hJ.2.2.2.skip (fun h => h.2.2.1 h168)⟩ (by dsimp only; omega)
            · refine g_aload_n (i := 0) hC d_M_placeFor_171 rfl rfl (Or.inr ⟨_, rfl⟩) ?_
              refine g_iload (i := 8) hC d_M_placeFor_172 rfl ?_
              refine g_calli hC (g_runV (q := 200) (As := [_]) (st := []) hC g_NOK_N (r_has l D S τ2 ad0 w0 i (by omega)) (t_cwV 1 hC.1.2.2.2.2 m_402 m_404 ms_15 m_6 k_M_has rfl rfl hd_M_has ⟨by decide, by decide⟩) r_this rfl rfl rfl (Nat.le_of_ble_eq_true rfl) d_M_placeFor_174 ⟨by decide, by decide⟩) (fun r174 => ?_)
              refine g_and (fun e174 => ?_)
              rw [pb_iff (mh_nw (by omega)).symm, hnw2] at e174
              subst e174
              refine g_if_neN (tgt := 195) hC d_M_placeFor_177 (by decide) (pb_le _) (fun h177 => ?_) (fun h177 => ?_)
              · have g177 := pb_1 h177
                refine g_iinc (i := 8) (k := 9) (lo' := [(8, _), (9, _), (0, _), (1, _), (2, _), (3, _), (4, _), (5, _), (6, _), (7, _)]) hC d_M_placeFor_195 rfl (nI_inc _) (by decide) rfl ?_
                refine g_goto (tgt := 109) hC d_M_placeFor_198 (by decide) ?_
                refine g_los [2, 3, 4, 5, 6, 7, 8, 9, 0] rfl ?_
                exact ih2 (i + 1, τ2) ⟨by omega, hJ.2.1, hJ.2.2.1, hJ.2.2.2.skip (fun h => h.2.2.2.2.2.2.1 (by unfold mh; exact g177))⟩ (by dsimp only; omega)
              · have g177 := pb_0 h177
                refine g_aload_n (i := 0) hC d_M_placeFor_180 rfl rfl (Or.inr ⟨_, rfl⟩) ?_
                refine g_iload (i := 8) hC d_M_placeFor_181 rfl ?_
                refine g_calli hC (g_runV (q := 200) (As := [_]) (st := []) hC g_NOK_N (r_covers l D S τ2 ad0 w0 i (by omega)) (t_cwV 1 hC.1.2.2.2.2 m_406 m_408 ms_16 m_6 k_M_covers rfl rfl hd_M_covers ⟨by decide, by decide⟩) r_this rfl rfl rfl (Nat.le_of_ble_eq_true rfl) d_M_placeFor_183 ⟨by decide, by decide⟩) (fun r183 => ?_)
                refine g_and (fun e183 => ?_)
                rw [pb_iff covers_iff, hnw2, hJ.2.1.cx] at e183
                subst e183
                refine g_if_eqN (tgt := 195) hC d_M_placeFor_186 (by decide) (pb_le _) (fun h186 => ?_) (fun h186 => ?_)
                · have g186 := pb_0 h186
                  refine g_iinc (i := 8) (k := 9) (lo' := [(8, _), (9, _), (0, _), (1, _), (2, _), (3, _), (4, _), (5, _), (6, _), (7, _)]) hC d_M_placeFor_195 rfl (nI_inc _) (by decide) rfl ?_
                  refine g_goto (tgt := 109) hC d_M_placeFor_198 (by decide) ?_
                  refine g_los [2, 3, 4, 5, 6, 7, 8, 9, 0] rfl ?_
                  exact ih2 (i + 1, τ2) ⟨by omega, hJ.2.1, hJ.2.2.1, hJ.2.2.2.skip (fun h => g186 h.2.2.2.2.2.2.2)⟩ (by dsimp only; omega)
                · have g186 := pb_1 h186
                  have hkn : i = x ∨ mh (s_vc σ site) i := Or.inl h124
                  have h18 : i < 18 := by omega
                  have hXi : MX (s_mk σ) (s_cx σ) i (dgw (σ 8 (3 * site) + 1) (σ 8 (3 * site + 1) + 1) k) := ⟨by rw [h124]; exact hX.1, g177, g186⟩
                  refine g_aload_n (i := 0) hC d_M_placeFor_189 rfl rfl (Or.inr ⟨_, rfl⟩) ?_
                  refine g_iload (i := 8) hC d_M_placeFor_190 rfl ?_
                  refine g_callv hC (g_runV (q := 200) (As := [_]) (st := []) hC g_NOK_N (r_settle l D S τ2 ad0 w0 i h18 (by rw [hJ.2.1 2 (by omega) (by omega)]; exact h168) (by rw [hnw2]; exact fun t => Nat.le_trans (hdle t) (hv6 t)) (by rw [hJ.2.1.mk, hJ.2.1.cx]; exact hH) (by rw [hJ.2.1.mk, hJ.2.1.cx, hnw2]; exact g118) (by rw [hJ.2.1.mk, hJ.2.1.cx, hnw2]; exact hXi) (by rw [hnw2]; exact SOK_of hJ.2.1 hH (by omega) (by omega) hv6 hdle g118 hXi hkn h168 h18 hJ.2.2.2) (by rw [hJ.2.1.pl, hnw2]; exact hBB _ _ g118 hXi)) (t_cwV 1 hC.1.2.2.2.2 m_410 m_412 ms_17 m_6 k_M_settle rfl rfl hd_M_settle ⟨by decide, by decide⟩) r_this rfl rfl rfl (Nat.le_of_ble_eq_true rfl) d_M_placeFor_192 ⟨by decide, by decide⟩) ?_
                  refine g_iinc (i := 8) (k := 9) (lo' := [(8, _), (9, _), (0, _), (1, _), (2, _), (3, _), (4, _), (5, _), (6, _), (7, _)]) hC d_M_placeFor_195 rfl (nI_inc _) (by decide) rfl ?_
                  refine g_goto (tgt := 109) hC d_M_placeFor_198 (by decide) ?_
                  refine g_los [2, 3, 4, 5, 6, 7, 8, 9, 0] rfl ?_
                  rw [hnw2, hJ.2.1.pl]
                  have h14' : u2 τ2 13 (343 * i + mvi (dgw (σ 8 (3 * site) + 1) (σ 8 (3 * site + 1) + 1) k)) (s_pl σ i (dgw (σ 8 (3 * site) + 1) (σ 8 (3 * site + 1) + 1) k)) 14 = τ1 14 := by
                    rw [u2_ne (by omega)]
                    exact hJ.2.2.1
                  exact ih2 (i + 1, u2 τ2 13 (343 * i + mvi (dgw (σ 8 (3 * site) + 1) (σ 8 (3 * site + 1) + 1) k)) (s_pl σ i (dgw (σ 8 (3 * site) + 1) (σ 8 (3 * site + 1) + 1) k))) ⟨by omega, hJ.2.1.u2 (Or.inl rfl), h14', hJ.2.2.2.put hv6 hv3 hdle⟩ (by dsimp only; omega)
        · refine g_iload (i := 8) hC d_M_placeFor_127 rfl ?_
          refine g_bipush (v := nI 6) hC d_M_placeFor_129 (by decide) ?_
          refine g_iremN hC d_M_placeFor_131 (by omega) (by omega) (by omega) ?_
          refine g_aload_n (i := 0) hC d_M_placeFor_132 rfl rfl (Or.inr ⟨_, rfl⟩) ?_
          refine g_get hC (fun x h => List.mem_cons_of_mem _ (in_M x h)) 200 r_this rfl 8 (by decide) (List.mem_cons_of_mem _ m_328) rfl rfl d_M_placeFor_133 ?_
          refine g_iconst (v := nI 3) hC d_M_placeFor_136 (by decide) ?_
          refine g_iload_n (i := 2) hC d_M_placeFor_137 rfl rfl ?_
          refine g_imulN hC d_M_placeFor_138 ?_
          refine g_iload (i := 8) hC d_M_placeFor_139 rfl ?_
          refine g_bipush (v := nI 6) hC d_M_placeFor_141 (by decide) ?_
          refine g_idivN hC d_M_placeFor_143 (by omega) (by omega) (by omega) ?_
          refine g_iaddN hC d_M_placeFor_144 ?_
          refine r_ld 8 hC (by decide) (by decide) rfl (fun _ => rfl) (by simp only [r_ln]; omega) d_M_placeFor_145 ?_
          rw [hJ.2.1 8 (by omega) (by omega)]
          refine g_icmp_geN (tgt := 153) hC d_M_placeFor_146 (by decide) (by omega) (by have := hv6 (i / 6); rw [s_vc_lt (by omega)] at this; omega) (fun h146 => ?_) (fun h146 => ?_)
          · refine g_iconst (v := nI 0) hC d_M_placeFor_153 (by decide) ?_
            refine g_istore (i := 9) (lo' := [(9, _), (0, _), (1, _), (2, _), (3, _), (4, _), (5, _), (6, _), (7, _), (8, _)]) hC d_M_placeFor_154 (by decide) rfl ?_
            refine g_iload (i := 9) hC d_M_placeFor_156 rfl ?_
            refine g_if_eqN (tgt := 195) hC d_M_placeFor_158 (by decide) (by decide) (fun h158 => ?_) (fun h158 => ?_)
            · refine g_iinc (i := 8) (k := 9) (lo' := [(8, _), (9, _), (0, _), (1, _), (2, _), (3, _), (4, _), (5, _), (6, _), (7, _)]) hC d_M_placeFor_195 rfl (nI_inc _) (by decide) rfl ?_
              refine g_goto (tgt := 109) hC d_M_placeFor_198 (by decide) ?_
              refine g_los [2, 3, 4, 5, 6, 7, 8, 9, 0] rfl ?_
              exact ih2 (i + 1, τ2) ⟨by omega, hJ.2.1, hJ.2.2.1, hJ.2.2.2.skip (fun h => h.2.1.elim h124 (fun q => absurd q (by unfold mh; rw [s_vc_lt (by omega)]; omega)))⟩ (by dsimp only; omega)
            · exact absurd rfl h158
          · refine g_iconst (v := nI 1) hC d_M_placeFor_149 (by decide) ?_
            refine g_goto (tgt := 154) hC d_M_placeFor_150 (by decide) ?_
            refine g_istore (i := 9) (lo' := [(9, _), (0, _), (1, _), (2, _), (3, _), (4, _), (5, _), (6, _), (7, _), (8, _)]) hC d_M_placeFor_154 (by decide) rfl ?_
            refine g_iload (i := 9) hC d_M_placeFor_156 rfl ?_
            refine g_if_eqN (tgt := 195) hC d_M_placeFor_158 (by decide) (by decide) (fun h158 => ?_) (fun h158 => ?_)
            · exact absurd h158 (by decide)
            · refine g_aload_n (i := 0) hC d_M_placeFor_161 rfl rfl (Or.inr ⟨_, rfl⟩) ?_
              refine g_get hC (fun x h => List.mem_cons_of_mem _ (in_M x h)) 200 r_this rfl 2 (by decide) (List.mem_cons_of_mem _ m_322) rfl rfl d_M_placeFor_162 ?_
              refine g_iload (i := 8) hC d_M_placeFor_165 rfl ?_
              refine r_zld 2 hC (by decide) (by decide) rfl (fun _ => rfl) (by simp only [r_ln]; omega) d_M_placeFor_167 ?_
              rw [hJ.2.1 2 (by omega) (by omega)]
              refine g_if_eqN (tgt := 195) hC d_M_placeFor_168 (by decide) (by have := r_lt hb2 2 i; rw [hJ.2.1 2 (by omega) (by omega)] at this; exact this) (fun h168 => ?_) (fun h168 => ?_)
              · refine g_iinc (i := 8) (k := 9) (lo' := [(8, _), (9, _), (0, _), (1, _), (2, _), (3, _), (4, _), (5, _), (6, _), (7, _)]) hC d_M_placeFor_195 rfl (nI_inc _) (by decide) rfl ?_
                refine g_goto (tgt := 109) hC d_M_placeFor_198 (by decide) ?_
                refine g_los [2, 3, 4, 5, 6, 7, 8, 9, 0] rfl ?_
                exact ih2 (i + 1, τ2) ⟨by omega, hJ.2.1, hJ.2.2.1, hJ.2.2.2.skip (fun h => h.2.2.1 h168)⟩ (by dsimp only; omega)
              · refine g_aload_n (i := 0) hC d_M_placeFor_171 rfl rfl (Or.inr ⟨_, rfl⟩) ?_
                refine g_iload (i := 8) hC d_M_placeFor_172 rfl ?_
                refine g_calli hC (g_runV (q := 200) (As := [_]) (st := []) hC g_NOK_N (r_has l D S τ2 ad0 w0 i (by omega)) (t_cwV 1 hC.1.2.2.2.2 m_402 m_404 ms_15 m_6 k_M_has rfl rfl hd_M_has ⟨by decide, by decide⟩) r_this rfl rfl rfl (Nat.le_of_ble_eq_true rfl) d_M_placeFor_174 ⟨by decide, by decide⟩) (fun r174 => ?_)
                refine g_and (fun e174 => ?_)
                rw [pb_iff (mh_nw (by omega)).symm, hnw2] at e174
                subst e174
                refine g_if_neN (tgt := 195) hC d_M_placeFor_177 (by decide) (pb_le _) (fun h177 => ?_) (fun h177 => ?_)
                · have g177 := pb_1 h177
                  refine g_iinc (i := 8) (k := 9) (lo' := [(8, _), (9, _), (0, _), (1, _), (2, _), (3, _), (4, _), (5, _), (6, _), (7, _)]) hC d_M_placeFor_195 rfl (nI_inc _) (by decide) rfl ?_
                  refine g_goto (tgt := 109) hC d_M_placeFor_198 (by decide) ?_
                  refine g_los [2, 3, 4, 5, 6, 7, 8, 9, 0] rfl ?_
                  exact ih2 (i + 1, τ2) ⟨by omega, hJ.2.1, hJ.2.2.1, hJ.2.2.2.skip (fun h => h.2.2.2.2.2.2.1 (by unfold mh; exact g177))⟩ (by dsimp only; omega)
                · have g177 := pb_0 h177
                  refine g_aload_n (i := 0) hC d_M_placeFor_180 rfl rfl (Or.inr ⟨_, rfl⟩) ?_
                  refine g_iload (i := 8) hC d_M_placeFor_181 rfl ?_
                  refine g_calli hC (g_runV (q := 200) (As := [_]) (st := []) hC g_NOK_N (r_covers l D S τ2 ad0 w0 i (by omega)) (t_cwV 1 hC.1.2.2.2.2 m_406 m_408 ms_16 m_6 k_M_covers rfl rfl hd_M_covers ⟨by decide, by decide⟩) r_this rfl rfl rfl (Nat.le_of_ble_eq_true rfl) d_M_placeFor_183 ⟨by decide, by decide⟩) (fun r183 => ?_)
                  refine g_and (fun e183 => ?_)
                  rw [pb_iff covers_iff, hnw2, hJ.2.1.cx] at e183
                  subst e183
                  refine g_if_eqN (tgt := 195) hC d_M_placeFor_186 (by decide) (pb_le _) (fun h186 => ?_) (fun h186 => ?_)
                  · have g186 := pb_0 h186
                    refine g_iinc (i := 8) (k := 9) (lo' := [(8, _), (9, _), (0, _), (1, _), (2, _), (3, _), (4, _), (5, _), (6, _), (7, _)]) hC d_M_placeFor_195 rfl (nI_inc _) (by decide) rfl ?_
                    refine g_goto (tgt := 109) hC d_M_placeFor_198 (by decide) ?_
                    refine g_los [2, 3, 4, 5, 6, 7, 8, 9, 0] rfl ?_
                    exact ih2 (i + 1, τ2) ⟨by omega, hJ.2.1, hJ.2.2.1, hJ.2.2.2.skip (fun h => g186 h.2.2.2.2.2.2.2)⟩ (by dsimp only; omega)
                  · have g186 := pb_1 h186
                    have hkn : i = x ∨ mh (s_vc σ site) i := Or.inr (by unfold mh; rw [s_vc_lt (by omega)]; exact h146)
                    have h18 : i < 18 := by omega
                    have hXi : MX (s_mk σ) (s_cx σ) i (dgw (σ 8 (3 * site) + 1) (σ 8 (3 * site + 1) + 1) k) := ⟨hM.made (hkn.elim (fun q => absurd q h124) id), g177, g186⟩
                    refine g_aload_n (i := 0) hC d_M_placeFor_189 rfl rfl (Or.inr ⟨_, rfl⟩) ?_
                    refine g_iload (i := 8) hC d_M_placeFor_190 rfl ?_
                    refine g_callv hC (g_runV (q := 200) (As := [_]) (st := []) hC g_NOK_N (r_settle l D S τ2 ad0 w0 i h18 (by rw [hJ.2.1 2 (by omega) (by omega)]; exact h168) (by rw [hnw2]; exact fun t => Nat.le_trans (hdle t) (hv6 t)) (by rw [hJ.2.1.mk, hJ.2.1.cx]; exact hH) (by rw [hJ.2.1.mk, hJ.2.1.cx, hnw2]; exact g118) (by rw [hJ.2.1.mk, hJ.2.1.cx, hnw2]; exact hXi) (by rw [hnw2]; exact SOK_of hJ.2.1 hH (by omega) (by omega) hv6 hdle g118 hXi hkn h168 h18 hJ.2.2.2) (by rw [hJ.2.1.pl, hnw2]; exact hBB _ _ g118 hXi)) (t_cwV 1 hC.1.2.2.2.2 m_410 m_412 ms_17 m_6 k_M_settle rfl rfl hd_M_settle ⟨by decide, by decide⟩) r_this rfl rfl rfl (Nat.le_of_ble_eq_true rfl) d_M_placeFor_192 ⟨by decide, by decide⟩) ?_
                    refine g_iinc (i := 8) (k := 9) (lo' := [(8, _), (9, _), (0, _), (1, _), (2, _), (3, _), (4, _), (5, _), (6, _), (7, _)]) hC d_M_placeFor_195 rfl (nI_inc _) (by decide) rfl ?_
                    refine g_goto (tgt := 109) hC d_M_placeFor_198 (by decide) ?_
                    refine g_los [2, 3, 4, 5, 6, 7, 8, 9, 0] rfl ?_
                    rw [hnw2, hJ.2.1.pl]
                    have h14' : u2 τ2 13 (343 * i + mvi (dgw (σ 8 (3 * site) + 1) (σ 8 (3 * site + 1) + 1) k)) (s_pl σ i (dgw (σ 8 (3 * site) + 1) (σ 8 (3 * site + 1) + 1) k)) 14 = τ1 14 := by
                      rw [u2_ne (by omega)]
                      exact hJ.2.2.1
                    exact ih2 (i + 1, u2 τ2 13 (343 * i + mvi (dgw (σ 8 (3 * site) + 1) (σ 8 (3 * site + 1) + 1) k)) (s_pl σ i (dgw (σ 8 (3 * site) + 1) (σ 8 (3 * site + 1) + 1) k))) ⟨by omega, hJ.2.1.u2 (Or.inl rfl), h14', hJ.2.2.2.put hv6 hv3 hdle⟩ (by dsimp only; omega)
