def mvi (v : Nat → Nat) : Nat := v 0 + 7 * v 1 + 49 * v 2
theorem u2_u2 {σ : rS} {k j a b : Nat} (h : b = σ k j) : u2 (u2 σ k j a) k j b = σ := by
  funext k' j'
  unfold u2
  split
  · rename_i q
    rw [q.1, q.2, h]
  · rfl
theorem mvi_nw {σ : rS} : mvi (s_nw σ) = σ 14 0 + 7 * σ 14 1 + 49 * σ 14 2 := rfl
theorem mvi_dn {σ : rS} {t : Nat} (ht : t < 3) : u2 σ 14 t (σ 14 t - 1) 14 0 + 7 * u2 σ 14 t (σ 14 t - 1) 14 1 + 49 * u2 σ 14 t (σ 14 t - 1) 14 2 = mvi (md (s_nw σ) t) := by
  unfold mvi md
  rw [u2_in, u2_in, u2_in, s_nw_lt (t := 0) (by omega), s_nw_lt (t := 1) (by omega), s_nw_lt (t := 2) (by omega)]
  rcases (show t = 0 ∨ t = 1 ∨ t = 2 by omega) with rfl | rfl | rfl <;> simp
theorem mvi_le {v : Nat → Nat} (h : ∀ t, v t ≤ 6) : mvi v ≤ 342 := by
  unfold mvi
  have := h 0
  have := h 1
  have := h 2
  omega
/-- what settle(x) finds in its row of places -/
def SOK (σ : rS) (x : Nat) (v : Nat → Nat) : Prop := ∀ t, t < 3 → mcand (s_cx σ) x v t → σ 13 (343 * x + mvi (md v t)) = s_pl σ x (md v t) ∧ (σ 2 (mtop v t) ≠ 0 → σ 13 (343 * mtop v t + mvi (md v t)) = s_pl σ (mtop v t) (md v t))
set_option maxRecDepth 100000 in
set_option maxHeartbeats 4000000 in
theorem r_settle (l : Launch) (D : va_G) (S : Nat) (σ : rS) (ad0 : Nat → Nat) (w0 : gW) (x : Nat) (hx : x < 18) (hi : σ 2 x ≠ 0) (h6 : ∀ t, s_nw σ t ≤ 6) (hH : MH (s_mk σ) (s_cx σ)) (hM : MC (s_mk σ) (s_cx σ) (s_nw σ)) (hX : MX (s_mk σ) (s_cx σ) x (s_nw σ)) (hP : SOK σ x (s_nw σ)) (hB : s_pl σ x (s_nw σ) < 1000) : g_M l y_M_settle w_M_settle (rk 2) D gCl g_N [.ref (ad0 200), .int (nI x)] (RX S σ ad0 w0) 0 0 (fun A => g_Qv D gCl A (fun ad w => RX S (u2 σ 13 (343 * x + mvi (s_nw σ)) (s_pl σ x (s_nw σ))) ad0 w0 ad w)) := by
  refine g_of (cc := c_M_settle) (nL := 5) (ret := none) (by decide) rfl (Nat.le_of_ble_eq_true rfl) ?_
  intro pp ee ss mm bb me cc A hC hr hlk hnm
  refine g_los [0, 1] (lo' := [(0, .ref (ad0 200)), (1, .int (nI x))]) rfl ?_
  refine g_pure r_bl_of (fun hb => ?_)
  refine g_aload_n (i := 0) hC d_M_settle_0 rfl rfl (Or.inr ⟨_, rfl⟩) ?_
  refine g_iload_n (i := 1) hC d_M_settle_1 rfl rfl ?_
  refine g_calli hC (g_runV (q := 200) (As := [_]) (st := []) hC g_NOK_N (r_last l D S σ ad0 w0 x hx) (t_cwV 1 hC.1.2.2.2.2 m_414 m_416 ms_18 m_6 k_M_last rfl rfl hd_M_last ⟨by decide, by decide⟩) r_this rfl rfl rfl (Nat.le_of_ble_eq_true rfl) d_M_settle_2 ⟨by decide, by decide⟩) (fun r2 => ?_)
  refine g_and (fun e2 => ?_)
  rcases e2 with ⟨rfl, hn⟩ | ⟨t, ht, rfl, hc⟩
  · have hval : σ 3 x = s_pl σ x (s_nw σ) := (mplace_none (mf_not hn)).symm
    refine g_istore_n (i := 2) (lo' := [(2, _), (0, _), (1, _)]) hC d_M_settle_5 rfl (by decide) rfl ?_
    refine g_aload_n (i := 0) hC d_M_settle_6 rfl rfl (Or.inr ⟨_, rfl⟩) ?_
    refine g_get hC (fun x h => List.mem_cons_of_mem _ (in_M x h)) 200 r_this rfl 3 (by decide) (List.mem_cons_of_mem _ m_323) rfl rfl d_M_settle_7 ?_
    refine g_iload_n (i := 1) hC d_M_settle_10 rfl rfl ?_
    refine r_ld 3 hC (by decide) (by decide) rfl (fun _ => rfl) (by simp only [r_ln]; omega) d_M_settle_11 ?_
    refine g_istore_n (i := 3) (lo' := [(3, _), (2, _), (0, _), (1, _)]) hC d_M_settle_12 rfl (by decide) rfl ?_
    refine g_iload_n (i := 2) hC d_M_settle_13 rfl rfl ?_
    refine g_if_lt (tgt := 103) hC d_M_settle_14 (by decide) (fun h14 => ?_) (fun h14 => ?_)
    · refine g_aload_n (i := 0) hC d_M_settle_103 rfl rfl (Or.inr ⟨_, rfl⟩) ?_
      refine g_get hC (fun x h => List.mem_cons_of_mem _ (in_M x h)) 200 r_this rfl 13 (by decide) (List.mem_cons_of_mem _ m_333) rfl rfl d_M_settle_104 ?_
      refine g_aload_n (i := 0) hC d_M_settle_107 rfl rfl (Or.inr ⟨_, rfl⟩) ?_
      refine g_iload_n (i := 1) hC d_M_settle_108 rfl rfl ?_
      refine g_calli hC (g_runV (q := 200) (As := [_]) (st := [_]) hC g_NOK_N (r_index l D S σ ad0 w0 x hx) (t_cwV 1 hC.1.2.2.2.2 m_418 m_420 ms_19 m_6 k_M_index rfl rfl hd_M_index ⟨by decide, by decide⟩) r_this rfl rfl rfl (Nat.le_of_ble_eq_true rfl) d_M_settle_109 ⟨by decide, by decide⟩) (fun r109 => ?_)
      refine g_and (fun e109 => ?_)
      rw [Nat.add_assoc, Nat.add_assoc, ← Nat.add_assoc (σ 14 0), ← mvi_nw] at e109
      subst e109
      refine g_iload_n (i := 3) hC d_M_settle_112 rfl rfl ?_
      refine r_st 13 hC (by decide) (by decide) rfl (fun _ => rfl) (by decide) (by rw [hval]; exact hB) (by have := mvi_le h6; simp only [r_ln]; omega) d_M_settle_113 ?_
      refine g_vret hC hr hlk d_M_settle_114 (by decide) (by decide) (fun ad w hw => ?_)
      rw [← hval]
      exact hw
    · exact absurd (by decide +kernel) h14
  · have h60 := h6 0
    have h61 := h6 1
    have h62 := h6 2
    rw [s_nw_lt (by omega)] at h60 h61 h62
    have h6t := h6 t
    rw [s_nw_lt ht] at h6t
    have hpos := hc.2.2.1
    rw [s_nw_lt ht] at hpos
    have hye : 6 * t + σ 14 t - 1 = mtop (s_nw σ) t := by
      unfold mtop
      rw [s_nw_lt ht]
      omega
    have hyd : (6 * t + σ 14 t - 1) / 6 = t := by omega
    obtain ⟨hP1, hP2⟩ := hP t ht hc
    have hvi := mvi_le (v := md (s_nw σ) t) (fun j => by
      have := h6 j
      unfold md
      split <;> omega)
    have hpl : s_pl σ x (s_nw σ) = mmv (σ 2 x) (x / 6) (s_pl σ x (md (s_nw σ) t)) (σ 2 (mtop (s_nw σ) t)) t (s_pl σ (mtop (s_nw σ) t) (md (s_nw σ) t)) := mplace_any (ins := σ 2) (pos := σ 3) hH _ (s_nw σ) x t rfl hM hX hc
    rw [← hye] at hP2 hpl
    have hx1 : σ 2 x = 1 := by
      have := (hb 2 x).2 (by decide)
      omega
    refine g_istore_n (i := 2) (lo' := [(2, _), (0, _), (1, _)]) hC d_M_settle_5 rfl (by decide) rfl ?_
    refine g_aload_n (i := 0) hC d_M_settle_6 rfl rfl (Or.inr ⟨_, rfl⟩) ?_
    refine g_get hC (fun x h => List.mem_cons_of_mem _ (in_M x h)) 200 r_this rfl 3 (by decide) (List.mem_cons_of_mem _ m_323) rfl rfl d_M_settle_7 ?_
    refine g_iload_n (i := 1) hC d_M_settle_10 rfl rfl ?_
    refine r_ld 3 hC (by decide) (by decide) rfl (fun _ => rfl) (by simp only [r_ln]; omega) d_M_settle_11 ?_
    refine g_istore_n (i := 3) (lo' := [(3, _), (2, _), (0, _), (1, _)]) hC d_M_settle_12 rfl (by decide) rfl ?_
    refine g_iload_n (i := 2) hC d_M_settle_13 rfl rfl ?_
    refine g_if_ltN (tgt := 103) hC d_M_settle_14 (by decide) (by first | omega | exact r_lt hb _ _ | exact pb_le _) ?_
    refine g_bipush (v := nI 6) hC d_M_settle_17 (by decide) ?_
    refine g_iload_n (i := 2) hC d_M_settle_19 rfl rfl ?_
    refine g_imulN hC d_M_settle_20 ?_
    refine g_aload_n (i := 0) hC d_M_settle_21 rfl rfl (Or.inr ⟨_, rfl⟩) ?_
    refine g_get hC (fun x h => List.mem_cons_of_mem _ (in_M x h)) 200 r_this rfl 14 (by decide) (List.mem_cons_of_mem _ m_334) rfl rfl d_M_settle_22 ?_
    refine g_iload_n (i := 2) hC d_M_settle_25 rfl rfl ?_
    refine r_ld 14 hC (by decide) (by decide) rfl (fun _ => rfl) (by simp only [r_ln]; omega) d_M_settle_26 ?_
    refine g_iaddN hC d_M_settle_27 ?_
    refine g_iconst (v := nI 1) hC d_M_settle_28 (by decide) ?_
    refine g_isubN hC d_M_settle_29 (by omega) ?_
    refine g_istore (i := 4) (lo' := [(4, _), (3, _), (2, _), (0, _), (1, _)]) hC d_M_settle_30 (by decide) rfl ?_
    refine g_aload_n (i := 0) hC d_M_settle_32 rfl rfl (Or.inr ⟨_, rfl⟩) ?_
    refine g_get hC (fun x h => List.mem_cons_of_mem _ (in_M x h)) 200 r_this rfl 14 (by decide) (List.mem_cons_of_mem _ m_334) rfl rfl d_M_settle_33 ?_
    refine g_iload_n (i := 2) hC d_M_settle_36 rfl rfl ?_
    refine g_dup2 hC d_M_settle_37 rfl rfl ?_
    refine r_ld 14 hC (by decide) (by decide) rfl (fun _ => rfl) (by simp only [r_ln]; omega) d_M_settle_38 ?_
    refine g_iconst (v := nI 1) hC d_M_settle_39 (by decide) ?_
    refine g_isubN hC d_M_settle_40 (by omega) ?_
    refine r_st 14 hC (by decide) (by decide) rfl (fun _ => rfl) (by decide) (by omega) (by simp only [r_ln]; omega) d_M_settle_41 ?_
    refine g_pure r_bl_of (fun hb1 => ?_)
    refine g_aload_n (i := 0) hC d_M_settle_42 rfl rfl (Or.inr ⟨_, rfl⟩) ?_
    refine g_get hC (fun x h => List.mem_cons_of_mem _ (in_M x h)) 200 r_this rfl 2 (by decide) (List.mem_cons_of_mem _ m_322) rfl rfl d_M_settle_43 ?_
    refine g_iload (i := 4) hC d_M_settle_46 rfl ?_
    refine r_zld 2 hC (by decide) (by decide) rfl (fun _ => rfl) (by simp only [r_ln]; omega) d_M_settle_48 ?_
    rw [u2_ne (a := 2) (by decide)]
    refine g_if_eqN (tgt := 82) hC d_M_settle_49 (by decide) (by first | omega | exact r_lt hb _ _ | exact pb_le _) (fun h49 => ?_) (fun h49 => ?_)
    · refine g_aload_n (i := 0) hC d_M_settle_82 rfl rfl (Or.inr ⟨_, rfl⟩) ?_
      refine g_get hC (fun x h => List.mem_cons_of_mem _ (in_M x h)) 200 r_this rfl 13 (by decide) (List.mem_cons_of_mem _ m_333) rfl rfl d_M_settle_83 ?_
      refine g_aload_n (i := 0) hC d_M_settle_86 rfl rfl (Or.inr ⟨_, rfl⟩) ?_
      refine g_iload_n (i := 1) hC d_M_settle_87 rfl rfl ?_
      refine g_calli hC (g_runV (q := 200) (As := [_]) (st := [_]) hC g_NOK_N (r_index l D S (u2 σ 14 t (σ 14 t - 1)) ad0 w0 x hx) (t_cwV 1 hC.1.2.2.2.2 m_418 m_420 ms_19 m_6 k_M_index rfl rfl hd_M_index ⟨by decide, by decide⟩) r_this rfl rfl rfl (Nat.le_of_ble_eq_true rfl) d_M_settle_88 ⟨by decide, by decide⟩) (fun r88 => ?_)
      refine g_and (fun e => ?_)
      rw [Nat.add_assoc, Nat.add_assoc, ← Nat.add_assoc (u2 σ 14 t (σ 14 t - 1) 14 0), mvi_dn ht] at e
      subst e
      refine r_ld 13 hC (by decide) (by decide) rfl (fun _ => rfl) (by simp only [r_ln]; omega) d_M_settle_91 ?_
      rw [u2_ne (a := 13) (by decide), hP1]
      have hval : s_pl σ x (md (s_nw σ) t) = s_pl σ x (s_nw σ) := by
        rw [hpl, mmv_0 h49]
      refine g_istore_n (i := 3) (lo' := [(3, _), (4, _), (2, _), (0, _), (1, _)]) hC d_M_settle_92 rfl (by decide) rfl ?_
      refine g_aload_n (i := 0) hC d_M_settle_93 rfl rfl (Or.inr ⟨_, rfl⟩) ?_
      refine g_get hC (fun x h => List.mem_cons_of_mem _ (in_M x h)) 200 r_this rfl 14 (by decide) (List.mem_cons_of_mem _ m_334) rfl rfl d_M_settle_94 ?_
      refine g_iload_n (i := 2) hC d_M_settle_97 rfl rfl ?_
      refine g_dup2 hC d_M_settle_98 rfl rfl ?_
      refine r_ld 14 hC (by decide) (by decide) rfl (fun _ => rfl) (by simp only [r_ln]; omega) d_M_settle_99 ?_
      refine g_iconst (v := nI 1) hC d_M_settle_100 (by decide) ?_
      refine g_iaddN hC d_M_settle_101 ?_
      refine r_st 14 hC (by decide) (by decide) rfl (fun _ => rfl) (by decide) (by rw [u2_self]; omega) (by simp only [r_ln]; omega) d_M_settle_102 ?_
      have e93 : u2 (u2 σ 14 t (σ 14 t - 1)) 14 t (u2 σ 14 t (σ 14 t - 1) 14 t + 1) = σ := u2_u2 (by rw [u2_self]; omega)
      rw [e93]
      refine g_aload_n (i := 0) hC d_M_settle_103 rfl rfl (Or.inr ⟨_, rfl⟩) ?_
      refine g_get hC (fun x h => List.mem_cons_of_mem _ (in_M x h)) 200 r_this rfl 13 (by decide) (List.mem_cons_of_mem _ m_333) rfl rfl d_M_settle_104 ?_
      refine g_aload_n (i := 0) hC d_M_settle_107 rfl rfl (Or.inr ⟨_, rfl⟩) ?_
      refine g_iload_n (i := 1) hC d_M_settle_108 rfl rfl ?_
      refine g_calli hC (g_runV (q := 200) (As := [_]) (st := [_]) hC g_NOK_N (r_index l D S σ ad0 w0 x hx) (t_cwV 1 hC.1.2.2.2.2 m_418 m_420 ms_19 m_6 k_M_index rfl rfl hd_M_index ⟨by decide, by decide⟩) r_this rfl rfl rfl (Nat.le_of_ble_eq_true rfl) d_M_settle_109 ⟨by decide, by decide⟩) (fun r109 => ?_)
      refine g_and (fun e109 => ?_)
      rw [Nat.add_assoc, Nat.add_assoc, ← Nat.add_assoc (σ 14 0), ← mvi_nw] at e109
      subst e109
      refine g_iload_n (i := 3) hC d_M_settle_112 rfl rfl ?_
      refine r_st 13 hC (by decide) (by decide) rfl (fun _ => rfl) (by decide) (by rw [hval]; exact hB) (by have := mvi_le h6; simp only [r_ln]; omega) d_M_settle_113 ?_
      refine g_vret hC hr hlk d_M_settle_114 (by decide) (by decide) (fun ad w hw => ?_)
      rw [← hval]
      exact hw
    · refine g_iload_n (i := 1) hC d_M_settle_52 rfl rfl ?_
      refine g_aload_n (i := 0) hC d_M_settle_53 rfl rfl (Or.inr ⟨_, rfl⟩) ?_
      refine g_get hC (fun x h => List.mem_cons_of_mem _ (in_M x h)) 200 r_this rfl 13 (by decide) (List.mem_cons_of_mem _ m_333) rfl rfl d_M_settle_54 ?_
      refine g_aload_n (i := 0) hC d_M_settle_57 rfl rfl (Or.inr ⟨_, rfl⟩) ?_
      refine g_iload_n (i := 1) hC d_M_settle_58 rfl rfl ?_
      refine g_calli hC (g_runV (q := 200) (As := [_]) (st := [_, _]) hC g_NOK_N (r_index l D S (u2 σ 14 t (σ 14 t - 1)) ad0 w0 x hx) (t_cwV 1 hC.1.2.2.2.2 m_418 m_420 ms_19 m_6 k_M_index rfl rfl hd_M_index ⟨by decide, by decide⟩) r_this rfl rfl rfl (Nat.le_of_ble_eq_true rfl) d_M_settle_59 ⟨by decide, by decide⟩) (fun r59 => ?_)
      refine g_and (fun e => ?_)
      rw [Nat.add_assoc, Nat.add_assoc, ← Nat.add_assoc (u2 σ 14 t (σ 14 t - 1) 14 0), mvi_dn ht] at e
      subst e
      refine r_ld 13 hC (by decide) (by decide) rfl (fun _ => rfl) (by simp only [r_ln]; omega) d_M_settle_62 ?_
      rw [u2_ne (a := 13) (by decide), hP1]
      refine g_iload (i := 4) hC d_M_settle_63 rfl ?_
      refine g_aload_n (i := 0) hC d_M_settle_65 rfl rfl (Or.inr ⟨_, rfl⟩) ?_
      refine g_get hC (fun x h => List.mem_cons_of_mem _ (in_M x h)) 200 r_this rfl 13 (by decide) (List.mem_cons_of_mem _ m_333) rfl rfl d_M_settle_66 ?_
      refine g_aload_n (i := 0) hC d_M_settle_69 rfl rfl (Or.inr ⟨_, rfl⟩) ?_
      refine g_iload (i := 4) hC d_M_settle_70 rfl ?_
      refine g_calli hC (g_runV (q := 200) (As := [_]) (st := [_, _, _, _]) hC g_NOK_N (r_index l D S (u2 σ 14 t (σ 14 t - 1)) ad0 w0 (6 * t + σ 14 t - 1) (by omega)) (t_cwV 1 hC.1.2.2.2.2 m_418 m_420 ms_19 m_6 k_M_index rfl rfl hd_M_index ⟨by decide, by decide⟩) r_this rfl rfl rfl (Nat.le_of_ble_eq_true rfl) d_M_settle_72 ⟨by decide, by decide⟩) (fun r72 => ?_)
      refine g_and (fun e => ?_)
      rw [Nat.add_assoc, Nat.add_assoc, ← Nat.add_assoc (u2 σ 14 t (σ 14 t - 1) 14 0), mvi_dn ht] at e
      subst e
      refine r_ld 13 hC (by decide) (by decide) rfl (fun _ => rfl) (by simp only [r_ln]; omega) d_M_settle_75 ?_
      rw [u2_ne (a := 13) (by decide), hP2 h49]
      refine g_calli hC (g_runS (As := [_, _, _, _]) (st := []) hC g_NOK_N (r_moved l D S (u2 σ 14 t (σ 14 t - 1)) ad0 w0 x (s_pl σ x (md (s_nw σ) t)) (6 * t + σ 14 t - 1) (s_pl σ (6 * t + σ 14 t - 1) (md (s_nw σ) t)) hx (hP1 ▸ r_lt1 hb _ _) (by omega) (hP2 h49 ▸ r_lt1 hb _ _)) (t_cwS 4 hC.1.2.2.2.2 m_422 m_423 m_6 k_M_moved rfl rfl hd_M_moved ⟨by decide, by decide⟩) rfl rfl (Nat.le_of_ble_eq_true rfl) d_M_settle_76 ⟨by decide, by decide⟩) (fun r76 => ?_)
      refine g_and (fun e76 => ?_)
      subst e76
      refine g_goto (tgt := 92) hC d_M_settle_79 (by decide) ?_
      have hval : mmv 1 (x / 6) (s_pl σ x (md (s_nw σ) t)) 1 ((6 * t + σ 14 t - 1) / 6) (s_pl σ (6 * t + σ 14 t - 1) (md (s_nw σ) t)) = s_pl σ x (s_nw σ) := by
        rw [hpl, hx1, hyd]
        have := (hb 2 (6 * t + σ 14 t - 1)).2 (by decide)
        rw [show σ 2 (6 * t + σ 14 t - 1) = 1 by omega]
      refine g_istore_n (i := 3) (lo' := [(3, _), (4, _), (2, _), (0, _), (1, _)]) hC d_M_settle_92 rfl (by decide) rfl ?_
      refine g_aload_n (i := 0) hC d_M_settle_93 rfl rfl (Or.inr ⟨_, rfl⟩) ?_
      refine g_get hC (fun x h => List.mem_cons_of_mem _ (in_M x h)) 200 r_this rfl 14 (by decide) (List.mem_cons_of_mem _ m_334) rfl rfl d_M_settle_94 ?_
      refine g_iload_n (i := 2) hC d_M_settle_97 rfl rfl ?_
      refine g_dup2 hC d_M_settle_98 rfl rfl ?_
      refine r_ld 14 hC (by decide) (by decide) rfl (fun _ => rfl) (by simp only [r_ln]; omega) d_M_settle_99 ?_
      refine g_iconst (v := nI 1) hC d_M_settle_100 (by decide) ?_
      refine g_iaddN hC d_M_settle_101 ?_
      refine r_st 14 hC (by decide) (by decide) rfl (fun _ => rfl) (by decide) (by rw [u2_self]; omega) (by simp only [r_ln]; omega) d_M_settle_102 ?_
      have e93 : u2 (u2 σ 14 t (σ 14 t - 1)) 14 t (u2 σ 14 t (σ 14 t - 1) 14 t + 1) = σ := u2_u2 (by rw [u2_self]; omega)
      rw [e93]
      refine g_aload_n (i := 0) hC d_M_settle_103 rfl rfl (Or.inr ⟨_, rfl⟩) ?_
      refine g_get hC (fun x h => List.mem_cons_of_mem _ (in_M x h)) 200 r_this rfl 13 (by decide) (List.mem_cons_of_mem _ m_333) rfl rfl d_M_settle_104 ?_
      refine g_aload_n (i := 0) hC d_M_settle_107 rfl rfl (Or.inr ⟨_, rfl⟩) ?_
      refine g_iload_n (i := 1) hC d_M_settle_108 rfl rfl ?_
      refine g_calli hC (g_runV (q := 200) (As := [_]) (st := [_]) hC g_NOK_N (r_index l D S σ ad0 w0 x hx) (t_cwV 1 hC.1.2.2.2.2 m_418 m_420 ms_19 m_6 k_M_index rfl rfl hd_M_index ⟨by decide, by decide⟩) r_this rfl rfl rfl (Nat.le_of_ble_eq_true rfl) d_M_settle_109 ⟨by decide, by decide⟩) (fun r109 => ?_)
      refine g_and (fun e109 => ?_)
      rw [Nat.add_assoc, Nat.add_assoc, ← Nat.add_assoc (σ 14 0), ← mvi_nw] at e109
      subst e109
      refine g_iload_n (i := 3) hC d_M_settle_112 rfl rfl ?_
      refine r_st 13 hC (by decide) (by decide) rfl (fun _ => rfl) (by decide) (by rw [hval]; exact hB) (by have := mvi_le h6; simp only [r_ln]; omega) d_M_settle_113 ?_
      refine g_vret hC hr hlk d_M_settle_114 (by decide) (by decide) (fun ad w hw => ?_)
      rw [← hval]
      exact hw
