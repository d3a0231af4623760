theorem nI_dec1 (a : Nat) : nI a + Int32.ofInt (-1) = nI a - 1 := by
  rw [Int32.sub_eq_add_neg]
  rfl
theorem nI_m1 : ((-1 : Int32)) = nI 0 - 1 := by decide +kernel
theorem nI_m1lt : nI 0 - 1 < 0 := by decide +kernel
theorem s_nw_lt {σ : rS} {t : Nat} (h : t < 3) : s_nw σ t = σ 14 t := if_pos h
theorem s_cx_lt {σ : rS} {o t : Nat} (h : t < 3) : s_cx σ o t = σ 5 (3 * o + t) := if_pos h
theorem s_vc_lt {σ : rS} {s t : Nat} (h : t < 3) : s_vc σ s t = σ 8 (3 * s + t) := if_pos h
theorem s_mk_lt {σ : rS} {t : Nat} (h : t < 3) : s_mk σ t = σ 1 t := if_pos h
theorem mh_nw {σ : rS} {o : Nat} (ho : o < 18) : mh (s_nw σ) o ↔ o % 6 < σ 14 (o / 6) := by
  unfold mh
  rw [s_nw_lt (by omega)]
theorem cand_iff {σ : rS} {x t : Nat} (ht : t < 3) : mcand (s_cx σ) x (s_nw σ) t ↔ σ 5 (3 * x + t) < σ 14 t ∧ ∀ o, o < 18 → o % 6 < σ 14 (o / 6) → σ 5 (3 * o + t) < σ 14 t := by
  unfold mcand mmx
  rw [s_nw_lt ht, s_cx_lt ht]
  constructor
  · rintro ⟨a, -, -, b⟩
    exact ⟨a, fun o ho h => by
      have := b o ho ((mh_nw ho).mpr h)
      rw [s_cx_lt ht] at this
      exact this⟩
  · rintro ⟨a, b⟩
    exact ⟨a, ht, by omega, fun o ho h => by
      rw [s_cx_lt ht]
      exact b o ho ((mh_nw ho).mp h)⟩
set_option maxRecDepth 100000 in
set_option maxHeartbeats 4000000 in
theorem r_last (l : Launch) (D : va_G) (S : Nat) (σ : rS) (ad0 : Nat → Nat) (w0 : gW) (x : Nat) (hx : x < 18) : g_M l y_M_last w_M_last (rk 1) D gCl g_N [.ref (ad0 200), .int (nI x)] (RX S σ ad0 w0) 0 0 (fun A => g_Qi D gCl A (fun r ad w => ((r = -1 ∧ ∀ t, t < 3 → ¬ mcand (s_cx σ) x (s_nw σ) t) ∨ ∃ t, t < 3 ∧ r = nI t ∧ mcand (s_cx σ) x (s_nw σ) t) ∧ RX S σ ad0 w0 ad w)) := by
  refine g_of (cc := c_M_last) (nL := 5) (ret := some .int) (by decide) rfl (Nat.le_of_ble_eq_true rfl) ?_
  intro pp ee ss mm bb me cc A hC hr hlk hnm
  refine g_los [0, 1] (lo' := [(0, .ref (ad0 200)), (1, .int (nI x))]) rfl ?_
  refine g_pure r_bl_of (fun hb => ?_)
  refine g_iconst (v := nI 3 - 1) hC d_M_last_0 (by decide +kernel) ?_
  refine g_istore_n (i := 2) (lo' := [(2, _), (0, _), (1, _)]) hC d_M_last_1 rfl (by decide) rfl ?_
  refine g_los [1, 2, 0] (lo' := [(0, _), (1, _), (2, _)]) rfl ?_
  refine g_loop (ι := Nat) (pc0 := 2) (fun i => i) (fun i => i ≤ 3 ∧ ∀ t, t < 3 → i ≤ t → ¬ mcand (s_cx σ) x (s_nw σ) t) (fun _ => RX S σ ad0 w0) (fun i => [(0, .ref (ad0 200)), (1, .int (nI x)), (2, .int (nI i - 1))]) ?_ 3 ⟨by omega, fun t h1 h2 => by omega⟩
  intro i hI ih
  try dsimp only at hI ih ⊢
  rcases i with _ | t
  · refine g_iload_n (i := 2) hC d_M_last_2 rfl rfl ?_
    refine g_if_lt (tgt := 98) hC d_M_last_3 (by decide) (fun h3 => ?_) (fun h3 => ?_)
    · refine g_iconst (v := -1) hC d_M_last_98 (by decide) ?_
      refine g_iret hC hr hlk d_M_last_99 (by decide) (by decide) (fun ad w hw => ?_)
      exact ⟨Or.inl ⟨rfl, fun t ht => hI.2 t ht (Nat.zero_le t)⟩, hw⟩
    · exact absurd nI_m1lt h3
  · rw [nI_pred]
    have ht : t < 3 := by omega
    refine g_iload_n (i := 2) hC d_M_last_2 rfl rfl ?_
    refine g_if_ltN (tgt := 98) hC d_M_last_3 (by decide) (by first | omega | exact r_lt hb _ _ | exact pb_le _) ?_
    refine g_aload_n (i := 0) hC d_M_last_6 rfl rfl (Or.inr ⟨_, rfl⟩) ?_
    refine g_get hC (fun x h => List.mem_cons_of_mem _ (in_M x h)) 200 r_this rfl 14 (by decide) (List.mem_cons_of_mem _ m_334) rfl rfl d_M_last_7 ?_
    refine g_iload_n (i := 2) hC d_M_last_10 rfl rfl ?_
    refine r_ld 14 hC (by decide) (by decide) rfl (fun _ => rfl) (by simp only [r_ln]; omega) d_M_last_11 ?_
    refine g_aload_n (i := 0) hC d_M_last_12 rfl rfl (Or.inr ⟨_, rfl⟩) ?_
    refine g_get hC (fun x h => List.mem_cons_of_mem _ (in_M x h)) 200 r_this rfl 5 (by decide) (List.mem_cons_of_mem _ m_325) rfl rfl d_M_last_13 ?_
    refine g_iconst (v := nI 3) hC d_M_last_16 (by decide) ?_
    refine g_iload_n (i := 1) hC d_M_last_17 rfl rfl ?_
    refine g_imulN hC d_M_last_18 ?_
    refine g_iload_n (i := 2) hC d_M_last_19 rfl rfl ?_
    refine g_iaddN hC d_M_last_20 ?_
    refine r_ld 5 hC (by decide) (by decide) rfl (fun _ => rfl) (by simp only [r_ln]; omega) d_M_last_21 ?_
    refine g_icmp_leN (tgt := 29) hC d_M_last_22 (by decide) (by first | omega | exact r_lt hb _ _ | exact pb_le _) (by first | omega | exact r_lt hb _ _ | exact pb_le _) (fun h22 => ?_) (fun h22 => ?_)
    · refine g_iconst (v := nI 0) hC d_M_last_29 (by decide) ?_
      refine g_istore_n (i := 3) (lo' := [(3, _), (0, _), (1, _), (2, _)]) hC d_M_last_30 rfl (by decide) rfl ?_
      refine g_iconst (v := nI 0) hC d_M_last_31 (by decide) ?_
      refine g_istore (i := 4) (lo' := [(4, _), (3, _), (0, _), (1, _), (2, _)]) hC d_M_last_32 (by decide) rfl ?_
      refine g_los [2, 3, 4, 1, 0] (lo' := [(0, _), (1, _), (2, _), (3, _), (4, _)]) rfl ?_
      refine g_loop (ι := Nat × Nat) (pc0 := 34) (fun ⟨i, g⟩ => 18 - i) (fun ⟨i, g⟩ => i ≤ 18 ∧ g = pb (σ 5 (3 * x + t) < σ 14 t ∧ ∀ o, o < i → o % 6 < σ 14 (o / 6) → σ 5 (3 * o + t) < σ 14 t)) (fun ⟨i, g⟩ => RX S σ ad0 w0) (fun ⟨i, g⟩ => [(0, .ref (ad0 200)), (1, .int (nI x)), (2, .int (nI t)), (3, .int (nI g)), (4, .int (nI i))]) ?_ (0, 0) (⟨by omega, (pb_f (fun h9 => absurd h9.1 (Nat.not_lt.mpr h22))).symm⟩)
      rintro ⟨i, g⟩ hJ ih2
      try dsimp only at hJ ih2 ⊢
      refine g_iload (i := 4) hC d_M_last_34 rfl ?_
      refine g_bipush (v := nI 18) hC d_M_last_36 (by decide) ?_
      refine g_icmp_geN (tgt := 86) hC d_M_last_38 (by decide) (by first | omega | exact r_lt hb _ _ | exact pb_le _) (by first | omega | exact r_lt hb _ _ | exact pb_le _) (fun h38 => ?_) (fun h38 => ?_)
      · refine g_iload_n (i := 3) hC d_M_last_86 rfl rfl ?_
        refine g_if_eqN (tgt := 92) hC d_M_last_87 (by decide) (by rw [hJ.2]; exact pb_le _) (fun h87 => ?_) (fun h87 => ?_)
        · have g87 := pb_0 ((hJ.2).symm.trans h87)
          refine g_iinc (i := 2) (k := 2) (lo' := [(2, _), (0, _), (1, _), (3, _), (4, _)]) hC d_M_last_92 rfl (nI_dec1 _) (by decide) rfl ?_
          refine g_goto (tgt := 2) hC d_M_last_95 (by decide) ?_
          refine g_los [1, 2, 0] rfl ?_
          refine ih t ⟨by omega, fun t' h1 h2 => ?_⟩ (Nat.lt_succ_self t)
          rcases (show t' = t ∨ t + 1 ≤ t' by omega) with rfl | q
          · intro hc
            exact (fun h => g87 ⟨h.1, fun o ho => h.2 o (by omega)⟩) ((cand_iff h1).mp hc)
          · exact hI.2 t' h1 q
        · have g87 := pb_1 (fun z => h87 ((hJ.2).trans z))
          refine g_iload_n (i := 2) hC d_M_last_90 rfl rfl ?_
          refine g_iret hC hr hlk d_M_last_91 (by decide) (by decide) (fun ad w hw => ?_)
          exact ⟨Or.inr ⟨t, ht, rfl, (cand_iff ht).mpr (by
            have e : i = 18 := by omega
            subst e
            exact g87)⟩, hw⟩
      · refine g_iload_n (i := 3) hC d_M_last_41 rfl rfl ?_
        refine g_if_eqN (tgt := 86) hC d_M_last_42 (by decide) (by rw [hJ.2]; exact pb_le _) (fun h42 => ?_) (fun h42 => ?_)
        · have g42 := pb_0 ((hJ.2).symm.trans h42)
          refine g_iload_n (i := 3) hC d_M_last_86 rfl rfl ?_
          refine g_if_eqN (tgt := 92) hC d_M_last_87 (by decide) (by rw [hJ.2]; exact pb_le _) (fun h87 => ?_) (fun h87 => ?_)
          · have g87 := pb_0 ((hJ.2).symm.trans h87)
            refine g_iinc (i := 2) (k := 2) (lo' := [(2, _), (0, _), (1, _), (3, _), (4, _)]) hC d_M_last_92 rfl (nI_dec1 _) (by decide) rfl ?_
            refine g_goto (tgt := 2) hC d_M_last_95 (by decide) ?_
            refine g_los [1, 2, 0] rfl ?_
            refine ih t ⟨by omega, fun t' h1 h2 => ?_⟩ (Nat.lt_succ_self t)
            rcases (show t' = t ∨ t + 1 ≤ t' by omega) with rfl | q
            · intro hc
              exact (fun h => g42 ⟨h.1, fun o ho => h.2 o (by omega)⟩) ((cand_iff h1).mp hc)
            · exact hI.2 t' h1 q
          · have g87 := pb_1 (fun z => h87 ((hJ.2).trans z))
            refine g_iload_n (i := 2) hC d_M_last_90 rfl rfl ?_
            refine g_iret hC hr hlk d_M_last_91 (by decide) (by decide) (fun ad w hw => ?_)
            exact absurd h42 h87
        · have g42 := pb_1 (fun z => h42 ((hJ.2).trans z))
          refine g_aload_n (i := 0) hC d_M_last_45 rfl rfl (Or.inr ⟨_, rfl⟩) ?_
          refine g_iload (i := 4) hC d_M_last_46 rfl ?_
          refine g_calli hC (g_runV (q := 200) (As := [_]) (st := []) hC g_NOK_N (r_has l D S σ ad0 w0 i (by omega)) (t_cwV 1 hC.1.2.2.2.2 m_402 m_404 ms_15 m_6 k_M_has rfl rfl hd_M_has ⟨by decide, by decide⟩) r_this rfl rfl rfl (by decide) d_M_last_48 ⟨by decide, by decide⟩) (fun r48 => ?_)
          refine g_and (fun e48 => ?_)
          subst e48
          refine g_if_eqN (tgt := 74) hC d_M_last_51 (by decide) (by first | omega | exact r_lt hb _ _ | exact pb_le _) (fun h51 => ?_) (fun h51 => ?_)
          · have g51 := pb_0 h51
            refine g_iconst (v := nI 1) hC d_M_last_74 (by decide) ?_
            refine g_goto (tgt := 79) hC d_M_last_75 (by decide) ?_
            refine g_istore_n (i := 3) (lo' := [(3, _), (0, _), (1, _), (2, _), (4, _)]) hC d_M_last_79 rfl (by decide) rfl ?_
            refine g_iinc (i := 4) (k := 4) (lo' := [(4, _), (3, _), (0, _), (1, _), (2, _)]) hC d_M_last_80 rfl (nI_inc _) (by decide) rfl ?_
            refine g_goto (tgt := 34) hC d_M_last_83 (by decide) ?_
            refine g_los [2, 3, 4, 1, 0] rfl ?_
            exact ih2 (i + 1, 1) ⟨by omega, (pb_t ⟨g42.1, lt_s g42.2 (fun h => absurd h g51)⟩).symm⟩ (by dsimp only; omega)
          · have g51 := pb_1 h51
            refine g_aload_n (i := 0) hC d_M_last_54 rfl rfl (Or.inr ⟨_, rfl⟩) ?_
            refine g_get hC (fun x h => List.mem_cons_of_mem _ (in_M x h)) 200 r_this rfl 5 (by decide) (List.mem_cons_of_mem _ m_325) rfl rfl d_M_last_55 ?_
            refine g_iconst (v := nI 3) hC d_M_last_58 (by decide) ?_
            refine g_iload (i := 4) hC d_M_last_59 rfl ?_
            refine g_imulN hC d_M_last_61 ?_
            refine g_iload_n (i := 2) hC d_M_last_62 rfl rfl ?_
            refine g_iaddN hC d_M_last_63 ?_
            refine r_ld 5 hC (by decide) (by decide) rfl (fun _ => rfl) (by simp only [r_ln]; omega) d_M_last_64 ?_
            refine g_aload_n (i := 0) hC d_M_last_65 rfl rfl (Or.inr ⟨_, rfl⟩) ?_
            refine g_get hC (fun x h => List.mem_cons_of_mem _ (in_M x h)) 200 r_this rfl 14 (by decide) (List.mem_cons_of_mem _ m_334) rfl rfl d_M_last_66 ?_
            refine g_iload_n (i := 2) hC d_M_last_69 rfl rfl ?_
            refine r_ld 14 hC (by decide) (by decide) rfl (fun _ => rfl) (by simp only [r_ln]; omega) d_M_last_70 ?_
            refine g_icmp_geN (tgt := 78) hC d_M_last_71 (by decide) (by first | omega | exact r_lt hb _ _ | exact pb_le _) (by first | omega | exact r_lt hb _ _ | exact pb_le _) (fun h71 => ?_) (fun h71 => ?_)
            · refine g_iconst (v := nI 0) hC d_M_last_78 (by decide) ?_
              refine g_istore_n (i := 3) (lo' := [(3, _), (0, _), (1, _), (2, _), (4, _)]) hC d_M_last_79 rfl (by decide) rfl ?_
              refine g_iinc (i := 4) (k := 4) (lo' := [(4, _), (3, _), (0, _), (1, _), (2, _)]) hC d_M_last_80 rfl (nI_inc _) (by decide) rfl ?_
              refine g_goto (tgt := 34) hC d_M_last_83 (by decide) ?_
              refine g_los [2, 3, 4, 1, 0] rfl ?_
              exact ih2 (i + 1, 0) ⟨by omega, (pb_f (fun h9 => absurd (h9.2 i (Nat.lt_succ_self i) g51) (Nat.not_lt.mpr h71))).symm⟩ (by dsimp only; omega)
            · refine g_iconst (v := nI 1) hC d_M_last_74 (by decide) ?_
              refine g_goto (tgt := 79) hC d_M_last_75 (by decide) ?_
              refine g_istore_n (i := 3) (lo' := [(3, _), (0, _), (1, _), (2, _), (4, _)]) hC d_M_last_79 rfl (by decide) rfl ?_
              refine g_iinc (i := 4) (k := 4) (lo' := [(4, _), (3, _), (0, _), (1, _), (2, _)]) hC d_M_last_80 rfl (nI_inc _) (by decide) rfl ?_
              refine g_goto (tgt := 34) hC d_M_last_83 (by decide) ?_
              refine g_los [2, 3, 4, 1, 0] rfl ?_
              exact ih2 (i + 1, 1) ⟨by omega, (pb_t ⟨g42.1, lt_s g42.2 (fun _ => h71)⟩).symm⟩ (by dsimp only; omega)
    · refine g_iconst (v := nI 1) hC d_M_last_25 (by decide) ?_
      refine g_goto (tgt := 30) hC d_M_last_26 (by decide) ?_
      refine g_istore_n (i := 3) (lo' := [(3, _), (0, _), (1, _), (2, _)]) hC d_M_last_30 rfl (by decide) rfl ?_
      refine g_iconst (v := nI 0) hC d_M_last_31 (by decide) ?_
      refine g_istore (i := 4) (lo' := [(4, _), (3, _), (0, _), (1, _), (2, _)]) hC d_M_last_32 (by decide) rfl ?_
      refine g_los [2, 3, 4, 1, 0] (lo' := [(0, _), (1, _), (2, _), (3, _), (4, _)]) rfl ?_
      refine g_loop (ι := Nat × Nat) (pc0 := 34) (fun ⟨i, g⟩ => 18 - i) (fun ⟨i, g⟩ => i ≤ 18 ∧ g = pb (σ 5 (3 * x + t) < σ 14 t ∧ ∀ o, o < i → o % 6 < σ 14 (o / 6) → σ 5 (3 * o + t) < σ 14 t)) (fun ⟨i, g⟩ => RX S σ ad0 w0) (fun ⟨i, g⟩ => [(0, .ref (ad0 200)), (1, .int (nI x)), (2, .int (nI t)), (3, .int (nI g)), (4, .int (nI i))]) ?_ (0, 1) (⟨by omega, (pb_t ⟨h22, fun o ho => absurd ho (Nat.not_lt_zero o)⟩).symm⟩)
      rintro ⟨i, g⟩ hJ ih2
      try dsimp only at hJ ih2 ⊢
      refine g_iload (i := 4) hC d_M_last_34 rfl ?_
      refine g_bipush (v := nI 18) hC d_M_last_36 (by decide) ?_
      refine g_icmp_geN (tgt := 86) hC d_M_last_38 (by decide) (by first | omega | exact r_lt hb _ _ | exact pb_le _) (by first | omega | exact r_lt hb _ _ | exact pb_le _) (fun h38 => ?_) (fun h38 => ?_)
      · refine g_iload_n (i := 3) hC d_M_last_86 rfl rfl ?_
        refine g_if_eqN (tgt := 92) hC d_M_last_87 (by decide) (by rw [hJ.2]; exact pb_le _) (fun h87 => ?_) (fun h87 => ?_)
        · have g87 := pb_0 ((hJ.2).symm.trans h87)
          refine g_iinc (i := 2) (k := 2) (lo' := [(2, _), (0, _), (1, _), (3, _), (4, _)]) hC d_M_last_92 rfl (nI_dec1 _) (by decide) rfl ?_
          refine g_goto (tgt := 2) hC d_M_last_95 (by decide) ?_
          refine g_los [1, 2, 0] rfl ?_
          refine ih t ⟨by omega, fun t' h1 h2 => ?_⟩ (Nat.lt_succ_self t)
          rcases (show t' = t ∨ t + 1 ≤ t' by omega) with rfl | q
          · intro hc
            exact (fun h => g87 ⟨h.1, fun o ho => h.2 o (by omega)⟩) ((cand_iff h1).mp hc)
          · exact hI.2 t' h1 q
        · have g87 := pb_1 (fun z => h87 ((hJ.2).trans z))
          refine g_iload_n (i := 2) hC d_M_last_90 rfl rfl ?_
          refine g_iret hC hr hlk d_M_last_91 (by decide) (by decide) (fun ad w hw => ?_)
          exact ⟨Or.inr ⟨t, ht, rfl, (cand_iff ht).mpr (by
            have e : i = 18 := by omega
            subst e
            exact g87)⟩, hw⟩
      · refine g_iload_n (i := 3) hC d_M_last_41 rfl rfl ?_
        refine g_if_eqN (tgt := 86) hC d_M_last_42 (by decide) (by rw [hJ.2]; exact pb_le _) (fun h42 => ?_) (fun h42 => ?_)
        · have g42 := pb_0 ((hJ.2).symm.trans h42)
          refine g_iload_n (i := 3) hC d_M_last_86 rfl rfl ?_
          refine g_if_eqN (tgt := 92) hC d_M_last_87 (by decide) (by rw [hJ.2]; exact pb_le _) (fun h87 => ?_) (fun h87 => ?_)
          · have g87 := pb_0 ((hJ.2).symm.trans h87)
            refine g_iinc (i := 2) (k := 2) (lo' := [(2, _), (0, _), (1, _), (3, _), (4, _)]) hC d_M_last_92 rfl (nI_dec1 _) (by decide) rfl ?_
            refine g_goto (tgt := 2) hC d_M_last_95 (by decide) ?_
            refine g_los [1, 2, 0] rfl ?_
            refine ih t ⟨by omega, fun t' h1 h2 => ?_⟩ (Nat.lt_succ_self t)
            rcases (show t' = t ∨ t + 1 ≤ t' by omega) with rfl | q
            · intro hc
              exact (fun h => g42 ⟨h.1, fun o ho => h.2 o (by omega)⟩) ((cand_iff h1).mp hc)
            · exact hI.2 t' h1 q
          · have g87 := pb_1 (fun z => h87 ((hJ.2).trans z))
            refine g_iload_n (i := 2) hC d_M_last_90 rfl rfl ?_
            refine g_iret hC hr hlk d_M_last_91 (by decide) (by decide) (fun ad w hw => ?_)
            exact absurd h42 h87
        · have g42 := pb_1 (fun z => h42 ((hJ.2).trans z))
          refine g_aload_n (i := 0) hC d_M_last_45 rfl rfl (Or.inr ⟨_, rfl⟩) ?_
          refine g_iload (i := 4) hC d_M_last_46 rfl ?_
          refine g_calli hC (g_runV (q := 200) (As := [_]) (st := []) hC g_NOK_N (r_has l D S σ ad0 w0 i (by omega)) (t_cwV 1 hC.1.2.2.2.2 m_402 m_404 ms_15 m_6 k_M_has rfl rfl hd_M_has ⟨by decide, by decide⟩) r_this rfl rfl rfl (by decide) d_M_last_48 ⟨by decide, by decide⟩) (fun r48 => ?_)
          refine g_and (fun e48 => ?_)
          subst e48
          refine g_if_eqN (tgt := 74) hC d_M_last_51 (by decide) (by first | omega | exact r_lt hb _ _ | exact pb_le _) (fun h51 => ?_) (fun h51 => ?_)
          · have g51 := pb_0 h51
            refine g_iconst (v := nI 1) hC d_M_last_74 (by decide) ?_
            refine g_goto (tgt := 79) hC d_M_last_75 (by decide) ?_
            refine g_istore_n (i := 3) (lo' := [(3, _), (0, _), (1, _), (2, _), (4, _)]) hC d_M_last_79 rfl (by decide) rfl ?_
            refine g_iinc (i := 4) (k := 4) (lo' := [(4, _), (3, _), (0, _), (1, _), (2, _)]) hC d_M_last_80 rfl (nI_inc _) (by decide) rfl ?_
            refine g_goto (tgt := 34) hC d_M_last_83 (by decide) ?_
            refine g_los [2, 3, 4, 1, 0] rfl ?_
            exact ih2 (i + 1, 1) ⟨by omega, (pb_t ⟨g42.1, lt_s g42.2 (fun h => absurd h g51)⟩).symm⟩ (by dsimp only; omega)
          · have g51 := pb_1 h51
            refine g_aload_n (i := 0) hC d_M_last_54 rfl rfl (Or.inr ⟨_, rfl⟩) ?_
            refine g_get hC (fun x h => List.mem_cons_of_mem _ (in_M x h)) 200 r_this rfl 5 (by decide) (List.mem_cons_of_mem _ m_325) rfl rfl d_M_last_55 ?_
            refine g_iconst (v := nI 3) hC d_M_last_58 (by decide) ?_
            refine g_iload (i := 4) hC d_M_last_59 rfl ?_
            refine g_imulN hC d_M_last_61 ?_
            refine g_iload_n (i := 2) hC d_M_last_62 rfl rfl ?_
            refine g_iaddN hC d_M_last_63 ?_
            refine r_ld 5 hC (by decide) (by decide) rfl (fun _ => rfl) (by simp only [r_ln]; omega) d_M_last_64 ?_
            refine g_aload_n (i := 0) hC d_M_last_65 rfl rfl (Or.inr ⟨_, rfl⟩) ?_
            refine g_get hC (fun x h => List.mem_cons_of_mem _ (in_M x h)) 200 r_this rfl 14 (by decide) (List.mem_cons_of_mem _ m_334) rfl rfl d_M_last_66 ?_
            refine g_iload_n (i := 2) hC d_M_last_69 rfl rfl ?_
            refine r_ld 14 hC (by decide) (by decide) rfl (fun _ => rfl) (by simp only [r_ln]; omega) d_M_last_70 ?_
            refine g_icmp_geN (tgt := 78) hC d_M_last_71 (by decide) (by first | omega | exact r_lt hb _ _ | exact pb_le _) (by first | omega | exact r_lt hb _ _ | exact pb_le _) (fun h71 => ?_) (fun h71 => ?_)
            · refine g_iconst (v := nI 0) hC d_M_last_78 (by decide) ?_
              refine g_istore_n (i := 3) (lo' := [(3, _), (0, _), (1, _), (2, _), (4, _)]) hC d_M_last_79 rfl (by decide) rfl ?_
              refine g_iinc (i := 4) (k := 4) (lo' := [(4, _), (3, _), (0, _), (1, _), (2, _)]) hC d_M_last_80 rfl (nI_inc _) (by decide) rfl ?_
              refine g_goto (tgt := 34) hC d_M_last_83 (by decide) ?_
              refine g_los [2, 3, 4, 1, 0] rfl ?_
              exact ih2 (i + 1, 0) ⟨by omega, (pb_f (fun h9 => absurd (h9.2 i (Nat.lt_succ_self i) g51) (Nat.not_lt.mpr h71))).symm⟩ (by dsimp only; omega)
            · refine g_iconst (v := nI 1) hC d_M_last_74 (by decide) ?_
              refine g_goto (tgt := 79) hC d_M_last_75 (by decide) ?_
              refine g_istore_n (i := 3) (lo' := [(3, _), (0, _), (1, _), (2, _), (4, _)]) hC d_M_last_79 rfl (by decide) rfl ?_
              refine g_iinc (i := 4) (k := 4) (lo' := [(4, _), (3, _), (0, _), (1, _), (2, _)]) hC d_M_last_80 rfl (nI_inc _) (by decide) rfl ?_
              refine g_goto (tgt := 34) hC d_M_last_83 (by decide) ?_
              refine g_los [2, 3, 4, 1, 0] rfl ?_
              exact ih2 (i + 1, 1) ⟨by omega, (pb_t ⟨g42.1, lt_s g42.2 (fun _ => h71)⟩).symm⟩ (by dsimp only; omega)
