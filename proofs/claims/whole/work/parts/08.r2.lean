set_option maxRecDepth 100000 in
set_option maxHeartbeats 4000000 in
theorem r_closed (l : Launch) (D : va_G) (S : Nat) (σ : rS) (ad0 : Nat → Nat) (w0 : gW)  : g_M l y_M_closed w_M_closed (rk 1) D gCl g_N [.ref (ad0 200)] (RX S σ ad0 w0) 0 0 (fun A => g_Qi D gCl A (fun r ad w => r = nI (pb (∀ o, o < 18 → o % 6 < σ 14 (o / 6) → o % 6 < σ 1 (o / 6) ∧ σ 5 (3 * o) ≤ σ 14 0 ∧ σ 5 (3 * o + 1) ≤ σ 14 1 ∧ σ 5 (3 * o + 2) ≤ σ 14 2)) ∧ RX S σ ad0 w0 ad w)) := by
  refine g_of (cc := c_M_closed) (nL := 3) (ret := some .boolean) (by decide) rfl (Nat.le_of_ble_eq_true rfl) ?_
  intro pp ee ss mm bb me cc A hC hr hlk hnm
  refine g_los [0] (lo' := [(0, .ref (ad0 200))]) rfl ?_
  refine g_pure r_bl_of (fun hb => ?_)
  refine g_iconst (v := nI 1) hC d_M_closed_0 (by decide) ?_
  refine g_istore_n (i := 1) (lo' := [(1, _), (0, _)]) hC d_M_closed_1 rfl (by decide) rfl ?_
  refine g_iconst (v := nI 0) hC d_M_closed_2 (by decide) ?_
  refine g_istore_n (i := 2) (lo' := [(2, _), (1, _), (0, _)]) hC d_M_closed_3 rfl (by decide) rfl ?_
  refine g_los [2, 1, 0] (lo' := [(0, _), (1, _), (2, _)]) rfl ?_
  refine g_loop (ι := Nat × Nat) (pc0 := 4) (fun ⟨i, g⟩ => 18 - i) (fun ⟨i, g⟩ => i ≤ 18 ∧ g = pb (∀ o, o < i → o % 6 < σ 14 (o / 6) → o % 6 < σ 1 (o / 6) ∧ σ 5 (3 * o) ≤ σ 14 0 ∧ σ 5 (3 * o + 1) ≤ σ 14 1 ∧ σ 5 (3 * o + 2) ≤ σ 14 2)) (fun ⟨i, g⟩ => RX S σ ad0 w0) (fun ⟨i, g⟩ => [(0, .ref (ad0 200)), (1, .int (nI g)), (2, .int (nI i))]) ?_ (0, 1) (⟨by omega, (pb_t (fun o ho => by omega)).symm⟩)
  rintro ⟨i, g⟩ hI ih
  dsimp only at hI ih ⊢
  refine g_iload_n (i := 2) hC d_M_closed_4 rfl rfl ?_
  refine g_bipush (v := nI 18) hC d_M_closed_5 (by decide) ?_
  refine g_icmp_geN (tgt := 58) hC d_M_closed_7 (by decide) (by first | omega | exact r_lt hb _ _ | exact pb_le _) (by first | omega | exact r_lt hb _ _ | exact pb_le _) (fun h7 => ?_) (fun h7 => ?_)
  · refine g_iload_n (i := 1) hC d_M_closed_58 rfl rfl ?_
    refine g_zret hC hr hlk (r_nar2 (by rw [hI.2]; exact pb_lt _)) d_M_closed_59 (by decide) (by decide) (fun ad w hw => ?_)
    obtain ⟨h1, rfl⟩ := hI
    have e : i = 18 := by omega
    subst e
    exact ⟨rfl, hw⟩
  · refine g_iload_n (i := 1) hC d_M_closed_10 rfl rfl ?_
    refine g_if_eqN (tgt := 50) hC d_M_closed_11 (by decide) (by rw [hI.2]; exact pb_le _) (fun h11 => ?_) (fun h11 => ?_)
    · have g11 := pb_0 ((hI.2).symm.trans h11)
      refine g_iconst (v := nI 0) hC d_M_closed_50 (by decide) ?_
      refine g_istore_n (i := 1) (lo' := [(1, _), (0, _), (2, _)]) hC d_M_closed_51 rfl (by decide) rfl ?_
      refine g_iinc (i := 2) (k := 2) (lo' := [(2, _), (1, _), (0, _)]) hC d_M_closed_52 rfl (nI_inc _) (by decide) rfl ?_
      refine g_goto (tgt := 4) hC d_M_closed_55 (by decide) ?_
      refine g_los [2, 1, 0] rfl ?_
      exact ih (i + 1, 0) ⟨by omega, (pb_f (fun h9 => g11 (fun o ho => h9 o (Nat.lt_succ_of_lt ho)))).symm⟩ (by dsimp only; omega)
    · have g11 := pb_1 (fun z => h11 ((hI.2).trans z))
      refine g_aload_n (i := 0) hC d_M_closed_14 rfl rfl (Or.inr ⟨_, rfl⟩) ?_
      refine g_iload_n (i := 2) hC d_M_closed_15 rfl rfl ?_
      refine g_calli hC (g_runV (q := 200) (As := [_]) (st := []) hC g_NOK_N (r_has l D S σ ad0 w0 i (by omega)) (t_cwV 1 hC.1.2.2.2.2 m_402 m_404 ms_15 m_6 k_M_has rfl rfl hd_M_has ⟨by decide, by decide⟩) r_this rfl rfl rfl (by decide) d_M_closed_16 ⟨by decide, by decide⟩) (fun r16 => ?_)
      refine g_and (fun e16 => ?_)
      subst e16
      refine g_if_eqN (tgt := 46) hC d_M_closed_19 (by decide) (by first | omega | exact r_lt hb _ _ | exact pb_le _) (fun h19 => ?_) (fun h19 => ?_)
      · have g19 := pb_0 h19
        refine g_iconst (v := nI 1) hC d_M_closed_46 (by decide) ?_
        refine g_goto (tgt := 51) hC d_M_closed_47 (by decide) ?_
        refine g_istore_n (i := 1) (lo' := [(1, _), (0, _), (2, _)]) hC d_M_closed_51 rfl (by decide) rfl ?_
        refine g_iinc (i := 2) (k := 2) (lo' := [(2, _), (1, _), (0, _)]) hC d_M_closed_52 rfl (nI_inc _) (by decide) rfl ?_
        refine g_goto (tgt := 4) hC d_M_closed_55 (by decide) ?_
        refine g_los [2, 1, 0] rfl ?_
        exact ih (i + 1, 1) ⟨by omega, (pb_t (lt_s g11 (fun h => absurd h g19))).symm⟩ (by dsimp only; omega)
      · have g19 := pb_1 h19
        refine g_iload_n (i := 2) hC d_M_closed_22 rfl rfl ?_
        refine g_bipush (v := nI 6) hC d_M_closed_23 (by decide) ?_
        refine g_iremN hC d_M_closed_25 (by omega) (by omega) (by omega) ?_
        refine g_aload_n (i := 0) hC d_M_closed_26 rfl rfl (Or.inr ⟨_, rfl⟩) ?_
        refine g_get hC (fun x h => List.mem_cons_of_mem _ (in_M x h)) 200 r_this rfl 1 (by decide) (List.mem_cons_of_mem _ m_321) rfl rfl d_M_closed_27 ?_
        refine g_iload_n (i := 2) hC d_M_closed_30 rfl rfl ?_
        refine g_bipush (v := nI 6) hC d_M_closed_31 (by decide) ?_
        refine g_idivN hC d_M_closed_33 (by omega) (by omega) (by omega) ?_
        refine r_ld 1 hC (by decide) (by decide) rfl (fun _ => rfl) (by simp only [r_ln]; omega) d_M_closed_34 ?_
        refine g_icmp_geN (tgt := 50) hC d_M_closed_35 (by decide) (by first | omega | exact r_lt hb _ _ | exact pb_le _) (by first | omega | exact r_lt hb _ _ | exact pb_le _) (fun h35 => ?_) (fun h35 => ?_)
        · refine g_iconst (v := nI 0) hC d_M_closed_50 (by decide) ?_
          refine g_istore_n (i := 1) (lo' := [(1, _), (0, _), (2, _)]) hC d_M_closed_51 rfl (by decide) rfl ?_
          refine g_iinc (i := 2) (k := 2) (lo' := [(2, _), (1, _), (0, _)]) hC d_M_closed_52 rfl (nI_inc _) (by decide) rfl ?_
          refine g_goto (tgt := 4) hC d_M_closed_55 (by decide) ?_
          refine g_los [2, 1, 0] rfl ?_
          exact ih (i + 1, 0) ⟨by omega, (pb_f (fun h9 => absurd (h9 i (Nat.lt_succ_self i) g19).1 (Nat.not_lt.mpr h35))).symm⟩ (by dsimp only; omega)
        · refine g_aload_n (i := 0) hC d_M_closed_38 rfl rfl (Or.inr ⟨_, rfl⟩) ?_
          refine g_iload_n (i := 2) hC d_M_closed_39 rfl rfl ?_
          refine g_calli hC (g_runV (q := 200) (As := [_]) (st := []) hC g_NOK_N (r_covers l D S σ ad0 w0 i (by omega)) (t_cwV 1 hC.1.2.2.2.2 m_406 m_408 ms_16 m_6 k_M_covers rfl rfl hd_M_covers ⟨by decide, by decide⟩) r_this rfl rfl rfl (by decide) d_M_closed_40 ⟨by decide, by decide⟩) (fun r40 => ?_)
          refine g_and (fun e40 => ?_)
          subst e40
          refine g_if_eqN (tgt := 50) hC d_M_closed_43 (by decide) (by first | omega | exact r_lt hb _ _ | exact pb_le _) (fun h43 => ?_) (fun h43 => ?_)
          · have g43 := pb_0 h43
            refine g_iconst (v := nI 0) hC d_M_closed_50 (by decide) ?_
            refine g_istore_n (i := 1) (lo' := [(1, _), (0, _), (2, _)]) hC d_M_closed_51 rfl (by decide) rfl ?_
            refine g_iinc (i := 2) (k := 2) (lo' := [(2, _), (1, _), (0, _)]) hC d_M_closed_52 rfl (nI_inc _) (by decide) rfl ?_
            refine g_goto (tgt := 4) hC d_M_closed_55 (by decide) ?_
            refine g_los [2, 1, 0] rfl ?_
            exact ih (i + 1, 0) ⟨by omega, (pb_f (fun h9 => g43 (h9 i (Nat.lt_succ_self i) g19).2)).symm⟩ (by dsimp only; omega)
          · have g43 := pb_1 h43
            refine g_iconst (v := nI 1) hC d_M_closed_46 (by decide) ?_
            refine g_goto (tgt := 51) hC d_M_closed_47 (by decide) ?_
            refine g_istore_n (i := 1) (lo' := [(1, _), (0, _), (2, _)]) hC d_M_closed_51 rfl (by decide) rfl ?_
            refine g_iinc (i := 2) (k := 2) (lo' := [(2, _), (1, _), (0, _)]) hC d_M_closed_52 rfl (nI_inc _) (by decide) rfl ?_
            refine g_goto (tgt := 4) hC d_M_closed_55 (by decide) ?_
            refine g_los [2, 1, 0] rfl ?_
            exact ih (i + 1, 1) ⟨by omega, (pb_t (lt_s g11 (fun _ => ⟨h35, g43⟩))).symm⟩ (by dsimp only; omega)
