def TI (S j : Nat) (ad0 : Nat → Nat) (w0 : gW) : (Nat → Nat) → gW → Prop := fun ad w =>
  (∀ q, 200 ≤ q → ad q = ad0 q) ∧ ad 0 = ad0 0 ∧ (∀ q, 200 ≤ q → w q = w0 q) ∧ w 0 = some (.inr (3, [.int (nI S), .ref (ad 1), .ref (ad 4)])) ∧ w 1 = some (.inr (1, [.int (nI S), .ref (ad 2), .ref (ad 3)])) ∧ w 2 = some (cw_made ad Z0 S) ∧ w 3 = some (cw_kn Z0 S) ∧ w 4 = some (.inl (.object "TombstoneSites$Copy", S, .inr (.inr (.inr (.inr (fun s => if s < j then some (ad (10 + 4 * s)) else none)))))) ∧
  (∀ s, s < j → w (10 + 4 * s) = some (.inr (0, cw_cp ad Z0 s)) ∧ w (11 + 4 * s) = some (cw_row Z0 s) ∧ w (12 + 4 * s) = some (cw_arr Z0 s) ∧ w (13 + 4 * s) = some (cw_plc Z0 s)) ∧ ∀ q, 10 + 4 * j ≤ q → q < 200 → w q = none
def CI (S : Nat) (ad0 : Nat → Nat) (w0 : gW) : (Nat → Nat) → gW → Prop := fun ad w => (∀ q, 200 ≤ q → ad q = ad0 q) ∧ ad 0 = ad0 0 ∧ CW S Z0 ad w0 ad w
theorem TI.fin {S : Nat} {ad0 ad : Nat → Nat} {w0 w : gW} (hSS : S = 2 ∨ S = 3) (h : TI S S ad0 w0 ad w) : CI S ad0 w0 ad w := by
  obtain ⟨a, b, c, d, e, f, g, h, i, k⟩ := h
  exact ⟨a, b, rfl, c, ⟨d, e, f, g, h, i, fun o ho => ⟨fun z => absurd rfl z, fun _ => k _ (by omega) (by omega)⟩⟩, fun _ _ => ⟨(by decide : 0 < 1000), fun _ => (by decide : 0 < 2)⟩, hSS⟩
theorem TI.step {S j : Nat} {ad0 ad3 ad4 ad5 : Nat → Nat} {w0 w3 w4 w5 : gW} {e : gE} {z : Nat} (hj : j < 3) (h : TI S j ad0 w0 ad3 w3) (h4 : ad4 = va_up ad3 (10 + 4 * j) z) (hw4 : w4 = va_up w3 (10 + 4 * j) (some e)) (hk : KI j ad4 w4 ad5 w5) : TI S (j + 1) ad0 w0 ad5 (va_up w5 4 (some (.inl (.object "TombstoneSites$Copy", S, .inr (.inr (.inr (.inr (va_up (fun s => if s < j then some (ad3 (10 + 4 * s)) else none) j (some (ad4 (10 + 4 * j)))))))))) ) := by
  obtain ⟨a, b, c, d, e, f, g, h, i, k⟩ := h
  obtain ⟨k1, k2, k3, k4, k5, k6⟩ := hk
  have ha : ∀ q, q < 10 + 4 * j ∨ 14 + 4 * j ≤ q → ad5 q = ad3 q := fun q hq => by
    rw [k1 q (by omega) (by omega) (by omega), h4, va_up_ne _ _ (by omega)]
  have hw : ∀ q, q < 10 + 4 * j ∨ 14 + 4 * j ≤ q → w5 q = w3 q := fun q hq => by
    rw [k2 q (by omega) (by omega) (by omega) (by omega), hw4, va_up_ne _ _ (by omega)]
  refine ⟨fun q hq => (ha q (by omega)).trans (a q hq), (ha 0 (by omega)).trans b, fun q hq => ?_, ?_, ?_, ?_, ?_, ?_, fun s hs => ?_, fun q h1 h2 => ?_⟩
  · rw [va_up_ne _ _ (by omega), hw q (by omega)]
    exact c q hq
  · rw [va_up_ne _ _ (by omega), hw 0 (by omega), ha 1 (by omega), ha 4 (by omega)]
    exact d
  · rw [va_up_ne _ _ (by omega), hw 1 (by omega), ha 2 (by omega), ha 3 (by omega)]
    exact e
  · rw [va_up_ne _ _ (by omega), hw 2 (by omega)]
    exact f
  · rw [va_up_ne _ _ (by omega), hw 3 (by omega)]
    exact g
  · rw [va_up_self]
    congr 8
    funext s
    unfold va_up
    by_cases q : s = j
    · rw [if_pos q, if_pos (by omega), q, k1 (10 + 4 * j) (by omega) (by omega) (by omega)]
    · rw [if_neg q]
      by_cases q2 : s < j
      · rw [if_pos (c := s < j + 1) (by omega), ha (10 + 4 * s) (by omega)]
        exact if_pos q2
      · rw [if_neg (c := s < j + 1) (by omega)]
        exact if_neg q2
  · rw [va_up_ne _ _ (by omega), va_up_ne _ _ (by omega), va_up_ne _ _ (by omega), va_up_ne _ _ (by omega)]
    by_cases q : s = j
    · rw [q]
      exact ⟨k3, k4, k5, k6⟩
    · rw [hw (10 + 4 * s) (by omega), hw (11 + 4 * s) (by omega), hw (12 + 4 * s) (by omega), hw (13 + 4 * s) (by omega)]
      have := i s (by omega)
      unfold cw_cp at this ⊢
      rw [ha (11 + 4 * s) (by omega), ha (12 + 4 * s) (by omega), ha (13 + 4 * s) (by omega)]
      exact this
  · rw [va_up_ne _ _ (by omega), hw q (by omega)]
    exact k q (by omega) h2
set_option maxRecDepth 100000 in
set_option maxHeartbeats 4000000 in
theorem t_init (l : Launch) (D : va_G) (ad0 : Nat → Nat) (w0 : gW) (x : Int32) (h0 : w0 0 = some (.inr (3, [.int 0, .null, .null]))) (hn : ∀ q, 0 < q → w0 q = none) : g_M l y_T_init w_T_init (rkc 2 16 1746) D gCl g_N [.ref (ad0 0), .int x] (EQ ad0 w0) 16 1746 (fun A => g_Qv D gCl A (fun ad w => CI (sN x) ad0 w0 ad w)) := by
  refine g_of (cc := c_T_init) (nL := 3) (ret := none) (by decide) rfl (Nat.le_of_ble_eq_true rfl) ?_
  intro pp ee ss mm bb me cc A hC hr hlk hnm
  refine g_los [0, 1] (lo' := [(0, .ref (ad0 0)), (1, .int x)]) rfl ?_
  refine g_aload_n (i := 0) hC d_T_init_0 rfl rfl (Or.inr ⟨_, rfl⟩) ?_
  refine g_objInit hC (List.mem_cons_of_mem _ m_14) (List.mem_cons_of_mem _ m_15) (List.mem_cons_of_mem _ m_16) (by decide) (Nat.le_of_ble_eq_true rfl) d_T_init_1 ?_
  refine g_aload_n (i := 0) hC d_T_init_4 rfl rfl (Or.inr ⟨_, rfl⟩) ?_
  refine g_iload_n (i := 1) hC d_T_init_5 rfl rfl ?_
  refine g_iconst (v := nI 3) hC d_T_init_6 (by decide) ?_
  refine g_icmp_ne (tgt := 14) hC d_T_init_7 (by decide) (fun h7 => ?_) (fun h7 => ?_)
  · refine g_iconst (v := nI 2) hC d_T_init_14 (by decide) ?_
    refine g_eqi (show nI 2 = nI (sN x) by unfold sN; rw [if_neg h7]) ?_
    refine g_putF (ci := 3) (ty := .int) (fs := [.int 0, .null, .null]) (V' := EQ ad0 (va_up w0 (0) (some (.inr (3, [.int (nI (sN x)), .null, .null]))))) hC hnm (fun x h => List.mem_cons_of_mem _ (in_T x h)) ft_T tk_T n_T (0) (fun ad w h => by obtain ⟨rfl, rfl⟩ := h; exact ⟨by simp [va_up, h0, hn], by simp [va_up, h0, hn]⟩) rfl 0 (by decide) (List.mem_cons_of_mem _ m_84) rfl rfl rfl (by decide +kernel) rfl rfl (Nat.le_of_ble_eq_true rfl) (fun ad w h => by obtain ⟨rfl, rfl⟩ := h; exact ⟨rfl, rfl⟩) d_T_init_15 ?_
    refine g_aload_n (i := 0) hC d_T_init_18 rfl rfl (Or.inr ⟨_, rfl⟩) ?_
    refine g_new (ci := 1) (k := 1) (fs := [.int 0, .null, .null]) (V' := fun z => EQ (va_up ad0 (1) z) (va_up (va_up w0 (0) (some (.inr (3, [.int (nI (sN x)), .null, .null])))) (1) (some (.inr (1, [.int 0, .null, .null]))))) hC (fun x h => List.mem_cons_of_mem _ (in_H x h)) ft_H tk_H (List.mem_cons_of_mem _ m_17) (List.mem_cons_of_mem _ m_18) (List.mem_cons_of_mem _ m_2) rfl (fun ad w h => by rw [h.2]; simp [va_up, hn]) (fun j hj => by match j, hj with | 0, _ => rfl | 1, _ => rfl | 2, _ => rfl) (by decide) (by decide) (fun z ad w h => by obtain ⟨rfl, rfl⟩ := h; exact ⟨rfl, rfl⟩) d_T_init_19 (fun z1 => ?_)
    refine g_dup hC d_T_init_22 rfl ?_
    refine g_aload_n (i := 0) hC d_T_init_23 rfl rfl (Or.inr ⟨_, rfl⟩) ?_
    refine g_get (ci := 3) (fs := [.int (nI (sN x)), .null, .null]) hC (fun x h => List.mem_cons_of_mem _ (in_T x h)) (0) (fun ad w h => by obtain ⟨rfl, rfl⟩ := h; exact ⟨by simp [va_up, h0, hn], by simp [va_up, h0, hn]⟩) rfl 0 (by decide) (List.mem_cons_of_mem _ m_84) rfl rfl d_T_init_24 ?_
    obtain ⟨adN, hadN⟩ : ∃ a : Nat → Nat, a = (va_up ad0 (1) z1) := ⟨_, rfl⟩
    obtain ⟨wN, hwN⟩ : ∃ a : gW, a = (va_up (va_up w0 (0) (some (.inr (3, [.int (nI (sN x)), .null, .null])))) (1) (some (.inr (1, [.int 0, .null, .null])))) := ⟨_, rfl⟩
    rw [← hadN, ← hwN]
    refine g_st (show [Value.int (nI (sN x)), .ref z1, .ref z1, .ref (ad0 0)] = [.int (nI (sN x)), .ref (adN 1), .ref (adN 1), .ref (ad0 0)] by rw [hadN]; simp [va_up]) ?_
    have hSS := sN_or x
    refine g_callv hC (g_runI (As := [_]) (st := [_, _]) hC g_NOK_N (h_init l D adN wN (sN x) hSS (by rw [hwN]; simp [va_up]) (by rw [hwN]; simp [va_up, hn]) (by rw [hwN]; simp [va_up, hn])) (t_cwI 1 hC.1.2.2.2.2 m_19 m_20 m_2 k_H_init rfl rfl rfl hd_H_init ⟨by decide, by decide⟩) rfl rfl (Nat.le_of_ble_eq_true rfl) d_T_init_27 ⟨by decide, by decide⟩) ?_
    refine g_fix (fun ad2 w2 hH => ?_)
    obtain ⟨hH1, hH2, hH3, hH4, hH5⟩ := hH
    have a0 : ad2 0 = ad0 0 := by
      rw [hH1 0 (by decide) (by decide), hadN]
      simp [va_up]
    have a1 : adN 1 = ad2 1 := (hH1 1 (by decide) (by decide)).symm
    have ahi : ∀ q, 200 ≤ q → ad2 q = ad0 q := fun q hq => by
      rw [hH1 q (by omega) (by omega), hadN, va_up_ne _ _ (by omega)]
    have b0 : w2 0 = some (.inr (3, [.int (nI (sN x)), .null, .null])) := by
      rw [hH2 0 (by decide) (by decide) (by decide), hwN]
      simp [va_up]
    have bn : ∀ q, 3 < q → w2 q = none := fun q hq => by
      rw [hH2 q (by omega) (by omega) (by omega), hwN, va_up_ne _ _ (by omega), va_up_ne _ _ (by omega)]
      exact hn q (by omega)
    have bhi : ∀ q, 200 ≤ q → w2 q = w0 q := fun q hq => by
      rw [bn q (by omega), hn q (by omega)]
    refine g_st (show [Value.ref (adN 1), .ref (ad0 0)] = [.ref (ad2 1), .ref (ad0 0)] by rw [a1]) ?_
    refine g_putF (ci := 3) (ty := .object "TombstoneSites$History") (fs := [.int (nI (sN x)), .null, .null]) (V' := EQ ad2 (va_up w2 (0) (some (.inr (3, [.int (nI (sN x)), .ref (ad2 1), .null]))))) hC hnm (fun x h => List.mem_cons_of_mem _ (in_T x h)) ft_T tk_T n_T (0) (fun ad w h => by obtain ⟨rfl, rfl⟩ := h; exact ⟨by simp [va_up, b0, a0, bn], by simp [va_up, b0, a0, bn]⟩) rfl 1 (by decide) (List.mem_cons_of_mem _ m_85) rfl rfl rfl (by decide +kernel) rfl rfl (Nat.le_of_ble_eq_true rfl) (fun ad w h => by obtain ⟨rfl, rfl⟩ := h; exact ⟨rfl, rfl⟩) d_T_init_30 ?_
    refine g_aload_n (i := 0) hC d_T_init_33 rfl rfl (Or.inr ⟨_, rfl⟩) ?_
    refine g_aload_n (i := 0) hC d_T_init_34 rfl rfl (Or.inr ⟨_, rfl⟩) ?_
    refine g_get (ci := 3) (fs := [.int (nI (sN x)), .ref (ad2 1), .null]) hC (fun x h => List.mem_cons_of_mem _ (in_T x h)) (0) (fun ad w h => by obtain ⟨rfl, rfl⟩ := h; exact ⟨by simp [va_up, b0, a0, bn], by simp [va_up, b0, a0, bn]⟩) rfl 0 (by decide) (List.mem_cons_of_mem _ m_84) rfl rfl d_T_init_35 ?_
    refine g_newq (C := "TombstoneSites$Copy") (n := (sN x)) (k := 4) (V' := fun z => EQ (va_up ad2 4 z) (va_up (va_up w2 (0) (some (.inr (3, [.int (nI (sN x)), .ref (ad2 1), .null])))) 4 (some (.inl (.object "TombstoneSites$Copy", (sN x), .inr (.inr (.inr (.inr (fun _ => none))))))))) hC (List.mem_cons_of_mem _ m_42) hC.2.2.1.2.2 (fun ad w h => by rw [h.2]; simp [va_up, bn]) (by omega) (by omega) (by decide) (show 0 + 3 + 1554 + sN x ≤ 1746 by omega) (fun z ad w h => by obtain ⟨rfl, rfl⟩ := h; exact ⟨rfl, rfl⟩) d_T_init_38 (fun z2 => ?_)
    refine g_putF (ci := 3) (ty := .array (.object "TombstoneSites$Copy")) (fs := [.int (nI (sN x)), .ref (ad2 1), .null]) (V' := EQ (va_up ad2 4 z2) (va_up (va_up (va_up w2 (0) (some (.inr (3, [.int (nI (sN x)), .ref (ad2 1), .null])))) 4 (some (.inl (.object "TombstoneSites$Copy", (sN x), .inr (.inr (.inr (.inr (fun _ => none)))))))) (0) (some (.inr (3, [.int (nI (sN x)), .ref (ad2 1), .ref z2]))))) hC hnm (fun x h => List.mem_cons_of_mem _ (in_T x h)) ft_T tk_T n_T (0) (fun ad w h => by obtain ⟨rfl, rfl⟩ := h; exact ⟨by simp [va_up, b0, a0, bn], by simp [va_up, b0, a0, bn]⟩) rfl 2 (by decide) (List.mem_cons_of_mem _ m_86) rfl rfl rfl (by decide +kernel) rfl rfl (Nat.le_of_ble_eq_true rfl) (fun ad w h => by obtain ⟨rfl, rfl⟩ := h; exact ⟨rfl, rfl⟩) d_T_init_41 ?_
    refine g_iconst (v := nI 0) hC d_T_init_44 (by decide) ?_
    refine g_istore_n (i := 2) (lo' := [(2, _), (0, _), (1, _)]) hC d_T_init_45 rfl (by decide) rfl ?_
    refine g_widen (k := 4 + 4 * 0) (n := 1560 + 62 * 0) (by decide) (by omega) ?_
    refine g_V (V' := TI (sN x) 0 ad0 w0) (fun ad w h => by
      obtain ⟨rfl, rfl⟩ := h
      refine ⟨fun q hq => ?_, ?_, fun q hq => ?_, ?_, ?_, ?_, ?_, ?_, fun s hs => absurd hs (Nat.not_lt_zero _), fun q h1 h2 => ?_⟩
      · rw [va_up_ne _ _ (by omega)]
        exact ahi q hq
      · simp [va_up, a0]
      · rw [va_up_ne _ _ (by omega), va_up_ne _ _ (by omega), va_up_ne _ _ (by omega)]
        exact bhi q hq
      · simp [va_up]
      · simp [va_up]
        exact hH3
      · simp [va_up]
        exact hH4
      · simp [va_up]
        exact hH5
      · simp [va_up]
      · rw [va_up_ne _ _ (by omega), va_up_ne _ _ (by omega), va_up_ne _ _ (by omega)]
        exact bn q (by omega)) ?_
    refine g_los [1, 0] (lo' := [(0, _), (2, _)]) rfl ?_
    refine g_loopC (ι := Nat) (pc0 := 46) (fun j => 3 - j) (fun j => j ≤ (sN x)) (fun j => 4 + 4 * j) (fun j => 1560 + 62 * j) (fun j => TI (sN x) j ad0 w0) (fun j => [(0, .ref (ad0 0)), (2, .int (nI j))]) ?_ 0 (Nat.zero_le _)
    rintro j hI ih
    try dsimp only at hI ih ⊢
    refine g_fix (fun ad3 w3 hT => ?_)
    obtain ⟨t0, t1, t2, t3, t4, t5, t6, t7, t8, t9⟩ := id hT
    refine g_iload_n (i := 2) hC d_T_init_46 rfl rfl ?_
    refine g_aload_n (i := 0) hC d_T_init_47 rfl rfl (Or.inr ⟨_, rfl⟩) ?_
    refine g_get (ci := 3) (fs := [.int (nI (sN x)), .ref (ad3 1), .ref (ad3 4)]) hC (fun x h => List.mem_cons_of_mem _ (in_T x h)) 0 (fun ad w h => by obtain ⟨rfl, rfl⟩ := h; exact ⟨t1, t3⟩) rfl 0 (by decide) (List.mem_cons_of_mem _ m_84) rfl rfl d_T_init_48 ?_
    refine g_icmp_geN (tgt := 74) hC d_T_init_51 (by decide) (by omega) (by omega) (fun h51 => ?_) (fun h51 => ?_)
    · refine g_vret hC hr hlk d_T_init_74 (show 4 + 4 * j ≤ 16 by omega) (show 1560 + 62 * j ≤ 1746 by omega) (fun ad w hw => ?_)
      obtain ⟨rfl, rfl⟩ := hw
      have ej : j = sN x := by omega
      rw [ej] at hT
      exact hT.fin hSS
    · refine g_aload_n (i := 0) hC d_T_init_54 rfl rfl (Or.inr ⟨_, rfl⟩) ?_
      refine g_get (ci := 3) (fs := [.int (nI (sN x)), .ref (ad3 1), .ref (ad3 4)]) hC (fun x h => List.mem_cons_of_mem _ (in_T x h)) 0 (fun ad w h => by obtain ⟨rfl, rfl⟩ := h; exact ⟨t1, t3⟩) rfl 2 (by decide) (List.mem_cons_of_mem _ m_86) rfl rfl d_T_init_55 ?_
      refine g_iload_n (i := 2) hC d_T_init_58 rfl rfl ?_
      refine g_new (ci := 0) (k := 10 + 4 * j) (fs := [.int 0, .null, .int 0, .int 0, .null, .int 0, .int 0, .null]) (V' := fun z => EQ (va_up ad3 (10 + 4 * j) z) (va_up w3 (10 + 4 * j) (some (.inr (0, [.int 0, .null, .int 0, .int 0, .null, .int 0, .int 0, .null]))))) hC (fun x h => List.mem_cons_of_mem _ (in_K x h)) ft_K tk_K (List.mem_cons_of_mem _ m_42) (List.mem_cons_of_mem _ m_44) (List.mem_cons_of_mem _ m_5) rfl (fun ad w h => by rw [h.2]; exact t9 _ (Nat.le_refl _) (by omega)) (fun j hj => by match j, hj with | 0, _ => rfl | 1, _ => rfl | 2, _ => rfl | 3, _ => rfl | 4, _ => rfl | 5, _ => rfl | 6, _ => rfl | 7, _ => rfl) (show 4 + 4 * j + 1 ≤ 16 by omega) (show 1560 + 62 * j + 8 ≤ 1746 by omega) (fun z ad w h => by obtain ⟨rfl, rfl⟩ := h; exact ⟨rfl, rfl⟩) d_T_init_59 (fun z => ?_)
      obtain ⟨ad4, had4⟩ : ∃ a : Nat → Nat, a = va_up ad3 (10 + 4 * j) z := ⟨_, rfl⟩
      obtain ⟨w4, hw4⟩ : ∃ a : gW, a = va_up w3 (10 + 4 * j) (some (.inr (0, [.int 0, .null, .int 0, .int 0, .null, .int 0, .int 0, .null]))) := ⟨_, rfl⟩
      have hz : z = ad4 (10 + 4 * j) := by rw [had4, va_up_self]
      refine g_V (V' := EQ ad4 w4) (fun ad w h => ⟨h.1.trans had4.symm, h.2.trans hw4.symm⟩) ?_
      refine g_eqr hz ?_
      refine g_dup hC d_T_init_62 rfl ?_
      refine g_iload_n (i := 2) hC d_T_init_63 rfl rfl ?_
      refine g_callv hC (g_runI (As := [_]) (st := [_, _, _]) hC g_NOK_N (k_init l D ad4 w4 j (by rw [hw4, va_up_self]) (by rw [hw4, va_up_ne _ _ (by omega)]; exact t9 _ (by omega) (by omega)) (by rw [hw4, va_up_ne _ _ (by omega)]; exact t9 _ (by omega) (by omega)) (by rw [hw4, va_up_ne _ _ (by omega)]; exact t9 _ (by omega) (by omega))) (t_cwI 1 hC.1.2.2.2.2 m_45 m_46 m_5 k_K_init rfl rfl rfl hd_K_init ⟨by decide, by decide⟩) rfl rfl (Nat.le_of_ble_eq_true rfl) d_T_init_64 ⟨show 4 + 4 * j + 1 + 3 ≤ 16 by omega, show 1560 + 62 * j + 8 + 54 ≤ 1746 by omega⟩) ?_
      refine g_fix (fun ad5 w5 hK => ?_)
      refine g_qst (r := (R_K, F_K, 8)) (ci := 0) (qk := 10 + 4 * j) (n := (sN x)) (vs := cw_cp ad5 Z0 j) (f := fun s => if s < j then some (ad3 (10 + 4 * s)) else none) (V' := TI (sN x) (j + 1) ad0 w0) hC 4 (fun ad w h => by obtain ⟨rfl, rfl⟩ := h; exact ⟨by rw [hK.1 4 (by omega) (by omega) (by omega), had4, va_up_ne _ _ (by omega)], by rw [hK.2.1 4 (by omega) (by omega) (by omega) (by omega), hw4, va_up_ne _ _ (by omega)]; exact t7⟩) (fun ad w h => by obtain ⟨rfl, rfl⟩ := h; exact ⟨hK.1 _ (by omega) (by omega) (by omega), hK.2.2.1⟩) rfl (by omega) (by omega) (fun ad w h => by obtain ⟨rfl, rfl⟩ := h; exact TI.step (by omega) hT had4 hw4 hK) d_T_init_67 ?_
      refine g_iinc (i := 2) (k := 1) (lo' := [(2, _), (0, _)]) hC d_T_init_68 rfl (nI_inc _) (by decide) rfl ?_
      refine g_goto (tgt := 46) hC d_T_init_71 (by decide) ?_
      refine g_los [1, 0] rfl ?_
      refine g_widen (k := 4 + 4 * (j + 1)) (n := 1560 + 62 * (j + 1)) (by omega) (by omega) ?_
      exact ih (j + 1) (by omega) (by omega)
  · refine g_iconst (v := nI 3) hC d_T_init_10 (by decide) ?_
    refine g_goto (tgt := 15) hC d_T_init_11 (by decide) ?_
    refine g_eqi (show nI 3 = nI (sN x) by unfold sN; rw [if_pos h7]) ?_
    refine g_putF (ci := 3) (ty := .int) (fs := [.int 0, .null, .null]) (V' := EQ ad0 (va_up w0 (0) (some (.inr (3, [.int (nI (sN x)), .null, .null]))))) hC hnm (fun x h => List.mem_cons_of_mem _ (in_T x h)) ft_T tk_T n_T (0) (fun ad w h => by obtain ⟨rfl, rfl⟩ := h; exact ⟨by simp [va_up, h0, hn], by simp [va_up, h0, hn]⟩) rfl 0 (by decide) (List.mem_cons_of_mem _ m_84) rfl rfl rfl (by decide +kernel) rfl rfl (Nat.le_of_ble_eq_true rfl) (fun ad w h => by obtain ⟨rfl, rfl⟩ := h; exact ⟨rfl, rfl⟩) d_T_init_15 ?_
    refine g_aload_n (i := 0) hC d_T_init_18 rfl rfl (Or.inr ⟨_, rfl⟩) ?_
    refine g_new (ci := 1) (k := 1) (fs := [.int 0, .null, .null]) (V' := fun z => EQ (va_up ad0 (1) z) (va_up (va_up w0 (0) (some (.inr (3, [.int (nI (sN x)), .null, .null])))) (1) (some (.inr (1, [.int 0, .null, .null]))))) hC (fun x h => List.mem_cons_of_mem _ (in_H x h)) ft_H tk_H (List.mem_cons_of_mem _ m_17) (List.mem_cons_of_mem _ m_18) (List.mem_cons_of_mem _ m_2) rfl (fun ad w h => by rw [h.2]; simp [va_up, hn]) (fun j hj => by match j, hj with | 0, _ => rfl | 1, _ => rfl | 2, _ => rfl) (by decide) (by decide) (fun z ad w h => by obtain ⟨rfl, rfl⟩ := h; exact ⟨rfl, rfl⟩) d_T_init_19 (fun z1 => ?_)
    refine g_dup hC d_T_init_22 rfl ?_
    refine g_aload_n (i := 0) hC d_T_init_23 rfl rfl (Or.inr ⟨_, rfl⟩) ?_
    refine g_get (ci := 3) (fs := [.int (nI (sN x)), .null, .null]) hC (fun x h => List.mem_cons_of_mem _ (in_T x h)) (0) (fun ad w h => by obtain ⟨rfl, rfl⟩ := h; exact ⟨by simp [va_up, h0, hn], by simp [va_up, h0, hn]⟩) rfl 0 (by decide) (List.mem_cons_of_mem _ m_84) rfl rfl d_T_init_24 ?_
    obtain ⟨adN, hadN⟩ : ∃ a : Nat → Nat, a = (va_up ad0 (1) z1) := ⟨_, rfl⟩
    obtain ⟨wN, hwN⟩ : ∃ a : gW, a = (va_up (va_up w0 (0) (some (.inr (3, [.int (nI (sN x)), .null, .null])))) (1) (some (.inr (1, [.int 0, .null, .null])))) := ⟨_, rfl⟩
    rw [← hadN, ← hwN]
    refine g_st (show [Value.int (nI (sN x)), .ref z1, .ref z1, .ref (ad0 0)] = [.int (nI (sN x)), .ref (adN 1), .ref (adN 1), .ref (ad0 0)] by rw [hadN]; simp [va_up]) ?_
    have hSS := sN_or x
    refine g_callv hC (g_runI (As := [_]) (st := [_, _]) hC g_NOK_N (h_init l D adN wN (sN x) hSS (by rw [hwN]; simp [va_up]) (by rw [hwN]; simp [va_up, hn]) (by rw [hwN]; simp [va_up, hn])) (t_cwI 1 hC.1.2.2.2.2 m_19 m_20 m_2 k_H_init rfl rfl rfl hd_H_init ⟨by decide, by decide⟩) rfl rfl (Nat.le_of_ble_eq_true rfl) d_T_init_27 ⟨by decide, by decide⟩) ?_
    refine g_fix (fun ad2 w2 hH => ?_)
    obtain ⟨hH1, hH2, hH3, hH4, hH5⟩ := hH
    have a0 : ad2 0 = ad0 0 := by
      rw [hH1 0 (by decide) (by decide), hadN]
      simp [va_up]
    have a1 : adN 1 = ad2 1 := (hH1 1 (by decide) (by decide)).symm
    have ahi : ∀ q, 200 ≤ q → ad2 q = ad0 q := fun q hq => by
      rw [hH1 q (by omega) (by omega), hadN, va_up_ne _ _ (by omega)]
    have b0 : w2 0 = some (.inr (3, [.int (nI (sN x)), .null, .null])) := by
      rw [hH2 0 (by decide) (by decide) (by decide), hwN]
      simp [va_up]
    have bn : ∀ q, 3 < q → w2 q = none := fun q hq => by
      rw [hH2 q (by omega) (by omega) (by omega), hwN, va_up_ne _ _ (by omega), va_up_ne _ _ (by omega)]
      exact hn q (by omega)
    have bhi : ∀ q, 200 ≤ q → w2 q = w0 q := fun q hq => by
      rw [bn q (by omega), hn q (by omega)]
    refine g_st (show [Value.ref (adN 1), .ref (ad0 0)] = [.ref (ad2 1), .ref (ad0 0)] by rw [a1]) ?_
    refine g_putF (ci := 3) (ty := .object "TombstoneSites$History") (fs := [.int (nI (sN x)), .null, .null]) (V' := EQ ad2 (va_up w2 (0) (some (.inr (3, [.int (nI (sN x)), .ref (ad2 1), .null]))))) hC hnm (fun x h => List.mem_cons_of_mem _ (in_T x h)) ft_T tk_T n_T (0) (fun ad w h => by obtain ⟨rfl, rfl⟩ := h; exact ⟨by simp [va_up, b0, a0, bn], by simp [va_up, b0, a0, bn]⟩) rfl 1 (by decide) (List.mem_cons_of_mem _ m_85) rfl rfl rfl (by decide +kernel) rfl rfl (Nat.le_of_ble_eq_true rfl) (fun ad w h => by obtain ⟨rfl, rfl⟩ := h; exact ⟨rfl, rfl⟩) d_T_init_30 ?_
    refine g_aload_n (i := 0) hC d_T_init_33 rfl rfl (Or.inr ⟨_, rfl⟩) ?_
    refine g_aload_n (i := 0) hC d_T_init_34 rfl rfl (Or.inr ⟨_, rfl⟩) ?_
    refine g_get (ci := 3) (fs := [.int (nI (sN x)), .ref (ad2 1), .null]) hC (fun x h => List.mem_cons_of_mem _ (in_T x h)) (0) (fun ad w h => by obtain ⟨rfl, rfl⟩ := h; exact ⟨by simp [va_up, b0, a0, bn], by simp [va_up, b0, a0, bn]⟩) rfl 0 (by decide) (List.mem_cons_of_mem _ m_84) rfl rfl d_T_init_35 ?_
    refine g_newq (C := "TombstoneSites$Copy") (n := (sN x)) (k := 4) (V' := fun z => EQ (va_up ad2 4 z) (va_up (va_up w2 (0) (some (.inr (3, [.int (nI (sN x)), .ref (ad2 1), .null])))) 4 (some (.inl (.object "TombstoneSites$Copy", (sN x), .inr (.inr (.inr (.inr (fun _ => none))))))))) hC (List.mem_cons_of_mem _ m_42) hC.2.2.1.2.2 (fun ad w h => by rw [h.2]; simp [va_up, bn]) (by omega) (by omega) (by decide) (show 0 + 3 + 1554 + sN x ≤ 1746 by omega) (fun z ad w h => by obtain ⟨rfl, rfl⟩ := h; exact ⟨rfl, rfl⟩) d_T_init_38 (fun z2 => ?_)
    refine g_putF (ci := 3) (ty := .array (.object "TombstoneSites$Copy")) (fs := [.int (nI (sN x)), .ref (ad2 1), .null]) (V' := EQ (va_up ad2 4 z2) (va_up (va_up (va_up w2 (0) (some (.inr (3, [.int (nI (sN x)), .ref (ad2 1), .null])))) 4 (some (.inl (.object "TombstoneSites$Copy", (sN x), .inr (.inr (.inr (.inr (fun _ => none)))))))) (0) (some (.inr (3, [.int (nI (sN x)), .ref (ad2 1), .ref z2]))))) hC hnm (fun x h => List.mem_cons_of_mem _ (in_T x h)) ft_T tk_T n_T (0) (fun ad w h => by obtain ⟨rfl, rfl⟩ := h; exact ⟨by simp [va_up, b0, a0, bn], by simp [va_up, b0, a0, bn]⟩) rfl 2 (by decide) (List.mem_cons_of_mem _ m_86) rfl rfl rfl (by decide +kernel) rfl rfl (Nat.le_of_ble_eq_true rfl) (fun ad w h => by obtain ⟨rfl, rfl⟩ := h; exact ⟨rfl, rfl⟩) d_T_init_41 ?_
    refine g_iconst (v := nI 0) hC d_T_init_44 (by decide) ?_
    refine g_istore_n (i := 2) (lo' := [(2, _), (0, _), (1, _)]) hC d_T_init_45 rfl (by decide) rfl ?_
    refine g_widen (k := 4 + 4 * 0) (n := 1560 + 62 * 0) (by decide) (by omega) ?_
    refine g_V (V' := TI (sN x) 0 ad0 w0) (fun ad w h => by
      obtain ⟨rfl, rfl⟩ := h
      refine ⟨fun q hq => ?_, ?_, fun q hq => ?_, ?_, ?_, ?_, ?_, ?_, fun s hs => absurd hs (Nat.not_lt_zero _), fun q h1 h2 => ?_⟩
      · rw [va_up_ne _ _ (by omega)]
        exact ahi q hq
      · simp [va_up, a0]
      · rw [va_up_ne _ _ (by omega), va_up_ne _ _ (by omega), va_up_ne _ _ (by omega)]
        exact bhi q hq
      · simp [va_up]
      · simp [va_up]
        exact hH3
      · simp [va_up]
        exact hH4
      · simp [va_up]
        exact hH5
      · simp [va_up]
      · rw [va_up_ne _ _ (by omega), va_up_ne _ _ (by omega), va_up_ne _ _ (by omega)]
        exact bn q (by omega)) ?_
    refine g_los [1, 0] (lo' := [(0, _), (2, _)]) rfl ?_
    refine g_loopC (ι := Nat) (pc0 := 46) (fun j => 3 - j) (fun j => j ≤ (sN x)) (fun j => 4 + 4 * j) (fun j => 1560 + 62 * j) (fun j => TI (sN x) j ad0 w0) (fun j => [(0, .ref (ad0 0)), (2, .int (nI j))]) ?_ 0 (Nat.zero_le _)
    rintro j hI ih
    try dsimp only at hI ih ⊢
    refine g_fix (fun ad3 w3 hT => ?_)
    obtain ⟨t0, t1, t2, t3, t4, t5, t6, t7, t8, t9⟩ := id hT
    refine g_iload_n (i := 2) hC d_T_init_46 rfl rfl ?_
    refine g_aload_n (i := 0) hC d_T_init_47 rfl rfl (Or.inr ⟨_, rfl⟩) ?_
    refine g_get (ci := 3) (fs := [.int (nI (sN x)), .ref (ad3 1), .ref (ad3 4)]) hC (fun x h => List.mem_cons_of_mem _ (in_T x h)) 0 (fun ad w h => by obtain ⟨rfl, rfl⟩ := h; exact ⟨t1, t3⟩) rfl 0 (by decide) (List.mem_cons_of_mem _ m_84) rfl rfl d_T_init_48 ?_
    refine g_icmp_geN (tgt := 74) hC d_T_init_51 (by decide) (by omega) (by omega) (fun h51 => ?_) (fun h51 => ?_)
    · refine g_vret hC hr hlk d_T_init_74 (show 4 + 4 * j ≤ 16 by omega) (show 1560 + 62 * j ≤ 1746 by omega) (fun ad w hw => ?_)
      obtain ⟨rfl, rfl⟩ := hw
      have ej : j = sN x := by omega
      rw [ej] at hT
      exact hT.fin hSS
    · refine g_aload_n (i := 0) hC d_T_init_54 rfl rfl (Or.inr ⟨_, rfl⟩) ?_
      refine g_get (ci := 3) (fs := [.int (nI (sN x)), .ref (ad3 1), .ref (ad3 4)]) hC (fun x h => List.mem_cons_of_mem _ (in_T x h)) 0 (fun ad w h => by obtain ⟨rfl, rfl⟩ := h; exact ⟨t1, t3⟩) rfl 2 (by decide) (List.mem_cons_of_mem _ m_86) rfl rfl d_T_init_55 ?_
      refine g_iload_n (i := 2) hC d_T_init_58 rfl rfl ?_
      refine g_new (ci := 0) (k := 10 + 4 * j) (fs := [.int 0, .null, .int 0, .int 0, .null, .int 0, .int 0, .null]) (V' := fun z => EQ (va_up ad3 (10 + 4 * j) z) (va_up w3 (10 + 4 * j) (some (.inr (0, [.int 0, .null, .int 0, .int 0, .null, .int 0, .int 0, .null]))))) hC (fun x h => List.mem_cons_of_mem _ (in_K x h)) ft_K tk_K (List.mem_cons_of_mem _ m_42) (List.mem_cons_of_mem _ m_44) (List.mem_cons_of_mem _ m_5) rfl (fun ad w h => by rw [h.2]; exact t9 _ (Nat.le_refl _) (by omega)) (fun j hj => by match j, hj with | 0, _ => rfl | 1, _ => rfl | 2, _ => rfl | 3, _ => rfl | 4, _ => rfl | 5, _ => rfl | 6, _ => rfl | 7, _ => rfl) (show 4 + 4 * j + 1 ≤ 16 by omega) (show 1560 + 62 * j + 8 ≤ 1746 by omega) (fun z ad w h => by obtain ⟨rfl, rfl⟩ := h; exact ⟨rfl, rfl⟩) d_T_init_59 (fun z => ?_)
      obtain ⟨ad4, had4⟩ : ∃ a : Nat → Nat, a = va_up ad3 (10 + 4 * j) z := ⟨_, rfl⟩
      obtain ⟨w4, hw4⟩ : ∃ a : gW, a = va_up w3 (10 + 4 * j) (some (.inr (0, [.int 0, .null, .int 0, .int 0, .null, .int 0, .int 0, .null]))) := ⟨_, rfl⟩
      have hz : z = ad4 (10 + 4 * j) := by rw [had4, va_up_self]
      refine g_V (V' := EQ ad4 w4) (fun ad w h => ⟨h.1.trans had4.symm, h.2.trans hw4.symm⟩) ?_
      refine g_eqr hz ?_
      refine g_dup hC d_T_init_62 rfl ?_
      refine g_iload_n (i := 2) hC d_T_init_63 rfl rfl ?_
      refine g_callv hC (g_runI (As := [_]) (st := [_, _, _]) hC g_NOK_N (k_init l D ad4 w4 j (by rw [hw4, va_up_self]) (by rw [hw4, va_up_ne _ _ (by omega)]; exact t9 _ (by omega) (by omega)) (by rw [hw4, va_up_ne _ _ (by omega)]; exact t9 _ (by omega) (by omega)) (by rw [hw4, va_up_ne _ _ (by omega)]; exact t9 _ (by omega) (by omega))) (t_cwI 1 hC.1.2.2.2.2 m_45 m_46 m_5 k_K_init rfl rfl rfl hd_K_init ⟨by decide, by decide⟩) rfl rfl (Nat.le_of_ble_eq_true rfl) d_T_init_64 ⟨show 4 + 4 * j + 1 + 3 ≤ 16 by omega, show 1560 + 62 * j + 8 + 54 ≤ 1746 by omega⟩) ?_
      refine g_fix (fun ad5 w5 hK => ?_)
      refine g_qst (r := (R_K, F_K, 8)) (ci := 0) (qk := 10 + 4 * j) (n := (sN x)) (vs := cw_cp ad5 Z0 j) (f := fun s => if s < j then some (ad3 (10 + 4 * s)) else none) (V' := TI (sN x) (j + 1) ad0 w0) hC 4 (fun ad w h => by obtain ⟨rfl, rfl⟩ := h; exact ⟨by rw [hK.1 4 (by omega) (by omega) (by omega), had4, va_up_ne _ _ (by omega)], by rw [hK.2.1 4 (by omega) (by omega) (by omega) (by omega), hw4, va_up_ne _ _ (by omega)]; exact t7⟩) (fun ad w h => by obtain ⟨rfl, rfl⟩ := h; exact ⟨hK.1 _ (by omega) (by omega) (by omega), hK.2.2.1⟩) rfl (by omega) (by omega) (fun ad w h => by obtain ⟨rfl, rfl⟩ := h; exact TI.step (by omega) hT had4 hw4 hK) d_T_init_67 ?_
      refine g_iinc (i := 2) (k := 1) (lo' := [(2, _), (0, _)]) hC d_T_init_68 rfl (nI_inc _) (by decide) rfl ?_
      refine g_goto (tgt := 46) hC d_T_init_71 (by decide) ?_
      refine g_los [1, 0] rfl ?_
      refine g_widen (k := 4 + 4 * (j + 1)) (n := 1560 + 62 * (j + 1)) (by omega) (by omega) ?_
      exact ih (j + 1) (by omega) (by omega)
