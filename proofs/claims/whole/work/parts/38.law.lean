set_option maxRecDepth 100000 in
set_option maxHeartbeats 8000000 in
theorem law_G {p : Program} {e : Env} {s : State} {m : MethodId} {below : List Frame} {meth : Method} {c : Code} (l : Launch) {b L : Nat} {xs : Nat → Int32} (D : va_G) (hL : L ≤ 2049) (hC : g_C p s m #[Value.ref b] c D gCl g_N (fun q => s.heap.size ≤ q) 4 c_L_law R_L (Cond.initialized R_L :: gT)) (hr : meth.sig.returnType = ret) (hlk : meth.locks = false) (hX : va_X b L xs s s.heap) (hbl : b < s.heap.size) : G p l e room_1 s m #[Value.ref b] below meth c D gCl (fun q => s.heap.size ≤ q) 4 (lw_Z below #[Value.ref b] s) 0 0 (EQ (fun _ => 0) (fun _ => none)) 0 [(0, .ref b)] [] := by
  have hbA : ¬ (fun q => s.heap.size ≤ q) b := Nat.not_le.mpr hbl
  refine g_new (ci := 3) (k := 0) (fs := [.int 0, .null, .null]) (V' := fun z => EQ (va_up (fun _ => 0) 0 z) (va_up (fun _ => none) 0 (some (.inr (3, [.int 0, .null, .null]))))) hC (fun x h => List.mem_cons_of_mem _ (in_T x h)) ft_T tk_T (List.mem_cons_of_mem _ m_9) (List.mem_cons_of_mem _ m_10) (List.mem_cons_of_mem _ m_1) rfl (fun ad w h => by rw [h.2]; skip) (fun j hj => by match j, hj with | 0, _ => rfl | 1, _ => rfl | 2, _ => rfl) (by decide) (by decide) (fun z ad w h => by obtain ⟨rfl, rfl⟩ := h; exact ⟨rfl, rfl⟩) d_L_law_0 (fun z1 => ?_)
  obtain ⟨ad1, had1⟩ : ∃ a : Nat → Nat, a = va_up (fun _ => 0) 0 z1 := ⟨_, rfl⟩
  obtain ⟨w1, hw1⟩ : ∃ a : gW, a = va_up (fun _ => none) 0 (some (.inr (3, [.int 0, .null, .null]))) := ⟨_, rfl⟩
  have hz1 : z1 = ad1 0 := by rw [had1, va_up_self]
  refine g_V (V' := EQ ad1 w1) (fun ad w h => ⟨h.1.trans had1.symm, h.2.trans hw1.symm⟩) ?_
  refine g_eqr hz1 ?_
  refine g_dup hC d_L_law_3 rfl ?_
  refine g_aload_n (i := 0) hC d_L_law_4 rfl rfl (Or.inr ⟨_, rfl⟩) ?_
  refine g_iconst (v := nI 0) hC d_L_law_5 (by decide) ?_
  refine g_cell hC hX hbl hbA (by omega) (t_cwS 2 hC.1.2.2.2.2 m_311 m_312 m_0 k_L_cell rfl rfl hd_L_cell ⟨by decide, by decide⟩) (Nat.le_of_ble_eq_true rfl) d_L_law_6 ⟨by decide, by decide⟩ ?_
  refine g_callv hC (g_runI (As := [_]) (st := [_]) hC g_NOK_N (t_init l D ad1 w1 (sc0 L xs) (by rw [hw1, va_up_self]) (fun q hq => by rw [hw1, va_up_ne _ _ (by omega)])) (t_cwI 1 hC.1.2.2.2.2 m_11 m_12 m_1 k_T_init rfl rfl rfl hd_T_init ⟨by decide, by decide⟩) rfl rfl (Nat.le_of_ble_eq_true rfl) d_L_law_9 ⟨by decide, by decide⟩) ?_
  refine g_fix (fun ad2 w2 hCI => ?_)
  refine g_eqr hCI.2.1.symm ?_
  refine g_astore_n (i := 1) (lo' := [(1, _), (0, _)]) hC d_L_law_12 rfl (Or.inr ⟨_, rfl⟩) (by decide) rfl ?_
  refine g_new (ci := 4) (k := 200) (fs := [.int 0, .null, .null, .null, .null, .null, .null, .null, .null, .null, .null, .null, .null, .null, .null]) (V' := fun z => EQ (va_up ad2 200 z) (va_up w2 200 (some (.inr (4, [.int 0, .null, .null, .null, .null, .null, .null, .null, .null, .null, .null, .null, .null, .null, .null]))))) hC (fun x h => List.mem_cons_of_mem _ (in_M x h)) ft_M tk_M (List.mem_cons_of_mem _ m_314) (List.mem_cons_of_mem _ m_315) (List.mem_cons_of_mem _ m_6) rfl (fun ad w h => by rw [h.2]; (show w2 200 = none; rw [hCI.2.2.2.1 200 (Nat.le_refl _), hw1, va_up_ne _ _ (by decide)])) (fun j hj => by match j, hj with | 0, _ => rfl | 1, _ => rfl | 2, _ => rfl | 3, _ => rfl | 4, _ => rfl | 5, _ => rfl | 6, _ => rfl | 7, _ => rfl | 8, _ => rfl | 9, _ => rfl | 10, _ => rfl | 11, _ => rfl | 12, _ => rfl | 13, _ => rfl | 14, _ => rfl) (by decide) (by decide) (fun z ad w h => by obtain ⟨rfl, rfl⟩ := h; exact ⟨rfl, rfl⟩) d_L_law_13 (fun z2 => ?_)
  obtain ⟨ad3, had3⟩ : ∃ a : Nat → Nat, a = va_up ad2 200 z2 := ⟨_, rfl⟩
  obtain ⟨w3, hw3⟩ : ∃ a : gW, a = va_up w2 200 (some (.inr (4, [.int 0, .null, .null, .null, .null, .null, .null, .null, .null, .null, .null, .null, .null, .null, .null]))) := ⟨_, rfl⟩
  have hz2 : z2 = ad3 200 := by rw [had3, va_up_self]
  refine g_V (V' := EQ ad3 w3) (fun ad w h => ⟨h.1.trans had3.symm, h.2.trans hw3.symm⟩) ?_
  refine g_eqr hz2 ?_
  refine g_dup hC d_L_law_16 rfl ?_
  refine g_aload_n (i := 0) hC d_L_law_17 rfl rfl (Or.inr ⟨_, rfl⟩) ?_
  refine g_iconst (v := nI 0) hC d_L_law_18 (by decide) ?_
  refine g_cell hC hX hbl hbA (by omega) (t_cwS 2 hC.1.2.2.2.2 m_311 m_312 m_0 k_L_cell rfl rfl hd_L_cell ⟨by decide, by decide⟩) (Nat.le_of_ble_eq_true rfl) d_L_law_19 ⟨by decide, by decide⟩ ?_
  refine g_callv hC (g_runI (As := [_]) (st := [_]) hC g_NOK_N (m_init l D ad3 w3 (sc0 L xs) (by rw [hw3, va_up_self]) (fun q hq => by rw [hw3, va_up_ne _ _ (by omega), hCI.2.2.2.1 q (by omega), hw1, va_up_ne _ _ (by omega)])) (t_cwI 1 hC.1.2.2.2.2 m_316 m_317 m_6 k_M_init rfl rfl rfl hd_M_init ⟨by decide, by decide⟩) rfl rfl (Nat.le_of_ble_eq_true rfl) d_L_law_22 ⟨by decide, by decide⟩) ?_
  refine g_fix (fun ad4 w4 hMI => ?_)
  have a40 : ad4 0 = ad2 0 := by rw [hMI.1 0 (by decide), had3, va_up_ne _ _ (by decide)]
  have a42 : ad4 200 = ad3 200 := hMI.1 200 (Nat.le_refl _)
  have hS0 := sN_or (sc0 L xs)
  have hLV : LV (sN (sc0 L xs)) M0 Z0 (ad2 0) (ad3 200) ad4 w4 := by
    refine ⟨INV0 hS0, SIM0 hS0, ⟨rfl, fun _ _ => rfl, cw_at0 (by omega) hCI.2.2.2.2.1 (fun q hq => ?_) (fun q hq => ?_), hCI.2.2.2.2.2⟩, ⟨rfl, fun _ _ => rfl, hMI.2.2.2.1, hMI.2.2.2.2⟩, a40, a42⟩
    · rw [hMI.2.2.1 q hq, hw3, va_up_ne _ _ (by omega)]
    · rw [hMI.1 q (by omega), had3, va_up_ne _ _ (by omega)]
  refine g_V (V' := fun ad w => ∃ σ ρ, LV (sN (sc0 L xs)) σ ρ (ad2 0) (ad3 200) ad w) (fun ad w h => by rw [h.1, h.2]; exact ⟨M0, Z0, hLV⟩) ?_
  clear hLV hMI
  generalize hSe : (sN (sc0 L xs)) = S at hS0 ⊢
  have hS3 : S ≤ 3 := by omega
  refine g_astore_n (i := 2) (lo' := [(2, _), (1, _), (0, _)]) hC d_L_law_25 rfl (Or.inr ⟨_, rfl⟩) (by decide) rfl ?_
  refine g_iconst (v := nI 1) hC d_L_law_26 (by decide) ?_
  refine g_istore_n (i := 3) (lo' := [(3, _), (2, _), (1, _), (0, _)]) hC d_L_law_27 rfl (by decide) rfl ?_
  generalize ad2 0 = a0
  generalize ad3 200 = a2
  refine g_los [3, 2, 1, 0] (lo' := [(0, .ref b), (1, .ref a0), (2, .ref a2), (3, .int (nI 1))]) rfl ?_
  refine g_widen (k := 32 + 1) (n := 8298 + 5 * 1) (by decide) (by decide) ?_
  refine g_loopC (ι := Nat) (pc0 := 28) (fun i => 4000 - i) (fun i => 1 ≤ i ∧ i ≤ 2060) (fun i => 32 + i) (fun i => 8298 + 5 * i) (fun i ad w => ∃ σ ρ, LV S σ ρ a0 a2 ad w) (fun i => [(0, .ref b), (1, .ref a0), (2, .ref a2), (3, .int (nI i))]) ?_ 1 ⟨by decide, by decide⟩
  rintro i hI ih
  try dsimp only at hI ih ⊢
  refine g_ex (fun σ => g_ex (fun ρ => ?_))
  refine g_fix (fun ad w hLV => ?_)
  obtain ⟨hInv, hM, hCW, hRX, ea0, ea2⟩ := hLV
  refine g_V (V' := CW S ρ ad w) (fun _ _ h => by rw [h.1, h.2]; exact hCW) ?_
  refine g_los [0, 1, 2, 3] (lo' := [(0, .ref b), (1, .ref (ad 0)), (2, .ref (ad 200)), (3, .int (nI i))]) (by rw [ea0, ea2]; rfl) ?_
  refine g_iload_n (i := 3) hC d_L_law_28 rfl rfl ?_
  refine g_aload_n (i := 0) hC d_L_law_29 rfl rfl (Or.inr ⟨_, rfl⟩) ?_
  refine g_slen hC hX hbl hbA d_L_law_30 ?_
  refine g_iconst (v := nI 4) hC d_L_law_31 (by decide) ?_
  refine g_isub hC d_L_law_32 ?_
  refine g_icmp_gt (tgt := 628) hC d_L_law_33 (by decide) (fun h33 => ?_) (fun h33 => ?_)
  · refine g_iconst (v := 1) hC d_L_law_628 (by decide) ?_
    exact fun ad w H locs ls hx0 hw hS hl => W.widen (by omega) (by omega) (va_forget (fun q h => hS.2.2 q h) (lw_ret hC.1.1 hC.1.2.1 hr hlk d_L_law_629))
  · have hi4 : i + 4 ≤ L := Nat.le_of_not_lt (fun z => h33 ((len4 hL (by omega)).mpr z))
    refine g_aload_n (i := 0) hC d_L_law_36 rfl rfl (Or.inr ⟨_, rfl⟩) ?_
    refine g_iload_n (i := 3) hC d_L_law_37 rfl rfl ?_
    refine g_sld hC hX hbl hbA (by omega) (by omega) d_L_law_38 ?_
    refine g_bipush (v := nI 15) hC d_L_law_39 (by decide) ?_
    refine g_iand hC d_L_law_41 ?_
    obtain ⟨n, hn16, hxn⟩ := and15 (xs i)
    refine g_eqi hxn ?_
    rcases (show n = 0 ∨ n = 1 ∨ n = 2 ∨ n = 3 ∨ n = 4 ∨ n = 5 ∨ n = 6 ∨ n = 7 ∨ n = 8 ∨ n = 9 ∨ n = 10 ∨ n = 11 ∨ n = 12 ∨ n = 13 ∨ n = 14 ∨ n = 15 by omega) with rfl | rfl | rfl | rfl | rfl | rfl | rfl | rfl | rfl | rfl | rfl | rfl | rfl | rfl | rfl | rfl
    · refine g_tblIn (tgt := 116) (off := 74) hC d_L_law_42 (by decide +kernel) (by decide +kernel) (by decide +kernel) (by decide) ?_
      refine g_aload_n (i := 1) hC d_L_law_116 rfl rfl (Or.inr ⟨_, rfl⟩) ?_
      refine g_calli hC (g_runV (q := 0) (As := []) (st := []) hC g_NOK_N (t_sites l D S ρ ad w) (t_cwV 0 hC.1.2.2.2.2 m_94 m_95 m_96 m_1 k_T_sites rfl rfl hd_T_sites ⟨by decide, by decide⟩) cw_ts rfl rfl rfl (Nat.le_of_ble_eq_true rfl) d_L_law_117 ⟨by show _ ≤ 600000; omega, by show _ ≤ 7302250; omega⟩) (fun r1 => ?_)
      refine g_and (fun e1 => ?_)
      have hAE : AE ad ad := fun _ _ => rfl
      refine g_fix (fun adx wx hx => ?_)
      obtain ⟨ead, hCW1, hRX1⟩ := sw_T hAE hx hRX
      refine g_V (V' := RX S σ ad wx) (fun _ _ h => by rw [h.1, h.2, ead]; exact hRX1) ?_
      refine g_los [0, 1, 2, 3] (lo' := [(0, .ref b), (1, .ref (ad 0)), (2, .ref (ad 200)), (3, .int (nI i))]) rfl ?_
      refine g_aload_n (i := 2) hC d_L_law_120 rfl rfl (Or.inr ⟨_, rfl⟩) ?_
      refine g_calli hC (g_runV (q := 200) (As := []) (st := [_]) hC g_NOK_N (r_sites l D S σ ad wx) (t_cwV 0 hC.1.2.2.2.2 m_366 m_367 m_368 m_6 k_M_sites rfl rfl hd_M_sites ⟨by decide, by decide⟩) (fun ad w h => ⟨by rw [h.1], h.2.2.1⟩) rfl rfl rfl (Nat.le_of_ble_eq_true rfl) d_L_law_121 ⟨by show _ ≤ 600000; omega, by show _ ≤ 7302250; omega⟩) (fun r2 => ?_)
      refine g_and (fun e2 => ?_)
      have er := e1.trans e2.symm
      refine g_icmp_eq (tgt := 622) hC d_L_law_124 (by decide) (fun h124 => ?_) (fun h124 => ?_)
      · refine g_iinc (i := 3) (k := 3) (lo' := [(3, _), (0, _), (1, _), (2, _)]) hC d_L_law_622 rfl (nI_add4 _) (by decide) rfl ?_
        refine g_goto (tgt := 28) hC d_L_law_625 (by decide) ?_
        refine g_los [1, 2, 3, 0] (lo' := [(0, .ref b), (1, .ref a0), (2, .ref a2), (3, .int (nI (i + 4)))]) (by rw [← ea0, ← ea2]; rfl) ?_
        refine g_widen (k := 32 + (i + 4)) (n := 8298 + 5 * (i + 4)) (by omega) (by omega) ?_
        refine g_V (V' := fun ad w => ∃ σ ρ, LV S σ ρ a0 a2 ad w) (fun ady wy hy => by
          obtain ⟨ead2, hC2, hR2⟩ := sw_M hy hCW1
          rw [ead2]
          exact ⟨σ, ρ, hInv, hM, hC2, hR2, ea0, ea2⟩) ?_
        exact ih (i + 4) ⟨by omega, by omega⟩ (by omega)
      · exact absurd er h124
    · refine g_tblIn (tgt := 129) (off := 87) hC d_L_law_42 (by decide +kernel) (by decide +kernel) (by decide +kernel) (by decide) ?_
      refine g_aload_n (i := 1) hC d_L_law_129 rfl rfl (Or.inr ⟨_, rfl⟩) ?_
      refine g_aload_n (i := 0) hC d_L_law_130 rfl rfl (Or.inr ⟨_, rfl⟩) ?_
      refine g_iload_n (i := 3) hC d_L_law_131 rfl rfl ?_
      refine g_iconst (v := nI 1) hC d_L_law_132 (by decide) ?_
      refine g_iaddN hC d_L_law_133 ?_
      refine g_sld hC hX hbl hbA (by omega) (by omega) d_L_law_134 ?_
      refine g_aload_n (i := 0) hC d_L_law_135 rfl rfl (Or.inr ⟨_, rfl⟩) ?_
      refine g_iload_n (i := 3) hC d_L_law_136 rfl rfl ?_
      refine g_iconst (v := nI 2) hC d_L_law_137 (by decide) ?_
      refine g_iaddN hC d_L_law_138 ?_
      refine g_sld hC hX hbl hbA (by omega) (by omega) d_L_law_139 ?_
      refine g_aload_n (i := 0) hC d_L_law_140 rfl rfl (Or.inr ⟨_, rfl⟩) ?_
      refine g_iload_n (i := 3) hC d_L_law_141 rfl rfl ?_
      refine g_iconst (v := nI 3) hC d_L_law_142 (by decide) ?_
      refine g_iaddN hC d_L_law_143 ?_
      refine g_sld hC hX hbl hbA (by omega) (by omega) d_L_law_144 ?_
      refine g_calli hC (g_runV (q := 0) (As := [_, _, _]) (st := []) hC g_NOK_N (t_insert l D S σ ρ ad w hInv hM (xs (i + 1)) (xs (i + 2)) (xs (i + 3))) (t_cwV 3 hC.1.2.2.2.2 m_98 m_99 m_100 m_1 k_T_insert rfl rfl hd_T_insert ⟨by decide, by decide⟩) cw_ts rfl rfl rfl (Nat.le_of_ble_eq_true rfl) d_L_law_145 ⟨by show _ ≤ 600000; omega, by show _ ≤ 7302250; omega⟩) (fun r1 => ?_)
      refine g_ex (fun ad1 => g_ex (fun ρ1 => g_ex (fun σ1 => g_and (fun e1 => ?_))))
      obtain ⟨hsp1, hI1, hM1, hAE⟩ := e1
      refine g_fix (fun adx wx hx => ?_)
      obtain ⟨ead, hCW1, hRX1⟩ := sw_T hAE hx hRX
      refine g_V (V' := RX S σ ad1 wx) (fun _ _ h => by rw [h.1, h.2, ead]; exact hRX1) ?_
      refine g_los [0, 1, 2, 3] (lo' := [(0, .ref b), (1, .ref (ad1 0)), (2, .ref (ad1 200)), (3, .int (nI i))]) (by rw [hAE 0 (by omega), hAE 200 (by omega)]; rfl) ?_
      refine g_aload_n (i := 2) hC d_L_law_148 rfl rfl (Or.inr ⟨_, rfl⟩) ?_
      refine g_aload_n (i := 0) hC d_L_law_149 rfl rfl (Or.inr ⟨_, rfl⟩) ?_
      refine g_iload_n (i := 3) hC d_L_law_150 rfl rfl ?_
      refine g_iconst (v := nI 1) hC d_L_law_151 (by decide) ?_
      refine g_iaddN hC d_L_law_152 ?_
      refine g_sld hC hX hbl hbA (by omega) (by omega) d_L_law_153 ?_
      refine g_aload_n (i := 0) hC d_L_law_154 rfl rfl (Or.inr ⟨_, rfl⟩) ?_
      refine g_iload_n (i := 3) hC d_L_law_155 rfl rfl ?_
      refine g_iconst (v := nI 2) hC d_L_law_156 (by decide) ?_
      refine g_iaddN hC d_L_law_157 ?_
      refine g_sld hC hX hbl hbA (by omega) (by omega) d_L_law_158 ?_
      refine g_aload_n (i := 0) hC d_L_law_159 rfl rfl (Or.inr ⟨_, rfl⟩) ?_
      refine g_iload_n (i := 3) hC d_L_law_160 rfl rfl ?_
      refine g_iconst (v := nI 3) hC d_L_law_161 (by decide) ?_
      refine g_iaddN hC d_L_law_162 ?_
      refine g_sld hC hX hbl hbA (by omega) (by omega) d_L_law_163 ?_
      refine g_calli hC (g_runV (q := 200) (As := [_, _, _]) (st := [_]) hC g_NOK_N (r_insert l D S σ ad1 wx hInv (xs (i + 1)) (xs (i + 2)) (xs (i + 3))) (t_cwV 3 hC.1.2.2.2.2 m_370 m_371 m_372 m_6 k_M_insert rfl rfl hd_M_insert ⟨by decide, by decide⟩) (fun ad w h => ⟨by rw [h.1], h.2.2.1⟩) rfl rfl rfl (Nat.le_of_ble_eq_true rfl) d_L_law_164 ⟨by show _ ≤ 600000; omega, by show _ ≤ 7302250; omega⟩) (fun r2 => ?_)
      refine g_ex (fun σ2 => g_ex (fun σ3 => g_and (fun e2 => ?_)))
      obtain ⟨hsp2, hE2⟩ := e2
      obtain ⟨er, es⟩ := SpIns_eq hInv hsp1 hsp2
      rw [← es] at hE2
      refine g_icmp_eq (tgt := 622) hC d_L_law_167 (by decide) (fun h167 => ?_) (fun h167 => ?_)
      · refine g_iinc (i := 3) (k := 3) (lo' := [(3, _), (0, _), (1, _), (2, _)]) hC d_L_law_622 rfl (nI_add4 _) (by decide) rfl ?_
        refine g_goto (tgt := 28) hC d_L_law_625 (by decide) ?_
        refine g_los [1, 2, 3, 0] (lo' := [(0, .ref b), (1, .ref a0), (2, .ref a2), (3, .int (nI (i + 4)))]) (by rw [← ea0, ← ea2, ← hAE 0 (by omega), ← hAE 200 (by omega)]; rfl) ?_
        refine g_widen (k := 32 + (i + 4)) (n := 8298 + 5 * (i + 4)) (by omega) (by omega) ?_
        refine g_V (V' := fun ad w => ∃ σ ρ, LV S σ ρ a0 a2 ad w) (fun ady wy hy => by
          obtain ⟨ead2, hC2, hR2⟩ := sw_M hy hCW1
          rw [ead2]
          exact ⟨σ3, ρ1, hE2.inv hI1, hM1.e12 hE2, hC2, hR2, (hAE 0 (by omega)).trans ea0, (hAE 200 (by omega)).trans ea2⟩) ?_
        exact ih (i + 4) ⟨by omega, by omega⟩ (by omega)
      · exact absurd er h167
    · refine g_tblIn (tgt := 172) (off := 130) hC d_L_law_42 (by decide +kernel) (by decide +kernel) (by decide +kernel) (by decide) ?_
      refine g_aload_n (i := 1) hC d_L_law_172 rfl rfl (Or.inr ⟨_, rfl⟩) ?_
      refine g_aload_n (i := 0) hC d_L_law_173 rfl rfl (Or.inr ⟨_, rfl⟩) ?_
      refine g_iload_n (i := 3) hC d_L_law_174 rfl rfl ?_
      refine g_iconst (v := nI 1) hC d_L_law_175 (by decide) ?_
      refine g_iaddN hC d_L_law_176 ?_
      refine g_sld hC hX hbl hbA (by omega) (by omega) d_L_law_177 ?_
      refine g_aload_n (i := 0) hC d_L_law_178 rfl rfl (Or.inr ⟨_, rfl⟩) ?_
      refine g_iload_n (i := 3) hC d_L_law_179 rfl rfl ?_
      refine g_iconst (v := nI 2) hC d_L_law_180 (by decide) ?_
      refine g_iaddN hC d_L_law_181 ?_
      refine g_sld hC hX hbl hbA (by omega) (by omega) d_L_law_182 ?_
      refine g_calli hC (g_runV (q := 0) (As := [_, _]) (st := []) hC g_NOK_N (t_erase l D S σ ρ ad w hInv hM (xs (i + 1)) (xs (i + 2))) (t_cwV 2 hC.1.2.2.2.2 m_183 m_184 m_185 m_1 k_T_erase rfl rfl hd_T_erase ⟨by decide, by decide⟩) cw_ts rfl rfl rfl (Nat.le_of_ble_eq_true rfl) d_L_law_183 ⟨by show _ ≤ 600000; omega, by show _ ≤ 7302250; omega⟩) (fun r1 => ?_)
      refine g_ex (fun ad1 => g_ex (fun ρ1 => g_ex (fun σ1 => g_and (fun e1 => ?_))))
      obtain ⟨hsp1, hI1, hM1, hAE⟩ := e1
      refine g_fix (fun adx wx hx => ?_)
      obtain ⟨ead, hCW1, hRX1⟩ := sw_T hAE hx hRX
      refine g_V (V' := RX S σ ad1 wx) (fun _ _ h => by rw [h.1, h.2, ead]; exact hRX1) ?_
      refine g_los [0, 1, 2, 3] (lo' := [(0, .ref b), (1, .ref (ad1 0)), (2, .ref (ad1 200)), (3, .int (nI i))]) (by rw [hAE 0 (by omega), hAE 200 (by omega)]; rfl) ?_
      refine g_aload_n (i := 2) hC d_L_law_186 rfl rfl (Or.inr ⟨_, rfl⟩) ?_
      refine g_aload_n (i := 0) hC d_L_law_187 rfl rfl (Or.inr ⟨_, rfl⟩) ?_
      refine g_iload_n (i := 3) hC d_L_law_188 rfl rfl ?_
      refine g_iconst (v := nI 1) hC d_L_law_189 (by decide) ?_
      refine g_iaddN hC d_L_law_190 ?_
      refine g_sld hC hX hbl hbA (by omega) (by omega) d_L_law_191 ?_
      refine g_aload_n (i := 0) hC d_L_law_192 rfl rfl (Or.inr ⟨_, rfl⟩) ?_
      refine g_iload_n (i := 3) hC d_L_law_193 rfl rfl ?_
      refine g_iconst (v := nI 2) hC d_L_law_194 (by decide) ?_
      refine g_iaddN hC d_L_law_195 ?_
      refine g_sld hC hX hbl hbA (by omega) (by omega) d_L_law_196 ?_
      refine g_calli hC (g_runV (q := 200) (As := [_, _]) (st := [_]) hC g_NOK_N (r_erase l D S σ ad1 wx hInv (xs (i + 1)) (xs (i + 2))) (t_cwV 2 hC.1.2.2.2.2 m_429 m_430 m_431 m_6 k_M_erase rfl rfl hd_M_erase ⟨by decide, by decide⟩) (fun ad w h => ⟨by rw [h.1], h.2.2.1⟩) rfl rfl rfl (Nat.le_of_ble_eq_true rfl) d_L_law_197 ⟨by show _ ≤ 600000; omega, by show _ ≤ 7302250; omega⟩) (fun r2 => ?_)
      refine g_ex (fun σ2 => g_ex (fun σ3 => g_and (fun e2 => ?_)))
      obtain ⟨hsp2, hE2⟩ := e2
      obtain ⟨er, es⟩ := SpEra_eq hInv hsp1 hsp2
      rw [← es] at hE2
      refine g_icmp_eq (tgt := 622) hC d_L_law_200 (by decide) (fun h200 => ?_) (fun h200 => ?_)
      · refine g_iinc (i := 3) (k := 3) (lo' := [(3, _), (0, _), (1, _), (2, _)]) hC d_L_law_622 rfl (nI_add4 _) (by decide) rfl ?_
        refine g_goto (tgt := 28) hC d_L_law_625 (by decide) ?_
        refine g_los [1, 2, 3, 0] (lo' := [(0, .ref b), (1, .ref a0), (2, .ref a2), (3, .int (nI (i + 4)))]) (by rw [← ea0, ← ea2, ← hAE 0 (by omega), ← hAE 200 (by omega)]; rfl) ?_
        refine g_widen (k := 32 + (i + 4)) (n := 8298 + 5 * (i + 4)) (by omega) (by omega) ?_
        refine g_V (V' := fun ad w => ∃ σ ρ, LV S σ ρ a0 a2 ad w) (fun ady wy hy => by
          obtain ⟨ead2, hC2, hR2⟩ := sw_M hy hCW1
          rw [ead2]
          exact ⟨σ3, ρ1, hE2.inv hI1, hM1.e12 hE2, hC2, hR2, (hAE 0 (by omega)).trans ea0, (hAE 200 (by omega)).trans ea2⟩) ?_
        exact ih (i + 4) ⟨by omega, by omega⟩ (by omega)
      · exact absurd er h200
    · refine g_tblIn (tgt := 205) (off := 163) hC d_L_law_42 (by decide +kernel) (by decide +kernel) (by decide +kernel) (by decide) ?_
      refine g_aload_n (i := 1) hC d_L_law_205 rfl rfl (Or.inr ⟨_, rfl⟩) ?_
      refine g_aload_n (i := 0) hC d_L_law_206 rfl rfl (Or.inr ⟨_, rfl⟩) ?_
      refine g_iload_n (i := 3) hC d_L_law_207 rfl rfl ?_
      refine g_iconst (v := nI 1) hC d_L_law_208 (by decide) ?_
      refine g_iaddN hC d_L_law_209 ?_
      refine g_sld hC hX hbl hbA (by omega) (by omega) d_L_law_210 ?_
      refine g_aload_n (i := 0) hC d_L_law_211 rfl rfl (Or.inr ⟨_, rfl⟩) ?_
      refine g_iload_n (i := 3) hC d_L_law_212 rfl rfl ?_
      refine g_iconst (v := nI 2) hC d_L_law_213 (by decide) ?_
      refine g_iaddN hC d_L_law_214 ?_
      refine g_sld hC hX hbl hbA (by omega) (by omega) d_L_law_215 ?_
      refine g_aload_n (i := 0) hC d_L_law_216 rfl rfl (Or.inr ⟨_, rfl⟩) ?_
      refine g_iload_n (i := 3) hC d_L_law_217 rfl rfl ?_
      refine g_iconst (v := nI 3) hC d_L_law_218 (by decide) ?_
      refine g_iaddN hC d_L_law_219 ?_
      refine g_sld hC hX hbl hbA (by omega) (by omega) d_L_law_220 ?_
      refine g_calli hC (g_runV (q := 0) (As := [_, _, _]) (st := []) hC g_NOK_N (t_deliver l D S σ ρ ad w hInv hM (xs (i + 1)) (xs (i + 2)) (xs (i + 3))) (t_cwV 3 hC.1.2.2.2.2 m_188 m_189 m_190 m_1 k_T_deliver rfl rfl hd_T_deliver ⟨by decide, by decide⟩) cw_ts rfl rfl rfl (Nat.le_of_ble_eq_true rfl) d_L_law_221 ⟨by show _ ≤ 600000; omega, by show _ ≤ 7302250; omega⟩) (fun r1 => ?_)
      refine g_ex (fun ρ1 => g_ex (fun σ1 => g_and (fun e1 => ?_)))
      obtain ⟨hsp1, hI1, hM1⟩ := e1
      have hAE : AE ad ad := fun _ _ => rfl
      refine g_fix (fun adx wx hx => ?_)
      obtain ⟨ead, hCW1, hRX1⟩ := sw_T hAE hx hRX
      refine g_V (V' := RX S σ ad wx) (fun _ _ h => by rw [h.1, h.2, ead]; exact hRX1) ?_
      refine g_los [0, 1, 2, 3] (lo' := [(0, .ref b), (1, .ref (ad 0)), (2, .ref (ad 200)), (3, .int (nI i))]) rfl ?_
      refine g_aload_n (i := 2) hC d_L_law_224 rfl rfl (Or.inr ⟨_, rfl⟩) ?_
      refine g_aload_n (i := 0) hC d_L_law_225 rfl rfl (Or.inr ⟨_, rfl⟩) ?_
      refine g_iload_n (i := 3) hC d_L_law_226 rfl rfl ?_
      refine g_iconst (v := nI 1) hC d_L_law_227 (by decide) ?_
      refine g_iaddN hC d_L_law_228 ?_
      refine g_sld hC hX hbl hbA (by omega) (by omega) d_L_law_229 ?_
      refine g_aload_n (i := 0) hC d_L_law_230 rfl rfl (Or.inr ⟨_, rfl⟩) ?_
      refine g_iload_n (i := 3) hC d_L_law_231 rfl rfl ?_
      refine g_iconst (v := nI 2) hC d_L_law_232 (by decide) ?_
      refine g_iaddN hC d_L_law_233 ?_
      refine g_sld hC hX hbl hbA (by omega) (by omega) d_L_law_234 ?_
      refine g_aload_n (i := 0) hC d_L_law_235 rfl rfl (Or.inr ⟨_, rfl⟩) ?_
      refine g_iload_n (i := 3) hC d_L_law_236 rfl rfl ?_
      refine g_iconst (v := nI 3) hC d_L_law_237 (by decide) ?_
      refine g_iaddN hC d_L_law_238 ?_
      refine g_sld hC hX hbl hbA (by omega) (by omega) d_L_law_239 ?_
      refine g_calli hC (g_runV (q := 200) (As := [_, _, _]) (st := [_]) hC g_NOK_N (r_deliver l D S σ ad wx hInv (xs (i + 1)) (xs (i + 2)) (xs (i + 3))) (t_cwV 3 hC.1.2.2.2.2 m_433 m_434 m_435 m_6 k_M_deliver rfl rfl hd_M_deliver ⟨by decide, by decide⟩) (fun ad w h => ⟨by rw [h.1], h.2.2.1⟩) rfl rfl rfl (Nat.le_of_ble_eq_true rfl) d_L_law_240 ⟨by show _ ≤ 600000; omega, by show _ ≤ 7302250; omega⟩) (fun r2 => ?_)
      refine g_ex (fun σ2 => g_ex (fun σ3 => g_and (fun e2 => ?_)))
      obtain ⟨⟨hsp2, -⟩, hE2⟩ := e2
      obtain ⟨er, es⟩ := SpDl_eq hInv hsp1 hsp2
      rw [← es] at hE2
      refine g_icmp_eq (tgt := 622) hC d_L_law_243 (by decide) (fun h243 => ?_) (fun h243 => ?_)
      · refine g_iinc (i := 3) (k := 3) (lo' := [(3, _), (0, _), (1, _), (2, _)]) hC d_L_law_622 rfl (nI_add4 _) (by decide) rfl ?_
        refine g_goto (tgt := 28) hC d_L_law_625 (by decide) ?_
        refine g_los [1, 2, 3, 0] (lo' := [(0, .ref b), (1, .ref a0), (2, .ref a2), (3, .int (nI (i + 4)))]) (by rw [← ea0, ← ea2]; rfl) ?_
        refine g_widen (k := 32 + (i + 4)) (n := 8298 + 5 * (i + 4)) (by omega) (by omega) ?_
        refine g_V (V' := fun ad w => ∃ σ ρ, LV S σ ρ a0 a2 ad w) (fun ady wy hy => by
          obtain ⟨ead2, hC2, hR2⟩ := sw_M hy hCW1
          rw [ead2]
          exact ⟨σ3, ρ1, hE2.inv hI1, hM1.e12 hE2, hC2, hR2, ea0, ea2⟩) ?_
        exact ih (i + 4) ⟨by omega, by omega⟩ (by omega)
      · exact absurd er h243
    · refine g_tblIn (tgt := 248) (off := 206) hC d_L_law_42 (by decide +kernel) (by decide +kernel) (by decide +kernel) (by decide) ?_
      refine g_aload_n (i := 1) hC d_L_law_248 rfl rfl (Or.inr ⟨_, rfl⟩) ?_
      refine g_aload_n (i := 0) hC d_L_law_249 rfl rfl (Or.inr ⟨_, rfl⟩) ?_
      refine g_iload_n (i := 3) hC d_L_law_250 rfl rfl ?_
      refine g_iconst (v := nI 1) hC d_L_law_251 (by decide) ?_
      refine g_iaddN hC d_L_law_252 ?_
      refine g_sld hC hX hbl hbA (by omega) (by omega) d_L_law_253 ?_
      refine g_aload_n (i := 0) hC d_L_law_254 rfl rfl (Or.inr ⟨_, rfl⟩) ?_
      refine g_iload_n (i := 3) hC d_L_law_255 rfl rfl ?_
      refine g_iconst (v := nI 2) hC d_L_law_256 (by decide) ?_
      refine g_iaddN hC d_L_law_257 ?_
      refine g_sld hC hX hbl hbA (by omega) (by omega) d_L_law_258 ?_
      refine g_i2l hC d_L_law_259 rfl ?_
      refine g_bipush (v := nI 32) hC d_L_law_260 (by decide) ?_
      refine g_lshl hC d_L_law_262 rfl ?_
      refine g_aload_n (i := 0) hC d_L_law_263 rfl rfl (Or.inr ⟨_, rfl⟩) ?_
      refine g_iload_n (i := 3) hC d_L_law_264 rfl rfl ?_
      refine g_iconst (v := nI 3) hC d_L_law_265 (by decide) ?_
      refine g_iaddN hC d_L_law_266 ?_
      refine g_sld hC hX hbl hbA (by omega) (by omega) d_L_law_267 ?_
      refine g_i2l hC d_L_law_268 rfl ?_
      refine g_ldc2 (v := 4294967295) hC d_L_law_269 (List.mem_cons_of_mem _ m_500) ?_
      refine g_land hC d_L_law_272 ?_
      refine g_lor hC d_L_law_273 ?_
      refine g_calli hC (g_runV (q := 0) (As := [_, _]) (st := []) hC g_NOK_N (t_arrive l D S σ ρ ad w hInv hM (xs (i + 1)) _) (t_cwV 2 hC.1.2.2.2.2 m_243 m_244 m_245 m_1 k_T_arrive rfl rfl hd_T_arrive ⟨by decide, by decide⟩) cw_ts rfl rfl rfl (Nat.le_of_ble_eq_true rfl) d_L_law_274 ⟨by show _ ≤ 600000; omega, by show _ ≤ 7302250; omega⟩) (fun r1 => ?_)
      refine g_ex (fun ρ1 => g_ex (fun σ1 => g_and (fun e1 => ?_)))
      obtain ⟨hsp1, hI1, hM1⟩ := e1
      have hAE : AE ad ad := fun _ _ => rfl
      refine g_fix (fun adx wx hx => ?_)
      obtain ⟨ead, hCW1, hRX1⟩ := sw_T hAE hx hRX
      refine g_V (V' := RX S σ ad wx) (fun _ _ h => by rw [h.1, h.2, ead]; exact hRX1) ?_
      refine g_los [0, 1, 2, 3] (lo' := [(0, .ref b), (1, .ref (ad 0)), (2, .ref (ad 200)), (3, .int (nI i))]) rfl ?_
      refine g_aload_n (i := 2) hC d_L_law_277 rfl rfl (Or.inr ⟨_, rfl⟩) ?_
      refine g_aload_n (i := 0) hC d_L_law_278 rfl rfl (Or.inr ⟨_, rfl⟩) ?_
      refine g_iload_n (i := 3) hC d_L_law_279 rfl rfl ?_
      refine g_iconst (v := nI 1) hC d_L_law_280 (by decide) ?_
      refine g_iaddN hC d_L_law_281 ?_
      refine g_sld hC hX hbl hbA (by omega) (by omega) d_L_law_282 ?_
      refine g_aload_n (i := 0) hC d_L_law_283 rfl rfl (Or.inr ⟨_, rfl⟩) ?_
      refine g_iload_n (i := 3) hC d_L_law_284 rfl rfl ?_
      refine g_iconst (v := nI 2) hC d_L_law_285 (by decide) ?_
      refine g_iaddN hC d_L_law_286 ?_
      refine g_sld hC hX hbl hbA (by omega) (by omega) d_L_law_287 ?_
      refine g_i2l hC d_L_law_288 rfl ?_
      refine g_bipush (v := nI 32) hC d_L_law_289 (by decide) ?_
      refine g_lshl hC d_L_law_291 rfl ?_
      refine g_aload_n (i := 0) hC d_L_law_292 rfl rfl (Or.inr ⟨_, rfl⟩) ?_
      refine g_iload_n (i := 3) hC d_L_law_293 rfl rfl ?_
      refine g_iconst (v := nI 3) hC d_L_law_294 (by decide) ?_
      refine g_iaddN hC d_L_law_295 ?_
      refine g_sld hC hX hbl hbA (by omega) (by omega) d_L_law_296 ?_
      refine g_i2l hC d_L_law_297 rfl ?_
      refine g_ldc2 (v := 4294967295) hC d_L_law_298 (List.mem_cons_of_mem _ m_500) ?_
      refine g_land hC d_L_law_301 ?_
      refine g_lor hC d_L_law_302 ?_
      refine g_calli hC (g_runV (q := 200) (As := [_, _]) (st := [_]) hC g_NOK_N (r_arrive l D S σ ad wx hInv (xs (i + 1)) _) (t_cwV 2 hC.1.2.2.2.2 m_449 m_450 m_451 m_6 k_M_arrive rfl rfl hd_M_arrive ⟨by decide, by decide⟩) (fun ad w h => ⟨by rw [h.1], h.2.2.1⟩) rfl rfl rfl (Nat.le_of_ble_eq_true rfl) d_L_law_303 ⟨by show _ ≤ 600000; omega, by show _ ≤ 7302250; omega⟩) (fun r2 => ?_)
      refine g_ex (fun σ2 => g_ex (fun σ3 => g_and (fun e2 => ?_)))
      obtain ⟨⟨hsp2, -⟩, hE2⟩ := e2
      obtain ⟨er, es⟩ := SpAr_eq hInv hsp1 hsp2
      rw [← es] at hE2
      refine g_icmp_eq (tgt := 622) hC d_L_law_306 (by decide) (fun h306 => ?_) (fun h306 => ?_)
      · refine g_iinc (i := 3) (k := 3) (lo' := [(3, _), (0, _), (1, _), (2, _)]) hC d_L_law_622 rfl (nI_add4 _) (by decide) rfl ?_
        refine g_goto (tgt := 28) hC d_L_law_625 (by decide) ?_
        refine g_los [1, 2, 3, 0] (lo' := [(0, .ref b), (1, .ref a0), (2, .ref a2), (3, .int (nI (i + 4)))]) (by rw [← ea0, ← ea2]; rfl) ?_
        refine g_widen (k := 32 + (i + 4)) (n := 8298 + 5 * (i + 4)) (by omega) (by omega) ?_
        refine g_V (V' := fun ad w => ∃ σ ρ, LV S σ ρ a0 a2 ad w) (fun ady wy hy => by
          obtain ⟨ead2, hC2, hR2⟩ := sw_M hy hCW1
          rw [ead2]
          exact ⟨σ3, ρ1, hE2.inv hI1, hM1.e12 hE2, hC2, hR2, ea0, ea2⟩) ?_
        exact ih (i + 4) ⟨by omega, by omega⟩ (by omega)
      · exact absurd er h306
    · refine g_tblIn (tgt := 311) (off := 269) hC d_L_law_42 (by decide +kernel) (by decide +kernel) (by decide +kernel) (by decide) ?_
      refine g_aload_n (i := 1) hC d_L_law_311 rfl rfl (Or.inr ⟨_, rfl⟩) ?_
      refine g_aload_n (i := 0) hC d_L_law_312 rfl rfl (Or.inr ⟨_, rfl⟩) ?_
      refine g_iload_n (i := 3) hC d_L_law_313 rfl rfl ?_
      refine g_iconst (v := nI 1) hC d_L_law_314 (by decide) ?_
      refine g_iaddN hC d_L_law_315 ?_
      refine g_sld hC hX hbl hbA (by omega) (by omega) d_L_law_316 ?_
      refine g_aload_n (i := 0) hC d_L_law_317 rfl rfl (Or.inr ⟨_, rfl⟩) ?_
      refine g_iload_n (i := 3) hC d_L_law_318 rfl rfl ?_
      refine g_iconst (v := nI 2) hC d_L_law_319 (by decide) ?_
      refine g_iaddN hC d_L_law_320 ?_
      refine g_sld hC hX hbl hbA (by omega) (by omega) d_L_law_321 ?_
      refine g_calli hC (g_runV (q := 0) (As := [_, _]) (st := []) hC g_NOK_N (t_sync l D S σ ρ ad w hInv hM (xs (i + 1)) (xs (i + 2))) (t_cwV 2 hC.1.2.2.2.2 m_258 m_259 m_260 m_1 k_T_sync rfl rfl hd_T_sync ⟨by decide, by decide⟩) cw_ts rfl rfl rfl (Nat.le_of_ble_eq_true rfl) d_L_law_322 ⟨by show _ ≤ 600000; omega, by show _ ≤ 7302250; omega⟩) (fun r1 => ?_)
      refine g_ex (fun ρ1 => g_ex (fun σ1 => g_and (fun e1 => ?_)))
      obtain ⟨hsp1, hI1, hM1⟩ := e1
      have hAE : AE ad ad := fun _ _ => rfl
      refine g_fix (fun adx wx hx => ?_)
      obtain ⟨ead, hCW1, hRX1⟩ := sw_T hAE hx hRX
      refine g_V (V' := RX S σ ad wx) (fun _ _ h => by rw [h.1, h.2, ead]; exact hRX1) ?_
      refine g_los [0, 1, 2, 3] (lo' := [(0, .ref b), (1, .ref (ad 0)), (2, .ref (ad 200)), (3, .int (nI i))]) rfl ?_
      refine g_aload_n (i := 2) hC d_L_law_325 rfl rfl (Or.inr ⟨_, rfl⟩) ?_
      refine g_aload_n (i := 0) hC d_L_law_326 rfl rfl (Or.inr ⟨_, rfl⟩) ?_
      refine g_iload_n (i := 3) hC d_L_law_327 rfl rfl ?_
      refine g_iconst (v := nI 1) hC d_L_law_328 (by decide) ?_
      refine g_iaddN hC d_L_law_329 ?_
      refine g_sld hC hX hbl hbA (by omega) (by omega) d_L_law_330 ?_
      refine g_aload_n (i := 0) hC d_L_law_331 rfl rfl (Or.inr ⟨_, rfl⟩) ?_
      refine g_iload_n (i := 3) hC d_L_law_332 rfl rfl ?_
      refine g_iconst (v := nI 2) hC d_L_law_333 (by decide) ?_
      refine g_iaddN hC d_L_law_334 ?_
      refine g_sld hC hX hbl hbA (by omega) (by omega) d_L_law_335 ?_
      refine g_calli hC (g_runV (q := 200) (As := [_, _]) (st := [_]) hC g_NOK_N (r_sync l D S σ ad wx hInv (xs (i + 1)) (xs (i + 2))) (t_cwV 2 hC.1.2.2.2.2 m_466 m_467 m_468 m_6 k_M_sync rfl rfl hd_M_sync ⟨by decide, by decide⟩) (fun ad w h => ⟨by rw [h.1], h.2.2.1⟩) rfl rfl rfl (Nat.le_of_ble_eq_true rfl) d_L_law_336 ⟨by show _ ≤ 600000; omega, by show _ ≤ 7302250; omega⟩) (fun r2 => ?_)
      refine g_ex (fun σ2 => g_ex (fun σ3 => g_and (fun e2 => ?_)))
      obtain ⟨⟨hsp2, -⟩, hE2⟩ := e2
      obtain ⟨er, es⟩ := SpSy_eq hInv hsp1 hsp2
      rw [← es] at hE2
      refine g_icmp_eq (tgt := 622) hC d_L_law_339 (by decide) (fun h339 => ?_) (fun h339 => ?_)
      · refine g_iinc (i := 3) (k := 3) (lo' := [(3, _), (0, _), (1, _), (2, _)]) hC d_L_law_622 rfl (nI_add4 _) (by decide) rfl ?_
        refine g_goto (tgt := 28) hC d_L_law_625 (by decide) ?_
        refine g_los [1, 2, 3, 0] (lo' := [(0, .ref b), (1, .ref a0), (2, .ref a2), (3, .int (nI (i + 4)))]) (by rw [← ea0, ← ea2]; rfl) ?_
        refine g_widen (k := 32 + (i + 4)) (n := 8298 + 5 * (i + 4)) (by omega) (by omega) ?_
        refine g_V (V' := fun ad w => ∃ σ ρ, LV S σ ρ a0 a2 ad w) (fun ady wy hy => by
          obtain ⟨ead2, hC2, hR2⟩ := sw_M hy hCW1
          rw [ead2]
          exact ⟨σ3, ρ1, hE2.inv hI1, hM1.e12 hE2, hC2, hR2, ea0, ea2⟩) ?_
        exact ih (i + 4) ⟨by omega, by omega⟩ (by omega)
      · exact absurd er h339
    · refine g_tblIn (tgt := 344) (off := 302) hC d_L_law_42 (by decide +kernel) (by decide +kernel) (by decide +kernel) (by decide) ?_
      refine g_aload_n (i := 1) hC d_L_law_344 rfl rfl (Or.inr ⟨_, rfl⟩) ?_
      refine g_aload_n (i := 0) hC d_L_law_345 rfl rfl (Or.inr ⟨_, rfl⟩) ?_
      refine g_iload_n (i := 3) hC d_L_law_346 rfl rfl ?_
      refine g_iconst (v := nI 1) hC d_L_law_347 (by decide) ?_
      refine g_iaddN hC d_L_law_348 ?_
      refine g_sld hC hX hbl hbA (by omega) (by omega) d_L_law_349 ?_
      refine g_aload_n (i := 0) hC d_L_law_350 rfl rfl (Or.inr ⟨_, rfl⟩) ?_
      refine g_iload_n (i := 3) hC d_L_law_351 rfl rfl ?_
      refine g_iconst (v := nI 2) hC d_L_law_352 (by decide) ?_
      refine g_iaddN hC d_L_law_353 ?_
      refine g_sld hC hX hbl hbA (by omega) (by omega) d_L_law_354 ?_
      refine g_calll hC (g_runV (q := 0) (As := [_, _]) (st := []) hC g_NOK_N (t_code l D S σ ρ ad w hInv hM (xs (i + 1)) (xs (i + 2))) (t_cwV 2 hC.1.2.2.2.2 m_265 m_266 m_267 m_1 k_T_code rfl rfl hd_T_code ⟨by decide, by decide⟩) cw_ts rfl rfl rfl (Nat.le_of_ble_eq_true rfl) d_L_law_355 ⟨by show _ ≤ 600000; omega, by show _ ≤ 7302250; omega⟩) (fun r1 => ?_)
      refine g_and (fun e1 => ?_)
      have hAE : AE ad ad := fun _ _ => rfl
      refine g_fix (fun adx wx hx => ?_)
      obtain ⟨ead, hCW1, hRX1⟩ := sw_T hAE hx hRX
      refine g_V (V' := RX S σ ad wx) (fun _ _ h => by rw [h.1, h.2, ead]; exact hRX1) ?_
      refine g_los [0, 1, 2, 3] (lo' := [(0, .ref b), (1, .ref (ad 0)), (2, .ref (ad 200)), (3, .int (nI i))]) rfl ?_
      refine g_aload_n (i := 2) hC d_L_law_358 rfl rfl (Or.inr ⟨_, rfl⟩) ?_
      refine g_aload_n (i := 0) hC d_L_law_359 rfl rfl (Or.inr ⟨_, rfl⟩) ?_
      refine g_iload_n (i := 3) hC d_L_law_360 rfl rfl ?_
      refine g_iconst (v := nI 1) hC d_L_law_361 (by decide) ?_
      refine g_iaddN hC d_L_law_362 ?_
      refine g_sld hC hX hbl hbA (by omega) (by omega) d_L_law_363 ?_
      refine g_aload_n (i := 0) hC d_L_law_364 rfl rfl (Or.inr ⟨_, rfl⟩) ?_
      refine g_iload_n (i := 3) hC d_L_law_365 rfl rfl ?_
      refine g_iconst (v := nI 2) hC d_L_law_366 (by decide) ?_
      refine g_iaddN hC d_L_law_367 ?_
      refine g_sld hC hX hbl hbA (by omega) (by omega) d_L_law_368 ?_
      refine g_calll hC (g_runV (q := 200) (As := [_, _]) (st := [_]) hC g_NOK_N (r_code l D S σ ad wx hInv (xs (i + 1)) (xs (i + 2))) (t_cwV 2 hC.1.2.2.2.2 m_470 m_454 m_455 m_6 k_M_code rfl rfl hd_M_code ⟨by decide, by decide⟩) (fun ad w h => ⟨by rw [h.1], h.2.2.1⟩) rfl rfl rfl (Nat.le_of_ble_eq_true rfl) d_L_law_369 ⟨by show _ ≤ 600000; omega, by show _ ≤ 7302250; omega⟩) (fun r2 => ?_)
      refine g_and (fun e2 => ?_)
      have er := SpCd_eq hInv e1 e2
      refine g_lcmp hC d_L_law_372 ?_
      refine g_if_eq (tgt := 622) hC d_L_law_373 (by decide) (fun h373 => ?_) (fun h373 => ?_)
      · refine g_iinc (i := 3) (k := 3) (lo' := [(3, _), (0, _), (1, _), (2, _)]) hC d_L_law_622 rfl (nI_add4 _) (by decide) rfl ?_
        refine g_goto (tgt := 28) hC d_L_law_625 (by decide) ?_
        refine g_los [1, 2, 3, 0] (lo' := [(0, .ref b), (1, .ref a0), (2, .ref a2), (3, .int (nI (i + 4)))]) (by rw [← ea0, ← ea2]; rfl) ?_
        refine g_widen (k := 32 + (i + 4)) (n := 8298 + 5 * (i + 4)) (by omega) (by omega) ?_
        refine g_V (V' := fun ad w => ∃ σ ρ, LV S σ ρ a0 a2 ad w) (fun ady wy hy => by
          obtain ⟨ead2, hC2, hR2⟩ := sw_M hy hCW1
          rw [ead2]
          exact ⟨σ, ρ, hInv, hM, hC2, hR2, ea0, ea2⟩) ?_
        exact ih (i + 4) ⟨by omega, by omega⟩ (by omega)
      · exact absurd (lg_cmp_0.mpr er) h373
    · refine g_tblIn (tgt := 378) (off := 336) hC d_L_law_42 (by decide +kernel) (by decide +kernel) (by decide +kernel) (by decide) ?_
      refine g_aload_n (i := 1) hC d_L_law_378 rfl rfl (Or.inr ⟨_, rfl⟩) ?_
      refine g_aload_n (i := 0) hC d_L_law_379 rfl rfl (Or.inr ⟨_, rfl⟩) ?_
      refine g_iload_n (i := 3) hC d_L_law_380 rfl rfl ?_
      refine g_iconst (v := nI 1) hC d_L_law_381 (by decide) ?_
      refine g_iaddN hC d_L_law_382 ?_
      refine g_sld hC hX hbl hbA (by omega) (by omega) d_L_law_383 ?_
      refine g_aload_n (i := 0) hC d_L_law_384 rfl rfl (Or.inr ⟨_, rfl⟩) ?_
      refine g_iload_n (i := 3) hC d_L_law_385 rfl rfl ?_
      refine g_iconst (v := nI 2) hC d_L_law_386 (by decide) ?_
      refine g_iaddN hC d_L_law_387 ?_
      refine g_sld hC hX hbl hbA (by omega) (by omega) d_L_law_388 ?_
      refine g_calli hC (g_runV (q := 0) (As := [_, _]) (st := []) hC g_NOK_N (t_executed l D S σ ρ ad w hInv hM (xs (i + 1)) (xs (i + 2))) (t_cwV 2 hC.1.2.2.2.2 m_271 m_272 m_273 m_1 k_T_executed rfl rfl hd_T_executed ⟨by decide, by decide⟩) cw_ts rfl rfl rfl (Nat.le_of_ble_eq_true rfl) d_L_law_389 ⟨by show _ ≤ 600000; omega, by show _ ≤ 7302250; omega⟩) (fun r1 => ?_)
      refine g_and (fun e1 => ?_)
      have hAE : AE ad ad := fun _ _ => rfl
      refine g_fix (fun adx wx hx => ?_)
      obtain ⟨ead, hCW1, hRX1⟩ := sw_T hAE hx hRX
      refine g_V (V' := RX S σ ad wx) (fun _ _ h => by rw [h.1, h.2, ead]; exact hRX1) ?_
      refine g_los [0, 1, 2, 3] (lo' := [(0, .ref b), (1, .ref (ad 0)), (2, .ref (ad 200)), (3, .int (nI i))]) rfl ?_
      refine g_aload_n (i := 2) hC d_L_law_392 rfl rfl (Or.inr ⟨_, rfl⟩) ?_
      refine g_aload_n (i := 0) hC d_L_law_393 rfl rfl (Or.inr ⟨_, rfl⟩) ?_
      refine g_iload_n (i := 3) hC d_L_law_394 rfl rfl ?_
      refine g_iconst (v := nI 1) hC d_L_law_395 (by decide) ?_
      refine g_iaddN hC d_L_law_396 ?_
      refine g_sld hC hX hbl hbA (by omega) (by omega) d_L_law_397 ?_
      refine g_aload_n (i := 0) hC d_L_law_398 rfl rfl (Or.inr ⟨_, rfl⟩) ?_
      refine g_iload_n (i := 3) hC d_L_law_399 rfl rfl ?_
      refine g_iconst (v := nI 2) hC d_L_law_400 (by decide) ?_
      refine g_iaddN hC d_L_law_401 ?_
      refine g_sld hC hX hbl hbA (by omega) (by omega) d_L_law_402 ?_
      refine g_calli hC (g_runV (q := 200) (As := [_, _]) (st := [_]) hC g_NOK_N (r_executed l D S σ ad wx hS3 (xs (i + 1)) (xs (i + 2))) (t_cwV 2 hC.1.2.2.2.2 m_471 m_472 m_473 m_6 k_M_executed rfl rfl hd_M_executed ⟨by decide, by decide⟩) (fun ad w h => ⟨by rw [h.1], h.2.2.1⟩) rfl rfl rfl (Nat.le_of_ble_eq_true rfl) d_L_law_403 ⟨by show _ ≤ 600000; omega, by show _ ≤ 7302250; omega⟩) (fun r2 => ?_)
      refine g_and (fun e2 => ?_)
      have er := e1.trans e2.symm
      refine g_icmp_eq (tgt := 622) hC d_L_law_406 (by decide) (fun h406 => ?_) (fun h406 => ?_)
      · refine g_iinc (i := 3) (k := 3) (lo' := [(3, _), (0, _), (1, _), (2, _)]) hC d_L_law_622 rfl (nI_add4 _) (by decide) rfl ?_
        refine g_goto (tgt := 28) hC d_L_law_625 (by decide) ?_
        refine g_los [1, 2, 3, 0] (lo' := [(0, .ref b), (1, .ref a0), (2, .ref a2), (3, .int (nI (i + 4)))]) (by rw [← ea0, ← ea2]; rfl) ?_
        refine g_widen (k := 32 + (i + 4)) (n := 8298 + 5 * (i + 4)) (by omega) (by omega) ?_
        refine g_V (V' := fun ad w => ∃ σ ρ, LV S σ ρ a0 a2 ad w) (fun ady wy hy => by
          obtain ⟨ead2, hC2, hR2⟩ := sw_M hy hCW1
          rw [ead2]
          exact ⟨σ, ρ, hInv, hM, hC2, hR2, ea0, ea2⟩) ?_
        exact ih (i + 4) ⟨by omega, by omega⟩ (by omega)
      · exact absurd er h406
    · refine g_tblIn (tgt := 411) (off := 369) hC d_L_law_42 (by decide +kernel) (by decide +kernel) (by decide +kernel) (by decide) ?_
      refine g_aload_n (i := 1) hC d_L_law_411 rfl rfl (Or.inr ⟨_, rfl⟩) ?_
      refine g_aload_n (i := 0) hC d_L_law_412 rfl rfl (Or.inr ⟨_, rfl⟩) ?_
      refine g_iload_n (i := 3) hC d_L_law_413 rfl rfl ?_
      refine g_iconst (v := nI 1) hC d_L_law_414 (by decide) ?_
      refine g_iaddN hC d_L_law_415 ?_
      refine g_sld hC hX hbl hbA (by omega) (by omega) d_L_law_416 ?_
      refine g_calli hC (g_runV (q := 0) (As := [_]) (st := []) hC g_NOK_N (t_waiting l D S σ ρ ad w hInv hM (xs (i + 1))) (t_cwV 1 hC.1.2.2.2.2 m_275 m_276 m_277 m_1 k_T_waiting rfl rfl hd_T_waiting ⟨by decide, by decide⟩) cw_ts rfl rfl rfl (Nat.le_of_ble_eq_true rfl) d_L_law_417 ⟨by show _ ≤ 600000; omega, by show _ ≤ 7302250; omega⟩) (fun r1 => ?_)
      refine g_and (fun e1 => ?_)
      have hAE : AE ad ad := fun _ _ => rfl
      refine g_fix (fun adx wx hx => ?_)
      obtain ⟨ead, hCW1, hRX1⟩ := sw_T hAE hx hRX
      refine g_V (V' := RX S σ ad wx) (fun _ _ h => by rw [h.1, h.2, ead]; exact hRX1) ?_
      refine g_los [0, 1, 2, 3] (lo' := [(0, .ref b), (1, .ref (ad 0)), (2, .ref (ad 200)), (3, .int (nI i))]) rfl ?_
      refine g_aload_n (i := 2) hC d_L_law_420 rfl rfl (Or.inr ⟨_, rfl⟩) ?_
      refine g_aload_n (i := 0) hC d_L_law_421 rfl rfl (Or.inr ⟨_, rfl⟩) ?_
      refine g_iload_n (i := 3) hC d_L_law_422 rfl rfl ?_
      refine g_iconst (v := nI 1) hC d_L_law_423 (by decide) ?_
      refine g_iaddN hC d_L_law_424 ?_
      refine g_sld hC hX hbl hbA (by omega) (by omega) d_L_law_425 ?_
      refine g_calli hC (g_runV (q := 200) (As := [_]) (st := [_]) hC g_NOK_N (r_waiting l D S σ ad wx hS3 (xs (i + 1))) (t_cwV 1 hC.1.2.2.2.2 m_475 m_476 m_477 m_6 k_M_waiting rfl rfl hd_M_waiting ⟨by decide, by decide⟩) (fun ad w h => ⟨by rw [h.1], h.2.2.1⟩) rfl rfl rfl (Nat.le_of_ble_eq_true rfl) d_L_law_426 ⟨by show _ ≤ 600000; omega, by show _ ≤ 7302250; omega⟩) (fun r2 => ?_)
      refine g_and (fun e2 => ?_)
      have er := e1.trans e2.symm
      refine g_icmp_eq (tgt := 622) hC d_L_law_429 (by decide) (fun h429 => ?_) (fun h429 => ?_)
      · refine g_iinc (i := 3) (k := 3) (lo' := [(3, _), (0, _), (1, _), (2, _)]) hC d_L_law_622 rfl (nI_add4 _) (by decide) rfl ?_
        refine g_goto (tgt := 28) hC d_L_law_625 (by decide) ?_
        refine g_los [1, 2, 3, 0] (lo' := [(0, .ref b), (1, .ref a0), (2, .ref a2), (3, .int (nI (i + 4)))]) (by rw [← ea0, ← ea2]; rfl) ?_
        refine g_widen (k := 32 + (i + 4)) (n := 8298 + 5 * (i + 4)) (by omega) (by omega) ?_
        refine g_V (V' := fun ad w => ∃ σ ρ, LV S σ ρ a0 a2 ad w) (fun ady wy hy => by
          obtain ⟨ead2, hC2, hR2⟩ := sw_M hy hCW1
          rw [ead2]
          exact ⟨σ, ρ, hInv, hM, hC2, hR2, ea0, ea2⟩) ?_
        exact ih (i + 4) ⟨by omega, by omega⟩ (by omega)
      · exact absurd er h429
    · refine g_tblIn (tgt := 434) (off := 392) hC d_L_law_42 (by decide +kernel) (by decide +kernel) (by decide +kernel) (by decide) ?_
      refine g_aload_n (i := 1) hC d_L_law_434 rfl rfl (Or.inr ⟨_, rfl⟩) ?_
      refine g_aload_n (i := 0) hC d_L_law_435 rfl rfl (Or.inr ⟨_, rfl⟩) ?_
      refine g_iload_n (i := 3) hC d_L_law_436 rfl rfl ?_
      refine g_iconst (v := nI 1) hC d_L_law_437 (by decide) ?_
      refine g_iaddN hC d_L_law_438 ?_
      refine g_sld hC hX hbl hbA (by omega) (by omega) d_L_law_439 ?_
      refine g_aload_n (i := 0) hC d_L_law_440 rfl rfl (Or.inr ⟨_, rfl⟩) ?_
      refine g_iload_n (i := 3) hC d_L_law_441 rfl rfl ?_
      refine g_iconst (v := nI 2) hC d_L_law_442 (by decide) ?_
      refine g_iaddN hC d_L_law_443 ?_
      refine g_sld hC hX hbl hbA (by omega) (by omega) d_L_law_444 ?_
      refine g_aload_n (i := 0) hC d_L_law_445 rfl rfl (Or.inr ⟨_, rfl⟩) ?_
      refine g_iload_n (i := 3) hC d_L_law_446 rfl rfl ?_
      refine g_iconst (v := nI 3) hC d_L_law_447 (by decide) ?_
      refine g_iaddN hC d_L_law_448 ?_
      refine g_sld hC hX hbl hbA (by omega) (by omega) d_L_law_449 ?_
      refine g_calli hC (g_runV (q := 0) (As := [_, _, _]) (st := []) hC g_NOK_N (t_place l D S σ ρ ad w hInv hM (xs (i + 1)) (xs (i + 2)) (xs (i + 3))) (t_cwV 3 hC.1.2.2.2.2 m_279 m_280 m_281 m_1 k_T_place rfl rfl hd_T_place ⟨by decide, by decide⟩) cw_ts rfl rfl rfl (Nat.le_of_ble_eq_true rfl) d_L_law_450 ⟨by show _ ≤ 600000; omega, by show _ ≤ 7302250; omega⟩) (fun r1 => ?_)
      refine g_and (fun e1 => ?_)
      have hAE : AE ad ad := fun _ _ => rfl
      refine g_fix (fun adx wx hx => ?_)
      obtain ⟨ead, hCW1, hRX1⟩ := sw_T hAE hx hRX
      refine g_V (V' := RX S σ ad wx) (fun _ _ h => by rw [h.1, h.2, ead]; exact hRX1) ?_
      refine g_los [0, 1, 2, 3] (lo' := [(0, .ref b), (1, .ref (ad 0)), (2, .ref (ad 200)), (3, .int (nI i))]) rfl ?_
      refine g_aload_n (i := 2) hC d_L_law_453 rfl rfl (Or.inr ⟨_, rfl⟩) ?_
      refine g_aload_n (i := 0) hC d_L_law_454 rfl rfl (Or.inr ⟨_, rfl⟩) ?_
      refine g_iload_n (i := 3) hC d_L_law_455 rfl rfl ?_
      refine g_iconst (v := nI 1) hC d_L_law_456 (by decide) ?_
      refine g_iaddN hC d_L_law_457 ?_
      refine g_sld hC hX hbl hbA (by omega) (by omega) d_L_law_458 ?_
      refine g_aload_n (i := 0) hC d_L_law_459 rfl rfl (Or.inr ⟨_, rfl⟩) ?_
      refine g_iload_n (i := 3) hC d_L_law_460 rfl rfl ?_
      refine g_iconst (v := nI 2) hC d_L_law_461 (by decide) ?_
      refine g_iaddN hC d_L_law_462 ?_
      refine g_sld hC hX hbl hbA (by omega) (by omega) d_L_law_463 ?_
      refine g_aload_n (i := 0) hC d_L_law_464 rfl rfl (Or.inr ⟨_, rfl⟩) ?_
      refine g_iload_n (i := 3) hC d_L_law_465 rfl rfl ?_
      refine g_iconst (v := nI 3) hC d_L_law_466 (by decide) ?_
      refine g_iaddN hC d_L_law_467 ?_
      refine g_sld hC hX hbl hbA (by omega) (by omega) d_L_law_468 ?_
      refine g_calli hC (g_runV (q := 200) (As := [_, _, _]) (st := [_]) hC g_NOK_N (r_place l D S σ ad wx hInv (xs (i + 1)) (xs (i + 2)) (xs (i + 3))) (t_cwV 3 hC.1.2.2.2.2 m_479 m_480 m_481 m_6 k_M_place rfl rfl hd_M_place ⟨by decide, by decide⟩) (fun ad w h => ⟨by rw [h.1], h.2.2.1⟩) rfl rfl rfl (Nat.le_of_ble_eq_true rfl) d_L_law_469 ⟨by show _ ≤ 600000; omega, by show _ ≤ 7302250; omega⟩) (fun r2 => ?_)
      refine g_and (fun e2 => ?_)
      have er := SpPl_eq hInv e1 e2
      refine g_icmp_eq (tgt := 622) hC d_L_law_472 (by decide) (fun h472 => ?_) (fun h472 => ?_)
      · refine g_iinc (i := 3) (k := 3) (lo' := [(3, _), (0, _), (1, _), (2, _)]) hC d_L_law_622 rfl (nI_add4 _) (by decide) rfl ?_
        refine g_goto (tgt := 28) hC d_L_law_625 (by decide) ?_
        refine g_los [1, 2, 3, 0] (lo' := [(0, .ref b), (1, .ref a0), (2, .ref a2), (3, .int (nI (i + 4)))]) (by rw [← ea0, ← ea2]; rfl) ?_
        refine g_widen (k := 32 + (i + 4)) (n := 8298 + 5 * (i + 4)) (by omega) (by omega) ?_
        refine g_V (V' := fun ad w => ∃ σ ρ, LV S σ ρ a0 a2 ad w) (fun ady wy hy => by
          obtain ⟨ead2, hC2, hR2⟩ := sw_M hy hCW1
          rw [ead2]
          exact ⟨σ, ρ, hInv, hM, hC2, hR2, ea0, ea2⟩) ?_
        exact ih (i + 4) ⟨by omega, by omega⟩ (by omega)
      · exact absurd er h472
    · refine g_tblIn (tgt := 477) (off := 435) hC d_L_law_42 (by decide +kernel) (by decide +kernel) (by decide +kernel) (by decide) ?_
      refine g_aload_n (i := 1) hC d_L_law_477 rfl rfl (Or.inr ⟨_, rfl⟩) ?_
      refine g_aload_n (i := 0) hC d_L_law_478 rfl rfl (Or.inr ⟨_, rfl⟩) ?_
      refine g_iload_n (i := 3) hC d_L_law_479 rfl rfl ?_
      refine g_iconst (v := nI 1) hC d_L_law_480 (by decide) ?_
      refine g_iaddN hC d_L_law_481 ?_
      refine g_sld hC hX hbl hbA (by omega) (by omega) d_L_law_482 ?_
      refine g_calli hC (g_runV (q := 0) (As := [_]) (st := []) hC g_NOK_N (t_length l D S σ ρ ad w hInv hM (xs (i + 1))) (t_cwV 1 hC.1.2.2.2.2 m_283 m_284 m_285 m_1 k_T_length rfl rfl hd_T_length ⟨by decide, by decide⟩) cw_ts rfl rfl rfl (Nat.le_of_ble_eq_true rfl) d_L_law_483 ⟨by show _ ≤ 600000; omega, by show _ ≤ 7302250; omega⟩) (fun r1 => ?_)
      refine g_and (fun e1 => ?_)
      have hAE : AE ad ad := fun _ _ => rfl
      refine g_fix (fun adx wx hx => ?_)
      obtain ⟨ead, hCW1, hRX1⟩ := sw_T hAE hx hRX
      refine g_V (V' := RX S σ ad wx) (fun _ _ h => by rw [h.1, h.2, ead]; exact hRX1) ?_
      refine g_los [0, 1, 2, 3] (lo' := [(0, .ref b), (1, .ref (ad 0)), (2, .ref (ad 200)), (3, .int (nI i))]) rfl ?_
      refine g_aload_n (i := 2) hC d_L_law_486 rfl rfl (Or.inr ⟨_, rfl⟩) ?_
      refine g_aload_n (i := 0) hC d_L_law_487 rfl rfl (Or.inr ⟨_, rfl⟩) ?_
      refine g_iload_n (i := 3) hC d_L_law_488 rfl rfl ?_
      refine g_iconst (v := nI 1) hC d_L_law_489 (by decide) ?_
      refine g_iaddN hC d_L_law_490 ?_
      refine g_sld hC hX hbl hbA (by omega) (by omega) d_L_law_491 ?_
      refine g_calli hC (g_runV (q := 200) (As := [_]) (st := [_]) hC g_NOK_N (r_length l D S σ ad wx hS3 hInv.c18 (xs (i + 1))) (t_cwV 1 hC.1.2.2.2.2 m_483 m_379 m_380 m_6 k_M_length rfl rfl hd_M_length ⟨by decide, by decide⟩) (fun ad w h => ⟨by rw [h.1], h.2.2.1⟩) rfl rfl rfl (Nat.le_of_ble_eq_true rfl) d_L_law_492 ⟨by show _ ≤ 600000; omega, by show _ ≤ 7302250; omega⟩) (fun r2 => ?_)
      refine g_and (fun e2 => ?_)
      have er := e1.trans e2.symm
      refine g_icmp_eq (tgt := 622) hC d_L_law_495 (by decide) (fun h495 => ?_) (fun h495 => ?_)
      · refine g_iinc (i := 3) (k := 3) (lo' := [(3, _), (0, _), (1, _), (2, _)]) hC d_L_law_622 rfl (nI_add4 _) (by decide) rfl ?_
        refine g_goto (tgt := 28) hC d_L_law_625 (by decide) ?_
        refine g_los [1, 2, 3, 0] (lo' := [(0, .ref b), (1, .ref a0), (2, .ref a2), (3, .int (nI (i + 4)))]) (by rw [← ea0, ← ea2]; rfl) ?_
        refine g_widen (k := 32 + (i + 4)) (n := 8298 + 5 * (i + 4)) (by omega) (by omega) ?_
        refine g_V (V' := fun ad w => ∃ σ ρ, LV S σ ρ a0 a2 ad w) (fun ady wy hy => by
          obtain ⟨ead2, hC2, hR2⟩ := sw_M hy hCW1
          rw [ead2]
          exact ⟨σ, ρ, hInv, hM, hC2, hR2, ea0, ea2⟩) ?_
        exact ih (i + 4) ⟨by omega, by omega⟩ (by omega)
      · exact absurd er h495
    · refine g_tblIn (tgt := 500) (off := 458) hC d_L_law_42 (by decide +kernel) (by decide +kernel) (by decide +kernel) (by decide) ?_
      refine g_aload_n (i := 1) hC d_L_law_500 rfl rfl (Or.inr ⟨_, rfl⟩) ?_
      refine g_aload_n (i := 0) hC d_L_law_501 rfl rfl (Or.inr ⟨_, rfl⟩) ?_
      refine g_iload_n (i := 3) hC d_L_law_502 rfl rfl ?_
      refine g_iconst (v := nI 1) hC d_L_law_503 (by decide) ?_
      refine g_iaddN hC d_L_law_504 ?_
      refine g_sld hC hX hbl hbA (by omega) (by omega) d_L_law_505 ?_
      refine g_aload_n (i := 0) hC d_L_law_506 rfl rfl (Or.inr ⟨_, rfl⟩) ?_
      refine g_iload_n (i := 3) hC d_L_law_507 rfl rfl ?_
      refine g_iconst (v := nI 2) hC d_L_law_508 (by decide) ?_
      refine g_iaddN hC d_L_law_509 ?_
      refine g_sld hC hX hbl hbA (by omega) (by omega) d_L_law_510 ?_
      refine g_calli hC (g_runV (q := 0) (As := [_, _]) (st := []) hC g_NOK_N (t_at l D S σ ρ ad w hInv hM (xs (i + 1)) (xs (i + 2))) (t_cwV 2 hC.1.2.2.2.2 m_288 m_289 m_290 m_1 k_T_at rfl rfl hd_T_at ⟨by decide, by decide⟩) cw_ts rfl rfl rfl (Nat.le_of_ble_eq_true rfl) d_L_law_511 ⟨by show _ ≤ 600000; omega, by show _ ≤ 7302250; omega⟩) (fun r1 => ?_)
      refine g_and (fun e1 => ?_)
      have hAE : AE ad ad := fun _ _ => rfl
      refine g_fix (fun adx wx hx => ?_)
      obtain ⟨ead, hCW1, hRX1⟩ := sw_T hAE hx hRX
      refine g_V (V' := RX S σ ad wx) (fun _ _ h => by rw [h.1, h.2, ead]; exact hRX1) ?_
      refine g_los [0, 1, 2, 3] (lo' := [(0, .ref b), (1, .ref (ad 0)), (2, .ref (ad 200)), (3, .int (nI i))]) rfl ?_
      refine g_aload_n (i := 2) hC d_L_law_514 rfl rfl (Or.inr ⟨_, rfl⟩) ?_
      refine g_aload_n (i := 0) hC d_L_law_515 rfl rfl (Or.inr ⟨_, rfl⟩) ?_
      refine g_iload_n (i := 3) hC d_L_law_516 rfl rfl ?_
      refine g_iconst (v := nI 1) hC d_L_law_517 (by decide) ?_
      refine g_iaddN hC d_L_law_518 ?_
      refine g_sld hC hX hbl hbA (by omega) (by omega) d_L_law_519 ?_
      refine g_aload_n (i := 0) hC d_L_law_520 rfl rfl (Or.inr ⟨_, rfl⟩) ?_
      refine g_iload_n (i := 3) hC d_L_law_521 rfl rfl ?_
      refine g_iconst (v := nI 2) hC d_L_law_522 (by decide) ?_
      refine g_iaddN hC d_L_law_523 ?_
      refine g_sld hC hX hbl hbA (by omega) (by omega) d_L_law_524 ?_
      refine g_calli hC (g_runV (q := 200) (As := [_, _]) (st := [_]) hC g_NOK_N (r_at l D S σ ad wx hInv (xs (i + 1)) (xs (i + 2))) (t_cwV 2 hC.1.2.2.2.2 m_484 m_485 m_486 m_6 k_M_at rfl rfl hd_M_at ⟨by decide, by decide⟩) (fun ad w h => ⟨by rw [h.1], h.2.2.1⟩) rfl rfl rfl (Nat.le_of_ble_eq_true rfl) d_L_law_525 ⟨by show _ ≤ 600000; omega, by show _ ≤ 7302250; omega⟩) (fun r2 => ?_)
      refine g_and (fun e2 => ?_)
      have er := SpAt_eq hInv e1 e2
      refine g_icmp_eq (tgt := 622) hC d_L_law_528 (by decide) (fun h528 => ?_) (fun h528 => ?_)
      · refine g_iinc (i := 3) (k := 3) (lo' := [(3, _), (0, _), (1, _), (2, _)]) hC d_L_law_622 rfl (nI_add4 _) (by decide) rfl ?_
        refine g_goto (tgt := 28) hC d_L_law_625 (by decide) ?_
        refine g_los [1, 2, 3, 0] (lo' := [(0, .ref b), (1, .ref a0), (2, .ref a2), (3, .int (nI (i + 4)))]) (by rw [← ea0, ← ea2]; rfl) ?_
        refine g_widen (k := 32 + (i + 4)) (n := 8298 + 5 * (i + 4)) (by omega) (by omega) ?_
        refine g_V (V' := fun ad w => ∃ σ ρ, LV S σ ρ a0 a2 ad w) (fun ady wy hy => by
          obtain ⟨ead2, hC2, hR2⟩ := sw_M hy hCW1
          rw [ead2]
          exact ⟨σ, ρ, hInv, hM, hC2, hR2, ea0, ea2⟩) ?_
        exact ih (i + 4) ⟨by omega, by omega⟩ (by omega)
      · exact absurd er h528
    · refine g_tblIn (tgt := 533) (off := 491) hC d_L_law_42 (by decide +kernel) (by decide +kernel) (by decide +kernel) (by decide) ?_
      refine g_aload_n (i := 1) hC d_L_law_533 rfl rfl (Or.inr ⟨_, rfl⟩) ?_
      refine g_aload_n (i := 0) hC d_L_law_534 rfl rfl (Or.inr ⟨_, rfl⟩) ?_
      refine g_iload_n (i := 3) hC d_L_law_535 rfl rfl ?_
      refine g_iconst (v := nI 1) hC d_L_law_536 (by decide) ?_
      refine g_iaddN hC d_L_law_537 ?_
      refine g_sld hC hX hbl hbA (by omega) (by omega) d_L_law_538 ?_
      refine g_calli hC (g_runV (q := 0) (As := [_]) (st := []) hC g_NOK_N (t_cells l D S σ ρ ad w hInv hM (xs (i + 1))) (t_cwV 1 hC.1.2.2.2.2 m_292 m_293 m_294 m_1 k_T_cells rfl rfl hd_T_cells ⟨by decide, by decide⟩) cw_ts rfl rfl rfl (Nat.le_of_ble_eq_true rfl) d_L_law_539 ⟨by show _ ≤ 600000; omega, by show _ ≤ 7302250; omega⟩) (fun r1 => ?_)
      refine g_and (fun e1 => ?_)
      have hAE : AE ad ad := fun _ _ => rfl
      refine g_fix (fun adx wx hx => ?_)
      obtain ⟨ead, hCW1, hRX1⟩ := sw_T hAE hx hRX
      refine g_V (V' := RX S σ ad wx) (fun _ _ h => by rw [h.1, h.2, ead]; exact hRX1) ?_
      refine g_los [0, 1, 2, 3] (lo' := [(0, .ref b), (1, .ref (ad 0)), (2, .ref (ad 200)), (3, .int (nI i))]) rfl ?_
      refine g_aload_n (i := 2) hC d_L_law_542 rfl rfl (Or.inr ⟨_, rfl⟩) ?_
      refine g_aload_n (i := 0) hC d_L_law_543 rfl rfl (Or.inr ⟨_, rfl⟩) ?_
      refine g_iload_n (i := 3) hC d_L_law_544 rfl rfl ?_
      refine g_iconst (v := nI 1) hC d_L_law_545 (by decide) ?_
      refine g_iaddN hC d_L_law_546 ?_
      refine g_sld hC hX hbl hbA (by omega) (by omega) d_L_law_547 ?_
      refine g_calli hC (g_runV (q := 200) (As := [_]) (st := [_]) hC g_NOK_N (r_cells l D S σ ad wx hS3 (xs (i + 1))) (t_cwV 1 hC.1.2.2.2.2 m_488 m_489 m_490 m_6 k_M_cells rfl rfl hd_M_cells ⟨by decide, by decide⟩) (fun ad w h => ⟨by rw [h.1], h.2.2.1⟩) rfl rfl rfl (Nat.le_of_ble_eq_true rfl) d_L_law_548 ⟨by show _ ≤ 600000; omega, by show _ ≤ 7302250; omega⟩) (fun r2 => ?_)
      refine g_and (fun e2 => ?_)
      have er := e1.trans e2.symm
      refine g_icmp_eq (tgt := 622) hC d_L_law_551 (by decide) (fun h551 => ?_) (fun h551 => ?_)
      · refine g_iinc (i := 3) (k := 3) (lo' := [(3, _), (0, _), (1, _), (2, _)]) hC d_L_law_622 rfl (nI_add4 _) (by decide) rfl ?_
        refine g_goto (tgt := 28) hC d_L_law_625 (by decide) ?_
        refine g_los [1, 2, 3, 0] (lo' := [(0, .ref b), (1, .ref a0), (2, .ref a2), (3, .int (nI (i + 4)))]) (by rw [← ea0, ← ea2]; rfl) ?_
        refine g_widen (k := 32 + (i + 4)) (n := 8298 + 5 * (i + 4)) (by omega) (by omega) ?_
        refine g_V (V' := fun ad w => ∃ σ ρ, LV S σ ρ a0 a2 ad w) (fun ady wy hy => by
          obtain ⟨ead2, hC2, hR2⟩ := sw_M hy hCW1
          rw [ead2]
          exact ⟨σ, ρ, hInv, hM, hC2, hR2, ea0, ea2⟩) ?_
        exact ih (i + 4) ⟨by omega, by omega⟩ (by omega)
      · exact absurd er h551
    · refine g_tblIn (tgt := 556) (off := 514) hC d_L_law_42 (by decide +kernel) (by decide +kernel) (by decide +kernel) (by decide) ?_
      refine g_aload_n (i := 1) hC d_L_law_556 rfl rfl (Or.inr ⟨_, rfl⟩) ?_
      refine g_aload_n (i := 0) hC d_L_law_557 rfl rfl (Or.inr ⟨_, rfl⟩) ?_
      refine g_iload_n (i := 3) hC d_L_law_558 rfl rfl ?_
      refine g_iconst (v := nI 1) hC d_L_law_559 (by decide) ?_
      refine g_iaddN hC d_L_law_560 ?_
      refine g_sld hC hX hbl hbA (by omega) (by omega) d_L_law_561 ?_
      refine g_aload_n (i := 0) hC d_L_law_562 rfl rfl (Or.inr ⟨_, rfl⟩) ?_
      refine g_iload_n (i := 3) hC d_L_law_563 rfl rfl ?_
      refine g_iconst (v := nI 2) hC d_L_law_564 (by decide) ?_
      refine g_iaddN hC d_L_law_565 ?_
      refine g_sld hC hX hbl hbA (by omega) (by omega) d_L_law_566 ?_
      refine g_calli hC (g_runV (q := 0) (As := [_, _]) (st := []) hC g_NOK_N (t_cell l D S σ ρ ad w hInv hM (xs (i + 1)) (xs (i + 2))) (t_cwV 2 hC.1.2.2.2.2 m_296 m_297 m_298 m_1 k_T_cell rfl rfl hd_T_cell ⟨by decide, by decide⟩) cw_ts rfl rfl rfl (Nat.le_of_ble_eq_true rfl) d_L_law_567 ⟨by show _ ≤ 600000; omega, by show _ ≤ 7302250; omega⟩) (fun r1 => ?_)
      refine g_and (fun e1 => ?_)
      have hAE : AE ad ad := fun _ _ => rfl
      refine g_fix (fun adx wx hx => ?_)
      obtain ⟨ead, hCW1, hRX1⟩ := sw_T hAE hx hRX
      refine g_V (V' := RX S σ ad wx) (fun _ _ h => by rw [h.1, h.2, ead]; exact hRX1) ?_
      refine g_los [0, 1, 2, 3] (lo' := [(0, .ref b), (1, .ref (ad 0)), (2, .ref (ad 200)), (3, .int (nI i))]) rfl ?_
      refine g_aload_n (i := 2) hC d_L_law_570 rfl rfl (Or.inr ⟨_, rfl⟩) ?_
      refine g_aload_n (i := 0) hC d_L_law_571 rfl rfl (Or.inr ⟨_, rfl⟩) ?_
      refine g_iload_n (i := 3) hC d_L_law_572 rfl rfl ?_
      refine g_iconst (v := nI 1) hC d_L_law_573 (by decide) ?_
      refine g_iaddN hC d_L_law_574 ?_
      refine g_sld hC hX hbl hbA (by omega) (by omega) d_L_law_575 ?_
      refine g_aload_n (i := 0) hC d_L_law_576 rfl rfl (Or.inr ⟨_, rfl⟩) ?_
      refine g_iload_n (i := 3) hC d_L_law_577 rfl rfl ?_
      refine g_iconst (v := nI 2) hC d_L_law_578 (by decide) ?_
      refine g_iaddN hC d_L_law_579 ?_
      refine g_sld hC hX hbl hbA (by omega) (by omega) d_L_law_580 ?_
      refine g_calli hC (g_runV (q := 200) (As := [_, _]) (st := [_]) hC g_NOK_N (r_cell l D S σ ad wx hInv (xs (i + 1)) (xs (i + 2))) (t_cwV 2 hC.1.2.2.2.2 m_492 m_493 m_494 m_6 k_M_cell rfl rfl hd_M_cell ⟨by decide, by decide⟩) (fun ad w h => ⟨by rw [h.1], h.2.2.1⟩) rfl rfl rfl (Nat.le_of_ble_eq_true rfl) d_L_law_581 ⟨by show _ ≤ 600000; omega, by show _ ≤ 7302250; omega⟩) (fun r2 => ?_)
      refine g_and (fun e2 => ?_)
      have er := SpCe_eq hInv e1 e2
      refine g_icmp_eq (tgt := 622) hC d_L_law_584 (by decide) (fun h584 => ?_) (fun h584 => ?_)
      · refine g_iinc (i := 3) (k := 3) (lo' := [(3, _), (0, _), (1, _), (2, _)]) hC d_L_law_622 rfl (nI_add4 _) (by decide) rfl ?_
        refine g_goto (tgt := 28) hC d_L_law_625 (by decide) ?_
        refine g_los [1, 2, 3, 0] (lo' := [(0, .ref b), (1, .ref a0), (2, .ref a2), (3, .int (nI (i + 4)))]) (by rw [← ea0, ← ea2]; rfl) ?_
        refine g_widen (k := 32 + (i + 4)) (n := 8298 + 5 * (i + 4)) (by omega) (by omega) ?_
        refine g_V (V' := fun ad w => ∃ σ ρ, LV S σ ρ a0 a2 ad w) (fun ady wy hy => by
          obtain ⟨ead2, hC2, hR2⟩ := sw_M hy hCW1
          rw [ead2]
          exact ⟨σ, ρ, hInv, hM, hC2, hR2, ea0, ea2⟩) ?_
        exact ih (i + 4) ⟨by omega, by omega⟩ (by omega)
      · exact absurd er h584
    · refine g_tblIn (tgt := 589) (off := 547) hC d_L_law_42 (by decide +kernel) (by decide +kernel) (by decide +kernel) (by decide) ?_
      refine g_aload_n (i := 1) hC d_L_law_589 rfl rfl (Or.inr ⟨_, rfl⟩) ?_
      refine g_aload_n (i := 0) hC d_L_law_590 rfl rfl (Or.inr ⟨_, rfl⟩) ?_
      refine g_iload_n (i := 3) hC d_L_law_591 rfl rfl ?_
      refine g_iconst (v := nI 1) hC d_L_law_592 (by decide) ?_
      refine g_iaddN hC d_L_law_593 ?_
      refine g_sld hC hX hbl hbA (by omega) (by omega) d_L_law_594 ?_
      refine g_aload_n (i := 0) hC d_L_law_595 rfl rfl (Or.inr ⟨_, rfl⟩) ?_
      refine g_iload_n (i := 3) hC d_L_law_596 rfl rfl ?_
      refine g_iconst (v := nI 2) hC d_L_law_597 (by decide) ?_
      refine g_iaddN hC d_L_law_598 ?_
      refine g_sld hC hX hbl hbA (by omega) (by omega) d_L_law_599 ?_
      refine g_calli hC (g_runV (q := 0) (As := [_, _]) (st := []) hC g_NOK_N (t_stable l D S σ ρ ad w hInv hM (xs (i + 1)) (xs (i + 2))) (t_cwV 2 hC.1.2.2.2.2 m_300 m_301 m_302 m_1 k_T_stable rfl rfl hd_T_stable ⟨by decide, by decide⟩) cw_ts rfl rfl rfl (Nat.le_of_ble_eq_true rfl) d_L_law_600 ⟨by show _ ≤ 600000; omega, by show _ ≤ 7302250; omega⟩) (fun r1 => ?_)
      refine g_and (fun e1 => ?_)
      have hAE : AE ad ad := fun _ _ => rfl
      refine g_fix (fun adx wx hx => ?_)
      obtain ⟨ead, hCW1, hRX1⟩ := sw_T hAE hx hRX
      refine g_V (V' := RX S σ ad wx) (fun _ _ h => by rw [h.1, h.2, ead]; exact hRX1) ?_
      refine g_los [0, 1, 2, 3] (lo' := [(0, .ref b), (1, .ref (ad 0)), (2, .ref (ad 200)), (3, .int (nI i))]) rfl ?_
      refine g_aload_n (i := 2) hC d_L_law_603 rfl rfl (Or.inr ⟨_, rfl⟩) ?_
      refine g_aload_n (i := 0) hC d_L_law_604 rfl rfl (Or.inr ⟨_, rfl⟩) ?_
      refine g_iload_n (i := 3) hC d_L_law_605 rfl rfl ?_
      refine g_iconst (v := nI 1) hC d_L_law_606 (by decide) ?_
      refine g_iaddN hC d_L_law_607 ?_
      refine g_sld hC hX hbl hbA (by omega) (by omega) d_L_law_608 ?_
      refine g_aload_n (i := 0) hC d_L_law_609 rfl rfl (Or.inr ⟨_, rfl⟩) ?_
      refine g_iload_n (i := 3) hC d_L_law_610 rfl rfl ?_
      refine g_iconst (v := nI 2) hC d_L_law_611 (by decide) ?_
      refine g_iaddN hC d_L_law_612 ?_
      refine g_sld hC hX hbl hbA (by omega) (by omega) d_L_law_613 ?_
      refine g_calli hC (g_runV (q := 200) (As := [_, _]) (st := [_]) hC g_NOK_N (r_stable l D S σ ad wx hInv (xs (i + 1)) (xs (i + 2))) (t_cwV 2 hC.1.2.2.2.2 m_496 m_497 m_498 m_6 k_M_stable rfl rfl hd_M_stable ⟨by decide, by decide⟩) (fun ad w h => ⟨by rw [h.1], h.2.2.1⟩) rfl rfl rfl (Nat.le_of_ble_eq_true rfl) d_L_law_614 ⟨by show _ ≤ 600000; omega, by show _ ≤ 7302250; omega⟩) (fun r2 => ?_)
      refine g_and (fun e2 => ?_)
      have er := e1.trans e2.symm
      refine g_icmp_eq (tgt := 622) hC d_L_law_617 (by decide) (fun h617 => ?_) (fun h617 => ?_)
      · refine g_iinc (i := 3) (k := 3) (lo' := [(3, _), (0, _), (1, _), (2, _)]) hC d_L_law_622 rfl (nI_add4 _) (by decide) rfl ?_
        refine g_goto (tgt := 28) hC d_L_law_625 (by decide) ?_
        refine g_los [1, 2, 3, 0] (lo' := [(0, .ref b), (1, .ref a0), (2, .ref a2), (3, .int (nI (i + 4)))]) (by rw [← ea0, ← ea2]; rfl) ?_
        refine g_widen (k := 32 + (i + 4)) (n := 8298 + 5 * (i + 4)) (by omega) (by omega) ?_
        refine g_V (V' := fun ad w => ∃ σ ρ, LV S σ ρ a0 a2 ad w) (fun ady wy hy => by
          obtain ⟨ead2, hC2, hR2⟩ := sw_M hy hCW1
          rw [ead2]
          exact ⟨σ, ρ, hInv, hM, hC2, hR2, ea0, ea2⟩) ?_
        exact ih (i + 4) ⟨by omega, by omega⟩ (by omega)
      · exact absurd er h617
    · refine g_tblOut (tgt := 622) hC d_L_law_42 (Or.inr (by decide +kernel)) (by decide) ?_
      refine g_iinc (i := 3) (k := 3) (lo' := [(3, _), (0, _), (1, _), (2, _)]) hC d_L_law_622 rfl (nI_add4 _) (by decide) rfl ?_
      refine g_goto (tgt := 28) hC d_L_law_625 (by decide) ?_
      refine g_los [1, 2, 3, 0] (lo' := [(0, .ref b), (1, .ref a0), (2, .ref a2), (3, .int (nI (i + 4)))]) (by rw [← ea0, ← ea2]; rfl) ?_
      refine g_widen (k := 32 + (i + 4)) (n := 8298 + 5 * (i + 4)) (by omega) (by omega) ?_
      refine g_V (V' := fun ad w => ∃ σ ρ, LV S σ ρ a0 a2 ad w) (fun ady wy hy => by
        obtain ⟨ead2, hC2, hR2⟩ := sw_T (fun _ _ => rfl) hy hRX
        rw [ead2]
        exact ⟨σ, ρ, hInv, hM, hC2, hR2, ea0, ea2⟩) ?_
      exact ih (i + 4) ⟨by omega, by omega⟩ (by omega)
