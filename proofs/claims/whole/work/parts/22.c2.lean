theorem wb_tb (n : Nat) : (lN n).toBitVec = BitVec.ofNat 64 n := rfl
theorem wb_inj {a b : Int64} (h : a.toBitVec = b.toBitVec) : a = b := Int64.toBitVec_inj.mp h
theorem wb_c : ∀ k, k < 64 → ((nI k).toInt64 &&& 63) = lN k := by decide +kernel
theorem wb_sm : ∀ k, k < 64 → (BitVec.ofNat 64 k).smod 64 = BitVec.ofNat 64 k := by decide +kernel
theorem wb_lt2 {a b : Nat} (h : a < b) : 2 ^ a < 2 ^ b := Nat.pow_lt_pow_right (by decide) h
theorem wb_shl (n : Nat) {k : Nat} (hk : k < 64) : lN n <<< ((nI k).toInt64 &&& 63) = lN (n * 2 ^ k) := by
  rw [wb_c k hk]
  apply wb_inj
  rw [Int64.toBitVec_shiftLeft, wb_tb, wb_tb, wb_tb, wb_sm k hk]
  apply BitVec.eq_of_toNat_eq
  rw [BitVec.shiftLeft_eq', BitVec.toNat_shiftLeft, BitVec.toNat_ofNat, BitVec.toNat_ofNat, BitVec.toNat_ofNat, Nat.mod_eq_of_lt (show k < 2 ^ 64 by omega), Nat.shiftLeft_eq, Nat.mul_mod, Nat.mod_mod, ← Nat.mul_mod]
theorem wb_and {a b : Nat} (ha : a < 2 ^ 64) (hb : b < 2 ^ 64) : lN a &&& lN b = lN (a &&& b) := by
  apply wb_inj
  rw [Int64.toBitVec_and, wb_tb, wb_tb, wb_tb]
  apply BitVec.eq_of_toNat_eq
  rw [BitVec.toNat_and, BitVec.toNat_ofNat, BitVec.toNat_ofNat, BitVec.toNat_ofNat, Nat.mod_eq_of_lt ha, Nat.mod_eq_of_lt hb, Nat.mod_eq_of_lt (Nat.and_lt_two_pow _ hb)]
theorem wb_mask {n k : Nat} (hn : n < 2 ^ 64) (hk : k < 64) : lN n &&& lN (2 ^ k - 1) = lN (n % 2 ^ k) := by
  rw [wb_and hn (by have := wb_lt2 hk; omega), Nat.and_two_pow_sub_one_eq_mod]
theorem pf_lI {a : Nat} (h : a < 2 ^ 63) : (lN a).toInt = (a : Int) := lg_ofNat_toInt h
theorem pf_shr {a d : Nat} {D : Int64} (hD : (D.toBitVec.smod 64).toNat = d) (h : a < 2 ^ 62) : lN a >>> D = lN (a / 2 ^ d) := by
  have hd : a / 2 ^ d ≤ a := Nat.div_le_self _ _
  apply Int64.toInt_inj.mp
  have e : (lN a >>> D).toInt = (lN a).toInt >>> d := by
    rw [← hD]
    exact BitVec.toInt_sshiftRight ..
  rw [e, Int.shiftRight_eq_div_pow, pf_lI (by omega), pf_lI (by omega)]
  rfl
/-- the class's operations are the state's -/
def OPS (S : Nat) (σ ρ : rS) : Prop := ∀ o, o < 18 → (ρ 40 o ≠ 0 ↔ mh (s_mk σ) o) ∧ (mh (s_mk σ) o → ρ 41 o ≠ 0 ∧ ρ (60 + o) 3 = o / 6 ∧ ρ (60 + o) 4 = o % 6 ∧ ρ (60 + o) 0 = σ 4 o ∧ ρ (60 + o) 1 = σ 3 o ∧ ρ (60 + o) 2 = evv (s_cx σ o))
theorem INV.cx6 {S : Nat} {σ : rS} (h : INV S σ) {o : Nat} (ho : mh (s_mk σ) o) : ∀ t, s_cx σ o t ≤ 6 := fun t => Nat.le_trans ((h.1.2.2.1.2.2 o ho).2.1 t) (h.1.2.2.1.1 t)
theorem INV.chr {S : Nat} {σ : rS} (h : INV S σ) {o : Nat} (ho : mh (s_mk σ) o) : σ 4 o = 0 ↔ σ 2 o = 0 := by
  have := (h.1.2.2.2 o ho).2
  constructor
  · intro q
    apply Classical.byContradiction
    intro z
    have := (this.2 z).2.1
    omega
  · intro q
    exact (this.1 q).1
theorem mmv_flag {a a' b b' s p t q : Nat} (ha : a = 0 ↔ a' = 0) (hb : b = 0 ↔ b' = 0) : mmv a s p b t q = mmv a' s p b' t q := by
  unfold mmv
  by_cases h : b ≠ 0 ∧ q ≤ p ∧ (p ≠ q ∨ a = 0 ∨ t ≤ s)
  · rw [if_pos h, if_pos (by omega)]
  · rw [if_neg h, if_neg (by omega)]
set_option maxRecDepth 100000 in
set_option maxHeartbeats 4000000 in
theorem o_toCode (l : Launch) (D : va_G) (S : Nat) (ρ : rS) (ad0 : Nat → Nat) (w0 : gW) (o : Nat) (cv : Nat → Nat) (ho : o < 18) (hal : ρ 41 o ≠ 0) (hsi : ρ (60 + o) 3 = o / 6) (hnu : ρ (60 + o) 4 = o % 6) (hcx : ρ (60 + o) 2 = evv cv) (hcv : ∀ t, cv t ≤ 6) : g_M l y_O_toCode w_O_toCode (rk 1) D gCl g_N [.ref (ad0 (100 + o))] (CW S ρ ad0 w0) 0 0 (fun A => g_Ql D gCl A (fun r ad w => r = lN (o / 6 + 4 * (o % 6) + (if ρ (60 + o) 0 = 0 then 0 else 64) + (ρ (60 + o) 1 * 2 ^ 7 + ρ (60 + o) 0 * 2 ^ 13) + cv 0 * 2 ^ 21 + cv 1 * 2 ^ 25 + cv 2 * 2 ^ 29) ∧ CW S ρ ad0 w0 ad w)) := by
  refine g_of (cc := c_O_toCode) (nL := 3) (ret := some .long) (by decide) rfl (Nat.le_of_ble_eq_true rfl) ?_
  intro pp ee ss mm bb me cc A hC hr hlk hnm
  refine g_los [0] (lo' := [(0, .ref (ad0 (100 + o)))]) rfl ?_
  refine g_pure cw_bl (fun hbS => ?_)
  obtain ⟨hb, hSS⟩ := hbS
  refine g_aload_n (i := 0) hC d_O_toCode_0 rfl rfl (Or.inr ⟨_, rfl⟩) ?_
  refine g_get hC (fun x h => List.mem_cons_of_mem _ (in_O x h)) (100 + o) (cw_o ho hal) rfl 0 (by decide) (List.mem_cons_of_mem _ m_131) rfl rfl d_O_toCode_1 ?_
  refine g_iconst (v := nI 4) hC d_O_toCode_4 (by decide) ?_
  refine g_aload_n (i := 0) hC d_O_toCode_5 rfl rfl (Or.inr ⟨_, rfl⟩) ?_
  refine g_get hC (fun x h => List.mem_cons_of_mem _ (in_O x h)) (100 + o) (cw_o ho hal) rfl 1 (by decide) (List.mem_cons_of_mem _ m_135) rfl rfl d_O_toCode_6 ?_
  refine g_imulN hC d_O_toCode_9 ?_
  refine g_iaddN hC d_O_toCode_10 ?_
  refine g_aload_n (i := 0) hC d_O_toCode_11 rfl rfl (Or.inr ⟨_, rfl⟩) ?_
  refine g_calli hC (g_runV (q := (100 + o)) (As := []) (st := [_]) hC g_NOK_N (o_isInsert l D S ρ ad0 w0 o ho hal) (t_cwV 0 hC.1.2.2.2.2 m_242 m_168 m_169 m_7 k_O_isInsert rfl rfl hd_O_isInsert ⟨by decide, by decide⟩) (cw_o ho hal) rfl rfl rfl (Nat.le_of_ble_eq_true rfl) d_O_toCode_12 ⟨by decide, by decide⟩) (fun r12 => ?_)
  refine g_and (fun e => ?_)
  subst e
  refine g_if_eqN (tgt := 23) hC d_O_toCode_15 (by decide) (pb_le _) (fun h15 => ?_) (fun h15 => ?_)
  · have g15 := pb_0 h15
    refine g_iconst (v := nI 0) hC d_O_toCode_23 (by decide) ?_
    refine g_iaddN hC d_O_toCode_24 ?_
    have hsi' := hsi
    rw [hsi, hnu]
    refine g_i2l hC d_O_toCode_25 (nI_l (by first | omega | exact c_lt hb _ _ | (have := hcv 0; omega) | (have := hcv 1; omega) | (have := hcv 2; omega))) ?_
    refine g_lstore_n (i := 1) (lo' := [(1, _), (0, _)]) hC d_O_toCode_26 rfl (by decide) rfl ?_
    refine g_lload_n (i := 1) hC d_O_toCode_27 rfl rfl ?_
    refine g_aload_n (i := 0) hC d_O_toCode_28 rfl rfl (Or.inr ⟨_, rfl⟩) ?_
    refine g_get hC (fun x h => List.mem_cons_of_mem _ (in_O x h)) (100 + o) (cw_o ho hal) rfl 3 (by decide) (List.mem_cons_of_mem _ m_139) rfl rfl d_O_toCode_29 ?_
    refine g_i2l hC d_O_toCode_32 (nI_l (by first | omega | exact c_lt hb _ _ | (have := hcv 0; omega) | (have := hcv 1; omega) | (have := hcv 2; omega))) ?_
    refine g_bipush (v := nI 7) hC d_O_toCode_33 (by decide) ?_
    refine g_lshl hC d_O_toCode_35 (wb_shl _ (by decide)) ?_
    refine g_aload_n (i := 0) hC d_O_toCode_36 rfl rfl (Or.inr ⟨_, rfl⟩) ?_
    refine g_get hC (fun x h => List.mem_cons_of_mem _ (in_O x h)) (100 + o) (cw_o ho hal) rfl 2 (by decide) (List.mem_cons_of_mem _ m_137) rfl rfl d_O_toCode_37 ?_
    refine g_i2l hC d_O_toCode_40 (nI_l (by first | omega | exact c_lt hb _ _ | (have := hcv 0; omega) | (have := hcv 1; omega) | (have := hcv 2; omega))) ?_
    refine g_bipush (v := nI 13) hC d_O_toCode_41 (by decide) ?_
    refine g_lshl hC d_O_toCode_43 (wb_shl _ (by decide)) ?_
    refine g_ladd hC d_O_toCode_44 ?_
    refine g_eql (lN_add _ _) ?_
    refine g_ladd hC d_O_toCode_45 ?_
    refine g_eql (lN_add _ _) ?_
    refine g_lstore_n (i := 1) (lo' := [(1, _), (0, _)]) hC d_O_toCode_46 rfl (by decide) rfl ?_
    refine g_lload_n (i := 1) hC d_O_toCode_47 rfl rfl ?_
    refine g_aload_n (i := 0) hC d_O_toCode_48 rfl rfl (Or.inr ⟨_, rfl⟩) ?_
    refine g_get hC (fun x h => List.mem_cons_of_mem _ (in_O x h)) (100 + o) (cw_o ho hal) rfl 4 (by decide) (List.mem_cons_of_mem _ m_141) rfl rfl d_O_toCode_49 ?_
    rw [hcx]
    refine g_iconst (v := nI 0) hC d_O_toCode_52 (by decide) ?_
    refine g_calli hC (g_runS (As := [_, _]) (st := [_]) hC g_NOK_N (v_count l D (CW S ρ ad0 w0) cv 0 hcv (by decide)) (t_cwS 2 hC.1.2.2.2.2 m_257 m_123 m_3 k_V_count rfl rfl hd_V_count ⟨by decide, by decide⟩) rfl rfl (Nat.le_of_ble_eq_true rfl) d_O_toCode_53 ⟨by decide, by decide⟩) (fun r53 => ?_)
    refine g_and (fun e => ?_)
    subst e
    refine g_i2l hC d_O_toCode_56 (nI_l (by first | omega | exact c_lt hb _ _ | (have := hcv 0; omega) | (have := hcv 1; omega) | (have := hcv 2; omega))) ?_
    refine g_bipush (v := nI 21) hC d_O_toCode_57 (by decide) ?_
    refine g_lshl hC d_O_toCode_59 (wb_shl _ (by decide)) ?_
    refine g_ladd hC d_O_toCode_60 ?_
    refine g_eql (lN_add _ _) ?_
    refine g_lstore_n (i := 1) (lo' := [(1, _), (0, _)]) hC d_O_toCode_61 rfl (by decide) rfl ?_
    refine g_lload_n (i := 1) hC d_O_toCode_62 rfl rfl ?_
    refine g_aload_n (i := 0) hC d_O_toCode_63 rfl rfl (Or.inr ⟨_, rfl⟩) ?_
    refine g_get hC (fun x h => List.mem_cons_of_mem _ (in_O x h)) (100 + o) (cw_o ho hal) rfl 4 (by decide) (List.mem_cons_of_mem _ m_141) rfl rfl d_O_toCode_64 ?_
    rw [hcx]
    refine g_iconst (v := nI 1) hC d_O_toCode_67 (by decide) ?_
    refine g_calli hC (g_runS (As := [_, _]) (st := [_]) hC g_NOK_N (v_count l D (CW S ρ ad0 w0) cv 1 hcv (by decide)) (t_cwS 2 hC.1.2.2.2.2 m_257 m_123 m_3 k_V_count rfl rfl hd_V_count ⟨by decide, by decide⟩) rfl rfl (Nat.le_of_ble_eq_true rfl) d_O_toCode_68 ⟨by decide, by decide⟩) (fun r68 => ?_)
    refine g_and (fun e => ?_)
    subst e
    refine g_i2l hC d_O_toCode_71 (nI_l (by first | omega | exact c_lt hb _ _ | (have := hcv 0; omega) | (have := hcv 1; omega) | (have := hcv 2; omega))) ?_
    refine g_bipush (v := nI 25) hC d_O_toCode_72 (by decide) ?_
    refine g_lshl hC d_O_toCode_74 (wb_shl _ (by decide)) ?_
    refine g_ladd hC d_O_toCode_75 ?_
    refine g_eql (lN_add _ _) ?_
    refine g_lstore_n (i := 1) (lo' := [(1, _), (0, _)]) hC d_O_toCode_76 rfl (by decide) rfl ?_
    refine g_lload_n (i := 1) hC d_O_toCode_77 rfl rfl ?_
    refine g_aload_n (i := 0) hC d_O_toCode_78 rfl rfl (Or.inr ⟨_, rfl⟩) ?_
    refine g_get hC (fun x h => List.mem_cons_of_mem _ (in_O x h)) (100 + o) (cw_o ho hal) rfl 4 (by decide) (List.mem_cons_of_mem _ m_141) rfl rfl d_O_toCode_79 ?_
    rw [hcx]
    refine g_iconst (v := nI 2) hC d_O_toCode_82 (by decide) ?_
    refine g_calli hC (g_runS (As := [_, _]) (st := [_]) hC g_NOK_N (v_count l D (CW S ρ ad0 w0) cv 2 hcv (by decide)) (t_cwS 2 hC.1.2.2.2.2 m_257 m_123 m_3 k_V_count rfl rfl hd_V_count ⟨by decide, by decide⟩) rfl rfl (Nat.le_of_ble_eq_true rfl) d_O_toCode_83 ⟨by decide, by decide⟩) (fun r83 => ?_)
    refine g_and (fun e => ?_)
    subst e
    refine g_i2l hC d_O_toCode_86 (nI_l (by first | omega | exact c_lt hb _ _ | (have := hcv 0; omega) | (have := hcv 1; omega) | (have := hcv 2; omega))) ?_
    refine g_bipush (v := nI 29) hC d_O_toCode_87 (by decide) ?_
    refine g_lshl hC d_O_toCode_89 (wb_shl _ (by decide)) ?_
    refine g_ladd hC d_O_toCode_90 ?_
    refine g_eql (lN_add _ _) ?_
    refine g_lstore_n (i := 1) (lo' := [(1, _), (0, _)]) hC d_O_toCode_91 rfl (by decide) rfl ?_
    refine g_lload_n (i := 1) hC d_O_toCode_92 rfl rfl ?_
    refine g_lret hC hr hlk d_O_toCode_93 (by decide) (by decide) (fun ad w hw => ?_)
    exact ⟨by rw [if_pos (Decidable.not_not.mp g15)], hw⟩
  · have g15 := pb_1 h15
    refine g_bipush (v := nI 64) hC d_O_toCode_18 (by decide) ?_
    refine g_goto (tgt := 24) hC d_O_toCode_20 (by decide) ?_
    refine g_iaddN hC d_O_toCode_24 ?_
    have hsi' := hsi
    rw [hsi, hnu]
    refine g_i2l hC d_O_toCode_25 (nI_l (by first | omega | exact c_lt hb _ _ | (have := hcv 0; omega) | (have := hcv 1; omega) | (have := hcv 2; omega))) ?_
    refine g_lstore_n (i := 1) (lo' := [(1, _), (0, _)]) hC d_O_toCode_26 rfl (by decide) rfl ?_
    refine g_lload_n (i := 1) hC d_O_toCode_27 rfl rfl ?_
    refine g_aload_n (i := 0) hC d_O_toCode_28 rfl rfl (Or.inr ⟨_, rfl⟩) ?_
    refine g_get hC (fun x h => List.mem_cons_of_mem _ (in_O x h)) (100 + o) (cw_o ho hal) rfl 3 (by decide) (List.mem_cons_of_mem _ m_139) rfl rfl d_O_toCode_29 ?_
    refine g_i2l hC d_O_toCode_32 (nI_l (by first | omega | exact c_lt hb _ _ | (have := hcv 0; omega) | (have := hcv 1; omega) | (have := hcv 2; omega))) ?_
    refine g_bipush (v := nI 7) hC d_O_toCode_33 (by decide) ?_
    refine g_lshl hC d_O_toCode_35 (wb_shl _ (by decide)) ?_
    refine g_aload_n (i := 0) hC d_O_toCode_36 rfl rfl (Or.inr ⟨_, rfl⟩) ?_
    refine g_get hC (fun x h => List.mem_cons_of_mem _ (in_O x h)) (100 + o) (cw_o ho hal) rfl 2 (by decide) (List.mem_cons_of_mem _ m_137) rfl rfl d_O_toCode_37 ?_
    refine g_i2l hC d_O_toCode_40 (nI_l (by first | omega | exact c_lt hb _ _ | (have := hcv 0; omega) | (have := hcv 1; omega) | (have := hcv 2; omega))) ?_
    refine g_bipush (v := nI 13) hC d_O_toCode_41 (by decide) ?_
    refine g_lshl hC d_O_toCode_43 (wb_shl _ (by decide)) ?_
    refine g_ladd hC d_O_toCode_44 ?_
    refine g_eql (lN_add _ _) ?_
    refine g_ladd hC d_O_toCode_45 ?_
    refine g_eql (lN_add _ _) ?_
    refine g_lstore_n (i := 1) (lo' := [(1, _), (0, _)]) hC d_O_toCode_46 rfl (by decide) rfl ?_
    refine g_lload_n (i := 1) hC d_O_toCode_47 rfl rfl ?_
    refine g_aload_n (i := 0) hC d_O_toCode_48 rfl rfl (Or.inr ⟨_, rfl⟩) ?_
    refine g_get hC (fun x h => List.mem_cons_of_mem _ (in_O x h)) (100 + o) (cw_o ho hal) rfl 4 (by decide) (List.mem_cons_of_mem _ m_141) rfl rfl d_O_toCode_49 ?_
    rw [hcx]
    refine g_iconst (v := nI 0) hC d_O_toCode_52 (by decide) ?_
    refine g_calli hC (g_runS (As := [_, _]) (st := [_]) hC g_NOK_N (v_count l D (CW S ρ ad0 w0) cv 0 hcv (by decide)) (t_cwS 2 hC.1.2.2.2.2 m_257 m_123 m_3 k_V_count rfl rfl hd_V_count ⟨by decide, by decide⟩) rfl rfl (Nat.le_of_ble_eq_true rfl) d_O_toCode_53 ⟨by decide, by decide⟩) (fun r53 => ?_)
    refine g_and (fun e => ?_)
    subst e
    refine g_i2l hC d_O_toCode_56 (nI_l (by first | omega | exact c_lt hb _ _ | (have := hcv 0; omega) | (have := hcv 1; omega) | (have := hcv 2; omega))) ?_
    refine g_bipush (v := nI 21) hC d_O_toCode_57 (by decide) ?_
    refine g_lshl hC d_O_toCode_59 (wb_shl _ (by decide)) ?_
    refine g_ladd hC d_O_toCode_60 ?_
    refine g_eql (lN_add _ _) ?_
    refine g_lstore_n (i := 1) (lo' := [(1, _), (0, _)]) hC d_O_toCode_61 rfl (by decide) rfl ?_
    refine g_lload_n (i := 1) hC d_O_toCode_62 rfl rfl ?_
    refine g_aload_n (i := 0) hC d_O_toCode_63 rfl rfl (Or.inr ⟨_, rfl⟩) ?_
    refine g_get hC (fun x h => List.mem_cons_of_mem _ (in_O x h)) (100 + o) (cw_o ho hal) rfl 4 (by decide) (List.mem_cons_of_mem _ m_141) rfl rfl d_O_toCode_64 ?_
    rw [hcx]
    refine g_iconst (v := nI 1) hC d_O_toCode_67 (by decide) ?_
    refine g_calli hC (g_runS (As := [_, _]) (st := [_]) hC g_NOK_N (v_count l D (CW S ρ ad0 w0) cv 1 hcv (by decide)) (t_cwS 2 hC.1.2.2.2.2 m_257 m_123 m_3 k_V_count rfl rfl hd_V_count ⟨by decide, by decide⟩) rfl rfl (Nat.le_of_ble_eq_true rfl) d_O_toCode_68 ⟨by decide, by decide⟩) (fun r68 => ?_)
    refine g_and (fun e => ?_)
    subst e
    refine g_i2l hC d_O_toCode_71 (nI_l (by first | omega | exact c_lt hb _ _ | (have := hcv 0; omega) | (have := hcv 1; omega) | (have := hcv 2; omega))) ?_
    refine g_bipush (v := nI 25) hC d_O_toCode_72 (by decide) ?_
    refine g_lshl hC d_O_toCode_74 (wb_shl _ (by decide)) ?_
    refine g_ladd hC d_O_toCode_75 ?_
    refine g_eql (lN_add _ _) ?_
    refine g_lstore_n (i := 1) (lo' := [(1, _), (0, _)]) hC d_O_toCode_76 rfl (by decide) rfl ?_
    refine g_lload_n (i := 1) hC d_O_toCode_77 rfl rfl ?_
    refine g_aload_n (i := 0) hC d_O_toCode_78 rfl rfl (Or.inr ⟨_, rfl⟩) ?_
    refine g_get hC (fun x h => List.mem_cons_of_mem _ (in_O x h)) (100 + o) (cw_o ho hal) rfl 4 (by decide) (List.mem_cons_of_mem _ m_141) rfl rfl d_O_toCode_79 ?_
    rw [hcx]
    refine g_iconst (v := nI 2) hC d_O_toCode_82 (by decide) ?_
    refine g_calli hC (g_runS (As := [_, _]) (st := [_]) hC g_NOK_N (v_count l D (CW S ρ ad0 w0) cv 2 hcv (by decide)) (t_cwS 2 hC.1.2.2.2.2 m_257 m_123 m_3 k_V_count rfl rfl hd_V_count ⟨by decide, by decide⟩) rfl rfl (Nat.le_of_ble_eq_true rfl) d_O_toCode_83 ⟨by decide, by decide⟩) (fun r83 => ?_)
    refine g_and (fun e => ?_)
    subst e
    refine g_i2l hC d_O_toCode_86 (nI_l (by first | omega | exact c_lt hb _ _ | (have := hcv 0; omega) | (have := hcv 1; omega) | (have := hcv 2; omega))) ?_
    refine g_bipush (v := nI 29) hC d_O_toCode_87 (by decide) ?_
    refine g_lshl hC d_O_toCode_89 (wb_shl _ (by decide)) ?_
    refine g_ladd hC d_O_toCode_90 ?_
    refine g_eql (lN_add _ _) ?_
    refine g_lstore_n (i := 1) (lo' := [(1, _), (0, _)]) hC d_O_toCode_91 rfl (by decide) rfl ?_
    refine g_lload_n (i := 1) hC d_O_toCode_92 rfl rfl ?_
    refine g_lret hC hr hlk d_O_toCode_93 (by decide) (by decide) (fun ad w hw => ?_)
    exact ⟨by rw [if_neg g15], hw⟩
theorem cdv_eq {S : Nat} {σ ρ : rS} (hInv : INV S σ) (hO : OPS S σ ρ) {o : Nat} (ho : mh (s_mk σ) o) : o / 6 + 4 * (o % 6) + (if ρ (60 + o) 0 = 0 then 0 else 64) + (ρ (60 + o) 1 * 2 ^ 7 + ρ (60 + o) 0 * 2 ^ 13) + s_cx σ o 0 * 2 ^ 21 + s_cx σ o 1 * 2 ^ 25 + s_cx σ o 2 * 2 ^ 29 = cdv σ o := by
  obtain ⟨-, a, b, c, d, e⟩ := (hO o (hInv.1.lt18 ho)).2 ho
  have hc := hInv.chr ho
  unfold cdv
  rw [c, d, s_cx_lt (by omega), s_cx_lt (by omega), s_cx_lt (by omega)]
  by_cases q : σ 2 o = 0
  · rw [if_pos q, if_pos (hc.mpr q)]
    simp only [Nat.reducePow, Nat.add_zero]
    omega
  · rw [if_neg q, if_neg (fun z => q (hc.mp z))]
    simp only [Nat.reducePow, Nat.add_zero]
    omega
theorem cdv_site {σ : rS} {o : Nat} (ho : o < 18) : cdv σ o % 4 = o / 6 ∧ cdv σ o / 4 % 16 = o % 6 := by
  have key : ∃ K, cdv σ o = o / 6 + 4 * (o % 6 + 16 * K) := by
    unfold cdv
    by_cases q : σ 2 o = 0
    · rw [if_pos q]
      exact ⟨2 * σ 3 o + 128 * σ 4 o + 32768 * σ 5 (3 * o) + 524288 * σ 5 (3 * o + 1) + 8388608 * σ 5 (3 * o + 2), by omega⟩
    · rw [if_neg q]
      exact ⟨1 + 2 * σ 3 o + 128 * σ 4 o + 32768 * σ 5 (3 * o) + 524288 * σ 5 (3 * o + 1) + 8388608 * σ 5 (3 * o + 2), by omega⟩
  obtain ⟨K, hK⟩ := key
  rw [hK]
  constructor
  · rw [Nat.add_mul_mod_self_left, Nat.mod_eq_of_lt (by omega)]
  · rw [Nat.add_mul_div_left _ _ (by decide), Nat.div_eq_of_lt (by omega), Nat.zero_add, Nat.add_mul_mod_self_left, Nat.mod_eq_of_lt (by omega)]
set_option maxRecDepth 100000 in
set_option maxHeartbeats 4000000 in
theorem h_find (l : Launch) (D : va_G) (S : Nat) (σ ρ : rS) (ad0 : Nat → Nat) (w0 : gW) (hInv : INV S σ) (hO : OPS S σ ρ) (x y : Int32) : g_M l y_H_find w_H_find (rk 0) D gCl g_N [.ref (ad0 1), .int x, .int y] (CW S ρ ad0 w0) 0 0 (fun A => g_Qq D gCl A (fun r ad w => ((∃ s k, MD S σ x y s k ∧ r = some (ad0 (100 + (6 * s + k)))) ∨ ((¬ ∃ s k, MD S σ x y s k) ∧ r = none)) ∧ CW S ρ ad0 w0 ad w)) := by
  refine g_of (cc := c_H_find) (nL := 3) (ret := some (.object "TombstoneSites$Operation")) (by decide) rfl (Nat.le_of_ble_eq_true rfl) ?_
  intro pp ee ss mm bb me cc A hC hr hlk hnm
  refine g_los [0, 1, 2] (lo' := [(0, .ref (ad0 1)), (1, .int x), (2, .int y)]) rfl ?_
  refine g_pure cw_bl (fun hbS => ?_)
  obtain ⟨hb, hSS⟩ := hbS
  refine g_iload_n (i := 1) hC d_H_find_0 rfl rfl ?_
  refine g_if_lt (tgt := 22) hC d_H_find_1 (by decide) (fun h1 => ?_) (fun h1 => ?_)
  · refine g_null hC d_H_find_22 ?_
    refine g_aret (r := none) hC hr hlk d_H_find_23 (by decide) (by decide) (fun ad w hw => ?_)
    exact ⟨Or.inr ⟨fun ⟨s1, k1, h⟩ => absurd h1 (by have := h.2.1; rw [h.1]; exact nI_pos (by omega)), rfl⟩, hw⟩
  · refine g_iload_n (i := 1) hC d_H_find_4 rfl rfl ?_
    refine g_aload_n (i := 0) hC d_H_find_5 rfl rfl (Or.inr ⟨_, rfl⟩) ?_
    refine g_get hC (fun x h => List.mem_cons_of_mem _ (in_H x h)) 1 cw_hi rfl 0 (by decide) (List.mem_cons_of_mem _ m_31) rfl rfl d_H_find_6 ?_
    refine g_icmp_ge (tgt := 22) hC d_H_find_9 (by decide) (fun h9 => ?_) (fun h9 => ?_)
    · refine g_null hC d_H_find_22 ?_
      refine g_aret (r := none) hC hr hlk d_H_find_23 (by decide) (by decide) (fun ad w hw => ?_)
      exact ⟨Or.inr ⟨fun ⟨s1, k1, h⟩ => by
        have := h.2.1
        rw [h.1] at h9
        have := (nI_leI (by omega) (by omega)).mp h9
        omega, rfl⟩, hw⟩
    · obtain ⟨s, hsS, rfl, hxs⟩ := ix_of (by omega) h1 h9
      refine g_iload_n (i := 2) hC d_H_find_12 rfl rfl ?_
      refine g_if_lt (tgt := 22) hC d_H_find_13 (by decide) (fun h13 => ?_) (fun h13 => ?_)
      · refine g_null hC d_H_find_22 ?_
        refine g_aret (r := none) hC hr hlk d_H_find_23 (by decide) (by decide) (fun ad w hw => ?_)
        exact ⟨Or.inr ⟨fun ⟨s1, k1, h⟩ => absurd h13 (by have := (MD.opn hInv h).2.2.2.2; rw [h.2.2.1]; exact nI_pos (by omega)), rfl⟩, hw⟩
      · refine g_iload_n (i := 2) hC d_H_find_16 rfl rfl ?_
        refine g_bipush (v := nI 6) hC d_H_find_17 (by decide) ?_
        refine g_icmp_lt (tgt := 24) hC d_H_find_19 (by decide) (fun h19 => ?_) (fun h19 => ?_)
        · obtain ⟨k, hk31, rfl⟩ := nI_of h13
          have hk6 : k < 6 := (nI_ltI (by omega) (by omega)).mp h19
          refine g_aload_n (i := 0) hC d_H_find_24 rfl rfl (Or.inr ⟨_, rfl⟩) ?_
          refine g_get hC (fun x h => List.mem_cons_of_mem _ (in_H x h)) 1 cw_hi rfl 1 (by decide) (List.mem_cons_of_mem _ m_32) rfl rfl d_H_find_25 ?_
          refine g_iload_n (i := 1) hC d_H_find_28 rfl rfl ?_
          refine g_bipush (v := nI 6) hC d_H_find_29 (by decide) ?_
          refine g_imulN hC d_H_find_31 ?_
          refine g_iload_n (i := 2) hC d_H_find_32 rfl rfl ?_
          refine g_iaddN hC d_H_find_33 ?_
          refine cl_made hC (by omega) (by omega) d_H_find_34 ?_
          refine g_aret (r := cw_md ad0 ρ (s * 6 + k)) hC hr hlk d_H_find_35 (by decide) (by decide) (fun ad w hw => ?_)
          refine ⟨?_, hw⟩
          unfold cw_md
          by_cases q : mh (s_mk σ) (6 * s + k)
          · have hm : k < σ 1 s := by
              unfold mh at q
              rw [show (6 * s + k) / 6 = s by omega, show (6 * s + k) % 6 = k by omega, s_mk_lt (by omega)] at q
              exact q
            refine Or.inl ⟨s, k, ⟨rfl, hsS, rfl, hm⟩, ?_⟩
            rw [show s * 6 + k = 6 * s + k by omega, if_neg ((hO _ (by omega)).1.mpr q)]
          · refine Or.inr ⟨fun ⟨s1, k1, h⟩ => q ?_, ?_⟩
            · have e1 := nI_inj h.1 (by omega) (by have := h.2.1; omega)
              have hk := MD.opn hInv h
              have e2 := nI_inj h.2.2.1 (by omega) (by omega)
              rw [e1, e2]
              exact hk.1
            · rw [show s * 6 + k = 6 * s + k by omega, if_pos (Decidable.not_not.mp (fun z => q ((hO _ (by omega)).1.mp z)))]
        · refine g_null hC d_H_find_22 ?_
          refine g_aret (r := none) hC hr hlk d_H_find_23 (by decide) (by decide) (fun ad w hw => ?_)
          exact ⟨Or.inr ⟨fun ⟨s1, k1, h⟩ => by
            have := (MD.opn hInv h).2.2.2.2
            rw [h.2.2.1] at h19
            exact h19 ((nI_ltI (by omega) (by omega)).mpr (by omega)), rfl⟩, hw⟩
set_option maxRecDepth 100000 in
set_option maxHeartbeats 4000000 in
theorem h_last (l : Launch) (D : va_G) (S : Nat) (σ ρ : rS) (ad0 : Nat → Nat) (w0 : gW) (hInv : INV S σ) (hO : OPS S σ ρ) (v : Nat → Nat) (t : Nat) (hv : ∀ t, v t ≤ s_mk σ t) (ht : t < S) : g_M l y_H_last w_H_last (rk 1) D gCl g_N [.ref (ad0 1), .int (nI (evv v)), .int (nI t)] (CW S ρ ad0 w0) 0 0 (fun A => g_Qq D gCl A (fun r ad w => r = (if v t = 0 then none else some (ad0 (100 + mtop v t))) ∧ CW S ρ ad0 w0 ad w)) := by
  have hS3 := hInv.S3
  refine g_of (cc := c_H_last) (nL := 3) (ret := some (.object "TombstoneSites$Operation")) (by decide) rfl (Nat.le_of_ble_eq_true rfl) ?_
  intro pp ee ss mm bb me cc A hC hr hlk hnm
  refine g_los [0, 1, 2] (lo' := [(0, .ref (ad0 1)), (1, .int (nI (evv v))), (2, .int (nI t))]) rfl ?_
  refine g_pure cw_bl (fun hbS => ?_)
  obtain ⟨hb, hSS⟩ := hbS
  refine g_aload_n (i := 0) hC d_H_last_0 rfl rfl (Or.inr ⟨_, rfl⟩) ?_
  refine g_iload_n (i := 2) hC d_H_last_1 rfl rfl ?_
  refine g_iload_n (i := 1) hC d_H_last_2 rfl rfl ?_
  refine g_iload_n (i := 2) hC d_H_last_3 rfl rfl ?_
  refine g_calli hC (g_runS (As := [_, _]) (st := [_, _]) hC g_NOK_N (v_count l D (CW S ρ ad0 w0) v t (fun j => Nat.le_trans (hv j) (hInv.1.2.2.1.1 j)) (by omega)) (t_cwS 2 hC.1.2.2.2.2 m_225 m_123 m_3 k_V_count rfl rfl hd_V_count ⟨by decide, by decide⟩) rfl rfl (Nat.le_of_ble_eq_true rfl) d_H_last_4 ⟨by decide, by decide⟩) (fun r4 => ?_)
  refine g_and (fun e => ?_)
  subst e
  refine g_iconst (v := nI 1) hC d_H_last_7 (by decide) ?_
  refine g_isub hC d_H_last_8 ?_
  refine g_callq hC (g_runV (q := 1) (As := [_, _]) (st := []) hC g_NOK_N (h_find l D S σ ρ ad0 w0 hInv hO (nI t) (nI (v t) - nI 1)) (t_cwV 2 hC.1.2.2.2.2 m_226 m_193 m_194 m_2 k_H_find rfl rfl hd_H_find ⟨by decide, by decide⟩) cw_hi rfl rfl rfl (Nat.le_of_ble_eq_true rfl) d_H_last_9 ⟨by decide, by decide⟩) (fun r9 => ?_)
  refine g_and (fun e9 => ?_)
  have hvt := hv t
  rw [s_mk_lt (by omega)] at hvt
  have h6 := hInv.m6 ht
  have e10 : r9 = (if v t = 0 then none else some (ad0 (100 + mtop v t))) := by
    by_cases q : v t = 0
    · rw [if_pos q]
      rcases e9 with ⟨s1, k1, h, e⟩ | ⟨-, e⟩
      · exfalso
        have hk := MD.opn hInv h
        have e3 := h.2.2.1
        rw [q] at e3
        have : nI 0 - nI 1 < 0 := by decide +kernel
        rw [e3] at this
        exact absurd this (nI_pos (by omega))
      · exact e
    · rw [if_neg q]
      have e3 : nI (v t) - nI 1 = nI (v t - 1) := pk_sub (by omega)
      rw [e3] at e9
      rcases e9 with ⟨s1, k1, h, e⟩ | ⟨h, -⟩
      · have hk := MD.opn hInv h
        have f1 := nI_inj h.1 (by omega) (by have := h.2.1; omega)
        have f2 := nI_inj h.2.2.1 (by omega) (by omega)
        rw [e, ← f1, ← f2]
        rfl
      · exact absurd ⟨t, v t - 1, rfl, ht, rfl, by omega⟩ h
  subst e10
  refine g_aret (r := (if v t = 0 then none else some (ad0 (100 + mtop v t)))) hC hr hlk d_H_last_12 (by decide) (by decide) (fun ad w hw => ?_)
  exact ⟨rfl, hw⟩
theorem OPS.al {S : Nat} {σ ρ : rS} (hInv : INV S σ) (hO : OPS S σ ρ) {o : Nat} (ho : mh (s_mk σ) o) : o < 18 ∧ ρ 41 o ≠ 0 ∧ ρ (60 + o) 3 = o / 6 ∧ ρ (60 + o) 4 = o % 6 ∧ ρ (60 + o) 0 = σ 4 o ∧ ρ (60 + o) 1 = σ 3 o ∧ ρ (60 + o) 2 = evv (s_cx σ o) := ⟨hInv.1.lt18 ho, (hO o (hInv.1.lt18 ho)).2 ho⟩
set_option maxRecDepth 100000 in
set_option maxHeartbeats 4000000 in
theorem h_isIn (l : Launch) (D : va_G) (S : Nat) (σ ρ : rS) (ad0 : Nat → Nat) (w0 : gW) (hInv : INV S σ) (hO : OPS S σ ρ) (y : Nat) (c : Nat → Nat) (hym : mh (s_mk σ) y) (hc : ∀ t, c t ≤ 6) : g_M l y_H_isIn w_H_isIn (rk 1) D gCl g_N [.ref (ad0 (100 + y)), .int (nI (evv c))] (CW S ρ ad0 w0) 0 0 (fun A => g_Qi D gCl A (fun r ad w => r = nI (pb (mh c y)) ∧ CW S ρ ad0 w0 ad w)) := by
  obtain ⟨hy, hyal, hysi, hynu, -, -, -⟩ := hO.al hInv hym
  refine g_of (cc := c_H_isIn) (nL := 2) (ret := some .boolean) (by decide) rfl (Nat.le_of_ble_eq_true rfl) ?_
  intro pp ee ss mm bb me cc A hC hr hlk hnm
  refine g_los [0, 1] (lo' := [(0, .ref (ad0 (100 + y))), (1, .int (nI (evv c)))]) rfl ?_
  refine g_pure cw_bl (fun hbS => ?_)
  obtain ⟨hb, hSS⟩ := hbS
  refine g_iload_n (i := 1) hC d_H_isIn_0 rfl rfl ?_
  refine g_aload_n (i := 0) hC d_H_isIn_1 rfl rfl (Or.inr ⟨_, rfl⟩) ?_
  refine g_getN (host := R_T) hC (fun x h => List.mem_cons_of_mem _ (in_O x h)) (100 + y) (cw_o hy hyal) rfl 0 (by decide) (hC.2.2.1.1 _ mn_133) rfl rfl d_H_isIn_2 ?_
  rw [hysi]
  refine g_calli hC (g_runS (As := [_, _]) (st := []) hC g_NOK_N (v_count l D (CW S ρ ad0 w0) c (y / 6) hc (by omega)) (t_cwS 2 hC.1.2.2.2.2 m_225 m_123 m_3 k_V_count rfl rfl hd_V_count ⟨by decide, by decide⟩) rfl rfl (Nat.le_of_ble_eq_true rfl) d_H_isIn_5 ⟨by decide, by decide⟩) (fun r5 => ?_)
  refine g_and (fun e => ?_)
  subst e
  refine g_aload_n (i := 0) hC d_H_isIn_8 rfl rfl (Or.inr ⟨_, rfl⟩) ?_
  refine g_getN (host := R_T) hC (fun x h => List.mem_cons_of_mem _ (in_O x h)) (100 + y) (cw_o hy hyal) rfl 1 (by decide) (hC.2.2.1.1 _ mn_136) rfl rfl d_H_isIn_9 ?_
  rw [hynu]
  refine g_icmp_leN (tgt := 19) hC d_H_isIn_12 (by decide) (by have := hc (y / 6); omega) (by omega) (fun h12 => ?_) (fun h12 => ?_)
  · refine g_iconst (v := nI 0) hC d_H_isIn_19 (by decide) ?_
    refine g_zret hC hr hlk (r_nar2 (by decide)) d_H_isIn_20 (by decide) (by decide) (fun ad w hw => ?_)
    exact ⟨nI_zero (by unfold mh; omega), hw⟩
  · refine g_iconst (v := nI 1) hC d_H_isIn_15 (by decide) ?_
    refine g_goto (tgt := 20) hC d_H_isIn_16 (by decide) ?_
    refine g_zret hC hr hlk (r_nar2 (by decide)) d_H_isIn_20 (by decide) (by decide) (fun ad w hw => ?_)
    exact ⟨nI_one (by unfold mh; omega), hw⟩
set_option maxRecDepth 100000 in
set_option maxHeartbeats 4000000 in
theorem h_isAny (l : Launch) (D : va_G) (S : Nat) (σ ρ : rS) (ad0 : Nat → Nat) (w0 : gW) (hInv : INV S σ) (hO : OPS S σ ρ) (y : Nat) (v : Nat → Nat) (hym : mh (s_mk σ) y) (hv : ∀ t, v t ≤ s_mk σ t) : g_M l y_H_isInContextOfAny w_H_isInContextOfAny (rk 2) D gCl g_N [.ref (ad0 1), .ref (ad0 (100 + y)), .int (nI (evv v))] (CW S ρ ad0 w0) 0 0 (fun A => g_Qi D gCl A (fun r ad w => r = nI (pb (∃ s, s < S ∧ 0 < v s ∧ mh (s_cx σ (mtop v s)) y)) ∧ CW S ρ ad0 w0 ad w)) := by
  have hS3 := hInv.S3
  have hInv_top : ∀ v : Nat → Nat, (∀ t, v t ≤ s_mk σ t) → ∀ s, 0 < v s → mh (s_mk σ) (mtop v s) := fun v hv s h0 => Nat.lt_of_lt_of_le (mh_top h0 (Nat.le_trans (hv s) (hInv.1.2.2.1.1 s))) (hv _)
  obtain ⟨hy, hyal, -, -, -, -, -⟩ := hO.al hInv hym
  refine g_of (cc := c_H_isInContextOfAny) (nL := 5) (ret := some .boolean) (by decide) rfl (Nat.le_of_ble_eq_true rfl) ?_
  intro pp ee ss mm bb me cc A hC hr hlk hnm
  refine g_los [0, 1, 2] (lo' := [(0, .ref (ad0 1)), (1, .ref (ad0 (100 + y))), (2, .int (nI (evv v)))]) rfl ?_
  refine g_pure cw_bl (fun hbS => ?_)
  obtain ⟨hb, hSS⟩ := hbS
  refine g_iconst (v := nI 0) hC d_H_isInContextOfAny_0 (by decide) ?_
  refine g_istore_n (i := 3) (lo' := [(3, _), (0, _), (1, _), (2, _)]) hC d_H_isInContextOfAny_1 rfl (by decide) rfl ?_
  refine g_los [1, 2, 3, 0] (lo' := [(0, _), (1, _), (2, _), (3, _)]) rfl ?_
  refine g_loop (ι := Nat) (pc0 := 2) (fun s => 3 - s) (fun s => s ≤ S ∧ ∀ s', s' < s → ¬ (0 < v s' ∧ mh (s_cx σ (mtop v s')) y)) (fun s => CW S ρ ad0 w0) (fun s => [(0, .ref (ad0 1)), (1, .ref (ad0 (100 + y))), (2, .int (nI (evv v))), (3, .int (nI s))]) ?_ 0 (⟨Nat.zero_le _, fun s' h => absurd h (Nat.not_lt_zero _)⟩)
  rintro s hI ih
  try dsimp only at hI ih ⊢
  refine g_iload_n (i := 3) hC d_H_isInContextOfAny_2 rfl rfl ?_
  refine g_aload_n (i := 0) hC d_H_isInContextOfAny_3 rfl rfl (Or.inr ⟨_, rfl⟩) ?_
  refine g_get hC (fun x h => List.mem_cons_of_mem _ (in_H x h)) 1 cw_hi rfl 0 (by decide) (List.mem_cons_of_mem _ m_31) rfl rfl d_H_isInContextOfAny_4 ?_
  refine g_icmp_geN (tgt := 43) hC d_H_isInContextOfAny_7 (by decide) (by first | omega | exact c_lt hb _ _ | exact pb_le _) (by first | omega | exact c_lt hb _ _ | exact pb_le _) (fun h7 => ?_) (fun h7 => ?_)
  · refine g_iconst (v := nI 0) hC d_H_isInContextOfAny_43 (by decide) ?_
    refine g_zret hC hr hlk (r_nar2 (by decide)) d_H_isInContextOfAny_44 (by decide) (by decide) (fun ad w hw => ?_)
    exact ⟨nI_zero (fun ⟨s1, h⟩ => hI.2 s1 (by have := h.1; omega) h.2), hw⟩
  · refine g_aload_n (i := 0) hC d_H_isInContextOfAny_10 rfl rfl (Or.inr ⟨_, rfl⟩) ?_
    refine g_iload_n (i := 2) hC d_H_isInContextOfAny_11 rfl rfl ?_
    refine g_iload_n (i := 3) hC d_H_isInContextOfAny_12 rfl rfl ?_
    refine g_callq hC (g_runV (q := 1) (As := [_, _]) (st := []) hC g_NOK_N (h_last l D S σ ρ ad0 w0 hInv hO v s hv (by omega)) (t_cwV 2 hC.1.2.2.2.2 m_221 m_222 m_223 m_2 k_H_last rfl rfl hd_H_last ⟨by decide, by decide⟩) cw_hi rfl rfl rfl (Nat.le_of_ble_eq_true rfl) d_H_isInContextOfAny_13 ⟨by decide, by decide⟩) (fun r13 => ?_)
    refine g_and (fun e => ?_)
    subst e
    by_cases hv0 : 0 < v s
    · have htm := hInv_top v hv s hv0
      obtain ⟨htl, htal, -, -, -, -, htcx⟩ := hO.al hInv htm
      rw [show va_rf (if v s = 0 then none else some (ad0 (100 + mtop v s))) = .ref (ad0 (100 + mtop v s)) by rw [if_neg (by omega)]; rfl]
      refine g_astore (i := 4) (lo' := [(4, _), (0, _), (1, _), (2, _), (3, _)]) hC d_H_isInContextOfAny_16 (Or.inr ⟨_, rfl⟩) (by decide) rfl ?_
      refine g_aload (i := 4) hC d_H_isInContextOfAny_18 rfl (Or.inr ⟨_, rfl⟩) ?_
      refine g_ifnullR hC d_H_isInContextOfAny_20 ?_
      refine g_aload_n (i := 1) hC d_H_isInContextOfAny_23 rfl rfl (Or.inr ⟨_, rfl⟩) ?_
      refine g_aload (i := 4) hC d_H_isInContextOfAny_24 rfl (Or.inr ⟨_, rfl⟩) ?_
      refine g_getN (host := R_T) hC (fun x h => List.mem_cons_of_mem _ (in_O x h)) (100 + mtop v s) (cw_o htl htal) rfl 4 (by decide) (hC.2.2.1.1 _ mn_142) rfl rfl d_H_isInContextOfAny_26 ?_
      rw [htcx]
      refine g_calli hC (g_runS (As := [_, _]) (st := []) hC g_NOK_N (h_isIn l D S σ ρ ad0 w0 hInv hO y (s_cx σ (mtop v s)) hym (hInv.cx6 htm)) (t_cwS 2 hC.1.2.2.2.2 m_227 m_228 m_2 k_H_isIn rfl rfl hd_H_isIn ⟨by decide, by decide⟩) rfl rfl (Nat.le_of_ble_eq_true rfl) d_H_isInContextOfAny_29 ⟨by decide, by decide⟩) (fun r29 => ?_)
      refine g_and (fun e => ?_)
      subst e
      refine g_if_eqN (tgt := 37) hC d_H_isInContextOfAny_32 (by decide) (pb_le _) (fun h32 => ?_) (fun h32 => ?_)
      · have g32 := pb_0 h32
        refine g_iinc (i := 3) (k := 4) (lo' := [(3, _), (4, _), (0, _), (1, _), (2, _)]) hC d_H_isInContextOfAny_37 rfl (nI_inc _) (by decide) rfl ?_
        refine g_goto (tgt := 2) hC d_H_isInContextOfAny_40 (by decide) ?_
        refine g_los [2, 3, 4, 0] rfl ?_
        exact ih (s + 1) ⟨by omega, lt_s hI.2 (fun q => g32 q.2)⟩ (by omega)
      · have g32 := pb_1 h32
        refine g_iconst (v := nI 1) hC d_H_isInContextOfAny_35 (by decide) ?_
        refine g_zret hC hr hlk (r_nar2 (by decide)) d_H_isInContextOfAny_36 (by decide) (by decide) (fun ad w hw => ?_)
        exact ⟨nI_one ⟨s, by omega, hv0, g32⟩, hw⟩
    · rw [show va_rf (if v s = 0 then none else some (ad0 (100 + mtop v s))) = .null by rw [if_pos (by omega)]; rfl]
      refine g_astore (i := 4) (lo' := [(4, _), (0, _), (1, _), (2, _), (3, _)]) hC d_H_isInContextOfAny_16 (Or.inl rfl) (by decide) rfl ?_
      refine g_aload (i := 4) hC d_H_isInContextOfAny_18 rfl (Or.inl rfl) ?_
      refine g_ifnullZ (tgt := 37) hC d_H_isInContextOfAny_20 (by decide) ?_
      refine g_iinc (i := 3) (k := 4) (lo' := [(3, _), (4, _), (0, _), (1, _), (2, _)]) hC d_H_isInContextOfAny_37 rfl (nI_inc _) (by decide) rfl ?_
      refine g_goto (tgt := 2) hC d_H_isInContextOfAny_40 (by decide) ?_
      refine g_los [2, 3, 4, 0] rfl ?_
      exact ih (s + 1) ⟨by omega, lt_s hI.2 (fun q => by omega)⟩ (by omega)
