theorem lg_cmp_0 {x y : Int64} : lg_cmp x y = 0 ↔ x = y := by
  unfold lg_cmp
  split
  · rename_i h
    constructor
    · intro q
      exact absurd q (by decide)
    · intro q
      subst q
      exact (Int64.lt_irrefl h).elim
  · split
    · rename_i h
      exact ⟨fun _ => h, fun _ => rfl⟩
    · rename_i h
      constructor
      · intro q
        exact absurd q (by decide)
      · intro q
        exact absurd q h
theorem md_iff {S : Nat} {σ : rS} (hInv : INV S σ) {i : Nat} (hi : i < 18) : (∃ s k, MD S σ (nI (i / 6)) (nI (i % 6)) s k) ↔ mh (s_mk σ) i := by
  constructor
  · rintro ⟨s, k, h⟩
    have hk := (MD.opn hInv h)
    have h3 := hInv.S3
    have e1 := nI_inj h.1 (by omega) (by have := h.2.1; omega)
    have e2 := nI_inj h.2.2.1 (by omega) (by omega)
    have := hk.1
    rw [← e1, ← e2, show 6 * (i / 6) + i % 6 = i by omega] at this
    exact this
  · intro h
    refine ⟨i / 6, i % 6, rfl, ?_, rfl, ?_⟩
    · apply Nat.lt_of_not_le
      intro q
      have e := hInv.1.2.1 (i / 6) q
      unfold mh at h
      rw [s_mk_lt (by omega), e] at h
      omega
    · unfold mh at h
      rw [s_mk_lt (by omega)] at h
      exact h
theorem MD.at_ {S : Nat} {σ : rS} (hInv : INV S σ) {i s k : Nat} (hi : i < 18) (h : MD S σ (nI (i / 6)) (nI (i % 6)) s k) : s = i / 6 ∧ k = i % 6 := by
  have hk := (MD.opn hInv h)
  have h3 := hInv.S3
  exact ⟨(nI_inj h.1 (by omega) (by have := h.2.1; omega)).symm, (nI_inj h.2.2.1 (by omega) (by omega)).symm⟩
def SpAr (S : Nat) (σ : rS) (t : Int32) (c : Int64) (r : Int32) (σs : rS) : Prop := (∃ o, (o < 18 ∧ mh (s_mk σ) o ∧ c = lN (cdv σ o)) ∧ SpDl S σ t (nI (o / 6)) (nI (o % 6)) r σs) ∨ ((¬ ∃ o, o < 18 ∧ mh (s_mk σ) o ∧ c = lN (cdv σ o)) ∧ r = -1 ∧ σs = σ)
theorem E12.ar {σ σ' : rS} (h : E12 σ σ') (s o : Nat) : E12 (arS σ s o) (arS σ' s o) := by
  intro k h1 h2
  funext j
  unfold arS
  rw [h k h1 h2]
theorem WK.e12 {s : Nat} : ∀ {n : Nat} {σ τ τ1 : rS}, E12 σ τ → WK s n τ τ1 → ∃ σ1, WK s n σ σ1 ∧ E12 σ1 τ1
  | 0, σ, τ, τ1, h, hw => ⟨σ, ⟨rfl, fun o ho q => hw.2 o ho ((h.wt s o).mpr q)⟩, by rw [hw.1]; exact h⟩
  | n + 1, σ, τ, τ1, h, hw => by
    obtain ⟨o, ho, hw⟩ := hw
    rw [h.pl, h.vc] at hw
    obtain ⟨σ1, a, b⟩ := WK.e12 (h.ex s o _) hw
    exact ⟨σ1, ⟨o, ⟨ho.1, (h.wt s o).mp ho.2.1, fun o' q z => ho.2.2 o' q ((h.wt s o').mpr z)⟩, a⟩, b⟩
/-- sync, operation by operation: what has come of it behind operations below i -/
def SYC (s s' i : Nat) (τ : rS) : Prop := τ 7 (18 * s' + i) ≠ 0 ∧ i / 6 ≠ s ∧ τ 6 (18 * s + i) = 0
def SYR (s s' : Nat) : Nat → rS → Nat → rS → Prop
  | 0, σ, n, τ => n = 0 ∧ τ = σ
  | i + 1, σ, n, τ => ∃ n0 τ0, SYR s s' i σ n0 τ0 ∧ ((SYC s s' i τ0 ∧ ∃ m, WK s m (arS τ0 s i) τ ∧ n = n0 + m) ∨ (¬ SYC s s' i τ0 ∧ τ = τ0 ∧ n = n0))
theorem SYR_eq {s s' : Nat} : ∀ {i : Nat} {σ τ τ' : rS} {n n' : Nat}, SYR s s' i σ n τ → SYR s s' i σ n' τ' → n = n' ∧ τ = τ'
  | 0, σ, τ, τ', n, n', h, h' => ⟨h.1.trans h'.1.symm, h.2.trans h'.2.symm⟩
  | i + 1, σ, τ, τ', n, n', h, h' => by
    obtain ⟨n0, τ0, a, b⟩ := h
    obtain ⟨n1, τ1, a', b'⟩ := h'
    obtain ⟨e1, e2⟩ := SYR_eq a a'
    subst e1
    subst e2
    rcases b with ⟨c, m, d, e⟩ | ⟨c, d, e⟩ <;> rcases b' with ⟨c', m', d', e'⟩ | ⟨c', d', e'⟩
    · obtain ⟨f1, f2⟩ := WK_eq d d'
      subst f1
      exact ⟨e.trans e'.symm, f2⟩
    · exact absurd c c'
    · exact absurd c' c
    · exact ⟨e.trans e'.symm, d.trans d'.symm⟩
def SyOK (S : Nat) (t f : Int32) (s s' : Nat) : Prop := t = nI s ∧ s < S ∧ f = nI s' ∧ s' < S ∧ s ≠ s'
def SpSy (S : Nat) (σ : rS) (t f : Int32) (r : Int32) (σs : rS) : Prop := (∃ s s' n, SyOK S t f s s' ∧ SYR s s' 18 σ n σs ∧ r = nI n) ∨ ((¬ ∃ s s', SyOK S t f s s') ∧ r = -1 ∧ σs = σ)
theorem en_lt {a : Nat} (ha : a < 2 ^ 31) : nI a - 1 < 0 ↔ a = 0 := by
  constructor
  · intro h
    apply Classical.byContradiction
    intro e
    rw [show a = (a - 1) + 1 by omega, nI_pred] at h
    exact absurd h (nI_pos (by omega))
  · intro e
    subst e
    decide +kernel
/-- what s knows of how many operations of t were executed at j -/
def s_kn (σ : rS) (s t j : Nat) : Nat := if j = s then σ 8 (3 * s + t) else if σ 8 (3 * s + j) = 0 then 0 else σ 5 (3 * (6 * j + σ 8 (3 * s + j) - 1) + t) + (if t = j then 1 else 0)
def s_st (σ : rS) (s t : Nat) : Nat → Nat
  | 0 => 100
  | j + 1 => if s_kn σ s t j < s_st σ s t j then s_kn σ s t j else s_st σ s t j
def q_st (S : Nat) (σ : rS) (x y : Int32) : Int32 := match ix S x, ix S y with
  | some s, some t => nI (s_st σ s t S)
  | _, _ => -1
set_option maxRecDepth 100000 in
set_option maxHeartbeats 4000000 in
theorem r_code (l : Launch) (D : va_G) (S : Nat) (σ : rS) (ad0 : Nat → Nat) (w0 : gW) (hInv : INV S σ) (x y : Int32) : g_M l y_M_code w_M_code (rk 2) D gCl g_N [.ref (ad0 200), .int x, .int y] (RX S σ ad0 w0) 0 0 (fun A => g_Ql D gCl A (fun r ad w => SpCd S σ x y r ∧ RX S σ ad0 w0 ad w)) := by
  have hS3 := hInv.S3
  refine g_of (cc := c_M_code) (nL := 6) (ret := some .long) (by decide) rfl (Nat.le_of_ble_eq_true rfl) ?_
  intro pp ee ss mm bb me cc A hC hr hlk hnm
  refine g_los [0, 1, 2] (lo' := [(0, .ref (ad0 200)), (1, .int x), (2, .int y)]) rfl ?_
  refine g_pure r_bl_of (fun hb => ?_)
  refine g_aload_n (i := 0) hC d_M_code_0 rfl rfl (Or.inr ⟨_, rfl⟩) ?_
  refine g_iload_n (i := 1) hC d_M_code_1 rfl rfl ?_
  refine g_iload_n (i := 2) hC d_M_code_2 rfl rfl ?_
  refine g_calli hC (g_runV (q := 200) (As := [_, _]) (st := []) hC g_NOK_N (r_isMade l D S σ ad0 w0 hInv x y) (t_cwV 2 hC.1.2.2.2.2 m_437 m_439 ms_21 m_6 k_M_isMade rfl rfl hd_M_isMade ⟨by decide, by decide⟩) r_this rfl rfl rfl (Nat.le_of_ble_eq_true rfl) d_M_code_3 ⟨by decide, by decide⟩) (fun r3 => ?_)
  refine g_and (fun e => ?_)
  subst e
  refine g_if_neN (tgt := 13) hC d_M_code_6 (by decide) (pb_le _) (fun h6 => ?_) (fun h6 => ?_)
  · have g6 := pb_1 h6
    obtain ⟨s, k, hmd⟩ := g6
    obtain ⟨rfl, hs', rfl, hk⟩ := id hmd
    obtain ⟨hmh, ho18, hod, hom, hk6⟩ := MD.opn hInv hmd
    refine g_bipush (v := nI 6) hC d_M_code_13 (by decide) ?_
    refine g_iload_n (i := 1) hC d_M_code_15 rfl rfl ?_
    refine g_imulN hC d_M_code_16 ?_
    refine g_iload_n (i := 2) hC d_M_code_17 rfl rfl ?_
    refine g_iaddN hC d_M_code_18 ?_
    refine g_istore_n (i := 3) (lo' := [(3, _), (0, _), (1, _), (2, _)]) hC d_M_code_19 rfl (by decide) rfl ?_
    refine g_iload_n (i := 1) hC d_M_code_20 rfl rfl ?_
    refine g_i2l hC d_M_code_21 (nI_l (by first | omega | exact r_lt hb _ _)) ?_
    refine g_ldc2 (v := 4) hC d_M_code_22 (List.mem_cons_of_mem _ m_458) ?_
    refine g_eql (show (4 : Int64) = lN 4 by decide +kernel) ?_
    refine g_iload_n (i := 2) hC d_M_code_25 rfl rfl ?_
    refine g_i2l hC d_M_code_26 (nI_l (by first | omega | exact r_lt hb _ _)) ?_
    refine g_lmul hC d_M_code_27 ?_
    refine g_eql (lN_mul _ _) ?_
    refine g_ladd hC d_M_code_28 ?_
    refine g_eql (lN_add _ _) ?_
    refine g_aload_n (i := 0) hC d_M_code_29 rfl rfl (Or.inr ⟨_, rfl⟩) ?_
    refine g_get hC (fun x h => List.mem_cons_of_mem _ (in_M x h)) 200 r_this rfl 2 (by decide) (List.mem_cons_of_mem _ m_322) rfl rfl d_M_code_30 ?_
    refine g_iload_n (i := 3) hC d_M_code_33 rfl rfl ?_
    refine r_zld 2 hC (by decide) (by decide) rfl (fun _ => rfl) (by simp only [r_ln]; omega) d_M_code_34 ?_
    refine g_if_eqN (tgt := 44) hC d_M_code_35 (by decide) (r_lt hb _ _) (fun h35 => ?_) (fun h35 => ?_)
    · refine g_lconst (v := lN 0) hC d_M_code_44 (by decide +kernel) ?_
      refine g_ladd hC d_M_code_45 ?_
      refine g_eql (lN_add _ _) ?_
      refine g_ldc2 (v := 128) hC d_M_code_46 (List.mem_cons_of_mem _ m_460) ?_
      refine g_eql (show (128 : Int64) = lN 128 by decide +kernel) ?_
      refine g_aload_n (i := 0) hC d_M_code_49 rfl rfl (Or.inr ⟨_, rfl⟩) ?_
      refine g_get hC (fun x h => List.mem_cons_of_mem _ (in_M x h)) 200 r_this rfl 3 (by decide) (List.mem_cons_of_mem _ m_323) rfl rfl d_M_code_50 ?_
      refine g_iload_n (i := 3) hC d_M_code_53 rfl rfl ?_
      refine r_ld 3 hC (by decide) (by decide) rfl (fun _ => rfl) (by simp only [r_ln]; omega) d_M_code_54 ?_
      refine g_i2l hC d_M_code_55 (nI_l (by first | omega | exact r_lt hb _ _)) ?_
      refine g_lmul hC d_M_code_56 ?_
      refine g_eql (lN_mul _ _) ?_
      refine g_ladd hC d_M_code_57 ?_
      refine g_eql (lN_add _ _) ?_
      refine g_ldc2 (v := 8192) hC d_M_code_58 (List.mem_cons_of_mem _ m_461) ?_
      refine g_eql (show (8192 : Int64) = lN 8192 by decide +kernel) ?_
      refine g_aload_n (i := 0) hC d_M_code_61 rfl rfl (Or.inr ⟨_, rfl⟩) ?_
      refine g_get hC (fun x h => List.mem_cons_of_mem _ (in_M x h)) 200 r_this rfl 4 (by decide) (List.mem_cons_of_mem _ m_324) rfl rfl d_M_code_62 ?_
      refine g_iload_n (i := 3) hC d_M_code_65 rfl rfl ?_
      refine r_ld 4 hC (by decide) (by decide) rfl (fun _ => rfl) (by simp only [r_ln]; omega) d_M_code_66 ?_
      refine g_i2l hC d_M_code_67 (nI_l (by first | omega | exact r_lt hb _ _)) ?_
      refine g_lmul hC d_M_code_68 ?_
      refine g_eql (lN_mul _ _) ?_
      refine g_ladd hC d_M_code_69 ?_
      refine g_eql (lN_add _ _) ?_
      refine g_lstore (i := 4) (lo' := [(4, _), (3, _), (0, _), (1, _), (2, _)]) hC d_M_code_70 (by decide) rfl ?_
      refine g_lload (i := 4) hC d_M_code_72 rfl ?_
      refine g_ldc2 (v := 2097152) hC d_M_code_74 (List.mem_cons_of_mem _ m_462) ?_
      refine g_eql (show (2097152 : Int64) = lN 2097152 by decide +kernel) ?_
      refine g_aload_n (i := 0) hC d_M_code_77 rfl rfl (Or.inr ⟨_, rfl⟩) ?_
      refine g_get hC (fun x h => List.mem_cons_of_mem _ (in_M x h)) 200 r_this rfl 5 (by decide) (List.mem_cons_of_mem _ m_325) rfl rfl d_M_code_78 ?_
      refine g_iconst (v := nI 3) hC d_M_code_81 (by decide) ?_
      refine g_iload_n (i := 3) hC d_M_code_82 rfl rfl ?_
      refine g_imulN hC d_M_code_83 ?_
      refine r_ld 5 hC (by decide) (by decide) rfl (fun _ => rfl) (by simp only [r_ln]; omega) d_M_code_84 ?_
      refine g_i2l hC d_M_code_85 (nI_l (by first | omega | exact r_lt hb _ _)) ?_
      refine g_lmul hC d_M_code_86 ?_
      refine g_eql (lN_mul _ _) ?_
      refine g_ladd hC d_M_code_87 ?_
      refine g_eql (lN_add _ _) ?_
      refine g_ldc2 (v := 33554432) hC d_M_code_88 (List.mem_cons_of_mem _ m_463) ?_
      refine g_eql (show (33554432 : Int64) = lN 33554432 by decide +kernel) ?_
      refine g_aload_n (i := 0) hC d_M_code_91 rfl rfl (Or.inr ⟨_, rfl⟩) ?_
      refine g_get hC (fun x h => List.mem_cons_of_mem _ (in_M x h)) 200 r_this rfl 5 (by decide) (List.mem_cons_of_mem _ m_325) rfl rfl d_M_code_92 ?_
      refine g_iconst (v := nI 3) hC d_M_code_95 (by decide) ?_
      refine g_iload_n (i := 3) hC d_M_code_96 rfl rfl ?_
      refine g_imulN hC d_M_code_97 ?_
      refine g_iconst (v := nI 1) hC d_M_code_98 (by decide) ?_
      refine g_iaddN hC d_M_code_99 ?_
      refine r_ld 5 hC (by decide) (by decide) rfl (fun _ => rfl) (by simp only [r_ln]; omega) d_M_code_100 ?_
      refine g_i2l hC d_M_code_101 (nI_l (by first | omega | exact r_lt hb _ _)) ?_
      refine g_lmul hC d_M_code_102 ?_
      refine g_eql (lN_mul _ _) ?_
      refine g_ladd hC d_M_code_103 ?_
      refine g_eql (lN_add _ _) ?_
      refine g_ldc2 (v := 536870912) hC d_M_code_104 (List.mem_cons_of_mem _ m_464) ?_
      refine g_eql (show (536870912 : Int64) = lN 536870912 by decide +kernel) ?_
      refine g_aload_n (i := 0) hC d_M_code_107 rfl rfl (Or.inr ⟨_, rfl⟩) ?_
      refine g_get hC (fun x h => List.mem_cons_of_mem _ (in_M x h)) 200 r_this rfl 5 (by decide) (List.mem_cons_of_mem _ m_325) rfl rfl d_M_code_108 ?_
      refine g_iconst (v := nI 3) hC d_M_code_111 (by decide) ?_
      refine g_iload_n (i := 3) hC d_M_code_112 rfl rfl ?_
      refine g_imulN hC d_M_code_113 ?_
      refine g_iconst (v := nI 2) hC d_M_code_114 (by decide) ?_
      refine g_iaddN hC d_M_code_115 ?_
      refine r_ld 5 hC (by decide) (by decide) rfl (fun _ => rfl) (by simp only [r_ln]; omega) d_M_code_116 ?_
      refine g_i2l hC d_M_code_117 (nI_l (by first | omega | exact r_lt hb _ _)) ?_
      refine g_lmul hC d_M_code_118 ?_
      refine g_eql (lN_mul _ _) ?_
      refine g_ladd hC d_M_code_119 ?_
      refine g_eql (lN_add _ _) ?_
      refine g_lret hC hr hlk d_M_code_120 (by decide) (by decide) (fun ad w hw => ?_)
      refine ⟨Or.inl ⟨s, k, hmd, ?_⟩, hw⟩
      unfold cdv
      rw [hod, hom, if_pos h35]
    · refine g_ldc2 (v := 64) hC d_M_code_38 (List.mem_cons_of_mem _ m_459) ?_
      refine g_eql (show (64 : Int64) = lN 64 by decide +kernel) ?_
      refine g_goto (tgt := 45) hC d_M_code_41 (by decide) ?_
      refine g_ladd hC d_M_code_45 ?_
      refine g_eql (lN_add _ _) ?_
      refine g_ldc2 (v := 128) hC d_M_code_46 (List.mem_cons_of_mem _ m_460) ?_
      refine g_eql (show (128 : Int64) = lN 128 by decide +kernel) ?_
      refine g_aload_n (i := 0) hC d_M_code_49 rfl rfl (Or.inr ⟨_, rfl⟩) ?_
      refine g_get hC (fun x h => List.mem_cons_of_mem _ (in_M x h)) 200 r_this rfl 3 (by decide) (List.mem_cons_of_mem _ m_323) rfl rfl d_M_code_50 ?_
      refine g_iload_n (i := 3) hC d_M_code_53 rfl rfl ?_
      refine r_ld 3 hC (by decide) (by decide) rfl (fun _ => rfl) (by simp only [r_ln]; omega) d_M_code_54 ?_
      refine g_i2l hC d_M_code_55 (nI_l (by first | omega | exact r_lt hb _ _)) ?_
      refine g_lmul hC d_M_code_56 ?_
      refine g_eql (lN_mul _ _) ?_
      refine g_ladd hC d_M_code_57 ?_
      refine g_eql (lN_add _ _) ?_
      refine g_ldc2 (v := 8192) hC d_M_code_58 (List.mem_cons_of_mem _ m_461) ?_
      refine g_eql (show (8192 : Int64) = lN 8192 by decide +kernel) ?_
      refine g_aload_n (i := 0) hC d_M_code_61 rfl rfl (Or.inr ⟨_, rfl⟩) ?_
      refine g_get hC (fun x h => List.mem_cons_of_mem _ (in_M x h)) 200 r_this rfl 4 (by decide) (List.mem_cons_of_mem _ m_324) rfl rfl d_M_code_62 ?_
      refine g_iload_n (i := 3) hC d_M_code_65 rfl rfl ?_
      refine r_ld 4 hC (by decide) (by decide) rfl (fun _ => rfl) (by simp only [r_ln]; omega) d_M_code_66 ?_
      refine g_i2l hC d_M_code_67 (nI_l (by first | omega | exact r_lt hb _ _)) ?_
      refine g_lmul hC d_M_code_68 ?_
      refine g_eql (lN_mul _ _) ?_
      refine g_ladd hC d_M_code_69 ?_
      refine g_eql (lN_add _ _) ?_
      refine g_lstore (i := 4) (lo' := [(4, _), (3, _), (0, _), (1, _), (2, _)]) hC d_M_code_70 (by decide) rfl ?_
      refine g_lload (i := 4) hC d_M_code_72 rfl ?_
      refine g_ldc2 (v := 2097152) hC d_M_code_74 (List.mem_cons_of_mem _ m_462) ?_
      refine g_eql (show (2097152 : Int64) = lN 2097152 by decide +kernel) ?_
      refine g_aload_n (i := 0) hC d_M_code_77 rfl rfl (Or.inr ⟨_, rfl⟩) ?_
      refine g_get hC (fun x h => List.mem_cons_of_mem _ (in_M x h)) 200 r_this rfl 5 (by decide) (List.mem_cons_of_mem _ m_325) rfl rfl d_M_code_78 ?_
      refine g_iconst (v := nI 3) hC d_M_code_81 (by decide) ?_
      refine g_iload_n (i := 3) hC d_M_code_82 rfl rfl ?_
      refine g_imulN hC d_M_code_83 ?_
      refine r_ld 5 hC (by decide) (by decide) rfl (fun _ => rfl) (by simp only [r_ln]; omega) d_M_code_84 ?_
      refine g_i2l hC d_M_code_85 (nI_l (by first | omega | exact r_lt hb _ _)) ?_
      refine g_lmul hC d_M_code_86 ?_
      refine g_eql (lN_mul _ _) ?_
      refine g_ladd hC d_M_code_87 ?_
      refine g_eql (lN_add _ _) ?_
      refine g_ldc2 (v := 33554432) hC d_M_code_88 (List.mem_cons_of_mem _ m_463) ?_
      refine g_eql (show (33554432 : Int64) = lN 33554432 by decide +kernel) ?_
      refine g_aload_n (i := 0) hC d_M_code_91 rfl rfl (Or.inr ⟨_, rfl⟩) ?_
      refine g_get hC (fun x h => List.mem_cons_of_mem _ (in_M x h)) 200 r_this rfl 5 (by decide) (List.mem_cons_of_mem _ m_325) rfl rfl d_M_code_92 ?_
      refine g_iconst (v := nI 3) hC d_M_code_95 (by decide) ?_
      refine g_iload_n (i := 3) hC d_M_code_96 rfl rfl ?_
      refine g_imulN hC d_M_code_97 ?_
      refine g_iconst (v := nI 1) hC d_M_code_98 (by decide) ?_
      refine g_iaddN hC d_M_code_99 ?_
      refine r_ld 5 hC (by decide) (by decide) rfl (fun _ => rfl) (by simp only [r_ln]; omega) d_M_code_100 ?_
      refine g_i2l hC d_M_code_101 (nI_l (by first | omega | exact r_lt hb _ _)) ?_
      refine g_lmul hC d_M_code_102 ?_
      refine g_eql (lN_mul _ _) ?_
      refine g_ladd hC d_M_code_103 ?_
      refine g_eql (lN_add _ _) ?_
      refine g_ldc2 (v := 536870912) hC d_M_code_104 (List.mem_cons_of_mem _ m_464) ?_
      refine g_eql (show (536870912 : Int64) = lN 536870912 by decide +kernel) ?_
      refine g_aload_n (i := 0) hC d_M_code_107 rfl rfl (Or.inr ⟨_, rfl⟩) ?_
      refine g_get hC (fun x h => List.mem_cons_of_mem _ (in_M x h)) 200 r_this rfl 5 (by decide) (List.mem_cons_of_mem _ m_325) rfl rfl d_M_code_108 ?_
      refine g_iconst (v := nI 3) hC d_M_code_111 (by decide) ?_
      refine g_iload_n (i := 3) hC d_M_code_112 rfl rfl ?_
      refine g_imulN hC d_M_code_113 ?_
      refine g_iconst (v := nI 2) hC d_M_code_114 (by decide) ?_
      refine g_iaddN hC d_M_code_115 ?_
      refine r_ld 5 hC (by decide) (by decide) rfl (fun _ => rfl) (by simp only [r_ln]; omega) d_M_code_116 ?_
      refine g_i2l hC d_M_code_117 (nI_l (by first | omega | exact r_lt hb _ _)) ?_
      refine g_lmul hC d_M_code_118 ?_
      refine g_eql (lN_mul _ _) ?_
      refine g_ladd hC d_M_code_119 ?_
      refine g_eql (lN_add _ _) ?_
      refine g_lret hC hr hlk d_M_code_120 (by decide) (by decide) (fun ad w hw => ?_)
      refine ⟨Or.inl ⟨s, k, hmd, ?_⟩, hw⟩
      unfold cdv
      rw [hod, hom, if_neg h35]
  · have g6 := pb_0 h6
    refine g_ldc2 (v := -1) hC d_M_code_9 (List.mem_cons_of_mem _ m_457) ?_
    refine g_lret hC hr hlk d_M_code_12 (by decide) (by decide) (fun ad w hw => ?_)
    exact ⟨Or.inr ⟨g6, rfl⟩, hw⟩
set_option maxRecDepth 100000 in
set_option maxHeartbeats 4000000 in
theorem r_arrive (l : Launch) (D : va_G) (S : Nat) (σ : rS) (ad0 : Nat → Nat) (w0 : gW) (hInv : INV S σ) (t : Int32) (cd : Int64) : g_M l y_M_arrive w_M_arrive (rk 7) D gCl g_N [.ref (ad0 200), .int t, .long cd] (RX S σ ad0 w0) 0 0 (fun A => g_Qi D gCl A (fun r ad w => ∃ σs σ', ((SpAr S σ t cd r σs ∧ INV S σs) ∧ E12 σs σ') ∧ RX S σ' ad0 w0 ad w)) := by
  have hS3 := hInv.S3
  refine g_of (cc := c_M_arrive) (nL := 5) (ret := some .int) (by decide) rfl (Nat.le_of_ble_eq_true rfl) ?_
  intro pp ee ss mm bb me cc A hC hr hlk hnm
  refine g_los [0, 1, 2] (lo' := [(0, .ref (ad0 200)), (1, .int t), (2, .long cd)]) rfl ?_
  refine g_pure r_bl_of (fun hb => ?_)
  refine g_iconst (v := nI 0) hC d_M_arrive_0 (by decide) ?_
  refine g_istore (i := 4) (lo' := [(4, _), (0, _), (1, _), (2, _)]) hC d_M_arrive_1 (by decide) rfl ?_
  refine g_los [1, 2, 3, 0] (lo' := [(0, _), (1, _), (2, _), (4, _)]) rfl ?_
  refine g_loop (ι := Nat) (pc0 := 3) (fun i => 18 - i) (fun i => i ≤ 18 ∧ ∀ o, o < i → ¬ (mh (s_mk σ) o ∧ cd = lN (cdv σ o))) (fun i => RX S σ ad0 w0) (fun i => [(0, .ref (ad0 200)), (1, .int t), (2, .long cd), (4, .int (nI i))]) ?_ 0 (⟨Nat.zero_le _, fun o ho => absurd ho (Nat.not_lt_zero o)⟩)
  rintro i hI ih
  try dsimp only at hI ih ⊢
  refine g_iload (i := 4) hC d_M_arrive_3 rfl ?_
  refine g_bipush (v := nI 18) hC d_M_arrive_5 (by decide) ?_
  refine g_icmp_geN (tgt := 68) hC d_M_arrive_7 (by decide) (by first | omega | exact r_lt hb _ _ | exact pb_le _) (by first | omega | exact r_lt hb _ _ | exact pb_le _) (fun h7 => ?_) (fun h7 => ?_)
  · refine g_iconst (v := -1) hC d_M_arrive_68 (by decide) ?_
    refine g_iret hC hr hlk d_M_arrive_69 (by decide) (by decide) (fun ad w hw => ?_)
    exact ⟨σ, σ, ⟨⟨Or.inr ⟨fun ⟨o, h⟩ => hI.2 o (by have := h.1; omega) h.2, rfl, rfl⟩, hInv⟩, E12.refl σ⟩, hw⟩
  · refine g_aload_n (i := 0) hC d_M_arrive_10 rfl rfl (Or.inr ⟨_, rfl⟩) ?_
    refine g_iload (i := 4) hC d_M_arrive_11 rfl ?_
    refine g_bipush (v := nI 6) hC d_M_arrive_13 (by decide) ?_
    refine g_idivN hC d_M_arrive_15 (by omega) (by omega) (by omega) ?_
    refine g_iload (i := 4) hC d_M_arrive_16 rfl ?_
    refine g_bipush (v := nI 6) hC d_M_arrive_18 (by decide) ?_
    refine g_iremN hC d_M_arrive_20 (by omega) (by omega) (by omega) ?_
    refine g_calli hC (g_runV (q := 200) (As := [_, _]) (st := []) hC g_NOK_N (r_isMade l D S σ ad0 w0 hInv (nI (i / 6)) (nI (i % 6))) (t_cwV 2 hC.1.2.2.2.2 m_437 m_439 ms_21 m_6 k_M_isMade rfl rfl hd_M_isMade ⟨by decide, by decide⟩) r_this rfl rfl rfl (Nat.le_of_ble_eq_true rfl) d_M_arrive_21 ⟨by decide, by decide⟩) (fun r21 => ?_)
    refine g_and (fun e => ?_)
    rw [pb_iff (md_iff hInv (by omega))] at e
    subst e
    refine g_if_eqN (tgt := 62) hC d_M_arrive_24 (by decide) (pb_le _) (fun h24 => ?_) (fun h24 => ?_)
    · have g24 := pb_0 h24
      refine g_iinc (i := 4) (k := 3) (lo' := [(4, _), (0, _), (1, _), (2, _)]) hC d_M_arrive_62 rfl (nI_inc _) (by decide) rfl ?_
      refine g_goto (tgt := 3) hC d_M_arrive_65 (by decide) ?_
      refine g_los [1, 2, 3, 0] rfl ?_
      exact ih (i + 1) ⟨by omega, lt_s hI.2 (fun q => g24 q.1)⟩ (by first | omega | (dsimp only; omega))
    · have g24 := pb_1 h24
      refine g_aload_n (i := 0) hC d_M_arrive_27 rfl rfl (Or.inr ⟨_, rfl⟩) ?_
      refine g_iload (i := 4) hC d_M_arrive_28 rfl ?_
      refine g_bipush (v := nI 6) hC d_M_arrive_30 (by decide) ?_
      refine g_idivN hC d_M_arrive_32 (by omega) (by omega) (by omega) ?_
      refine g_iload (i := 4) hC d_M_arrive_33 rfl ?_
      refine g_bipush (v := nI 6) hC d_M_arrive_35 (by decide) ?_
      refine g_iremN hC d_M_arrive_37 (by omega) (by omega) (by omega) ?_
      refine g_calll hC (g_runV (q := 200) (As := [_, _]) (st := []) hC g_NOK_N (r_code l D S σ ad0 w0 hInv (nI (i / 6)) (nI (i % 6))) (t_cwV 2 hC.1.2.2.2.2 m_453 m_454 m_455 m_6 k_M_code rfl rfl hd_M_code ⟨by decide, by decide⟩) r_this rfl rfl rfl (Nat.le_of_ble_eq_true rfl) d_M_arrive_38 ⟨by decide, by decide⟩) (fun r38 => ?_)
      refine g_and (fun e38 => ?_)
      have e39 : r38 = lN (cdv σ i) := by
        rcases e38 with ⟨s, k, h, e⟩ | ⟨h, -⟩
        · obtain ⟨rfl, rfl⟩ := MD.at_ hInv (by omega) h
          rw [e, show 6 * (i / 6) + i % 6 = i by omega]
        · exact absurd ((md_iff hInv (by omega)).mpr g24) h
      subst e39
      refine g_lload_n (i := 2) hC d_M_arrive_41 rfl rfl ?_
      refine g_lcmp hC d_M_arrive_42 ?_
      refine g_if_ne (tgt := 62) hC d_M_arrive_43 (by decide) (fun h43 => ?_) (fun h43 => ?_)
      · refine g_iinc (i := 4) (k := 3) (lo' := [(4, _), (0, _), (1, _), (2, _)]) hC d_M_arrive_62 rfl (nI_inc _) (by decide) rfl ?_
        refine g_goto (tgt := 3) hC d_M_arrive_65 (by decide) ?_
        refine g_los [1, 2, 3, 0] rfl ?_
        exact ih (i + 1) ⟨by omega, lt_s hI.2 (fun q => h43 (lg_cmp_0.mpr q.2.symm))⟩ (by first | omega | (dsimp only; omega))
      · refine g_aload_n (i := 0) hC d_M_arrive_46 rfl rfl (Or.inr ⟨_, rfl⟩) ?_
        refine g_iload_n (i := 1) hC d_M_arrive_47 rfl rfl ?_
        refine g_iload (i := 4) hC d_M_arrive_48 rfl ?_
        refine g_bipush (v := nI 6) hC d_M_arrive_50 (by decide) ?_
        refine g_idivN hC d_M_arrive_52 (by omega) (by omega) (by omega) ?_
        refine g_iload (i := 4) hC d_M_arrive_53 rfl ?_
        refine g_bipush (v := nI 6) hC d_M_arrive_55 (by decide) ?_
        refine g_iremN hC d_M_arrive_57 (by omega) (by omega) (by omega) ?_
        refine g_calli hC (g_runV (q := 200) (As := [_, _, _]) (st := []) hC g_NOK_N (r_deliver l D S σ ad0 w0 hInv t (nI (i / 6)) (nI (i % 6))) (t_cwV 3 hC.1.2.2.2.2 m_465 m_434 m_435 m_6 k_M_deliver rfl rfl hd_M_deliver ⟨by decide, by decide⟩) r_this rfl rfl rfl (Nat.le_of_ble_eq_true rfl) d_M_arrive_58 ⟨by decide, by decide⟩) (fun r58 => ?_)
        refine g_iret hC hr hlk d_M_arrive_61 (by decide) (by decide) (fun ad w hw => ?_)
        obtain ⟨σs, σ2, ⟨⟨a, b⟩, c⟩, d⟩ := hw
        exact ⟨σs, σ2, ⟨⟨Or.inl ⟨i, ⟨by omega, g24, (lg_cmp_0.mp h43).symm⟩, a⟩, b⟩, c⟩, d⟩
set_option maxRecDepth 100000 in
set_option maxHeartbeats 4000000 in
theorem r_sync (l : Launch) (D : va_G) (S : Nat) (σ : rS) (ad0 : Nat → Nat) (w0 : gW) (hInv : INV S σ) (t f : Int32) : g_M l y_M_sync w_M_sync (rk 7) D gCl g_N [.ref (ad0 200), .int t, .int f] (RX S σ ad0 w0) 0 0 (fun A => g_Qi D gCl A (fun r ad w => ∃ σs σ', ((SpSy S σ t f r σs ∧ INV S σs) ∧ E12 σs σ') ∧ RX S σ' ad0 w0 ad w)) := by
  have hS3 := hInv.S3
  refine g_of (cc := c_M_sync) (nL := 5) (ret := some .int) (by decide) rfl (Nat.le_of_ble_eq_true rfl) ?_
  intro pp ee ss mm bb me cc A hC hr hlk hnm
  refine g_los [0, 1, 2] (lo' := [(0, .ref (ad0 200)), (1, .int t), (2, .int f)]) rfl ?_
  refine g_pure r_bl_of (fun hb => ?_)
  refine g_aload_n (i := 0) hC d_M_sync_0 rfl rfl (Or.inr ⟨_, rfl⟩) ?_
  refine g_iload_n (i := 1) hC d_M_sync_1 rfl rfl ?_
  refine g_calli hC (g_runV (q := 200) (As := [_]) (st := []) hC g_NOK_N (r_isSite l D S σ ad0 w0 (by omega) (t)) (t_cwV 1 hC.1.2.2.2.2 m_374 m_376 ms_9 m_6 k_M_isSite rfl rfl hd_M_isSite ⟨by decide, by decide⟩) r_this rfl rfl rfl (Nat.le_of_ble_eq_true rfl) d_M_sync_2 ⟨by decide, by decide⟩) (fun r2 => ?_)
  refine g_and (fun e => ?_)
  subst e
  refine g_if_eqN (tgt := 21) hC d_M_sync_5 (by decide) (pb_le _) (fun h5 => ?_) (fun h5 => ?_)
  · have g5 := pb_0 h5
    refine g_iconst (v := -1) hC d_M_sync_21 (by decide) ?_
    refine g_iret hC hr hlk d_M_sync_22 (by decide) (by decide) (fun ad w hw => ?_)
    exact ⟨σ, σ, ⟨⟨Or.inr ⟨fun ⟨s1, s2, h⟩ => g5 ⟨s1, by rw [h.1]; exact ix_nI (by omega) h.2.1⟩, rfl, rfl⟩, hInv⟩, E12.refl σ⟩, hw⟩
  · have g5 := pb_1 h5
    obtain ⟨s, hxs⟩ := g5
    obtain ⟨hsS, rfl⟩ := ix_some (by omega) hxs
    refine g_aload_n (i := 0) hC d_M_sync_8 rfl rfl (Or.inr ⟨_, rfl⟩) ?_
    refine g_iload_n (i := 2) hC d_M_sync_9 rfl rfl ?_
    refine g_calli hC (g_runV (q := 200) (As := [_]) (st := []) hC g_NOK_N (r_isSite l D S σ ad0 w0 (by omega) (f)) (t_cwV 1 hC.1.2.2.2.2 m_374 m_376 ms_9 m_6 k_M_isSite rfl rfl hd_M_isSite ⟨by decide, by decide⟩) r_this rfl rfl rfl (Nat.le_of_ble_eq_true rfl) d_M_sync_10 ⟨by decide, by decide⟩) (fun r10 => ?_)
    refine g_and (fun e => ?_)
    subst e
    refine g_if_eqN (tgt := 21) hC d_M_sync_13 (by decide) (pb_le _) (fun h13 => ?_) (fun h13 => ?_)
    · have g13 := pb_0 h13
      refine g_iconst (v := -1) hC d_M_sync_21 (by decide) ?_
      refine g_iret hC hr hlk d_M_sync_22 (by decide) (by decide) (fun ad w hw => ?_)
      exact ⟨σ, σ, ⟨⟨Or.inr ⟨fun ⟨s1, s2, h⟩ => g13 ⟨s2, by rw [h.2.2.1]; exact ix_nI (by omega) h.2.2.2.1⟩, rfl, rfl⟩, hInv⟩, E12.refl σ⟩, hw⟩
    · have g13 := pb_1 h13
      obtain ⟨s', hxs'⟩ := g13
      obtain ⟨hs'S, rfl⟩ := ix_some (by omega) hxs'
      refine g_iload_n (i := 1) hC d_M_sync_16 rfl rfl ?_
      refine g_iload_n (i := 2) hC d_M_sync_17 rfl rfl ?_
      refine g_icmp_neN (tgt := 23) hC d_M_sync_18 (by decide) (by omega) (by omega) (fun h18 => ?_) (fun h18 => ?_)
      · refine g_iconst (v := nI 0) hC d_M_sync_23 (by decide) ?_
        refine g_istore_n (i := 3) (lo' := [(3, _), (0, _), (1, _), (2, _)]) hC d_M_sync_24 rfl (by decide) rfl ?_
        refine g_iconst (v := nI 0) hC d_M_sync_25 (by decide) ?_
        refine g_istore (i := 4) (lo' := [(4, _), (3, _), (0, _), (1, _), (2, _)]) hC d_M_sync_26 (by decide) rfl ?_
        refine g_los [2, 3, 4, 1, 0] (lo' := [(0, _), (1, _), (2, _), (3, _), (4, _)]) rfl ?_
        refine g_loop (ι := (Nat × Nat) × rS × rS) (pc0 := 28) (fun ⟨⟨i, n⟩, τs, τ⟩ => 18 - i) (fun ⟨⟨i, n⟩, τs, τ⟩ => i ≤ 18 ∧ SYR s s' i σ n τs ∧ INV S τs ∧ E12 τs τ) (fun ⟨⟨i, n⟩, τs, τ⟩ => RX S τ ad0 w0) (fun ⟨⟨i, n⟩, τs, τ⟩ => [(0, .ref (ad0 200)), (1, .int (nI s)), (2, .int (nI s')), (3, .int (nI n)), (4, .int (nI i))]) ?_ ((0, 0), σ, σ) (⟨Nat.zero_le _, ⟨rfl, rfl⟩, hInv, E12.refl σ⟩)
        rintro ⟨⟨i, n⟩, τs, τ⟩ hI ih
        try dsimp only at hI ih ⊢
        refine g_pure r_bl_of (fun hb => ?_)
        refine g_iload (i := 4) hC d_M_sync_28 rfl ?_
        refine g_bipush (v := nI 18) hC d_M_sync_30 (by decide) ?_
        refine g_icmp_geN (tgt := 98) hC d_M_sync_32 (by decide) (by first | omega | exact r_lt hb _ _ | exact pb_le _) (by first | omega | exact r_lt hb _ _ | exact pb_le _) (fun h32 => ?_) (fun h32 => ?_)
        · refine g_iload_n (i := 3) hC d_M_sync_98 rfl rfl ?_
          refine g_iret hC hr hlk d_M_sync_99 (by decide) (by decide) (fun ad w hw => ?_)
          exact ⟨τs, τ, ⟨⟨Or.inl ⟨s, s', n, ⟨rfl, hsS, rfl, hs'S, h18⟩, (show i = 18 by omega) ▸ hI.2.1, rfl⟩, hI.2.2.1⟩, hI.2.2.2⟩, hw⟩
        · refine g_aload_n (i := 0) hC d_M_sync_35 rfl rfl (Or.inr ⟨_, rfl⟩) ?_
          refine g_get hC (fun x h => List.mem_cons_of_mem _ (in_M x h)) 200 r_this rfl 7 (by decide) (List.mem_cons_of_mem _ m_327) rfl rfl d_M_sync_36 ?_
          refine g_bipush (v := nI 18) hC d_M_sync_39 (by decide) ?_
          refine g_iload_n (i := 2) hC d_M_sync_41 rfl rfl ?_
          refine g_imulN hC d_M_sync_42 ?_
          refine g_iload (i := 4) hC d_M_sync_43 rfl ?_
          refine g_iaddN hC d_M_sync_45 ?_
          refine r_lde 7 hC (by decide) (by decide) rfl (fun _ => rfl) (by simp only [r_ln]; omega) d_M_sync_46 ?_
          refine g_if_lt (tgt := 92) hC d_M_sync_47 (by decide) (fun h47 => ?_) (fun h47 => ?_)
          · refine g_iinc (i := 4) (k := 4) (lo' := [(4, _), (0, _), (1, _), (2, _), (3, _)]) hC d_M_sync_92 rfl (nI_inc _) (by decide) rfl ?_
            refine g_goto (tgt := 28) hC d_M_sync_95 (by decide) ?_
            refine g_los [1, 2, 3, 4, 0] rfl ?_
            exact ih ((i + 1, n), τs, τ) ⟨by first | omega | (dsimp only; omega), ⟨n, τs, hI.2.1, Or.inr ⟨fun q => q.1 (by rw [← hI.2.2.2 7 (by omega) (by omega)]; exact (en_lt (r_lt hb _ _)).mp h47), rfl, rfl⟩⟩, hI.2.2⟩ (by first | omega | (dsimp only; omega))
          · refine g_iload (i := 4) hC d_M_sync_50 rfl ?_
            refine g_bipush (v := nI 6) hC d_M_sync_52 (by decide) ?_
            refine g_idivN hC d_M_sync_54 (by omega) (by omega) (by omega) ?_
            refine g_iload_n (i := 1) hC d_M_sync_55 rfl rfl ?_
            refine g_icmp_eqN (tgt := 92) hC d_M_sync_56 (by decide) (by omega) (by omega) (fun h56 => ?_) (fun h56 => ?_)
            · refine g_iinc (i := 4) (k := 4) (lo' := [(4, _), (0, _), (1, _), (2, _), (3, _)]) hC d_M_sync_92 rfl (nI_inc _) (by decide) rfl ?_
              refine g_goto (tgt := 28) hC d_M_sync_95 (by decide) ?_
              refine g_los [1, 2, 3, 4, 0] rfl ?_
              exact ih ((i + 1, n), τs, τ) ⟨by first | omega | (dsimp only; omega), ⟨n, τs, hI.2.1, Or.inr ⟨fun q => q.2.1 h56, rfl, rfl⟩⟩, hI.2.2⟩ (by first | omega | (dsimp only; omega))
            · refine g_aload_n (i := 0) hC d_M_sync_59 rfl rfl (Or.inr ⟨_, rfl⟩) ?_
              refine g_get hC (fun x h => List.mem_cons_of_mem _ (in_M x h)) 200 r_this rfl 6 (by decide) (List.mem_cons_of_mem _ m_326) rfl rfl d_M_sync_60 ?_
              refine g_bipush (v := nI 18) hC d_M_sync_63 (by decide) ?_
              refine g_iload_n (i := 1) hC d_M_sync_65 rfl rfl ?_
              refine g_imulN hC d_M_sync_66 ?_
              refine g_iload (i := 4) hC d_M_sync_67 rfl ?_
              refine g_iaddN hC d_M_sync_69 ?_
              refine r_zld 6 hC (by decide) (by decide) rfl (fun _ => rfl) (by simp only [r_ln]; omega) d_M_sync_70 ?_
              refine g_if_neN (tgt := 92) hC d_M_sync_71 (by decide) (r_lt hb _ _) (fun h71 => ?_) (fun h71 => ?_)
              · refine g_iinc (i := 4) (k := 4) (lo' := [(4, _), (0, _), (1, _), (2, _), (3, _)]) hC d_M_sync_92 rfl (nI_inc _) (by decide) rfl ?_
                refine g_goto (tgt := 28) hC d_M_sync_95 (by decide) ?_
                refine g_los [1, 2, 3, 4, 0] rfl ?_
                exact ih ((i + 1, n), τs, τ) ⟨by first | omega | (dsimp only; omega), ⟨n, τs, hI.2.1, Or.inr ⟨fun q => h71 (by rw [hI.2.2.2 6 (by omega) (by omega)]; exact q.2.2), rfl, rfl⟩⟩, hI.2.2⟩ (by first | omega | (dsimp only; omega))
              · have hsc : SYC s s' i τs := ⟨fun q => h47 ((en_lt (r_lt hb _ _)).mpr (by rw [hI.2.2.2 7 (by omega) (by omega)]; exact q)), h56, by rw [← hI.2.2.2 6 (by omega) (by omega)]; exact h71⟩
                have hi18 : i < 18 := by omega
                have hmi : mh (s_mk τs) i := (hI.2.2.1.2 s' hs'S).1.1.made (((hI.2.2.1.2 s' hs'S).1.2.2.2.2 i hi18).1.mp hsc.1)
                refine g_iload_n (i := 3) hC d_M_sync_74 rfl rfl ?_
                refine g_aload_n (i := 0) hC d_M_sync_75 rfl rfl (Or.inr ⟨_, rfl⟩) ?_
                refine g_iload_n (i := 1) hC d_M_sync_76 rfl rfl ?_
                refine g_iload (i := 4) hC d_M_sync_77 rfl ?_
                refine g_bipush (v := nI 6) hC d_M_sync_79 (by decide) ?_
                refine g_idivN hC d_M_sync_81 (by omega) (by omega) (by omega) ?_
                refine g_iload (i := 4) hC d_M_sync_82 rfl ?_
                refine g_bipush (v := nI 6) hC d_M_sync_84 (by decide) ?_
                refine g_iremN hC d_M_sync_86 (by omega) (by omega) (by omega) ?_
                refine g_calli hC (g_runV (q := 200) (As := [_, _, _]) (st := [_]) hC g_NOK_N (r_deliver l D S τ ad0 w0 (hI.2.2.2.inv hI.2.2.1) (nI s) (nI (i / 6)) (nI (i % 6))) (t_cwV 3 hC.1.2.2.2.2 m_465 m_434 m_435 m_6 k_M_deliver rfl rfl hd_M_deliver ⟨by decide, by decide⟩) r_this rfl rfl rfl (Nat.le_of_ble_eq_true rfl) d_M_sync_87 ⟨by decide, by decide⟩) (fun r87 => ?_)
                refine g_ex (fun σs => g_ex (fun σ2 => g_and (fun e87 => ?_)))
                obtain ⟨⟨hsp, hi2⟩, hE2⟩ := e87
                have hIt := hI.2.2.2.inv hI.2.2.1
                have hmt : mh (s_mk τ) i := by
                  rw [hI.2.2.2.mk]
                  exact hmi
                obtain ⟨m, hw0, rfl⟩ : ∃ m, WK s m (arS τ s i) σs ∧ r87 = nI m := by
                  rcases hsp with ⟨s1, s2, k2, n1, h, hwk, e⟩ | ⟨h, -, -⟩
                  · obtain ⟨e2, e3⟩ := MD.at_ hIt hi18 h.2.2.1
                    have e1 := nI_inj h.1 (by omega) (by have := h.2.1; omega)
                    subst e1
                    rw [e2, e3, show 6 * (i / 6) + i % 6 = i by omega] at hwk
                    exact ⟨n1, hwk, e⟩
                  · obtain ⟨s2, k2, hm⟩ := (md_iff hIt hi18).mpr hmt
                    obtain ⟨e2, e3⟩ := MD.at_ hIt hi18 hm
                    exact absurd ⟨s, s2, k2, rfl, hsS, hm, by rw [e2]; exact fun q => h56 q.symm, by rw [e2, e3, show 6 * (i / 6) + i % 6 = i by omega]; exact h71⟩ h
                obtain ⟨σ1, hw1, hE3⟩ := WK.e12 (hI.2.2.2.ar s i) hw0
                have hi1 : INV S σ1 := WK.inv hsS (arS_INV hI.2.2.1 hmi) hw1
                have hE1 := hE3.trans hE2
                refine g_iaddN hC d_M_sync_90 ?_
                refine g_istore_n (i := 3) (lo' := [(3, _), (0, _), (1, _), (2, _), (4, _)]) hC d_M_sync_91 rfl (by decide) rfl ?_
                refine g_iinc (i := 4) (k := 4) (lo' := [(4, _), (3, _), (0, _), (1, _), (2, _)]) hC d_M_sync_92 rfl (nI_inc _) (by decide) rfl ?_
                refine g_goto (tgt := 28) hC d_M_sync_95 (by decide) ?_
                refine g_los [2, 3, 4, 1, 0] rfl ?_
                exact ih ((i + 1, n + m), σ1, σ2) ⟨by first | omega | (dsimp only; omega), ⟨n, τs, hI.2.1, Or.inl ⟨hsc, m, hw1, rfl⟩⟩, hi1, hE1⟩ (by first | omega | (dsimp only; omega))
      · refine g_iconst (v := -1) hC d_M_sync_21 (by decide) ?_
        refine g_iret hC hr hlk d_M_sync_22 (by decide) (by decide) (fun ad w hw => ?_)
        exact ⟨σ, σ, ⟨⟨Or.inr ⟨fun ⟨s1, s2, h⟩ => h.2.2.2.2 (by
          have e1 := nI_inj h.1 (by omega) (by have := h.2.1; omega)
          have e2 := nI_inj h.2.2.1 (by omega) (by have := h.2.2.2.1; omega)
          rw [← e1, ← e2]
          exact h18), rfl, rfl⟩, hInv⟩, E12.refl σ⟩, hw⟩
set_option maxRecDepth 100000 in
set_option maxHeartbeats 4000000 in
theorem r_stable (l : Launch) (D : va_G) (S : Nat) (σ : rS) (ad0 : Nat → Nat) (w0 : gW) (hInv : INV S σ) (x y : Int32) : g_M l y_M_stable w_M_stable (rk 1) D gCl g_N [.ref (ad0 200), .int x, .int y] (RX S σ ad0 w0) 0 0 (fun A => g_Qi D gCl A (fun r ad w => r = q_st S σ x y ∧ RX S σ ad0 w0 ad w)) := by
  have hS3 := hInv.S3
  refine g_of (cc := c_M_stable) (nL := 7) (ret := some .int) (by decide) rfl (Nat.le_of_ble_eq_true rfl) ?_
  intro pp ee ss mm bb me cc A hC hr hlk hnm
  refine g_los [0, 1, 2] (lo' := [(0, .ref (ad0 200)), (1, .int x), (2, .int y)]) rfl ?_
  refine g_pure r_bl_of (fun hb => ?_)
  refine g_aload_n (i := 0) hC d_M_stable_0 rfl rfl (Or.inr ⟨_, rfl⟩) ?_
  refine g_iload_n (i := 1) hC d_M_stable_1 rfl rfl ?_
  refine g_calli hC (g_runV (q := 200) (As := [_]) (st := []) hC g_NOK_N (r_isSite l D S σ ad0 w0 (by omega) (x)) (t_cwV 1 hC.1.2.2.2.2 m_374 m_376 ms_9 m_6 k_M_isSite rfl rfl hd_M_isSite ⟨by decide, by decide⟩) r_this rfl rfl rfl (Nat.le_of_ble_eq_true rfl) d_M_stable_2 ⟨by decide, by decide⟩) (fun r2 => ?_)
  refine g_and (fun e => ?_)
  subst e
  refine g_if_eqN (tgt := 16) hC d_M_stable_5 (by decide) (pb_le _) (fun h5 => ?_) (fun h5 => ?_)
  · have g5 := pb_0 h5
    refine g_iconst (v := -1) hC d_M_stable_16 (by decide) ?_
    refine g_iret hC hr hlk d_M_stable_17 (by decide) (by decide) (fun ad w hw => ?_)
    exact ⟨by unfold q_st; rw [ix_no g5], hw⟩
  · have g5 := pb_1 h5
    obtain ⟨s, hxs⟩ := g5
    obtain ⟨hsS, rfl⟩ := ix_some (by omega) hxs
    refine g_aload_n (i := 0) hC d_M_stable_8 rfl rfl (Or.inr ⟨_, rfl⟩) ?_
    refine g_iload_n (i := 2) hC d_M_stable_9 rfl rfl ?_
    refine g_calli hC (g_runV (q := 200) (As := [_]) (st := []) hC g_NOK_N (r_isSite l D S σ ad0 w0 (by omega) (y)) (t_cwV 1 hC.1.2.2.2.2 m_374 m_376 ms_9 m_6 k_M_isSite rfl rfl hd_M_isSite ⟨by decide, by decide⟩) r_this rfl rfl rfl (Nat.le_of_ble_eq_true rfl) d_M_stable_10 ⟨by decide, by decide⟩) (fun r10 => ?_)
    refine g_and (fun e => ?_)
    subst e
    refine g_if_neN (tgt := 18) hC d_M_stable_13 (by decide) (pb_le _) (fun h13 => ?_) (fun h13 => ?_)
    · have g13 := pb_1 h13
      obtain ⟨t, hys⟩ := g13
      obtain ⟨htS, rfl⟩ := ix_some (by omega) hys
      refine g_bipush (v := nI 100) hC d_M_stable_18 (by decide) ?_
      refine g_istore_n (i := 3) (lo' := [(3, _), (0, _), (1, _), (2, _)]) hC d_M_stable_20 rfl (by decide) rfl ?_
      refine g_iconst (v := nI 0) hC d_M_stable_21 (by decide) ?_
      refine g_istore (i := 4) (lo' := [(4, _), (3, _), (0, _), (1, _), (2, _)]) hC d_M_stable_22 (by decide) rfl ?_
      refine g_los [2, 3, 4, 1, 0] (lo' := [(0, _), (1, _), (2, _), (3, _), (4, _)]) rfl ?_
      refine g_loop (ι := Nat × Nat) (pc0 := 24) (fun ⟨j, v⟩ => 3 - j) (fun ⟨j, v⟩ => j ≤ S ∧ v = s_st σ s t j ∧ v < 2000) (fun ⟨j, v⟩ => RX S σ ad0 w0) (fun ⟨j, v⟩ => [(0, .ref (ad0 200)), (1, .int (nI s)), (2, .int (nI t)), (3, .int (nI v)), (4, .int (nI j))]) ?_ (0, 100) (⟨Nat.zero_le _, rfl, by omega⟩)
      rintro ⟨j, v⟩ hI ih
      try dsimp only at hI ih ⊢
      refine g_iload (i := 4) hC d_M_stable_24 rfl ?_
      refine g_aload_n (i := 0) hC d_M_stable_26 rfl rfl (Or.inr ⟨_, rfl⟩) ?_
      refine g_get hC (fun x h => List.mem_cons_of_mem _ (in_M x h)) 200 r_this rfl 0 (by decide) (List.mem_cons_of_mem _ m_320) rfl rfl d_M_stable_27 ?_
      refine g_icmp_geN (tgt := 127) hC d_M_stable_30 (by decide) (by first | omega | exact r_lt hb _ _ | exact pb_le _) (by first | omega | exact r_lt hb _ _ | exact pb_le _) (fun h30 => ?_) (fun h30 => ?_)
      · refine g_iload_n (i := 3) hC d_M_stable_127 rfl rfl ?_
        refine g_iret hC hr hlk d_M_stable_128 (by decide) (by decide) (fun ad w hw => ?_)
        exact ⟨by unfold q_st; rw [hxs, hys]; show nI v = nI (s_st σ s t S); rw [hI.2.1, show j = S by omega], hw⟩
      · refine g_aload_n (i := 0) hC d_M_stable_33 rfl rfl (Or.inr ⟨_, rfl⟩) ?_
        refine g_get hC (fun x h => List.mem_cons_of_mem _ (in_M x h)) 200 r_this rfl 8 (by decide) (List.mem_cons_of_mem _ m_328) rfl rfl d_M_stable_34 ?_
        refine g_iconst (v := nI 3) hC d_M_stable_37 (by decide) ?_
        refine g_iload_n (i := 1) hC d_M_stable_38 rfl rfl ?_
        refine g_imulN hC d_M_stable_39 ?_
        refine g_iload (i := 4) hC d_M_stable_40 rfl ?_
        refine g_iaddN hC d_M_stable_42 ?_
        refine r_ld 8 hC (by decide) (by decide) rfl (fun _ => rfl) (by simp only [r_ln]; omega) d_M_stable_43 ?_
        refine g_istore (i := 5) (lo' := [(5, _), (0, _), (1, _), (2, _), (3, _), (4, _)]) hC d_M_stable_44 (by decide) rfl ?_
        have hv8 : σ 8 (3 * s + j) ≤ 6 := by
          have := (hInv.2 s hsS).1.1.le6 hInv.1.2.2.1 j
          rw [s_vc_lt (by omega)] at this
          exact this
        refine g_iconst (v := nI 0) hC d_M_stable_46 (by decide) ?_
        refine g_istore (i := 6) (lo' := [(6, _), (5, _), (0, _), (1, _), (2, _), (3, _), (4, _)]) hC d_M_stable_47 (by decide) rfl ?_
        refine g_iload (i := 4) hC d_M_stable_49 rfl ?_
        refine g_iload_n (i := 1) hC d_M_stable_51 rfl rfl ?_
        refine g_icmp_neN (tgt := 70) hC d_M_stable_52 (by decide) (by omega) (by omega) (fun h52 => ?_) (fun h52 => ?_)
        · refine g_iload (i := 5) hC d_M_stable_70 rfl ?_
          refine g_if_leN (tgt := 108) hC d_M_stable_72 (by decide) (by omega) (fun h72 => ?_) (fun h72 => ?_)
          · refine g_iload (i := 6) hC d_M_stable_108 rfl ?_
            refine g_iload_n (i := 3) hC d_M_stable_110 rfl rfl ?_
            refine g_icmp_geN (tgt := 119) hC d_M_stable_111 (by decide) (by first | omega | exact r_lt hb _ _ | (have := r_lt1 hb 5 (3 * (6 * j + σ 8 (3 * s + j) - 1) + t); omega)) (by omega) (fun h111 => ?_) (fun h111 => ?_)
            · refine g_iload_n (i := 3) hC d_M_stable_119 rfl rfl ?_
              refine g_istore_n (i := 3) (lo' := [(3, _), (6, _), (5, _), (0, _), (1, _), (2, _), (4, _)]) hC d_M_stable_120 rfl (by decide) rfl ?_
              refine g_iinc (i := 4) (k := 6) (lo' := [(4, _), (3, _), (6, _), (5, _), (0, _), (1, _), (2, _)]) hC d_M_stable_121 rfl (nI_inc _) (by decide) rfl ?_
              refine g_goto (tgt := 24) hC d_M_stable_124 (by decide) ?_
              refine g_los [4, 5, 6, 1, 0] rfl ?_
              have hkn : s_kn σ s t j = 0 := by
                unfold s_kn
                rw [if_neg h52, if_pos h72]
              exact ih (j + 1, v) ⟨by omega, by simp only [s_st]; rw [hkn, ← hI.2.1]; first | rw [if_pos (by omega)] | rw [if_neg (by omega)], by first | omega | exact r_lt1 hb _ _ | (have := hv8; omega) | (have := r_lt1 hb 5 (3 * (6 * j + σ 8 (3 * s + j) - 1) + t); omega)⟩ (by first | omega | (dsimp only; omega))
            · refine g_iload (i := 6) hC d_M_stable_114 rfl ?_
              refine g_goto (tgt := 120) hC d_M_stable_116 (by decide) ?_
              refine g_istore_n (i := 3) (lo' := [(3, _), (6, _), (5, _), (0, _), (1, _), (2, _), (4, _)]) hC d_M_stable_120 rfl (by decide) rfl ?_
              refine g_iinc (i := 4) (k := 6) (lo' := [(4, _), (3, _), (6, _), (5, _), (0, _), (1, _), (2, _)]) hC d_M_stable_121 rfl (nI_inc _) (by decide) rfl ?_
              refine g_goto (tgt := 24) hC d_M_stable_124 (by decide) ?_
              refine g_los [4, 5, 6, 1, 0] rfl ?_
              have hkn : s_kn σ s t j = 0 := by
                unfold s_kn
                rw [if_neg h52, if_pos h72]
              exact ih (j + 1, (0)) ⟨by omega, by simp only [s_st]; rw [hkn, ← hI.2.1]; first | rw [if_pos (by omega)] | rw [if_neg (by omega)], by first | omega | exact r_lt1 hb _ _ | (have := hv8; omega) | (have := r_lt1 hb 5 (3 * (6 * j + σ 8 (3 * s + j) - 1) + t); omega)⟩ (by first | omega | (dsimp only; omega))
          · refine g_aload_n (i := 0) hC d_M_stable_75 rfl rfl (Or.inr ⟨_, rfl⟩) ?_
            refine g_get hC (fun x h => List.mem_cons_of_mem _ (in_M x h)) 200 r_this rfl 5 (by decide) (List.mem_cons_of_mem _ m_325) rfl rfl d_M_stable_76 ?_
            refine g_iconst (v := nI 3) hC d_M_stable_79 (by decide) ?_
            refine g_bipush (v := nI 6) hC d_M_stable_80 (by decide) ?_
            refine g_iload (i := 4) hC d_M_stable_82 rfl ?_
            refine g_imulN hC d_M_stable_84 ?_
            refine g_iload (i := 5) hC d_M_stable_85 rfl ?_
            refine g_iaddN hC d_M_stable_87 ?_
            refine g_iconst (v := nI 1) hC d_M_stable_88 (by decide) ?_
            refine g_isubN hC d_M_stable_89 (by omega) ?_
            refine g_imulN hC d_M_stable_90 ?_
            refine g_iload_n (i := 2) hC d_M_stable_91 rfl rfl ?_
            refine g_iaddN hC d_M_stable_92 ?_
            refine r_ld 5 hC (by decide) (by decide) rfl (fun _ => rfl) (by simp only [r_ln]; omega) d_M_stable_93 ?_
            refine g_iload_n (i := 2) hC d_M_stable_94 rfl rfl ?_
            refine g_iload (i := 4) hC d_M_stable_95 rfl ?_
            refine g_icmp_neN (tgt := 104) hC d_M_stable_97 (by decide) (by omega) (by omega) (fun h97 => ?_) (fun h97 => ?_)
            · refine g_iconst (v := nI 0) hC d_M_stable_104 (by decide) ?_
              refine g_iaddN hC d_M_stable_105 ?_
              refine g_istore (i := 6) (lo' := [(6, _), (5, _), (0, _), (1, _), (2, _), (3, _), (4, _)]) hC d_M_stable_106 (by decide) rfl ?_
              refine g_iload (i := 6) hC d_M_stable_108 rfl ?_
              refine g_iload_n (i := 3) hC d_M_stable_110 rfl rfl ?_
              refine g_icmp_geN (tgt := 119) hC d_M_stable_111 (by decide) (by first | omega | exact r_lt hb _ _ | (have := r_lt1 hb 5 (3 * (6 * j + σ 8 (3 * s + j) - 1) + t); omega)) (by omega) (fun h111 => ?_) (fun h111 => ?_)
              · refine g_iload_n (i := 3) hC d_M_stable_119 rfl rfl ?_
                refine g_istore_n (i := 3) (lo' := [(3, _), (6, _), (5, _), (0, _), (1, _), (2, _), (4, _)]) hC d_M_stable_120 rfl (by decide) rfl ?_
                refine g_iinc (i := 4) (k := 6) (lo' := [(4, _), (3, _), (6, _), (5, _), (0, _), (1, _), (2, _)]) hC d_M_stable_121 rfl (nI_inc _) (by decide) rfl ?_
                refine g_goto (tgt := 24) hC d_M_stable_124 (by decide) ?_
                refine g_los [4, 5, 6, 1, 0] rfl ?_
                have hkn : s_kn σ s t j = σ 5 (3 * (6 * j + σ 8 (3 * s + j) - 1) + t) + 0 := by
                  unfold s_kn
                  rw [if_neg h52, if_neg (show ¬ σ 8 (3 * s + j) = 0 by omega), if_neg h97]
                exact ih (j + 1, v) ⟨by omega, by simp only [s_st]; rw [hkn, ← hI.2.1]; first | rw [if_pos (by omega)] | rw [if_neg (by omega)], by first | omega | exact r_lt1 hb _ _ | (have := hv8; omega) | (have := r_lt1 hb 5 (3 * (6 * j + σ 8 (3 * s + j) - 1) + t); omega)⟩ (by first | omega | (dsimp only; omega))
              · refine g_iload (i := 6) hC d_M_stable_114 rfl ?_
                refine g_goto (tgt := 120) hC d_M_stable_116 (by decide) ?_
                refine g_istore_n (i := 3) (lo' := [(3, _), (6, _), (5, _), (0, _), (1, _), (2, _), (4, _)]) hC d_M_stable_120 rfl (by decide) rfl ?_
                refine g_iinc (i := 4) (k := 6) (lo' := [(4, _), (3, _), (6, _), (5, _), (0, _), (1, _), (2, _)]) hC d_M_stable_121 rfl (nI_inc _) (by decide) rfl ?_
                refine g_goto (tgt := 24) hC d_M_stable_124 (by decide) ?_
                refine g_los [4, 5, 6, 1, 0] rfl ?_
                have hkn : s_kn σ s t j = σ 5 (3 * (6 * j + σ 8 (3 * s + j) - 1) + t) + 0 := by
                  unfold s_kn
                  rw [if_neg h52, if_neg (show ¬ σ 8 (3 * s + j) = 0 by omega), if_neg h97]
                exact ih (j + 1, (σ 5 (3 * (6 * j + σ 8 (3 * s + j) - 1) + t) + 0)) ⟨by omega, by simp only [s_st]; rw [hkn, ← hI.2.1]; first | rw [if_pos (by omega)] | rw [if_neg (by omega)], by first | omega | exact r_lt1 hb _ _ | (have := hv8; omega) | (have := r_lt1 hb 5 (3 * (6 * j + σ 8 (3 * s + j) - 1) + t); omega)⟩ (by first | omega | (dsimp only; omega))
            · refine g_iconst (v := nI 1) hC d_M_stable_100 (by decide) ?_
              refine g_goto (tgt := 105) hC d_M_stable_101 (by decide) ?_
              refine g_iaddN hC d_M_stable_105 ?_
              refine g_istore (i := 6) (lo' := [(6, _), (5, _), (0, _), (1, _), (2, _), (3, _), (4, _)]) hC d_M_stable_106 (by decide) rfl ?_
              refine g_iload (i := 6) hC d_M_stable_108 rfl ?_
              refine g_iload_n (i := 3) hC d_M_stable_110 rfl rfl ?_
              refine g_icmp_geN (tgt := 119) hC d_M_stable_111 (by decide) (by first | omega | exact r_lt hb _ _ | (have := r_lt1 hb 5 (3 * (6 * j + σ 8 (3 * s + j) - 1) + t); omega)) (by omega) (fun h111 => ?_) (fun h111 => ?_)
              · refine g_iload_n (i := 3) hC d_M_stable_119 rfl rfl ?_
                refine g_istore_n (i := 3) (lo' := [(3, _), (6, _), (5, _), (0, _), (1, _), (2, _), (4, _)]) hC d_M_stable_120 rfl (by decide) rfl ?_
                refine g_iinc (i := 4) (k := 6) (lo' := [(4, _), (3, _), (6, _), (5, _), (0, _), (1, _), (2, _)]) hC d_M_stable_121 rfl (nI_inc _) (by decide) rfl ?_
                refine g_goto (tgt := 24) hC d_M_stable_124 (by decide) ?_
                refine g_los [4, 5, 6, 1, 0] rfl ?_
                have hkn : s_kn σ s t j = σ 5 (3 * (6 * j + σ 8 (3 * s + j) - 1) + t) + 1 := by
                  unfold s_kn
                  rw [if_neg h52, if_neg (show ¬ σ 8 (3 * s + j) = 0 by omega), if_pos h97]
                exact ih (j + 1, v) ⟨by omega, by simp only [s_st]; rw [hkn, ← hI.2.1]; first | rw [if_pos (by omega)] | rw [if_neg (by omega)], by first | omega | exact r_lt1 hb _ _ | (have := hv8; omega) | (have := r_lt1 hb 5 (3 * (6 * j + σ 8 (3 * s + j) - 1) + t); omega)⟩ (by first | omega | (dsimp only; omega))
              · refine g_iload (i := 6) hC d_M_stable_114 rfl ?_
                refine g_goto (tgt := 120) hC d_M_stable_116 (by decide) ?_
                refine g_istore_n (i := 3) (lo' := [(3, _), (6, _), (5, _), (0, _), (1, _), (2, _), (4, _)]) hC d_M_stable_120 rfl (by decide) rfl ?_
                refine g_iinc (i := 4) (k := 6) (lo' := [(4, _), (3, _), (6, _), (5, _), (0, _), (1, _), (2, _)]) hC d_M_stable_121 rfl (nI_inc _) (by decide) rfl ?_
                refine g_goto (tgt := 24) hC d_M_stable_124 (by decide) ?_
                refine g_los [4, 5, 6, 1, 0] rfl ?_
                have hkn : s_kn σ s t j = σ 5 (3 * (6 * j + σ 8 (3 * s + j) - 1) + t) + 1 := by
                  unfold s_kn
                  rw [if_neg h52, if_neg (show ¬ σ 8 (3 * s + j) = 0 by omega), if_pos h97]
                exact ih (j + 1, (σ 5 (3 * (6 * j + σ 8 (3 * s + j) - 1) + t) + 1)) ⟨by omega, by simp only [s_st]; rw [hkn, ← hI.2.1]; first | rw [if_pos (by omega)] | rw [if_neg (by omega)], by first | omega | exact r_lt1 hb _ _ | (have := hv8; omega) | (have := r_lt1 hb 5 (3 * (6 * j + σ 8 (3 * s + j) - 1) + t); omega)⟩ (by first | omega | (dsimp only; omega))
        · refine g_aload_n (i := 0) hC d_M_stable_55 rfl rfl (Or.inr ⟨_, rfl⟩) ?_
          refine g_get hC (fun x h => List.mem_cons_of_mem _ (in_M x h)) 200 r_this rfl 8 (by decide) (List.mem_cons_of_mem _ m_328) rfl rfl d_M_stable_56 ?_
          refine g_iconst (v := nI 3) hC d_M_stable_59 (by decide) ?_
          refine g_iload_n (i := 1) hC d_M_stable_60 rfl rfl ?_
          refine g_imulN hC d_M_stable_61 ?_
          refine g_iload_n (i := 2) hC d_M_stable_62 rfl rfl ?_
          refine g_iaddN hC d_M_stable_63 ?_
          refine r_ld 8 hC (by decide) (by decide) rfl (fun _ => rfl) (by simp only [r_ln]; omega) d_M_stable_64 ?_
          refine g_istore (i := 6) (lo' := [(6, _), (5, _), (0, _), (1, _), (2, _), (3, _), (4, _)]) hC d_M_stable_65 (by decide) rfl ?_
          refine g_goto (tgt := 108) hC d_M_stable_67 (by decide) ?_
          refine g_iload (i := 6) hC d_M_stable_108 rfl ?_
          refine g_iload_n (i := 3) hC d_M_stable_110 rfl rfl ?_
          refine g_icmp_geN (tgt := 119) hC d_M_stable_111 (by decide) (by first | omega | exact r_lt hb _ _ | (have := r_lt1 hb 5 (3 * (6 * j + σ 8 (3 * s + j) - 1) + t); omega)) (by omega) (fun h111 => ?_) (fun h111 => ?_)
          · refine g_iload_n (i := 3) hC d_M_stable_119 rfl rfl ?_
            refine g_istore_n (i := 3) (lo' := [(3, _), (6, _), (5, _), (0, _), (1, _), (2, _), (4, _)]) hC d_M_stable_120 rfl (by decide) rfl ?_
            refine g_iinc (i := 4) (k := 6) (lo' := [(4, _), (3, _), (6, _), (5, _), (0, _), (1, _), (2, _)]) hC d_M_stable_121 rfl (nI_inc _) (by decide) rfl ?_
            refine g_goto (tgt := 24) hC d_M_stable_124 (by decide) ?_
            refine g_los [4, 5, 6, 1, 0] rfl ?_
            have hkn : s_kn σ s t j = σ 8 (3 * s + t) := by
              unfold s_kn
              rw [if_pos h52]
            exact ih (j + 1, v) ⟨by omega, by simp only [s_st]; rw [hkn, ← hI.2.1]; first | rw [if_pos (by omega)] | rw [if_neg (by omega)], by first | omega | exact r_lt1 hb _ _ | (have := hv8; omega) | (have := r_lt1 hb 5 (3 * (6 * j + σ 8 (3 * s + j) - 1) + t); omega)⟩ (by first | omega | (dsimp only; omega))
          · refine g_iload (i := 6) hC d_M_stable_114 rfl ?_
            refine g_goto (tgt := 120) hC d_M_stable_116 (by decide) ?_
            refine g_istore_n (i := 3) (lo' := [(3, _), (6, _), (5, _), (0, _), (1, _), (2, _), (4, _)]) hC d_M_stable_120 rfl (by decide) rfl ?_
            refine g_iinc (i := 4) (k := 6) (lo' := [(4, _), (3, _), (6, _), (5, _), (0, _), (1, _), (2, _)]) hC d_M_stable_121 rfl (nI_inc _) (by decide) rfl ?_
            refine g_goto (tgt := 24) hC d_M_stable_124 (by decide) ?_
            refine g_los [4, 5, 6, 1, 0] rfl ?_
            have hkn : s_kn σ s t j = σ 8 (3 * s + t) := by
              unfold s_kn
              rw [if_pos h52]
            exact ih (j + 1, (σ 8 (3 * s + t))) ⟨by omega, by simp only [s_st]; rw [hkn, ← hI.2.1]; first | rw [if_pos (by omega)] | rw [if_neg (by omega)], by first | omega | exact r_lt1 hb _ _ | (have := hv8; omega) | (have := r_lt1 hb 5 (3 * (6 * j + σ 8 (3 * s + j) - 1) + t); omega)⟩ (by first | omega | (dsimp only; omega))
    · have g13 := pb_0 h13
      refine g_iconst (v := -1) hC d_M_stable_16 (by decide) ?_
      refine g_iret hC hr hlk d_M_stable_17 (by decide) (by decide) (fun ad w hw => ?_)
      exact ⟨by unfold q_st; rw [hxs, ix_no g13], hw⟩
