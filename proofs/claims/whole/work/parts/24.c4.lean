theorem sI_pos {n : Nat} (hn : n < 1000) : sI n ≤ 0 ↔ ¬ (n % 2 = 1 ∧ n / 2 ≠ 0) := by
  unfold sI
  by_cases h : n % 2 = 1
  · rw [if_pos h]
    constructor
    · intro q z
      exact absurd q (nI_nle (by omega) (by omega))
    · intro q
      rw [show n / 2 = 0 by omega]
      decide +kernel
  · rw [if_neg h]
    constructor
    · intro _ z
      exact h z.1
    · intro _
      rw [Int32.le_iff_toInt_le, sb_negT (by omega), Int32.toInt_zero]
      omega
/-- the class's row of site s is the state's -/
def ROW (σ ρ : rS) (s : Nat) : Prop := ρ (10 * s) 0 = σ 10 s ∧ σ 10 s ≤ 18 ∧ ∀ i, i < σ 10 s → 1 ≤ σ 4 (σ 11 (18 * s + i)) ∧ ρ (10 * s + 1) i = 2 * σ 4 (σ 11 (18 * s + i)) + (if σ 12 (18 * s + i) = 0 then 0 else 1)
theorem ROW.vis {σ ρ : rS} {s : Nat} (h : ROW σ ρ s) {i : Nat} (hi : i < σ 10 s) : (ρ (10 * s + 1) i % 2 = 1 ∧ ρ (10 * s + 1) i / 2 ≠ 0) ↔ σ 12 (18 * s + i) ≠ 0 := by
  obtain ⟨a, b⟩ := h.2.2 i hi
  rw [b]
  split <;> omega
set_option maxRecDepth 100000 in
set_option maxHeartbeats 4000000 in
theorem k_vis (l : Launch) (D : va_G) (S : Nat) (σ ρ : rS) (ad0 : Nat → Nat) (w0 : gW) (s : Nat) (hs : s < S) (hR : ROW σ ρ s)  : g_M l y_K_visibleCount w_K_visibleCount (rk 0) D gCl g_N [.ref (ad0 (10 + 4 * s))] (CW S ρ ad0 w0) 0 0 (fun A => g_Qi D gCl A (fun r ad w => r = nI (s_vis σ s (σ 10 s)) ∧ CW S ρ ad0 w0 ad w)) := by
  have h18c := hR.2.1
  refine g_of (cc := c_K_visibleCount) (nL := 3) (ret := some .int) (by decide) rfl (Nat.le_of_ble_eq_true rfl) ?_
  intro pp ee ss mm bb me cc A hC hr hlk hnm
  refine g_los [0] (lo' := [(0, .ref (ad0 (10 + 4 * s)))]) rfl ?_
  refine g_pure cw_bl (fun hbS => ?_)
  obtain ⟨hb, hSS⟩ := hbS
  refine g_iconst (v := nI 0) hC d_K_visibleCount_0 (by decide) ?_
  refine g_istore_n (i := 1) (lo' := [(1, _), (0, _)]) hC d_K_visibleCount_1 rfl (by decide) rfl ?_
  refine g_iconst (v := nI 0) hC d_K_visibleCount_2 (by decide) ?_
  refine g_istore_n (i := 2) (lo' := [(2, _), (1, _), (0, _)]) hC d_K_visibleCount_3 rfl (by decide) rfl ?_
  refine g_los [2, 1, 0] (lo' := [(0, _), (1, _), (2, _)]) rfl ?_
  refine g_loop (ι := Nat × Nat) (pc0 := 4) (fun ⟨i, v⟩ => 18 - i) (fun ⟨i, v⟩ => i ≤ σ 10 s ∧ v = s_vis σ s i) (fun ⟨i, v⟩ => CW S ρ ad0 w0) (fun ⟨i, v⟩ => [(0, .ref (ad0 (10 + 4 * s))), (1, .int (nI v)), (2, .int (nI i))]) ?_ (0, 0) (⟨Nat.zero_le _, rfl⟩)
  rintro ⟨i, v⟩ hI ih
  try dsimp only at hI ih ⊢
  refine g_iload_n (i := 2) hC d_K_visibleCount_4 rfl rfl ?_
  refine g_aload_n (i := 0) hC d_K_visibleCount_5 rfl rfl (Or.inr ⟨_, rfl⟩) ?_
  refine g_get hC (fun x h => List.mem_cons_of_mem _ (in_K x h)) (10 + 4 * s) (cw_co hs) rfl 2 (by decide) (List.mem_cons_of_mem _ m_54) rfl rfl d_K_visibleCount_6 ?_
  rw [hR.1]
  refine g_icmp_geN (tgt := 30) hC d_K_visibleCount_9 (by decide) (by have := hR.2.1; omega) (by have := hR.2.1; omega) (fun h9 => ?_) (fun h9 => ?_)
  · refine g_iload_n (i := 1) hC d_K_visibleCount_30 rfl rfl ?_
    refine g_iret hC hr hlk d_K_visibleCount_31 (by decide) (by decide) (fun ad w hw => ?_)
    exact ⟨by rw [hI.2, show i = σ 10 s by omega], hw⟩
  · refine g_aload_n (i := 0) hC d_K_visibleCount_12 rfl rfl (Or.inr ⟨_, rfl⟩) ?_
    refine g_get hC (fun x h => List.mem_cons_of_mem _ (in_K x h)) (10 + 4 * s) (cw_co hs) rfl 1 (by decide) (List.mem_cons_of_mem _ m_52) rfl rfl d_K_visibleCount_13 ?_
    refine g_iload_n (i := 2) hC d_K_visibleCount_16 rfl rfl ?_
    refine cl_row (si := s) hC hs (by have := hR.2.1; omega) d_K_visibleCount_17 ?_
    refine g_if_le (tgt := 24) hC d_K_visibleCount_18 (by decide) (fun h18 => ?_) (fun h18 => ?_)
    · refine g_iinc (i := 2) (k := 2) (lo' := [(2, _), (0, _), (1, _)]) hC d_K_visibleCount_24 rfl (nI_inc _) (by decide) rfl ?_
      refine g_goto (tgt := 4) hC d_K_visibleCount_27 (by decide) ?_
      refine g_los [1, 2, 0] rfl ?_
      exact ih (i + 1, v) ⟨by omega, by rw [s_vis_n (Decidable.not_not.mp (fun z => (sI_pos (c_lt1 hb _ _)).mp h18 ((hR.vis (by omega)).mpr z)))]; exact hI.2⟩ (by first | omega | (dsimp only; omega))
    · refine g_iinc (i := 1) (k := 1) (lo' := [(1, _), (0, _), (2, _)]) hC d_K_visibleCount_21 rfl (nI_inc _) (by decide) rfl ?_
      refine g_iinc (i := 2) (k := 2) (lo' := [(2, _), (1, _), (0, _)]) hC d_K_visibleCount_24 rfl (nI_inc _) (by decide) rfl ?_
      refine g_goto (tgt := 4) hC d_K_visibleCount_27 (by decide) ?_
      refine g_los [2, 1, 0] rfl ?_
      exact ih (i + 1, v + 1) ⟨by omega, by rw [s_vis_y ((hR.vis (by omega)).mp (Decidable.not_not.mp (fun z => h18 ((sI_pos (c_lt1 hb _ _)).mpr z)))), ← hI.2]⟩ (by first | omega | (dsimp only; omega))
set_option maxRecDepth 100000 in
set_option maxHeartbeats 4000000 in
theorem k_cell (l : Launch) (D : va_G) (S : Nat) (σ ρ : rS) (ad0 : Nat → Nat) (w0 : gW) (s : Nat) (hs : s < S) (hR : ROW σ ρ s) (i : Int32) : g_M l y_K_cellOfVisible w_K_cellOfVisible (rk 0) D gCl g_N [.ref (ad0 (10 + 4 * s)), .int i] (CW S ρ ad0 w0) 0 0 (fun A => g_Qi D gCl A (fun r ad w => ((∃ i' k, i = nI i' ∧ i' < s_vis σ s (σ 10 s) ∧ k < σ 10 s ∧ CO σ s i' k ∧ r = nI k) ∨ ((¬ ∃ i', i = nI i' ∧ i' < s_vis σ s (σ 10 s)) ∧ r = -1)) ∧ CW S ρ ad0 w0 ad w)) := by
  have h18c := hR.2.1
  refine g_of (cc := c_K_cellOfVisible) (nL := 4) (ret := some .int) (by decide) rfl (Nat.le_of_ble_eq_true rfl) ?_
  intro pp ee ss mm bb me cc A hC hr hlk hnm
  refine g_los [0, 1] (lo' := [(0, .ref (ad0 (10 + 4 * s))), (1, .int i)]) rfl ?_
  refine g_pure cw_bl (fun hbS => ?_)
  obtain ⟨hb, hSS⟩ := hbS
  refine g_iconst (v := nI 0) hC d_K_cellOfVisible_0 (by decide) ?_
  refine g_istore_n (i := 2) (lo' := [(2, _), (0, _), (1, _)]) hC d_K_cellOfVisible_1 rfl (by decide) rfl ?_
  refine g_iconst (v := nI 0) hC d_K_cellOfVisible_2 (by decide) ?_
  refine g_istore_n (i := 3) (lo' := [(3, _), (2, _), (0, _), (1, _)]) hC d_K_cellOfVisible_3 rfl (by decide) rfl ?_
  refine g_los [2, 3, 1, 0] (lo' := [(0, _), (1, _), (2, _), (3, _)]) rfl ?_
  refine g_loop (ι := Nat × Nat) (pc0 := 4) (fun ⟨k, v⟩ => 18 - k) (fun ⟨k, v⟩ => k ≤ σ 10 s ∧ v = s_vis σ s k ∧ ∀ j, j < k → σ 12 (18 * s + j) ≠ 0 → ¬ nI (s_vis σ s j) = i) (fun ⟨k, v⟩ => CW S ρ ad0 w0) (fun ⟨k, v⟩ => [(0, .ref (ad0 (10 + 4 * s))), (1, .int i), (2, .int (nI v)), (3, .int (nI k))]) ?_ (0, 0) (⟨Nat.zero_le _, rfl, fun j hj => absurd hj (Nat.not_lt_zero j)⟩)
  rintro ⟨k, v⟩ hI ih
  try dsimp only at hI ih ⊢
  refine g_iload_n (i := 3) hC d_K_cellOfVisible_4 rfl rfl ?_
  refine g_aload_n (i := 0) hC d_K_cellOfVisible_5 rfl rfl (Or.inr ⟨_, rfl⟩) ?_
  refine g_get hC (fun x h => List.mem_cons_of_mem _ (in_K x h)) (10 + 4 * s) (cw_co hs) rfl 2 (by decide) (List.mem_cons_of_mem _ m_54) rfl rfl d_K_cellOfVisible_6 ?_
  rw [hR.1]
  refine g_icmp_geN (tgt := 37) hC d_K_cellOfVisible_9 (by decide) (by have := hR.2.1; omega) (by have := hR.2.1; omega) (fun h9 => ?_) (fun h9 => ?_)
  · refine g_iconst (v := -1) hC d_K_cellOfVisible_37 (by decide) ?_
    refine g_iret hC hr hlk d_K_cellOfVisible_38 (by decide) (by decide) (fun ad w hw => ?_)
    refine ⟨Or.inr ⟨fun ⟨i', h⟩ => ?_, rfl⟩, hw⟩
    have hco : CO σ s i' (σ 10 s) := Or.inr ⟨rfl, fun j hj hv e => hI.2.2 j (by omega) hv (by rw [e]; exact h.1.symm)⟩
    have := CO_lt hco h.2
    omega
  · refine g_aload_n (i := 0) hC d_K_cellOfVisible_12 rfl rfl (Or.inr ⟨_, rfl⟩) ?_
    refine g_get hC (fun x h => List.mem_cons_of_mem _ (in_K x h)) (10 + 4 * s) (cw_co hs) rfl 1 (by decide) (List.mem_cons_of_mem _ m_52) rfl rfl d_K_cellOfVisible_13 ?_
    refine g_iload_n (i := 3) hC d_K_cellOfVisible_16 rfl rfl ?_
    refine cl_row (si := s) hC hs (by have := hR.2.1; omega) d_K_cellOfVisible_17 ?_
    refine g_if_le (tgt := 31) hC d_K_cellOfVisible_18 (by decide) (fun h18 => ?_) (fun h18 => ?_)
    · refine g_iinc (i := 3) (k := 3) (lo' := [(3, _), (0, _), (1, _), (2, _)]) hC d_K_cellOfVisible_31 rfl (nI_inc _) (by decide) rfl ?_
      refine g_goto (tgt := 4) hC d_K_cellOfVisible_34 (by decide) ?_
      refine g_los [1, 2, 3, 0] rfl ?_
      have hnv := Decidable.not_not.mp (fun z => (sI_pos (c_lt1 hb _ _)).mp h18 ((hR.vis (by omega)).mpr z))
      exact ih (k + 1, v) ⟨by omega, by rw [s_vis_n hnv]; exact hI.2.1, lt_s hI.2.2 (fun q => absurd hnv q)⟩ (by first | omega | (dsimp only; omega))
    · refine g_iload_n (i := 2) hC d_K_cellOfVisible_21 rfl rfl ?_
      refine g_iload_n (i := 1) hC d_K_cellOfVisible_22 rfl rfl ?_
      refine g_icmp_ne (tgt := 28) hC d_K_cellOfVisible_23 (by decide) (fun h23 => ?_) (fun h23 => ?_)
      · refine g_iinc (i := 2) (k := 2) (lo' := [(2, _), (0, _), (1, _), (3, _)]) hC d_K_cellOfVisible_28 rfl (nI_inc _) (by decide) rfl ?_
        refine g_iinc (i := 3) (k := 3) (lo' := [(3, _), (2, _), (0, _), (1, _)]) hC d_K_cellOfVisible_31 rfl (nI_inc _) (by decide) rfl ?_
        refine g_goto (tgt := 4) hC d_K_cellOfVisible_34 (by decide) ?_
        refine g_los [2, 3, 1, 0] rfl ?_
        have hyv := (hR.vis (by omega)).mp (Decidable.not_not.mp (fun z => h18 ((sI_pos (c_lt1 hb _ _)).mpr z)))
        exact ih (k + 1, v + 1) ⟨by omega, by rw [s_vis_y hyv, ← hI.2.1], lt_s hI.2.2 (fun _ => by rw [← hI.2.1]; exact h23)⟩ (by first | omega | (dsimp only; omega))
      · refine g_iload_n (i := 3) hC d_K_cellOfVisible_26 rfl rfl ?_
        refine g_iret hC hr hlk d_K_cellOfVisible_27 (by decide) (by decide) (fun ad w hw => ?_)
        have hyv := (hR.vis (by omega)).mp (Decidable.not_not.mp (fun z => h18 ((sI_pos (c_lt1 hb _ _)).mpr z)))
        exact ⟨Or.inl ⟨v, k, h23.symm, by have := s_vis_mono (σ := σ) (s := s) (i := k + 1) (σ 10 s) (by omega); rw [s_vis_y hyv] at this; have := hI.2.1; omega, by omega, Or.inl ⟨by omega, hyv, hI.2.1.symm⟩, rfl⟩, hw⟩
set_option maxRecDepth 100000 in
set_option maxHeartbeats 4000000 in
theorem k_pos (l : Launch) (D : va_G) (S : Nat) (σ ρ : rS) (ad0 : Nat → Nat) (w0 : gW) (s : Nat) (hs : s < S) (hR : ROW σ ρ s) (i : Int32) : g_M l y_K_positionForInsert w_K_positionForInsert (rk 1) D gCl g_N [.ref (ad0 (10 + 4 * s)), .int i] (CW S ρ ad0 w0) 0 0 (fun A => g_Qi D gCl A (fun r ad w => ((∃ i' k, i = nI i' ∧ i' ≤ s_vis σ s (σ 10 s) ∧ CO σ s i' k ∧ r = nI k) ∨ ((¬ ∃ i', i = nI i' ∧ i' ≤ s_vis σ s (σ 10 s)) ∧ r = -1)) ∧ CW S ρ ad0 w0 ad w)) := by
  have h18c := hR.2.1
  refine g_of (cc := c_K_positionForInsert) (nL := 2) (ret := some .int) (by decide) rfl (Nat.le_of_ble_eq_true rfl) ?_
  intro pp ee ss mm bb me cc A hC hr hlk hnm
  refine g_los [0, 1] (lo' := [(0, .ref (ad0 (10 + 4 * s))), (1, .int i)]) rfl ?_
  refine g_pure cw_bl (fun hbS => ?_)
  obtain ⟨hb, hSS⟩ := hbS
  refine g_iload_n (i := 1) hC d_K_positionForInsert_0 rfl rfl ?_
  refine g_aload_n (i := 0) hC d_K_positionForInsert_1 rfl rfl (Or.inr ⟨_, rfl⟩) ?_
  refine g_calli hC (g_runV (q := (10 + 4 * s)) (As := []) (st := [_]) hC g_NOK_N (k_vis l D S σ ρ ad0 w0 s hs hR) (t_cwV 0 hC.1.2.2.2.2 m_110 m_111 m_112 m_5 k_K_visibleCount rfl rfl hd_K_visibleCount ⟨by decide, by decide⟩) (cw_co hs) rfl rfl rfl (Nat.le_of_ble_eq_true rfl) d_K_positionForInsert_2 ⟨by decide, by decide⟩) (fun r2 => ?_)
  refine g_and (fun e => ?_)
  subst e
  refine g_icmp_ne (tgt := 15) hC d_K_positionForInsert_5 (by decide) (fun h5 => ?_) (fun h5 => ?_)
  · refine g_aload_n (i := 0) hC d_K_positionForInsert_15 rfl rfl (Or.inr ⟨_, rfl⟩) ?_
    refine g_iload_n (i := 1) hC d_K_positionForInsert_16 rfl rfl ?_
    refine g_calli hC (g_runV (q := (10 + 4 * s)) (As := [_]) (st := []) hC g_NOK_N (k_cell l D S σ ρ ad0 w0 s hs hR i) (t_cwV 1 hC.1.2.2.2.2 m_114 m_115 m_116 m_5 k_K_cellOfVisible rfl rfl hd_K_cellOfVisible ⟨by decide, by decide⟩) (cw_co hs) rfl rfl rfl (Nat.le_of_ble_eq_true rfl) d_K_positionForInsert_17 ⟨by decide, by decide⟩) (fun r17 => ?_)
    refine g_and (fun e17 => ?_)
    refine g_iret hC hr hlk d_K_positionForInsert_20 (by decide) (by decide) (fun ad w hw => ?_)
    refine ⟨?_, hw⟩
    rcases e17 with ⟨i', k, a, b, -, d, e⟩ | ⟨a, e⟩
    · exact Or.inl ⟨i', k, a, by omega, d, e⟩
    · exact Or.inr ⟨fun ⟨i', h⟩ => by
        by_cases q : i' = s_vis σ s (σ 10 s)
        · exact h5 (by rw [h.1, q])
        · exact a ⟨i', h.1, by omega⟩, e⟩
  · refine g_aload_n (i := 0) hC d_K_positionForInsert_8 rfl rfl (Or.inr ⟨_, rfl⟩) ?_
    refine g_get hC (fun x h => List.mem_cons_of_mem _ (in_K x h)) (10 + 4 * s) (cw_co hs) rfl 2 (by decide) (List.mem_cons_of_mem _ m_54) rfl rfl d_K_positionForInsert_9 ?_
    refine g_goto (tgt := 20) hC d_K_positionForInsert_12 (by decide) ?_
    refine g_iret hC hr hlk d_K_positionForInsert_20 (by decide) (by decide) (fun ad w hw => ?_)
    exact ⟨Or.inl ⟨_, σ 10 s, h5, Nat.le_refl _, Or.inr ⟨rfl, fun j hj hv e => by have := s_vis_mono (σ := σ) (s := s) (i := j + 1) (σ 10 s) (by omega); rw [s_vis_y hv] at this; omega⟩, by rw [hR.1]⟩, hw⟩
def shR (ρ : rS) (s i c : Nat) : rS := fun k j => if k = 10 * s + 1 ∧ i < j ∧ j ≤ c then ρ k (j - 1) else ρ k j
theorem shR_ne {ρ : rS} {s i c k : Nat} (h : k ≠ 10 * s + 1) : shR ρ s i c k = ρ k := by
  funext j
  exact if_neg (fun q => h q.1)
theorem shR_lo {ρ : rS} {s i c k j : Nat} (h : j ≤ i) : shR ρ s i c k j = ρ k j := if_neg (by omega)
theorem shR_0 {ρ : rS} {s c : Nat} : shR ρ s c c = ρ := by
  funext k j
  exact if_neg (by omega)
theorem shR_s {ρ : rS} {s i c a : Nat} (h0 : 0 < i) (hc : i ≤ c) (ha : a = ρ (10 * s + 1) (i - 1)) : u2 (shR ρ s i c) (10 * s + 1) i a = shR ρ s (i - 1) c := by
  funext k j
  unfold u2 shR
  by_cases h : k = 10 * s + 1 ∧ j = i
  · rw [if_pos h, if_pos (by omega), h.1, h.2, ha]
  · rw [if_neg h]
    by_cases q : k = 10 * s + 1 ∧ i < j ∧ j ≤ c
    · rw [if_pos q, if_pos (by omega)]
    · rw [if_neg q, if_neg (by omega)]
/-- a cell is put at p -/
def pcR (ρ : rS) (s p c : Nat) : rS := u2 (u2 (shR ρ s p (ρ (10 * s) 0)) (10 * s + 1) p (2 * c + 1)) (10 * s) 0 (ρ (10 * s) 0 + 1)
theorem sI_odd (c : Nat) : sI (2 * c + 1) = nI c := by
  unfold sI
  rw [if_pos (by omega), show (2 * c + 1) / 2 = c by omega]
theorem sI_ev (c : Nat) : sI (2 * c) = -nI c := by
  unfold sI
  rw [if_neg (by omega), show 2 * c / 2 = c by omega]
set_option maxRecDepth 100000 in
set_option maxHeartbeats 4000000 in
theorem k_put (l : Launch) (D : va_G) (S : Nat) (ρ : rS) (ad0 : Nat → Nat) (w0 : gW) (s : Nat) (hs : s < S) (p c : Nat) (hp : p ≤ ρ (10 * s) 0) (hc : ρ (10 * s) 0 < 18) (hc5 : c ≤ 255) : g_M l y_K_putCell w_K_putCell (rk 0) D gCl g_N [.ref (ad0 (10 + 4 * s)), .int (nI p), .int (nI c)] (CW S ρ ad0 w0) 0 0 (fun A => g_Qv D gCl A (fun ad w => CW S (pcR ρ s p c) ad0 w0 ad w)) := by
  refine g_of (cc := c_K_putCell) (nL := 4) (ret := none) (by decide) rfl (Nat.le_of_ble_eq_true rfl) ?_
  intro pp ee ss mm bb me cc A hC hr hlk hnm
  refine g_los [0, 1, 2] (lo' := [(0, .ref (ad0 (10 + 4 * s))), (1, .int (nI p)), (2, .int (nI c))]) rfl ?_
  refine g_pure cw_bl (fun hbS => ?_)
  obtain ⟨hb, hSS⟩ := hbS
  refine g_iload_n (i := 1) hC d_K_putCell_0 rfl rfl ?_
  refine g_if_ltN (tgt := 24) hC d_K_putCell_1 (by decide) (by first | omega | exact c_lt hb _ _ | exact pb_le _) ?_
  refine g_iload_n (i := 1) hC d_K_putCell_4 rfl rfl ?_
  refine g_aload_n (i := 0) hC d_K_putCell_5 rfl rfl (Or.inr ⟨_, rfl⟩) ?_
  refine g_get hC (fun x h => List.mem_cons_of_mem _ (in_K x h)) (10 + 4 * s) (cw_co hs) rfl 2 (by decide) (List.mem_cons_of_mem _ m_54) rfl rfl d_K_putCell_6 ?_
  refine g_icmp_gtN (tgt := 24) hC d_K_putCell_9 (by decide) (by omega) (by omega) (fun h9 => ?_) (fun h9 => ?_)
  · exact absurd h9 (by omega)
  · refine g_aload_n (i := 0) hC d_K_putCell_12 rfl rfl (Or.inr ⟨_, rfl⟩) ?_
    refine g_get hC (fun x h => List.mem_cons_of_mem _ (in_K x h)) (10 + 4 * s) (cw_co hs) rfl 2 (by decide) (List.mem_cons_of_mem _ m_54) rfl rfl d_K_putCell_13 ?_
    refine g_aload_n (i := 0) hC d_K_putCell_16 rfl rfl (Or.inr ⟨_, rfl⟩) ?_
    refine g_get hC (fun x h => List.mem_cons_of_mem _ (in_K x h)) (10 + 4 * s) (cw_co hs) rfl 1 (by decide) (List.mem_cons_of_mem _ m_52) rfl rfl d_K_putCell_17 ?_
    refine g_len hC (11 + 4 * s) (fun ad w h => ⟨by rw [h.1], (h.2.2.1.2.2.2.2.2.1 s hs).2.1⟩) d_K_putCell_20 ?_
    refine g_icmp_ltN (tgt := 25) hC d_K_putCell_21 (by decide) (by omega) (by decide) (fun h21 => ?_) (fun h21 => ?_)
    · refine g_aload_n (i := 0) hC d_K_putCell_25 rfl rfl (Or.inr ⟨_, rfl⟩) ?_
      refine g_get hC (fun x h => List.mem_cons_of_mem _ (in_K x h)) (10 + 4 * s) (cw_co hs) rfl 2 (by decide) (List.mem_cons_of_mem _ m_54) rfl rfl d_K_putCell_26 ?_
      refine g_istore_n (i := 3) (lo' := [(3, _), (0, _), (1, _), (2, _)]) hC d_K_putCell_29 rfl (by decide) rfl ?_
      rw [show CW S ρ ad0 w0 = CW S (shR ρ s (ρ (10 * s) 0) (ρ (10 * s) 0)) ad0 w0 by rw [shR_0]]
      refine g_los [1, 2, 3, 0] (lo' := [(0, _), (1, _), (2, _), (3, _)]) rfl ?_
      refine g_loop (ι := Nat) (pc0 := 30) (fun i => i) (fun i => p ≤ i ∧ i ≤ ρ (10 * s) 0) (fun i => CW S (shR ρ s i (ρ (10 * s) 0)) ad0 w0) (fun i => [(0, .ref (ad0 (10 + 4 * s))), (1, .int (nI p)), (2, .int (nI c)), (3, .int (nI i))]) ?_ (ρ (10 * s) 0) (⟨hp, Nat.le_refl _⟩)
      rintro i hI ih
      try dsimp only at hI ih ⊢
      refine g_pure cw_bl (fun hbS2 => ?_)
      obtain ⟨hb2, -⟩ := hbS2
      refine g_iload_n (i := 3) hC d_K_putCell_30 rfl rfl ?_
      refine g_iload_n (i := 1) hC d_K_putCell_31 rfl rfl ?_
      refine g_icmp_leN (tgt := 55) hC d_K_putCell_32 (by decide) (by first | omega | exact c_lt hb _ _ | exact pb_le _) (by first | omega | exact c_lt hb _ _ | exact pb_le _) (fun h32 => ?_) (fun h32 => ?_)
      · have e32 : i = p := by omega
        subst e32
        refine g_aload_n (i := 0) hC d_K_putCell_55 rfl rfl (Or.inr ⟨_, rfl⟩) ?_
        refine g_get hC (fun x h => List.mem_cons_of_mem _ (in_K x h)) (10 + 4 * s) (cw_co hs) rfl 1 (by decide) (List.mem_cons_of_mem _ m_52) rfl rfl d_K_putCell_56 ?_
        refine g_iload_n (i := 1) hC d_K_putCell_59 rfl rfl ?_
        refine g_iload_n (i := 2) hC d_K_putCell_60 rfl rfl ?_
        refine cs_row (si := s) (x := (2 * c + 1)) hC (by omega) hs (by omega) (by omega) (sI_odd c).symm d_K_putCell_61 ?_
        refine g_aload_n (i := 0) hC d_K_putCell_62 rfl rfl (Or.inr ⟨_, rfl⟩) ?_
        refine g_dup hC d_K_putCell_63 rfl ?_
        refine g_get hC (fun x h => List.mem_cons_of_mem _ (in_K x h)) (10 + 4 * s) (cw_co hs) rfl 2 (by decide) (List.mem_cons_of_mem _ m_54) rfl rfl d_K_putCell_64 ?_
        rw [u2_ne (a := 10 * s) (by omega), shR_ne (k := 10 * s) (by omega)]
        refine g_iconst (v := nI 1) hC d_K_putCell_67 (by decide) ?_
        refine g_iaddN hC d_K_putCell_68 ?_
        refine g_put (ty := .int) hC (fun x h => List.mem_cons_of_mem _ (in_K x h)) ft_K tk_K n_K (10 + 4 * s) (cw_co hs) rfl 2 (by decide) (List.mem_cons_of_mem _ m_54) rfl rfl (by decide +kernel) rfl rfl (Nat.le_of_ble_eq_true rfl) (cw_upf0 (by omega) hs (by omega)) d_K_putCell_69 ?_
        refine g_vret hC hr hlk d_K_putCell_72 (by decide) (by decide) (fun ad w hw => ?_)
        exact hw
      · refine g_aload_n (i := 0) hC d_K_putCell_35 rfl rfl (Or.inr ⟨_, rfl⟩) ?_
        refine g_get hC (fun x h => List.mem_cons_of_mem _ (in_K x h)) (10 + 4 * s) (cw_co hs) rfl 1 (by decide) (List.mem_cons_of_mem _ m_52) rfl rfl d_K_putCell_36 ?_
        refine g_iload_n (i := 3) hC d_K_putCell_39 rfl rfl ?_
        refine g_aload_n (i := 0) hC d_K_putCell_40 rfl rfl (Or.inr ⟨_, rfl⟩) ?_
        refine g_get hC (fun x h => List.mem_cons_of_mem _ (in_K x h)) (10 + 4 * s) (cw_co hs) rfl 1 (by decide) (List.mem_cons_of_mem _ m_52) rfl rfl d_K_putCell_41 ?_
        refine g_iload_n (i := 3) hC d_K_putCell_44 rfl rfl ?_
        refine g_iconst (v := nI 1) hC d_K_putCell_45 (by decide) ?_
        refine g_isubN hC d_K_putCell_46 (by omega) ?_
        refine cl_row (si := s) hC hs (by omega) d_K_putCell_47 ?_
        refine cs_row (si := s) (x := _) hC (by omega) hs (by omega) (c_lt1 hb2 _ _) rfl d_K_putCell_48 ?_
        refine g_iinc (i := 3) (k := 3) (lo' := [(3, _), (0, _), (1, _), (2, _)]) hC d_K_putCell_49 rfl (nI_dec (by omega)) (by decide) rfl ?_
        refine g_goto (tgt := 30) hC d_K_putCell_52 (by decide) ?_
        refine g_los [1, 2, 3, 0] rfl ?_
        rw [shR_s (by omega) hI.2 (shR_lo (by omega))]
        exact ih (i - 1) ⟨by omega, by omega⟩ (by omega)
    · exact absurd h21 (by omega)
set_option maxRecDepth 100000 in
set_option maxHeartbeats 4000000 in
theorem k_hide (l : Launch) (D : va_G) (S : Nat) (ρ : rS) (ad0 : Nat → Nat) (w0 : gW) (s : Nat) (hs : s < S) (p : Nat) (hp : p < ρ (10 * s) 0) (hc : ρ (10 * s) 0 ≤ 18) (hn : ρ (10 * s + 1) p / 2 ≠ 0) : g_M l y_K_hideCell w_K_hideCell (rk 0) D gCl g_N [.ref (ad0 (10 + 4 * s)), .int (nI p)] (CW S ρ ad0 w0) 0 0 (fun A => g_Qv D gCl A (fun ad w => CW S (u2 ρ (10 * s + 1) p (2 * (ρ (10 * s + 1) p / 2))) ad0 w0 ad w)) := by
  refine g_of (cc := c_K_hideCell) (nL := 2) (ret := none) (by decide) rfl (Nat.le_of_ble_eq_true rfl) ?_
  intro pp ee ss mm bb me cc A hC hr hlk hnm
  refine g_los [0, 1] (lo' := [(0, .ref (ad0 (10 + 4 * s))), (1, .int (nI p))]) rfl ?_
  refine g_pure cw_bl (fun hbS => ?_)
  obtain ⟨hb, hSS⟩ := hbS
  refine g_iload_n (i := 1) hC d_K_hideCell_0 rfl rfl ?_
  refine g_if_ltN (tgt := 34) hC d_K_hideCell_1 (by decide) (by first | omega | exact c_lt hb _ _ | exact pb_le _) ?_
  refine g_iload_n (i := 1) hC d_K_hideCell_4 rfl rfl ?_
  refine g_aload_n (i := 0) hC d_K_hideCell_5 rfl rfl (Or.inr ⟨_, rfl⟩) ?_
  refine g_get hC (fun x h => List.mem_cons_of_mem _ (in_K x h)) (10 + 4 * s) (cw_co hs) rfl 2 (by decide) (List.mem_cons_of_mem _ m_54) rfl rfl d_K_hideCell_6 ?_
  refine g_icmp_geN (tgt := 34) hC d_K_hideCell_9 (by decide) (by omega) (by omega) (fun h9 => ?_) (fun h9 => ?_)
  · refine g_vret hC hr hlk d_K_hideCell_34 (by decide) (by decide) (fun ad w hw => ?_)
    exact absurd hp (by omega)
  · refine g_aload_n (i := 0) hC d_K_hideCell_12 rfl rfl (Or.inr ⟨_, rfl⟩) ?_
    refine g_get hC (fun x h => List.mem_cons_of_mem _ (in_K x h)) (10 + 4 * s) (cw_co hs) rfl 1 (by decide) (List.mem_cons_of_mem _ m_52) rfl rfl d_K_hideCell_13 ?_
    refine g_iload_n (i := 1) hC d_K_hideCell_16 rfl rfl ?_
    refine cl_row (si := s) hC hs (by omega) d_K_hideCell_17 ?_
    refine g_if_le (tgt := 34) hC d_K_hideCell_18 (by decide) (fun h18 => ?_) (fun h18 => ?_)
    · refine g_vret hC hr hlk d_K_hideCell_34 (by decide) (by decide) (fun ad w hw => ?_)
      have e18 : ρ (10 * s + 1) p % 2 ≠ 1 := fun z => (sI_pos (c_lt1 hb _ _)).mp h18 ⟨z, hn⟩
      have e19 : u2 ρ (10 * s + 1) p (2 * (ρ (10 * s + 1) p / 2)) = ρ := by
        funext k j
        unfold u2
        split
        · rename_i q
          rw [q.1, q.2]
          omega
        · rfl
      rw [e19]
      exact hw
    · refine g_aload_n (i := 0) hC d_K_hideCell_21 rfl rfl (Or.inr ⟨_, rfl⟩) ?_
      refine g_get hC (fun x h => List.mem_cons_of_mem _ (in_K x h)) (10 + 4 * s) (cw_co hs) rfl 1 (by decide) (List.mem_cons_of_mem _ m_52) rfl rfl d_K_hideCell_22 ?_
      refine g_iload_n (i := 1) hC d_K_hideCell_25 rfl rfl ?_
      refine g_aload_n (i := 0) hC d_K_hideCell_26 rfl rfl (Or.inr ⟨_, rfl⟩) ?_
      refine g_get hC (fun x h => List.mem_cons_of_mem _ (in_K x h)) (10 + 4 * s) (cw_co hs) rfl 1 (by decide) (List.mem_cons_of_mem _ m_52) rfl rfl d_K_hideCell_27 ?_
      refine g_iload_n (i := 1) hC d_K_hideCell_30 rfl rfl ?_
      refine cl_row (si := s) hC hs (by omega) d_K_hideCell_31 ?_
      refine g_ineg hC d_K_hideCell_32 ?_
      refine cs_row (si := s) (x := (2 * (ρ (10 * s + 1) p / 2))) hC (by omega) hs (by omega) (by have := c_lt1 hb (10 * s + 1) p; omega) (by have e18 := Decidable.not_not.mp (fun z => h18 ((sI_pos (c_lt1 hb _ _)).mpr z)); rw [sI_ev]; unfold sI; rw [if_pos e18.1]) d_K_hideCell_33 ?_
      refine g_vret hC hr hlk d_K_hideCell_34 (by decide) (by decide) (fun ad w hw => ?_)
      exact hw
set_option maxRecDepth 100000 in
set_option maxHeartbeats 4000000 in
theorem k_note (l : Launch) (D : va_G) (S : Nat) (ρ : rS) (ad0 : Nat → Nat) (w0 : gW) (s : Nat) (hs : s < S) (o : Nat) (ho : o < 18) (hal : ρ 41 o ≠ 0) (hsi : ρ (60 + o) 3 = o / 6) (hnu : ρ (60 + o) 4 = o % 6) (hac : ρ (10 * s) 2 < 900) : g_M l y_K_noteArrival w_K_noteArrival (rk 1) D gCl g_N [.ref (ad0 (10 + 4 * s)), .ref (ad0 (100 + o))] (CW S ρ ad0 w0) 0 0 (fun A => g_Qv D gCl A (fun ad w => CW S (u2 (u2 ρ (10 * s + 2) o 1) (10 * s) 2 (ρ (10 * s) 2 + 1)) ad0 w0 ad w)) := by
  refine g_of (cc := c_K_noteArrival) (nL := 2) (ret := none) (by decide) rfl (Nat.le_of_ble_eq_true rfl) ?_
  intro pp ee ss mm bb me cc A hC hr hlk hnm
  refine g_los [0, 1] (lo' := [(0, .ref (ad0 (10 + 4 * s))), (1, .ref (ad0 (100 + o)))]) rfl ?_
  refine g_pure cw_bl (fun hbS => ?_)
  obtain ⟨hb, hSS⟩ := hbS
  refine g_aload_n (i := 0) hC d_K_noteArrival_0 rfl rfl (Or.inr ⟨_, rfl⟩) ?_
  refine g_get hC (fun x h => List.mem_cons_of_mem _ (in_K x h)) (10 + 4 * s) (cw_co hs) rfl 4 (by decide) (List.mem_cons_of_mem _ m_58) rfl rfl d_K_noteArrival_1 ?_
  refine g_aload_n (i := 1) hC d_K_noteArrival_4 rfl rfl (Or.inr ⟨_, rfl⟩) ?_
  refine g_calli hC (g_runV (q := (100 + o)) (As := []) (st := [_]) hC g_NOK_N (o_index l D S ρ ad0 w0 o ho hal hsi hnu) (t_cwV 0 hC.1.2.2.2.2 m_179 m_160 m_161 m_7 k_O_index rfl rfl hd_O_index ⟨by decide, by decide⟩) (cw_o ho hal) rfl rfl rfl (Nat.le_of_ble_eq_true rfl) d_K_noteArrival_5 ⟨by decide, by decide⟩) (fun r5 => ?_)
  refine g_and (fun e => ?_)
  subst e
  refine g_iconst (v := nI 1) hC d_K_noteArrival_8 (by decide) ?_
  refine cs_arr (si := s) hC (by omega) hs (by omega) (by decide) d_K_noteArrival_9 ?_
  refine g_aload_n (i := 0) hC d_K_noteArrival_10 rfl rfl (Or.inr ⟨_, rfl⟩) ?_
  refine g_dup hC d_K_noteArrival_11 rfl ?_
  refine g_get hC (fun x h => List.mem_cons_of_mem _ (in_K x h)) (10 + 4 * s) (cw_co hs) rfl 5 (by decide) (List.mem_cons_of_mem _ m_60) rfl rfl d_K_noteArrival_12 ?_
  refine g_iconst (v := nI 1) hC d_K_noteArrival_15 (by decide) ?_
  rw [u2_ne (a := 10 * s) (by omega)]
  refine g_iaddN hC d_K_noteArrival_16 ?_
  refine g_put (ty := .int) hC (fun x h => List.mem_cons_of_mem _ (in_K x h)) ft_K tk_K n_K (10 + 4 * s) (cw_co hs) rfl 5 (by decide) (List.mem_cons_of_mem _ m_60) rfl rfl (by decide +kernel) rfl rfl (Nat.le_of_ble_eq_true rfl) (cw_upf2 (by omega) hs (by omega)) d_K_noteArrival_17 ?_
  refine g_vret hC hr hlk d_K_noteArrival_20 (by decide) (by decide) (fun ad w hw => ?_)
  exact hw
/-- what a copy's execute does to the cells -/
def cxR (ρ : rS) (s o p : Nat) : rS := if ρ (60 + o) 0 = 0 then u2 ρ (10 * s + 1) p (2 * (ρ (10 * s + 1) p / 2)) else pcR ρ s p (ρ (60 + o) 0)
def exR (ρ : rS) (s o p x : Nat) : rS := if o / 6 = s then u2 (u2 (cxR ρ s o p) (10 * s + 3) o (p + 1)) (10 * s) 1 x else u2 (u2 (u2 (cxR ρ s o p) (10 * s + 3) o (p + 1)) (10 * s) 1 x) (10 * s) 3 (ρ (10 * s) 3 + 1)
theorem cxR_ne {ρ : rS} {s o p k : Nat} (h1 : k ≠ 10 * s + 1) (h2 : k ≠ 10 * s) : cxR ρ s o p k = ρ k := by
  unfold cxR
  split
  · rw [u2_ne h1]
  · unfold pcR
    rw [u2_ne h2, u2_ne h1, shR_ne h1]
theorem cxR_f {ρ : rS} {s o p j : Nat} (h : j ≠ 0) : cxR ρ s o p (10 * s) j = ρ (10 * s) j := by
  unfold cxR
  split
  · rw [u2_ne (by omega)]
  · unfold pcR
    rw [u2_in, if_neg h, u2_ne (by omega), shR_ne (by omega)]
set_option maxRecDepth 100000 in
set_option maxHeartbeats 4000000 in
theorem k_exec (l : Launch) (D : va_G) (S : Nat) (ρ : rS) (ad0 : Nat → Nat) (w0 : gW) (s : Nat) (hs : s < S) (o p : Nat) (v : Nat → Nat) (ho : o < 18) (hal : ρ 41 o ≠ 0) (hsi : ρ (60 + o) 3 = o / 6) (hnu : ρ (60 + o) 4 = o % 6) (hv : ρ (10 * s) 1 = evv v) (hv6 : ∀ t, mu v (o / 6) t ≤ 6) (hc5 : ρ (60 + o) 0 ≤ 255) (heo : ρ (10 * s) 3 < 900) (hp : if ρ (60 + o) 0 = 0 then p < ρ (10 * s) 0 ∧ ρ (10 * s) 0 ≤ 18 ∧ ρ (10 * s + 1) p / 2 ≠ 0 else p ≤ ρ (10 * s) 0 ∧ ρ (10 * s) 0 < 18) : g_M l y_K_execute w_K_execute (rk 2) D gCl g_N [.ref (ad0 (10 + 4 * s)), .ref (ad0 (100 + o)), .int (nI p)] (CW S ρ ad0 w0) 0 0 (fun A => g_Qv D gCl A (fun ad w => CW S (exR ρ s o p (evv (mu v (o / 6)))) ad0 w0 ad w)) := by
  refine g_of (cc := c_K_execute) (nL := 3) (ret := none) (by decide) rfl (Nat.le_of_ble_eq_true rfl) ?_
  intro pp ee ss mm bb me cc A hC hr hlk hnm
  refine g_los [0, 1, 2] (lo' := [(0, .ref (ad0 (10 + 4 * s))), (1, .ref (ad0 (100 + o))), (2, .int (nI p))]) rfl ?_
  refine g_pure cw_bl (fun hbS => ?_)
  obtain ⟨hb, hSS⟩ := hbS
  refine g_aload_n (i := 1) hC d_K_execute_0 rfl rfl (Or.inr ⟨_, rfl⟩) ?_
  refine g_calli hC (g_runV (q := (100 + o)) (As := []) (st := []) hC g_NOK_N (o_isInsert l D S ρ ad0 w0 o ho hal) (t_cwV 0 hC.1.2.2.2.2 m_167 m_168 m_169 m_7 k_O_isInsert rfl rfl hd_O_isInsert ⟨by decide, by decide⟩) (cw_o ho hal) rfl rfl rfl (Nat.le_of_ble_eq_true rfl) d_K_execute_1 ⟨by decide, by decide⟩) (fun r1 => ?_)
  refine g_and (fun e => ?_)
  subst e
  refine g_if_eqN (tgt := 19) hC d_K_execute_4 (by decide) (pb_le _) (fun h4 => ?_) (fun h4 => ?_)
  · have g4 := pb_0 h4
    have g4 := Decidable.not_not.mp g4
    rw [if_pos g4] at hp
    have ecx : u2 ρ (10 * s + 1) p (2 * (ρ (10 * s + 1) p / 2)) = cxR ρ s o p := by
      unfold cxR
      rw [if_pos g4]
    refine g_aload_n (i := 0) hC d_K_execute_19 rfl rfl (Or.inr ⟨_, rfl⟩) ?_
    refine g_iload_n (i := 2) hC d_K_execute_20 rfl rfl ?_
    refine g_callv hC (g_runV (q := (10 + 4 * s)) (As := [_]) (st := []) hC g_NOK_N (k_hide l D S ρ ad0 w0 s hs p hp.1 hp.2.1 hp.2.2) (t_cwV 1 hC.1.2.2.2.2 m_175 m_177 ms_3 m_5 k_K_hideCell rfl rfl hd_K_hideCell ⟨by decide, by decide⟩) (cw_co hs) rfl rfl rfl (Nat.le_of_ble_eq_true rfl) d_K_execute_21 ⟨by decide, by decide⟩) ?_
    rw [ecx]
    have hal2 : cxR ρ s o p 41 o ≠ 0 := by
      rw [cxR_ne (by omega) (by omega)]
      exact hal
    have hsi2 : cxR ρ s o p (60 + o) 3 = o / 6 := by
      rw [cxR_ne (by omega) (by omega)]
      exact hsi
    have hnu2 : cxR ρ s o p (60 + o) 4 = o % 6 := by
      rw [cxR_ne (by omega) (by omega)]
      exact hnu
    have hp18 : p ≤ 18 := by omega
    refine g_aload_n (i := 0) hC d_K_execute_24 rfl rfl (Or.inr ⟨_, rfl⟩) ?_
    refine g_get hC (fun x h => List.mem_cons_of_mem _ (in_K x h)) (10 + 4 * s) (cw_co hs) rfl 7 (by decide) (List.mem_cons_of_mem _ m_64) rfl rfl d_K_execute_25 ?_
    refine g_aload_n (i := 1) hC d_K_execute_28 rfl rfl (Or.inr ⟨_, rfl⟩) ?_
    refine g_calli hC (g_runV (q := (100 + o)) (As := []) (st := [_]) hC g_NOK_N (o_index l D S (cxR ρ s o p) ad0 w0 o ho hal2 hsi2 hnu2) (t_cwV 0 hC.1.2.2.2.2 m_179 m_160 m_161 m_7 k_O_index rfl rfl hd_O_index ⟨by decide, by decide⟩) (cw_o ho hal2) rfl rfl rfl (Nat.le_of_ble_eq_true rfl) d_K_execute_29 ⟨by decide, by decide⟩) (fun r29 => ?_)
    refine g_and (fun e => ?_)
    subst e
    refine g_iload_n (i := 2) hC d_K_execute_32 rfl rfl ?_
    refine cs_plc (si := s) (x := (p + 1)) hC (by omega) hs (by omega) (by omega) (nI_pred p).symm d_K_execute_33 ?_
    have hal3 : u2 (cxR ρ s o p) (10 * s + 3) o (p + 1) 41 o ≠ 0 := by
      rw [u2_ne (by omega)]
      exact hal2
    refine g_aload_n (i := 0) hC d_K_execute_34 rfl rfl (Or.inr ⟨_, rfl⟩) ?_
    refine g_aload_n (i := 0) hC d_K_execute_35 rfl rfl (Or.inr ⟨_, rfl⟩) ?_
    refine g_get hC (fun x h => List.mem_cons_of_mem _ (in_K x h)) (10 + 4 * s) (cw_co hs) rfl 3 (by decide) (List.mem_cons_of_mem _ m_56) rfl rfl d_K_execute_36 ?_
    refine g_aload_n (i := 1) hC d_K_execute_39 rfl rfl (Or.inr ⟨_, rfl⟩) ?_
    refine g_getN (host := R_T) hC (fun x h => List.mem_cons_of_mem _ (in_O x h)) (100 + o) (cw_o ho hal3) rfl 0 (by decide) (hC.2.2.1.1 _ mn_132) rfl rfl d_K_execute_40 ?_
    rw [u2_ne (a := 10 * s) (by omega), cxR_f (by decide), hv, u2_ne (a := 60 + o) (by omega), hsi2]
    refine g_calli hC (g_runS (As := [_, _]) (st := [_]) hC g_NOK_N (v_more l D (CW S (u2 (cxR ρ s o p) (10 * s + 3) o (p + 1)) ad0 w0) v (o / 6) (by omega)) (t_cwS 2 hC.1.2.2.2.2 m_180 m_181 m_3 k_V_withOneMore rfl rfl hd_V_withOneMore ⟨by decide, by decide⟩) rfl rfl (Nat.le_of_ble_eq_true rfl) d_K_execute_43 ⟨by decide, by decide⟩) (fun r43 => ?_)
    refine g_and (fun e => ?_)
    subst e
    refine g_put (ty := .int) hC (fun x h => List.mem_cons_of_mem _ (in_K x h)) ft_K tk_K n_K (10 + 4 * s) (cw_co hs) rfl 3 (by decide) (List.mem_cons_of_mem _ m_56) rfl rfl (by decide +kernel) rfl rfl (Nat.le_of_ble_eq_true rfl) (cw_upf1 (by omega) hs (by have := evv_lt hv6; omega)) d_K_execute_46 ?_
    have hal4 : u2 (u2 (cxR ρ s o p) (10 * s + 3) o (p + 1)) (10 * s) 1 (evv (mu v (o / 6))) 41 o ≠ 0 := by
      rw [u2_ne (by omega)]
      exact hal3
    refine g_aload_n (i := 1) hC d_K_execute_49 rfl rfl (Or.inr ⟨_, rfl⟩) ?_
    refine g_getN (host := R_T) hC (fun x h => List.mem_cons_of_mem _ (in_O x h)) (100 + o) (cw_o ho hal4) rfl 0 (by decide) (hC.2.2.1.1 _ mn_132) rfl rfl d_K_execute_50 ?_
    refine g_aload_n (i := 0) hC d_K_execute_53 rfl rfl (Or.inr ⟨_, rfl⟩) ?_
    refine g_get hC (fun x h => List.mem_cons_of_mem _ (in_K x h)) (10 + 4 * s) (cw_co hs) rfl 0 (by decide) (List.mem_cons_of_mem _ m_50) rfl rfl d_K_execute_54 ?_
    rw [u2_ne (a := 60 + o) (by omega), u2_ne (a := 60 + o) (by omega), hsi2]
    refine g_icmp_eqN (tgt := 70) hC d_K_execute_57 (by decide) (by omega) (by omega) (fun h57 => ?_) (fun h57 => ?_)
    · refine g_vret hC hr hlk d_K_execute_70 (by decide) (by decide) (fun ad w hw => ?_)
      unfold exR
      rw [if_pos h57]
      exact hw
    · refine g_aload_n (i := 0) hC d_K_execute_60 rfl rfl (Or.inr ⟨_, rfl⟩) ?_
      refine g_dup hC d_K_execute_61 rfl ?_
      refine g_get hC (fun x h => List.mem_cons_of_mem _ (in_K x h)) (10 + 4 * s) (cw_co hs) rfl 6 (by decide) (List.mem_cons_of_mem _ m_62) rfl rfl d_K_execute_62 ?_
      refine g_iconst (v := nI 1) hC d_K_execute_65 (by decide) ?_
      rw [u2_in, if_neg (by decide), u2_ne (a := 10 * s) (by omega), cxR_f (by decide)]
      refine g_iaddN hC d_K_execute_66 ?_
      refine g_put (ty := .int) hC (fun x h => List.mem_cons_of_mem _ (in_K x h)) ft_K tk_K n_K (10 + 4 * s) (cw_co hs) rfl 6 (by decide) (List.mem_cons_of_mem _ m_62) rfl rfl (by decide +kernel) rfl rfl (Nat.le_of_ble_eq_true rfl) (cw_upf3 (by omega) hs (by omega)) d_K_execute_67 ?_
      refine g_vret hC hr hlk d_K_execute_70 (by decide) (by decide) (fun ad w hw => ?_)
      unfold exR
      rw [if_neg h57]
      exact hw
  · have g4 := pb_1 h4
    rw [if_neg g4] at hp
    have ecx : pcR ρ s p (ρ (60 + o) 0) = cxR ρ s o p := by
      unfold cxR
      rw [if_neg g4]
    refine g_aload_n (i := 0) hC d_K_execute_7 rfl rfl (Or.inr ⟨_, rfl⟩) ?_
    refine g_iload_n (i := 2) hC d_K_execute_8 rfl rfl ?_
    refine g_aload_n (i := 1) hC d_K_execute_9 rfl rfl (Or.inr ⟨_, rfl⟩) ?_
    refine g_getN (host := R_T) hC (fun x h => List.mem_cons_of_mem _ (in_O x h)) (100 + o) (cw_o ho hal) rfl 2 (by decide) (hC.2.2.1.1 _ mn_138) rfl rfl d_K_execute_10 ?_
    refine g_callv hC (g_runV (q := (10 + 4 * s)) (As := [_, _]) (st := []) hC g_NOK_N (k_put l D S ρ ad0 w0 s hs p (ρ (60 + o) 0) hp.1 hp.2 hc5) (t_cwV 2 hC.1.2.2.2.2 m_171 m_173 ms_2 m_5 k_K_putCell rfl rfl hd_K_putCell ⟨by decide, by decide⟩) (cw_co hs) rfl rfl rfl (Nat.le_of_ble_eq_true rfl) d_K_execute_13 ⟨by decide, by decide⟩) ?_
    refine g_goto (tgt := 24) hC d_K_execute_16 (by decide) ?_
    rw [ecx]
    have hal2 : cxR ρ s o p 41 o ≠ 0 := by
      rw [cxR_ne (by omega) (by omega)]
      exact hal
    have hsi2 : cxR ρ s o p (60 + o) 3 = o / 6 := by
      rw [cxR_ne (by omega) (by omega)]
      exact hsi
    have hnu2 : cxR ρ s o p (60 + o) 4 = o % 6 := by
      rw [cxR_ne (by omega) (by omega)]
      exact hnu
    have hp18 : p ≤ 18 := by omega
    refine g_aload_n (i := 0) hC d_K_execute_24 rfl rfl (Or.inr ⟨_, rfl⟩) ?_
    refine g_get hC (fun x h => List.mem_cons_of_mem _ (in_K x h)) (10 + 4 * s) (cw_co hs) rfl 7 (by decide) (List.mem_cons_of_mem _ m_64) rfl rfl d_K_execute_25 ?_
    refine g_aload_n (i := 1) hC d_K_execute_28 rfl rfl (Or.inr ⟨_, rfl⟩) ?_
    refine g_calli hC (g_runV (q := (100 + o)) (As := []) (st := [_]) hC g_NOK_N (o_index l D S (cxR ρ s o p) ad0 w0 o ho hal2 hsi2 hnu2) (t_cwV 0 hC.1.2.2.2.2 m_179 m_160 m_161 m_7 k_O_index rfl rfl hd_O_index ⟨by decide, by decide⟩) (cw_o ho hal2) rfl rfl rfl (Nat.le_of_ble_eq_true rfl) d_K_execute_29 ⟨by decide, by decide⟩) (fun r29 => ?_)
    refine g_and (fun e => ?_)
    subst e
    refine g_iload_n (i := 2) hC d_K_execute_32 rfl rfl ?_
    refine cs_plc (si := s) (x := (p + 1)) hC (by omega) hs (by omega) (by omega) (nI_pred p).symm d_K_execute_33 ?_
    have hal3 : u2 (cxR ρ s o p) (10 * s + 3) o (p + 1) 41 o ≠ 0 := by
      rw [u2_ne (by omega)]
      exact hal2
    refine g_aload_n (i := 0) hC d_K_execute_34 rfl rfl (Or.inr ⟨_, rfl⟩) ?_
    refine g_aload_n (i := 0) hC d_K_execute_35 rfl rfl (Or.inr ⟨_, rfl⟩) ?_
    refine g_get hC (fun x h => List.mem_cons_of_mem _ (in_K x h)) (10 + 4 * s) (cw_co hs) rfl 3 (by decide) (List.mem_cons_of_mem _ m_56) rfl rfl d_K_execute_36 ?_
    refine g_aload_n (i := 1) hC d_K_execute_39 rfl rfl (Or.inr ⟨_, rfl⟩) ?_
    refine g_getN (host := R_T) hC (fun x h => List.mem_cons_of_mem _ (in_O x h)) (100 + o) (cw_o ho hal3) rfl 0 (by decide) (hC.2.2.1.1 _ mn_132) rfl rfl d_K_execute_40 ?_
    rw [u2_ne (a := 10 * s) (by omega), cxR_f (by decide), hv, u2_ne (a := 60 + o) (by omega), hsi2]
    refine g_calli hC (g_runS (As := [_, _]) (st := [_]) hC g_NOK_N (v_more l D (CW S (u2 (cxR ρ s o p) (10 * s + 3) o (p + 1)) ad0 w0) v (o / 6) (by omega)) (t_cwS 2 hC.1.2.2.2.2 m_180 m_181 m_3 k_V_withOneMore rfl rfl hd_V_withOneMore ⟨by decide, by decide⟩) rfl rfl (Nat.le_of_ble_eq_true rfl) d_K_execute_43 ⟨by decide, by decide⟩) (fun r43 => ?_)
    refine g_and (fun e => ?_)
    subst e
    refine g_put (ty := .int) hC (fun x h => List.mem_cons_of_mem _ (in_K x h)) ft_K tk_K n_K (10 + 4 * s) (cw_co hs) rfl 3 (by decide) (List.mem_cons_of_mem _ m_56) rfl rfl (by decide +kernel) rfl rfl (Nat.le_of_ble_eq_true rfl) (cw_upf1 (by omega) hs (by have := evv_lt hv6; omega)) d_K_execute_46 ?_
    have hal4 : u2 (u2 (cxR ρ s o p) (10 * s + 3) o (p + 1)) (10 * s) 1 (evv (mu v (o / 6))) 41 o ≠ 0 := by
      rw [u2_ne (by omega)]
      exact hal3
    refine g_aload_n (i := 1) hC d_K_execute_49 rfl rfl (Or.inr ⟨_, rfl⟩) ?_
    refine g_getN (host := R_T) hC (fun x h => List.mem_cons_of_mem _ (in_O x h)) (100 + o) (cw_o ho hal4) rfl 0 (by decide) (hC.2.2.1.1 _ mn_132) rfl rfl d_K_execute_50 ?_
    refine g_aload_n (i := 0) hC d_K_execute_53 rfl rfl (Or.inr ⟨_, rfl⟩) ?_
    refine g_get hC (fun x h => List.mem_cons_of_mem _ (in_K x h)) (10 + 4 * s) (cw_co hs) rfl 0 (by decide) (List.mem_cons_of_mem _ m_50) rfl rfl d_K_execute_54 ?_
    rw [u2_ne (a := 60 + o) (by omega), u2_ne (a := 60 + o) (by omega), hsi2]
    refine g_icmp_eqN (tgt := 70) hC d_K_execute_57 (by decide) (by omega) (by omega) (fun h57 => ?_) (fun h57 => ?_)
    · refine g_vret hC hr hlk d_K_execute_70 (by decide) (by decide) (fun ad w hw => ?_)
      unfold exR
      rw [if_pos h57]
      exact hw
    · refine g_aload_n (i := 0) hC d_K_execute_60 rfl rfl (Or.inr ⟨_, rfl⟩) ?_
      refine g_dup hC d_K_execute_61 rfl ?_
      refine g_get hC (fun x h => List.mem_cons_of_mem _ (in_K x h)) (10 + 4 * s) (cw_co hs) rfl 6 (by decide) (List.mem_cons_of_mem _ m_62) rfl rfl d_K_execute_62 ?_
      refine g_iconst (v := nI 1) hC d_K_execute_65 (by decide) ?_
      rw [u2_in, if_neg (by decide), u2_ne (a := 10 * s) (by omega), cxR_f (by decide)]
      refine g_iaddN hC d_K_execute_66 ?_
      refine g_put (ty := .int) hC (fun x h => List.mem_cons_of_mem _ (in_K x h)) ft_K tk_K n_K (10 + 4 * s) (cw_co hs) rfl 6 (by decide) (List.mem_cons_of_mem _ m_62) rfl rfl (by decide +kernel) rfl rfl (Nat.le_of_ble_eq_true rfl) (cw_upf3 (by omega) hs (by omega)) d_K_execute_67 ?_
      refine g_vret hC hr hlk d_K_execute_70 (by decide) (by decide) (fun ad w hw => ?_)
      unfold exR
      rw [if_neg h57]
      exact hw
