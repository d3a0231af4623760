/-- how many of the first i cells of s are visible -/
def s_vis (σ : rS) (s : Nat) (i : Nat) : Nat := msum (fun j => if σ 12 (18 * s + j) = 0 then 0 else 1) i
theorem s_vis_y {σ : rS} {s i : Nat} (h : σ 12 (18 * s + i) ≠ 0) : s_vis σ s (i + 1) = s_vis σ s i + 1 := by
  unfold s_vis
  simp only [msum]
  rw [if_neg h]
theorem s_vis_n {σ : rS} {s i : Nat} (h : σ 12 (18 * s + i) = 0) : s_vis σ s (i + 1) = s_vis σ s i := by
  unfold s_vis
  simp only [msum]
  rw [if_pos h, Nat.add_zero]
theorem s_vis_le {σ : rS} {s i : Nat} : s_vis σ s i ≤ i := by
  have := msum_bound (f := fun j => if σ 12 (18 * s + j) = 0 then 0 else 1) (c := 1) (n := i) (fun j _ => by split <;> omega)
  unfold s_vis
  omega
theorem s_vis_mono {σ : rS} {s i : Nat} : ∀ j, i ≤ j → s_vis σ s i ≤ s_vis σ s j
  | 0, h => by
    rw [show i = 0 by omega]
    exact Nat.le_refl _
  | j + 1, h => by
    rcases (show i = j + 1 ∨ i ≤ j by omega) with rfl | q
    · exact Nat.le_refl _
    · have := s_vis_mono (σ := σ) (s := s) (i := i) j q
      by_cases z : σ 12 (18 * s + j) = 0
      · rw [s_vis_n z]; exact this
      · rw [s_vis_y z]; omega
/-- k is the cell that is the i-th visible one, or behind all -/
def CO (σ : rS) (s i k : Nat) : Prop := (k < σ 10 s ∧ σ 12 (18 * s + k) ≠ 0 ∧ s_vis σ s k = i) ∨ (k = σ 10 s ∧ ∀ j, j < σ 10 s → σ 12 (18 * s + j) ≠ 0 → s_vis σ s j ≠ i)
theorem CO_eq {σ : rS} {s i k k' : Nat} (h : CO σ s i k) (h' : CO σ s i k') : k = k' := by
  rcases h with ⟨a, b, c⟩ | ⟨a, b⟩ <;> rcases h' with ⟨a', b', c'⟩ | ⟨a', b'⟩
  · rcases Nat.lt_trichotomy k k' with q | q | q
    · have := s_vis_mono (σ := σ) (s := s) (i := k + 1) k' q
      rw [s_vis_y b] at this
      omega
    · exact q
    · have := s_vis_mono (σ := σ) (s := s) (i := k' + 1) k q
      rw [s_vis_y b'] at this
      omega
  · exact absurd c (b' k a b)
  · exact absurd c' (b k' a' b')
  · omega
theorem CO_lt {σ : rS} {s i k : Nat} (h : CO σ s i k) (hi : i < s_vis σ s (σ 10 s)) : k < σ 10 s := by
  rcases h with ⟨a, -, -⟩ | ⟨a, b⟩
  · exact a
  · exfalso
    have key : ∀ n, n ≤ σ 10 s → s_vis σ s n ≤ i := by
      intro n
      induction n with
      | zero => intro _; exact Nat.zero_le _
      | succ n ih =>
        intro hn
        have h1 := ih (by omega)
        by_cases z : σ 12 (18 * s + n) = 0
        · rw [s_vis_n z]; exact h1
        · rw [s_vis_y z]
          have := b n (by omega) z
          omega
    have := key _ (Nat.le_refl _)
    omega
theorem CO_le {σ : rS} {s i k : Nat} (h : CO σ s i k) : k ≤ σ 10 s := by
  rcases h with ⟨a, -, -⟩ | ⟨a, -⟩ <;> omega
set_option maxRecDepth 100000 in
set_option maxHeartbeats 4000000 in
theorem r_cellOf (l : Launch) (D : va_G) (S : Nat) (σ : rS) (ad0 : Nat → Nat) (w0 : gW) (site i0 : Nat) (hs : site < 3) (hc : σ 10 site ≤ 18) (hi0 : i0 < 2 ^ 31) : g_M l y_M_cellOf w_M_cellOf (rk 0) D gCl g_N [.ref (ad0 200), .int (nI site), .int (nI i0)] (RX S σ ad0 w0) 0 0 (fun A => g_Qi D gCl A (fun r ad w => ∃ k, (CO σ site i0 k ∧ r = nI k) ∧ RX S σ ad0 w0 ad w)) := by
  refine g_of (cc := c_M_cellOf) (nL := 5) (ret := some .int) (by decide) rfl (Nat.le_of_ble_eq_true rfl) ?_
  intro pp ee ss mm bb me cc A hC hr hlk hnm
  refine g_los [0, 1, 2] (lo' := [(0, .ref (ad0 200)), (1, .int (nI site)), (2, .int (nI i0))]) rfl ?_
  refine g_pure r_bl_of (fun hb => ?_)
  refine g_iconst (v := nI 0) hC d_M_cellOf_0 (by decide) ?_
  refine g_istore_n (i := 3) (lo' := [(3, _), (0, _), (1, _), (2, _)]) hC d_M_cellOf_1 rfl (by decide) rfl ?_
  refine g_iconst (v := nI 0) hC d_M_cellOf_2 (by decide) ?_
  refine g_istore (i := 4) (lo' := [(4, _), (3, _), (0, _), (1, _), (2, _)]) hC d_M_cellOf_3 (by decide) rfl ?_
  refine g_los [2, 3, 4, 1, 0] (lo' := [(0, _), (1, _), (2, _), (3, _), (4, _)]) rfl ?_
  refine g_loop (ι := Nat × Nat) (pc0 := 5) (fun ⟨i, v⟩ => 18 - i) (fun ⟨i, v⟩ => i ≤ σ 10 site ∧ v = s_vis σ site i ∧ ∀ j, j < i → σ 12 (18 * site + j) ≠ 0 → s_vis σ site j ≠ i0) (fun ⟨i, v⟩ => RX S σ ad0 w0) (fun ⟨i, v⟩ => [(0, .ref (ad0 200)), (1, .int (nI site)), (2, .int (nI i0)), (3, .int (nI v)), (4, .int (nI i))]) ?_ (0, 0) (⟨Nat.zero_le _, rfl, fun j hj => absurd hj (Nat.not_lt_zero j)⟩)
  rintro ⟨i, v⟩ hI ih
  try dsimp only at hI ih ⊢
  refine g_iload (i := 4) hC d_M_cellOf_5 rfl ?_
  refine g_aload_n (i := 0) hC d_M_cellOf_7 rfl rfl (Or.inr ⟨_, rfl⟩) ?_
  refine g_get hC (fun x h => List.mem_cons_of_mem _ (in_M x h)) 200 r_this rfl 10 (by decide) (List.mem_cons_of_mem _ m_330) rfl rfl d_M_cellOf_8 ?_
  refine g_iload_n (i := 1) hC d_M_cellOf_11 rfl rfl ?_
  refine r_ld 10 hC (by decide) (by decide) rfl (fun _ => rfl) (by simp only [r_ln]; omega) d_M_cellOf_12 ?_
  refine g_icmp_geN (tgt := 48) hC d_M_cellOf_13 (by decide) (by first | omega | exact r_lt hb _ _ | exact pb_le _) (by first | omega | exact r_lt hb _ _ | exact pb_le _) (fun h13 => ?_) (fun h13 => ?_)
  · refine g_aload_n (i := 0) hC d_M_cellOf_48 rfl rfl (Or.inr ⟨_, rfl⟩) ?_
    refine g_get hC (fun x h => List.mem_cons_of_mem _ (in_M x h)) 200 r_this rfl 10 (by decide) (List.mem_cons_of_mem _ m_330) rfl rfl d_M_cellOf_49 ?_
    refine g_iload_n (i := 1) hC d_M_cellOf_52 rfl rfl ?_
    refine r_ld 10 hC (by decide) (by decide) rfl (fun _ => rfl) (by simp only [r_ln]; omega) d_M_cellOf_53 ?_
    refine g_iret hC hr hlk d_M_cellOf_54 (by decide) (by decide) (fun ad w hw => ?_)
    exact ⟨_, ⟨Or.inr ⟨rfl, fun j hj => hI.2.2 j (by omega)⟩, rfl⟩, hw⟩
  · refine g_aload_n (i := 0) hC d_M_cellOf_16 rfl rfl (Or.inr ⟨_, rfl⟩) ?_
    refine g_get hC (fun x h => List.mem_cons_of_mem _ (in_M x h)) 200 r_this rfl 12 (by decide) (List.mem_cons_of_mem _ m_332) rfl rfl d_M_cellOf_17 ?_
    refine g_bipush (v := nI 18) hC d_M_cellOf_20 (by decide) ?_
    refine g_iload_n (i := 1) hC d_M_cellOf_22 rfl rfl ?_
    refine g_imulN hC d_M_cellOf_23 ?_
    refine g_iload (i := 4) hC d_M_cellOf_24 rfl ?_
    refine g_iaddN hC d_M_cellOf_26 ?_
    refine r_zld 12 hC (by decide) (by decide) rfl (fun _ => rfl) (by simp only [r_ln]; omega) d_M_cellOf_27 ?_
    refine g_if_eqN (tgt := 42) hC d_M_cellOf_28 (by decide) (by first | omega | exact r_lt hb _ _ | exact pb_le _) (fun h28 => ?_) (fun h28 => ?_)
    · refine g_iinc (i := 4) (k := 4) (lo' := [(4, _), (0, _), (1, _), (2, _), (3, _)]) hC d_M_cellOf_42 rfl (nI_inc _) (by decide) rfl ?_
      refine g_goto (tgt := 5) hC d_M_cellOf_45 (by decide) ?_
      refine g_los [1, 2, 3, 4, 0] rfl ?_
      exact ih (i + 1, v) ⟨by omega, by rw [s_vis_n h28]; exact hI.2.1, lt_s hI.2.2 (fun q => absurd h28 q)⟩ (by first | omega | (dsimp only; omega))
    · refine g_iload_n (i := 3) hC d_M_cellOf_31 rfl rfl ?_
      refine g_iload_n (i := 2) hC d_M_cellOf_32 rfl rfl ?_
      refine g_icmp_neN (tgt := 39) hC d_M_cellOf_33 (by decide) (by have := s_vis_le (σ := σ) (s := site) (i := i); omega) (by omega) (fun h33 => ?_) (fun h33 => ?_)
      · refine g_iinc (i := 3) (k := 3) (lo' := [(3, _), (0, _), (1, _), (2, _), (4, _)]) hC d_M_cellOf_39 rfl (nI_inc _) (by decide) rfl ?_
        refine g_iinc (i := 4) (k := 4) (lo' := [(4, _), (3, _), (0, _), (1, _), (2, _)]) hC d_M_cellOf_42 rfl (nI_inc _) (by decide) rfl ?_
        refine g_goto (tgt := 5) hC d_M_cellOf_45 (by decide) ?_
        refine g_los [2, 3, 4, 1, 0] rfl ?_
        exact ih (i + 1, v + 1) ⟨by omega, by rw [s_vis_y h28, ← hI.2.1], lt_s hI.2.2 (fun _ => by rw [← hI.2.1]; exact h33)⟩ (by first | omega | (dsimp only; omega))
      · refine g_iload (i := 4) hC d_M_cellOf_36 rfl ?_
        refine g_iret hC hr hlk d_M_cellOf_38 (by decide) (by decide) (fun ad w hw => ?_)
        exact ⟨i, ⟨Or.inl ⟨h13, h28, by rw [← hI.2.1]; exact h33⟩, rfl⟩, hw⟩
def q_len (S : Nat) (σ : rS) (x : Int32) : Int32 := match ix S x with
  | none => -1
  | some s => nI (s_vis σ s (σ 10 s))
theorem ix_no {S : Nat} {x : Int32} (h : ¬ ∃ j, ix S x = some j) : ix S x = none := by
  cases e : ix S x with
  | none => rfl
  | some j => exact absurd ⟨j, e⟩ h
set_option maxRecDepth 100000 in
set_option maxHeartbeats 4000000 in
theorem r_length (l : Launch) (D : va_G) (S : Nat) (σ : rS) (ad0 : Nat → Nat) (w0 : gW) (hS3 : S ≤ 3) (hc : ∀ s, s < S → σ 10 s ≤ 18) (x : Int32) : g_M l y_M_length w_M_length (rk 1) D gCl g_N [.ref (ad0 200), .int x] (RX S σ ad0 w0) 0 0 (fun A => g_Qi D gCl A (fun r ad w => r = q_len S σ x ∧ RX S σ ad0 w0 ad w)) := by
  refine g_of (cc := c_M_length) (nL := 4) (ret := some .int) (by decide) rfl (Nat.le_of_ble_eq_true rfl) ?_
  intro pp ee ss mm bb me cc A hC hr hlk hnm
  refine g_los [0, 1] (lo' := [(0, .ref (ad0 200)), (1, .int x)]) rfl ?_
  refine g_pure r_bl_of (fun hb => ?_)
  refine g_aload_n (i := 0) hC d_M_length_0 rfl rfl (Or.inr ⟨_, rfl⟩) ?_
  refine g_iload_n (i := 1) hC d_M_length_1 rfl rfl ?_
  refine g_calli hC (g_runV (q := 200) (As := [_]) (st := []) hC g_NOK_N (r_isSite l D S σ ad0 w0 (by omega) x) (t_cwV 1 hC.1.2.2.2.2 m_374 m_376 ms_9 m_6 k_M_isSite rfl rfl hd_M_isSite ⟨by decide, by decide⟩) r_this rfl rfl rfl (Nat.le_of_ble_eq_true rfl) d_M_length_2 ⟨by decide, by decide⟩) (fun r2 => ?_)
  refine g_and (fun e2 => ?_)
  subst e2
  refine g_if_neN (tgt := 10) hC d_M_length_5 (by decide) (pb_le _) (fun h5 => ?_) (fun h5 => ?_)
  · have g5 := pb_1 h5
    obtain ⟨s, hxs⟩ := g5
    obtain ⟨hsS, rfl⟩ := ix_some (by omega) hxs
    have hcs := hc s hsS
    refine g_iconst (v := nI 0) hC d_M_length_10 (by decide) ?_
    refine g_istore_n (i := 2) (lo' := [(2, _), (0, _), (1, _)]) hC d_M_length_11 rfl (by decide) rfl ?_
    refine g_iconst (v := nI 0) hC d_M_length_12 (by decide) ?_
    refine g_istore_n (i := 3) (lo' := [(3, _), (2, _), (0, _), (1, _)]) hC d_M_length_13 rfl (by decide) rfl ?_
    refine g_los [2, 3, 1, 0] (lo' := [(0, _), (1, _), (2, _), (3, _)]) rfl ?_
    refine g_loop (ι := Nat × Nat) (pc0 := 14) (fun ⟨i, v⟩ => 18 - i) (fun ⟨i, v⟩ => i ≤ σ 10 s ∧ v = s_vis σ s i) (fun ⟨i, v⟩ => RX S σ ad0 w0) (fun ⟨i, v⟩ => [(0, .ref (ad0 200)), (1, .int (nI s)), (2, .int (nI v)), (3, .int (nI i))]) ?_ (0, 0) (⟨Nat.zero_le _, rfl⟩)
    rintro ⟨i, v⟩ hI ih
    try dsimp only at hI ih ⊢
    refine g_iload_n (i := 3) hC d_M_length_14 rfl rfl ?_
    refine g_aload_n (i := 0) hC d_M_length_15 rfl rfl (Or.inr ⟨_, rfl⟩) ?_
    refine g_get hC (fun x h => List.mem_cons_of_mem _ (in_M x h)) 200 r_this rfl 10 (by decide) (List.mem_cons_of_mem _ m_330) rfl rfl d_M_length_16 ?_
    refine g_iload_n (i := 1) hC d_M_length_19 rfl rfl ?_
    refine r_ld 10 hC (by decide) (by decide) rfl (fun _ => rfl) (by simp only [r_ln]; omega) d_M_length_20 ?_
    refine g_icmp_geN (tgt := 52) hC d_M_length_21 (by decide) (by first | omega | exact r_lt hb _ _ | exact pb_le _) (by first | omega | exact r_lt hb _ _ | exact pb_le _) (fun h21 => ?_) (fun h21 => ?_)
    · refine g_iload_n (i := 2) hC d_M_length_52 rfl rfl ?_
      refine g_iret hC hr hlk d_M_length_53 (by decide) (by decide) (fun ad w hw => ?_)
      exact ⟨by unfold q_len; rw [hxs]; show nI v = nI (s_vis σ s (σ 10 s)); rw [hI.2, show i = σ 10 s by omega], hw⟩
    · refine g_aload_n (i := 0) hC d_M_length_24 rfl rfl (Or.inr ⟨_, rfl⟩) ?_
      refine g_get hC (fun x h => List.mem_cons_of_mem _ (in_M x h)) 200 r_this rfl 12 (by decide) (List.mem_cons_of_mem _ m_332) rfl rfl d_M_length_25 ?_
      refine g_bipush (v := nI 18) hC d_M_length_28 (by decide) ?_
      refine g_iload_n (i := 1) hC d_M_length_30 rfl rfl ?_
      refine g_imulN hC d_M_length_31 ?_
      refine g_iload_n (i := 3) hC d_M_length_32 rfl rfl ?_
      refine g_iaddN hC d_M_length_33 ?_
      refine r_zld 12 hC (by decide) (by decide) rfl (fun _ => rfl) (by simp only [r_ln]; omega) d_M_length_34 ?_
      refine g_if_eqN (tgt := 44) hC d_M_length_35 (by decide) (by first | omega | exact r_lt hb _ _ | exact pb_le _) (fun h35 => ?_) (fun h35 => ?_)
      · refine g_iload_n (i := 2) hC d_M_length_44 rfl rfl ?_
        refine g_istore_n (i := 2) (lo' := [(2, _), (0, _), (1, _), (3, _)]) hC d_M_length_45 rfl (by decide) rfl ?_
        refine g_iinc (i := 3) (k := 3) (lo' := [(3, _), (2, _), (0, _), (1, _)]) hC d_M_length_46 rfl (nI_inc _) (by decide) rfl ?_
        refine g_goto (tgt := 14) hC d_M_length_49 (by decide) ?_
        refine g_los [2, 3, 1, 0] rfl ?_
        exact ih (i + 1, v) ⟨by omega, by rw [s_vis_n h35]; exact hI.2⟩ (by first | omega | (dsimp only; omega))
      · refine g_iload_n (i := 2) hC d_M_length_38 rfl rfl ?_
        refine g_iconst (v := nI 1) hC d_M_length_39 (by decide) ?_
        refine g_iaddN hC d_M_length_40 ?_
        refine g_goto (tgt := 45) hC d_M_length_41 (by decide) ?_
        refine g_istore_n (i := 2) (lo' := [(2, _), (0, _), (1, _), (3, _)]) hC d_M_length_45 rfl (by decide) rfl ?_
        refine g_iinc (i := 3) (k := 3) (lo' := [(3, _), (2, _), (0, _), (1, _)]) hC d_M_length_46 rfl (nI_inc _) (by decide) rfl ?_
        refine g_goto (tgt := 14) hC d_M_length_49 (by decide) ?_
        refine g_los [2, 3, 1, 0] rfl ?_
        exact ih (i + 1, v + 1) ⟨by omega, by rw [s_vis_y h35, ← hI.2]⟩ (by first | omega | (dsimp only; omega))
  · have g5 := pb_0 h5
    refine g_iconst (v := -1) hC d_M_length_8 (by decide) ?_
    refine g_iret hC hr hlk d_M_length_9 (by decide) (by decide) (fun ad w hw => ?_)
    exact ⟨by unfold q_len; rw [ix_no g5], hw⟩
/-- the vector is copied into the new operation's context, n of its numbers so far -/
def cpS (σ : rS) (o s n : Nat) : rS := fun k j => if k = 5 ∧ 3 * o ≤ j ∧ j < 3 * o + n then σ 8 (3 * s + (j - 3 * o)) else σ k j
theorem cpS_ne {σ : rS} {o s n k : Nat} (h : k ≠ 5) : cpS σ o s n k = σ k := by
  funext j
  exact if_neg (fun q => h q.1)
theorem cpS_0 {σ : rS} {o s : Nat} : cpS σ o s 0 = σ := by
  funext k j
  exact if_neg (by omega)
theorem cpS_s {σ : rS} {o s n a : Nat} (ha : a = σ 8 (3 * s + n)) : u2 (cpS σ o s n) 5 (3 * o + n) a = cpS σ o s (n + 1) := by
  funext k j
  unfold u2 cpS
  by_cases q : k = 5 ∧ j = 3 * o + n
  · rw [if_pos q, if_pos (by omega), ha, q.2, show 3 * o + n - 3 * o = n by omega]
  · rw [if_neg q]
    by_cases z : k = 5 ∧ 3 * o ≤ j ∧ j < 3 * o + n
    · rw [if_pos z, if_pos (by omega)]
    · rw [if_neg z, if_neg (by omega)]
theorem ad_eq {σ : rS} {s b p c z a : Nat} (hz : z = if b = 0 then σ 11 (18 * s + p) + 1 else 0) (ha : a = σ 1 s + 1) : u2 (u2 (cpS (u2 (u2 (u2 (u2 σ 2 (6 * s + σ 1 s) b) 3 (6 * s + σ 1 s) p) 4 (6 * s + σ 1 s) c) 9 (6 * s + σ 1 s) z) (6 * s + σ 1 s) s 3) 1 s a) 6 (18 * s + (6 * s + σ 1 s)) 1 = adS σ s b p c := by
  funext k j
  by_cases k6 : k = 6
  · subst k6
    rw [u2_in, u2_ne (by omega), cpS_ne (by omega), u2_ne (by omega), u2_ne (by omega), u2_ne (by omega), u2_ne (by omega), adS_6]
  rw [u2_ne k6]
  by_cases k1 : k = 1
  · subst k1
    rw [u2_in, cpS_ne (by omega), u2_ne (by omega), u2_ne (by omega), u2_ne (by omega), u2_ne (by omega), adS_1, ha]
    by_cases q : j = s
    · rw [if_pos q, if_pos q, q]
    · rw [if_neg q, if_neg q]
  rw [u2_ne k1]
  by_cases k5 : k = 5
  · subst k5
    unfold cpS
    rw [u2_ne (by omega), u2_ne (by omega), u2_ne (by omega), u2_ne (by omega), u2_ne (by omega), u2_ne (by omega), u2_ne (by omega), u2_ne (by omega), adS_5]
    by_cases q : 3 * (6 * s + σ 1 s) ≤ j ∧ j < 3 * (6 * s + σ 1 s) + 3
    · rw [if_pos ⟨rfl, q⟩, if_pos q]
    · rw [if_neg (fun y => q y.2), if_neg q]
  rw [cpS_ne k5]
  by_cases k9 : k = 9
  · subst k9
    rw [u2_in, u2_ne (by omega), u2_ne (by omega), u2_ne (by omega), adS_9, hz]
  rw [u2_ne k9]
  by_cases k4 : k = 4
  · subst k4
    rw [u2_in, u2_ne (by omega), u2_ne (by omega), adS_4]
  rw [u2_ne k4]
  by_cases k3 : k = 3
  · subst k3
    rw [u2_in, u2_ne (by omega), adS_3]
  rw [u2_ne k3]
  by_cases k2 : k = 2
  · subst k2
    rw [u2_in, adS_2]
  rw [u2_ne k2]
  unfold adS
  rw [if_neg (by omega), if_neg (by omega), if_neg (by omega), if_neg (by omega), if_neg (by omega), if_neg (by omega), if_neg (by omega)]
set_option maxRecDepth 100000 in
set_option maxHeartbeats 4000000 in
theorem r_make (l : Launch) (D : va_G) (S : Nat) (σ : rS) (ad0 : Nat → Nat) (w0 : gW) (s b q c : Nat) (hS3 : S ≤ 3) (hsS : s < S) (hInv : INV S σ) (h6 : σ 1 s < 6) (hbc : b = 0 ∧ c = 0 ∧ q < σ 10 s ∨ b = 1 ∧ 1 ≤ c ∧ c ≤ 255 ∧ q ≤ σ 10 s) : g_M l y_M_make w_M_make (rk 5) D gCl g_N [.ref (ad0 200), .int (nI s), .int (nI b), .int (nI q), .int (nI c)] (RX S σ ad0 w0) 0 0 (fun A => g_Qi D gCl A (fun r ad w => ∃ σ', (E12 (mkS σ s b q c) σ' ∧ r = nI (σ 1 s)) ∧ RX S σ' ad0 w0 ad w)) := by
  have hcnt : σ 10 s ≤ 18 := INV.in18 (S := S) (hInv.2 s hsS).1
  have hb11 : q < σ 10 s → σ 11 (18 * s + q) < 18 := fun z => hInv.1.lt18 ((hInv.2 s hsS).1.1.made ((hInv.2 s hsS).1.2.2.1 q z).2.1)
  refine g_of (cc := c_M_make) (nL := 7) (ret := some .int) (by decide) rfl (Nat.le_of_ble_eq_true rfl) ?_
  intro pp ee ss mm bb me cc A hC hr hlk hnm
  refine g_los [0, 1, 2, 3, 4] (lo' := [(0, .ref (ad0 200)), (1, .int (nI s)), (2, .int (nI b)), (3, .int (nI q)), (4, .int (nI c))]) rfl ?_
  refine g_pure r_bl_of (fun hb => ?_)
  refine g_bipush (v := nI 6) hC d_M_make_0 (by decide) ?_
  refine g_iload_n (i := 1) hC d_M_make_2 rfl rfl ?_
  refine g_imulN hC d_M_make_3 ?_
  refine g_aload_n (i := 0) hC d_M_make_4 rfl rfl (Or.inr ⟨_, rfl⟩) ?_
  refine g_get hC (fun x h => List.mem_cons_of_mem _ (in_M x h)) 200 r_this rfl 1 (by decide) (List.mem_cons_of_mem _ m_321) rfl rfl d_M_make_5 ?_
  refine g_iload_n (i := 1) hC d_M_make_8 rfl rfl ?_
  refine r_ld 1 hC (by decide) (by decide) rfl (fun _ => rfl) (by simp only [r_ln]; omega) d_M_make_9 ?_
  refine g_iaddN hC d_M_make_10 ?_
  refine g_istore (i := 5) (lo' := [(5, _), (0, _), (1, _), (2, _), (3, _), (4, _)]) hC d_M_make_11 (by decide) rfl ?_
  refine g_aload_n (i := 0) hC d_M_make_13 rfl rfl (Or.inr ⟨_, rfl⟩) ?_
  refine g_get hC (fun x h => List.mem_cons_of_mem _ (in_M x h)) 200 r_this rfl 2 (by decide) (List.mem_cons_of_mem _ m_322) rfl rfl d_M_make_14 ?_
  refine g_iload (i := 5) hC d_M_make_17 rfl ?_
  refine g_iload_n (i := 2) hC d_M_make_19 rfl rfl ?_
  refine r_zst 2 hC (by decide) (by decide) rfl (fun _ => rfl) (by omega) (by simp only [r_ln]; omega) d_M_make_20 ?_
  refine g_aload_n (i := 0) hC d_M_make_21 rfl rfl (Or.inr ⟨_, rfl⟩) ?_
  refine g_get hC (fun x h => List.mem_cons_of_mem _ (in_M x h)) 200 r_this rfl 3 (by decide) (List.mem_cons_of_mem _ m_323) rfl rfl d_M_make_22 ?_
  refine g_iload (i := 5) hC d_M_make_25 rfl ?_
  refine g_iload_n (i := 3) hC d_M_make_27 rfl rfl ?_
  refine r_st 3 hC (by decide) (by decide) rfl (fun _ => rfl) (by decide) (by omega) (by simp only [r_ln]; omega) d_M_make_28 ?_
  refine g_aload_n (i := 0) hC d_M_make_29 rfl rfl (Or.inr ⟨_, rfl⟩) ?_
  refine g_get hC (fun x h => List.mem_cons_of_mem _ (in_M x h)) 200 r_this rfl 4 (by decide) (List.mem_cons_of_mem _ m_324) rfl rfl d_M_make_30 ?_
  refine g_iload (i := 5) hC d_M_make_33 rfl ?_
  refine g_iload (i := 4) hC d_M_make_35 rfl ?_
  refine r_st 4 hC (by decide) (by decide) rfl (fun _ => rfl) (by decide) (by omega) (by simp only [r_ln]; omega) d_M_make_37 ?_
  refine g_aload_n (i := 0) hC d_M_make_38 rfl rfl (Or.inr ⟨_, rfl⟩) ?_
  refine g_get hC (fun x h => List.mem_cons_of_mem _ (in_M x h)) 200 r_this rfl 9 (by decide) (List.mem_cons_of_mem _ m_329) rfl rfl d_M_make_39 ?_
  refine g_iload (i := 5) hC d_M_make_42 rfl ?_
  refine g_iload_n (i := 2) hC d_M_make_44 rfl rfl ?_
  refine g_if_eqN (tgt := 52) hC d_M_make_45 (by decide) (by omega) (fun h45 => ?_) (fun h45 => ?_)
  · refine g_aload_n (i := 0) hC d_M_make_52 rfl rfl (Or.inr ⟨_, rfl⟩) ?_
    refine g_get hC (fun x h => List.mem_cons_of_mem _ (in_M x h)) 200 r_this rfl 11 (by decide) (List.mem_cons_of_mem _ m_331) rfl rfl d_M_make_53 ?_
    refine g_bipush (v := nI 18) hC d_M_make_56 (by decide) ?_
    refine g_iload_n (i := 1) hC d_M_make_58 rfl rfl ?_
    refine g_imulN hC d_M_make_59 ?_
    refine g_iload_n (i := 3) hC d_M_make_60 rfl rfl ?_
    refine g_iaddN hC d_M_make_61 ?_
    refine r_ld 11 hC (by decide) (by decide) rfl (fun _ => rfl) (by simp only [r_ln]; omega) d_M_make_62 ?_
    rw [u2_ne (a := 11) (by omega), u2_ne (a := 11) (by omega), u2_ne (a := 11) (by omega)]
    refine r_ste 9 hC (by decide) (by decide) rfl (fun _ => rfl) (by decide) (nI_pred _).symm (by have := hb11 (by omega); omega) (by simp only [r_ln]; omega) d_M_make_63 ?_
    refine g_iconst (v := nI 0) hC d_M_make_64 (by decide) ?_
    refine g_istore (i := 6) (lo' := [(6, _), (5, _), (0, _), (1, _), (2, _), (3, _), (4, _)]) hC d_M_make_65 (by decide) rfl ?_
    rw [show RX S (u2 (u2 (u2 (u2 σ 2 (6 * s + σ 1 s) b) 3 (6 * s + σ 1 s) q) 4 (6 * s + σ 1 s) c) 9 (6 * s + σ 1 s) (σ 11 (18 * s + q) + 1)) ad0 w0 = RX S (cpS (u2 (u2 (u2 (u2 σ 2 (6 * s + σ 1 s) b) 3 (6 * s + σ 1 s) q) 4 (6 * s + σ 1 s) c) 9 (6 * s + σ 1 s) (σ 11 (18 * s + q) + 1)) (6 * s + σ 1 s) s 0) ad0 w0 by rw [cpS_0]]
    refine g_los [2, 3, 4, 5, 6, 1, 0] (lo' := [(0, _), (1, _), (2, _), (3, _), (4, _), (5, _), (6, _)]) rfl ?_
    refine g_loop (ι := Nat) (pc0 := 67) (fun t => 3 - t) (fun t => t ≤ 3) (fun t => RX S (cpS (u2 (u2 (u2 (u2 σ 2 (6 * s + σ 1 s) b) 3 (6 * s + σ 1 s) q) 4 (6 * s + σ 1 s) c) 9 (6 * s + σ 1 s) (σ 11 (18 * s + q) + 1)) (6 * s + σ 1 s) s t) ad0 w0) (fun t => [(0, .ref (ad0 200)), (1, .int (nI s)), (2, .int (nI b)), (3, .int (nI q)), (4, .int (nI c)), (5, .int (nI (6 * s + σ 1 s))), (6, .int (nI t))]) ?_ 0 (Nat.zero_le _)
    rintro t hI ih
    try dsimp only at hI ih ⊢
    refine g_pure r_bl_of (fun hb2 => ?_)
    refine g_iload (i := 6) hC d_M_make_67 rfl ?_
    refine g_iconst (v := nI 3) hC d_M_make_69 (by decide) ?_
    refine g_icmp_geN (tgt := 102) hC d_M_make_70 (by decide) (by first | omega | exact r_lt hb _ _ | exact pb_le _) (by first | omega | exact r_lt hb _ _ | exact pb_le _) (fun h70 => ?_) (fun h70 => ?_)
    · refine g_aload_n (i := 0) hC d_M_make_102 rfl rfl (Or.inr ⟨_, rfl⟩) ?_
      refine g_get hC (fun x h => List.mem_cons_of_mem _ (in_M x h)) 200 r_this rfl 1 (by decide) (List.mem_cons_of_mem _ m_321) rfl rfl d_M_make_103 ?_
      refine g_iload_n (i := 1) hC d_M_make_106 rfl rfl ?_
      refine g_dup2 hC d_M_make_107 rfl rfl ?_
      refine r_ld 1 hC (by decide) (by decide) rfl (fun _ => rfl) (by simp only [r_ln]; omega) d_M_make_108 ?_
      rw [cpS_ne (k := 1) (by omega), u2_ne (a := 1) (by omega), u2_ne (a := 1) (by omega), u2_ne (a := 1) (by omega), u2_ne (a := 1) (by omega)]
      refine g_iconst (v := nI 1) hC d_M_make_109 (by decide) ?_
      refine g_iaddN hC d_M_make_110 ?_
      refine r_st 1 hC (by decide) (by decide) rfl (fun _ => rfl) (by decide) (by omega) (by simp only [r_ln]; omega) d_M_make_111 ?_
      refine g_aload_n (i := 0) hC d_M_make_112 rfl rfl (Or.inr ⟨_, rfl⟩) ?_
      refine g_get hC (fun x h => List.mem_cons_of_mem _ (in_M x h)) 200 r_this rfl 6 (by decide) (List.mem_cons_of_mem _ m_326) rfl rfl d_M_make_113 ?_
      refine g_bipush (v := nI 18) hC d_M_make_116 (by decide) ?_
      refine g_iload_n (i := 1) hC d_M_make_118 rfl rfl ?_
      refine g_imulN hC d_M_make_119 ?_
      refine g_iload (i := 5) hC d_M_make_120 rfl ?_
      refine g_iaddN hC d_M_make_122 ?_
      refine g_iconst (v := nI 1) hC d_M_make_123 (by decide) ?_
      refine r_zst 6 hC (by decide) (by decide) rfl (fun _ => rfl) (by decide) (by simp only [r_ln]; omega) d_M_make_124 ?_
      have ead := ad_eq (σ := σ) (s := s) (b := b) (p := q) (c := c) (z := σ 11 (18 * s + q) + 1) (a := σ 1 s + 1) (by rw [if_pos h45]) rfl
      rw [show t = 3 by omega, ead]
      obtain ⟨hinv, hrd, hpl, hih, hiw⟩ := mkS_INV hInv hsS h6 hbc
      refine g_aload_n (i := 0) hC d_M_make_125 rfl rfl (Or.inr ⟨_, rfl⟩) ?_
      refine g_iload_n (i := 1) hC d_M_make_126 rfl rfl ?_
      refine g_iload (i := 5) hC d_M_make_127 rfl ?_
      refine g_callv hC (g_runV (q := 200) (As := [_, _]) (st := []) hC g_NOK_N (r_execute l D S (adS σ s b q c) ad0 w0 s (6 * s + σ 1 s) (by omega) hih hiw hrd) (t_cwV 2 hC.1.2.2.2.2 m_390 m_392 ms_12 m_6 k_M_execute rfl rfl hd_M_execute ⟨by decide, by decide⟩) r_this rfl rfl rfl (Nat.le_of_ble_eq_true rfl) d_M_make_129 ⟨by decide, by decide⟩) ?_
      refine g_ex (fun σ2 => g_and (fun e129 => ?_))
      have hE : E12 (mkS σ s b q c) σ2 := by
        rw [adS_vc, hpl] at e129
        exact e129
      refine g_aload_n (i := 0) hC d_M_make_132 rfl rfl (Or.inr ⟨_, rfl⟩) ?_
      refine g_get hC (fun x h => List.mem_cons_of_mem _ (in_M x h)) 200 r_this rfl 1 (by decide) (List.mem_cons_of_mem _ m_321) rfl rfl d_M_make_133 ?_
      refine g_iload_n (i := 1) hC d_M_make_136 rfl rfl ?_
      refine r_ld 1 hC (by decide) (by decide) rfl (fun _ => rfl) (by simp only [r_ln]; omega) d_M_make_137 ?_
      have e1 : σ2 1 s = σ 1 s + 1 := by
        rw [hE 1 (by omega) (by omega)]
        unfold mkS
        rw [exS_lo (by omega), adS_1, if_pos rfl]
      rw [e1]
      refine g_iconst (v := nI 1) hC d_M_make_138 (by decide) ?_
      refine g_isubN hC d_M_make_139 (by omega) ?_
      refine g_iret hC hr hlk d_M_make_140 (by decide) (by decide) (fun ad w hw => ?_)
      exact ⟨_, ⟨hE, by rw [Nat.add_sub_cancel]⟩, hw⟩
    · refine g_aload_n (i := 0) hC d_M_make_73 rfl rfl (Or.inr ⟨_, rfl⟩) ?_
      refine g_get hC (fun x h => List.mem_cons_of_mem _ (in_M x h)) 200 r_this rfl 5 (by decide) (List.mem_cons_of_mem _ m_325) rfl rfl d_M_make_74 ?_
      refine g_iconst (v := nI 3) hC d_M_make_77 (by decide) ?_
      refine g_iload (i := 5) hC d_M_make_78 rfl ?_
      refine g_imulN hC d_M_make_80 ?_
      refine g_iload (i := 6) hC d_M_make_81 rfl ?_
      refine g_iaddN hC d_M_make_83 ?_
      refine g_aload_n (i := 0) hC d_M_make_84 rfl rfl (Or.inr ⟨_, rfl⟩) ?_
      refine g_get hC (fun x h => List.mem_cons_of_mem _ (in_M x h)) 200 r_this rfl 8 (by decide) (List.mem_cons_of_mem _ m_328) rfl rfl d_M_make_85 ?_
      refine g_iconst (v := nI 3) hC d_M_make_88 (by decide) ?_
      refine g_iload_n (i := 1) hC d_M_make_89 rfl rfl ?_
      refine g_imulN hC d_M_make_90 ?_
      refine g_iload (i := 6) hC d_M_make_91 rfl ?_
      refine g_iaddN hC d_M_make_93 ?_
      refine r_ld 8 hC (by decide) (by decide) rfl (fun _ => rfl) (by simp only [r_ln]; omega) d_M_make_94 ?_
      refine r_st 5 hC (by decide) (by decide) rfl (fun _ => rfl) (by decide) (r_lt1 hb2 _ _) (by simp only [r_ln]; omega) d_M_make_95 ?_
      refine g_iinc (i := 6) (k := 6) (lo' := [(6, _), (0, _), (1, _), (2, _), (3, _), (4, _), (5, _)]) hC d_M_make_96 rfl (nI_inc _) (by decide) rfl ?_
      refine g_goto (tgt := 67) hC d_M_make_99 (by decide) ?_
      refine g_los [1, 2, 3, 4, 5, 6, 0] rfl ?_
      rw [cpS_s (by rw [cpS_ne (by omega)])]
      exact ih (t + 1) (by omega) (by omega)
  · refine g_iconst (v := -1) hC d_M_make_48 (by decide) ?_
    refine g_goto (tgt := 63) hC d_M_make_49 (by decide) ?_
    refine r_ste 9 hC (by decide) (by decide) rfl (fun _ => rfl) (by decide) nI_m1 (by omega) (by simp only [r_ln]; omega) d_M_make_63 ?_
    refine g_iconst (v := nI 0) hC d_M_make_64 (by decide) ?_
    refine g_istore (i := 6) (lo' := [(6, _), (5, _), (0, _), (1, _), (2, _), (3, _), (4, _)]) hC d_M_make_65 (by decide) rfl ?_
    rw [show RX S (u2 (u2 (u2 (u2 σ 2 (6 * s + σ 1 s) b) 3 (6 * s + σ 1 s) q) 4 (6 * s + σ 1 s) c) 9 (6 * s + σ 1 s) 0) ad0 w0 = RX S (cpS (u2 (u2 (u2 (u2 σ 2 (6 * s + σ 1 s) b) 3 (6 * s + σ 1 s) q) 4 (6 * s + σ 1 s) c) 9 (6 * s + σ 1 s) 0) (6 * s + σ 1 s) s 0) ad0 w0 by rw [cpS_0]]
    refine g_los [2, 3, 4, 5, 6, 1, 0] (lo' := [(0, _), (1, _), (2, _), (3, _), (4, _), (5, _), (6, _)]) rfl ?_
    refine g_loop (ι := Nat) (pc0 := 67) (fun t => 3 - t) (fun t => t ≤ 3) (fun t => RX S (cpS (u2 (u2 (u2 (u2 σ 2 (6 * s + σ 1 s) b) 3 (6 * s + σ 1 s) q) 4 (6 * s + σ 1 s) c) 9 (6 * s + σ 1 s) 0) (6 * s + σ 1 s) s t) ad0 w0) (fun t => [(0, .ref (ad0 200)), (1, .int (nI s)), (2, .int (nI b)), (3, .int (nI q)), (4, .int (nI c)), (5, .int (nI (6 * s + σ 1 s))), (6, .int (nI t))]) ?_ 0 (Nat.zero_le _)
    rintro t hI ih
    try dsimp only at hI ih ⊢
    refine g_pure r_bl_of (fun hb2 => ?_)
    refine g_iload (i := 6) hC d_M_make_67 rfl ?_
    refine g_iconst (v := nI 3) hC d_M_make_69 (by decide) ?_
    refine g_icmp_geN (tgt := 102) hC d_M_make_70 (by decide) (by first | omega | exact r_lt hb _ _ | exact pb_le _) (by first | omega | exact r_lt hb _ _ | exact pb_le _) (fun h70 => ?_) (fun h70 => ?_)
    · refine g_aload_n (i := 0) hC d_M_make_102 rfl rfl (Or.inr ⟨_, rfl⟩) ?_
      refine g_get hC (fun x h => List.mem_cons_of_mem _ (in_M x h)) 200 r_this rfl 1 (by decide) (List.mem_cons_of_mem _ m_321) rfl rfl d_M_make_103 ?_
      refine g_iload_n (i := 1) hC d_M_make_106 rfl rfl ?_
      refine g_dup2 hC d_M_make_107 rfl rfl ?_
      refine r_ld 1 hC (by decide) (by decide) rfl (fun _ => rfl) (by simp only [r_ln]; omega) d_M_make_108 ?_
      rw [cpS_ne (k := 1) (by omega), u2_ne (a := 1) (by omega), u2_ne (a := 1) (by omega), u2_ne (a := 1) (by omega), u2_ne (a := 1) (by omega)]
      refine g_iconst (v := nI 1) hC d_M_make_109 (by decide) ?_
      refine g_iaddN hC d_M_make_110 ?_
      refine r_st 1 hC (by decide) (by decide) rfl (fun _ => rfl) (by decide) (by omega) (by simp only [r_ln]; omega) d_M_make_111 ?_
      refine g_aload_n (i := 0) hC d_M_make_112 rfl rfl (Or.inr ⟨_, rfl⟩) ?_
      refine g_get hC (fun x h => List.mem_cons_of_mem _ (in_M x h)) 200 r_this rfl 6 (by decide) (List.mem_cons_of_mem _ m_326) rfl rfl d_M_make_113 ?_
      refine g_bipush (v := nI 18) hC d_M_make_116 (by decide) ?_
      refine g_iload_n (i := 1) hC d_M_make_118 rfl rfl ?_
      refine g_imulN hC d_M_make_119 ?_
      refine g_iload (i := 5) hC d_M_make_120 rfl ?_
      refine g_iaddN hC d_M_make_122 ?_
      refine g_iconst (v := nI 1) hC d_M_make_123 (by decide) ?_
      refine r_zst 6 hC (by decide) (by decide) rfl (fun _ => rfl) (by decide) (by simp only [r_ln]; omega) d_M_make_124 ?_
      have ead := ad_eq (σ := σ) (s := s) (b := b) (p := q) (c := c) (z := 0) (a := σ 1 s + 1) (by rw [if_neg h45]) rfl
      rw [show t = 3 by omega, ead]
      obtain ⟨hinv, hrd, hpl, hih, hiw⟩ := mkS_INV hInv hsS h6 hbc
      refine g_aload_n (i := 0) hC d_M_make_125 rfl rfl (Or.inr ⟨_, rfl⟩) ?_
      refine g_iload_n (i := 1) hC d_M_make_126 rfl rfl ?_
      refine g_iload (i := 5) hC d_M_make_127 rfl ?_
      refine g_callv hC (g_runV (q := 200) (As := [_, _]) (st := []) hC g_NOK_N (r_execute l D S (adS σ s b q c) ad0 w0 s (6 * s + σ 1 s) (by omega) hih hiw hrd) (t_cwV 2 hC.1.2.2.2.2 m_390 m_392 ms_12 m_6 k_M_execute rfl rfl hd_M_execute ⟨by decide, by decide⟩) r_this rfl rfl rfl (Nat.le_of_ble_eq_true rfl) d_M_make_129 ⟨by decide, by decide⟩) ?_
      refine g_ex (fun σ2 => g_and (fun e129 => ?_))
      have hE : E12 (mkS σ s b q c) σ2 := by
        rw [adS_vc, hpl] at e129
        exact e129
      refine g_aload_n (i := 0) hC d_M_make_132 rfl rfl (Or.inr ⟨_, rfl⟩) ?_
      refine g_get hC (fun x h => List.mem_cons_of_mem _ (in_M x h)) 200 r_this rfl 1 (by decide) (List.mem_cons_of_mem _ m_321) rfl rfl d_M_make_133 ?_
      refine g_iload_n (i := 1) hC d_M_make_136 rfl rfl ?_
      refine r_ld 1 hC (by decide) (by decide) rfl (fun _ => rfl) (by simp only [r_ln]; omega) d_M_make_137 ?_
      have e1 : σ2 1 s = σ 1 s + 1 := by
        rw [hE 1 (by omega) (by omega)]
        unfold mkS
        rw [exS_lo (by omega), adS_1, if_pos rfl]
      rw [e1]
      refine g_iconst (v := nI 1) hC d_M_make_138 (by decide) ?_
      refine g_isubN hC d_M_make_139 (by omega) ?_
      refine g_iret hC hr hlk d_M_make_140 (by decide) (by decide) (fun ad w hw => ?_)
      exact ⟨_, ⟨hE, by rw [Nat.add_sub_cancel]⟩, hw⟩
    · refine g_aload_n (i := 0) hC d_M_make_73 rfl rfl (Or.inr ⟨_, rfl⟩) ?_
      refine g_get hC (fun x h => List.mem_cons_of_mem _ (in_M x h)) 200 r_this rfl 5 (by decide) (List.mem_cons_of_mem _ m_325) rfl rfl d_M_make_74 ?_
      refine g_iconst (v := nI 3) hC d_M_make_77 (by decide) ?_
      refine g_iload (i := 5) hC d_M_make_78 rfl ?_
      refine g_imulN hC d_M_make_80 ?_
      refine g_iload (i := 6) hC d_M_make_81 rfl ?_
      refine g_iaddN hC d_M_make_83 ?_
      refine g_aload_n (i := 0) hC d_M_make_84 rfl rfl (Or.inr ⟨_, rfl⟩) ?_
      refine g_get hC (fun x h => List.mem_cons_of_mem _ (in_M x h)) 200 r_this rfl 8 (by decide) (List.mem_cons_of_mem _ m_328) rfl rfl d_M_make_85 ?_
      refine g_iconst (v := nI 3) hC d_M_make_88 (by decide) ?_
      refine g_iload_n (i := 1) hC d_M_make_89 rfl rfl ?_
      refine g_imulN hC d_M_make_90 ?_
      refine g_iload (i := 6) hC d_M_make_91 rfl ?_
      refine g_iaddN hC d_M_make_93 ?_
      refine r_ld 8 hC (by decide) (by decide) rfl (fun _ => rfl) (by simp only [r_ln]; omega) d_M_make_94 ?_
      refine r_st 5 hC (by decide) (by decide) rfl (fun _ => rfl) (by decide) (r_lt1 hb2 _ _) (by simp only [r_ln]; omega) d_M_make_95 ?_
      refine g_iinc (i := 6) (k := 6) (lo' := [(6, _), (0, _), (1, _), (2, _), (3, _), (4, _), (5, _)]) hC d_M_make_96 rfl (nI_inc _) (by decide) rfl ?_
      refine g_goto (tgt := 67) hC d_M_make_99 (by decide) ?_
      refine g_los [1, 2, 3, 4, 5, 6, 0] rfl ?_
      rw [cpS_s (by rw [cpS_ne (by omega)])]
      exact ih (t + 1) (by omega) (by omega)
