def r_of (ad0 : Nat → Nat) (v : Nat → Nat) (r : Option Nat) : Option Nat := match r with
  | none => none
  | some t => some (ad0 (100 + mtop v t))
theorem INV.mkS0 {S : Nat} {σ : rS} (h : INV S σ) {t : Nat} (ht : S ≤ t) : s_mk σ t = 0 := by
  unfold s_mk
  split
  · exact h.1.2.1 t ht
  · rfl
set_option maxRecDepth 100000 in
set_option maxHeartbeats 4000000 in
theorem h_latest (l : Launch) (D : va_G) (S : Nat) (σ ρ : rS) (ad0 : Nat → Nat) (w0 : gW) (hInv : INV S σ) (hO : OPS S σ ρ) (x : Nat) (v : Nat → Nat) (hxm : mh (s_mk σ) x) (hM : MC (s_mk σ) (s_cx σ) v) : g_M l y_H_latestUnknownTo w_H_latestUnknownTo (rk 3) D gCl g_N [.ref (ad0 1), .ref (ad0 (100 + x)), .int (nI (evv v))] (CW S ρ ad0 w0) 0 0 (fun A => g_Qq D gCl A (fun r ad w => r = r_of ad0 v (mf (mcand (s_cx σ) x v)) ∧ CW S ρ ad0 w0 ad w)) := by
  have hS3 := hInv.S3
  have hInv_top : ∀ v : Nat → Nat, (∀ t, v t ≤ s_mk σ t) → ∀ s, 0 < v s → mh (s_mk σ) (mtop v s) := fun v hv s h0 => Nat.lt_of_lt_of_le (mh_top h0 (Nat.le_trans (hv s) (hInv.1.2.2.1.1 s))) (hv _)
  obtain ⟨hx, hxal, -, -, -, -, hxcx⟩ := hO.al hInv hxm
  refine g_of (cc := c_H_latestUnknownTo) (nL := 5) (ret := some (.object "TombstoneSites$Operation")) (by decide) rfl (Nat.le_of_ble_eq_true rfl) ?_
  intro pp ee ss mm bb me cc A hC hr hlk hnm
  refine g_los [0, 1, 2] (lo' := [(0, .ref (ad0 1)), (1, .ref (ad0 (100 + x))), (2, .int (nI (evv v)))]) rfl ?_
  refine g_pure cw_bl (fun hbS => ?_)
  obtain ⟨hb, hSS⟩ := hbS
  refine g_iconst (v := nI 0) hC d_H_latestUnknownTo_0 (by decide) ?_
  refine g_istore_n (i := 3) (lo' := [(3, _), (0, _), (1, _), (2, _)]) hC d_H_latestUnknownTo_1 rfl (by decide) rfl ?_
  refine g_los [1, 2, 3, 0] (lo' := [(0, _), (1, _), (2, _), (3, _)]) rfl ?_
  refine g_loop (ι := Nat) (pc0 := 2) (fun t => 3 - t) (fun t => t ≤ S ∧ ∀ t', t' < t → ¬ mcand (s_cx σ) x v t') (fun t => CW S ρ ad0 w0) (fun t => [(0, .ref (ad0 1)), (1, .ref (ad0 (100 + x))), (2, .int (nI (evv v))), (3, .int (nI t))]) ?_ 0 (⟨Nat.zero_le _, fun s' h => absurd h (Nat.not_lt_zero _)⟩)
  rintro t hI ih
  try dsimp only at hI ih ⊢
  refine g_iload_n (i := 3) hC d_H_latestUnknownTo_2 rfl rfl ?_
  refine g_aload_n (i := 0) hC d_H_latestUnknownTo_3 rfl rfl (Or.inr ⟨_, rfl⟩) ?_
  refine g_get hC (fun x h => List.mem_cons_of_mem _ (in_H x h)) 1 cw_hi rfl 0 (by decide) (List.mem_cons_of_mem _ m_31) rfl rfl d_H_latestUnknownTo_4 ?_
  refine g_icmp_geN (tgt := 54) hC d_H_latestUnknownTo_7 (by decide) (by first | omega | exact c_lt hb _ _ | exact pb_le _) (by first | omega | exact c_lt hb _ _ | exact pb_le _) (fun h7 => ?_) (fun h7 => ?_)
  · refine g_null hC d_H_latestUnknownTo_54 ?_
    refine g_aret (r := none) hC hr hlk d_H_latestUnknownTo_55 (by decide) (by decide) (fun ad w hw => ?_)
    exact ⟨by rw [mf_not (fun j hj => (by
      by_cases q : j < S
      · exact hI.2 j (by omega)
      · intro z
        have := hM.1 j
        rw [hInv.mkS0 (by omega)] at this
        have := z.2.2.1
        omega))]; rfl, hw⟩
  · refine g_aload_n (i := 0) hC d_H_latestUnknownTo_10 rfl rfl (Or.inr ⟨_, rfl⟩) ?_
    refine g_iload_n (i := 2) hC d_H_latestUnknownTo_11 rfl rfl ?_
    refine g_iload_n (i := 3) hC d_H_latestUnknownTo_12 rfl rfl ?_
    refine g_callq hC (g_runV (q := 1) (As := [_, _]) (st := []) hC g_NOK_N (h_last l D S σ ρ ad0 w0 hInv hO v t hM.1 (by omega)) (t_cwV 2 hC.1.2.2.2.2 m_221 m_222 m_223 m_2 k_H_last rfl rfl hd_H_last ⟨by decide, by decide⟩) cw_hi rfl rfl rfl (Nat.le_of_ble_eq_true rfl) d_H_latestUnknownTo_13 ⟨by decide, by decide⟩) (fun r13 => ?_)
    refine g_and (fun e => ?_)
    subst e
    by_cases hv0 : 0 < v t
    · have htm := hInv_top v hM.1 t hv0
      obtain ⟨htl, htal, -, -, -, -, htcx⟩ := hO.al hInv htm
      have htd := mtop_d (hM.le6 hInv.1.2.2.1 t)
      rw [show va_rf (if v t = 0 then none else some (ad0 (100 + mtop v t))) = .ref (ad0 (100 + mtop v t)) by rw [if_neg (by omega)]; rfl]
      refine g_astore (i := 4) (lo' := [(4, _), (0, _), (1, _), (2, _), (3, _)]) hC d_H_latestUnknownTo_16 (Or.inr ⟨_, rfl⟩) (by decide) rfl ?_
      refine g_aload (i := 4) hC d_H_latestUnknownTo_18 rfl (Or.inr ⟨_, rfl⟩) ?_
      refine g_ifnullR hC d_H_latestUnknownTo_20 ?_
      refine g_aload (i := 4) hC d_H_latestUnknownTo_23 rfl (Or.inr ⟨_, rfl⟩) ?_
      refine g_aload_n (i := 1) hC d_H_latestUnknownTo_25 rfl rfl (Or.inr ⟨_, rfl⟩) ?_
      refine g_getN (host := R_T) hC (fun x h => List.mem_cons_of_mem _ (in_O x h)) (100 + x) (cw_o hx hxal) rfl 4 (by decide) (hC.2.2.1.1 _ mn_142) rfl rfl d_H_latestUnknownTo_26 ?_
      rw [hxcx]
      refine g_calli hC (g_runS (As := [_, _]) (st := []) hC g_NOK_N (h_isIn l D S σ ρ ad0 w0 hInv hO (mtop v t) (s_cx σ x) htm (hInv.cx6 hxm)) (t_cwS 2 hC.1.2.2.2.2 m_227 m_228 m_2 k_H_isIn rfl rfl hd_H_isIn ⟨by decide, by decide⟩) rfl rfl (Nat.le_of_ble_eq_true rfl) d_H_latestUnknownTo_29 ⟨by decide, by decide⟩) (fun r29 => ?_)
      refine g_and (fun e => ?_)
      subst e
      refine g_if_neN (tgt := 48) hC d_H_latestUnknownTo_32 (by decide) (pb_le _) (fun h32 => ?_) (fun h32 => ?_)
      · have g32 := pb_1 h32
        refine g_iinc (i := 3) (k := 4) (lo' := [(3, _), (4, _), (0, _), (1, _), (2, _)]) hC d_H_latestUnknownTo_48 rfl (nI_inc _) (by decide) rfl ?_
        refine g_goto (tgt := 2) hC d_H_latestUnknownTo_51 (by decide) ?_
        refine g_los [2, 3, 4, 0] rfl ?_
        exact ih (t + 1) ⟨by omega, lt_s hI.2 (fun q => by have := q.1; unfold mh at g32; rw [htd.1, htd.2] at g32; omega)⟩ (by omega)
      · have g32 := pb_0 h32
        refine g_aload_n (i := 0) hC d_H_latestUnknownTo_35 rfl rfl (Or.inr ⟨_, rfl⟩) ?_
        refine g_aload (i := 4) hC d_H_latestUnknownTo_36 rfl (Or.inr ⟨_, rfl⟩) ?_
        refine g_iload_n (i := 2) hC d_H_latestUnknownTo_38 rfl rfl ?_
        refine g_calli hC (g_runV (q := 1) (As := [_, _]) (st := []) hC g_NOK_N (h_isAny l D S σ ρ ad0 w0 hInv hO (mtop v t) v htm hM.1) (t_cwV 2 hC.1.2.2.2.2 m_230 m_232 ms_8 m_2 k_H_isInContextOfAny rfl rfl hd_H_isInContextOfAny ⟨by decide, by decide⟩) cw_hi rfl rfl rfl (Nat.le_of_ble_eq_true rfl) d_H_latestUnknownTo_39 ⟨by decide, by decide⟩) (fun r39 => ?_)
        refine g_and (fun e => ?_)
        subst e
        refine g_if_neN (tgt := 48) hC d_H_latestUnknownTo_42 (by decide) (pb_le _) (fun h42 => ?_) (fun h42 => ?_)
        · have g42 := pb_1 h42
          refine g_iinc (i := 3) (k := 4) (lo' := [(3, _), (4, _), (0, _), (1, _), (2, _)]) hC d_H_latestUnknownTo_48 rfl (nI_inc _) (by decide) rfl ?_
          refine g_goto (tgt := 2) hC d_H_latestUnknownTo_51 (by decide) ?_
          refine g_los [2, 3, 4, 0] rfl ?_
          exact ih (t + 1) ⟨by omega, lt_s hI.2 (fun q => by
            obtain ⟨s1, h1, h2, h3⟩ := g42
            have h18 := hM.lt18 hInv.1.2.2.1 (mh_top h2 (hM.le6 hInv.1.2.2.1 s1))
            have := q.2.2.2 _ h18 (mh_top h2 (hM.le6 hInv.1.2.2.1 s1))
            unfold mh at h3
            rw [htd.1, htd.2] at h3
            omega)⟩ (by omega)
        · have g42 := pb_0 h42
          refine g_aload (i := 4) hC d_H_latestUnknownTo_45 rfl (Or.inr ⟨_, rfl⟩) ?_
          refine g_aret (r := some (ad0 (100 + mtop v t))) hC hr hlk d_H_latestUnknownTo_47 (by decide) (by decide) (fun ad w hw => ?_)
          have hc : mcand (s_cx σ) x v t := by
            have a1 : s_cx σ x t < v t := by
              unfold mh at g32
              rw [htd.1, htd.2] at g32
              omega
            refine ⟨a1, mmx_tops hInv.1.2.2.1 hM (by omega) hv0 (fun s1 hs1 h1 => ?_)⟩
            apply Classical.byContradiction
            intro q
            refine g42 ⟨s1, ?_, h1, ?_⟩
            · apply Nat.lt_of_not_le
              intro z
              have := hM.1 s1
              rw [hInv.mkS0 z] at this
              omega
            · unfold mh
              rw [htd.1, htd.2]
              omega
          exact ⟨by rw [mf_is (by omega) hc (fun j hj => hI.2 j hj)]; rfl, hw⟩
    · rw [show va_rf (if v t = 0 then none else some (ad0 (100 + mtop v t))) = .null by rw [if_pos (by omega)]; rfl]
      refine g_astore (i := 4) (lo' := [(4, _), (0, _), (1, _), (2, _), (3, _)]) hC d_H_latestUnknownTo_16 (Or.inl rfl) (by decide) rfl ?_
      refine g_aload (i := 4) hC d_H_latestUnknownTo_18 rfl (Or.inl rfl) ?_
      refine g_ifnullZ (tgt := 48) hC d_H_latestUnknownTo_20 (by decide) ?_
      refine g_iinc (i := 3) (k := 4) (lo' := [(3, _), (4, _), (0, _), (1, _), (2, _)]) hC d_H_latestUnknownTo_48 rfl (nI_inc _) (by decide) rfl ?_
      refine g_goto (tgt := 2) hC d_H_latestUnknownTo_51 (by decide) ?_
      refine g_los [2, 3, 4, 0] rfl ?_
      exact ih (t + 1) ⟨by omega, lt_s hI.2 (fun q => by have := q.2.2.1; omega)⟩ (by omega)
def PV (σ : rS) (x : Nat) (v : Nat → Nat) : Prop := mh (s_mk σ) x ∧ MC (s_mk σ) (s_cx σ) v ∧ MX (s_mk σ) (s_cx σ) x v
/-- what the row of known places says is right -/
def MEM (S : Nat) (σ ρ : rS) : Prop := ∀ j, ρ 50 j ≠ 0 → ∃ x v, PV σ x v ∧ j = x / 6 * p8 S + evv v ∧ ρ 50 j = s_pl σ x v + 1
def KN (ρ ρ' : rS) : Prop := ∀ k, k ≠ 50 → ρ' k = ρ k
theorem KN.ops {S : Nat} {σ ρ ρ' : rS} (h : KN ρ ρ') (hO : OPS S σ ρ) : OPS S σ ρ' := by
  intro o ho
  rw [h 40 (by omega), h 41 (by omega), h (60 + o) (by omega)]
  exact hO o ho
theorem KN.trans {ρ ρ' ρ2 : rS} (h : KN ρ ρ') (h' : KN ρ' ρ2) : KN ρ ρ2 := fun k hk => (h' k hk).trans (h k hk)
theorem PV.key {S : Nat} {σ : rS} (hInv : INV S σ) {x : Nat} {v : Nat → Nat} (h : PV σ x v) : x / 6 < S ∧ evv v < p8 S ∧ (∀ t, v t ≤ 6) ∧ (∀ t, 3 ≤ t → v t = 0) ∧ x = 6 * (x / 6) + v (x / 6) := by
  obtain ⟨a, b, c⟩ := h
  have h6 : ∀ t, v t ≤ 6 := fun t => b.le6 hInv.1.2.2.1 t
  have h3 : ∀ t, 3 ≤ t → v t = 0 := fun t ht => by
    have := b.1 t
    rw [hInv.1.2.2.1.2.1 t ht] at this
    omega
  have hx : x / 6 < S := by
    apply Nat.lt_of_not_le
    intro q
    unfold mh at a
    rw [hInv.mkS0 q] at a
    omega
  refine ⟨hx, ?_, h6, h3, ?_⟩
  · have a0 := h6 0
    have a1 := h6 1
    have a2 := h6 2
    unfold evv p8
    rcases hInv.1.1 with e | e
    · rw [if_pos e]
      have := b.1 2
      rw [hInv.mkS0 (by omega)] at this
      omega
    · rw [if_neg (by omega)]
      omega
  · have e1 := (hInv.1.2.2.1.2.2 x a).1
    have e2 := c.2.2 (x / 6)
    have e3 := c.2.1
    unfold mh at e3
    omega
theorem PV.inj {S : Nat} {σ : rS} (hInv : INV S σ) {x y : Nat} {u v : Nat → Nat} (h : PV σ x u) (h' : PV σ y v) (e : x / 6 * p8 S + evv u = y / 6 * p8 S + evv v) : x = y ∧ u = v := by
  obtain ⟨a1, a2, a3, a4, a5⟩ := h.key hInv
  obtain ⟨b1, b2, b3, b4, b5⟩ := h'.key hInv
  have hd : x / 6 = y / 6 ∧ evv u = evv v := by
    unfold p8 at *
    rcases hInv.1.1 with q | q
    · rw [if_pos q] at *
      omega
    · rw [if_neg (by omega)] at *
      omega
  have hv := evv_inj a3 b3 a4 b4 hd.2
  refine ⟨?_, hv⟩
  rw [a5, b5, hd.1, hv]
theorem MEM.put {S : Nat} {σ ρ : rS} (h : MEM S σ ρ) {x : Nat} {v : Nat → Nat} (hp : PV σ x v) : MEM S σ (u2 ρ 50 (x / 6 * p8 S + evv v) (s_pl σ x v + 1)) := by
  intro j hj
  rw [u2_in] at hj ⊢
  by_cases q : j = x / 6 * p8 S + evv v
  · rw [if_pos q]
    exact ⟨x, v, hp, q, rfl⟩
  · rw [if_neg q] at hj ⊢
    exact h j hj
theorem nI_m1e {a : Nat} (ha : a < 2 ^ 31) : nI a - 1 = -1 ↔ a = 0 := by
  constructor
  · intro h
    apply Classical.byContradiction
    intro e
    have := (en_lt ha).mp (by rw [h]; decide +kernel)
    exact e this
  · intro e
    subst e
    decide +kernel
theorem pl_bound18 {S : Nat} {σ : rS} (hInv : INV S σ) {x : Nat} {v : Nat → Nat} (h : PV σ x v) : s_pl σ x v ≤ 18 := by
  have := mplace_in hInv.1.2.2.1 (fun o => if σ 2 o = 0 then 1 else 0) (fun o ho => (hInv.1.2.2.2 o ho).1) _ _ _ rfl h.2.1 h.2.2
  have := mcnt_18 (σ 2) v
  unfold s_pl
  omega
set_option maxRecDepth 100000 in
set_option maxHeartbeats 4000000 in
theorem h_placeFor_step (l : Launch) (D : va_G) (S : Nat) (σ ρ : rS) (ad0 : Nat → Nat) (w0 : gW) (hInv : INV S σ) (hO : OPS S σ ρ) (d x : Nat) (v : Nat → Nat) (hMe : MEM S σ ρ) (hp : PV σ x v) (hz : msz v < d + 1) (hd18 : d + 1 ≤ 18) (ihp : ∀ (ρ : rS) (x : Nat) (v : Nat → Nat), OPS S σ ρ → MEM S σ ρ → PV σ x v → msz v < d → d ≤ 18 → g_M l y_H_placeFor w_H_placeFor (rk (4 + d)) D gCl g_N [.ref (ad0 1), .ref (ad0 (100 + x)), .int (nI (evv v)), .int (nI d)] (CW S ρ ad0 w0) 0 0 (fun A => g_Qi D gCl A (fun r ad w => ∃ ρ', (MEM S σ ρ' ∧ KN ρ ρ' ∧ r = nI (s_pl σ x v)) ∧ CW S ρ' ad0 w0 ad w))) : g_M l y_H_placeFor w_H_placeFor (rk (4 + (d + 1))) D gCl g_N [.ref (ad0 1), .ref (ad0 (100 + x)), .int (nI (evv v)), .int (nI (d + 1))] (CW S ρ ad0 w0) 0 0 (fun A => g_Qi D gCl A (fun r ad w => ∃ ρ', (MEM S σ ρ' ∧ KN ρ ρ' ∧ r = nI (s_pl σ x v)) ∧ CW S ρ' ad0 w0 ad w)) := by
  have hS3 := hInv.S3
  have hInv_top : ∀ v : Nat → Nat, (∀ t, v t ≤ s_mk σ t) → ∀ s, 0 < v s → mh (s_mk σ) (mtop v s) := fun v hv s h0 => Nat.lt_of_lt_of_le (mh_top h0 (Nat.le_trans (hv s) (hInv.1.2.2.1.1 s))) (hv _)
  obtain ⟨hx, hxal, hxsi, -, hxch, hxpo, hxcx⟩ := hO.al hInv hp.1
  obtain ⟨hxS, hvp, hv6, hv3, -⟩ := hp.key hInv
  have hkl : (x / 6 * p8 S + evv v) < S * p8 S := by
    have : (x / 6 + 1) * p8 S ≤ S * p8 S := Nat.mul_le_mul_right _ hxS
    rw [Nat.succ_mul] at this
    omega
  refine g_of (cc := c_H_placeFor) (nL := 9) (ret := some .int) (by decide) rfl (Nat.le_of_ble_eq_true rfl) ?_
  intro pp ee ss mm bb me cc A hC hr hlk hnm
  refine g_los [0, 1, 2, 3] (lo' := [(0, .ref (ad0 1)), (1, .ref (ad0 (100 + x))), (2, .int (nI (evv v))), (3, .int (nI (d + 1)))]) rfl ?_
  refine g_pure cw_bl (fun hbS => ?_)
  obtain ⟨hb, hSS⟩ := hbS
  refine g_iload_n (i := 2) hC d_H_placeFor_0 rfl rfl ?_
  refine g_aload_n (i := 1) hC d_H_placeFor_1 rfl rfl (Or.inr ⟨_, rfl⟩) ?_
  refine g_getN (host := R_T) hC (fun x h => List.mem_cons_of_mem _ (in_O x h)) (100 + x) (cw_o hx hxal) rfl 4 (by decide) (hC.2.2.1.1 _ mn_142) rfl rfl d_H_placeFor_2 ?_
  rw [hxcx]
  refine g_icmp_eqN (tgt := 12) hC d_H_placeFor_5 (by decide) (by have := evv_lt hv6; omega) (by have := evv_lt (hInv.cx6 hp.1); omega) (fun h5 => ?_) (fun h5 => ?_)
  · refine g_aload_n (i := 1) hC d_H_placeFor_12 rfl rfl (Or.inr ⟨_, rfl⟩) ?_
    refine g_getN (host := R_T) hC (fun x h => List.mem_cons_of_mem _ (in_O x h)) (100 + x) (cw_o hx hxal) rfl 3 (by decide) (hC.2.2.1.1 _ mn_140) rfl rfl d_H_placeFor_13 ?_
    refine g_iret hC hr hlk d_H_placeFor_16 (by decide) (by decide) (fun ad w hw => ?_)
    refine ⟨ρ, ⟨hMe, fun _ _ => rfl, ?_⟩, hw⟩
    have e : v = s_cx σ x := evv_inj hv6 (hInv.cx6 hp.1) (hp.key hInv).2.2.2.1 (fun t ht => if_neg (by omega)) h5
    show nI (ρ (60 + x) 1) = nI (mplace (σ 2) (σ 3) (s_cx σ) x v)
    rw [hxpo, mplace_own (fun t _ => by rw [e])]
  · refine g_iload_n (i := 3) hC d_H_placeFor_8 rfl rfl ?_
    refine g_if_gtN (tgt := 17) hC d_H_placeFor_9 (by decide) (by omega) (fun h9 => ?_) (fun h9 => ?_)
    · refine g_aload_n (i := 1) hC d_H_placeFor_17 rfl rfl (Or.inr ⟨_, rfl⟩) ?_
      refine g_getN (host := R_T) hC (fun x h => List.mem_cons_of_mem _ (in_O x h)) (100 + x) (cw_o hx hxal) rfl 0 (by decide) (hC.2.2.1.1 _ mn_133) rfl rfl d_H_placeFor_18 ?_
      refine g_aload_n (i := 0) hC d_H_placeFor_21 rfl rfl (Or.inr ⟨_, rfl⟩) ?_
      refine g_get hC (fun x h => List.mem_cons_of_mem _ (in_H x h)) 1 cw_hi rfl 0 (by decide) (List.mem_cons_of_mem _ m_31) rfl rfl d_H_placeFor_22 ?_
      refine g_calli hC (g_runS (As := [_]) (st := [_]) hC g_NOK_N (v_many l D (CW S ρ ad0 w0) S hSS) (t_cwS 1 hC.1.2.2.2.2 m_25 m_26 m_3 k_V_howMany rfl rfl hd_V_howMany ⟨by simp [rk] <;> omega, by simp [rk] <;> omega⟩) rfl rfl (Nat.le_of_ble_eq_true rfl) d_H_placeFor_25 ⟨by simp [rk], by simp [rk]⟩) (fun r25 => ?_)
      refine g_and (fun e => ?_)
      subst e
      rw [hxsi]
      refine g_imulN hC d_H_placeFor_28 ?_
      refine g_iload_n (i := 2) hC d_H_placeFor_29 rfl rfl ?_
      refine g_iaddN hC d_H_placeFor_30 ?_
      refine g_istore (i := 4) (lo' := [(4, _), (0, _), (1, _), (2, _), (3, _)]) hC d_H_placeFor_31 (by decide) rfl ?_
      refine g_aload_n (i := 0) hC d_H_placeFor_33 rfl rfl (Or.inr ⟨_, rfl⟩) ?_
      refine g_get hC (fun x h => List.mem_cons_of_mem _ (in_H x h)) 1 cw_hi rfl 2 (by decide) (List.mem_cons_of_mem _ m_33) rfl rfl d_H_placeFor_34 ?_
      refine g_iload (i := 4) hC d_H_placeFor_37 rfl ?_
      refine cl_kn hC hSS hkl d_H_placeFor_39 ?_
      refine g_iconst (v := -1) hC d_H_placeFor_40 (by decide) ?_
      refine g_icmp_eq (tgt := 52) hC d_H_placeFor_41 (by decide) (fun h41 => ?_) (fun h41 => ?_)
      · refine g_aload_n (i := 0) hC d_H_placeFor_52 rfl rfl (Or.inr ⟨_, rfl⟩) ?_
        refine g_aload_n (i := 1) hC d_H_placeFor_53 rfl rfl (Or.inr ⟨_, rfl⟩) ?_
        refine g_iload_n (i := 2) hC d_H_placeFor_54 rfl rfl ?_
        refine g_callq hC (g_runV (q := 1) (As := [_, _]) (st := []) hC g_NOK_N (h_latest l D S σ ρ ad0 w0 hInv hO x v hp.1 hp.2.1) (t_cwV 2 hC.1.2.2.2.2 m_217 m_219 ms_7 m_2 k_H_latestUnknownTo rfl rfl hd_H_latestUnknownTo ⟨by simp [rk] <;> omega, by simp [rk] <;> omega⟩) cw_hi rfl rfl rfl (Nat.le_of_ble_eq_true rfl) d_H_placeFor_55 ⟨by simp [rk], by simp [rk]⟩) (fun r55 => ?_)
        refine g_and (fun e => ?_)
        subst e
        rcases hmf : mf (mcand (s_cx σ) x v) with _ | t
        · rw [show va_rf (r_of ad0 v none) = .null from rfl]
          refine g_astore (i := 5) (lo' := [(5, _), (4, _), (0, _), (1, _), (2, _), (3, _)]) hC d_H_placeFor_58 (Or.inl rfl) (by decide) rfl ?_
          refine g_aload (i := 5) hC d_H_placeFor_60 rfl (Or.inl rfl) ?_
          refine g_ifnonnullZ hC d_H_placeFor_62 ?_
          refine g_aload_n (i := 1) hC d_H_placeFor_65 rfl rfl (Or.inr ⟨_, rfl⟩) ?_
          refine g_getN (host := R_T) hC (fun x h => List.mem_cons_of_mem _ (in_O x h)) (100 + x) (cw_o hx hxal) rfl 3 (by decide) (hC.2.2.1.1 _ mn_140) rfl rfl d_H_placeFor_66 ?_
          refine g_iret hC hr hlk d_H_placeFor_69 (by decide) (by decide) (fun ad w hw => ?_)
          refine ⟨ρ, ⟨hMe, fun _ _ => rfl, ?_⟩, hw⟩
          show nI (ρ (60 + x) 1) = nI (mplace (σ 2) (σ 3) (s_cx σ) x v)
          rw [hxpo, mplace_none hmf]
        · rw [show va_rf (r_of ad0 v (some t)) = .ref (ad0 (100 + mtop v t)) from rfl]
          have hc := mf_some hmf
          have hv0 := hc.2.2.1
          have htm := hInv_top v hp.2.1.1 t hv0
          obtain ⟨htl, htal, htsi, -, htch, -, -⟩ := hO.al hInv htm
          have htd := mtop_d (hv6 t)
          have hzz := msz_md hc.2.1 hv0
          have hp1 : PV σ x (md v t) := ⟨hp.1, hp.2.1.dn hInv.1.2.2.1 hc.2, hp.2.2.dn hc⟩
          have hp2 : PV σ (mtop v t) (md v t) := ⟨htm, hp.2.1.dn hInv.1.2.2.1 hc.2, MX.top hInv.1.2.2.1 hp.2.1 hc.2⟩
          refine g_astore (i := 5) (lo' := [(5, _), (4, _), (0, _), (1, _), (2, _), (3, _)]) hC d_H_placeFor_58 (Or.inr ⟨_, rfl⟩) (by decide) rfl ?_
          refine g_aload (i := 5) hC d_H_placeFor_60 rfl (Or.inr ⟨_, rfl⟩) ?_
          refine g_ifnonnullR (tgt := 70) hC d_H_placeFor_62 (by decide) ?_
          refine g_iload_n (i := 2) hC d_H_placeFor_70 rfl rfl ?_
          refine g_aload (i := 5) hC d_H_placeFor_71 rfl (Or.inr ⟨_, rfl⟩) ?_
          refine g_getN (host := R_T) hC (fun x h => List.mem_cons_of_mem _ (in_O x h)) (100 + mtop v t) (cw_o htl htal) rfl 0 (by decide) (hC.2.2.1.1 _ mn_133) rfl rfl d_H_placeFor_73 ?_
          rw [htsi, htd.1]
          refine g_calli hC (g_runS (As := [_, _]) (st := []) hC g_NOK_N (v_less l D (CW S ρ ad0 w0) v t hc.2.1 hv0) (t_cwS 2 hC.1.2.2.2.2 m_234 m_235 m_3 k_V_withOneLess rfl rfl hd_V_withOneLess ⟨by simp [rk] <;> omega, by simp [rk] <;> omega⟩) rfl rfl (Nat.le_of_ble_eq_true rfl) d_H_placeFor_76 ⟨by simp [rk], by simp [rk]⟩) (fun r76 => ?_)
          refine g_and (fun e => ?_)
          subst e
          refine g_istore (i := 6) (lo' := [(6, _), (5, _), (4, _), (0, _), (1, _), (2, _), (3, _)]) hC d_H_placeFor_79 (by decide) rfl ?_
          refine g_aload_n (i := 0) hC d_H_placeFor_81 rfl rfl (Or.inr ⟨_, rfl⟩) ?_
          refine g_aload_n (i := 1) hC d_H_placeFor_82 rfl rfl (Or.inr ⟨_, rfl⟩) ?_
          refine g_iload (i := 6) hC d_H_placeFor_83 rfl ?_
          refine g_iload_n (i := 3) hC d_H_placeFor_85 rfl rfl ?_
          refine g_iconst (v := nI 1) hC d_H_placeFor_86 (by decide) ?_
          refine g_isubN hC d_H_placeFor_87 (by omega) ?_
          rw [Nat.add_sub_cancel]
          refine g_calli hC (g_runV (q := 1) (As := [_, _, _]) (st := []) hC g_NOK_N (ihp ρ x (md v t) hO hMe hp1 (by omega) (by omega)) (t_cwV 3 hC.1.2.2.2.2 m_237 m_215 ms_6 m_2 k_H_placeFor rfl rfl hd_H_placeFor ⟨by simp [rk] <;> omega, by simp [rk] <;> omega⟩) cw_hi rfl rfl rfl (Nat.le_of_ble_eq_true rfl) d_H_placeFor_88 ⟨by simp [rk], by simp [rk]⟩) (fun r88 => ?_)
          refine g_ex (fun ρ1 => g_and (fun e => ?_))
          obtain ⟨hM1, hK1, rfl⟩ := e
          refine g_istore (i := 7) (lo' := [(7, _), (6, _), (5, _), (4, _), (0, _), (1, _), (2, _), (3, _)]) hC d_H_placeFor_91 (by decide) rfl ?_
          refine g_aload_n (i := 0) hC d_H_placeFor_93 rfl rfl (Or.inr ⟨_, rfl⟩) ?_
          refine g_aload (i := 5) hC d_H_placeFor_94 rfl (Or.inr ⟨_, rfl⟩) ?_
          refine g_iload (i := 6) hC d_H_placeFor_96 rfl ?_
          refine g_iload_n (i := 3) hC d_H_placeFor_98 rfl rfl ?_
          refine g_iconst (v := nI 1) hC d_H_placeFor_99 (by decide) ?_
          refine g_isubN hC d_H_placeFor_100 (by omega) ?_
          rw [Nat.add_sub_cancel]
          refine g_calli hC (g_runV (q := 1) (As := [_, _, _]) (st := []) hC g_NOK_N (ihp ρ1 (mtop v t) (md v t) (hK1.ops hO) hM1 hp2 (by omega) (by omega)) (t_cwV 3 hC.1.2.2.2.2 m_237 m_215 ms_6 m_2 k_H_placeFor rfl rfl hd_H_placeFor ⟨by simp [rk] <;> omega, by simp [rk] <;> omega⟩) cw_hi rfl rfl rfl (Nat.le_of_ble_eq_true rfl) d_H_placeFor_101 ⟨by simp [rk], by simp [rk]⟩) (fun r101 => ?_)
          refine g_ex (fun ρ2 => g_and (fun e => ?_))
          obtain ⟨hM2, hKb, rfl⟩ := e
          refine g_istore (i := 8) (lo' := [(8, _), (7, _), (6, _), (5, _), (4, _), (0, _), (1, _), (2, _), (3, _)]) hC d_H_placeFor_104 (by decide) rfl ?_
          have hK2 := hK1.trans hKb
          have hval : mmv (ρ2 (60 + x) 0) (x / 6) (s_pl σ x (md v t)) (ρ2 (60 + mtop v t) 0) (mtop v t / 6) (s_pl σ (mtop v t) (md v t)) = s_pl σ x v := by
            rw [hK2 (60 + x) (by omega), hK2 (60 + mtop v t) (by omega), hxch, htch, htd.1, mmv_flag (hInv.chr hp.1) (hInv.chr htm)]
            exact (mplace_some hmf).symm
          have hxa2 : ρ2 41 x ≠ 0 := by
            rw [hK2 41 (by omega)]
            exact hxal
          have hta2 : ρ2 41 (mtop v t) ≠ 0 := by
            rw [hK2 41 (by omega)]
            exact htal
          refine g_pure cw_bl (fun hbS2 => ?_)
          obtain ⟨hb2, -⟩ := hbS2
          refine g_aload_n (i := 0) hC d_H_placeFor_106 rfl rfl (Or.inr ⟨_, rfl⟩) ?_
          refine g_get hC (fun x h => List.mem_cons_of_mem _ (in_H x h)) 1 cw_hi rfl 2 (by decide) (List.mem_cons_of_mem _ m_33) rfl rfl d_H_placeFor_107 ?_
          refine g_iload (i := 4) hC d_H_placeFor_110 rfl ?_
          refine g_aload_n (i := 1) hC d_H_placeFor_112 rfl rfl (Or.inr ⟨_, rfl⟩) ?_
          refine g_iload (i := 7) hC d_H_placeFor_113 rfl ?_
          refine g_aload (i := 5) hC d_H_placeFor_115 rfl (Or.inr ⟨_, rfl⟩) ?_
          refine g_iload (i := 8) hC d_H_placeFor_117 rfl ?_
          refine g_calli hC (g_runV (q := (100 + x)) (As := [_, _, _]) (st := [_, _]) hC g_NOK_N (o_movedPast l D S ρ2 ad0 w0 x (mtop v t) (s_pl σ x (md v t)) (s_pl σ (mtop v t) (md v t)) hx hxa2 htl hta2 (by rw [hK2 (60 + x) (by omega)]; exact hxsi) (by rw [hK2 (60 + mtop v t) (by omega)]; exact htsi) (by have := pl_bound18 hInv hp1; omega) (by have := pl_bound18 hInv hp2; omega)) (t_cwV 3 hC.1.2.2.2.2 m_238 m_239 m_240 m_7 k_O_movedPast rfl rfl hd_O_movedPast ⟨by simp [rk] <;> omega, by simp [rk] <;> omega⟩) (cw_o hx hxa2) rfl rfl rfl (Nat.le_of_ble_eq_true rfl) d_H_placeFor_119 ⟨by simp [rk], by simp [rk]⟩) (fun r119 => ?_)
          refine g_and (fun e => ?_)
          subst e
          refine cs_kn (x := (s_pl σ x v + 1)) hC hSS hkl (by have := pl_bound18 hInv hp; omega) (by rw [hval, nI_pred]) d_H_placeFor_122 ?_
          refine g_aload_n (i := 0) hC d_H_placeFor_123 rfl rfl (Or.inr ⟨_, rfl⟩) ?_
          refine g_get hC (fun x h => List.mem_cons_of_mem _ (in_H x h)) 1 cw_hi rfl 2 (by decide) (List.mem_cons_of_mem _ m_33) rfl rfl d_H_placeFor_124 ?_
          refine g_iload (i := 4) hC d_H_placeFor_127 rfl ?_
          refine cl_kn hC hSS hkl d_H_placeFor_129 ?_
          refine g_iret hC hr hlk d_H_placeFor_130 (by decide) (by decide) (fun ad w hw => ?_)
          refine ⟨_, ⟨hM2.put hp, fun k hk => ?_, ?_⟩, hw⟩
          · rw [u2_ne hk]
            exact hK2 k hk
          · rw [u2_self, nI_pred]
      · refine g_aload_n (i := 0) hC d_H_placeFor_44 rfl rfl (Or.inr ⟨_, rfl⟩) ?_
        refine g_get hC (fun x h => List.mem_cons_of_mem _ (in_H x h)) 1 cw_hi rfl 2 (by decide) (List.mem_cons_of_mem _ m_33) rfl rfl d_H_placeFor_45 ?_
        refine g_iload (i := 4) hC d_H_placeFor_48 rfl ?_
        refine cl_kn hC hSS hkl d_H_placeFor_50 ?_
        refine g_iret hC hr hlk d_H_placeFor_51 (by decide) (by decide) (fun ad w hw => ?_)
        refine ⟨ρ, ⟨hMe, fun _ _ => rfl, ?_⟩, hw⟩
        obtain ⟨x1, v1, hp1, e1, e2⟩ := hMe _ (fun z => h41 ((nI_m1e (c_lt hb _ _)).mpr z))
        obtain ⟨f1, f2⟩ := hp.inj hInv hp1 e1
        subst f1
        subst f2
        rw [e2, nI_pred]
    · exact absurd h9 (by omega)
theorem h_placeFor (l : Launch) (D : va_G) (S : Nat) (σ : rS) (ad0 : Nat → Nat) (w0 : gW) (hInv : INV S σ) : ∀ (d : Nat) (ρ : rS) (x : Nat) (v : Nat → Nat), OPS S σ ρ → MEM S σ ρ → PV σ x v → msz v < d → d ≤ 18 → g_M l y_H_placeFor w_H_placeFor (rk (4 + d)) D gCl g_N [.ref (ad0 1), .ref (ad0 (100 + x)), .int (nI (evv v)), .int (nI d)] (CW S ρ ad0 w0) 0 0 (fun A => g_Qi D gCl A (fun r ad w => ∃ ρ', (MEM S σ ρ' ∧ KN ρ ρ' ∧ r = nI (s_pl σ x v)) ∧ CW S ρ' ad0 w0 ad w)) := by
  intro d
  induction d with
  | zero => intro ρ x v _ _ _ h _; exact absurd h (Nat.not_lt_zero _)
  | succ d ih => intro ρ x v hO hMe hp hz h18; exact h_placeFor_step l D S σ ρ ad0 w0 hInv hO d x v hMe hp hz h18 ih
