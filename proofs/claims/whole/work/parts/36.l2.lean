/-! the start; answers are determined -/
theorem M0_mk {t : Nat} : s_mk M0 t = 0 := by
  unfold s_mk
  split <;> rfl
theorem M0_vc {s t : Nat} : s_vc M0 s t = 0 := by
  unfold s_vc
  split <;> rfl
theorem INV0 {S : Nat} (hS : S = 2 ∨ S = 3) : INV S M0 := by
  have nm : ∀ o, ¬ mh (s_mk M0) o := fun o h => by
    unfold mh at h
    rw [M0_mk] at h
    omega
  have nv : ∀ s o, ¬ mh (s_vc M0 s) o := fun s o h => by
    unfold mh at h
    rw [M0_vc] at h
    omega
  refine ⟨⟨hS, fun t _ => rfl, ⟨fun t => by rw [M0_mk]; omega, fun t _ => M0_mk, fun o h => absurd h (nm o)⟩, fun o h => absurd h (nm o)⟩, fun s hs => ⟨⟨⟨fun t => by rw [M0_vc]; omega, fun o h => absurd h (nv s o)⟩, ?_, fun i hi => absurd hi (Nat.not_lt_zero i), fun i j hi => absurd hi (Nat.not_lt_zero i), fun o ho => ⟨⟨fun z => absurd rfl z, fun z => absurd z (nv s o)⟩, Nat.zero_le _, fun z => absurd z (nv s o), fun z => absurd rfl z⟩⟩, by rw [M0_vc, M0_mk]⟩⟩
  show 0 = mcnt (M0 2) (s_vc M0 s)
  unfold mcnt
  have : msum (fun o => if o % 6 < s_vc M0 s (o / 6) ∧ M0 2 o ≠ 0 then 1 else 0) 18 ≤ 0 * 18 := msum_bound (fun i _ => by rw [if_neg (fun z => by have := z.1; rw [M0_vc] at this; omega)]; exact Nat.le_refl _)
  omega
theorem SIM0 {S : Nat} (hS : S = 2 ∨ S = 3) : SIM S M0 Z0 := by
  have nm : ∀ o, ¬ mh (s_mk M0) o := fun o h => by
    unfold mh at h
    rw [M0_mk] at h
    omega
  refine ⟨fun o ho => ⟨⟨fun z => absurd rfl z, fun z => absurd z (nm o)⟩, fun z => absurd z (nm o)⟩, fun j hj => absurd rfl hj, fun o ho hz => absurd rfl hz, fun s hs => ⟨⟨⟨rfl, Nat.zero_le _, fun i hi => absurd hi (Nat.not_lt_zero i)⟩, ?_, fun o ho => ⟨fun _ => rfl, rfl⟩⟩, ?_, ?_⟩⟩
  · show 0 = evv (s_vc M0 s)
    unfold evv
    rw [M0_vc, M0_vc, M0_vc]
  · show 0 = 0 + s_wt M0 s 18
    unfold s_wt
    have : msum (fun o => if M0 6 (18 * s + o) ≠ 0 ∧ M0 7 (18 * s + o) = 0 then 1 else 0) 18 ≤ 0 * 18 := msum_bound (fun i _ => by rw [if_neg (fun z => z.1 rfl)]; exact Nat.le_refl _)
    omega
  · show 0 + s_left M0 s ≤ 18
    have := s_left_18 M0 s
    omega
theorem SIM.e12 {S : Nat} {σ σ' ρ : rS} (h : SIM S σ ρ) (e : E12 σ σ') : SIM S σ' ρ := by
  obtain ⟨hO, hM, h41, hc⟩ := h
  refine ⟨fun o ho => ?_, fun j hj => ?_, fun o ho hz => ?_, fun s hs => ?_⟩
  · rw [e.mk, e.cx, e 3 (by decide) (by decide), e 4 (by decide) (by decide)]
    exact hO o ho
  · obtain ⟨x, v, a, b, c⟩ := hM j hj
    refine ⟨x, v, ?_, b, by rw [e.pl]; exact c⟩
    unfold PV
    rw [e.mk, e.cx]
    exact a
  · rw [e.mk]
    exact h41 o ho hz
  · unfold CP0 ROW CNT s_wt s_left
    rw [e.vc, e 10 (by decide) (by decide), e 11 (by decide) (by decide), e 12 (by decide) (by decide), e 4 (by decide) (by decide), e 6 (by decide) (by decide), e 7 (by decide) (by decide)]
    exact hc s hs
theorem s_of {S s s' : Nat} {x : Int32} (hS : S ≤ 3) (h : x = nI s) (hs : s < S) (h' : x = nI s') (hs' : s' < S) : s = s' := nI_inj (h.symm.trans h') (by omega) (by omega)
theorem SpIns_eq {S : Nat} {σ σs σs' : rS} {x i c r r' : Int32} (hInv : INV S σ) (h : SpIns S σ x i c r σs) (h' : SpIns S σ x i c r' σs') : r = r' ∧ σs = σs' := by
  have hS3 := hInv.S3
  rcases h with ⟨s, i1, c1, k, a, b, d, e⟩ | ⟨a, b, d⟩ <;> rcases h' with ⟨s', i1', c1', k', a', b', d', e'⟩ | ⟨a', b', d'⟩
  · have e1 := s_of hS3 a.1 a.2.1 a'.1 a'.2.1
    subst e1
    have h1 := s_vis_le (σ := σ) (s := s) (i := σ 10 s)
    have h2 := hInv.c18 s a.2.1
    have q1 := a.2.2.2.1
    have q2 := a'.2.2.2.1
    have e2 := nI_inj (a.2.2.1.symm.trans a'.2.2.1) (by omega) (by omega)
    subst e2
    have q3 := a.2.2.2.2.2.2.1
    have q4 := a'.2.2.2.2.2.2.1
    have e3 := nI_inj (a.2.2.2.2.1.symm.trans a'.2.2.2.2.1) (by omega) (by omega)
    subst e3
    have e4 := CO_eq b b'
    subst e4
    exact ⟨d.trans d'.symm, e.trans e'.symm⟩
  · exact absurd ⟨s, i1, c1, a⟩ a'
  · exact absurd ⟨s', i1', c1', a'⟩ a
  · exact ⟨b.trans b'.symm, d.trans d'.symm⟩
theorem SpEra_eq {S : Nat} {σ σs σs' : rS} {x i r r' : Int32} (hInv : INV S σ) (h : SpEra S σ x i r σs) (h' : SpEra S σ x i r' σs') : r = r' ∧ σs = σs' := by
  have hS3 := hInv.S3
  rcases h with ⟨s, i1, k, a, b, d, e⟩ | ⟨a, b, d⟩ <;> rcases h' with ⟨s', i1', k', a', b', d', e'⟩ | ⟨a', b', d'⟩
  · have e1 := s_of hS3 a.1 a.2.1 a'.1 a'.2.1
    subst e1
    have h1 := s_vis_le (σ := σ) (s := s) (i := σ 10 s)
    have h2 := hInv.c18 s a.2.1
    have q1 := a.2.2.2.1
    have q2 := a'.2.2.2.1
    have e2 := nI_inj (a.2.2.1.symm.trans a'.2.2.1) (by omega) (by omega)
    subst e2
    have e4 := CO_eq b b'
    subst e4
    exact ⟨d.trans d'.symm, e.trans e'.symm⟩
  · exact absurd ⟨s, i1, a⟩ a'
  · exact absurd ⟨s', i1', a'⟩ a
  · exact ⟨b.trans b'.symm, d.trans d'.symm⟩
theorem MD_eq {S : Nat} {σ : rS} {x y : Int32} {s k s' k' : Nat} (hInv : INV S σ) (h : MD S σ x y s k) (h' : MD S σ x y s' k') : s = s' ∧ k = k' := by
  have hS3 := hInv.S3
  have e := MO.eq hInv (h.mo hInv) (h'.mo hInv)
  have e1 := s_of hS3 h.1 h.2.1 h'.1 h'.2.1
  subst e1
  exact ⟨rfl, by omega⟩
theorem SpDl_eq {S : Nat} {σ σs σs' : rS} {t f y r r' : Int32} (hInv : INV S σ) (h : SpDl S σ t f y r σs) (h' : SpDl S σ t f y r' σs') : r = r' ∧ σs = σs' := by
  have hS3 := hInv.S3
  rcases h with ⟨s, s1, k, n, a, b, d⟩ | ⟨a, b, d⟩ <;> rcases h' with ⟨s', s1', k', n', a', b', d'⟩ | ⟨a', b', d'⟩
  · have e1 := s_of hS3 a.1 a.2.1 a'.1 a'.2.1
    subst e1
    obtain ⟨e2, e3⟩ := MD_eq hInv a.2.2.1 a'.2.2.1
    subst e2
    subst e3
    obtain ⟨e4, e5⟩ := WK_eq b b'
    subst e4
    exact ⟨d.trans d'.symm, e5⟩
  · exact absurd ⟨s, s1, k, a⟩ a'
  · exact absurd ⟨s', s1', k', a'⟩ a
  · exact ⟨b.trans b'.symm, d.trans d'.symm⟩
theorem SpAr_eq {S : Nat} {σ σs σs' : rS} {t r r' : Int32} {c : Int64} (hInv : INV S σ) (h : SpAr S σ t c r σs) (h' : SpAr S σ t c r' σs') : r = r' ∧ σs = σs' := by
  rcases h with ⟨o, a, b⟩ | ⟨a, b, d⟩ <;> rcases h' with ⟨o', a', b'⟩ | ⟨a', b', d'⟩
  · have k1 := cd_key hInv a.2.1
    have k2 := cd_key hInv a'.2.1
    rw [← a.2.2] at k1
    rw [← a'.2.2] at k2
    have e1 := nI_inj (k1.1.symm.trans k2.1) (by omega) (by omega)
    have e2 := nI_inj (k1.2.symm.trans k2.2) (by omega) (by omega)
    rw [e1, e2] at b
    exact SpDl_eq hInv b b'
  · exact absurd ⟨o, a⟩ a'
  · exact absurd ⟨o', a'⟩ a
  · exact ⟨b.trans b'.symm, d.trans d'.symm⟩
theorem SpSy_eq {S : Nat} {σ σs σs' : rS} {t f r r' : Int32} (hInv : INV S σ) (h : SpSy S σ t f r σs) (h' : SpSy S σ t f r' σs') : r = r' ∧ σs = σs' := by
  have hS3 := hInv.S3
  rcases h with ⟨s, s1, n, a, b, d⟩ | ⟨a, b, d⟩ <;> rcases h' with ⟨s', s1', n', a', b', d'⟩ | ⟨a', b', d'⟩
  · have e1 := s_of hS3 a.1 a.2.1 a'.1 a'.2.1
    have e2 := s_of hS3 a.2.2.1 a.2.2.2.1 a'.2.2.1 a'.2.2.2.1
    subst e1
    subst e2
    obtain ⟨e4, e5⟩ := SYR_eq b b'
    subst e4
    exact ⟨d.trans d'.symm, e5⟩
  · exact absurd ⟨s, s1, a⟩ a'
  · exact absurd ⟨s', s1', a'⟩ a
  · exact ⟨b.trans b'.symm, d.trans d'.symm⟩
theorem SpCd_eq {S : Nat} {σ : rS} {x y : Int32} {r r' : Int64} (hInv : INV S σ) (h : SpCd S σ x y r) (h' : SpCd S σ x y r') : r = r' := by
  rcases h with ⟨s, k, a, b⟩ | ⟨a, b⟩ <;> rcases h' with ⟨s', k', a', b'⟩ | ⟨a', b'⟩
  · obtain ⟨e2, e3⟩ := MD_eq hInv a a'
    subst e2
    subst e3
    exact b.trans b'.symm
  · exact absurd ⟨s, k, a⟩ a'
  · exact absurd ⟨s', k', a'⟩ a
  · exact b.trans b'.symm
theorem SpPl_eq {S : Nat} {σ : rS} {x y z r r' : Int32} (hInv : INV S σ) (h : SpPl S σ x y z r) (h' : SpPl S σ x y z r') : r = r' := by
  have hS3 := hInv.S3
  rcases h with ⟨s, t, k, a, a1, a2, b⟩ | ⟨a, b⟩ <;> rcases h' with ⟨s', t', k', a', a1', a2', b'⟩ | ⟨a', b'⟩
  · have e1 := s_of hS3 a a1 a' a1'
    obtain ⟨e2, e3⟩ := MD_eq hInv a2 a2'
    subst e1
    subst e2
    subst e3
    exact b.trans b'.symm
  · exact absurd ⟨s, t, k, a, a1, a2⟩ a'
  · exact absurd ⟨s', t', k', a', a1', a2'⟩ a
  · exact b.trans b'.symm
theorem SpAt_eq {S : Nat} {σ : rS} {x i r r' : Int32} (hInv : INV S σ) (h : SpAt S σ x i r) (h' : SpAt S σ x i r') : r = r' := by
  have hS3 := hInv.S3
  rcases h with ⟨s, i1, k, a, b, d⟩ | ⟨a, b⟩ <;> rcases h' with ⟨s', i1', k', a', b', d'⟩ | ⟨a', b'⟩
  · have e1 := s_of hS3 a.1 a.2.1 a'.1 a'.2.1
    subst e1
    have h1 := s_vis_le (σ := σ) (s := s) (i := σ 10 s)
    have h2 := hInv.c18 s a.2.1
    have q1 := a.2.2.2
    have q2 := a'.2.2.2
    have e2 := nI_inj (a.2.2.1.symm.trans a'.2.2.1) (by omega) (by omega)
    subst e2
    have e4 := CO_eq b b'
    subst e4
    exact d.trans d'.symm
  · exact absurd ⟨s, i1, a⟩ a'
  · exact absurd ⟨s', i1', a'⟩ a
  · exact b.trans b'.symm
theorem SpCe_eq {S : Nat} {σ : rS} {x i r r' : Int32} (hInv : INV S σ) (h : SpCe S σ x i r) (h' : SpCe S σ x i r') : r = r' := by
  have hS3 := hInv.S3
  rcases h with ⟨s, i1, a, b⟩ | ⟨a, b⟩ <;> rcases h' with ⟨s', i1', a', b'⟩ | ⟨a', b'⟩
  · have e1 := s_of hS3 a.1 a.2.1 a'.1 a'.2.1
    subst e1
    have h2 := hInv.c18 s a.2.1
    have q1 := a.2.2.2
    have q2 := a'.2.2.2
    have e2 := nI_inj (a.2.2.1.symm.trans a'.2.2.1) (by omega) (by omega)
    subst e2
    exact b.trans b'.symm
  · exact absurd ⟨s, i1, a⟩ a'
  · exact absurd ⟨s', i1', a'⟩ a
  · exact b.trans b'.symm
/-- the law's world at the head of its loop -/
def LV (S : Nat) (σ ρ : rS) (a0 a2 : Nat) (ad : Nat → Nat) (w : gW) : Prop := INV S σ ∧ SIM S σ ρ ∧ CW S ρ ad w ad w ∧ RX S σ ad w ad w ∧ ad 0 = a0 ∧ ad 200 = a2
theorem sw_T {S : Nat} {σ ρ' : rS} {ad ad1 ad2 : Nat → Nat} {w w2 : gW} (hA : AE ad ad1) (h : CW S ρ' ad1 w ad2 w2) (hR : RX S σ ad w ad w) : ad2 = ad1 ∧ CW S ρ' ad1 w2 ad1 w2 ∧ RX S σ ad1 w2 ad1 w2 := by
  obtain ⟨a, b, c, d, e⟩ := h
  subst a
  refine ⟨rfl, ⟨rfl, fun _ _ => rfl, c, d, e⟩, rfl, fun _ _ => rfl, ?_, fun k h1 h2 => ?_, hR.2.2.2.2⟩
  · rw [b 200 (Nat.le_refl _), hR.2.2.1]
    unfold r_fs
    rw [hA 201 (by omega), hA 202 (by omega), hA 203 (by omega), hA 204 (by omega), hA 205 (by omega), hA 206 (by omega), hA 207 (by omega), hA 208 (by omega), hA 209 (by omega), hA 210 (by omega), hA 211 (by omega), hA 212 (by omega), hA 213 (by omega), hA 214 (by omega)]
  · rw [b (200 + k) (by omega)]
    exact hR.2.2.2.1 k h1 h2
theorem cw_at.kept {S : Nat} {ρ : rS} {ad : Nat → Nat} {w w2 : gW} (hS : S ≤ 3) (h : cw_at S ρ ad w) (hk : ∀ q, q < 200 → w2 q = w q) : cw_at S ρ ad w2 := by
  obtain ⟨c0, c1, c2, c3, c4, c5, c6⟩ := h
  refine ⟨by rw [hk 0 (by omega)]; exact c0, by rw [hk 1 (by omega)]; exact c1, by rw [hk 2 (by omega)]; exact c2, by rw [hk 3 (by omega)]; exact c3, by rw [hk 4 (by omega)]; exact c4, fun s hs => ?_, fun o ho => ?_⟩
  · rw [hk (10 + 4 * s) (by omega), hk (11 + 4 * s) (by omega), hk (12 + 4 * s) (by omega), hk (13 + 4 * s) (by omega)]
    exact c5 s hs
  · rw [hk (100 + o) (by omega)]
    exact c6 o ho
theorem sw_M {S : Nat} {σ' ρ : rS} {ad ad2 : Nat → Nat} {w w2 : gW} (h : RX S σ' ad w ad2 w2) (hC : CW S ρ ad w ad w) : ad2 = ad ∧ CW S ρ ad w2 ad w2 ∧ RX S σ' ad w2 ad w2 := by
  obtain ⟨a, b, c, d, e⟩ := h
  subst a
  have hS := hC.2.2.2.2
  exact ⟨rfl, ⟨rfl, fun _ _ => rfl, hC.2.2.1.kept (by omega) b, hC.2.2.2⟩, rfl, fun _ _ => rfl, c, d, e⟩
theorem nI_add4 (a : Nat) : nI a + Int32.ofInt 4 = nI (a + 4) := by
  rw [show Int32.ofInt 4 = nI 4 by decide +kernel]
  exact nI_add a 4
theorem and15 (x : Int32) : ∃ n, n < 16 ∧ x &&& nI 15 = nI n := by
  have h : (x &&& nI 15).toBitVec.toNat < 16 := by
    rw [Int32.toBitVec_and, BitVec.toNat_and]
    exact Nat.lt_of_le_of_lt Nat.and_le_right (by decide)
  refine ⟨_, h, ?_⟩
  apply Int32.toBitVec_inj.mp
  apply BitVec.eq_of_toNat_eq
  show _ = (BitVec.ofNat 32 _).toNat
  rw [BitVec.toNat_ofNat, Nat.mod_eq_of_lt (by omega)]
theorem len4 {L i : Nat} (hL : L ≤ 2049) (hi : i ≤ 3000) : (nI L - nI 4 < nI i) ↔ L < i + 4 := by
  rw [Int32.lt_iff_toInt_lt, Int32.toInt_sub, nI_toInt (by omega), nI_toInt (by omega), nI_toInt (by omega), Int.bmod_eq_of_le (by omega) (by omega)]
  omega
theorem cw_at0 {S : Nat} {ad ad2 : Nat → Nat} {w w2 : gW} (hS : S ≤ 3) (h : cw_at S Z0 ad w) (hk : ∀ q, q < 200 → w2 q = w q) (ha : ∀ q, q < 200 → ad2 q = ad q) : cw_at S Z0 ad2 w2 := by
  obtain ⟨c0, c1, c2, c3, c4, c5, c6⟩ := h
  refine ⟨by rw [hk 0 (by omega), ha 1 (by omega), ha 4 (by omega)]; exact c0, by rw [hk 1 (by omega), ha 2 (by omega), ha 3 (by omega)]; exact c1, by rw [hk 2 (by omega)]; exact c2, by rw [hk 3 (by omega)]; exact c3, ?_, fun s hs => ?_, fun o ho => ?_⟩
  · rw [hk 4 (by omega), c4]
    unfold cw_cps
    congr 8
    funext s
    by_cases q : s < S
    · rw [if_pos q, if_pos q, ha (10 + 4 * s) (by omega)]
    · rw [if_neg q, if_neg q]
  · rw [hk (10 + 4 * s) (by omega), hk (11 + 4 * s) (by omega), hk (12 + 4 * s) (by omega), hk (13 + 4 * s) (by omega)]
    have := c5 s hs
    unfold cw_cp at this ⊢
    rw [ha (11 + 4 * s) (by omega), ha (12 + 4 * s) (by omega), ha (13 + 4 * s) (by omega)]
    exact this
  · rw [hk (100 + o) (by omega)]
    exact c6 o ho
