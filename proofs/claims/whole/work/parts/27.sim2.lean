/-! an operation is made -/
def nwR (ρ : rS) (o : Nat) : rS := fun k j => if k = 41 ∧ j = o then 1 else if k = 60 + o then 0 else ρ k j
def adR (ρ : rS) (o a n c p v : Nat) : rS := u2 (opR (nwR ρ o) o a n c p v) 40 o 1
theorem nwR_ne {ρ : rS} {o k : Nat} (h1 : k ≠ 41) (h2 : k ≠ 60 + o) : nwR ρ o k = ρ k := by
  funext j
  unfold nwR
  rw [if_neg (fun z => h1 z.1), if_neg h2]
theorem nwR_41 {ρ : rS} {o j : Nat} (ho : o < 18) : nwR ρ o 41 j = if j = o then 1 else ρ 41 j := by
  unfold nwR
  by_cases h : j = o
  · rw [if_pos ⟨rfl, h⟩, if_pos h]
  · rw [if_neg (fun z => h z.2), if_neg (by omega), if_neg h]
theorem opR_ne {ρ : rS} {o a n c p v k : Nat} (h : k ≠ 60 + o) : opR ρ o a n c p v k = ρ k := by
  unfold opR
  rw [u2_ne h, u2_ne h, u2_ne h, u2_ne h, u2_ne h]
theorem opR_o {ρ : rS} {o a n c p v : Nat} : opR ρ o a n c p v (60 + o) 3 = a ∧ opR ρ o a n c p v (60 + o) 4 = n ∧ opR ρ o a n c p v (60 + o) 0 = c ∧ opR ρ o a n c p v (60 + o) 1 = p ∧ opR ρ o a n c p v (60 + o) 2 = v := by
  unfold opR
  simp only [u2_in]
  simp
theorem adR_ne {ρ : rS} {o a n c p v k : Nat} (h0 : k ≠ 40) (h1 : k ≠ 41) (h2 : k ≠ 60 + o) : adR ρ o a n c p v k = ρ k := by
  unfold adR
  rw [u2_ne h0, opR_ne h2, nwR_ne h1 h2]
theorem adR_40 {ρ : rS} {o a n c p v j : Nat} (ho : o < 18) : adR ρ o a n c p v 40 j = if j = o then 1 else ρ 40 j := by
  unfold adR
  rw [u2_in, opR_ne (by omega), nwR_ne (by omega) (by omega)]
theorem adR_41 {ρ : rS} {o a n c p v j : Nat} (ho : o < 18) : adR ρ o a n c p v 41 j = if j = o then 1 else ρ 41 j := by
  unfold adR
  rw [u2_ne (by omega), opR_ne (by omega), nwR_41 ho]
theorem adR_o {ρ : rS} {o a n c p v : Nat} (ho : o < 18) : adR ρ o a n c p v (60 + o) 3 = a ∧ adR ρ o a n c p v (60 + o) 4 = n ∧ adR ρ o a n c p v (60 + o) 0 = c ∧ adR ρ o a n c p v (60 + o) 1 = p ∧ adR ρ o a n c p v (60 + o) 2 = v := by
  unfold adR
  rw [u2_ne (by omega)]
  exact opR_o
theorem SIM.mk {S : Nat} {σ ρ : rS} {s b p c : Nat} (h : SIM S σ ρ) (hInv : INV S σ) (hs : s < S) (h6 : σ 1 s < 6) (hb : b = 0 ∧ c = 0 ∧ p < σ 10 s ∨ b = 1 ∧ 1 ≤ c ∧ c ≤ 255 ∧ p ≤ σ 10 s) : SIM S (mkS σ s b p c) (exR (adR ρ (6 * s + σ 1 s) s (σ 1 s) c p (evv (s_vc σ s))) s (6 * s + σ 1 s) p (evv (mu (s_vc σ s) s))) := by
  obtain ⟨hO, hM, h41, hc⟩ := h
  have hS3 := hInv.S3
  obtain ⟨hI2, hR, hpl, hIH1, hIW1⟩ := mkS_INV hInv hs h6 hb
  have hmks : s_mk σ s = σ 1 s := by unfold s_mk; rw [if_pos (by omega)]
  have od : (6 * s + σ 1 s) / 6 = s ∧ (6 * s + σ 1 s) % 6 = σ 1 s := by omega
  have ho : 6 * s + σ 1 s < 18 := by omega
  have hne : ∀ o', mh (s_mk σ) o' → o' ≠ 6 * s + σ 1 s := by
    intro o' ho' e
    subst e
    unfold mh at ho'
    rw [od.1, od.2, hmks] at ho'
    omega
  have hnv : ∀ v : Nat → Nat, (∀ t, v t ≤ s_mk σ t) → ∀ o', mh v o' → o' ≠ 6 * s + σ 1 s := fun v hv o' ho' => hne o' (Nat.lt_of_lt_of_le ho' (hv _))
  have hmu : ∀ o', mh (mu (s_mk σ) s) o' ↔ mh (s_mk σ) o' ∨ o' = 6 * s + σ 1 s := by
    intro o'
    constructor
    · intro q
      rcases mh_mu (by rw [hmks]; exact h6) q with q | q
      · exact Or.inl q
      · rw [hmks] at q
        exact Or.inr q
    · rintro (q | q)
      · exact mh_mu_of q
      · subst q
        unfold mh
        rw [od.1, od.2, mu_self, hmks]
        omega
  have hle : ∀ t, s_mk σ t ≤ mu (s_mk σ) s t := fun t => by
    unfold mu
    split <;> omega
  have hnot : ∀ s', s' < S → ¬ mh (s_vc σ s') (6 * s + σ 1 s) := fun s' hs' z => hnv _ (hInv.2 s' hs').1.1.1 _ z rfl
  have h7 : ∀ s', s' < S → σ 7 (18 * s' + (6 * s + σ 1 s)) = 0 := by
    intro s' hs'
    apply Classical.byContradiction
    intro z
    exact hnot s' hs' (((hInv.2 s' hs').1.2.2.2.2 _ ho).1.mp z)
  have h66 : σ 6 (18 * s + (6 * s + σ 1 s)) = 0 := by
    apply Classical.byContradiction
    intro z
    exact hne _ (((hInv.2 s hs).1.2.2.2.2 _ ho).2.2.2 z) rfl
  unfold mkS
  rw [show mu (s_vc σ s) s = mu (s_vc (adS σ s b p c) s) ((6 * s + σ 1 s) / 6) by rw [od.1, adS_vc]]
  generalize hσ1 : adS σ s b p c = σ1 at *
  generalize hρ1 : adR ρ (6 * s + σ 1 s) s (σ 1 s) c p (evv (s_vc σ s)) = ρ1
  have e2 : ∀ o', o' ≠ 6 * s + σ 1 s → σ1 2 o' = σ 2 o' := fun o' q => by rw [← hσ1, adS_2, if_neg q]
  have e3 : ∀ o', o' ≠ 6 * s + σ 1 s → σ1 3 o' = σ 3 o' := fun o' q => by rw [← hσ1, adS_3, if_neg q]
  have e4 : ∀ o', o' ≠ 6 * s + σ 1 s → σ1 4 o' = σ 4 o' := fun o' q => by rw [← hσ1, adS_4, if_neg q]
  have n2 : σ1 2 (6 * s + σ 1 s) = b := by rw [← hσ1, adS_2, if_pos rfl]
  have n3 : σ1 3 (6 * s + σ 1 s) = p := by rw [← hσ1, adS_3, if_pos rfl]
  have n4 : σ1 4 (6 * s + σ 1 s) = c := by rw [← hσ1, adS_4, if_pos rfl]
  have ecx : ∀ o', o' ≠ 6 * s + σ 1 s → s_cx σ1 o' = s_cx σ o' := fun o' q => by rw [← hσ1, adS_cx]; exact if_neg q
  have ncx : s_cx σ1 (6 * s + σ 1 s) = s_vc σ s := by rw [← hσ1, adS_cx]; exact if_pos rfl
  have emk : s_mk σ1 = mu (s_mk σ) s := by rw [← hσ1]; exact adS_mk (by omega)
  have evc : s_vc σ1 = s_vc σ := by rw [← hσ1]; exact adS_vc
  have ehi : ∀ k, k = 7 ∨ k = 8 ∨ 9 < k ∨ k = 0 → σ1 k = σ k := fun k q => by rw [← hσ1]; exact adS_hi q
  have e6 : ∀ j, σ1 6 j = if j = 18 * s + (6 * s + σ 1 s) then 1 else σ 6 j := fun j => by rw [← hσ1]; exact adS_6
  have r0 : ∀ k, k ≠ 40 → k ≠ 41 → k ≠ 60 + (6 * s + σ 1 s) → ρ1 k = ρ k := fun k a1 a2 a3 => by rw [← hρ1]; exact adR_ne a1 a2 a3
  have r40 : ∀ j, ρ1 40 j = if j = 6 * s + σ 1 s then 1 else ρ 40 j := fun j => by rw [← hρ1]; exact adR_40 ho
  have r41 : ∀ j, ρ1 41 j = if j = 6 * s + σ 1 s then 1 else ρ 41 j := fun j => by rw [← hρ1]; exact adR_41 ho
  have ro := adR_o (ρ := ρ) (a := s) (n := σ 1 s) (c := c) (p := p) (v := evv (s_vc σ s)) ho
  rw [hρ1] at ro
  have hO1 : OPS S σ1 ρ1 := by
    intro o' ho'
    rw [r40, r41, emk]
    by_cases q : o' = 6 * s + σ 1 s
    · rw [if_pos q, if_pos q, q]
      refine ⟨⟨fun _ => (hmu _).mpr (Or.inr rfl), fun _ => by decide⟩, fun _ => ⟨by decide, ?_, ?_, ?_, ?_, ?_⟩⟩
      · rw [ro.1, od.1]
      · rw [ro.2.1, od.2]
      · rw [ro.2.2.1, n4]
      · rw [ro.2.2.2.1, n3]
      · rw [ro.2.2.2.2, ncx]
    · rw [if_neg q, if_neg q, r0 (60 + o') (by omega) (by omega) (by omega), e3 o' q, e4 o' q, ecx o' q]
      obtain ⟨a, d⟩ := hO o' ho'
      refine ⟨⟨fun z => (hmu _).mpr (Or.inl (a.mp z)), fun z => ?_⟩, fun z => ?_⟩
      · rcases (hmu _).mp z with z | z
        · exact a.mpr z
        · exact absurd z q
      · rcases (hmu _).mp z with z | z
        · exact d z
        · exact absurd z q
  have hM1 : MEM S σ1 ρ1 := by
    intro j hj
    rw [r0 50 (by omega) (by omega) (by omega)] at hj ⊢
    obtain ⟨x, v, ⟨a1, a2, a3⟩, d, f⟩ := hM j hj
    have hx := hne x a1
    refine ⟨x, v, ⟨by rw [emk]; exact mh_mu_of a1, ⟨fun t => by rw [emk]; exact Nat.le_trans (a2.1 t) (hle t), fun o' ho' t => by rw [ecx o' (hnv _ a2.1 o' ho')]; exact a2.2 o' ho' t⟩, by rw [emk]; exact mh_mu_of a1, a3.2.1, fun t => by rw [ecx x hx]; exact a3.2.2 t⟩, d, ?_⟩
    have : s_pl σ1 x v = s_pl σ x v := by
      unfold s_pl
      exact mplace_congr (fun t => a2.le6 hInv.1.2.2.1 t) ⟨e2 x hx, e3 x hx, ecx x hx⟩ (fun o' ho' => ⟨e2 o' (hnv _ a2.1 o' ho'), e3 o' (hnv _ a2.1 o' ho'), ecx o' (hnv _ a2.1 o' ho')⟩)
    rw [this]
    exact f
  have hC1 : ∀ s', s' < S → CP0 σ1 ρ1 s' := by
    intro s' hs'
    obtain ⟨⟨a1, a2, a3⟩, d, f⟩ := (hc s' hs').1
    unfold CP0 ROW
    rw [r0 (10 * s') (by omega) (by omega) (by omega), r0 (10 * s' + 1) (by omega) (by omega) (by omega), r0 (10 * s' + 2) (by omega) (by omega) (by omega), r0 (10 * s' + 3) (by omega) (by omega) (by omega), evc, ehi 10 (by omega), ehi 11 (by omega), ehi 12 (by omega), ehi 7 (by omega)]
    refine ⟨⟨a1, a2, fun i hi => ?_⟩, d, fun o' ho' => ⟨fun z => ?_, (f o' ho').2⟩⟩
    · rw [e4 _ (hnv _ (hInv.2 s' hs').1.1.1 _ ((hInv.2 s' hs').1.2.2.1 i hi).2.1)]
      exact a3 i hi
    · rw [e6, if_neg (by omega)]
      exact (f o' ho').1 z
  have hleft : ∀ s', s_left σ1 s' = s_left σ s' := by
    intro s'
    unfold s_left
    rw [ehi 7 (by omega)]
  obtain ⟨hp, h18⟩ := hR.in hIH1 hIW1
  rw [evc, hpl] at hp
  have h18' : σ1 10 s ≤ 18 := by
    rw [ehi 10 (by omega)]
    exact (hc s hs).1.1.2.1
  have hch : ρ1 (60 + (6 * s + σ 1 s)) 0 = σ1 4 (6 * s + σ 1 s) := by rw [ro.2.2.1, n4]
  have hch0 : σ1 4 (6 * s + σ 1 s) = 0 ↔ σ1 2 (6 * s + σ 1 s) = 0 := by
    rw [n2, n4]
    omega
  refine ⟨OPS_ex hs hS3 hO1, MEM_ex hs hS3 hM1, fun o' ho' h => ?_, fun s' hs' => ?_⟩
  · rw [exR_ne (k := 41) (by omega) (by omega) (by omega), r41] at h
    rw [exS_mk, emk]
    by_cases q : o' = 6 * s + σ 1 s
    · exact (hmu _).mpr (Or.inr q)
    · rw [if_neg q] at h
      exact (hmu _).mpr (Or.inl (h41 o' ho' h))
  · by_cases e : s' = s
    · subst e
      refine ⟨(hC1 s' hs').ex ho hch hch0 hp h18, ?_⟩
      obtain ⟨a, d⟩ := (hc s' hs').2
      have h71 : σ1 7 (18 * s' + (6 * s' + σ 1 s')) = 0 := by rw [ehi 7 (by omega)]; exact h7 s' hs'
      have e1 := s_wt_ex (p := p) ho h71 hR.2.2.2
      have e2' := s_left_ex (p := p) ho h71
      rw [hleft] at e2'
      have e3' : s_wt σ1 s' 18 = s_wt σ s' 18 + 1 := by
        unfold s_wt
        rw [ehi 7 (by omega)]
        refine msum_one (a := 6 * s' + σ 1 s') ho (fun i hi hne => ?_) ?_
        · rw [e6, if_neg (c := 18 * s' + i = 18 * s' + (6 * s' + σ 1 s')) (by omega)]
        · rw [e6, if_pos (c := 18 * s' + (6 * s' + σ 1 s') = 18 * s' + (6 * s' + σ 1 s')) rfl, if_pos ⟨by decide, h7 s' hs'⟩, if_neg (by omega)]
      unfold CNT
      rw [exR_f2, exR_f3, if_pos od.1, r0 (10 * s') (by omega) (by omega) (by omega)]
      omega
    · refine ⟨(hC1 s' hs').ex_ne e ho hp h18 h18', ?_⟩
      have e3' : s_wt σ1 s' 18 = s_wt σ s' 18 := by
        unfold s_wt
        rw [ehi 7 (by omega)]
        refine msum_congr (fun i hi => ?_)
        rw [e6, if_neg (c := 18 * s' + i = 18 * s + (6 * s + σ 1 s)) (by omega)]
      unfold CNT
      rw [exR_ne (k := 10 * s') (by omega) (by omega) (by omega), s_wt_ne ho e, s_left_ne ho e, hleft, e3', r0 (10 * s') (by omega) (by omega) (by omega)]
      exact (hc s' hs').2
