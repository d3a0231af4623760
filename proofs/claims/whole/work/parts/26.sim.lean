/-! The class's state ρ against the reference's σ. -/
def CP0 (σ ρ : rS) (s : Nat) : Prop := ROW σ ρ s ∧ ρ (10 * s) 1 = evv (s_vc σ s) ∧ ∀ o, o < 18 → (o / 6 ≠ s → ρ (10 * s + 2) o = σ 6 (18 * s + o)) ∧ ρ (10 * s + 3) o = σ 7 (18 * s + o)
def CNT (σ ρ : rS) (s : Nat) : Prop := ρ (10 * s) 2 = ρ (10 * s) 3 + s_wt σ s 18 ∧ ρ (10 * s) 3 + s_left σ s ≤ 18
def SIM (S : Nat) (σ ρ : rS) : Prop := OPS S σ ρ ∧ MEM S σ ρ ∧ (∀ o, o < 18 → ρ 41 o ≠ 0 → mh (s_mk σ) o) ∧ ∀ s, s < S → CP0 σ ρ s ∧ CNT σ ρ s
theorem s_wt_18 (σ : rS) (s : Nat) : s_wt σ s 18 ≤ 18 := by
  unfold s_wt
  have := msum_bound (f := fun o => if σ 6 (18 * s + o) ≠ 0 ∧ σ 7 (18 * s + o) = 0 then 1 else 0) (c := 1) (n := 18) (fun i _ => by split <;> omega)
  omega
theorem CNT.lt {σ ρ : rS} {s : Nat} (h : CNT σ ρ s) : ρ (10 * s) 2 ≤ 36 ∧ ρ (10 * s) 3 ≤ 18 := by
  have := s_wt_18 σ s
  have := h.1
  have := h.2
  omega
/-! exR, cxR, place by place -/
theorem exR_ne {ρ : rS} {s o p x k : Nat} (h0 : k ≠ 10 * s) (h1 : k ≠ 10 * s + 1) (h3 : k ≠ 10 * s + 3) : exR ρ s o p x k = ρ k := by
  unfold exR
  split
  · rw [u2_ne h0, u2_ne h3, cxR_ne h1 h0]
  · rw [u2_ne h0, u2_ne h0, u2_ne h3, cxR_ne h1 h0]
theorem exR_3 {ρ : rS} {s o p x j : Nat} : exR ρ s o p x (10 * s + 3) j = if j = o then p + 1 else ρ (10 * s + 3) j := by
  unfold exR
  split
  · rw [u2_ne (by omega), u2_in, cxR_ne (by omega) (by omega)]
  · rw [u2_ne (by omega), u2_ne (by omega), u2_in, cxR_ne (by omega) (by omega)]
theorem exR_row {ρ : rS} {s o p x : Nat} : exR ρ s o p x (10 * s + 1) = cxR ρ s o p (10 * s + 1) := by
  unfold exR
  split
  · rw [u2_ne (by omega), u2_ne (by omega)]
  · rw [u2_ne (by omega), u2_ne (by omega), u2_ne (by omega)]
theorem exR_f0 {ρ : rS} {s o p x : Nat} : exR ρ s o p x (10 * s) 0 = cxR ρ s o p (10 * s) 0 := by
  unfold exR
  split
  · rw [u2_in, if_neg (by decide), u2_ne (by omega)]
  · rw [u2_in, if_neg (by decide), u2_in, if_neg (by decide), u2_ne (by omega)]
theorem exR_f1 {ρ : rS} {s o p x : Nat} : exR ρ s o p x (10 * s) 1 = x := by
  unfold exR
  split
  · rw [u2_in, if_pos rfl]
  · rw [u2_in, if_neg (by decide), u2_in, if_pos rfl]
theorem exR_f2 {ρ : rS} {s o p x : Nat} : exR ρ s o p x (10 * s) 2 = ρ (10 * s) 2 := by
  unfold exR
  split
  · rw [u2_in, if_neg (by decide), u2_ne (by omega), cxR_f (by decide)]
  · rw [u2_in, if_neg (by decide), u2_in, if_neg (by decide), u2_ne (by omega), cxR_f (by decide)]
theorem exR_f3 {ρ : rS} {s o p x : Nat} : exR ρ s o p x (10 * s) 3 = if o / 6 = s then ρ (10 * s) 3 else ρ (10 * s) 3 + 1 := by
  unfold exR
  by_cases h : o / 6 = s
  · rw [if_pos h, if_pos h, u2_in, if_neg (by decide), u2_ne (by omega), cxR_f (by decide)]
  · rw [if_neg h, if_neg h, u2_in, if_pos rfl]
theorem cxR_0 {ρ : rS} {s o p : Nat} : cxR ρ s o p (10 * s) 0 = if ρ (60 + o) 0 = 0 then ρ (10 * s) 0 else ρ (10 * s) 0 + 1 := by
  unfold cxR
  by_cases h : ρ (60 + o) 0 = 0
  · rw [if_pos h, if_pos h, u2_ne (by omega)]
  · rw [if_neg h, if_neg h]
    unfold pcR
    rw [u2_in, if_pos rfl]
theorem cxR_e {ρ : rS} {s o p j : Nat} (h : ρ (60 + o) 0 = 0) : cxR ρ s o p (10 * s + 1) j = if j = p then 2 * (ρ (10 * s + 1) p / 2) else ρ (10 * s + 1) j := by
  unfold cxR
  rw [if_pos h, u2_in]
theorem cxR_i {ρ : rS} {s o p j : Nat} (h : ρ (60 + o) 0 ≠ 0) : cxR ρ s o p (10 * s + 1) j = if j = p then 2 * ρ (60 + o) 0 + 1 else if p < j ∧ j ≤ ρ (10 * s) 0 then ρ (10 * s + 1) (j - 1) else ρ (10 * s + 1) j := by
  unfold cxR
  rw [if_neg h]
  unfold pcR
  rw [u2_ne (by omega), u2_in]
  by_cases q : j = p
  · rw [if_pos q, if_pos q]
  · rw [if_neg q, if_neg q]
    unfold shR
    by_cases z : p < j ∧ j ≤ ρ (10 * s) 0
    · rw [if_pos ⟨rfl, z⟩, if_pos z]
    · rw [if_neg (fun y => z y.2), if_neg z]
/-- a row of cells stays right, when the operation is executed there -/
theorem ROW.ex {σ ρ : rS} {s o p x : Nat} (h : ROW σ ρ s) (hc : ρ (60 + o) 0 = σ 4 o) (hch : σ 4 o = 0 ↔ σ 2 o = 0) (hp : p + (if σ 2 o = 0 then 1 else 0) ≤ σ 10 s) (h18 : σ 2 o ≠ 0 → σ 10 s < 18) : ROW (exS σ s o p) (exR ρ s o p x) s := by
  obtain ⟨a, b, c⟩ := h
  unfold ROW
  rw [exR_f0, cxR_0, exR_row, exS_10, exS_lo (k := 4) (by omega), hc]
  by_cases q : σ 2 o = 0
  · have q4 := hch.mpr q
    have hc0 : ρ (60 + o) 0 = 0 := hc.trans q4
    rw [if_pos q4, if_neg (fun z => z.1 q)]
    refine ⟨a, b, fun i hi => ?_⟩
    rw [if_pos q] at hp
    have e12 : exS σ s o p 12 (18 * s + i) = if i = p then 0 else σ 12 (18 * s + i) := by
      rw [exS_12, if_neg (c := σ 2 o ≠ 0) (fun z => z q)]
      by_cases z : i = p
      · rw [if_pos z, if_pos (by omega)]
      · rw [if_neg z, if_neg (by omega)]
    rw [exS_11, if_neg (fun z => z.1 q), e12, cxR_e hc0]
    obtain ⟨c1, c2⟩ := c i hi
    refine ⟨c1, ?_⟩
    by_cases z : i = p
    · rw [if_pos z, if_pos z, if_pos rfl, ← z, c2]
      split <;> omega
    · rw [if_neg z, if_neg z]
      exact c2
  · have q4 : ¬ σ 4 o = 0 := fun z => q (hch.mp z)
    have hc0 : ρ (60 + o) 0 ≠ 0 := fun z => q4 (hc.symm.trans z)
    have := h18 q
    rw [if_neg q] at hp
    rw [if_neg q4, if_pos ⟨q, rfl⟩]
    refine ⟨by omega, by omega, fun i hi => ?_⟩
    have e11 : exS σ s o p 11 (18 * s + i) = if i < p then σ 11 (18 * s + i) else if i = p then o else σ 11 (18 * s + (i - 1)) := by
      rw [exS_11]
      by_cases g1 : i < p
      · rw [if_pos g1, if_neg (by omega)]
      · rw [if_neg g1, if_pos (c := σ 2 o ≠ 0 ∧ 18 * s + p ≤ 18 * s + i ∧ 18 * s + i ≤ 18 * s + σ 10 s) ⟨q, by omega, by omega⟩]
        by_cases g2 : i = p
        · rw [if_pos g2, if_pos (by omega)]
        · rw [if_neg g2, if_neg (by omega), show 18 * s + i - 1 = 18 * s + (i - 1) by omega]
    have e12 : exS σ s o p 12 (18 * s + i) = if i < p then σ 12 (18 * s + i) else if i = p then 1 else σ 12 (18 * s + (i - 1)) := by
      rw [exS_12, if_pos (c := σ 2 o ≠ 0) q]
      by_cases g1 : i < p
      · rw [if_pos g1, if_neg (by omega)]
      · rw [if_neg g1, if_pos (c := 18 * s + p ≤ 18 * s + i ∧ 18 * s + i ≤ 18 * s + σ 10 s) ⟨by omega, by omega⟩]
        by_cases g2 : i = p
        · rw [if_pos g2, if_pos (by omega)]
        · rw [if_neg g2, if_neg (by omega), show 18 * s + i - 1 = 18 * s + (i - 1) by omega]
    have e1 : cxR ρ s o p (10 * s + 1) i = if i < p then ρ (10 * s + 1) i else if i = p then 2 * σ 4 o + 1 else ρ (10 * s + 1) (i - 1) := by
      rw [cxR_i hc0, hc]
      by_cases g1 : i < p
      · rw [if_pos g1, if_neg (by omega), if_neg (by omega)]
      · rw [if_neg g1]
        by_cases g2 : i = p
        · rw [if_pos g2, if_pos g2]
        · rw [if_neg g2, if_neg g2, if_pos (by omega)]
    rw [e11, e12, e1]
    by_cases g1 : i < p
    · rw [if_pos g1, if_pos g1, if_pos g1]
      exact c i (by omega)
    · rw [if_neg g1, if_neg g1, if_neg g1]
      by_cases g2 : i = p
      · rw [if_pos g2, if_pos g2, if_pos g2, if_neg (by decide)]
        exact ⟨by omega, rfl⟩
      · rw [if_neg g2, if_neg g2, if_neg g2]
        exact c (i - 1) (by omega)
theorem ROW.ex_ne {σ ρ : rS} {s s' o p x : Nat} (h : ROW σ ρ s') (hn : s' ≠ s) (hp : p + (if σ 2 o = 0 then 1 else 0) ≤ σ 10 s) (h18 : σ 2 o ≠ 0 → σ 10 s < 18) (h18' : σ 10 s ≤ 18) : ROW (exS σ s o p) (exR ρ s o p x) s' := by
  obtain ⟨a, b, c⟩ := h
  unfold ROW
  rw [exR_ne (k := 10 * s') (by omega) (by omega) (by omega), exR_ne (k := 10 * s' + 1) (by omega) (by omega) (by omega), exS_10, if_neg (fun z => hn z.2), exS_lo (k := 4) (by omega)]
  refine ⟨a, b, fun i hi => ?_⟩
  have e11 : exS σ s o p 11 (18 * s' + i) = σ 11 (18 * s' + i) := by
    rw [exS_11, if_neg]
    rintro ⟨z, z1, z2⟩
    have := h18 z
    omega
  have e12 : exS σ s o p 12 (18 * s' + i) = σ 12 (18 * s' + i) := by
    rw [exS_12]
    by_cases q : σ 2 o = 0
    · rw [if_neg (c := σ 2 o ≠ 0) (fun z => z q), if_neg]
      rw [if_pos q] at hp
      omega
    · have := h18 q
      rw [if_pos (c := σ 2 o ≠ 0) q, if_neg (by omega)]
  rw [e11, e12]
  exact c i hi
theorem CP0.ex {σ ρ : rS} {s o p : Nat} (h : CP0 σ ρ s) (ho : o < 18) (hc : ρ (60 + o) 0 = σ 4 o) (hch : σ 4 o = 0 ↔ σ 2 o = 0) (hp : p + (if σ 2 o = 0 then 1 else 0) ≤ σ 10 s) (h18 : σ 2 o ≠ 0 → σ 10 s < 18) : CP0 (exS σ s o p) (exR ρ s o p (evv (mu (s_vc σ s) (o / 6)))) s := by
  obtain ⟨a, b, c⟩ := h
  refine ⟨a.ex hc hch hp h18, ?_, fun o' ho' => ?_⟩
  · rw [exR_f1, exS_vc ho]
  · rw [exR_ne (k := 10 * s + 2) (by omega) (by omega) (by omega), exS_lo (k := 6) (by omega), exR_3, exS_7]
    refine ⟨(c o' ho').1, ?_⟩
    by_cases q : o' = o
    · rw [if_pos q, if_pos (by omega)]
    · rw [if_neg q, if_neg (by omega)]
      exact (c o' ho').2
theorem CP0.ex_ne {σ ρ : rS} {s s' o p x : Nat} (h : CP0 σ ρ s') (hn : s' ≠ s) (ho : o < 18) (hp : p + (if σ 2 o = 0 then 1 else 0) ≤ σ 10 s) (h18 : σ 2 o ≠ 0 → σ 10 s < 18) (h18' : σ 10 s ≤ 18) : CP0 (exS σ s o p) (exR ρ s o p x) s' := by
  obtain ⟨a, b, c⟩ := h
  refine ⟨a.ex_ne hn hp h18 h18', ?_, fun o' ho' => ?_⟩
  · rw [exR_ne (k := 10 * s') (by omega) (by omega) (by omega), exS_vc_ne ho hn]
    exact b
  · rw [exR_ne (k := 10 * s' + 2) (by omega) (by omega) (by omega), exR_ne (k := 10 * s' + 3) (by omega) (by omega) (by omega), exS_lo (k := 6) (by omega), exS_7, if_neg (by omega)]
    exact c o' ho'
theorem s_wt_ex {σ : rS} {s o p : Nat} (ho : o < 18) (h : σ 7 (18 * s + o) = 0) (h6 : σ 6 (18 * s + o) ≠ 0) : s_wt σ s 18 = s_wt (exS σ s o p) s 18 + 1 := by
  unfold s_wt
  refine msum_one (a := o) ho (fun i hi hne => ?_) ?_
  · rw [exS_7, exS_lo (k := 6) (by omega), if_neg (c := 18 * s + i = 18 * s + o) (by omega)]
  · rw [exS_7, if_pos ⟨h6, h⟩, if_pos (c := 18 * s + o = 18 * s + o) rfl, if_neg (by omega)]
theorem s_wt_ne {σ : rS} {s s' o p : Nat} (ho : o < 18) (hn : s' ≠ s) : s_wt (exS σ s o p) s' 18 = s_wt σ s' 18 := by
  unfold s_wt
  refine msum_congr (fun i hi => ?_)
  rw [exS_7, exS_lo (k := 6) (by omega), if_neg (c := 18 * s' + i = 18 * s + o) (by omega)]
theorem s_left_ne {σ : rS} {s s' o p : Nat} (ho : o < 18) (hn : s' ≠ s) : s_left (exS σ s o p) s' = s_left σ s' := by
  unfold s_left
  refine msum_congr (fun i hi => ?_)
  rw [exS_7, if_neg (c := 18 * s' + i = 18 * s + o) (by omega)]
theorem PV_ex {σ : rS} {s o p x : Nat} {v : Nat → Nat} : PV (exS σ s o p) x v ↔ PV σ x v := by
  unfold PV
  rw [exS_mk, exS_cx]
theorem MEM_ex {S : Nat} {σ ρ : rS} {s o p x : Nat} (hs : s < S) (hS : S ≤ 3) (h : MEM S σ ρ) : MEM S (exS σ s o p) (exR ρ s o p x) := by
  intro j hj
  rw [exR_ne (k := 50) (by omega) (by omega) (by omega)] at hj ⊢
  obtain ⟨y, v, a, b, c⟩ := h j hj
  exact ⟨y, v, PV_ex.mpr a, b, by rw [exS_pl]; exact c⟩
theorem OPS_ex {S : Nat} {σ ρ : rS} {s o p x : Nat} (hs : s < S) (hS : S ≤ 3) (h : OPS S σ ρ) : OPS S (exS σ s o p) (exR ρ s o p x) := by
  intro o' ho'
  rw [exR_ne (k := 40) (by omega) (by omega) (by omega), exR_ne (k := 41) (by omega) (by omega) (by omega), exR_ne (k := 60 + o') (by omega) (by omega) (by omega), exS_mk, exS_cx, exS_lo (k := 3) (by omega), exS_lo (k := 4) (by omega)]
  exact h o' ho'
/-- an operation of another site is executed -/
theorem SIM.ex {S : Nat} {σ ρ : rS} {s o : Nat} (h : SIM S σ ρ) (hInv : INV S σ) (hs : s < S) (hr : RDY σ s o) (hne : o / 6 ≠ s) : SIM S (exS σ s o (s_pl σ o (s_vc σ s))) (exR ρ s o (s_pl σ o (s_vc σ s)) (evv (mu (s_vc σ s) (o / 6)))) := by
  obtain ⟨hO, hM, h41, hc⟩ := h
  have hS3 := hInv.S3
  have ho := hInv.1.lt18 hr.1
  obtain ⟨hp, h18⟩ := hr.in hInv.1 (hInv.2 s hs).1
  have h18' : σ 10 s ≤ 18 := (hc s hs).1.1.2.1
  obtain ⟨-, -, -, -, hch, -, -⟩ := hO.al hInv hr.1
  have h7 : σ 7 (18 * s + o) = 0 := by
    apply Classical.byContradiction
    intro z
    have := ((hInv.2 s hs).1.2.2.2.2 o ho).1.mp z
    unfold mh at this
    rw [hr.2.1] at this
    omega
  refine ⟨OPS_ex hs hS3 hO, MEM_ex hs hS3 hM, fun o' ho' h => ?_, fun s' hs' => ?_⟩
  · rw [exR_ne (k := 41) (by omega) (by omega) (by omega)] at h
    rw [exS_mk]
    exact h41 o' ho' h
  · by_cases e : s' = s
    · subst e
      refine ⟨(hc s' hs').1.ex ho hch (hInv.chr hr.1) hp h18, ?_⟩
      obtain ⟨a, b⟩ := (hc s' hs').2
      have e1 := s_wt_ex (p := s_pl σ o (s_vc σ s')) ho h7 hr.2.2.2
      have e2 := s_left_ex (p := s_pl σ o (s_vc σ s')) ho h7
      unfold CNT
      rw [exR_f2, exR_f3, if_neg hne]
      omega
    · refine ⟨(hc s' hs').1.ex_ne e ho hp h18 h18', ?_⟩
      unfold CNT
      rw [exR_ne (k := 10 * s') (by omega) (by omega) (by omega), s_wt_ne ho e, s_left_ne ho e]
      exact (hc s' hs').2
/-- only the known places change -/
theorem SIM.kn {S : Nat} {σ ρ ρ' : rS} (h : SIM S σ ρ) (hk : KN ρ ρ') (hm : MEM S σ ρ') (hS : S ≤ 3) : SIM S σ ρ' := by
  obtain ⟨hO, -, h41, hc⟩ := h
  refine ⟨hk.ops hO, hm, fun o ho => ?_, fun s hs => ?_⟩
  · rw [hk 41 (by omega)]
    exact h41 o ho
  · unfold CP0 CNT ROW
    rw [hk (10 * s) (by omega), hk (10 * s + 1) (by omega), hk (10 * s + 2) (by omega), hk (10 * s + 3) (by omega)]
    exact hc s hs
/-- an operation arrives -/
def ntR (ρ : rS) (s o : Nat) : rS := u2 (u2 ρ (10 * s + 2) o 1) (10 * s) 2 (ρ (10 * s) 2 + 1)
theorem ntR_ne {ρ : rS} {s o k : Nat} (h0 : k ≠ 10 * s) (h2 : k ≠ 10 * s + 2) : ntR ρ s o k = ρ k := by
  unfold ntR
  rw [u2_ne h0, u2_ne h2]
theorem ntR_f {ρ : rS} {s o j : Nat} (h : j ≠ 2) : ntR ρ s o (10 * s) j = ρ (10 * s) j := by
  unfold ntR
  rw [u2_in, if_neg h, u2_ne (by omega)]
theorem ntR_2 {ρ : rS} {s o : Nat} : ntR ρ s o (10 * s) 2 = ρ (10 * s) 2 + 1 := by
  unfold ntR
  rw [u2_in, if_pos rfl]
theorem ntR_a {ρ : rS} {s o j : Nat} : ntR ρ s o (10 * s + 2) j = if j = o then 1 else ρ (10 * s + 2) j := by
  unfold ntR
  rw [u2_ne (by omega), u2_in]
theorem SIM.nt {S : Nat} {σ ρ : rS} {s o : Nat} (h : SIM S σ ρ) (hInv : INV S σ) (hs : s < S) (hm : mh (s_mk σ) o) (h6 : σ 6 (18 * s + o) = 0) : SIM S (arS σ s o) (ntR ρ s o) := by
  obtain ⟨hO, hM, h41, hc⟩ := h
  have hS3 := hInv.S3
  have ho := hInv.1.lt18 hm
  have h7 : σ 7 (18 * s + o) = 0 := by
    apply Classical.byContradiction
    intro z
    have a := (hInv.2 s hs).1.2.2.2.2 o ho
    exact a.2.2.1 (a.1.mp z) h6
  refine ⟨fun o' ho' => ?_, fun j hj => ?_, fun o' ho' h => ?_, fun s' hs' => ?_⟩
  · rw [ntR_ne (k := 40) (by omega) (by omega), ntR_ne (k := 41) (by omega) (by omega), ntR_ne (k := 60 + o') (by omega) (by omega), arS_mk, arS_cx, arS_ne (k := 3) (by omega), arS_ne (k := 4) (by omega)]
    exact hO o' ho'
  · rw [ntR_ne (k := 50) (by omega) (by omega)] at hj ⊢
    obtain ⟨y, v, a, b, c⟩ := hM j hj
    refine ⟨y, v, ?_, b, ?_⟩
    · unfold PV
      rw [arS_mk, arS_cx]
      exact a
    · unfold s_pl
      rw [arS_cx, arS_ne (k := 2) (by omega), arS_ne (k := 3) (by omega)]
      exact c
  · rw [ntR_ne (k := 41) (by omega) (by omega)] at h
    rw [arS_mk]
    exact h41 o' ho' h
  · obtain ⟨⟨⟨a1, a2, a3⟩, b, c⟩, d1, d2⟩ := hc s' hs'
    have hleft : s_left (arS σ s o) s' = s_left σ s' := by
      unfold s_left
      rw [arS_ne (k := 7) (by omega)]
    unfold CP0 ROW CNT
    rw [arS_vc, hleft, arS_ne (k := 10) (by omega), arS_ne (k := 11) (by omega), arS_ne (k := 12) (by omega), arS_ne (k := 4) (by omega), arS_ne (k := 7) (by omega)]
    by_cases e : s' = s
    · subst e
      have hw : s_wt (arS σ s' o) s' 18 = s_wt σ s' 18 + 1 := by
        unfold s_wt
        refine msum_one (a := o) ho (fun i hi hne => ?_) ?_
        · rw [arS_6, arS_ne (k := 7) (by omega), if_neg (c := 18 * s' + i = 18 * s' + o) (by omega)]
        · rw [arS_6, arS_ne (k := 7) (by omega), if_pos (c := 18 * s' + o = 18 * s' + o) rfl, if_pos ⟨by decide, h7⟩, if_neg (by omega)]
      rw [ntR_f (by decide), ntR_ne (k := 10 * s' + 1) (by omega) (by omega), ntR_f (by decide), ntR_ne (k := 10 * s' + 3) (by omega) (by omega), ntR_2, ntR_f (by decide), hw]
      refine ⟨⟨⟨a1, a2, a3⟩, b, fun o' ho' => ⟨fun z => ?_, (c o' ho').2⟩⟩, by omega, d2⟩
      rw [ntR_a, arS_6]
      by_cases q : o' = o
      · rw [if_pos q, if_pos (by omega)]
      · rw [if_neg q, if_neg (by omega)]
        exact (c o' ho').1 z
    · have hw : s_wt (arS σ s o) s' 18 = s_wt σ s' 18 := by
        unfold s_wt
        refine msum_congr (fun i hi => ?_)
        rw [arS_6, arS_ne (k := 7) (by omega), if_neg (c := 18 * s' + i = 18 * s + o) (by omega)]
      rw [ntR_ne (k := 10 * s') (by omega) (by omega), ntR_ne (k := 10 * s' + 1) (by omega) (by omega), ntR_ne (k := 10 * s' + 2) (by omega) (by omega), ntR_ne (k := 10 * s' + 3) (by omega) (by omega), hw]
      refine ⟨⟨⟨a1, a2, a3⟩, b, fun o' ho' => ⟨fun z => ?_, (c o' ho').2⟩⟩, d1, d2⟩
      rw [arS_6, if_neg (by omega)]
      exact (c o' ho').1 z
