/-! The state, as the reference holds it: σ k j is what array k has at j (1 made, 2 inserts, 3 position, 4 letter, 5 context, 6 arrived, 7 where + 1, 8 vector, 9 target + 1, 10 count, 11 cells, 12 visible; 13 and 14 are scratch). -/
abbrev rS : Type := Nat → Nat → Nat
def s_mk (σ : rS) (t : Nat) : Nat := if t < 3 then σ 1 t else 0
def s_cx (σ : rS) (o t : Nat) : Nat := if t < 3 then σ 5 (3 * o + t) else 0
def s_vc (σ : rS) (s t : Nat) : Nat := if t < 3 then σ 8 (3 * s + t) else 0
noncomputable def s_pl (σ : rS) (o : Nat) (v : Nat → Nat) : Nat := mplace (σ 2) (σ 3) (s_cx σ) o v
noncomputable def s_row (σ : rS) (v : Nat → Nat) : Nat → Nat := mrow (σ 2) (σ 3) (s_cx σ) v
def IH (S : Nat) (σ : rS) : Prop := (S = 2 ∨ S = 3) ∧ (∀ t, S ≤ t → σ 1 t = 0) ∧ MH (s_mk σ) (s_cx σ) ∧ ∀ o, mh (s_mk σ) o → (σ 3 o + (if σ 2 o = 0 then 1 else 0) ≤ mcnt (σ 2) (s_cx σ o)) ∧ (σ 2 o = 0 → σ 4 o = 0 ∧ σ 9 o = 1 + s_row σ (s_cx σ o) (σ 3 o)) ∧ (σ 2 o ≠ 0 → σ 2 o = 1 ∧ 1 ≤ σ 4 o ∧ σ 4 o ≤ 255)
/-- a site, but for its own number -/
def IW (σ : rS) (s : Nat) : Prop := MC (s_mk σ) (s_cx σ) (s_vc σ s) ∧ σ 10 s = mcnt (σ 2) (s_vc σ s) ∧ (∀ i, i < σ 10 s → σ 11 (18 * s + i) = s_row σ (s_vc σ s) i ∧ mh (s_vc σ s) (σ 11 (18 * s + i)) ∧ σ 2 (σ 11 (18 * s + i)) ≠ 0) ∧ (∀ i j, i < σ 10 s → j < σ 10 s → σ 11 (18 * s + i) = σ 11 (18 * s + j) → i = j) ∧ ∀ o, o < 18 → (σ 7 (18 * s + o) ≠ 0 ↔ mh (s_vc σ s) o) ∧ σ 7 (18 * s + o) ≤ 18 ∧ (mh (s_vc σ s) o → σ 6 (18 * s + o) ≠ 0) ∧ (σ 6 (18 * s + o) ≠ 0 → mh (s_mk σ) o)
def INV (S : Nat) (σ : rS) : Prop := IH S σ ∧ ∀ s, s < S → IW σ s ∧ s_vc σ s s = s_mk σ s
/-- an operation is executed at place p -/
def exS (σ : rS) (s o p : Nat) : rS := fun k j =>
  if k = 7 ∧ j = 18 * s + o then p + 1
  else if k = 8 ∧ j = 3 * s + o / 6 then σ 8 j + 1
  else if σ 2 o ≠ 0 then
    if k = 10 ∧ j = s then σ 10 j + 1
    else if k = 11 ∧ 18 * s + p ≤ j ∧ j ≤ 18 * s + σ 10 s then (if j = 18 * s + p then o else σ 11 (j - 1))
    else if k = 12 ∧ 18 * s + p ≤ j ∧ j ≤ 18 * s + σ 10 s then (if j = 18 * s + p then 1 else σ 12 (j - 1))
    else σ k j
  else if k = 12 ∧ j = 18 * s + p then 0
  else σ k j
theorem exS_lo {σ : rS} {s o p k : Nat} (h : k ≤ 6 ∨ k = 9 ∨ 12 < k) : exS σ s o p k = σ k := by
  funext j
  unfold exS
  rw [if_neg (by omega), if_neg (by omega)]
  split
  · rw [if_neg (by omega), if_neg (by omega), if_neg (by omega)]
  · rw [if_neg (by omega)]
theorem exS_7 {σ : rS} {s o p j : Nat} : exS σ s o p 7 j = if j = 18 * s + o then p + 1 else σ 7 j := by
  unfold exS
  by_cases h : j = 18 * s + o
  · rw [if_pos ⟨rfl, h⟩, if_pos h]
  · rw [if_neg (fun q => h q.2), if_neg h, if_neg (by omega)]
    split
    · rw [if_neg (by omega), if_neg (by omega), if_neg (by omega)]
    · rw [if_neg (by omega)]
theorem exS_8 {σ : rS} {s o p j : Nat} : exS σ s o p 8 j = if j = 3 * s + o / 6 then σ 8 j + 1 else σ 8 j := by
  unfold exS
  rw [if_neg (by omega)]
  by_cases h : j = 3 * s + o / 6
  · rw [if_pos ⟨rfl, h⟩, if_pos h]
  · rw [if_neg (fun q => h q.2), if_neg h]
    split
    · rw [if_neg (by omega), if_neg (by omega), if_neg (by omega)]
    · rw [if_neg (by omega)]
theorem exS_10 {σ : rS} {s o p j : Nat} : exS σ s o p 10 j = if σ 2 o ≠ 0 ∧ j = s then σ 10 j + 1 else σ 10 j := by
  unfold exS
  rw [if_neg (by omega), if_neg (by omega)]
  by_cases h : σ 2 o ≠ 0
  · rw [if_pos h]
    by_cases hj : j = s
    · rw [if_pos ⟨rfl, hj⟩, if_pos ⟨h, hj⟩]
    · rw [if_neg (fun q => hj q.2), if_neg (by omega), if_neg (by omega), if_neg (fun q => hj q.2)]
  · rw [if_neg h, if_neg (by omega), if_neg (fun q => h q.1)]
theorem exS_11 {σ : rS} {s o p j : Nat} : exS σ s o p 11 j = if σ 2 o ≠ 0 ∧ 18 * s + p ≤ j ∧ j ≤ 18 * s + σ 10 s then (if j = 18 * s + p then o else σ 11 (j - 1)) else σ 11 j := by
  unfold exS
  rw [if_neg (by omega), if_neg (by omega)]
  by_cases h : σ 2 o ≠ 0
  · rw [if_pos h, if_neg (by omega)]
    by_cases hj : 18 * s + p ≤ j ∧ j ≤ 18 * s + σ 10 s
    · rw [if_pos ⟨rfl, hj⟩, if_pos (c := σ 2 o ≠ 0 ∧ 18 * s + p ≤ j ∧ j ≤ 18 * s + σ 10 s) ⟨h, hj⟩]
    · rw [if_neg (fun q => hj q.2), if_neg (by omega), if_neg (fun q => hj q.2)]
  · rw [if_neg h, if_neg (by omega), if_neg (fun q => h q.1)]
theorem exS_12 {σ : rS} {s o p j : Nat} : exS σ s o p 12 j = if σ 2 o ≠ 0 then (if 18 * s + p ≤ j ∧ j ≤ 18 * s + σ 10 s then (if j = 18 * s + p then 1 else σ 12 (j - 1)) else σ 12 j) else (if j = 18 * s + p then 0 else σ 12 j) := by
  unfold exS
  rw [if_neg (by omega), if_neg (by omega)]
  by_cases h : σ 2 o ≠ 0
  · rw [if_pos h, if_pos h, if_neg (by omega), if_neg (by omega)]
    by_cases hj : 18 * s + p ≤ j ∧ j ≤ 18 * s + σ 10 s
    · rw [if_pos ⟨rfl, hj⟩, if_pos hj]
    · rw [if_neg (fun q => hj q.2), if_neg hj]
  · rw [if_neg h, if_neg h]
    by_cases hj : j = 18 * s + p
    · rw [if_pos ⟨rfl, hj⟩, if_pos hj]
    · rw [if_neg (fun q => hj q.2), if_neg hj]
theorem exS_mk {σ : rS} {s o p : Nat} : s_mk (exS σ s o p) = s_mk σ := by
  funext t
  unfold s_mk
  rw [exS_lo (k := 1) (by omega)]
theorem exS_cx {σ : rS} {s o p : Nat} : s_cx (exS σ s o p) = s_cx σ := by
  funext o' t
  unfold s_cx
  rw [exS_lo (k := 5) (by omega)]
theorem exS_row {σ : rS} {s o p : Nat} : s_row (exS σ s o p) = s_row σ := by
  funext v
  unfold s_row
  rw [exS_cx, exS_lo (k := 2) (by omega), exS_lo (k := 3) (by omega)]
theorem exS_pl {σ : rS} {s o p : Nat} : s_pl (exS σ s o p) = s_pl σ := by
  funext x v
  unfold s_pl
  rw [exS_cx, exS_lo (k := 2) (by omega), exS_lo (k := 3) (by omega)]
theorem exS_IH {S : Nat} {σ : rS} {s o p : Nat} (h : IH S σ) : IH S (exS σ s o p) := by
  unfold IH
  rw [exS_mk, exS_cx, exS_row, exS_lo (k := 1) (by omega), exS_lo (k := 2) (by omega), exS_lo (k := 3) (by omega), exS_lo (k := 4) (by omega), exS_lo (k := 9) (by omega)]
  exact h
theorem exS_vc_ne {σ : rS} {s o p s' : Nat} (ho : o < 18) (h : s' ≠ s) : s_vc (exS σ s o p) s' = s_vc σ s' := by
  funext t
  unfold s_vc
  by_cases ht : t < 3
  · rw [if_pos ht, if_pos ht, exS_8, if_neg (by omega)]
  · rw [if_neg ht, if_neg ht]
theorem exS_vc {σ : rS} {s o p : Nat} (ho : o < 18) : s_vc (exS σ s o p) s = mu (s_vc σ s) (o / 6) := by
  funext t
  unfold s_vc mu
  dsimp only
  by_cases ht : t < 3
  · rw [if_pos ht, if_pos ht, exS_8]
    by_cases h : t = o / 6
    · rw [if_pos (by omega), if_pos h]
    · rw [if_neg (by omega), if_neg h]
  · rw [if_neg ht, if_neg ht, if_neg (by omega)]
theorem exS_IW_ne {σ : rS} {s o p s' : Nat} (ho : o < 18) (h10 : σ 2 o ≠ 0 → σ 10 s < 18) (h : s' ≠ s) (h10' : σ 10 s' ≤ 18) (hI : IW σ s') : IW (exS σ s o p) s' := by
  obtain ⟨h1, h2, h3, h4, h5⟩ := hI
  have e10 : exS σ s o p 10 s' = σ 10 s' := by
    rw [exS_10, if_neg (fun q => h q.2)]
  have e11 : ∀ i, i < 18 → exS σ s o p 11 (18 * s' + i) = σ 11 (18 * s' + i) := by
    intro i hi
    rw [exS_11, if_neg]
    rintro ⟨z, z1, z2⟩
    have := h10 z
    omega
  have e7 : ∀ i, i < 18 → exS σ s o p 7 (18 * s' + i) = σ 7 (18 * s' + i) := by
    intro i hi
    rw [exS_7, if_neg (by omega)]
  unfold IW
  rw [exS_mk, exS_cx, exS_row, exS_vc_ne ho h, e10, exS_lo (k := 2) (by omega), exS_lo (k := 6) (by omega)]
  refine ⟨h1, h2, fun i hi => ?_, fun i j hi hj => ?_, fun o' ho' => ?_⟩
  · rw [e11 i (by omega)]
    exact h3 i hi
  · rw [e11 i (by omega), e11 j (by omega)]
    exact h4 i j hi hj
  · rw [e7 o' ho']
    exact h5 o' ho'
/-- what an execution needs -/
def RDY (σ : rS) (s o : Nat) : Prop := mh (s_mk σ) o ∧ s_vc σ s (o / 6) = o % 6 ∧ (∀ t, s_cx σ o t ≤ s_vc σ s t) ∧ σ 6 (18 * s + o) ≠ 0
theorem IH.lt18 {S : Nat} {σ : rS} (h : IH S σ) {o : Nat} (ho : mh (s_mk σ) o) : o < 18 := by
  unfold mh at ho
  by_cases h3 : 3 ≤ o / 6
  · rw [h.2.2.1.2.1 _ h3] at ho
    omega
  · omega
theorem RDY.in {S : Nat} {σ : rS} {s o : Nat} (hH : IH S σ) (hI : IW σ s) (h : RDY σ s o) : s_pl σ o (s_vc σ s) + (if σ 2 o = 0 then 1 else 0) ≤ σ 10 s ∧ (σ 2 o ≠ 0 → σ 10 s < 18) := by
  have hX := MX.ready h.1 h.2.1 h.2.2.1
  have h18 := hH.lt18 h.1
  constructor
  · rw [hI.2.1]
    exact mplace_in hH.2.2.1 (fun o => if σ 2 o = 0 then 1 else 0) (fun o ho => (hH.2.2.2 o ho).1) _ _ _ rfl hI.1 hX
  · intro h2
    have e := mcnt_mu (ins := σ 2) (x := o) (v := s_vc σ s) (by omega) h.2.1
    rw [if_pos h2, ← hI.2.1] at e
    have := mcnt_18 (σ 2) (mu (s_vc σ s) (o / 6))
    omega
theorem exS_IW {S : Nat} {σ : rS} {s o : Nat} (hH : IH S σ) (hI : IW σ s) (h : RDY σ s o) : IW (exS σ s o (s_pl σ o (s_vc σ s))) s := by
  obtain ⟨hp, h18⟩ := h.in hH hI
  have ho := hH.lt18 h.1
  obtain ⟨h1, h2, h3, h4, h5⟩ := hI
  have hnot : ¬ mh (s_vc σ s) o := (MX.ready h.1 h.2.1 h.2.2.1).2.1
  have hrow := mrow_mu (ins := σ 2) (pos := σ 3) hH.2.2.1 h1 h.1 h.2.1 h.2.2.1
  have hcnt := mcnt_mu (ins := σ 2) (x := o) (v := s_vc σ s) (by omega) h.2.1
  have hle := mcnt_18 (σ 2) (s_vc σ s)
  rw [← h2] at hle
  have hpd : s_pl σ o (s_vc σ s) = mplace (σ 2) (σ 3) (s_cx σ) o (s_vc σ s) := rfl
  rw [← hpd] at hrow
  generalize s_pl σ o (s_vc σ s) = p at *
  have hmu : ∀ o', mh (mu (s_vc σ s) (o / 6)) o' ↔ mh (s_vc σ s) o' ∨ o' = o := by
    intro o'
    constructor
    · intro q
      rcases mh_mu (by rw [h.2.1]; omega) q with q | q
      · exact Or.inl q
      · rw [h.2.1] at q
        exact Or.inr (by omega)
    · rintro (q | q)
      · exact mh_mu_of q
      · subst q
        unfold mh
        rw [mu_self, h.2.1]
        omega
  unfold IW
  rw [exS_mk, exS_cx, exS_row, exS_vc ho, exS_lo (k := 2) (by omega), exS_lo (k := 6) (by omega)]
  refine ⟨(MC.inc hH.2.2.1 h1 h.1 h.2.1 h.2.2.1).1, ?_, ?_, ?_, ?_⟩
  · rw [exS_10, hcnt, h2]
    by_cases q : σ 2 o ≠ 0
    · rw [if_pos ⟨q, rfl⟩, if_pos q]
    · rw [if_neg (fun z => q z.1), if_neg q]
      rfl
  · intro i hi
    rw [exS_10] at hi
    rw [exS_11]
    unfold s_row
    rw [hrow]
    unfold mst
    by_cases q : σ 2 o = 0
    · rw [if_neg (fun z => z.1 q)] at hi
      rw [if_neg (fun z => z.1 q), if_pos q]
      obtain ⟨a, b, c⟩ := h3 i hi
      exact ⟨a, (hmu _).mpr (Or.inl b), c⟩
    · rw [if_pos ⟨q, rfl⟩] at hi
      rw [if_neg q]
      unfold mIn
      rw [if_neg q] at hp
      by_cases g1 : i < p
      · rw [if_neg (by omega), if_pos g1]
        obtain ⟨a, b, c⟩ := h3 i (by omega)
        exact ⟨a, (hmu _).mpr (Or.inl b), c⟩
      · by_cases g2 : i = p
        · rw [if_pos ⟨q, by omega, by omega⟩, if_pos (by omega), if_neg g1, if_pos g2]
          exact ⟨rfl, (hmu _).mpr (Or.inr rfl), q⟩
        · rw [if_pos ⟨q, by omega, by omega⟩, if_neg (by omega), if_neg g1, if_neg g2, show 18 * s + i - 1 = 18 * s + (i - 1) by omega]
          obtain ⟨a, b, c⟩ := h3 (i - 1) (by omega)
          exact ⟨a, (hmu _).mpr (Or.inl b), c⟩
  · intro i j hi hj
    rw [exS_10] at hi hj
    rw [exS_11, exS_11]
    by_cases q : σ 2 o = 0
    · rw [if_neg (fun z => z.1 q)] at hi hj
      rw [if_neg (fun z => z.1 q), if_neg (fun z => z.1 q)]
      exact h4 i j hi hj
    · rw [if_pos ⟨q, rfl⟩] at hi hj
      rw [if_neg q] at hp
      have key : ∀ i, i < σ 10 s + 1 → ∃ x, (if σ 2 o ≠ 0 ∧ 18 * s + p ≤ 18 * s + i ∧ 18 * s + i ≤ 18 * s + σ 10 s then (if 18 * s + i = 18 * s + p then o else σ 11 (18 * s + i - 1)) else σ 11 (18 * s + i)) = x ∧ ((i = p ∧ x = o) ∨ (i < p ∧ x = σ 11 (18 * s + i)) ∨ (p < i ∧ x = σ 11 (18 * s + (i - 1)))) := by
        intro i hi
        refine ⟨_, rfl, ?_⟩
        by_cases g1 : i < p
        · rw [if_neg (by omega)]
          exact Or.inr (Or.inl ⟨g1, rfl⟩)
        · rw [if_pos ⟨q, by omega, by omega⟩]
          by_cases g2 : i = p
          · rw [if_pos (by omega)]
            exact Or.inl ⟨g2, rfl⟩
          · rw [if_neg (by omega), show 18 * s + i - 1 = 18 * s + (i - 1) by omega]
            exact Or.inr (Or.inr ⟨by omega, rfl⟩)
      have no : ∀ i, i < σ 10 s → σ 11 (18 * s + i) ≠ o := fun i hi z => hnot (z ▸ (h3 i hi).2.1)
      obtain ⟨x, ex, hx⟩ := key i hi
      obtain ⟨y, ey, hy⟩ := key j hj
      rw [ex, ey]
      intro hxy
      subst hxy
      rcases hx with ⟨a, b⟩ | ⟨a, b⟩ | ⟨a, b⟩ <;> rcases hy with ⟨a', b'⟩ | ⟨a', b'⟩ | ⟨a', b'⟩
      · omega
      · exact absurd (b'.symm.trans b) (no j (by omega))
      · exact absurd (b'.symm.trans b) (no (j - 1) (by omega))
      · exact absurd (b.symm.trans b') (no i (by omega))
      · exact h4 i j (by omega) (by omega) (b.symm.trans b')
      · have := h4 i (j - 1) (by omega) (by omega) (b.symm.trans b')
        omega
      · exact absurd (b.symm.trans b') (no (i - 1) (by omega))
      · have := h4 (i - 1) j (by omega) (by omega) (b.symm.trans b')
        omega
      · have := h4 (i - 1) (j - 1) (by omega) (by omega) (b.symm.trans b')
        omega
  · intro o' ho'
    rw [exS_7]
    obtain ⟨a, b, c, d⟩ := h5 o' ho'
    by_cases q : o' = o
    · subst q
      rw [if_pos rfl]
      refine ⟨⟨fun _ => (hmu _).mpr (Or.inr rfl), fun _ => by omega⟩, ?_, fun _ => h.2.2.2, d⟩
      by_cases z : σ 2 o' = 0
      · rw [if_pos z] at hp
        omega
      · have := h18 z
        rw [if_neg z] at hp
        omega
    · rw [if_neg (by omega)]
      refine ⟨⟨fun z => (hmu _).mpr (Or.inl (a.mp z)), fun z => ?_⟩, b, fun z => ?_, d⟩
      · rcases (hmu _).mp z with z | z
        · exact a.mpr z
        · exact absurd z q
      · rcases (hmu _).mp z with z | z
        · exact c z
        · exact absurd z q
theorem INV.in18 {S : Nat} {σ : rS} {s : Nat} (hI : IW σ s) : σ 10 s ≤ 18 := by
  rw [hI.2.1]
  exact mcnt_18 _ _
theorem exS_INV {S : Nat} {σ : rS} {s o : Nat} (h : INV S σ) (hs : s < S) (hr : RDY σ s o) (hne : o / 6 ≠ s) : INV S (exS σ s o (s_pl σ o (s_vc σ s))) := by
  have ho := h.1.lt18 hr.1
  obtain ⟨hp, h18⟩ := hr.in h.1 (h.2 s hs).1
  refine ⟨exS_IH h.1, fun s' hs' => ?_⟩
  by_cases e : s' = s
  · subst e
    refine ⟨exS_IW h.1 (h.2 s' hs').1 hr, ?_⟩
    rw [exS_mk, exS_vc ho, mu_ne (fun z => hne z.symm)]
    exact (h.2 s' hs').2
  · refine ⟨?_, ?_⟩
    · exact exS_IW_ne ho h18 e (INV.in18 (S := S) (h.2 s' hs').1) (h.2 s' hs').1
    · rw [exS_mk, exS_vc_ne ho e]
      exact (h.2 s' hs').2
/-- an operation is made, not yet executed -/
def adS (σ : rS) (s b p c : Nat) : rS := fun k j =>
  if k = 1 ∧ j = s then σ 1 j + 1
  else if k = 2 ∧ j = 6 * s + σ 1 s then b
  else if k = 3 ∧ j = 6 * s + σ 1 s then p
  else if k = 4 ∧ j = 6 * s + σ 1 s then c
  else if k = 5 ∧ 3 * (6 * s + σ 1 s) ≤ j ∧ j < 3 * (6 * s + σ 1 s) + 3 then σ 8 (3 * s + (j - 3 * (6 * s + σ 1 s)))
  else if k = 6 ∧ j = 18 * s + (6 * s + σ 1 s) then 1
  else if k = 9 ∧ j = 6 * s + σ 1 s then (if b = 0 then σ 11 (18 * s + p) + 1 else 0)
  else σ k j
/-- made and executed -/
def mkS (σ : rS) (s b p c : Nat) : rS := exS (adS σ s b p c) s (6 * s + σ 1 s) p
theorem adS_hi {σ : rS} {s b p c k : Nat} (h : k = 7 ∨ k = 8 ∨ 9 < k ∨ k = 0) : adS σ s b p c k = σ k := by
  funext j
  unfold adS
  rw [if_neg (by omega), if_neg (by omega), if_neg (by omega), if_neg (by omega), if_neg (by omega), if_neg (by omega), if_neg (by omega)]
theorem adS_1 {σ : rS} {s b p c j : Nat} : adS σ s b p c 1 j = if j = s then σ 1 j + 1 else σ 1 j := by
  unfold adS
  by_cases h : j = s
  · rw [if_pos ⟨rfl, h⟩, if_pos h]
  · rw [if_neg (fun q => h q.2), if_neg h, if_neg (by omega), if_neg (by omega), if_neg (by omega), if_neg (by omega), if_neg (by omega), if_neg (by omega)]
theorem adS_2 {σ : rS} {s b p c j : Nat} : adS σ s b p c 2 j = if j = 6 * s + σ 1 s then b else σ 2 j := by
  unfold adS
  by_cases h : j = 6 * s + σ 1 s
  · rw [if_neg (by omega), if_pos ⟨rfl, h⟩, if_pos h]
  · rw [if_neg (by omega), if_neg (fun q => h q.2), if_neg h, if_neg (by omega), if_neg (by omega), if_neg (by omega), if_neg (by omega), if_neg (by omega)]
theorem adS_3 {σ : rS} {s b p c j : Nat} : adS σ s b p c 3 j = if j = 6 * s + σ 1 s then p else σ 3 j := by
  unfold adS
  by_cases h : j = 6 * s + σ 1 s
  · rw [if_neg (by omega), if_neg (by omega), if_pos ⟨rfl, h⟩, if_pos h]
  · rw [if_neg (by omega), if_neg (by omega), if_neg (fun q => h q.2), if_neg h, if_neg (by omega), if_neg (by omega), if_neg (by omega), if_neg (by omega)]
theorem adS_4 {σ : rS} {s b p c j : Nat} : adS σ s b p c 4 j = if j = 6 * s + σ 1 s then c else σ 4 j := by
  unfold adS
  by_cases h : j = 6 * s + σ 1 s
  · rw [if_neg (by omega), if_neg (by omega), if_neg (by omega), if_pos ⟨rfl, h⟩, if_pos h]
  · rw [if_neg (by omega), if_neg (by omega), if_neg (by omega), if_neg (fun q => h q.2), if_neg h, if_neg (by omega), if_neg (by omega), if_neg (by omega)]
theorem adS_5 {σ : rS} {s b p c j : Nat} : adS σ s b p c 5 j = if 3 * (6 * s + σ 1 s) ≤ j ∧ j < 3 * (6 * s + σ 1 s) + 3 then σ 8 (3 * s + (j - 3 * (6 * s + σ 1 s))) else σ 5 j := by
  unfold adS
  by_cases h : 3 * (6 * s + σ 1 s) ≤ j ∧ j < 3 * (6 * s + σ 1 s) + 3
  · rw [if_neg (by omega), if_neg (by omega), if_neg (by omega), if_neg (by omega), if_pos ⟨rfl, h⟩, if_pos h]
  · rw [if_neg (by omega), if_neg (by omega), if_neg (by omega), if_neg (by omega), if_neg (fun q => h q.2), if_neg h, if_neg (by omega), if_neg (by omega)]
theorem adS_6 {σ : rS} {s b p c j : Nat} : adS σ s b p c 6 j = if j = 18 * s + (6 * s + σ 1 s) then 1 else σ 6 j := by
  unfold adS
  by_cases h : j = 18 * s + (6 * s + σ 1 s)
  · rw [if_neg (by omega), if_neg (by omega), if_neg (by omega), if_neg (by omega), if_neg (by omega), if_pos ⟨rfl, h⟩, if_pos h]
  · rw [if_neg (by omega), if_neg (by omega), if_neg (by omega), if_neg (by omega), if_neg (by omega), if_neg (fun q => h q.2), if_neg h, if_neg (by omega)]
theorem adS_9 {σ : rS} {s b p c j : Nat} : adS σ s b p c 9 j = if j = 6 * s + σ 1 s then (if b = 0 then σ 11 (18 * s + p) + 1 else 0) else σ 9 j := by
  unfold adS
  by_cases h : j = 6 * s + σ 1 s
  · rw [if_neg (by omega), if_neg (by omega), if_neg (by omega), if_neg (by omega), if_neg (by omega), if_neg (by omega), if_pos ⟨rfl, h⟩, if_pos h]
  · rw [if_neg (by omega), if_neg (by omega), if_neg (by omega), if_neg (by omega), if_neg (by omega), if_neg (by omega), if_neg (fun q => h q.2), if_neg h]
theorem adS_mk {σ : rS} {s b p c : Nat} (hs : s < 3) : s_mk (adS σ s b p c) = mu (s_mk σ) s := by
  funext t
  unfold s_mk mu
  dsimp only
  by_cases ht : t < 3
  · rw [if_pos ht, if_pos ht, adS_1]
  · rw [if_neg ht, if_neg ht, if_neg (by omega)]
theorem adS_cx {σ : rS} {s b p c : Nat} : s_cx (adS σ s b p c) = fun o => if o = 6 * s + σ 1 s then s_vc σ s else s_cx σ o := by
  funext o t
  unfold s_cx
  by_cases ho : o = 6 * s + σ 1 s
  · rw [if_pos ho]
    unfold s_vc
    by_cases ht : t < 3
    · rw [if_pos ht, if_pos ht, adS_5, if_pos (by omega), ho, show 3 * (6 * s + σ 1 s) + t - 3 * (6 * s + σ 1 s) = t by omega]
    · rw [if_neg ht, if_neg ht]
  · rw [if_neg ho]
    by_cases ht : t < 3
    · rw [if_pos ht, if_pos ht, adS_5, if_neg (by omega)]
    · rw [if_neg ht, if_neg ht]
theorem adS_vc {σ : rS} {s b p c : Nat} : s_vc (adS σ s b p c) = s_vc σ := by
  funext s' t
  unfold s_vc
  rw [adS_hi (k := 8) (by omega)]
theorem mkS_INV {S : Nat} {σ : rS} {s b p c : Nat} (h : INV S σ) (hs : s < S) (h6 : σ 1 s < 6) (hb : b = 0 ∧ c = 0 ∧ p < σ 10 s ∨ b = 1 ∧ 1 ≤ c ∧ c ≤ 255 ∧ p ≤ σ 10 s) : INV S (mkS σ s b p c) ∧ RDY (adS σ s b p c) s (6 * s + σ 1 s) ∧ s_pl (adS σ s b p c) (6 * s + σ 1 s) (s_vc σ s) = p ∧ IH S (adS σ s b p c) ∧ IW (adS σ s b p c) s := by
  obtain ⟨hH, hS⟩ := h
  have hS3 : S ≤ 3 := by
    have := hH.1
    omega
  have hs3 : s < 3 := by omega
  have hmks : s_mk σ s = σ 1 s := by unfold s_mk; rw [if_pos hs3]
  have hM := hH.2.2.1
  have hvs := (hS s hs).2
  have od : (6 * s + σ 1 s) / 6 = s ∧ (6 * s + σ 1 s) % 6 = σ 1 s := by omega
  have hne : ∀ o', mh (s_mk σ) o' → o' ≠ 6 * s + σ 1 s := by
    intro o' ho' e
    subst e
    unfold mh at ho'
    rw [od.1, od.2, hmks] at ho'
    omega
  have hnv : ∀ v : Nat → Nat, (∀ t, v t ≤ s_mk σ t) → ∀ o', mh v o' → o' ≠ 6 * s + σ 1 s := fun v hv o' ho' => hne o' (Nat.lt_of_lt_of_le ho' (hv _))
  generalize hσ1 : adS σ s b p c = σ1
  have e2 : ∀ o', o' ≠ 6 * s + σ 1 s → σ1 2 o' = σ 2 o' := fun o' q => by rw [← hσ1, adS_2, if_neg q]
  have e3 : ∀ o', o' ≠ 6 * s + σ 1 s → σ1 3 o' = σ 3 o' := fun o' q => by rw [← hσ1, adS_3, if_neg q]
  have e4 : ∀ o', o' ≠ 6 * s + σ 1 s → σ1 4 o' = σ 4 o' := fun o' q => by rw [← hσ1, adS_4, if_neg q]
  have e9 : ∀ o', o' ≠ 6 * s + σ 1 s → σ1 9 o' = σ 9 o' := fun o' q => by rw [← hσ1, adS_9, if_neg q]
  have n2 : σ1 2 (6 * s + σ 1 s) = b := by rw [← hσ1, adS_2, if_pos rfl]
  have n3 : σ1 3 (6 * s + σ 1 s) = p := by rw [← hσ1, adS_3, if_pos rfl]
  have n4 : σ1 4 (6 * s + σ 1 s) = c := by rw [← hσ1, adS_4, if_pos rfl]
  have n9 : σ1 9 (6 * s + σ 1 s) = if b = 0 then σ 11 (18 * s + p) + 1 else 0 := by rw [← hσ1, adS_9, if_pos rfl]
  have ecx : ∀ o', o' ≠ 6 * s + σ 1 s → s_cx σ1 o' = s_cx σ o' := fun o' q => by rw [← hσ1, adS_cx]; exact if_neg q
  have ncx : s_cx σ1 (6 * s + σ 1 s) = s_vc σ s := by rw [← hσ1, adS_cx]; exact if_pos rfl
  have emk : s_mk σ1 = mu (s_mk σ) s := by rw [← hσ1]; exact adS_mk hs3
  have evc : s_vc σ1 = s_vc σ := by rw [← hσ1]; exact adS_vc
  have ehi : ∀ k, k = 7 ∨ k = 8 ∨ 9 < k ∨ k = 0 → σ1 k = σ k := fun k q => by rw [← hσ1]; exact adS_hi q
  have e6 : ∀ j, σ1 6 j = if j = 18 * s + (6 * s + σ 1 s) then 1 else σ 6 j := fun j => by rw [← hσ1]; exact adS_6
  have e1 : ∀ j, σ1 1 j = if j = s then σ 1 j + 1 else σ 1 j := fun j => by rw [← hσ1]; exact adS_1
  have ecnt : ∀ v : Nat → Nat, (∀ t, v t ≤ s_mk σ t) → mcnt (σ1 2) v = mcnt (σ 2) v := fun v hv => mcnt_congr (fun o' ho' => e2 o' (hnv v hv o' ho'))
  have erow : ∀ v : Nat → Nat, (∀ t, v t ≤ s_mk σ t) → s_row σ1 v = s_row σ v := fun v hv => by
    unfold s_row
    exact mrow_congr (fun t => Nat.le_trans (hv t) (hM.1 t)) (fun o' ho' => ⟨e2 o' (hnv v hv o' ho'), e3 o' (hnv v hv o' ho'), ecx o' (hnv v hv o' ho')⟩)
  have hmu : ∀ o', mh (mu (s_mk σ) s) o' ↔ mh (s_mk σ) o' ∨ o' = 6 * s + σ 1 s := by
    intro o'
    constructor
    · intro q
      rcases mh_mu (by rw [hmks]; exact h6) q with q | q
      · exact Or.inl q
      · rw [hmks] at q
        exact Or.inr q
    · rintro (q | q)
      · exact mh_mu_of q
      · subst q
        unfold mh
        rw [od.1, od.2, mu_self, hmks]
        omega
  have hle : ∀ t, s_mk σ t ≤ mu (s_mk σ) s t := fun t => by
    unfold mu
    split <;> omega
  have hW := (hS s hs).1
  have hC := hW.1
  have hIH : IH S σ1 := by
    refine ⟨hH.1, fun t ht => ?_, ?_, fun o' ho' => ?_⟩
    · rw [e1, if_neg (by omega)]
      exact hH.2.1 t ht
    · rw [emk]
      refine ⟨fun t => ?_, fun t ht => ?_, fun o' ho' => ?_⟩
      · unfold mu
        split
        · rename_i q
          rw [q, hmks]
          omega
        · exact hM.1 t
      · rw [mu_ne (by omega)]
        exact hM.2.1 t ht
      · rcases (hmu o').mp ho' with q | q
        · have hn := hne o' q
          obtain ⟨a, b', c'⟩ := hM.2.2 o' q
          rw [ecx o' hn]
          exact ⟨a, fun t => Nat.le_trans (b' t) (hle t), fun x hx t => by
            rw [ecx x (hnv _ b' x hx)]
            exact c' x hx t⟩
        · subst q
          rw [ncx, od.1, od.2]
          refine ⟨by rw [hvs, hmks], fun t => Nat.le_trans (hC.1 t) (hle t), fun x hx t => ?_⟩
          rw [ecx x (hnv _ hC.1 x hx)]
          exact hC.2 x hx t
    · rw [emk] at ho'
      rcases (hmu o').mp ho' with q | q
      · have hn := hne o' q
        have hv := (hM.2.2 o' q).2.1
        rw [ecx o' hn, e2 o' hn, e3 o' hn, e4 o' hn, e9 o' hn, ecnt _ hv, erow _ hv]
        exact hH.2.2.2 o' q
      · subst q
        rw [ncx, n2, n3, n4, n9, ecnt _ hC.1, erow _ hC.1, ← hW.2.1]
        rcases hb with ⟨rfl, rfl, hp⟩ | ⟨rfl, h1, h2, hp⟩
        · refine ⟨by rw [if_pos rfl]; omega, fun _ => ⟨rfl, ?_⟩, fun q => absurd rfl q⟩
          rw [if_pos rfl, (hW.2.2.1 p hp).1]
          omega
        · exact ⟨by rw [if_neg (by decide)]; omega, fun q => absurd q (by decide), fun _ => ⟨rfl, h1, h2⟩⟩
  have hIW : ∀ s', s' < S → IW σ1 s' := by
    intro s' hs'
    have hW' := (hS s' hs').1
    have hC' := hW'.1
    unfold IW
    rw [emk, evc, ehi 10 (by omega), ehi 11 (by omega), ehi 7 (by omega), ecnt _ hC'.1, erow _ hC'.1]
    refine ⟨⟨fun t => Nat.le_trans (hC'.1 t) (hle t), fun o' ho' t => ?_⟩, hW'.2.1, fun i hi => ?_, hW'.2.2.2.1, fun o' ho' => ?_⟩
    · rw [ecx o' (hnv _ hC'.1 o' ho')]
      exact hC'.2 o' ho' t
    · obtain ⟨a, b', c'⟩ := hW'.2.2.1 i hi
      exact ⟨a, b', by rw [e2 _ (hnv _ hC'.1 _ b')]; exact c'⟩
    · obtain ⟨a, b', c', d⟩ := hW'.2.2.2.2 o' ho'
      rw [e6]
      refine ⟨a, b', fun q => ?_, fun q => ?_⟩
      · split
        · decide
        · exact c' q
      · split at q
        · rename_i z
          have : o' = 6 * s + σ 1 s := by omega
          exact (hmu o').mpr (Or.inr this)
        · exact mh_mu_of (d q)
  have hR : RDY σ1 s (6 * s + σ 1 s) := by
    refine ⟨by rw [emk]; exact (hmu _).mpr (Or.inr rfl), ?_, fun t => ?_, ?_⟩
    · rw [evc, od.1, od.2, hvs, hmks]
    · rw [ncx, evc]
      exact Nat.le_refl _
    · rw [e6, if_pos rfl]
      decide
  have hpl : s_pl σ1 (6 * s + σ 1 s) (s_vc σ s) = p := by
    unfold s_pl
    rw [mplace_own (fun t _ => by rw [ncx]), n3]
  have ho : 6 * s + σ 1 s < 18 := by omega
  refine ⟨?_, hR, hpl, hIH, hIW s hs⟩
  unfold mkS
  rw [hσ1]
  have hpl' : p = s_pl σ1 (6 * s + σ 1 s) (s_vc σ1 s) := by rw [evc, hpl]
  obtain ⟨hp, h18⟩ := hR.in hIH (hIW s hs)
  refine ⟨exS_IH hIH, fun s' hs' => ?_⟩
  by_cases q : s' = s
  · subst q
    refine ⟨?_, ?_⟩
    · have := exS_IW hIH (hIW s' hs') hR
      rw [← hpl'] at this
      exact this
    · rw [exS_mk, exS_vc ho, od.1, mu_self, evc, emk, mu_self, (hS s' hs').2]
  · refine ⟨exS_IW_ne ho h18 q (INV.in18 (S := S) (hIW s' hs')) (hIW s' hs'), ?_⟩
    rw [exS_mk, exS_vc_ne ho q, evc, emk, mu_ne q]
    exact (hS s' hs').2
/-! what waits and is ready; the work behind an arrival -/
def WT (σ : rS) (s o : Nat) : Prop := σ 6 (18 * s + o) ≠ 0 ∧ σ 7 (18 * s + o) = 0 ∧ s_vc σ s (o / 6) = o % 6 ∧ ∀ t, t < 3 → t ≠ o / 6 → s_cx σ o t ≤ s_vc σ s t
/-- r is the lowest that is ready, if there is one -/
def NX (σ : rS) (s : Nat) (r : Option Nat) : Prop := match r with
  | none => ∀ o, o < 18 → ¬ WT σ s o
  | some o => o < 18 ∧ WT σ s o ∧ ∀ o', o' < o → ¬ WT σ s o'
theorem NX_eq {σ : rS} {s : Nat} {r r' : Option Nat} (h : NX σ s r) (h' : NX σ s r') : r = r' := by
  cases r with
  | none =>
    cases r' with
    | none => rfl
    | some o => exact absurd h'.2.1 (h o h'.1)
  | some o =>
    cases r' with
    | none => exact absurd h.2.1 (h' o h.1)
    | some o' =>
      rcases Nat.lt_trichotomy o o' with q | q | q
      · exact absurd h.2.1 (h'.2.2 o q)
      · rw [q]
      · exact absurd h'.2.1 (h.2.2 o' q)
/-- n operations are executed at s, one after the other, and then none is ready -/
def WK (s : Nat) : Nat → rS → rS → Prop
  | 0, σ, σ' => σ' = σ ∧ NX σ s none
  | n + 1, σ, σ' => ∃ o, NX σ s (some o) ∧ WK s n (exS σ s o (s_pl σ o (s_vc σ s))) σ'
theorem WK_eq {s : Nat} : ∀ {n n' : Nat} {σ σ1 σ2 : rS}, WK s n σ σ1 → WK s n' σ σ2 → n = n' ∧ σ1 = σ2
  | 0, 0, σ, σ1, σ2, h, h' => ⟨rfl, h.1.trans h'.1.symm⟩
  | 0, n' + 1, σ, σ1, σ2, h, h' => by
    obtain ⟨o, ho, -⟩ := h'
    cases NX_eq h.2 ho
  | n + 1, 0, σ, σ1, σ2, h, h' => by
    obtain ⟨o, ho, -⟩ := h
    cases NX_eq h'.2 ho
  | n + 1, n' + 1, σ, σ1, σ2, h, h' => by
    obtain ⟨o, ho, hw⟩ := h
    obtain ⟨o', ho', hw'⟩ := h'
    cases NX_eq ho ho'
    obtain ⟨e1, e2⟩ := WK_eq hw hw'
    exact ⟨by omega, e2⟩
theorem WT.rdy {S : Nat} {σ : rS} {s o : Nat} (h : INV S σ) (hs : s < S) (ho : o < 18) (hw : WT σ s o) : RDY σ s o ∧ o / 6 ≠ s := by
  obtain ⟨h1, h2, h3, h4⟩ := hw
  obtain ⟨hW, hv⟩ := h.2 s hs
  obtain ⟨a, b, c, d⟩ := hW.2.2.2.2 o ho
  have hm := d h1
  have hcx := (h.1.2.2.1.2.2 o hm).1
  refine ⟨⟨hm, h3, fun t => ?_, h1⟩, fun e => ?_⟩
  · by_cases ht : t < 3
    · by_cases q : t = o / 6
      · rw [q, hcx, h3]
        exact Nat.le_refl _
      · exact h4 t ht q
    · unfold s_cx
      rw [if_neg ht]
      exact Nat.zero_le _
  · have : mh (s_vc σ s) o := by
      unfold mh
      rw [e, hv, ← e]
      exact hm
    exact a.mpr this h2
theorem WK.inv {S s : Nat} (hs : s < S) : ∀ {n : Nat} {σ σ' : rS}, INV S σ → WK s n σ σ' → INV S σ'
  | 0, σ, σ', h, hw => by
    rw [hw.1]
    exact h
  | n + 1, σ, σ', h, hw => by
    obtain ⟨o, ho, hw⟩ := hw
    obtain ⟨hr, hne⟩ := WT.rdy h hs ho.1 ho.2.1
    exact WK.inv hs (exS_INV h hs hr hne) hw
/-- how many of the operations have not been executed at s -/
def s_left (σ : rS) (s : Nat) : Nat := msum (fun o => if σ 7 (18 * s + o) = 0 then 1 else 0) 18
theorem s_left_ex {σ : rS} {s o p : Nat} (ho : o < 18) (h : σ 7 (18 * s + o) = 0) : s_left σ s = s_left (exS σ s o p) s + 1 := by
  unfold s_left
  refine msum_one (a := o) ho (fun i hi hne => ?_) ?_
  · rw [exS_7, if_neg (c := 18 * s + i = 18 * s + o) (by omega)]
  · rw [exS_7, if_pos h, if_pos rfl, if_neg (by omega)]
theorem s_left_18 (σ : rS) (s : Nat) : s_left σ s ≤ 18 := by
  unfold s_left
  have := msum_bound (f := fun o => if σ 7 (18 * s + o) = 0 then 1 else 0) (c := 1) (n := 18) (fun i _ => by split <;> omega)
  omega
theorem s_left_0 {σ : rS} {s : Nat} (h : s_left σ s = 0) : NX σ s none := by
  intro o ho hw
  have e := s_left_ex (p := 0) ho hw.2.1
  omega
/-- it arrives -/
def arS (σ : rS) (s o : Nat) : rS := fun k j => if k = 6 ∧ j = 18 * s + o then 1 else σ k j
theorem arS_ne {σ : rS} {s o k : Nat} (h : k ≠ 6) : arS σ s o k = σ k := by
  funext j
  unfold arS
  rw [if_neg (fun q => h q.1)]
theorem arS_6 {σ : rS} {s o j : Nat} : arS σ s o 6 j = if j = 18 * s + o then 1 else σ 6 j := by
  unfold arS
  by_cases h : j = 18 * s + o
  · rw [if_pos ⟨rfl, h⟩, if_pos h]
  · rw [if_neg (fun q => h q.2), if_neg h]
theorem arS_mk {σ : rS} {s o : Nat} : s_mk (arS σ s o) = s_mk σ := by
  funext t
  unfold s_mk
  rw [arS_ne (k := 1) (by omega)]
theorem arS_cx {σ : rS} {s o : Nat} : s_cx (arS σ s o) = s_cx σ := by
  funext o' t
  unfold s_cx
  rw [arS_ne (k := 5) (by omega)]
theorem arS_vc {σ : rS} {s o : Nat} : s_vc (arS σ s o) = s_vc σ := by
  funext o' t
  unfold s_vc
  rw [arS_ne (k := 8) (by omega)]
theorem arS_row {σ : rS} {s o : Nat} : s_row (arS σ s o) = s_row σ := by
  funext v
  unfold s_row
  rw [arS_cx, arS_ne (k := 2) (by omega), arS_ne (k := 3) (by omega)]
theorem arS_INV {S : Nat} {σ : rS} {s o : Nat} (h : INV S σ) (ho : mh (s_mk σ) o) : INV S (arS σ s o) := by
  obtain ⟨hH, hS⟩ := h
  refine ⟨?_, fun s' hs' => ?_⟩
  · unfold IH
    rw [arS_mk, arS_cx, arS_row, arS_ne (k := 1) (by omega), arS_ne (k := 2) (by omega), arS_ne (k := 3) (by omega), arS_ne (k := 4) (by omega), arS_ne (k := 9) (by omega)]
    exact hH
  · obtain ⟨hW, hv⟩ := hS s' hs'
    refine ⟨?_, by rw [arS_vc, arS_mk]; exact hv⟩
    have h18 := hH.lt18 ho
    obtain ⟨a, b, c, d, e⟩ := hW
    unfold IW
    rw [arS_mk, arS_cx, arS_row, arS_vc, arS_ne (k := 2) (by omega), arS_ne (k := 10) (by omega), arS_ne (k := 11) (by omega), arS_ne (k := 7) (by omega)]
    refine ⟨a, b, c, d, fun o' ho' => ?_⟩
    obtain ⟨e1, e2, e3, e4⟩ := e o' ho'
    rw [arS_6]
    refine ⟨e1, e2, fun q => ?_, fun q => ?_⟩
    · split
      · decide
      · exact e3 q
    · split at q
      · rename_i z
        have : o' = o := by omega
        rw [this]
        exact ho
      · exact e4 q
/-! numbers of the script as numbers of sites, operations, cells -/
def ix (n : Nat) (x : Int32) : Option Nat := if 0 ≤ x.toInt ∧ x.toInt < (n : Int) then some x.toInt.toNat else none
theorem ix_some {n j : Nat} {x : Int32} (hn : n < 2 ^ 31) (h : ix n x = some j) : j < n ∧ x = nI j := by
  unfold ix at h
  split at h
  · rename_i q
    cases h
    refine ⟨by omega, ?_⟩
    apply Int32.toInt_inj.mp
    rw [nI_toInt (by omega)]
    omega
  · cases h
theorem ix_nI {n j : Nat} (hn : n < 2 ^ 31) (h : j < n) : ix n (nI j) = some j := by
  unfold ix
  rw [nI_toInt (by omega), if_pos (by omega)]
  rfl
theorem ix_none {n : Nat} {x : Int32} (hn : n < 2 ^ 31) (h : ix n x = none) : x < 0 ∨ nI n ≤ x := by
  unfold ix at h
  split at h
  · cases h
  · rename_i q
    by_cases q0 : x < 0
    · exact Or.inl q0
    · refine Or.inr ?_
      rw [Int32.le_iff_toInt_le, nI_toInt hn]
      rw [Int32.lt_iff_toInt_lt, Int32.toInt_zero] at q0
      omega
theorem ix_neg {n : Nat} {x : Int32} (h : x < 0) : ix n x = none := by
  unfold ix
  rw [if_neg]
  rw [Int32.lt_iff_toInt_lt, Int32.toInt_zero] at h
  omega
theorem ix_big {n : Nat} {x : Int32} (hn : n < 2 ^ 31) (h : nI n ≤ x) : ix n x = none := by
  unfold ix
  rw [if_neg]
  rw [Int32.le_iff_toInt_le, nI_toInt hn] at h
  omega
theorem ix_of {n : Nat} {x : Int32} (hn : n < 2 ^ 31) (h0 : ¬ x < 0) (h : ¬ nI n ≤ x) : ∃ j, j < n ∧ x = nI j ∧ ix n x = some j := by
  cases e : ix n x with
  | none => rcases ix_none hn e with q | q
            · exact absurd q h0
            · exact absurd q h
  | some j => exact ⟨j, (ix_some hn e).1, (ix_some hn e).2, rfl⟩
def b2 (b : Bool) : Nat := cond b 1 0
theorem b2_lt (b : Bool) : b2 b < 2 := by cases b <;> decide
theorem b2_le (b : Bool) : b2 b < 2 ^ 31 := by cases b <;> decide
theorem b2_t {P : Prop} {h : Decidable P} (q : P) : b2 (@decide P h) = 1 := by simp [b2, q]
theorem b2_f {P : Prop} {h : Decidable P} (q : ¬ P) : b2 (@decide P h) = 0 := by simp [b2, q]
theorem b2_0 {P : Prop} {h : Decidable P} (q : b2 (@decide P h) = 0) : ¬ P := by
  intro p
  simp [b2, p] at q
theorem b2_1 {P : Prop} {h : Decidable P} (q : b2 (@decide P h) ≠ 0) : P := by
  apply Decidable.byContradiction
  intro p
  exact q (b2_f p)
theorem nI_inc (a : Nat) : nI a + Int32.ofInt 1 = nI (a + 1) := (nI_succ a).symm
theorem nI_dec {a : Nat} (h : 0 < a) : nI a + Int32.ofInt (-1) = nI (a - 1) := by
  have := pk_m1 (a - 1)
  rw [show a - 1 + 1 = a by omega] at this
  exact this
