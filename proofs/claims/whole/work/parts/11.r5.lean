/-- the same but for the scratch rows -/
def E12 (σ σ' : rS) : Prop := ∀ k, k ≠ 13 → k ≠ 14 → σ' k = σ k
theorem E12.cx {σ σ' : rS} (h : E12 σ σ') : s_cx σ' = s_cx σ := by
  funext o t
  unfold s_cx
  rw [h 5 (by omega) (by omega)]
theorem E12.mk {σ σ' : rS} (h : E12 σ σ') : s_mk σ' = s_mk σ := by
  funext t
  unfold s_mk
  rw [h 1 (by omega) (by omega)]
theorem E12.vc {σ σ' : rS} (h : E12 σ σ') : s_vc σ' = s_vc σ := by
  funext o t
  unfold s_vc
  rw [h 8 (by omega) (by omega)]
theorem E12.pl {σ σ' : rS} (h : E12 σ σ') : s_pl σ' = s_pl σ := by
  funext o v
  unfold s_pl
  rw [h.cx, h 2 (by omega) (by omega), h 3 (by omega) (by omega)]
theorem E12.row {σ σ' : rS} (h : E12 σ σ') : s_row σ' = s_row σ := by
  funext v
  unfold s_row
  rw [h.cx, h 2 (by omega) (by omega), h 3 (by omega) (by omega)]
theorem E12.refl (σ : rS) : E12 σ σ := fun _ _ _ => rfl
theorem E12.trans {σ σ' σ2 : rS} (h : E12 σ σ') (h' : E12 σ' σ2) : E12 σ σ2 := fun k h1 h2 => (h' k h1 h2).trans (h k h1 h2)
theorem E12.u2 {σ σ' : rS} (h : E12 σ σ') {k j x : Nat} (hk : k = 13 ∨ k = 14) : E12 σ (u2 σ' k j x) := fun k' h1 h2 => (u2_ne (by omega)).trans (h k' h1 h2)
/-! vectors by their numbers -/
def cdx (A B : Nat) (u : Nat → Nat) : Nat := u 0 + A * (u 1 + B * u 2)
theorem cdx_dig {A B : Nat} {u : Nat → Nat} (h0 : u 0 < A) (h1 : u 1 < B) : cdx A B u % A = u 0 ∧ cdx A B u / A % B = u 1 ∧ cdx A B u / A / B = u 2 := by
  unfold cdx
  have hA : 0 < A := by omega
  have hB : 0 < B := by omega
  have e : (u 0 + A * (u 1 + B * u 2)) / A = u 1 + B * u 2 := by
    rw [Nat.add_mul_div_left _ _ hA, Nat.div_eq_of_lt h0, Nat.zero_add]
  refine ⟨?_, ?_, ?_⟩
  · rw [Nat.add_mul_mod_self_left, Nat.mod_eq_of_lt h0]
  · rw [e, Nat.add_mul_mod_self_left, Nat.mod_eq_of_lt h1]
  · rw [e, Nat.add_mul_div_left _ _ hB, Nat.div_eq_of_lt h1, Nat.zero_add]
theorem cdx_lt {A B C : Nat} {u : Nat → Nat} (h0 : u 0 < A) (h1 : u 1 < B) (h2 : u 2 < C) : cdx A B u < A * B * C := by
  unfold cdx
  have e1 : u 1 + B * u 2 + 1 ≤ B * C := by
    have : B * (u 2 + 1) ≤ B * C := Nat.mul_le_mul_left B h2
    rw [Nat.mul_add] at this
    omega
  have e2 : A * (u 1 + B * u 2 + 1) ≤ A * (B * C) := Nat.mul_le_mul_left A e1
  rw [Nat.mul_add, ← Nat.mul_assoc A B C] at e2
  omega
/-- the digits of w -/
def dgw (A B w : Nat) : Nat → Nat := fun t => if t = 0 then w % A else if t = 1 then w / A % B else if t = 2 then w / A / B else 0
theorem dgw_cdx {A B w : Nat} : cdx A B (dgw A B w) = w := by
  show w % A + A * (w / A % B + B * (w / A / B)) = w
  rw [Nat.mod_add_div (w / A) B, Nat.mod_add_div w A]
theorem dgw_of {A B w : Nat} {u : Nat → Nat} (h0 : u 0 < A) (h1 : u 1 < B) (h3 : ∀ t, 3 ≤ t → u t = 0) (hw : cdx A B u = w) : u = dgw A B w := by
  obtain ⟨a, b, c⟩ := cdx_dig h0 h1
  rw [hw] at a b c
  funext t
  unfold dgw
  by_cases t0 : t = 0
  · rw [if_pos t0, t0, a]
  · rw [if_neg t0]
    by_cases t1 : t = 1
    · rw [if_pos t1, t1, b]
    · rw [if_neg t1]
      by_cases t2 : t = 2
      · rw [if_pos t2, t2, c]
      · rw [if_neg t2, h3 t (by omega)]
theorem dgw_lt {A B C w : Nat} (hA : 0 < A) (hB : 0 < B) (hw : w < A * B * C) : dgw A B w 0 < A ∧ dgw A B w 1 < B ∧ dgw A B w 2 < C := by
  refine ⟨Nat.mod_lt _ hA, Nat.mod_lt _ hB, ?_⟩
  show w / A / B < C
  rw [Nat.mul_assoc] at hw
  exact Nat.div_lt_of_lt_mul (Nat.div_lt_of_lt_mul hw)
theorem cdx_md {A B : Nat} {u : Nat → Nat} {t : Nat} (hA : 0 < A) (hB : 0 < B) (ht : t < 3) (h0 : 0 < u t) : cdx A B (md u t) < cdx A B u := by
  unfold cdx
  rcases (show t = 0 ∨ t = 1 ∨ t = 2 by omega) with rfl | rfl | rfl
  · rw [md_self, md_ne (by omega), md_ne (by omega)]
    omega
  · rw [md_self, md_ne (by omega), md_ne (by omega)]
    have : A * (u 1 - 1 + B * u 2) < A * (u 1 + B * u 2) := Nat.mul_lt_mul_of_pos_left (by omega) hA
    omega
  · rw [md_self, md_ne (by omega), md_ne (by omega)]
    have h1 : B * (u 2 - 1) < B * u 2 := Nat.mul_lt_mul_of_pos_left (by omega) hB
    have : A * (u 1 + B * (u 2 - 1)) < A * (u 1 + B * u 2) := Nat.mul_lt_mul_of_pos_left (by omega) hA
    omega
theorem mvi_inj {u v : Nat → Nat} (hu : ∀ t, u t ≤ 6) (hv : ∀ t, v t ≤ 6) (hu3 : ∀ t, 3 ≤ t → u t = 0) (hv3 : ∀ t, 3 ≤ t → v t = 0) {o o' : Nat} (h : 343 * o + mvi u = 343 * o' + mvi v) : o = o' ∧ u = v := by
  have a0 := hu 0
  have a1 := hu 1
  have a2 := hu 2
  have b0 := hv 0
  have b1 := hv 1
  have b2 := hv 2
  unfold mvi at h
  have e : o = o' ∧ u 0 = v 0 ∧ u 1 = v 1 ∧ u 2 = v 2 := by omega
  refine ⟨e.1, funext fun t => ?_⟩
  by_cases h3 : t < 3
  · rcases (show t = 0 ∨ t = 1 ∨ t = 2 by omega) with rfl | rfl | rfl
    · exact e.2.1
    · exact e.2.2.1
    · exact e.2.2.2
  · rw [hu3 t (by omega), hv3 t (by omega)]
/-- a pair whose place the row must hold, once it has been settled -/
def PK (σ : rS) (x : Nat) (vv : Nat → Nat) (o : Nat) (u : Nat → Nat) : Prop := o < 18 ∧ (o = x ∨ mh vv o) ∧ σ 2 o ≠ 0 ∧ (∀ t, u t ≤ vv t) ∧ MC (s_mk σ) (s_cx σ) u ∧ MX (s_mk σ) (s_cx σ) o u
/-- the row of places is right for all vectors before w, and at w for operations below i -/
def PD (σ σ' : rS) (x : Nat) (vv : Nat → Nat) (A B w i : Nat) : Prop := ∀ o u, PK σ x vv o u → cdx A B u < w ∨ (u = dgw A B w ∧ o < i) → σ' 13 (343 * o + mvi u) = s_pl σ o u
theorem PD.put {σ σ' : rS} {x : Nat} {vv : Nat → Nat} {A B w i : Nat} (hv6 : ∀ t, vv t ≤ 6) (hv3 : ∀ t, 3 ≤ t → vv t = 0) (hd : ∀ t, dgw A B w t ≤ vv t) (h : PD σ σ' x vv A B w i) : PD σ (u2 σ' 13 (343 * i + mvi (dgw A B w)) (s_pl σ i (dgw A B w))) x vv A B w (i + 1) := by
  have key : ∀ u : Nat → Nat, (∀ t, u t ≤ vv t) → (∀ t, u t ≤ 6) ∧ ∀ t, 3 ≤ t → u t = 0 := fun u hu => ⟨fun t => Nat.le_trans (hu t) (hv6 t), fun t ht => by
    have := hu t
    rw [hv3 t ht] at this
    omega⟩
  intro o u hk hc
  rw [u2_in]
  by_cases q : 343 * o + mvi u = 343 * i + mvi (dgw A B w)
  · rw [if_pos q]
    obtain ⟨e1, e2⟩ := mvi_inj (key u hk.2.2.2.1).1 (key _ hd).1 (key u hk.2.2.2.1).2 (key _ hd).2 q
    rw [e1, e2]
  · rw [if_neg q]
    refine h o u hk ?_
    rcases hc with hc | ⟨hc, ho⟩
    · exact Or.inl hc
    · refine Or.inr ⟨hc, ?_⟩
      apply Nat.lt_of_le_of_ne (by omega)
      intro e
      exact q (by rw [e, hc])
theorem PD.skip {σ σ' : rS} {x : Nat} {vv : Nat → Nat} {A B w i : Nat} (h : PD σ σ' x vv A B w i) (hn : ¬ PK σ x vv i (dgw A B w)) : PD σ σ' x vv A B w (i + 1) := by
  intro o u hk hc
  refine h o u hk ?_
  rcases hc with hc | ⟨hc, ho⟩
  · exact Or.inl hc
  · refine Or.inr ⟨hc, ?_⟩
    apply Nat.lt_of_le_of_ne (by omega)
    intro e
    exact hn (by rw [← e, ← hc]; exact hk)
theorem PD.next {σ σ' : rS} {x : Nat} {vv : Nat → Nat} {A B w i : Nat} (hA : A = vv 0 + 1) (hB : B = vv 1 + 1) (hv3 : ∀ t, 3 ≤ t → vv t = 0) (h : PD σ σ' x vv A B w i) (hi : i = 18 ∨ ¬ MC (s_mk σ) (s_cx σ) (dgw A B w)) : PD σ σ' x vv A B (w + 1) 0 := by
  intro o u hk hc
  refine h o u hk ?_
  rcases hc with hc | ⟨-, ho⟩
  · by_cases q : cdx A B u < w
    · exact Or.inl q
    · have h0 := hk.2.2.2.1 0
      have h1 := hk.2.2.2.1 1
      have e := dgw_of (A := A) (B := B) (u := u) (w := w) (by omega) (by omega) (fun t ht => by
        have := hk.2.2.2.1 t
        rw [hv3 t ht] at this
        omega) (by omega)
      rcases hi with rfl | hi
      · exact Or.inr ⟨e, hk.1⟩
      · exact absurd (e ▸ hk.2.2.2.2.1) hi
  · omega
theorem nw3 {σ : rS} {a b c : Nat} : s_nw (u2 (u2 (u2 σ 14 0 a) 14 1 b) 14 2 c) = fun t => if t = 0 then a else if t = 1 then b else if t = 2 then c else 0 := by
  funext t
  unfold s_nw
  by_cases h : t < 3
  · rw [if_pos h, u2_in, u2_in, u2_in]
    rcases (show t = 0 ∨ t = 1 ∨ t = 2 by omega) with rfl | rfl | rfl <;> simp
  · rw [if_neg h, if_neg (by omega), if_neg (by omega), if_neg (by omega)]
/-- what closed() says -/
theorem closed_iff {σ : rS} (hm : ∀ t, s_nw σ t ≤ s_mk σ t) : (∀ o, o < 18 → o % 6 < σ 14 (o / 6) → o % 6 < σ 1 (o / 6) ∧ σ 5 (3 * o) ≤ σ 14 0 ∧ σ 5 (3 * o + 1) ≤ σ 14 1 ∧ σ 5 (3 * o + 2) ≤ σ 14 2) ↔ MC (s_mk σ) (s_cx σ) (s_nw σ) := by
  constructor
  · intro h
    refine ⟨hm, fun o ho t => ?_⟩
    have ho3 : o / 6 < 3 := by
      unfold mh s_nw at ho
      by_cases q : o / 6 < 3
      · exact q
      · rw [if_neg q] at ho
        omega
    obtain ⟨-, a, b, c⟩ := h o (by omega) ((mh_nw (by omega)).mp ho)
    by_cases ht : t < 3
    · rw [s_nw_lt ht, s_cx_lt ht]
      rcases (show t = 0 ∨ t = 1 ∨ t = 2 by omega) with rfl | rfl | rfl
      · exact a
      · exact b
      · exact c
    · unfold s_cx
      rw [if_neg ht]
      exact Nat.zero_le _
  · intro h o ho hh
    have hh' := (mh_nw ho).mpr hh
    have e := h.2 o hh'
    have e0 := e 0
    have e1 := e 1
    have e2 := e 2
    rw [s_nw_lt (by omega), s_cx_lt (by omega)] at e0 e1 e2
    have em := hm (o / 6)
    rw [s_nw_lt (by omega), s_mk_lt (by omega)] at em
    exact ⟨by omega, e0, e1, e2⟩
theorem covers_iff {σ : rS} {o : Nat} : (σ 5 (3 * o) ≤ σ 14 0 ∧ σ 5 (3 * o + 1) ≤ σ 14 1 ∧ σ 5 (3 * o + 2) ≤ σ 14 2) ↔ ∀ t, s_cx σ o t ≤ s_nw σ t := by
  constructor
  · rintro ⟨a, b, c⟩ t
    by_cases ht : t < 3
    · rw [s_nw_lt ht, s_cx_lt ht]
      rcases (show t = 0 ∨ t = 1 ∨ t = 2 by omega) with rfl | rfl | rfl
      · exact a
      · exact b
      · exact c
    · unfold s_cx
      rw [if_neg ht]
      exact Nat.zero_le _
  · intro h
    have e0 := h 0
    have e1 := h 1
    have e2 := h 2
    rw [s_nw_lt (by omega), s_cx_lt (by omega)] at e0 e1 e2
    exact ⟨e0, e1, e2⟩
