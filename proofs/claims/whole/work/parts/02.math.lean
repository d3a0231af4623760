/-! The document's rule of places, over any record of operations: ins (0: an erase), pos (the position), cx (the context). Operation o is number o % 6 of site o / 6. A vector v says how many of each site. -/
def mh (v : Nat → Nat) (o : Nat) : Prop := o % 6 < v (o / 6)
def md (v : Nat → Nat) (t : Nat) : Nat → Nat := fun j => if j = t then v j - 1 else v j
def mtop (v : Nat → Nat) (t : Nat) : Nat := 6 * t + (v t - 1)
def msz (v : Nat → Nat) : Nat := v 0 + v 1 + v 2
/-- place p of an operation (insert: ix, of site sx) past one at q -/
def mmv (ix sx p iy sy q : Nat) : Nat := if iy ≠ 0 ∧ q ≤ p ∧ (p ≠ q ∨ ix = 0 ∨ sy ≤ sx) then p + 1 else p
/-- the last operation of site t is in no context of what v has -/
def mmx (cx : Nat → Nat → Nat) (v : Nat → Nat) (t : Nat) : Prop := t < 3 ∧ 0 < v t ∧ ∀ o, o < 18 → mh v o → cx o t < v t
def mcand (cx : Nat → Nat → Nat) (x : Nat) (v : Nat → Nat) (t : Nat) : Prop := cx x t < v t ∧ mmx cx v t
noncomputable def mf (P : Nat → Prop) : Option Nat := by
  classical exact if P 0 then some 0 else if P 1 then some 1 else if P 2 then some 2 else none
theorem mf_some {P : Nat → Prop} {t : Nat} (h : mf P = some t) : P t := by
  unfold mf at h
  split at h
  · cases h; assumption
  · split at h
    · cases h; assumption
    · split at h
      · cases h; assumption
      · cases h
theorem mf_none {P : Nat → Prop} (h : mf P = none) : ∀ t, t < 3 → ¬ P t := by
  unfold mf at h
  split at h
  · cases h
  · split at h
    · cases h
    · split at h
      · cases h
      · intro t ht
        rcases (show t = 0 ∨ t = 1 ∨ t = 2 by omega) with rfl | rfl | rfl <;> assumption
theorem mf_congr {P P' : Nat → Prop} (h : ∀ t, P t ↔ P' t) : mf P = mf P' := by
  have : P = P' := funext fun t => propext (h t)
  rw [this]
theorem mf_is {P : Nat → Prop} {t : Nat} (ht : t < 3) (h : P t) (h0 : ∀ j, j < t → ¬ P j) : mf P = some t := by
  unfold mf
  rcases (show t = 0 ∨ t = 1 ∨ t = 2 by omega) with rfl | rfl | rfl
  · rw [if_pos h]
  · rw [if_neg (h0 0 (by omega)), if_pos h]
  · rw [if_neg (h0 0 (by omega)), if_neg (h0 1 (by omega)), if_pos h]
theorem mf_not {P : Nat → Prop} (h0 : ∀ j, j < 3 → ¬ P j) : mf P = none := by
  unfold mf
  rw [if_neg (h0 0 (by omega)), if_neg (h0 1 (by omega)), if_neg (h0 2 (by omega))]
noncomputable def mpl (ins pos : Nat → Nat) (cx : Nat → Nat → Nat) : Nat → Nat → (Nat → Nat) → Nat
  | 0, x, _ => pos x
  | n + 1, x, v => match mf (mcand cx x v) with
    | none => pos x
    | some t => mmv (ins x) (x / 6) (mpl ins pos cx n x (md v t)) (ins (mtop v t)) t (mpl ins pos cx n (mtop v t) (md v t))
/-- the place of x for v -/
noncomputable def mplace (ins pos : Nat → Nat) (cx : Nat → Nat → Nat) (x : Nat) (v : Nat → Nat) : Nat := mpl ins pos cx (msz v) x v
def MH (mk : Nat → Nat) (cx : Nat → Nat → Nat) : Prop := (∀ t, mk t ≤ 6) ∧ (∀ t, 3 ≤ t → mk t = 0) ∧ ∀ o, mh mk o → cx o (o / 6) = o % 6 ∧ (∀ t, cx o t ≤ mk t) ∧ ∀ x, mh (cx o) x → ∀ t, cx x t ≤ cx o t
def MC (mk : Nat → Nat) (cx : Nat → Nat → Nat) (v : Nat → Nat) : Prop := (∀ t, v t ≤ mk t) ∧ ∀ o, mh v o → ∀ t, cx o t ≤ v t
def MX (mk : Nat → Nat) (cx : Nat → Nat → Nat) (x : Nat) (v : Nat → Nat) : Prop := mh mk x ∧ ¬ mh v x ∧ ∀ t, cx x t ≤ v t
theorem mtop_d {v : Nat → Nat} {t : Nat} (h6 : v t ≤ 6) : mtop v t / 6 = t ∧ mtop v t % 6 = v t - 1 := by
  unfold mtop
  omega
theorem mh_top {v : Nat → Nat} {t : Nat} (h0 : 0 < v t) (h6 : v t ≤ 6) : mh v (mtop v t) := by
  obtain ⟨h1, h2⟩ := mtop_d h6
  unfold mh
  rw [h1, h2]
  omega
theorem mh_md {v : Nat → Nat} {t o : Nat} (h : mh (md v t) o) : mh v o := by
  unfold mh md at *
  split at h <;> omega
theorem md_self {v : Nat → Nat} {t : Nat} : md v t t = v t - 1 := by simp [md]
theorem md_ne {v : Nat → Nat} {t j : Nat} (h : j ≠ t) : md v t j = v j := by simp [md, h]
theorem mh_md_ne {v : Nat → Nat} {t o : Nat} (h : mh v o) (hn : o ≠ mtop v t) : mh (md v t) o := by
  unfold mh md mtop at *
  split
  · rename_i e
    rw [e] at h ⊢
    omega
  · exact h
theorem mh_top_not {v : Nat → Nat} {t : Nat} (h6 : v t ≤ 6) : ¬ mh (md v t) (mtop v t) := by
  obtain ⟨h1, h2⟩ := mtop_d h6
  unfold mh
  rw [h1, h2, md_self]
  omega
theorem msz_md {v : Nat → Nat} {t : Nat} (ht : t < 3) (h0 : 0 < v t) : msz (md v t) + 1 = msz v := by
  unfold msz md
  rcases (show t = 0 ∨ t = 1 ∨ t = 2 by omega) with rfl | rfl | rfl <;> simp <;> omega
theorem md_comm (v : Nat → Nat) (s t : Nat) : md (md v s) t = md (md v t) s := by
  funext j
  unfold md
  split <;> split <;> rfl
theorem MC.le6 {mk : Nat → Nat} {cx : Nat → Nat → Nat} {v : Nat → Nat} (hH : MH mk cx) (h : MC mk cx v) (t : Nat) : v t ≤ 6 := Nat.le_trans (h.1 t) (hH.1 t)
theorem MC.lt18 {mk : Nat → Nat} {cx : Nat → Nat → Nat} {v : Nat → Nat} (hH : MH mk cx) (h : MC mk cx v) {o : Nat} (ho : mh v o) : o < 18 := by
  unfold mh at ho
  by_cases h3 : 3 ≤ o / 6
  · have h1 := h.1 (o / 6)
    rw [hH.2.1 _ h3] at h1
    omega
  · omega
theorem MC.made {mk : Nat → Nat} {cx : Nat → Nat → Nat} {v : Nat → Nat} (h : MC mk cx v) {o : Nat} (ho : mh v o) : mh mk o := Nat.lt_of_lt_of_le ho (h.1 _)
theorem MC.dn {mk : Nat → Nat} {cx : Nat → Nat → Nat} {v : Nat → Nat} {t : Nat} (hH : MH mk cx) (h : MC mk cx v) (hx : mmx cx v t) : MC mk cx (md v t) := by
  refine ⟨fun j => ?_, fun o ho j => ?_⟩
  · have := h.1 j
    unfold md
    split <;> omega
  · have ho' := mh_md ho
    by_cases hj : j = t
    · subst hj
      rw [md_self]
      have := hx.2.2 o (h.lt18 hH ho') ho'
      omega
    · rw [md_ne hj]
      exact h.2 o ho' j
theorem mmx_md {cx : Nat → Nat → Nat} {v : Nat → Nat} {s t : Nat} (hst : t ≠ s) (h : mmx cx v t) : mmx cx (md v s) t := by
  obtain ⟨h1, h2, h3⟩ := h
  refine ⟨h1, ?_, fun o ho hh => ?_⟩
  · rw [md_ne hst]; exact h2
  · rw [md_ne hst]; exact h3 o ho (mh_md hh)
theorem mcand_md {cx : Nat → Nat → Nat} {x : Nat} {v : Nat → Nat} {s t : Nat} (hst : t ≠ s) (h : mcand cx x v t) : mcand cx x (md v s) t := by
  refine ⟨?_, mmx_md hst h.2⟩
  rw [md_ne hst]
  exact h.1
theorem mcand_top {mk : Nat → Nat} {cx : Nat → Nat → Nat} {v : Nat → Nat} {s t : Nat} (hH : MH mk cx) (h : MC mk cx v) (hst : t ≠ s) (hs : mmx cx v s) (ht : mmx cx v t) : mcand cx (mtop v s) (md v s) t := by
  refine ⟨?_, mmx_md hst ht⟩
  rw [md_ne hst]
  have hh := mh_top hs.2.1 (h.le6 hH s)
  exact ht.2.2 _ (h.lt18 hH hh) hh
theorem MX.top {mk : Nat → Nat} {cx : Nat → Nat → Nat} {v : Nat → Nat} {s : Nat} (hH : MH mk cx) (h : MC mk cx v) (hs : mmx cx v s) : MX mk cx (mtop v s) (md v s) := by
  have hh := mh_top hs.2.1 (h.le6 hH s)
  refine ⟨h.made hh, mh_top_not (h.le6 hH s), fun j => ?_⟩
  by_cases hj : j = s
  · subst hj
    obtain ⟨h1, h2⟩ := mtop_d (h.le6 hH j)
    have h3 := (hH.2.2 _ (h.made hh)).1
    rw [h1, h2] at h3
    rw [md_self, h3]
    exact Nat.le_refl _
  · rw [md_ne hj]
    exact h.2 _ hh j
theorem MX.dn {mk : Nat → Nat} {cx : Nat → Nat → Nat} {x : Nat} {v : Nat → Nat} {t : Nat} (h : MX mk cx x v) (ht : mcand cx x v t) : MX mk cx x (md v t) := by
  refine ⟨h.1, fun q => h.2.1 (mh_md q), fun j => ?_⟩
  by_cases hj : j = t
  · subst hj
    rw [md_self]
    have := ht.1
    omega
  · rw [md_ne hj]
    exact h.2.2 j
theorem MX.site {mk : Nat → Nat} {cx : Nat → Nat → Nat} {x : Nat} {v : Nat → Nat} {t : Nat} (hH : MH mk cx) (h : MX mk cx x v) (ht : mcand cx x v t) : x / 6 ≠ t := by
  intro e
  have h1 := (hH.2.2 x h.1).1
  have h2 := h.2.1
  have h3 := ht.1
  unfold mh at h2
  rw [← e] at h3
  omega
theorem mmv_spec (ix sx p iy sy q : Nat) : ((iy ≠ 0 ∧ q ≤ p ∧ (p ≠ q ∨ ix = 0 ∨ sy ≤ sx)) ∧ mmv ix sx p iy sy q = p + 1) ∨ (¬ (iy ≠ 0 ∧ q ≤ p ∧ (p ≠ q ∨ ix = 0 ∨ sy ≤ sx)) ∧ mmv ix sx p iy sy q = p) := by
  unfold mmv
  split
  · exact Or.inl ⟨by assumption, rfl⟩
  · exact Or.inr ⟨by assumption, rfl⟩
theorem mmv_0 {ix sx p iy sy q : Nat} (h : iy = 0) : mmv ix sx p iy sy q = p := by
  unfold mmv
  rw [if_neg (fun z => z.1 h)]
theorem mmv_1 {ix sx p iy sy q : Nat} (h : iy ≠ 0 ∧ q ≤ p ∧ (p ≠ q ∨ ix = 0 ∨ sy ≤ sx)) : mmv ix sx p iy sy q = p + 1 := if_pos h
theorem mmv_2 {ix sx p iy sy q : Nat} (h : p < q ∨ (p = q ∧ ix ≠ 0 ∧ sx < sy)) : mmv ix sx p iy sy q = p := by
  unfold mmv
  rw [if_neg]
  omega
/-- past two operations of two other sites, in either order -/
theorem mmv_tp2 (ix sx i1 s1 i2 s2 a b c : Nat) (h12 : s1 ≠ s2) (h1 : sx ≠ s1) (h2 : sx ≠ s2) : mmv ix sx (mmv ix sx a i2 s2 c) i1 s1 (mmv i1 s1 b i2 s2 c) = mmv ix sx (mmv ix sx a i1 s1 b) i2 s2 (mmv i2 s2 c i1 s1 b) := by
  by_cases g1 : i1 = 0
  · rw [mmv_0 g1, mmv_0 g1, mmv_0 g1]
  by_cases g2 : i2 = 0
  · rw [mmv_0 g2, mmv_0 g2, mmv_0 g2]
  have e1 := mmv_spec ix sx a i2 s2 c
  have e2 := mmv_spec i1 s1 b i2 s2 c
  have e3 := mmv_spec ix sx a i1 s1 b
  have e4 := mmv_spec i2 s2 c i1 s1 b
  generalize mmv ix sx a i2 s2 c = A2 at *
  generalize mmv i1 s1 b i2 s2 c = B at *
  generalize mmv ix sx a i1 s1 b = A1 at *
  generalize mmv i2 s2 c i1 s1 b = C at *
  have e5 := mmv_spec ix sx A2 i1 s1 B
  have e6 := mmv_spec ix sx A1 i2 s2 C
  rcases e1 with ⟨q1, e1⟩ | ⟨q1, e1⟩ <;> rcases e2 with ⟨q2, e2⟩ | ⟨q2, e2⟩ <;> rcases e3 with ⟨q3, e3⟩ | ⟨q3, e3⟩ <;> rcases e4 with ⟨q4, e4⟩ | ⟨q4, e4⟩ <;> rcases e5 with ⟨q5, e5⟩ | ⟨q5, e5⟩ <;> rcases e6 with ⟨q6, e6⟩ | ⟨q6, e6⟩ <;> omega
theorem mplace_none {ins pos : Nat → Nat} {cx : Nat → Nat → Nat} {x : Nat} {v : Nat → Nat} (h : mf (mcand cx x v) = none) : mplace ins pos cx x v = pos x := by
  unfold mplace
  cases hn : msz v with
  | zero => rfl
  | succ n => simp only [mpl, h]
theorem mplace_some {ins pos : Nat → Nat} {cx : Nat → Nat → Nat} {x t : Nat} {v : Nat → Nat} (h : mf (mcand cx x v) = some t) : mplace ins pos cx x v = mmv (ins x) (x / 6) (mplace ins pos cx x (md v t)) (ins (mtop v t)) t (mplace ins pos cx (mtop v t) (md v t)) := by
  have hc := mf_some h
  have hz := msz_md hc.2.1 hc.2.2.1
  unfold mplace
  rw [← hz]
  simp only [mpl, h]
/-- which y is taken doesn't matter -/
theorem mplace_any {ins pos : Nat → Nat} {mk : Nat → Nat} {cx : Nat → Nat → Nat} (hH : MH mk cx) : ∀ (n : Nat) (v : Nat → Nat) (x t : Nat), msz v = n → MC mk cx v → MX mk cx x v → mcand cx x v t → mplace ins pos cx x v = mmv (ins x) (x / 6) (mplace ins pos cx x (md v t)) (ins (mtop v t)) t (mplace ins pos cx (mtop v t) (md v t)) := by
  intro n
  induction n with
  | zero =>
    intro v x t hn hC hX ht
    have hz := msz_md ht.2.1 ht.2.2.1
    omega
  | succ n ih =>
    intro v x t hn hC hX ht
    cases hf : mf (mcand cx x v) with
    | none => exact absurd ht (mf_none hf t ht.2.1)
    | some r =>
      have hr := mf_some hf
      rw [mplace_some hf]
      by_cases hrt : r = t
      · rw [hrt]
      have hrt' : t ≠ r := fun q => hrt q.symm
      have zr := msz_md hr.2.1 hr.2.2.1
      have zt := msz_md ht.2.1 ht.2.2.1
      have Cr := hC.dn hH hr.2
      have Ct := hC.dn hH ht.2
      have tr : mtop (md v r) t = mtop v t := by unfold mtop; rw [md_ne hrt']
      have rt : mtop (md v t) r = mtop v r := by unfold mtop; rw [md_ne hrt]
      have e1 := ih (md v r) x t (by omega) Cr (hX.dn hr) (mcand_md hrt' ht)
      have e2 := ih (md v r) (mtop v r) t (by omega) Cr (MX.top hH hC hr.2) (mcand_top hH hC hrt' hr.2 ht.2)
      have e3 := ih (md v t) x r (by omega) Ct (hX.dn ht) (mcand_md hrt hr)
      have e4 := ih (md v t) (mtop v t) r (by omega) Ct (MX.top hH hC ht.2) (mcand_top hH hC hrt ht.2 hr.2)
      rw [tr] at e1 e2
      rw [rt] at e3 e4
      rw [md_comm v t r] at e3 e4
      rw [e1, e2, e3, e4, (mtop_d (hC.le6 hH r)).1, (mtop_d (hC.le6 hH t)).1]
      exact mmv_tp2 _ _ _ _ _ _ _ _ _ hrt (hX.site hH hr) (hX.site hH ht)
/-- there is such a y -/
theorem mcand_ex {mk : Nat → Nat} {cx : Nat → Nat → Nat} (hH : MH mk cx) {v : Nat → Nat} {x : Nat} (hC : MC mk cx v) (hX : MX mk cx x v) : ∀ (n t : Nat), t < 3 → cx x t < v t → msz v ≤ n + msz (cx (mtop v t)) → ∃ s, mcand cx x v s := by
  intro n
  induction n with
  | zero =>
    intro t ht h1 h2
    exfalso
    have hh := mh_top (v := v) (t := t) (by omega) (hC.le6 hH t)
    have a := hC.2 _ hh
    have h3 := (hH.2.2 _ (hC.made hh)).1
    rw [(mtop_d (hC.le6 hH t)).1, (mtop_d (hC.le6 hH t)).2] at h3
    have a0 := a 0
    have a1 := a 1
    have a2 := a 2
    unfold msz at h2
    rcases (show t = 0 ∨ t = 1 ∨ t = 2 by omega) with rfl | rfl | rfl <;> omega
  | succ n ih =>
    intro t ht h1 h2
    by_cases hm : mmx cx v t
    · exact ⟨t, h1, hm⟩
    · have h0 : 0 < v t := by omega
      have : ∃ o, o < 18 ∧ mh v o ∧ v t ≤ cx o t := by
        apply Classical.byContradiction
        intro hne
        apply hm
        refine ⟨ht, h0, fun o ho hh => ?_⟩
        apply Classical.byContradiction
        intro hlt
        exact hne ⟨o, ho, hh, by omega⟩
      obtain ⟨o, ho, hh, hv⟩ := this
      have hox : ¬ mh (cx x) o := by
        intro q
        have := (hH.2.2 x hX.1).2.2 o q t
        omega
      unfold mh at hox
      have hs : cx x (o / 6) < v (o / 6) := by
        have : o % 6 < v (o / 6) := hh
        omega
      have hs3 : o / 6 < 3 := by omega
      have h6 := hC.le6 hH (o / 6)
      have hht := mh_top (v := v) (t := o / 6) (by omega) h6
      obtain ⟨d1, d2⟩ := mtop_d h6
      have hz := (hH.2.2 _ (hC.made hht))
      rw [d1, d2] at hz
      have hoz : ∀ j, cx o j ≤ cx (mtop v (o / 6)) j := by
        intro j
        by_cases e : o = mtop v (o / 6)
        · rw [← e]; exact Nat.le_refl _
        · refine hz.2.2 o ?_ j
          unfold mh
          rw [hz.1]
          have : o % 6 < v (o / 6) := hh
          unfold mtop at e
          omega
      refine ih (o / 6) hs3 hs ?_
      have hty : mh (cx (mtop v (o / 6))) (mtop v t) := by
        obtain ⟨f1, f2⟩ := mtop_d (hC.le6 hH t)
        unfold mh
        rw [f1, f2]
        have := hoz t
        omega
      have hle := hz.2.2 _ hty
      have hhy := mh_top (v := v) (t := t) h0 (hC.le6 hH t)
      have hy := (hH.2.2 _ (hC.made hhy)).1
      rw [(mtop_d (hC.le6 hH t)).1, (mtop_d (hC.le6 hH t)).2] at hy
      have l0 := hle 0
      have l1 := hle 1
      have l2 := hle 2
      have lt := hoz t
      unfold msz at h2 ⊢
      rcases (show t = 0 ∨ t = 1 ∨ t = 2 by omega) with rfl | rfl | rfl <;> omega
theorem mcand_of_ne {mk : Nat → Nat} {cx : Nat → Nat → Nat} (hH : MH mk cx) {v : Nat → Nat} {x : Nat} (hC : MC mk cx v) (hX : MX mk cx x v) (hne : ¬ ∀ t, t < 3 → v t = cx x t) : ∃ s, mcand cx x v s := by
  have : ∃ t, t < 3 ∧ cx x t < v t := by
    apply Classical.byContradiction
    intro hn
    apply hne
    intro t ht
    apply Classical.byContradiction
    intro hq
    have := hX.2.2 t
    exact hn ⟨t, ht, by omega⟩
  obtain ⟨t, ht, h⟩ := this
  exact mcand_ex hH hC hX (msz v) t ht h (by omega)
/-! the row of cells: which insert made each -/
def mIn (f : Nat → Nat) (p y : Nat) : Nat → Nat := fun i => if i < p then f i else if i = p then y else f (i - 1)
def mst (ins : Nat → Nat) (f : Nat → Nat) (y p : Nat) : Nat → Nat := if ins y = 0 then f else mIn f p y
noncomputable def mrw (ins pos : Nat → Nat) (cx : Nat → Nat → Nat) : Nat → (Nat → Nat) → Nat → Nat
  | 0, _ => fun _ => 0
  | n + 1, v => match mf (mmx cx v) with
    | none => fun _ => 0
    | some t => mst ins (mrw ins pos cx n (md v t)) (mtop v t) (mplace ins pos cx (mtop v t) (md v t))
noncomputable def mrow (ins pos : Nat → Nat) (cx : Nat → Nat → Nat) (v : Nat → Nat) : Nat → Nat := mrw ins pos cx (msz v) v
theorem mrow_some {ins pos : Nat → Nat} {cx : Nat → Nat → Nat} {t : Nat} {v : Nat → Nat} (h : mf (mmx cx v) = some t) : mrow ins pos cx v = mst ins (mrow ins pos cx (md v t)) (mtop v t) (mplace ins pos cx (mtop v t) (md v t)) := by
  have hc := mf_some h
  have hz := msz_md hc.1 hc.2.1
  unfold mrow
  rw [← hz]
  simp only [mrw, h]
theorem mst_tp1 (ins : Nat → Nat) (f : Nat → Nat) (x y s t b c : Nat) (hst : s ≠ t) : mst ins (mst ins f y c) x (mmv (ins x) s b (ins y) t c) = mst ins (mst ins f x b) y (mmv (ins y) t c (ins x) s b) := by
  unfold mst
  by_cases hx : ins x = 0
  · rw [if_pos hx, if_pos hx, mmv_0 hx]
  by_cases hy : ins y = 0
  · rw [if_pos hy, if_pos hy, mmv_0 hy]
  rw [if_neg hx, if_neg hy, if_neg hy, if_neg hx]
  have e1 := mmv_spec (ins x) s b (ins y) t c
  have e2 := mmv_spec (ins y) t c (ins x) s b
  generalize mmv (ins x) s b (ins y) t c = B at *
  generalize mmv (ins y) t c (ins x) s b = C at *
  funext i
  unfold mIn
  rcases Nat.lt_trichotomy b c with hbc | hbc | hbc
  · have hB : B = b := by omega
    have hC : C = c + 1 := by omega
    subst hB
    subst hC
    by_cases g1 : i < B
    · rw [if_pos g1, if_pos (by omega), if_pos (by omega), if_pos g1]
    by_cases g2 : i = B
    · rw [if_neg g1, if_pos g2, if_pos (by omega), if_neg g1, if_pos g2]
    by_cases g3 : i < c + 1
    · rw [if_neg g1, if_neg g2, if_pos (by omega), if_pos g3, if_neg g1, if_neg g2]
    by_cases g4 : i = c + 1
    · rw [if_neg g1, if_neg g2, if_neg (by omega), if_pos (by omega), if_neg g3, if_pos g4]
    · rw [if_neg g1, if_neg g2, if_neg (by omega), if_neg (by omega), if_neg g3, if_neg g4, if_neg (by omega), if_neg (by omega)]
  · subst hbc
    by_cases hl : s < t
    · have hB : B = b := by omega
      have hC : C = b + 1 := by omega
      subst hB
      subst hC
      by_cases g1 : i < B
      · rw [if_pos g1, if_pos g1, if_pos (by omega), if_pos g1]
      by_cases g2 : i = B
      · rw [if_neg g1, if_pos g2, if_pos (by omega), if_neg g1, if_pos g2]
      by_cases g4 : i = B + 1
      · rw [if_neg g1, if_neg g2, if_neg (by omega), if_pos (by omega), if_neg (by omega), if_pos g4]
      · rw [if_neg g1, if_neg g2, if_neg (by omega), if_neg (by omega), if_neg (by omega), if_neg g4, if_neg (by omega), if_neg (by omega)]
    · have hB : B = b + 1 := by omega
      have hC : C = b := by omega
      subst hB
      subst hC
      by_cases g1 : i < C
      · rw [if_pos (by omega), if_pos g1, if_pos g1, if_pos g1]
      by_cases g2 : i = C
      · rw [if_pos (by omega), if_neg g1, if_pos g2, if_neg g1, if_pos g2]
      by_cases g4 : i = C + 1
      · rw [if_neg (by omega), if_pos g4, if_neg g1, if_neg g2, if_neg (by omega), if_pos (by omega)]
      · rw [if_neg (by omega), if_neg g4, if_neg (by omega), if_neg (by omega), if_neg g1, if_neg g2, if_neg (by omega), if_neg (by omega)]
  · have hB : B = b + 1 := by omega
    have hC : C = c := by omega
    subst hB
    subst hC
    by_cases g1 : i < C
    · rw [if_pos (by omega), if_pos g1, if_pos g1, if_pos (by omega)]
    by_cases g2 : i = C
    · rw [if_pos (by omega), if_neg g1, if_pos g2, if_neg g1, if_pos g2]
    by_cases g3 : i < b + 1
    · rw [if_pos g3, if_neg g1, if_neg g2, if_neg g1, if_neg g2, if_pos (by omega)]
    by_cases g4 : i = b + 1
    · rw [if_neg g3, if_pos g4, if_neg g1, if_neg g2, if_neg (by omega), if_pos (by omega)]
    · rw [if_neg g3, if_neg g4, if_neg (by omega), if_neg (by omega), if_neg g1, if_neg g2, if_neg (by omega), if_neg (by omega)]
theorem mrow_any {ins pos : Nat → Nat} {mk : Nat → Nat} {cx : Nat → Nat → Nat} (hH : MH mk cx) : ∀ (n : Nat) (v : Nat → Nat) (t : Nat), msz v = n → MC mk cx v → mmx cx v t → mrow ins pos cx v = mst ins (mrow ins pos cx (md v t)) (mtop v t) (mplace ins pos cx (mtop v t) (md v t)) := by
  intro n
  induction n with
  | zero =>
    intro v t hn hC ht
    have hz := msz_md ht.1 ht.2.1
    omega
  | succ n ih =>
    intro v t hn hC ht
    cases hf : mf (mmx cx v) with
    | none => exact absurd ht (mf_none hf t ht.1)
    | some r =>
      have hr := mf_some hf
      rw [mrow_some hf]
      by_cases hrt : r = t
      · rw [hrt]
      have hrt' : t ≠ r := fun q => hrt q.symm
      have zr := msz_md hr.1 hr.2.1
      have zt := msz_md ht.1 ht.2.1
      have Cr := hC.dn hH hr
      have Ct := hC.dn hH ht
      have tr : mtop (md v r) t = mtop v t := by unfold mtop; rw [md_ne hrt']
      have rt : mtop (md v t) r = mtop v r := by unfold mtop; rw [md_ne hrt]
      have e1 := ih (md v r) t (by omega) Cr (mmx_md hrt' ht)
      have e2 := mplace_any (ins := ins) (pos := pos) hH n (md v r) (mtop v r) t (by omega) Cr (MX.top hH hC hr) (mcand_top hH hC hrt' hr ht)
      have e3 := ih (md v t) r (by omega) Ct (mmx_md hrt hr)
      have e4 := mplace_any (ins := ins) (pos := pos) hH n (md v t) (mtop v t) r (by omega) Ct (MX.top hH hC ht) (mcand_top hH hC hrt ht hr)
      rw [tr] at e1 e2
      rw [rt] at e3 e4
      rw [md_comm v t r] at e3 e4
      rw [e1, e2, e3, e4, (mtop_d (hC.le6 hH r)).1, (mtop_d (hC.le6 hH t)).1]
      exact mst_tp1 _ _ _ _ _ _ _ _ hrt
/-- an erase's place is where its cell is -/
theorem mrow_erase {ins pos tg : Nat → Nat} {mk : Nat → Nat} {cx : Nat → Nat → Nat} (hH : MH mk cx) {x : Nat} (h0 : ins x = 0) (hb : mrow ins pos cx (cx x) (pos x) = tg x) (hc3 : ∀ t, 3 ≤ t → cx x t = 0) : ∀ (n : Nat) (v : Nat → Nat), msz v = n → MC mk cx v → MX mk cx x v → mrow ins pos cx v (mplace ins pos cx x v) = tg x := by
  intro n
  induction n with
  | zero =>
    intro v hn hC hX
    have hv : v = cx x := by
      funext t
      have := hX.2.2 t
      unfold msz at hn
      by_cases ht : t < 3
      · rcases (show t = 0 ∨ t = 1 ∨ t = 2 by omega) with rfl | rfl | rfl <;> omega
      · have h1 := hC.1 t
        rw [hH.2.1 t (by omega)] at h1
        omega
    rw [mplace_none (mf_not (fun j hj q => by
      have := q.1
      rw [hv] at this
      omega)), hv]
    exact hb
  | succ n ih =>
    intro v hn hC hX
    by_cases hv : ∀ t, t < 3 → v t = cx x t
    · have hv : v = cx x := by
        funext t
        by_cases ht : t < 3
        · exact hv t ht
        · have h1 := hC.1 t
          rw [hH.2.1 t (by omega)] at h1
          rw [hc3 t (by omega)]
          omega
      rw [mplace_none (mf_not (fun j hj q => by
        have := q.1
        rw [hv] at this
        omega)), hv]
      exact hb
    · obtain ⟨t, ht⟩ := mcand_of_ne hH hC hX hv
      have zt := msz_md ht.2.1 ht.2.2.1
      have e := ih (md v t) (by omega) (hC.dn hH ht.2) (hX.dn ht)
      rw [mplace_any (ins := ins) (pos := pos) hH _ v x t rfl hC hX ht, mrow_any (ins := ins) (pos := pos) hH _ v t rfl hC ht.2, h0]
      generalize mplace ins pos cx x (md v t) = p at *
      generalize mplace ins pos cx (mtop v t) (md v t) = q
      unfold mst
      by_cases hy : ins (mtop v t) = 0
      · rw [if_pos hy, mmv_0 hy]
        exact e
      · rw [if_neg hy]
        unfold mIn
        by_cases hpq : q ≤ p
        · rw [mmv_1 ⟨hy, hpq, Or.inr (Or.inl rfl)⟩, if_neg (by omega), if_neg (by omega)]
          exact e
        · rw [mmv_2 (Or.inl (by omega)), if_pos (by omega)]
          exact e
/-! sums -/
def msum (f : Nat → Nat) : Nat → Nat
  | 0 => 0
  | n + 1 => msum f n + f n
theorem msum_congr {f g : Nat → Nat} : ∀ {n : Nat}, (∀ i, i < n → f i = g i) → msum f n = msum g n
  | 0, _ => rfl
  | n + 1, h => by
    simp only [msum]
    rw [msum_congr (n := n) (fun i hi => h i (by omega)), h n (by omega)]
theorem msum_le {f g : Nat → Nat} : ∀ {n : Nat}, (∀ i, i < n → f i ≤ g i) → msum f n ≤ msum g n
  | 0, _ => Nat.le_refl _
  | n + 1, h => by
    simp only [msum]
    exact Nat.add_le_add (msum_le (n := n) (fun i hi => h i (by omega))) (h n (by omega))
theorem msum_one {f g : Nat → Nat} {a d : Nat} : ∀ {n : Nat}, a < n → (∀ i, i < n → i ≠ a → f i = g i) → f a = g a + d → msum f n = msum g n + d
  | 0, h, _, _ => absurd h (Nat.not_lt_zero _)
  | n + 1, h, h1, h2 => by
    simp only [msum]
    by_cases e : a = n
    · subst e
      rw [msum_congr (n := a) (f := f) (g := g) (fun i hi => h1 i (by omega) (by omega)), h2]
      omega
    · rw [msum_one (n := n) (by omega) (fun i hi hne => h1 i (by omega) hne) h2, h1 n (by omega) (fun q => e q.symm)]
      omega
theorem msum_bound {f : Nat → Nat} {c : Nat} : ∀ {n : Nat}, (∀ i, i < n → f i ≤ c) → msum f n ≤ c * n
  | 0, _ => Nat.le_refl _
  | n + 1, h => by
    simp only [msum]
    have h1 := msum_bound (n := n) (fun i hi => h i (by omega))
    have h2 := h n (by omega)
    rw [Nat.mul_succ]
    omega
/-- how many inserts v has -/
def mcnt (ins : Nat → Nat) (v : Nat → Nat) : Nat := msum (fun o => if o % 6 < v (o / 6) ∧ ins o ≠ 0 then 1 else 0) 18
theorem mcnt_mono {ins : Nat → Nat} {v w : Nat → Nat} (h : ∀ t, v t ≤ w t) : mcnt ins v ≤ mcnt ins w := by
  unfold mcnt
  refine msum_le (fun i _ => ?_)
  have := h (i / 6)
  split
  · rename_i q
    rw [if_pos ⟨by omega, q.2⟩]
    exact Nat.le_refl _
  · exact Nat.zero_le _
theorem mcnt_md {ins : Nat → Nat} {v : Nat → Nat} {t : Nat} (ht : t < 3) (h0 : 0 < v t) (h6 : v t ≤ 6) : mcnt ins v = mcnt ins (md v t) + (if ins (mtop v t) ≠ 0 then 1 else 0) := by
  obtain ⟨d1, d2⟩ := mtop_d h6
  unfold mcnt
  refine msum_one (a := mtop v t) (by unfold mtop; omega) (fun i _ hne => ?_) ?_
  · by_cases hh : mh v i
    · have h2 := mh_md_ne hh hne
      unfold mh at hh h2
      by_cases hi : ins i ≠ 0
      · rw [if_pos ⟨hh, hi⟩, if_pos ⟨h2, hi⟩]
      · rw [if_neg (fun q => hi q.2), if_neg (fun q => hi q.2)]
    · have h2 : ¬ mh (md v t) i := fun q => hh (mh_md q)
      unfold mh at hh h2
      rw [if_neg (fun q => hh q.1), if_neg (fun q => h2 q.1)]
  · rw [d1, d2, md_self, if_neg (c := v t - 1 < v t - 1 ∧ _) (fun q => absurd q.1 (Nat.lt_irrefl _)), Nat.zero_add]
    by_cases hi : ins (mtop v t) ≠ 0
    · rw [if_pos hi, if_pos ⟨by omega, hi⟩]
    · rw [if_neg hi, if_neg (fun q => hi q.2)]
theorem mcnt_18 (ins v : Nat → Nat) : mcnt ins v ≤ 18 := by
  unfold mcnt
  have := msum_bound (f := fun o => if o % 6 < v (o / 6) ∧ ins o ≠ 0 then 1 else 0) (c := 1) (n := 18) (fun i _ => by split <;> omega)
  omega
theorem mmv_le (ix sx p iy sy q : Nat) : mmv ix sx p iy sy q ≤ p + (if iy ≠ 0 then 1 else 0) := by
  have := mmv_spec ix sx p iy sy q
  split <;> omega
/-- a place is in the row -/
theorem mplace_in {ins pos : Nat → Nat} {mk : Nat → Nat} {cx : Nat → Nat → Nat} (hH : MH mk cx) (d : Nat → Nat) (hp : ∀ o, mh mk o → pos o + d o ≤ mcnt ins (cx o)) : ∀ (n : Nat) (v : Nat → Nat) (x : Nat), msz v = n → MC mk cx v → MX mk cx x v → mplace ins pos cx x v + d x ≤ mcnt ins v := by
  intro n
  induction n with
  | zero =>
    intro v x hn hC hX
    cases hf : mf (mcand cx x v) with
    | none =>
      rw [mplace_none hf]
      exact Nat.le_trans (hp x hX.1) (mcnt_mono hX.2.2)
    | some r =>
      have hr := mf_some hf
      have zr := msz_md hr.2.1 hr.2.2.1
      omega
  | succ n ih =>
    intro v x hn hC hX
    cases hf : mf (mcand cx x v) with
    | none =>
      rw [mplace_none hf]
      exact Nat.le_trans (hp x hX.1) (mcnt_mono hX.2.2)
    | some r =>
      have hr := mf_some hf
      have zr := msz_md hr.2.1 hr.2.2.1
      have e := ih (md v r) x (by omega) (hC.dn hH hr.2) (hX.dn hr)
      rw [mplace_some hf, mcnt_md hr.2.1 hr.2.2.1 (hC.le6 hH r)]
      have := mmv_le (ins x) (x / 6) (mplace ins pos cx x (md v r)) (ins (mtop v r)) r (mplace ins pos cx (mtop v r) (md v r))
      omega
/-- what isn't in v doesn't matter -/
theorem mpl_congr {ins pos ins' pos' : Nat → Nat} {cx cx' : Nat → Nat → Nat} : ∀ (n x : Nat) (v : Nat → Nat), (∀ t, v t ≤ 6) → (ins x = ins' x ∧ pos x = pos' x ∧ cx x = cx' x) → (∀ o, mh v o → ins o = ins' o ∧ pos o = pos' o ∧ cx o = cx' o) → mpl ins pos cx n x v = mpl ins' pos' cx' n x v := by
  intro n
  induction n with
  | zero => intro x v h6 hx hv; exact hx.2.1
  | succ n ih =>
    intro x v h6 hx hv
    have hf : mf (mcand cx x v) = mf (mcand cx' x v) := by
      refine mf_congr (fun t => ?_)
      unfold mcand mmx
      rw [hx.2.2]
      constructor
      · rintro ⟨a, b, c, e⟩
        exact ⟨a, b, c, fun o ho hh => by rw [← (hv o hh).2.2]; exact e o ho hh⟩
      · rintro ⟨a, b, c, e⟩
        exact ⟨a, b, c, fun o ho hh => by rw [(hv o hh).2.2]; exact e o ho hh⟩
    simp only [mpl]
    rw [← hf]
    cases hr : mf (mcand cx x v) with
    | none => exact hx.2.1
    | some r =>
      have hc := mf_some hr
      have ht := hv _ (mh_top hc.2.2.1 (h6 r))
      have h6' : ∀ t, md v r t ≤ 6 := fun t => by
        have := h6 t
        unfold md
        split <;> omega
      show mmv _ _ _ _ _ _ = mmv _ _ _ _ _ _
      rw [ih x (md v r) h6' hx (fun o hh => hv o (mh_md hh)), ih (mtop v r) (md v r) h6' ht (fun o hh => hv o (mh_md hh)), hx.1, ht.1]
theorem mplace_congr {ins pos ins' pos' : Nat → Nat} {cx cx' : Nat → Nat → Nat} {x : Nat} {v : Nat → Nat} (h6 : ∀ t, v t ≤ 6) (hx : ins x = ins' x ∧ pos x = pos' x ∧ cx x = cx' x) (hv : ∀ o, mh v o → ins o = ins' o ∧ pos o = pos' o ∧ cx o = cx' o) : mplace ins pos cx x v = mplace ins' pos' cx' x v := mpl_congr _ _ _ h6 hx hv
theorem mrw_congr {ins pos ins' pos' : Nat → Nat} {cx cx' : Nat → Nat → Nat} : ∀ (n : Nat) (v : Nat → Nat), (∀ t, v t ≤ 6) → (∀ o, mh v o → ins o = ins' o ∧ pos o = pos' o ∧ cx o = cx' o) → mrw ins pos cx n v = mrw ins' pos' cx' n v := by
  intro n
  induction n with
  | zero => intro v h6 hv; rfl
  | succ n ih =>
    intro v h6 hv
    have hf : mf (mmx cx v) = mf (mmx cx' v) := by
      refine mf_congr (fun t => ?_)
      unfold mmx
      constructor
      · rintro ⟨b, c, e⟩
        exact ⟨b, c, fun o ho hh => by rw [← (hv o hh).2.2]; exact e o ho hh⟩
      · rintro ⟨b, c, e⟩
        exact ⟨b, c, fun o ho hh => by rw [(hv o hh).2.2]; exact e o ho hh⟩
    simp only [mrw]
    rw [← hf]
    cases hr : mf (mmx cx v) with
    | none => rfl
    | some r =>
      have hc := mf_some hr
      have ht := hv _ (mh_top hc.2.1 (h6 r))
      have h6' : ∀ t, md v r t ≤ 6 := fun t => by
        have := h6 t
        unfold md
        split <;> omega
      show mst _ _ _ _ = mst _ _ _ _
      rw [ih (md v r) h6' (fun o hh => hv o (mh_md hh)), mplace_congr h6' ht (fun o hh => hv o (mh_md hh))]
      unfold mst
      rw [ht.1]
theorem mrow_congr {ins pos ins' pos' : Nat → Nat} {cx cx' : Nat → Nat → Nat} {v : Nat → Nat} (h6 : ∀ t, v t ≤ 6) (hv : ∀ o, mh v o → ins o = ins' o ∧ pos o = pos' o ∧ cx o = cx' o) : mrow ins pos cx v = mrow ins' pos' cx' v := mrw_congr _ _ h6 hv
theorem mcnt_congr {ins ins' : Nat → Nat} {v : Nat → Nat} (hv : ∀ o, mh v o → ins o = ins' o) : mcnt ins v = mcnt ins' v := by
  unfold mcnt
  refine msum_congr (fun i _ => ?_)
  by_cases hh : mh v i
  · rw [hv i hh]
  · unfold mh at hh
    rw [if_neg (fun q => hh q.1), if_neg (fun q => hh q.1)]
/-! one operation more -/
def mu (v : Nat → Nat) (t : Nat) : Nat → Nat := fun j => if j = t then v j + 1 else v j
theorem mu_self {v : Nat → Nat} {t : Nat} : mu v t t = v t + 1 := by simp [mu]
theorem mu_ne {v : Nat → Nat} {t j : Nat} (h : j ≠ t) : mu v t j = v j := by simp [mu, h]
theorem md_mu (v : Nat → Nat) (t : Nat) : md (mu v t) t = v := by
  funext j
  unfold md mu
  split <;> omega
theorem mtop_mu (v : Nat → Nat) (t : Nat) : mtop (mu v t) t = 6 * t + v t := by
  unfold mtop
  rw [mu_self]
  omega
theorem mh_mu {v : Nat → Nat} {t o : Nat} (h6 : v t < 6) (h : mh (mu v t) o) : mh v o ∨ o = 6 * t + v t := by
  unfold mh mu at *
  split at h
  · rename_i e
    rw [e] at h ⊢
    omega
  · exact Or.inl h
theorem mh_mu_of {v : Nat → Nat} {t o : Nat} (h : mh v o) : mh (mu v t) o := by
  unfold mh mu at *
  split <;> omega
/-- x is ready at v -/
theorem MX.ready {mk : Nat → Nat} {cx : Nat → Nat → Nat} {x : Nat} {v : Nat → Nat} (hx : mh mk x) (hv : v (x / 6) = x % 6) (hc : ∀ t, cx x t ≤ v t) : MX mk cx x v := ⟨hx, by unfold mh; omega, hc⟩
theorem MC.inc {mk : Nat → Nat} {cx : Nat → Nat → Nat} {x : Nat} {v : Nat → Nat} (hH : MH mk cx) (hC : MC mk cx v) (hx : mh mk x) (hv : v (x / 6) = x % 6) (hc : ∀ t, cx x t ≤ v t) : MC mk cx (mu v (x / 6)) ∧ mmx cx (mu v (x / 6)) (x / 6) := by
  have hx' : x % 6 < mk (x / 6) := hx
  have h6 := hH.1 (x / 6)
  have hx3 : x / 6 < 3 := by
    by_cases q : x / 6 < 3
    · exact q
    · have := hH.2.1 (x / 6) (by omega)
      omega
  have key : ∀ o, mh (mu v (x / 6)) o → ∀ t, cx o t ≤ v t := by
    intro o ho t
    rcases mh_mu (by omega) ho with h | h
    · exact hC.2 o h t
    · rw [hv] at h
      rw [show o = x by omega]
      exact hc t
  refine ⟨⟨fun t => ?_, fun o ho t => ?_⟩, hx3, ?_, fun o _ ho => ?_⟩
  · by_cases e : t = x / 6
    · subst e
      rw [mu_self]
      omega
    · rw [mu_ne e]
      exact hC.1 t
  · have := key o ho t
    unfold mu
    split <;> omega
  · rw [mu_self]; omega
  · have := key o ho (x / 6)
    rw [mu_self]
    omega
theorem mrow_mu {ins pos : Nat → Nat} {mk : Nat → Nat} {cx : Nat → Nat → Nat} {x : Nat} {v : Nat → Nat} (hH : MH mk cx) (hC : MC mk cx v) (hx : mh mk x) (hv : v (x / 6) = x % 6) (hc : ∀ t, cx x t ≤ v t) : mrow ins pos cx (mu v (x / 6)) = mst ins (mrow ins pos cx v) x (mplace ins pos cx x v) := by
  obtain ⟨h1, h2⟩ := MC.inc hH hC hx hv hc
  have e := mrow_any (ins := ins) (pos := pos) hH _ (mu v (x / 6)) (x / 6) rfl h1 h2
  rw [md_mu, mtop_mu, hv, show 6 * (x / 6) + x % 6 = x by omega] at e
  exact e
theorem mcnt_mu {ins : Nat → Nat} {x : Nat} {v : Nat → Nat} (hx3 : x / 6 < 3) (hv : v (x / 6) = x % 6) : mcnt ins (mu v (x / 6)) = mcnt ins v + (if ins x ≠ 0 then 1 else 0) := by
  have e := mcnt_md (ins := ins) (v := mu v (x / 6)) (t := x / 6) hx3 (by rw [mu_self]; omega) (by rw [mu_self]; omega)
  rw [md_mu, mtop_mu, hv, show 6 * (x / 6) + x % 6 = x by omega] at e
  exact e
/-- at its own context an operation has its position -/
theorem mplace_own {ins pos : Nat → Nat} {cx : Nat → Nat → Nat} {x : Nat} {v : Nat → Nat} (h : ∀ t, t < 3 → v t = cx x t) : mplace ins pos cx x v = pos x := mplace_none (mf_not (fun j hj q => by
  have := q.1
  have := h j hj
  omega))
/-- only the last operations matter -/
theorem mmx_tops {mk : Nat → Nat} {cx : Nat → Nat → Nat} {v : Nat → Nat} {t : Nat} (hH : MH mk cx) (hC : MC mk cx v) (ht : t < 3) (h0 : 0 < v t) (h : ∀ s, s < 3 → 0 < v s → cx (mtop v s) t < v t) : mmx cx v t := by
  refine ⟨ht, h0, fun o ho hh => ?_⟩
  have hv : o % 6 < v (o / 6) := hh
  have h1 := h (o / 6) (by omega) (by omega)
  have h6 := hC.le6 hH (o / 6)
  have hht := mh_top (v := v) (t := o / 6) (by omega) h6
  obtain ⟨d1, d2⟩ := mtop_d h6
  have hz := (hH.2.2 _ (hC.made hht))
  rw [d1, d2] at hz
  by_cases e : o = mtop v (o / 6)
  · rw [← e] at h1
    exact h1
  · have := hz.2.2 o (by
      unfold mh
      rw [hz.1]
      unfold mtop at e
      omega) t
    omega
