/-! The class's world: 0 the object, 1 its history, 2 the row of operations, 3 the row of known places, 4 the row of copies; copy s: 10 + 4s, its rows behind it; operation o: 100 + o. What they hold is ρ: kind 10s: rowLength, vector, arrivedCount, executedOfOthers; 10s + 1: row (2c + 1: c visible, 2c: invisible); 10s + 2: arrived; 10s + 3: places + 1; 40: in the row of operations; 41: made at all; 50: known places + 1; 60 + o: character, position, context, site, number. -/
def sI (n : Nat) : Int32 := if n % 2 = 1 then nI (n / 2) else -nI (n / 2)
def evv (v : Nat → Nat) : Nat := v 0 + 8 * v 1 + 64 * v 2
def p8 (S : Nat) : Nat := if S = 2 then 64 else 512
def cw_cp (ad : Nat → Nat) (ρ : rS) (s : Nat) : List Value := [.int (nI s), .ref (ad (11 + 4 * s)), .int (nI (ρ (10 * s) 0)), .int (nI (ρ (10 * s) 1)), .ref (ad (12 + 4 * s)), .int (nI (ρ (10 * s) 2)), .int (nI (ρ (10 * s) 3)), .ref (ad (13 + 4 * s))]
def cw_op (ρ : rS) (o : Nat) : List Value := [.int (nI (ρ (60 + o) 3)), .int (nI (ρ (60 + o) 4)), .int (nI (ρ (60 + o) 0)), .int (nI (ρ (60 + o) 1)), .int (nI (ρ (60 + o) 2))]
def cw_md (ad : Nat → Nat) (ρ : rS) (o : Nat) : Option Nat := if ρ 40 o = 0 then none else some (ad (100 + o))
def cw_row (ρ : rS) (s : Nat) : gE := .inl (.int, 18, .inl (fun j => sI (ρ (10 * s + 1) j)))
def cw_arr (ρ : rS) (s : Nat) : gE := .inl (.boolean, 18, .inl (fun j => nI (ρ (10 * s + 2) j)))
def cw_plc (ρ : rS) (s : Nat) : gE := .inl (.int, 18, .inl (fun j => nI (ρ (10 * s + 3) j) - 1))
def cw_kn (ρ : rS) (S : Nat) : gE := .inl (.int, S * p8 S, .inl (fun j => nI (ρ 50 j) - 1))
def cw_made (ad : Nat → Nat) (ρ : rS) (S : Nat) : gE := .inl (.object "TombstoneSites$Operation", 6 * S, .inr (.inr (.inr (.inr (cw_md ad ρ)))))
def cw_cps (ad : Nat → Nat) (S : Nat) : gE := .inl (.object "TombstoneSites$Copy", S, .inr (.inr (.inr (.inr (fun s => if s < S then some (ad (10 + 4 * s)) else none)))))
def c_bl (ρ : rS) : Prop := ∀ k j, ρ k j < 1000 ∧ ((k = 2 ∨ k = 12 ∨ k = 22) → ρ k j < 2)
theorem c_lt {ρ : rS} (h : c_bl ρ) (k j : Nat) : ρ k j < 2 ^ 31 := Nat.lt_of_lt_of_le (h k j).1 (by decide)
theorem c_lt1 {ρ : rS} (h : c_bl ρ) (k j : Nat) : ρ k j < 1000 := (h k j).1
/-- cell number q of the class's world, as ρ has it -/
def cw_at (S : Nat) (ρ : rS) (ad : Nat → Nat) (w : gW) : Prop :=
  w 0 = some (.inr (3, [.int (nI S), .ref (ad 1), .ref (ad 4)])) ∧ w 1 = some (.inr (1, [.int (nI S), .ref (ad 2), .ref (ad 3)])) ∧ w 2 = some (cw_made ad ρ S) ∧ w 3 = some (cw_kn ρ S) ∧ w 4 = some (cw_cps ad S) ∧
  (∀ s, s < S → w (10 + 4 * s) = some (.inr (0, cw_cp ad ρ s)) ∧ w (11 + 4 * s) = some (cw_row ρ s) ∧ w (12 + 4 * s) = some (cw_arr ρ s) ∧ w (13 + 4 * s) = some (cw_plc ρ s)) ∧
  ∀ o, o < 18 → (ρ 41 o ≠ 0 → w (100 + o) = some (.inr (2, cw_op ρ o))) ∧ (ρ 41 o = 0 → w (100 + o) = none)
def CW (S : Nat) (ρ : rS) (ad0 : Nat → Nat) (w0 : gW) : (Nat → Nat) → gW → Prop := fun ad w =>
  ad = ad0 ∧ (∀ q, 200 ≤ q → w q = w0 q) ∧ cw_at S ρ ad0 w ∧ c_bl ρ ∧ (S = 2 ∨ S = 3)
theorem cw_bl {S : Nat} {ρ : rS} {ad0 : Nat → Nat} {w0 : gW} : ∀ ad w, CW S ρ ad0 w0 ad w → c_bl ρ ∧ (S = 2 ∨ S = 3) := fun ad w h => h.2.2.2
theorem cw_ts {S : Nat} {ρ : rS} {ad0 : Nat → Nat} {w0 : gW} : ∀ ad w, CW S ρ ad0 w0 ad w → ad 0 = ad0 0 ∧ w 0 = some (.inr (3, [.int (nI S), .ref (ad0 1), .ref (ad0 4)])) := fun ad w h => ⟨by rw [h.1], h.2.2.1.1⟩
theorem cw_hi {S : Nat} {ρ : rS} {ad0 : Nat → Nat} {w0 : gW} : ∀ ad w, CW S ρ ad0 w0 ad w → ad 1 = ad0 1 ∧ w 1 = some (.inr (1, [.int (nI S), .ref (ad0 2), .ref (ad0 3)])) := fun ad w h => ⟨by rw [h.1], h.2.2.1.2.1⟩
theorem cw_co {S : Nat} {ρ : rS} {ad0 : Nat → Nat} {w0 : gW} {s : Nat} (hs : s < S) : ∀ ad w, CW S ρ ad0 w0 ad w → ad (10 + 4 * s) = ad0 (10 + 4 * s) ∧ w (10 + 4 * s) = some (.inr (0, cw_cp ad0 ρ s)) := fun ad w h => ⟨by rw [h.1], (h.2.2.1.2.2.2.2.2.1 s hs).1⟩
theorem cw_o {S : Nat} {ρ : rS} {ad0 : Nat → Nat} {w0 : gW} {o : Nat} (ho : o < 18) (h4 : ρ 41 o ≠ 0) : ∀ ad w, CW S ρ ad0 w0 ad w → ad (100 + o) = ad0 (100 + o) ∧ w (100 + o) = some (.inr (2, cw_op ρ o)) := fun ad w h => ⟨by rw [h.1], (h.2.2.1.2.2.2.2.2.2 o ho).1 h4⟩
/-- one cell changes, and ρ at one place -/
theorem cw_up {S : Nat} {ρ : rS} {ad0 : Nat → Nat} {w0 : gW} {q k j x : Nat} {e : gE} (hx : x < 1000 ∧ ((k = 2 ∨ k = 12 ∨ k = 22) → x < 2)) (hq : q < 200) (h41 : k ≠ 41)
    (h0 : q ≠ 0) (h1 : q ≠ 1) (h2 : cw_made ad0 (u2 ρ k j x) S = if q = 2 then e else cw_made ad0 ρ S) (h3 : cw_kn (u2 ρ k j x) S = if q = 3 then e else cw_kn ρ S) (h4 : q ≠ 4)
    (h5 : ∀ s, s < S → (.inr (0, cw_cp ad0 (u2 ρ k j x) s) : gE) = (if q = 10 + 4 * s then e else .inr (0, cw_cp ad0 ρ s)) ∧ cw_row (u2 ρ k j x) s = (if q = 11 + 4 * s then e else cw_row ρ s) ∧ cw_arr (u2 ρ k j x) s = (if q = 12 + 4 * s then e else cw_arr ρ s) ∧ cw_plc (u2 ρ k j x) s = (if q = 13 + 4 * s then e else cw_plc ρ s))
    (h6 : ∀ o, o < 18 → ((.inr (2, cw_op (u2 ρ k j x) o) : gE) = if q = 100 + o then e else .inr (2, cw_op ρ o)) ∧ (q = 100 + o → ρ 41 o ≠ 0)) :
    ∀ ad w, CW S ρ ad0 w0 ad w → CW S (u2 ρ k j x) ad0 w0 ad (va_up w q (some e)) := by
  intro ad w h
  obtain ⟨a, b, ⟨c0, c1, c2, c3, c4, c5, c6⟩, d, f⟩ := h
  have key : ∀ (q' : Nat) (e' e2 : gE), w q' = some e' → e2 = (if q = q' then e else e') → va_up w q (some e) q' = some e2 := by
    intro q' e' e2 h he
    by_cases z : q = q'
    · subst z
      rw [va_up_self, he, if_pos rfl]
    · rw [va_up_ne _ _ (fun y => z y.symm), h, he, if_neg z]
  refine ⟨a, fun q' hq' => ?_, ⟨?_, ?_, key 2 _ _ c2 h2, key 3 _ _ c3 h3, ?_, fun s hs => ?_, fun o ho => ?_⟩, fun k' j' => ?_, f⟩
  · rw [va_up_ne _ _ (by omega)]
    exact b q' hq'
  · rw [va_up_ne _ _ (fun y => h0 y.symm)]
    exact c0
  · rw [va_up_ne _ _ (fun y => h1 y.symm)]
    exact c1
  · rw [va_up_ne _ _ (fun y => h4 y.symm)]
    exact c4
  · obtain ⟨g1, g2, g3, g4⟩ := c5 s hs
    obtain ⟨e1, e2, e3, e4⟩ := h5 s hs
    exact ⟨key _ _ _ g1 e1, key _ _ _ g2 e2, key _ _ _ g3 e3, key _ _ _ g4 e4⟩
  · obtain ⟨g1, g2⟩ := c6 o ho
    obtain ⟨e1, e2⟩ := h6 o ho
    rw [u2_ne (fun y => h41 y.symm)]
    refine ⟨fun z => key _ _ _ (g1 z) e1, fun z => ?_⟩
    rw [va_up_ne _ _ (fun y => e2 y.symm z)]
    exact g2 z
  · unfold u2
    split
    · rename_i z
      rw [z.1]
      exact hx
    · exact d k' j'
theorem cwf_made {ad : Nat → Nat} {ρ : rS} {S k j x : Nat} (h : k ≠ 40) : cw_made ad (u2 ρ k j x) S = cw_made ad ρ S := by
  unfold cw_made
  congr 7
  funext o
  unfold cw_md
  rw [u2_ne (fun y => h y.symm)]
theorem cwf_kn {ρ : rS} {S k j x : Nat} (h : k ≠ 50) : cw_kn (u2 ρ k j x) S = cw_kn ρ S := by
  unfold cw_kn
  rw [u2_ne (fun y => h y.symm)]
theorem cwf_cp {ad : Nat → Nat} {ρ : rS} {s k j x : Nat} (h : k ≠ 10 * s) : cw_cp ad (u2 ρ k j x) s = cw_cp ad ρ s := by
  unfold cw_cp
  rw [u2_ne (fun y => h y.symm)]
theorem cwf_row {ρ : rS} {s k j x : Nat} (h : k ≠ 10 * s + 1) : cw_row (u2 ρ k j x) s = cw_row ρ s := by
  unfold cw_row
  rw [u2_ne (fun y => h y.symm)]
theorem cwf_arr {ρ : rS} {s k j x : Nat} (h : k ≠ 10 * s + 2) : cw_arr (u2 ρ k j x) s = cw_arr ρ s := by
  unfold cw_arr
  rw [u2_ne (fun y => h y.symm)]
theorem cwf_plc {ρ : rS} {s k j x : Nat} (h : k ≠ 10 * s + 3) : cw_plc (u2 ρ k j x) s = cw_plc ρ s := by
  unfold cw_plc
  rw [u2_ne (fun y => h y.symm)]
theorem cwf_op {ρ : rS} {o k j x : Nat} (h : k ≠ 60 + o) : cw_op (u2 ρ k j x) o = cw_op ρ o := by
  unfold cw_op
  rw [u2_ne (fun y => h y.symm)]
theorem cwe_i {f : Nat → Nat} {g : Nat → Int32} {j x : Nat} (en : Nat → Int32) (hg : g = fun i => en (f i)) : va_up g j (en x) = fun i => en (va_up f j x i) := by
  subst hg
  funext i
  unfold va_up
  split <;> rfl
theorem u2_fun {ρ : rS} {k j x : Nat} : u2 ρ k j x k = va_up (ρ k) j x := by
  funext i
  rw [u2_in]
  rfl
/-- a row of copy s, or a field of it, or the known places: which cell changes -/
theorem cw_uprow {S : Nat} {ρ : rS} {ad0 : Nat → Nat} {w0 : gW} {s j x : Nat} (hS : S ≤ 3) (hs : s < S) (hx : x < 1000) : ∀ ad w, CW S ρ ad0 w0 ad w → CW S (u2 ρ (10 * s + 1) j x) ad0 w0 ad (va_up w (11 + 4 * s) (some (.inl (.int, 18, .inl (va_up (fun j => sI (ρ (10 * s + 1) j)) j (sI x)))))) := by
  refine cw_up ⟨hx, fun z => by omega⟩ (by omega) (by omega) (by omega) (by omega) ?_ ?_ (by omega) (fun s' hs' => ⟨?_, ?_, ?_, ?_⟩) (fun o ho => ⟨?_, fun z => by omega⟩)
  · rw [if_neg (by omega), cwf_made (by omega)]
  · rw [if_neg (by omega), cwf_kn (by omega)]
  · rw [if_neg (by omega), cwf_cp (by omega)]
  · by_cases e : s' = s
    · subst e
      rw [if_pos rfl]
      unfold cw_row
      rw [u2_fun, cwe_i sI rfl]
    · rw [if_neg (by omega), cwf_row (by omega)]
  · rw [if_neg (by omega), cwf_arr (by omega)]
  · rw [if_neg (by omega), cwf_plc (by omega)]
  · rw [if_neg (by omega), cwf_op (by omega)]
theorem cw_upplc {S : Nat} {ρ : rS} {ad0 : Nat → Nat} {w0 : gW} {s j x : Nat} (hS : S ≤ 3) (hs : s < S) (hx : x < 1000) : ∀ ad w, CW S ρ ad0 w0 ad w → CW S (u2 ρ (10 * s + 3) j x) ad0 w0 ad (va_up w (13 + 4 * s) (some (.inl (.int, 18, .inl (va_up (fun j => nI (ρ (10 * s + 3) j) - 1) j (nI x - 1)))))) := by
  refine cw_up ⟨hx, fun z => by omega⟩ (by omega) (by omega) (by omega) (by omega) ?_ ?_ (by omega) (fun s' hs' => ⟨?_, ?_, ?_, ?_⟩) (fun o ho => ⟨?_, fun z => by omega⟩)
  · rw [if_neg (by omega), cwf_made (by omega)]
  · rw [if_neg (by omega), cwf_kn (by omega)]
  · rw [if_neg (by omega), cwf_cp (by omega)]
  · rw [if_neg (by omega), cwf_row (by omega)]
  · rw [if_neg (by omega), cwf_arr (by omega)]
  · by_cases e : s' = s
    · subst e
      rw [if_pos rfl]
      unfold cw_plc
      rw [u2_fun, cwe_i (fun n => nI n - 1) rfl]
    · rw [if_neg (by omega), cwf_plc (by omega)]
  · rw [if_neg (by omega), cwf_op (by omega)]
theorem cw_uparr {S : Nat} {ρ : rS} {ad0 : Nat → Nat} {w0 : gW} {s j x : Nat} (hS : S ≤ 3) (hs : s < S) (hx : x < 2) : ∀ ad w, CW S ρ ad0 w0 ad w → CW S (u2 ρ (10 * s + 2) j x) ad0 w0 ad (va_up w (12 + 4 * s) (some (.inl (.boolean, 18, .inl (va_up (fun j => nI (ρ (10 * s + 2) j)) j (nI x)))))) := by
  refine cw_up ⟨by omega, fun z => hx⟩ (by omega) (by omega) (by omega) (by omega) ?_ ?_ (by omega) (fun s' hs' => ⟨?_, ?_, ?_, ?_⟩) (fun o ho => ⟨?_, fun z => by omega⟩)
  · rw [if_neg (by omega), cwf_made (by omega)]
  · rw [if_neg (by omega), cwf_kn (by omega)]
  · rw [if_neg (by omega), cwf_cp (by omega)]
  · rw [if_neg (by omega), cwf_row (by omega)]
  · by_cases e : s' = s
    · subst e
      rw [if_pos rfl]
      unfold cw_arr
      rw [u2_fun, cwe_i nI rfl]
    · rw [if_neg (by omega), cwf_arr (by omega)]
  · rw [if_neg (by omega), cwf_plc (by omega)]
  · rw [if_neg (by omega), cwf_op (by omega)]
theorem cw_upkn {S : Nat} {ρ : rS} {ad0 : Nat → Nat} {w0 : gW} {j x : Nat} (hS : S ≤ 3) (hx : x < 1000) : ∀ ad w, CW S ρ ad0 w0 ad w → CW S (u2 ρ 50 j x) ad0 w0 ad (va_up w 3 (some (.inl (.int, S * p8 S, .inl (va_up (fun j => nI (ρ 50 j) - 1) j (nI x - 1)))))) := by
  refine cw_up ⟨hx, fun z => by omega⟩ (by omega) (by omega) (by omega) (by omega) ?_ ?_ (by omega) (fun s' hs' => ⟨?_, ?_, ?_, ?_⟩) (fun o ho => ⟨?_, fun z => by omega⟩)
  · rw [if_neg (by omega), cwf_made (by omega)]
  · rw [if_pos rfl]
    unfold cw_kn
    rw [u2_fun, cwe_i (fun n => nI n - 1) rfl]
  · rw [if_neg (by omega), cwf_cp (by omega)]
  · rw [if_neg (by omega), cwf_row (by omega)]
  · rw [if_neg (by omega), cwf_arr (by omega)]
  · rw [if_neg (by omega), cwf_plc (by omega)]
  · rw [if_neg (by omega), cwf_op (by omega)]
theorem cw_upmade {S : Nat} {ρ : rS} {ad0 : Nat → Nat} {w0 : gW} {j : Nat} (hS : S ≤ 3) : ∀ ad w, CW S ρ ad0 w0 ad w → CW S (u2 ρ 40 j 1) ad0 w0 ad (va_up w 2 (some (.inl (.object "TombstoneSites$Operation", 6 * S, .inr (.inr (.inr (.inr (va_up (cw_md ad0 ρ) j (some (ad0 (100 + j))))))))))) := by
  refine cw_up ⟨by omega, fun z => by omega⟩ (by omega) (by omega) (by omega) (by omega) ?_ ?_ (by omega) (fun s' hs' => ⟨?_, ?_, ?_, ?_⟩) (fun o ho => ⟨?_, fun z => by omega⟩)
  · rw [if_pos rfl]
    unfold cw_made
    congr 7
    funext i
    unfold cw_md va_up
    rw [u2_in]
    by_cases e : i = j
    · rw [if_pos e, if_pos e, if_neg (by decide), e]
    · rw [if_neg e, if_neg e]
  · rw [if_neg (by omega), cwf_kn (by omega)]
  · rw [if_neg (by omega), cwf_cp (by omega)]
  · rw [if_neg (by omega), cwf_row (by omega)]
  · rw [if_neg (by omega), cwf_arr (by omega)]
  · rw [if_neg (by omega), cwf_plc (by omega)]
  · rw [if_neg (by omega), cwf_op (by omega)]

theorem cw_upf0 {S : Nat} {ρ : rS} {ad0 : Nat → Nat} {w0 : gW} {s x : Nat} (hS : S ≤ 3) (hs : s < S) (hx : x < 1000) : ∀ ad w, CW S ρ ad0 w0 ad w → CW S (u2 ρ (10 * s) 0 x) ad0 w0 ad (va_up w (10 + 4 * s) (some (.inr (0, (cw_cp ad0 ρ s).set 2 (.int (nI x)))))) := by
  refine cw_up ⟨hx, fun z => by omega⟩ (by omega) (by omega) (by omega) (by omega) ?_ ?_ (by omega) (fun s' hs' => ⟨?_, ?_, ?_, ?_⟩) (fun o ho => ⟨?_, fun z => by omega⟩)
  · rw [if_neg (by omega), cwf_made (by omega)]
  · rw [if_neg (by omega), cwf_kn (by omega)]
  · by_cases e : s' = s
    · subst e
      rw [if_pos rfl]
      unfold cw_cp
      rw [u2_in, u2_in, u2_in, u2_in]
      rfl
    · rw [if_neg (by omega), cwf_cp (by omega)]
  · rw [if_neg (by omega), cwf_row (by omega)]
  · rw [if_neg (by omega), cwf_arr (by omega)]
  · rw [if_neg (by omega), cwf_plc (by omega)]
  · rw [if_neg (by omega), cwf_op (by omega)]
theorem cw_upf1 {S : Nat} {ρ : rS} {ad0 : Nat → Nat} {w0 : gW} {s x : Nat} (hS : S ≤ 3) (hs : s < S) (hx : x < 1000) : ∀ ad w, CW S ρ ad0 w0 ad w → CW S (u2 ρ (10 * s) 1 x) ad0 w0 ad (va_up w (10 + 4 * s) (some (.inr (0, (cw_cp ad0 ρ s).set 3 (.int (nI x)))))) := by
  refine cw_up ⟨hx, fun z => by omega⟩ (by omega) (by omega) (by omega) (by omega) ?_ ?_ (by omega) (fun s' hs' => ⟨?_, ?_, ?_, ?_⟩) (fun o ho => ⟨?_, fun z => by omega⟩)
  · rw [if_neg (by omega), cwf_made (by omega)]
  · rw [if_neg (by omega), cwf_kn (by omega)]
  · by_cases e : s' = s
    · subst e
      rw [if_pos rfl]
      unfold cw_cp
      rw [u2_in, u2_in, u2_in, u2_in]
      rfl
    · rw [if_neg (by omega), cwf_cp (by omega)]
  · rw [if_neg (by omega), cwf_row (by omega)]
  · rw [if_neg (by omega), cwf_arr (by omega)]
  · rw [if_neg (by omega), cwf_plc (by omega)]
  · rw [if_neg (by omega), cwf_op (by omega)]
theorem cw_upf2 {S : Nat} {ρ : rS} {ad0 : Nat → Nat} {w0 : gW} {s x : Nat} (hS : S ≤ 3) (hs : s < S) (hx : x < 1000) : ∀ ad w, CW S ρ ad0 w0 ad w → CW S (u2 ρ (10 * s) 2 x) ad0 w0 ad (va_up w (10 + 4 * s) (some (.inr (0, (cw_cp ad0 ρ s).set 5 (.int (nI x)))))) := by
  refine cw_up ⟨hx, fun z => by omega⟩ (by omega) (by omega) (by omega) (by omega) ?_ ?_ (by omega) (fun s' hs' => ⟨?_, ?_, ?_, ?_⟩) (fun o ho => ⟨?_, fun z => by omega⟩)
  · rw [if_neg (by omega), cwf_made (by omega)]
  · rw [if_neg (by omega), cwf_kn (by omega)]
  · by_cases e : s' = s
    · subst e
      rw [if_pos rfl]
      unfold cw_cp
      rw [u2_in, u2_in, u2_in, u2_in]
      rfl
    · rw [if_neg (by omega), cwf_cp (by omega)]
  · rw [if_neg (by omega), cwf_row (by omega)]
  · rw [if_neg (by omega), cwf_arr (by omega)]
  · rw [if_neg (by omega), cwf_plc (by omega)]
  · rw [if_neg (by omega), cwf_op (by omega)]
theorem cw_upf3 {S : Nat} {ρ : rS} {ad0 : Nat → Nat} {w0 : gW} {s x : Nat} (hS : S ≤ 3) (hs : s < S) (hx : x < 1000) : ∀ ad w, CW S ρ ad0 w0 ad w → CW S (u2 ρ (10 * s) 3 x) ad0 w0 ad (va_up w (10 + 4 * s) (some (.inr (0, (cw_cp ad0 ρ s).set 6 (.int (nI x)))))) := by
  refine cw_up ⟨hx, fun z => by omega⟩ (by omega) (by omega) (by omega) (by omega) ?_ ?_ (by omega) (fun s' hs' => ⟨?_, ?_, ?_, ?_⟩) (fun o ho => ⟨?_, fun z => by omega⟩)
  · rw [if_neg (by omega), cwf_made (by omega)]
  · rw [if_neg (by omega), cwf_kn (by omega)]
  · by_cases e : s' = s
    · subst e
      rw [if_pos rfl]
      unfold cw_cp
      rw [u2_in, u2_in, u2_in, u2_in]
      rfl
    · rw [if_neg (by omega), cwf_cp (by omega)]
  · rw [if_neg (by omega), cwf_row (by omega)]
  · rw [if_neg (by omega), cwf_arr (by omega)]
  · rw [if_neg (by omega), cwf_plc (by omega)]
  · rw [if_neg (by omega), cwf_op (by omega)]
theorem cw_upo0 {S : Nat} {ρ : rS} {ad0 : Nat → Nat} {w0 : gW} {o x : Nat} (hS : S ≤ 3) (ho : o < 18) (h4 : ρ 41 o ≠ 0) (hx : x < 1000) : ∀ ad w, CW S ρ ad0 w0 ad w → CW S (u2 ρ (60 + o) 0 x) ad0 w0 ad (va_up w (100 + o) (some (.inr (2, (cw_op ρ o).set 2 (.int (nI x)))))) := by
  refine cw_up ⟨hx, fun z => by omega⟩ (by omega) (by omega) (by omega) (by omega) ?_ ?_ (by omega) (fun s' hs' => ⟨?_, ?_, ?_, ?_⟩) (fun o' ho' => ⟨?_, fun z => by rw [show o' = o by omega]; exact h4⟩)
  · rw [if_neg (by omega), cwf_made (by omega)]
  · rw [if_neg (by omega), cwf_kn (by omega)]
  · rw [if_neg (by omega), cwf_cp (by omega)]
  · rw [if_neg (by omega), cwf_row (by omega)]
  · rw [if_neg (by omega), cwf_arr (by omega)]
  · rw [if_neg (by omega), cwf_plc (by omega)]
  · by_cases e : o' = o
    · subst e
      rw [if_pos rfl]
      unfold cw_op
      rw [u2_in, u2_in, u2_in, u2_in, u2_in]
      rfl
    · rw [if_neg (by omega), cwf_op (by omega)]
theorem cw_upo1 {S : Nat} {ρ : rS} {ad0 : Nat → Nat} {w0 : gW} {o x : Nat} (hS : S ≤ 3) (ho : o < 18) (h4 : ρ 41 o ≠ 0) (hx : x < 1000) : ∀ ad w, CW S ρ ad0 w0 ad w → CW S (u2 ρ (60 + o) 1 x) ad0 w0 ad (va_up w (100 + o) (some (.inr (2, (cw_op ρ o).set 3 (.int (nI x)))))) := by
  refine cw_up ⟨hx, fun z => by omega⟩ (by omega) (by omega) (by omega) (by omega) ?_ ?_ (by omega) (fun s' hs' => ⟨?_, ?_, ?_, ?_⟩) (fun o' ho' => ⟨?_, fun z => by rw [show o' = o by omega]; exact h4⟩)
  · rw [if_neg (by omega), cwf_made (by omega)]
  · rw [if_neg (by omega), cwf_kn (by omega)]
  · rw [if_neg (by omega), cwf_cp (by omega)]
  · rw [if_neg (by omega), cwf_row (by omega)]
  · rw [if_neg (by omega), cwf_arr (by omega)]
  · rw [if_neg (by omega), cwf_plc (by omega)]
  · by_cases e : o' = o
    · subst e
      rw [if_pos rfl]
      unfold cw_op
      rw [u2_in, u2_in, u2_in, u2_in, u2_in]
      rfl
    · rw [if_neg (by omega), cwf_op (by omega)]
theorem cw_upo2 {S : Nat} {ρ : rS} {ad0 : Nat → Nat} {w0 : gW} {o x : Nat} (hS : S ≤ 3) (ho : o < 18) (h4 : ρ 41 o ≠ 0) (hx : x < 1000) : ∀ ad w, CW S ρ ad0 w0 ad w → CW S (u2 ρ (60 + o) 2 x) ad0 w0 ad (va_up w (100 + o) (some (.inr (2, (cw_op ρ o).set 4 (.int (nI x)))))) := by
  refine cw_up ⟨hx, fun z => by omega⟩ (by omega) (by omega) (by omega) (by omega) ?_ ?_ (by omega) (fun s' hs' => ⟨?_, ?_, ?_, ?_⟩) (fun o' ho' => ⟨?_, fun z => by rw [show o' = o by omega]; exact h4⟩)
  · rw [if_neg (by omega), cwf_made (by omega)]
  · rw [if_neg (by omega), cwf_kn (by omega)]
  · rw [if_neg (by omega), cwf_cp (by omega)]
  · rw [if_neg (by omega), cwf_row (by omega)]
  · rw [if_neg (by omega), cwf_arr (by omega)]
  · rw [if_neg (by omega), cwf_plc (by omega)]
  · by_cases e : o' = o
    · subst e
      rw [if_pos rfl]
      unfold cw_op
      rw [u2_in, u2_in, u2_in, u2_in, u2_in]
      rfl
    · rw [if_neg (by omega), cwf_op (by omega)]
theorem cw_upo3 {S : Nat} {ρ : rS} {ad0 : Nat → Nat} {w0 : gW} {o x : Nat} (hS : S ≤ 3) (ho : o < 18) (h4 : ρ 41 o ≠ 0) (hx : x < 1000) : ∀ ad w, CW S ρ ad0 w0 ad w → CW S (u2 ρ (60 + o) 3 x) ad0 w0 ad (va_up w (100 + o) (some (.inr (2, (cw_op ρ o).set 0 (.int (nI x)))))) := by
  refine cw_up ⟨hx, fun z => by omega⟩ (by omega) (by omega) (by omega) (by omega) ?_ ?_ (by omega) (fun s' hs' => ⟨?_, ?_, ?_, ?_⟩) (fun o' ho' => ⟨?_, fun z => by rw [show o' = o by omega]; exact h4⟩)
  · rw [if_neg (by omega), cwf_made (by omega)]
  · rw [if_neg (by omega), cwf_kn (by omega)]
  · rw [if_neg (by omega), cwf_cp (by omega)]
  · rw [if_neg (by omega), cwf_row (by omega)]
  · rw [if_neg (by omega), cwf_arr (by omega)]
  · rw [if_neg (by omega), cwf_plc (by omega)]
  · by_cases e : o' = o
    · subst e
      rw [if_pos rfl]
      unfold cw_op
      rw [u2_in, u2_in, u2_in, u2_in, u2_in]
      rfl
    · rw [if_neg (by omega), cwf_op (by omega)]
theorem cw_upo4 {S : Nat} {ρ : rS} {ad0 : Nat → Nat} {w0 : gW} {o x : Nat} (hS : S ≤ 3) (ho : o < 18) (h4 : ρ 41 o ≠ 0) (hx : x < 1000) : ∀ ad w, CW S ρ ad0 w0 ad w → CW S (u2 ρ (60 + o) 4 x) ad0 w0 ad (va_up w (100 + o) (some (.inr (2, (cw_op ρ o).set 1 (.int (nI x)))))) := by
  refine cw_up ⟨hx, fun z => by omega⟩ (by omega) (by omega) (by omega) (by omega) ?_ ?_ (by omega) (fun s' hs' => ⟨?_, ?_, ?_, ?_⟩) (fun o' ho' => ⟨?_, fun z => by rw [show o' = o by omega]; exact h4⟩)
  · rw [if_neg (by omega), cwf_made (by omega)]
  · rw [if_neg (by omega), cwf_kn (by omega)]
  · rw [if_neg (by omega), cwf_cp (by omega)]
  · rw [if_neg (by omega), cwf_row (by omega)]
  · rw [if_neg (by omega), cwf_arr (by omega)]
  · rw [if_neg (by omega), cwf_plc (by omega)]
  · by_cases e : o' = o
    · subst e
      rw [if_pos rfl]
      unfold cw_op
      rw [u2_in, u2_in, u2_in, u2_in, u2_in]
      rfl
    · rw [if_neg (by omega), cwf_op (by omega)]
section CWR
variable {p : Program} {l : Launch} {e : Env} {R : Room} {s : State} {m : MethodId} {args : Array Value} {below : List Frame} {meth : Method} {c : Code} {D : va_G} {cl : List vw_C} {N : State → Prop} {A : Nat → Prop} {nL : Nat} {Q : State → Prop} {cells slots : Nat} {pc : Nat} {lo : List (Nat × Value)} {st : List Value} {cc : ByteArray} {own : String} {Ts : List Cond} {S : Nat} {ρ : rS} {ad0 : Nat → Nat} {w0 : gW}
theorem cl_row {si j : Nat} (hC : g_C p s m args c D cl N A nL cc own Ts) (hs : si < S) (hj : j < 18) (hd : decode cc pc = .ok (.iaload, 1)) (kk : G p l e R s m args below meth c D cl A nL Q cells slots (CW S ρ ad0 w0) (pc + 1) lo (.int (sI (ρ (10 * si + 1) j)) :: st)) : G p l e R s m args below meth c D cl A nL Q cells slots (CW S ρ ad0 w0) (pc) lo (.int (nI j) :: .ref (ad0 (11 + 4 * si)) :: st) := g_ald (f := fun j => sI (ρ (10 * si + 1) j)) hC (11 + 4 * si) (fun ad w h => ⟨by rw [h.1], (h.2.2.1.2.2.2.2.2.1 si hs).2.1⟩) hj (by decide) hd kk
theorem cl_plc {si j : Nat} (hC : g_C p s m args c D cl N A nL cc own Ts) (hs : si < S) (hj : j < 18) (hd : decode cc pc = .ok (.iaload, 1)) (kk : G p l e R s m args below meth c D cl A nL Q cells slots (CW S ρ ad0 w0) (pc + 1) lo (.int (nI (ρ (10 * si + 3) j) - 1) :: st)) : G p l e R s m args below meth c D cl A nL Q cells slots (CW S ρ ad0 w0) (pc) lo (.int (nI j) :: .ref (ad0 (13 + 4 * si)) :: st) := g_ald (f := fun j => nI (ρ (10 * si + 3) j) - 1) hC (13 + 4 * si) (fun ad w h => ⟨by rw [h.1], (h.2.2.1.2.2.2.2.2.1 si hs).2.2.2⟩) hj (by decide) hd kk
theorem cl_arr {si j : Nat} (hC : g_C p s m args c D cl N A nL cc own Ts) (hs : si < S) (hj : j < 18) (hd : decode cc pc = .ok (.baload, 1)) (kk : G p l e R s m args below meth c D cl A nL Q cells slots (CW S ρ ad0 w0) (pc + 1) lo (.int (nI (ρ (10 * si + 2) j)) :: st)) : G p l e R s m args below meth c D cl A nL Q cells slots (CW S ρ ad0 w0) (pc) lo (.int (nI j) :: .ref (ad0 (12 + 4 * si)) :: st) := g_zld (f := fun j => nI (ρ (10 * si + 2) j)) hC (12 + 4 * si) (fun ad w h => ⟨by rw [h.1], (h.2.2.1.2.2.2.2.2.1 si hs).2.2.1⟩) hj (by decide) hd kk
theorem p8_le {S : Nat} : p8 S ≤ 512 := by
  unfold p8
  split <;> omega
theorem kn_lt {S : Nat} (h : S = 2 ∨ S = 3) : S * p8 S < 2 ^ 31 := by
  rcases h with rfl | rfl <;> decide
theorem cl_kn {j : Nat} (hC : g_C p s m args c D cl N A nL cc own Ts) (hS : S = 2 ∨ S = 3) (hj : j < S * p8 S) (hd : decode cc pc = .ok (.iaload, 1)) (kk : G p l e R s m args below meth c D cl A nL Q cells slots (CW S ρ ad0 w0) (pc + 1) lo (.int (nI (ρ 50 j) - 1) :: st)) : G p l e R s m args below meth c D cl A nL Q cells slots (CW S ρ ad0 w0) (pc) lo (.int (nI j) :: .ref (ad0 3) :: st) := g_ald (f := fun j => nI (ρ 50 j) - 1) hC 3 (fun ad w h => ⟨by rw [h.1], h.2.2.1.2.2.2.1⟩) hj (kn_lt hS) hd kk
theorem cl_made {j : Nat} (hC : g_C p s m args c D cl N A nL cc own Ts) (hS : S ≤ 3) (hj : j < 6 * S) (hd : decode cc pc = .ok (.aaload, 1)) (kk : G p l e R s m args below meth c D cl A nL Q cells slots (CW S ρ ad0 w0) (pc + 1) lo (va_rf (cw_md ad0 ρ j) :: st)) : G p l e R s m args below meth c D cl A nL Q cells slots (CW S ρ ad0 w0) (pc) lo (.int (nI j) :: .ref (ad0 2) :: st) := g_qld (f := cw_md ad0 ρ) hC 2 (fun ad w h => ⟨by rw [h.1], h.2.2.1.2.2.1⟩) hj (by omega) hd kk
theorem cl_cps {j : Nat} (hC : g_C p s m args c D cl N A nL cc own Ts) (hS : S ≤ 3) (hj : j < S) (hd : decode cc pc = .ok (.aaload, 1)) (kk : G p l e R s m args below meth c D cl A nL Q cells slots (CW S ρ ad0 w0) (pc + 1) lo (.ref (ad0 (10 + 4 * j)) :: st)) : G p l e R s m args below meth c D cl A nL Q cells slots (CW S ρ ad0 w0) (pc) lo (.int (nI j) :: .ref (ad0 4) :: st) := g_qld (f := fun s => if s < S then some (ad0 (10 + 4 * s)) else none) hC 4 (fun ad w h => ⟨by rw [h.1], h.2.2.1.2.2.2.2.1⟩) hj (by omega) hd (by rw [show va_rf (if j < S then some (ad0 (10 + 4 * j)) else none) = .ref (ad0 (10 + 4 * j)) by rw [if_pos hj]; rfl]; exact kk)
theorem cs_row {si j x : Nat} {v : Int32} (hC : g_C p s m args c D cl N A nL cc own Ts) (hS : S ≤ 3) (hs : si < S) (hj : j < 18) (hx : x < 1000) (hv : v = sI x) (hd : decode cc pc = .ok (.iastore, 1)) (kk : G p l e R s m args below meth c D cl A nL Q cells slots (CW S (u2 ρ (10 * si + 1) j x) ad0 w0) (pc + 1) lo (st)) : G p l e R s m args below meth c D cl A nL Q cells slots (CW S ρ ad0 w0) (pc) lo (.int v :: .int (nI j) :: .ref (ad0 (11 + 4 * si)) :: st) := by
  subst hv
  exact g_ast (f := fun j => sI (ρ (10 * si + 1) j)) hC (11 + 4 * si) (fun ad w h => ⟨by rw [h.1], (h.2.2.1.2.2.2.2.2.1 si hs).2.1⟩) hj (by decide) (cw_uprow hS hs hx) hd kk
theorem cs_plc {si j x : Nat} {v : Int32} (hC : g_C p s m args c D cl N A nL cc own Ts) (hS : S ≤ 3) (hs : si < S) (hj : j < 18) (hx : x < 1000) (hv : v = nI x - 1) (hd : decode cc pc = .ok (.iastore, 1)) (kk : G p l e R s m args below meth c D cl A nL Q cells slots (CW S (u2 ρ (10 * si + 3) j x) ad0 w0) (pc + 1) lo (st)) : G p l e R s m args below meth c D cl A nL Q cells slots (CW S ρ ad0 w0) (pc) lo (.int v :: .int (nI j) :: .ref (ad0 (13 + 4 * si)) :: st) := by
  subst hv
  exact g_ast (f := fun j => nI (ρ (10 * si + 3) j) - 1) hC (13 + 4 * si) (fun ad w h => ⟨by rw [h.1], (h.2.2.1.2.2.2.2.2.1 si hs).2.2.2⟩) hj (by decide) (cw_upplc hS hs hx) hd kk
theorem cs_arr {si j x : Nat} (hC : g_C p s m args c D cl N A nL cc own Ts) (hS : S ≤ 3) (hs : si < S) (hj : j < 18) (hx : x < 2) (hd : decode cc pc = .ok (.bastore, 1)) (kk : G p l e R s m args below meth c D cl A nL Q cells slots (CW S (u2 ρ (10 * si + 2) j x) ad0 w0) (pc + 1) lo (st)) : G p l e R s m args below meth c D cl A nL Q cells slots (CW S ρ ad0 w0) (pc) lo (.int (nI x) :: .int (nI j) :: .ref (ad0 (12 + 4 * si)) :: st) := g_zst (f := fun j => nI (ρ (10 * si + 2) j)) hC (12 + 4 * si) (fun ad w h => ⟨by rw [h.1], (h.2.2.1.2.2.2.2.2.1 si hs).2.2.1⟩) hj (by decide) (r_nar hx) (cw_uparr hS hs hx) hd kk
theorem cs_kn {j x : Nat} {v : Int32} (hC : g_C p s m args c D cl N A nL cc own Ts) (hS : S = 2 ∨ S = 3) (hj : j < S * p8 S) (hx : x < 1000) (hv : v = nI x - 1) (hd : decode cc pc = .ok (.iastore, 1)) (kk : G p l e R s m args below meth c D cl A nL Q cells slots (CW S (u2 ρ 50 j x) ad0 w0) (pc + 1) lo (st)) : G p l e R s m args below meth c D cl A nL Q cells slots (CW S ρ ad0 w0) (pc) lo (.int v :: .int (nI j) :: .ref (ad0 3) :: st) := by
  subst hv
  exact g_ast (f := fun j => nI (ρ 50 j) - 1) hC 3 (fun ad w h => ⟨by rw [h.1], h.2.2.1.2.2.2.1⟩) hj (kn_lt hS) (cw_upkn (by omega) hx) hd kk
theorem cs_made {j : Nat} (hC : g_C p s m args c D cl N A nL cc own Ts) (hcl : cl[2]? = some (R_O, F_O, 5)) (hS : S ≤ 3) (hj : j < 6 * S) (h4 : ρ 41 j ≠ 0) (hd : decode cc pc = .ok (.aastore, 1)) (kk : G p l e R s m args below meth c D cl A nL Q cells slots (CW S (u2 ρ 40 j 1) ad0 w0) (pc + 1) lo (st)) : G p l e R s m args below meth c D cl A nL Q cells slots (CW S ρ ad0 w0) (pc) lo (.ref (ad0 (100 + j)) :: .int (nI j) :: .ref (ad0 2) :: st) := g_qst (r := (R_O, F_O, 5)) (f := cw_md ad0 ρ) hC 2 (fun ad w h => ⟨by rw [h.1], h.2.2.1.2.2.1⟩) (cw_o (by omega) h4) hcl hj (by omega) (cw_upmade hS) hd kk
end CWR
def rkc (n c t : Nat) : Room := { frames := n, cells := c, slots := t, locals := 64 * n + 20 }
