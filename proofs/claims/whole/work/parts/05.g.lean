/-! Worlds by number: w k is cell number k, at the address ad k: an array (type, length, contents) or an object (its class's number, its fields). -/
abbrev gE : Type := (FieldType × vp_A) ⊕ (Nat × List Value)
abbrev gW : Type := Nat → Option gE
def g_at (D : va_G) (cl : List vw_C) (s : State) (a : Nat) (e : gE) (H : Heap) : Prop := match e with
  | .inl x => ∃ cA : ClassId, ArrOfT s cA x.1 ∧ va_RA s cA x.1 ∧ H[a]? = some (vp_cell cA x.2)
  | .inr o => ∃ r : vw_C, cl[o.1]? = some r ∧ t_OB a (D.1 o.1) r.2.2 (D.2 o.1) H (vp_V o.2)
def g_w (D : va_G) (cl : List vw_C) (s : State) (A : Nat → Prop) (ad : Nat → Nat) (w : gW) (H : Heap) : Prop :=
  (∀ (k : Nat) (e : gE), w k = some e → g_at D cl s (ad k) e H ∧ A (ad k)) ∧ ∀ (i j : Nat) (ei ej : gE), w i = some ei → w j = some ej → ad i = ad j → i = j
/-- the cells that a method with the world (ad, w) may write: its own, and new ones -/
def g_A (ad : Nat → Nat) (w : gW) (sz : Nat) : Nat → Prop := fun q => (∃ (k : Nat) (e : gE), w k = some e ∧ ad k = q) ∨ sz ≤ q
theorem g_at.lt {D : va_G} {cl : List vw_C} {s : State} {a : Nat} {e : gE} {H : Heap} (h : g_at D cl s a e H) : a < H.size := by
  cases e with
  | inl x =>
    obtain ⟨cA, -, -, h⟩ := h
    exact (Array.getElem?_eq_some_iff.mp h).1
  | inr o =>
    obtain ⟨r, h1, cell, h2, -⟩ := h
    exact (Array.getElem?_eq_some_iff.mp h2).1
theorem g_at.kept {D : va_G} {cl : List vw_C} {s : State} {a : Nat} {e : gE} {H H1 : Heap} (h : g_at D cl s a e H) (hq : H1[a]? = H[a]?) : g_at D cl s a e H1 := by
  cases e with
  | inl x =>
    obtain ⟨cA, h1, h2, h3⟩ := h
    exact ⟨cA, h1, h2, hq.trans h3⟩
  | inr o =>
    obtain ⟨r, h1, h2⟩ := h
    exact ⟨r, h1, h2.kept hq⟩
theorem g_at.moved {D : va_G} {cl : List vw_C} {u U : State} (hvm : u.vm.Alike U.vm) {a : Nat} {e : gE} {H : Heap} (h : g_at D cl u a e H) : g_at D cl U a e H := by
  cases e with
  | inl x =>
    obtain ⟨cA, h1, h2, h3⟩ := h
    exact ⟨cA, arrOfT_moved hvm h1, h2.moved hvm, h3⟩
  | inr o => exact h
theorem g_w.moved {D : va_G} {cl : List vw_C} {u U : State} (hvm : u.vm.Alike U.vm) {A B : Nat → Prop} {ad : Nat → Nat} {w : gW} {H : Heap} (h : g_w D cl u A ad w H) (hAB : ∀ q, A q → B q) : g_w D cl U B ad w H :=
  ⟨fun k e hk => ⟨(h.1 k e hk).1.moved hvm, hAB _ (h.1 k e hk).2⟩, h.2⟩
theorem g_w.self {D : va_G} {cl : List vw_C} {u : State} {A : Nat → Prop} {ad : Nat → Nat} {w : gW} {H : Heap} {sz : Nat} (h : g_w D cl u A ad w H) : g_w D cl u (g_A ad w sz) ad w H :=
  ⟨fun k e hk => ⟨(h.1 k e hk).1, Or.inl ⟨k, e, hk, rfl⟩⟩, h.2⟩
theorem g_w.put {D : va_G} {cl : List vw_C} {s : State} {A : Nat → Prop} {ad : Nat → Nat} {w : gW} {H H1 : Heap} {k : Nat} {e0 e : gE} (h : g_w D cl s A ad w H) (hk : w k = some e0) (he : g_at D cl s (ad k) e H1) (oq : ∀ q : Nat, q ≠ ad k → H1[q]? = H[q]?) : g_w D cl s A ad (va_up w k (some e)) H1 := by
  have key : ∀ (j : Nat) (ej : gE), va_up w k (some e) j = some ej → (j = k ∧ ej = e) ∨ (j ≠ k ∧ w j = some ej) := by
    intro j ej hj
    by_cases q : j = k
    · subst q
      rw [va_up_self] at hj
      exact Or.inl ⟨rfl, (Option.some.inj hj).symm⟩
    · rw [va_up_ne _ _ q] at hj
      exact Or.inr ⟨q, hj⟩
  refine ⟨fun j ej hj => ?_, fun i j ei ej hi hj hij => ?_⟩
  · rcases key j ej hj with ⟨rfl, rfl⟩ | ⟨q, hj⟩
    · exact ⟨he, (h.1 _ _ hk).2⟩
    · exact ⟨(h.1 j ej hj).1.kept (oq _ (fun z => q (h.2 _ _ _ _ hj hk z))), (h.1 j ej hj).2⟩
  · have a1 : ∃ x, w i = some x := by
      rcases key i ei hi with ⟨rfl, -⟩ | ⟨-, q⟩
      · exact ⟨_, hk⟩
      · exact ⟨_, q⟩
    have a2 : ∃ x, w j = some x := by
      rcases key j ej hj with ⟨rfl, -⟩ | ⟨-, q⟩
      · exact ⟨_, hk⟩
      · exact ⟨_, q⟩
    obtain ⟨x, hx⟩ := a1
    obtain ⟨y, hy⟩ := a2
    exact h.2 i j x y hx hy hij
theorem g_w.new {D : va_G} {cl : List vw_C} {s : State} {A : Nat → Prop} {ad : Nat → Nat} {w : gW} {H H1 : Heap} {k : Nat} {e : gE} (h : g_w D cl s A ad w H) (_hk : w k = none) (he : g_at D cl s H.size e H1) (oq : ∀ q : Nat, q < H.size → H1[q]? = H[q]?) (hA : A H.size) : g_w D cl s A (va_up ad k H.size) (va_up w k (some e)) H1 := by
  have key : ∀ (j : Nat) (ej : gE), va_up w k (some e) j = some ej → (j = k ∧ ej = e ∧ va_up ad k H.size j = H.size) ∨ (j ≠ k ∧ w j = some ej ∧ va_up ad k H.size j = ad j ∧ ad j < H.size) := by
    intro j ej hj
    by_cases q : j = k
    · subst q
      rw [va_up_self] at hj
      exact Or.inl ⟨rfl, (Option.some.inj hj).symm, va_up_self _ _ _⟩
    · rw [va_up_ne _ _ q] at hj
      exact Or.inr ⟨q, hj, va_up_ne _ _ q, (h.1 j ej hj).1.lt⟩
  refine ⟨fun j ej hj => ?_, fun i j ei ej hi hj hij => ?_⟩
  · rcases key j ej hj with ⟨rfl, rfl, z⟩ | ⟨q, hj, z, hl⟩
    · rw [z]; exact ⟨he, hA⟩
    · rw [z]; exact ⟨(h.1 j ej hj).1.kept (oq _ hl), (h.1 j ej hj).2⟩
  · rcases key i ei hi with ⟨rfl, -, z1⟩ | ⟨q1, h1, z1, l1⟩ <;> rcases key j ej hj with ⟨h2, -, z2⟩ | ⟨q2, h2, z2, l2⟩
    · exact h2.symm
    · rw [z1, z2] at hij; omega
    · rw [z1, z2] at hij; omega
    · rw [z1, z2] at hij; exact h.2 i j ei ej h1 h2 hij
/-- a method's surroundings -/
def g_C (p : Program) (s : State) (m : MethodId) (args : Array Value) (c : Code) (D : va_G) (cl : List vw_C) (N : State → Prop) (A : Nat → Prop) (nL : Nat) (cc : ByteArray) (own : String) (Ts : List Cond) : Prop :=
  CallFix p m c cc nL s args Ts own ∧ va_K D cl [] s ∧ N s ∧ ∀ q : Nat, s.heap.size ≤ q → A q
def G (p : Program) (l : Launch) (e : Env) (R : Room) (s : State) (m : MethodId) (args : Array Value) (below : List Frame) (meth : Method) (c : Code) (D : va_G) (cl : List vw_C) (A : Nat → Prop) (nL : Nat) (Q : State → Prop) (cells slots : Nat) (V : (Nat → Nat) → gW → Prop) (pc : Nat) (lo : List (Nat × Value)) (st : List Value) : Prop :=
  ∀ (ad : Nat → Nat) (w : gW) (H : Heap) (locs : List Loc) (ls : Array Slot), V ad w → g_w D cl s A ad w H → va_S A s.heap H locs → lv_has ls nL lo → W p l e R s m args below meth c H locs cells slots Q (F0 m pc ls st)
def g_lo (lo : List (Nat × Value)) (i : Nat) : Option Value := match lo with
  | [] => none
  | q :: r => cond (Nat.beq q.1 i) (some q.2) (g_lo r i)
theorem g_lo_mem : ∀ {lo : List (Nat × Value)} {i : Nat} {v : Value}, g_lo lo i = some v → (i, v) ∈ lo
  | [], i, v, h => by cases h
  | (j, u) :: r, i, v, h => by
    unfold g_lo at h
    cases hb : Nat.beq j i with
    | true =>
      rw [hb] at h
      have e := Nat.eq_of_beq_eq_true hb
      subst e
      cases h
      exact List.mem_cons_self
    | false =>
      rw [hb] at h
      exact List.mem_cons_of_mem _ (g_lo_mem h)
theorem g_lo_at {ls : Array Slot} {nL : Nat} {lo : List (Nat × Value)} (h : lv_has ls nL lo) {i : Nat} {v : Value} (hk : g_lo lo i = some v) : ls[i]? = some (.val v) := h.2.2 (i, v) (g_lo_mem hk)
def g_rf (v : Value) : Prop := v = .null ∨ ∃ a, v = .ref a
theorem g_cat {v : Value} (h : g_rf v) : v.category = 1 := by
  rcases h with rfl | ⟨a, rfl⟩ <;> rfl
section GG
variable {p : Program} {l : Launch} {e : Env} {R : Room} {s : State} {m : MethodId} {args : Array Value} {below : List Frame} {meth : Method} {c : Code} {D : va_G} {cl : List vw_C} {N : State → Prop} {A : Nat → Prop} {nL : Nat} {Q : State → Prop} {cells slots : Nat} {V : (Nat → Nat) → gW → Prop} {ad : Nat → Nat} {w : gW} {pc : Nat} {lo : List (Nat × Value)} {st : List Value} {cc : ByteArray} {own : String} {Ts : List Cond}
theorem g_iconst (hC : g_C p s m args c D cl N A nL cc own Ts) {n : Int} {v : Int32} (hd : decode cc pc = .ok (.iconst n, 1)) (hv : Int32.ofInt n = v) (k : G p l e R s m args below meth c D cl A nL Q cells slots V (pc + 1) lo (.int v :: st)) : G p l e R s m args below meth c D cl A nL Q cells slots V (pc) lo (st) := fun ad w H locs ls hx0 hw hS hl => lv_iconst hC.1.1 hC.1.2.1 hd hv (k ad w H locs ls hx0 hw hS hl)
theorem g_bipush (hC : g_C p s m args c D cl N A nL cc own Ts) {n : Int} {v : Int32} (hd : decode cc pc = .ok (.bipush n, 2)) (hv : (Int8.ofInt n).toInt32 = v) (k : G p l e R s m args below meth c D cl A nL Q cells slots V (pc + 2) lo (.int v :: st)) : G p l e R s m args below meth c D cl A nL Q cells slots V (pc) lo (st) := fun ad w H locs ls hx0 hw hS hl => lv_bipush hC.1.1 hC.1.2.1 hd hv (k ad w H locs ls hx0 hw hS hl)
theorem g_sipush (hC : g_C p s m args c D cl N A nL cc own Ts) {n : Int} {v : Int32} (hd : decode cc pc = .ok (.sipush n, 3)) (hv : (Int16.ofInt n).toInt32 = v) (k : G p l e R s m args below meth c D cl A nL Q cells slots V (pc + 3) lo (.int v :: st)) : G p l e R s m args below meth c D cl A nL Q cells slots V (pc) lo (st) := fun ad w H locs ls hx0 hw hS hl => lv_sipush hC.1.1 hC.1.2.1 hd hv (k ad w H locs ls hx0 hw hS hl)
theorem g_lconst (hC : g_C p s m args c D cl N A nL cc own Ts) {n : Fin 2} {v : Int64} (hd : decode cc pc = .ok (.lconst n, 1)) (hv : Int64.ofNat (n : Nat) = v) (k : G p l e R s m args below meth c D cl A nL Q cells slots V (pc + 1) lo (.long v :: st)) : G p l e R s m args below meth c D cl A nL Q cells slots V (pc) lo (st) := fun ad w H locs ls hx0 hw hS hl => lv_lconst hC.1.1 hC.1.2.1 hd hv (k ad w H locs ls hx0 hw hS hl)
theorem g_ldc2 (hC : g_C p s m args c D cl N A nL cc own Ts) {index : Nat} {v : Int64} (hd : decode cc pc = .ok (.ldc2_w index, 3)) (hv : Jvm.Cond.constantLong own index v ∈ Ts) (k : G p l e R s m args below meth c D cl A nL Q cells slots V (pc + 3) lo (.long v :: st)) : G p l e R s m args below meth c D cl A nL Q cells slots V (pc) lo (st) := fun ad w H locs ls hx0 hw hS hl => lv_ldc2 hC.1.1 hC.1.2.1 hC.1.2.2.2.1 (hC.1.2.2.2.2 _ hv) hd (k ad w H locs ls hx0 hw hS hl)
theorem g_iload_n (hC : g_C p s m args c D cl N A nL cc own Ts) {k : Fin 4} {i : Nat} {x : Int32} (hd : decode cc pc = .ok (.iload_n k, 1)) (hi : (k : Nat) = i) (hv : g_lo lo i = some (.int x)) (k : G p l e R s m args below meth c D cl A nL Q cells slots V (pc + 1) lo (.int x :: st)) : G p l e R s m args below meth c D cl A nL Q cells slots V (pc) lo (st) := fun ad w H locs ls hx0 hw hS hl => lv_iload_n hC.1.1 hC.1.2.1 hd hi (g_lo_at hl hv) (k ad w H locs ls hx0 hw hS hl)
theorem g_iload (hC : g_C p s m args c D cl N A nL cc own Ts) {i : Nat} {x : Int32} (hd : decode cc pc = .ok (.iload i, 2)) (hv : g_lo lo i = some (.int x)) (k : G p l e R s m args below meth c D cl A nL Q cells slots V (pc + 2) lo (.int x :: st)) : G p l e R s m args below meth c D cl A nL Q cells slots V (pc) lo (st) := fun ad w H locs ls hx0 hw hS hl => lv_iload hC.1.1 hC.1.2.1 hd (g_lo_at hl hv) (k ad w H locs ls hx0 hw hS hl)
theorem g_lload_n (hC : g_C p s m args c D cl N A nL cc own Ts) {k : Fin 4} {i : Nat} {x : Int64} (hd : decode cc pc = .ok (.lload_n k, 1)) (hi : (k : Nat) = i) (hv : g_lo lo i = some (.long x)) (k : G p l e R s m args below meth c D cl A nL Q cells slots V (pc + 1) lo (.long x :: st)) : G p l e R s m args below meth c D cl A nL Q cells slots V (pc) lo (st) := fun ad w H locs ls hx0 hw hS hl => lv_lload_n hC.1.1 hC.1.2.1 hd hi (g_lo_at hl hv) (k ad w H locs ls hx0 hw hS hl)
theorem g_lload (hC : g_C p s m args c D cl N A nL cc own Ts) {i : Nat} {x : Int64} (hd : decode cc pc = .ok (.lload i, 2)) (hv : g_lo lo i = some (.long x)) (k : G p l e R s m args below meth c D cl A nL Q cells slots V (pc + 2) lo (.long x :: st)) : G p l e R s m args below meth c D cl A nL Q cells slots V (pc) lo (st) := fun ad w H locs ls hx0 hw hS hl => lv_lload hC.1.1 hC.1.2.1 hd (g_lo_at hl hv) (k ad w H locs ls hx0 hw hS hl)
theorem g_aload_n (hC : g_C p s m args c D cl N A nL cc own Ts) {k : Fin 4} {i : Nat} {v : Value} (hd : decode cc pc = .ok (.aload_n k, 1)) (hi : (k : Nat) = i) (hv : g_lo lo i = some v) (hr : g_rf v) (k : G p l e R s m args below meth c D cl A nL Q cells slots V (pc + 1) lo (v :: st)) : G p l e R s m args below meth c D cl A nL Q cells slots V (pc) lo (st) := fun ad w H locs ls hx0 hw hS hl => by
  rcases hr with rfl | ⟨a, rfl⟩
  · exact lv_aload_nN hC.1.1 hC.1.2.1 hd hi (g_lo_at hl hv) (k ad w H locs ls hx0 hw hS hl)
  · exact lv_aload_n hC.1.1 hC.1.2.1 hd hi (g_lo_at hl hv) (k ad w H locs ls hx0 hw hS hl)
theorem g_aload (hC : g_C p s m args c D cl N A nL cc own Ts) {i : Nat} {v : Value} (hd : decode cc pc = .ok (.aload i, 2)) (hv : g_lo lo i = some v) (hr : g_rf v) (k : G p l e R s m args below meth c D cl A nL Q cells slots V (pc + 2) lo (v :: st)) : G p l e R s m args below meth c D cl A nL Q cells slots V (pc) lo (st) := fun ad w H locs ls hx0 hw hS hl => by
  rcases hr with rfl | ⟨a, rfl⟩
  · exact lv_aloadN hC.1.1 hC.1.2.1 hd (g_lo_at hl hv) (k ad w H locs ls hx0 hw hS hl)
  · exact lv_aload hC.1.1 hC.1.2.1 hd (g_lo_at hl hv) (k ad w H locs ls hx0 hw hS hl)
theorem g_istore_n (hC : g_C p s m args c D cl N A nL cc own Ts) {k : Fin 4} {i : Nat} {x : Int32} {lo' : List (Nat × Value)} (hd : decode cc pc = .ok (.istore_n k, 1)) (hi : (k : Nat) = i) (hn : i < nL) (hlo : (i, Value.int x) :: lo.filter (fun q => !(q.1 == i) && !(q.1 + 1 == i && q.2.category == 2)) = lo') (k : G p l e R s m args below meth c D cl A nL Q cells slots V (pc + 1) lo' (st)) : G p l e R s m args below meth c D cl A nL Q cells slots V (pc) lo (.int x :: st) := fun ad w H locs ls hx0 hw hS hl => lv_istore_n hC.1.1 hC.1.2.1 hd hi hl hn hlo (fun ls' hl' => k ad w H locs ls' hx0 hw hS hl')
theorem g_istore (hC : g_C p s m args c D cl N A nL cc own Ts) {i : Nat} {x : Int32} {lo' : List (Nat × Value)} (hd : decode cc pc = .ok (.istore i, 2)) (hn : i < nL) (hlo : (i, Value.int x) :: lo.filter (fun q => !(q.1 == i) && !(q.1 + 1 == i && q.2.category == 2)) = lo') (k : G p l e R s m args below meth c D cl A nL Q cells slots V (pc + 2) lo' (st)) : G p l e R s m args below meth c D cl A nL Q cells slots V (pc) lo (.int x :: st) := fun ad w H locs ls hx0 hw hS hl => lv_istore hC.1.1 hC.1.2.1 hd hl hn hlo (fun ls' hl' => k ad w H locs ls' hx0 hw hS hl')
theorem g_lstore_n (hC : g_C p s m args c D cl N A nL cc own Ts) {k : Fin 4} {i : Nat} {x : Int64} {lo' : List (Nat × Value)} (hd : decode cc pc = .ok (.lstore_n k, 1)) (hi : (k : Nat) = i) (hn : i + 1 < nL) (hlo : (i, Value.long x) :: lo.filter (fun q => !(q.1 == i) && (!(q.1 == i + 1) && !(q.1 + 1 == i && q.2.category == 2))) = lo') (k : G p l e R s m args below meth c D cl A nL Q cells slots V (pc + 1) lo' (st)) : G p l e R s m args below meth c D cl A nL Q cells slots V (pc) lo (.long x :: st) := fun ad w H locs ls hx0 hw hS hl => lv_lstore_n hC.1.1 hC.1.2.1 hd hi hl hn hlo (fun ls' hl' => k ad w H locs ls' hx0 hw hS hl')
theorem g_lstore (hC : g_C p s m args c D cl N A nL cc own Ts) {i : Nat} {x : Int64} {lo' : List (Nat × Value)} (hd : decode cc pc = .ok (.lstore i, 2)) (hn : i + 1 < nL) (hlo : (i, Value.long x) :: lo.filter (fun q => !(q.1 == i) && (!(q.1 == i + 1) && !(q.1 + 1 == i && q.2.category == 2))) = lo') (k : G p l e R s m args below meth c D cl A nL Q cells slots V (pc + 2) lo' (st)) : G p l e R s m args below meth c D cl A nL Q cells slots V (pc) lo (.long x :: st) := fun ad w H locs ls hx0 hw hS hl => lv_lstore hC.1.1 hC.1.2.1 hd hl hn hlo (fun ls' hl' => k ad w H locs ls' hx0 hw hS hl')
theorem g_astore_n (hC : g_C p s m args c D cl N A nL cc own Ts) {k : Fin 4} {i : Nat} {v : Value} {lo' : List (Nat × Value)} (hd : decode cc pc = .ok (.astore_n k, 1)) (hi : (k : Nat) = i) (hr : g_rf v) (hn : i < nL) (hlo : (i, v) :: lo.filter (fun q => !(q.1 == i) && !(q.1 + 1 == i && q.2.category == 2)) = lo') (k : G p l e R s m args below meth c D cl A nL Q cells slots V (pc + 1) lo' (st)) : G p l e R s m args below meth c D cl A nL Q cells slots V (pc) lo (v :: st) := fun ad w H locs ls hx0 hw hS hl => by
  rcases hr with rfl | ⟨a, rfl⟩
  · exact lv_astore_nN hC.1.1 hC.1.2.1 hd hi hl hn hlo (fun ls' hl' => k ad w H locs ls' hx0 hw hS hl')
  · exact lv_astore_n hC.1.1 hC.1.2.1 hd hi hl hn hlo (fun ls' hl' => k ad w H locs ls' hx0 hw hS hl')
theorem g_astore (hC : g_C p s m args c D cl N A nL cc own Ts) {i : Nat} {v : Value} {lo' : List (Nat × Value)} (hd : decode cc pc = .ok (.astore i, 2)) (hr : g_rf v) (hn : i < nL) (hlo : (i, v) :: lo.filter (fun q => !(q.1 == i) && !(q.1 + 1 == i && q.2.category == 2)) = lo') (k : G p l e R s m args below meth c D cl A nL Q cells slots V (pc + 2) lo' (st)) : G p l e R s m args below meth c D cl A nL Q cells slots V (pc) lo (v :: st) := fun ad w H locs ls hx0 hw hS hl => by
  rcases hr with rfl | ⟨a, rfl⟩
  · exact lv_astoreN hC.1.1 hC.1.2.1 hd hl hn hlo (fun ls' hl' => k ad w H locs ls' hx0 hw hS hl')
  · exact lv_astore hC.1.1 hC.1.2.1 hd hl hn hlo (fun ls' hl' => k ad w H locs ls' hx0 hw hS hl')
theorem g_iinc (hC : g_C p s m args c D cl N A nL cc own Ts) {i k : Nat} {n : Int} {x v : Int32} {lo' : List (Nat × Value)} (hd : decode cc pc = .ok (.iinc i n, 3)) (hk : lo[k]? = some (i, .int x)) (hv : x + Int32.ofInt n = v) (hn : i < nL) (hlo : (i, Value.int v) :: lo.filter (fun q => !(q.1 == i) && !(q.1 + 1 == i && q.2.category == 2)) = lo') (k : G p l e R s m args below meth c D cl A nL Q cells slots V (pc + 3) lo' (st)) : G p l e R s m args below meth c D cl A nL Q cells slots V (pc) lo (st) := fun ad w H locs ls hx0 hw hS hl => lv_iinc hC.1.1 hC.1.2.1 hd hl hk hv hn hlo (fun ls' hl' => k ad w H locs ls' hx0 hw hS hl')
theorem g_iadd (hC : g_C p s m args c D cl N A nL cc own Ts) {x y : Int32} (hd : decode cc pc = .ok (.iadd, 1)) (k : G p l e R s m args below meth c D cl A nL Q cells slots V (pc + 1) lo (.int (x + y) :: st)) : G p l e R s m args below meth c D cl A nL Q cells slots V (pc) lo (.int y :: .int x :: st) := fun ad w H locs ls hx0 hw hS hl => lv_iadd hC.1.1 hC.1.2.1 hd (k ad w H locs ls hx0 hw hS hl)
theorem g_isub (hC : g_C p s m args c D cl N A nL cc own Ts) {x y : Int32} (hd : decode cc pc = .ok (.isub, 1)) (k : G p l e R s m args below meth c D cl A nL Q cells slots V (pc + 1) lo (.int (x - y) :: st)) : G p l e R s m args below meth c D cl A nL Q cells slots V (pc) lo (.int y :: .int x :: st) := fun ad w H locs ls hx0 hw hS hl => lv_isub hC.1.1 hC.1.2.1 hd (k ad w H locs ls hx0 hw hS hl)
theorem g_imul (hC : g_C p s m args c D cl N A nL cc own Ts) {x y : Int32} (hd : decode cc pc = .ok (.imul, 1)) (k : G p l e R s m args below meth c D cl A nL Q cells slots V (pc + 1) lo (.int (x * y) :: st)) : G p l e R s m args below meth c D cl A nL Q cells slots V (pc) lo (.int y :: .int x :: st) := fun ad w H locs ls hx0 hw hS hl => lv_imul hC.1.1 hC.1.2.1 hd (k ad w H locs ls hx0 hw hS hl)
theorem g_iand (hC : g_C p s m args c D cl N A nL cc own Ts) {x y : Int32} (hd : decode cc pc = .ok (.iand, 1)) (k : G p l e R s m args below meth c D cl A nL Q cells slots V (pc + 1) lo (.int (x &&& y) :: st)) : G p l e R s m args below meth c D cl A nL Q cells slots V (pc) lo (.int y :: .int x :: st) := fun ad w H locs ls hx0 hw hS hl => lv_iand hC.1.1 hC.1.2.1 hd (k ad w H locs ls hx0 hw hS hl)
theorem g_ishl (hC : g_C p s m args c D cl N A nL cc own Ts) {x y : Int32} (hd : decode cc pc = .ok (.ishl, 1)) (k : G p l e R s m args below meth c D cl A nL Q cells slots V (pc + 1) lo (.int (x <<< (y &&& 31)) :: st)) : G p l e R s m args below meth c D cl A nL Q cells slots V (pc) lo (.int y :: .int x :: st) := fun ad w H locs ls hx0 hw hS hl => lv_ishl hC.1.1 hC.1.2.1 hd (k ad w H locs ls hx0 hw hS hl)
theorem g_ishr (hC : g_C p s m args c D cl N A nL cc own Ts) {x y : Int32} (hd : decode cc pc = .ok (.ishr, 1)) (k : G p l e R s m args below meth c D cl A nL Q cells slots V (pc + 1) lo (.int (x >>> (y &&& 31)) :: st)) : G p l e R s m args below meth c D cl A nL Q cells slots V (pc) lo (.int y :: .int x :: st) := fun ad w H locs ls hx0 hw hS hl => lv_ishr hC.1.1 hC.1.2.1 hd (k ad w H locs ls hx0 hw hS hl)
theorem g_idiv (hC : g_C p s m args c D cl N A nL cc own Ts) {x y : Int32} (hd : decode cc pc = .ok (.idiv, 1)) (hne : ¬ y = 0) (k : G p l e R s m args below meth c D cl A nL Q cells slots V (pc + 1) lo (.int (x / y) :: st)) : G p l e R s m args below meth c D cl A nL Q cells slots V (pc) lo (.int y :: .int x :: st) := fun ad w H locs ls hx0 hw hS hl => lv_idiv hC.1.1 hC.1.2.1 hd hne (k ad w H locs ls hx0 hw hS hl)
theorem g_irem (hC : g_C p s m args c D cl N A nL cc own Ts) {x y : Int32} (hd : decode cc pc = .ok (.irem, 1)) (hne : ¬ y = 0) (k : G p l e R s m args below meth c D cl A nL Q cells slots V (pc + 1) lo (.int (x - x / y * y) :: st)) : G p l e R s m args below meth c D cl A nL Q cells slots V (pc) lo (.int y :: .int x :: st) := fun ad w H locs ls hx0 hw hS hl => lv_irem hC.1.1 hC.1.2.1 hd hne (k ad w H locs ls hx0 hw hS hl)
theorem g_ineg (hC : g_C p s m args c D cl N A nL cc own Ts) {x : Int32} (hd : decode cc pc = .ok (.ineg, 1)) (k : G p l e R s m args below meth c D cl A nL Q cells slots V (pc + 1) lo (.int (-x) :: st)) : G p l e R s m args below meth c D cl A nL Q cells slots V (pc) lo (.int x :: st) := fun ad w H locs ls hx0 hw hS hl => lv_ineg hC.1.1 hC.1.2.1 hd (k ad w H locs ls hx0 hw hS hl)
theorem g_ladd (hC : g_C p s m args c D cl N A nL cc own Ts) {x y : Int64} (hd : decode cc pc = .ok (.ladd, 1)) (k : G p l e R s m args below meth c D cl A nL Q cells slots V (pc + 1) lo (.long (x + y) :: st)) : G p l e R s m args below meth c D cl A nL Q cells slots V (pc) lo (.long y :: .long x :: st) := fun ad w H locs ls hx0 hw hS hl => lv_ladd hC.1.1 hC.1.2.1 hd (k ad w H locs ls hx0 hw hS hl)
theorem g_lmul (hC : g_C p s m args c D cl N A nL cc own Ts) {x y : Int64} (hd : decode cc pc = .ok (.lmul, 1)) (k : G p l e R s m args below meth c D cl A nL Q cells slots V (pc + 1) lo (.long (x * y) :: st)) : G p l e R s m args below meth c D cl A nL Q cells slots V (pc) lo (.long y :: .long x :: st) := fun ad w H locs ls hx0 hw hS hl => lv_lmul hC.1.1 hC.1.2.1 hd (k ad w H locs ls hx0 hw hS hl)
theorem g_land (hC : g_C p s m args c D cl N A nL cc own Ts) {x y : Int64} (hd : decode cc pc = .ok (.land, 1)) (k : G p l e R s m args below meth c D cl A nL Q cells slots V (pc + 1) lo (.long (x &&& y) :: st)) : G p l e R s m args below meth c D cl A nL Q cells slots V (pc) lo (.long y :: .long x :: st) := fun ad w H locs ls hx0 hw hS hl => lv_land hC.1.1 hC.1.2.1 hd (k ad w H locs ls hx0 hw hS hl)
theorem g_lor (hC : g_C p s m args c D cl N A nL cc own Ts) {x y : Int64} (hd : decode cc pc = .ok (.lor, 1)) (k : G p l e R s m args below meth c D cl A nL Q cells slots V (pc + 1) lo (.long (x ||| y) :: st)) : G p l e R s m args below meth c D cl A nL Q cells slots V (pc) lo (.long y :: .long x :: st) := fun ad w H locs ls hx0 hw hS hl => lv_lor hC.1.1 hC.1.2.1 hd (k ad w H locs ls hx0 hw hS hl)
theorem g_i2l (hC : g_C p s m args c D cl N A nL cc own Ts) {x : Int32} {v : Int64} (hd : decode cc pc = .ok (.i2l, 1)) (hv : x.toInt64 = v) (k : G p l e R s m args below meth c D cl A nL Q cells slots V (pc + 1) lo (.long v :: st)) : G p l e R s m args below meth c D cl A nL Q cells slots V (pc) lo (.int x :: st) := fun ad w H locs ls hx0 hw hS hl => lv_i2l hC.1.1 hC.1.2.1 hd hv (k ad w H locs ls hx0 hw hS hl)
theorem g_l2i (hC : g_C p s m args c D cl N A nL cc own Ts) {x : Int64} {v : Int32} (hd : decode cc pc = .ok (.l2i, 1)) (hv : x.toInt32 = v) (k : G p l e R s m args below meth c D cl A nL Q cells slots V (pc + 1) lo (.int v :: st)) : G p l e R s m args below meth c D cl A nL Q cells slots V (pc) lo (.long x :: st) := fun ad w H locs ls hx0 hw hS hl => lv_l2i hC.1.1 hC.1.2.1 hd hv (k ad w H locs ls hx0 hw hS hl)
theorem g_lshl (hC : g_C p s m args c D cl N A nL cc own Ts) {x v : Int64} {y : Int32} (hd : decode cc pc = .ok (.lshl, 1)) (hv : x <<< (y.toInt64 &&& 63) = v) (k : G p l e R s m args below meth c D cl A nL Q cells slots V (pc + 1) lo (.long v :: st)) : G p l e R s m args below meth c D cl A nL Q cells slots V (pc) lo (.int y :: .long x :: st) := fun ad w H locs ls hx0 hw hS hl => lv_lshl hC.1.1 hC.1.2.1 hd hv (k ad w H locs ls hx0 hw hS hl)
theorem g_lshr (hC : g_C p s m args c D cl N A nL cc own Ts) {x v : Int64} {y : Int32} (hd : decode cc pc = .ok (.lshr, 1)) (hv : x >>> (y.toInt64 &&& 63) = v) (k : G p l e R s m args below meth c D cl A nL Q cells slots V (pc + 1) lo (.long v :: st)) : G p l e R s m args below meth c D cl A nL Q cells slots V (pc) lo (.int y :: .long x :: st) := fun ad w H locs ls hx0 hw hS hl => lv_lshr hC.1.1 hC.1.2.1 hd hv (k ad w H locs ls hx0 hw hS hl)
theorem g_lcmp (hC : g_C p s m args c D cl N A nL cc own Ts) {x y : Int64} (hd : decode cc pc = .ok (.lcmp, 1)) (k : G p l e R s m args below meth c D cl A nL Q cells slots V (pc + 1) lo (.int (lg_cmp x y) :: st)) : G p l e R s m args below meth c D cl A nL Q cells slots V (pc) lo (.long y :: .long x :: st) := fun ad w H locs ls hx0 hw hS hl => W.lcmp hC.1.1 hC.1.2.1 hd (k ad w H locs ls hx0 hw hS hl)
theorem g_dup (hC : g_C p s m args c D cl N A nL cc own Ts) {va : Value} (hd : decode cc pc = .ok (.dup, 1)) (hva : va.category = 1) (k : G p l e R s m args below meth c D cl A nL Q cells slots V (pc + 1) lo (va :: va :: st)) : G p l e R s m args below meth c D cl A nL Q cells slots V (pc) lo (va :: st) := fun ad w H locs ls hx0 hw hS hl => lv_dup hC.1.1 hC.1.2.1 hd hva (k ad w H locs ls hx0 hw hS hl)
theorem g_dup2 (hC : g_C p s m args c D cl N A nL cc own Ts) {va vb : Value} (hd : decode cc pc = .ok (.dup2, 1)) (hva : va.category = 1) (hvb : vb.category = 1) (k : G p l e R s m args below meth c D cl A nL Q cells slots V (pc + 1) lo (va :: vb :: va :: vb :: st)) : G p l e R s m args below meth c D cl A nL Q cells slots V (pc) lo (va :: vb :: st) := fun ad w H locs ls hx0 hw hS hl => lv_dup2_11 hC.1.1 hC.1.2.1 hd hva hvb (k ad w H locs ls hx0 hw hS hl)
theorem g_if_eq (hC : g_C p s m args c D cl N A nL cc own Ts) {x : Int32} {off : Int} {tgt : Nat} (hd : decode cc pc = .ok (.ifCond .eq off, 3)) (ht : (pc : Int) + off = (tgt : Int)) (kt : x = 0 → G p l e R s m args below meth c D cl A nL Q cells slots V (tgt) lo (st)) (kf : ¬ x = 0 → G p l e R s m args below meth c D cl A nL Q cells slots V (pc + 3) lo (st)) : G p l e R s m args below meth c D cl A nL Q cells slots V (pc) lo (.int x :: st) := fun ad w H locs ls hx0 hw hS hl => lv_if_eq hC.1.1 hC.1.2.1 hd ht (fun h => kt h ad w H locs ls hx0 hw hS hl) (fun h => kf h ad w H locs ls hx0 hw hS hl)
theorem g_icmp_eq (hC : g_C p s m args c D cl N A nL cc own Ts) {x y : Int32} {off : Int} {tgt : Nat} (hd : decode cc pc = .ok (.if_icmp .eq off, 3)) (ht : (pc : Int) + off = (tgt : Int)) (kt : x = y → G p l e R s m args below meth c D cl A nL Q cells slots V (tgt) lo (st)) (kf : ¬ x = y → G p l e R s m args below meth c D cl A nL Q cells slots V (pc + 3) lo (st)) : G p l e R s m args below meth c D cl A nL Q cells slots V (pc) lo (.int y :: .int x :: st) := fun ad w H locs ls hx0 hw hS hl => lv_icmp_eq hC.1.1 hC.1.2.1 hd ht (fun h => kt h ad w H locs ls hx0 hw hS hl) (fun h => kf h ad w H locs ls hx0 hw hS hl)
theorem g_if_ne (hC : g_C p s m args c D cl N A nL cc own Ts) {x : Int32} {off : Int} {tgt : Nat} (hd : decode cc pc = .ok (.ifCond .ne off, 3)) (ht : (pc : Int) + off = (tgt : Int)) (kt : ¬ x = 0 → G p l e R s m args below meth c D cl A nL Q cells slots V (tgt) lo (st)) (kf : x = 0 → G p l e R s m args below meth c D cl A nL Q cells slots V (pc + 3) lo (st)) : G p l e R s m args below meth c D cl A nL Q cells slots V (pc) lo (.int x :: st) := fun ad w H locs ls hx0 hw hS hl => lv_if_ne hC.1.1 hC.1.2.1 hd ht (fun h => kt h ad w H locs ls hx0 hw hS hl) (fun h => kf h ad w H locs ls hx0 hw hS hl)
theorem g_icmp_ne (hC : g_C p s m args c D cl N A nL cc own Ts) {x y : Int32} {off : Int} {tgt : Nat} (hd : decode cc pc = .ok (.if_icmp .ne off, 3)) (ht : (pc : Int) + off = (tgt : Int)) (kt : ¬ x = y → G p l e R s m args below meth c D cl A nL Q cells slots V (tgt) lo (st)) (kf : x = y → G p l e R s m args below meth c D cl A nL Q cells slots V (pc + 3) lo (st)) : G p l e R s m args below meth c D cl A nL Q cells slots V (pc) lo (.int y :: .int x :: st) := fun ad w H locs ls hx0 hw hS hl => lv_icmp_ne hC.1.1 hC.1.2.1 hd ht (fun h => kt h ad w H locs ls hx0 hw hS hl) (fun h => kf h ad w H locs ls hx0 hw hS hl)
theorem g_if_lt (hC : g_C p s m args c D cl N A nL cc own Ts) {x : Int32} {off : Int} {tgt : Nat} (hd : decode cc pc = .ok (.ifCond .lt off, 3)) (ht : (pc : Int) + off = (tgt : Int)) (kt : x < 0 → G p l e R s m args below meth c D cl A nL Q cells slots V (tgt) lo (st)) (kf : ¬ x < 0 → G p l e R s m args below meth c D cl A nL Q cells slots V (pc + 3) lo (st)) : G p l e R s m args below meth c D cl A nL Q cells slots V (pc) lo (.int x :: st) := fun ad w H locs ls hx0 hw hS hl => lv_if_lt hC.1.1 hC.1.2.1 hd ht (fun h => kt h ad w H locs ls hx0 hw hS hl) (fun h => kf h ad w H locs ls hx0 hw hS hl)
theorem g_icmp_lt (hC : g_C p s m args c D cl N A nL cc own Ts) {x y : Int32} {off : Int} {tgt : Nat} (hd : decode cc pc = .ok (.if_icmp .lt off, 3)) (ht : (pc : Int) + off = (tgt : Int)) (kt : x < y → G p l e R s m args below meth c D cl A nL Q cells slots V (tgt) lo (st)) (kf : ¬ x < y → G p l e R s m args below meth c D cl A nL Q cells slots V (pc + 3) lo (st)) : G p l e R s m args below meth c D cl A nL Q cells slots V (pc) lo (.int y :: .int x :: st) := fun ad w H locs ls hx0 hw hS hl => lv_icmp_lt hC.1.1 hC.1.2.1 hd ht (fun h => kt h ad w H locs ls hx0 hw hS hl) (fun h => kf h ad w H locs ls hx0 hw hS hl)
theorem g_if_ge (hC : g_C p s m args c D cl N A nL cc own Ts) {x : Int32} {off : Int} {tgt : Nat} (hd : decode cc pc = .ok (.ifCond .ge off, 3)) (ht : (pc : Int) + off = (tgt : Int)) (kt : 0 ≤ x → G p l e R s m args below meth c D cl A nL Q cells slots V (tgt) lo (st)) (kf : ¬ 0 ≤ x → G p l e R s m args below meth c D cl A nL Q cells slots V (pc + 3) lo (st)) : G p l e R s m args below meth c D cl A nL Q cells slots V (pc) lo (.int x :: st) := fun ad w H locs ls hx0 hw hS hl => lv_if_ge hC.1.1 hC.1.2.1 hd ht (fun h => kt h ad w H locs ls hx0 hw hS hl) (fun h => kf h ad w H locs ls hx0 hw hS hl)
theorem g_icmp_ge (hC : g_C p s m args c D cl N A nL cc own Ts) {x y : Int32} {off : Int} {tgt : Nat} (hd : decode cc pc = .ok (.if_icmp .ge off, 3)) (ht : (pc : Int) + off = (tgt : Int)) (kt : y ≤ x → G p l e R s m args below meth c D cl A nL Q cells slots V (tgt) lo (st)) (kf : ¬ y ≤ x → G p l e R s m args below meth c D cl A nL Q cells slots V (pc + 3) lo (st)) : G p l e R s m args below meth c D cl A nL Q cells slots V (pc) lo (.int y :: .int x :: st) := fun ad w H locs ls hx0 hw hS hl => lv_icmp_ge hC.1.1 hC.1.2.1 hd ht (fun h => kt h ad w H locs ls hx0 hw hS hl) (fun h => kf h ad w H locs ls hx0 hw hS hl)
theorem g_if_gt (hC : g_C p s m args c D cl N A nL cc own Ts) {x : Int32} {off : Int} {tgt : Nat} (hd : decode cc pc = .ok (.ifCond .gt off, 3)) (ht : (pc : Int) + off = (tgt : Int)) (kt : 0 < x → G p l e R s m args below meth c D cl A nL Q cells slots V (tgt) lo (st)) (kf : ¬ 0 < x → G p l e R s m args below meth c D cl A nL Q cells slots V (pc + 3) lo (st)) : G p l e R s m args below meth c D cl A nL Q cells slots V (pc) lo (.int x :: st) := fun ad w H locs ls hx0 hw hS hl => lv_if_gt hC.1.1 hC.1.2.1 hd ht (fun h => kt h ad w H locs ls hx0 hw hS hl) (fun h => kf h ad w H locs ls hx0 hw hS hl)
theorem g_icmp_gt (hC : g_C p s m args c D cl N A nL cc own Ts) {x y : Int32} {off : Int} {tgt : Nat} (hd : decode cc pc = .ok (.if_icmp .gt off, 3)) (ht : (pc : Int) + off = (tgt : Int)) (kt : y < x → G p l e R s m args below meth c D cl A nL Q cells slots V (tgt) lo (st)) (kf : ¬ y < x → G p l e R s m args below meth c D cl A nL Q cells slots V (pc + 3) lo (st)) : G p l e R s m args below meth c D cl A nL Q cells slots V (pc) lo (.int y :: .int x :: st) := fun ad w H locs ls hx0 hw hS hl => lv_icmp_gt hC.1.1 hC.1.2.1 hd ht (fun h => kt h ad w H locs ls hx0 hw hS hl) (fun h => kf h ad w H locs ls hx0 hw hS hl)
theorem g_if_le (hC : g_C p s m args c D cl N A nL cc own Ts) {x : Int32} {off : Int} {tgt : Nat} (hd : decode cc pc = .ok (.ifCond .le off, 3)) (ht : (pc : Int) + off = (tgt : Int)) (kt : x ≤ 0 → G p l e R s m args below meth c D cl A nL Q cells slots V (tgt) lo (st)) (kf : ¬ x ≤ 0 → G p l e R s m args below meth c D cl A nL Q cells slots V (pc + 3) lo (st)) : G p l e R s m args below meth c D cl A nL Q cells slots V (pc) lo (.int x :: st) := fun ad w H locs ls hx0 hw hS hl => lv_if_le hC.1.1 hC.1.2.1 hd ht (fun h => kt h ad w H locs ls hx0 hw hS hl) (fun h => kf h ad w H locs ls hx0 hw hS hl)
theorem g_icmp_le (hC : g_C p s m args c D cl N A nL cc own Ts) {x y : Int32} {off : Int} {tgt : Nat} (hd : decode cc pc = .ok (.if_icmp .le off, 3)) (ht : (pc : Int) + off = (tgt : Int)) (kt : x ≤ y → G p l e R s m args below meth c D cl A nL Q cells slots V (tgt) lo (st)) (kf : ¬ x ≤ y → G p l e R s m args below meth c D cl A nL Q cells slots V (pc + 3) lo (st)) : G p l e R s m args below meth c D cl A nL Q cells slots V (pc) lo (.int y :: .int x :: st) := fun ad w H locs ls hx0 hw hS hl => lv_icmp_le hC.1.1 hC.1.2.1 hd ht (fun h => kt h ad w H locs ls hx0 hw hS hl) (fun h => kf h ad w H locs ls hx0 hw hS hl)
theorem g_goto (hC : g_C p s m args c D cl N A nL cc own Ts) {off : Int} {tgt : Nat} (hd : decode cc pc = .ok (.goto off, 3)) (ht : (pc : Int) + off = (tgt : Int)) (k : G p l e R s m args below meth c D cl A nL Q cells slots V (tgt) lo (st)) : G p l e R s m args below meth c D cl A nL Q cells slots V (pc) lo (st) := fun ad w H locs ls hx0 hw hS hl => lv_goto hC.1.1 hC.1.2.1 hd ht (k ad w H locs ls hx0 hw hS hl)
theorem g_null (hC : g_C p s m args c D cl N A nL cc own Ts) (hd : decode cc pc = .ok (.aconst_null, 1)) (k : G p l e R s m args below meth c D cl A nL Q cells slots V (pc + 1) lo (.null :: st)) : G p l e R s m args below meth c D cl A nL Q cells slots V (pc) lo (st) := fun ad w H locs ls hx0 hw hS hl => lv_null hC.1.1 hC.1.2.1 hd (k ad w H locs ls hx0 hw hS hl)
theorem g_ifnull (hC : g_C p s m args c D cl N A nL cc own Ts) {r : Option Nat} {off : Int} {tgt : Nat} (hd : decode cc pc = .ok (.ifnull off, 3)) (ht : (pc : Int) + off = (tgt : Int)) (kt : r = none → G p l e R s m args below meth c D cl A nL Q cells slots V (tgt) lo (st)) (kf : ∀ a, r = some a → G p l e R s m args below meth c D cl A nL Q cells slots V (pc + 3) lo (st)) : G p l e R s m args below meth c D cl A nL Q cells slots V (pc) lo (va_rf r :: st) := fun ad w H locs ls hx0 hw hS hl => by
  cases r with
  | none => exact lv_ifnullN hC.1.1 hC.1.2.1 hd ht (kt rfl ad w H locs ls hx0 hw hS hl)
  | some a => exact lv_ifnull hC.1.1 hC.1.2.1 hd (kf a rfl ad w H locs ls hx0 hw hS hl)
theorem g_ifnonnull (hC : g_C p s m args c D cl N A nL cc own Ts) {r : Option Nat} {off : Int} {tgt : Nat} (hd : decode cc pc = .ok (.ifnonnull off, 3)) (ht : (pc : Int) + off = (tgt : Int)) (kt : ∀ a, r = some a → G p l e R s m args below meth c D cl A nL Q cells slots V (tgt) lo (st)) (kf : r = none → G p l e R s m args below meth c D cl A nL Q cells slots V (pc + 3) lo (st)) : G p l e R s m args below meth c D cl A nL Q cells slots V (pc) lo (va_rf r :: st) := fun ad w H locs ls hx0 hw hS hl => by
  cases r with
  | none => exact lv_ifnonnullN hC.1.1 hC.1.2.1 hd (kf rfl ad w H locs ls hx0 hw hS hl)
  | some a => exact lv_ifnonnull hC.1.1 hC.1.2.1 hd ht (kt a rfl ad w H locs ls hx0 hw hS hl)
theorem g_los {lo' : List (Nat × Value)} (ks : List Nat) (hlo : lv_pick lo ks = lo') (k : G p l e R s m args below meth c D cl A nL Q cells slots V (pc) lo' (st)) : G p l e R s m args below meth c D cl A nL Q cells slots V (pc) lo (st) := fun ad w H locs ls hx0 hw hS hl => k ad w H locs ls hx0 hw hS (lv_sub hl ks hlo)
theorem g_eqi {x y : Int32} (h : x = y) (k : G p l e R s m args below meth c D cl A nL Q cells slots V (pc) lo (.int y :: st)) : G p l e R s m args below meth c D cl A nL Q cells slots V (pc) lo (.int x :: st) := by
  rw [h]
  exact k
theorem g_eql {x y : Int64} (h : x = y) (k : G p l e R s m args below meth c D cl A nL Q cells slots V (pc) lo (.long y :: st)) : G p l e R s m args below meth c D cl A nL Q cells slots V (pc) lo (.long x :: st) := by
  rw [h]
  exact k
theorem g_pc {pc' : Nat} (h : pc = pc') (k : G p l e R s m args below meth c D cl A nL Q cells slots V (pc') lo (st)) : G p l e R s m args below meth c D cl A nL Q cells slots V (pc) lo (st) := by
  rw [h]
  exact k
theorem g_iaddN (hC : g_C p s m args c D cl N A nL cc own Ts) {a b : Nat} (hd : decode cc pc = .ok (.iadd, 1))  (k : G p l e R s m args below meth c D cl A nL Q cells slots V (pc + 1) lo (.int (nI (a + b)) :: st)) : G p l e R s m args below meth c D cl A nL Q cells slots V (pc) lo (.int (nI b) :: .int (nI a) :: st) := g_iadd hC hd (g_eqi (nI_add a b) k)
theorem g_imulN (hC : g_C p s m args c D cl N A nL cc own Ts) {a b : Nat} (hd : decode cc pc = .ok (.imul, 1))  (k : G p l e R s m args below meth c D cl A nL Q cells slots V (pc + 1) lo (.int (nI (a * b)) :: st)) : G p l e R s m args below meth c D cl A nL Q cells slots V (pc) lo (.int (nI b) :: .int (nI a) :: st) := g_imul hC hd (g_eqi (pk_mul a b) k)
theorem g_isubN (hC : g_C p s m args c D cl N A nL cc own Ts) {a b : Nat} (hd : decode cc pc = .ok (.isub, 1)) (hs : b ≤ a) (k : G p l e R s m args below meth c D cl A nL Q cells slots V (pc + 1) lo (.int (nI (a - b)) :: st)) : G p l e R s m args below meth c D cl A nL Q cells slots V (pc) lo (.int (nI b) :: .int (nI a) :: st) := g_isub hC hd (g_eqi (pk_sub hs) k)
theorem g_idivN (hC : g_C p s m args c D cl N A nL cc own Ts) {a b : Nat} (hd : decode cc pc = .ok (.idiv, 1)) (ha : a < 2 ^ 31) (h0 : 0 < b) (hb : b < 2 ^ 31) (k : G p l e R s m args below meth c D cl A nL Q cells slots V (pc + 1) lo (.int (nI (a / b)) :: st)) : G p l e R s m args below meth c D cl A nL Q cells slots V (pc) lo (.int (nI b) :: .int (nI a) :: st) := g_idiv hC hd (nI_ne0 h0 hb) (g_eqi (pk_div ha h0 hb) k)
theorem g_iremN (hC : g_C p s m args c D cl N A nL cc own Ts) {a b : Nat} (hd : decode cc pc = .ok (.irem, 1)) (ha : a < 2 ^ 31) (h0 : 0 < b) (hb : b < 2 ^ 31) (k : G p l e R s m args below meth c D cl A nL Q cells slots V (pc + 1) lo (.int (nI (a % b)) :: st)) : G p l e R s m args below meth c D cl A nL Q cells slots V (pc) lo (.int (nI b) :: .int (nI a) :: st) := g_irem hC hd (nI_ne0 h0 hb) (g_eqi (pk_rem ha h0 hb) k)
theorem g_icmp_eqN (hC : g_C p s m args c D cl N A nL cc own Ts) {a b : Nat} {off : Int} {tgt : Nat} (hd : decode cc pc = .ok (.if_icmp .eq off, 3)) (ht : (pc : Int) + off = (tgt : Int)) (ha : a < 2 ^ 31) (hb : b < 2 ^ 31) (kt : a = b → G p l e R s m args below meth c D cl A nL Q cells slots V (tgt) lo (st)) (kf : a ≠ b → G p l e R s m args below meth c D cl A nL Q cells slots V (pc + 3) lo (st)) : G p l e R s m args below meth c D cl A nL Q cells slots V (pc) lo (.int (nI b) :: .int (nI a) :: st) := g_icmp_eq hC hd ht (fun h => kt ((nI_eq ha hb).mp h)) (fun h => kf (fun q => h ((nI_eq ha hb).mpr q)))
theorem g_icmp_neN (hC : g_C p s m args c D cl N A nL cc own Ts) {a b : Nat} {off : Int} {tgt : Nat} (hd : decode cc pc = .ok (.if_icmp .ne off, 3)) (ht : (pc : Int) + off = (tgt : Int)) (ha : a < 2 ^ 31) (hb : b < 2 ^ 31) (kt : a ≠ b → G p l e R s m args below meth c D cl A nL Q cells slots V (tgt) lo (st)) (kf : a = b → G p l e R s m args below meth c D cl A nL Q cells slots V (pc + 3) lo (st)) : G p l e R s m args below meth c D cl A nL Q cells slots V (pc) lo (.int (nI b) :: .int (nI a) :: st) := g_icmp_ne hC hd ht (fun h => kt (fun q => h ((nI_eq ha hb).mpr q))) (fun h => kf ((nI_eq ha hb).mp h))
theorem g_icmp_ltN (hC : g_C p s m args c D cl N A nL cc own Ts) {a b : Nat} {off : Int} {tgt : Nat} (hd : decode cc pc = .ok (.if_icmp .lt off, 3)) (ht : (pc : Int) + off = (tgt : Int)) (ha : a < 2 ^ 31) (hb : b < 2 ^ 31) (kt : a < b → G p l e R s m args below meth c D cl A nL Q cells slots V (tgt) lo (st)) (kf : b ≤ a → G p l e R s m args below meth c D cl A nL Q cells slots V (pc + 3) lo (st)) : G p l e R s m args below meth c D cl A nL Q cells slots V (pc) lo (.int (nI b) :: .int (nI a) :: st) := g_icmp_lt hC hd ht (fun h => kt ((nI_ltI ha hb).mp h)) (fun h => kf (Nat.le_of_not_lt (fun q => h ((nI_ltI ha hb).mpr q))))
theorem g_icmp_geN (hC : g_C p s m args c D cl N A nL cc own Ts) {a b : Nat} {off : Int} {tgt : Nat} (hd : decode cc pc = .ok (.if_icmp .ge off, 3)) (ht : (pc : Int) + off = (tgt : Int)) (ha : a < 2 ^ 31) (hb : b < 2 ^ 31) (kt : b ≤ a → G p l e R s m args below meth c D cl A nL Q cells slots V (tgt) lo (st)) (kf : a < b → G p l e R s m args below meth c D cl A nL Q cells slots V (pc + 3) lo (st)) : G p l e R s m args below meth c D cl A nL Q cells slots V (pc) lo (.int (nI b) :: .int (nI a) :: st) := g_icmp_ge hC hd ht (fun h => kt ((nI_leI hb ha).mp h)) (fun h => kf (Nat.lt_of_not_le (fun q => h ((nI_leI hb ha).mpr q))))
theorem g_icmp_gtN (hC : g_C p s m args c D cl N A nL cc own Ts) {a b : Nat} {off : Int} {tgt : Nat} (hd : decode cc pc = .ok (.if_icmp .gt off, 3)) (ht : (pc : Int) + off = (tgt : Int)) (ha : a < 2 ^ 31) (hb : b < 2 ^ 31) (kt : b < a → G p l e R s m args below meth c D cl A nL Q cells slots V (tgt) lo (st)) (kf : a ≤ b → G p l e R s m args below meth c D cl A nL Q cells slots V (pc + 3) lo (st)) : G p l e R s m args below meth c D cl A nL Q cells slots V (pc) lo (.int (nI b) :: .int (nI a) :: st) := g_icmp_gt hC hd ht (fun h => kt ((nI_ltI hb ha).mp h)) (fun h => kf (Nat.le_of_not_lt (fun q => h ((nI_ltI hb ha).mpr q))))
theorem g_icmp_leN (hC : g_C p s m args c D cl N A nL cc own Ts) {a b : Nat} {off : Int} {tgt : Nat} (hd : decode cc pc = .ok (.if_icmp .le off, 3)) (ht : (pc : Int) + off = (tgt : Int)) (ha : a < 2 ^ 31) (hb : b < 2 ^ 31) (kt : a ≤ b → G p l e R s m args below meth c D cl A nL Q cells slots V (tgt) lo (st)) (kf : b < a → G p l e R s m args below meth c D cl A nL Q cells slots V (pc + 3) lo (st)) : G p l e R s m args below meth c D cl A nL Q cells slots V (pc) lo (.int (nI b) :: .int (nI a) :: st) := g_icmp_le hC hd ht (fun h => kt ((nI_leI ha hb).mp h)) (fun h => kf (Nat.lt_of_not_le (fun q => h ((nI_leI ha hb).mpr q))))
theorem g_if_eqN (hC : g_C p s m args c D cl N A nL cc own Ts) {a : Nat} {off : Int} {tgt : Nat} (hd : decode cc pc = .ok (.ifCond .eq off, 3)) (ht : (pc : Int) + off = (tgt : Int)) (ha : a < 2 ^ 31) (kt : a = 0 → G p l e R s m args below meth c D cl A nL Q cells slots V (tgt) lo (st)) (kf : a ≠ 0 → G p l e R s m args below meth c D cl A nL Q cells slots V (pc + 3) lo (st)) : G p l e R s m args below meth c D cl A nL Q cells slots V (pc) lo (.int (nI a) :: st) := g_if_eq hC hd ht (fun h => kt ((nI_eq (b := 0) ha (by decide)).mp h)) (fun h => kf (fun q => h ((nI_eq (b := 0) ha (by decide)).mpr q)))
theorem g_if_neN (hC : g_C p s m args c D cl N A nL cc own Ts) {a : Nat} {off : Int} {tgt : Nat} (hd : decode cc pc = .ok (.ifCond .ne off, 3)) (ht : (pc : Int) + off = (tgt : Int)) (ha : a < 2 ^ 31) (kt : a ≠ 0 → G p l e R s m args below meth c D cl A nL Q cells slots V (tgt) lo (st)) (kf : a = 0 → G p l e R s m args below meth c D cl A nL Q cells slots V (pc + 3) lo (st)) : G p l e R s m args below meth c D cl A nL Q cells slots V (pc) lo (.int (nI a) :: st) := g_if_ne hC hd ht (fun h => kt (fun q => h ((nI_eq (b := 0) ha (by decide)).mpr q))) (fun h => kf ((nI_eq (b := 0) ha (by decide)).mp h))
theorem g_if_gtN (hC : g_C p s m args c D cl N A nL cc own Ts) {a : Nat} {off : Int} {tgt : Nat} (hd : decode cc pc = .ok (.ifCond .gt off, 3)) (ht : (pc : Int) + off = (tgt : Int)) (ha : a < 2 ^ 31) (kt : 0 < a → G p l e R s m args below meth c D cl A nL Q cells slots V (tgt) lo (st)) (kf : a = 0 → G p l e R s m args below meth c D cl A nL Q cells slots V (pc + 3) lo (st)) : G p l e R s m args below meth c D cl A nL Q cells slots V (pc) lo (.int (nI a) :: st) := g_if_gt hC hd ht (fun h => kt ((nI_ltI (a := 0) (by decide) ha).mp h)) (fun h => kf (Nat.eq_zero_of_not_pos (fun q => h ((nI_ltI (a := 0) (by decide) ha).mpr q))))
theorem g_if_leN (hC : g_C p s m args c D cl N A nL cc own Ts) {a : Nat} {off : Int} {tgt : Nat} (hd : decode cc pc = .ok (.ifCond .le off, 3)) (ht : (pc : Int) + off = (tgt : Int)) (ha : a < 2 ^ 31) (kt : a = 0 → G p l e R s m args below meth c D cl A nL Q cells slots V (tgt) lo (st)) (kf : 0 < a → G p l e R s m args below meth c D cl A nL Q cells slots V (pc + 3) lo (st)) : G p l e R s m args below meth c D cl A nL Q cells slots V (pc) lo (.int (nI a) :: st) := g_if_le hC hd ht (fun h => kt (Nat.le_zero.mp ((nI_leI (b := 0) ha (by decide)).mp h))) (fun h => kf (Nat.lt_of_not_le (fun q => h ((nI_leI (b := 0) ha (by decide)).mpr q))))
theorem g_if_ltN (hC : g_C p s m args c D cl N A nL cc own Ts) {a : Nat} {off : Int} {tgt : Nat} (hd : decode cc pc = .ok (.ifCond .lt off, 3)) (ht : (pc : Int) + off = (tgt : Int)) (ha : a < 2 ^ 31) (kf : G p l e R s m args below meth c D cl A nL Q cells slots V (pc + 3) lo (st)) : G p l e R s m args below meth c D cl A nL Q cells slots V (pc) lo (.int (nI a) :: st) := g_if_lt hC hd ht (fun h => absurd h (nI_pos ha)) (fun _ => kf)
theorem g_if_geN (hC : g_C p s m args c D cl N A nL cc own Ts) {a : Nat} {off : Int} {tgt : Nat} (hd : decode cc pc = .ok (.ifCond .ge off, 3)) (ht : (pc : Int) + off = (tgt : Int)) (ha : a < 2 ^ 31) (kt : G p l e R s m args below meth c D cl A nL Q cells slots V (tgt) lo (st)) : G p l e R s m args below meth c D cl A nL Q cells slots V (pc) lo (.int (nI a) :: st) := g_if_ge hC hd ht (fun _ => kt) (fun h => absurd (nI_pos' ha) h)
theorem g_get {a : Nat} {ref C : String} {T : u_T} {NF ci index : Nat} {fs : List Value} {v : Value} (hC : g_C p s m args c D cl N A nL cc own Ts) (hin : ∀ x ∈ u_ws C T NF, x ∈ Ts) (q : Nat) (hq : ∀ ad w, V ad w → ad q = a ∧ w q = some (.inr (ci, fs))) (hc : cl[ci]? = some (C, T, NF)) (k : Nat) (hk : k < NF) (hlink : Cond.fieldLink own index ref (T k).2.1 (T k).2.2.1 ∈ Ts) (href : (T k).1 = ref) (hfv : fs[k]? = some v) (hd : decode cc pc = .ok (.getfield index, 3)) (kk : G p l e R s m args below meth c D cl A nL Q cells slots V (pc + 3) lo (v :: st)) : G p l e R s m args below meth c D cl A nL Q cells slots V (pc) lo (.ref a :: st) := fun ad w H locs ls hx0 hw hS hl => by
  obtain ⟨ha, he⟩ := hq ad w hx0
  subst ha
  subst href
  have hP : va_P D cl [(ad q, .inr (ci, fs))] H := fun k2 x hx => by
    have hz : k2 < 1 := (List.getElem?_eq_some_iff.mp hx).1
    rw [show k2 = 0 by omega] at hx
    cases hx
    exact (hw.1 q _ he).1
  exact va_get hC.1.1 hC.1.2.1 hC.1.2.2.2.2 hin hC.1.2.2.2.1 hC.2.1 hP 0 rfl hc k hk (hC.1.2.2.2.2 _ hlink) (fun _ h => h) hfv hd (kk ad w H locs ls hx0 hw hS hl)
theorem g_getN {a : Nat} {ref C host : String} {T : u_T} {NF ci index : Nat} {fs : List Value} {v : Value} (hC : g_C p s m args c D cl N A nL cc own Ts) (hin : ∀ x ∈ u_ws C T NF, x ∈ Ts) (q : Nat) (hq : ∀ ad w, V ad w → ad q = a ∧ w q = some (.inr (ci, fs))) (hc : cl[ci]? = some (C, T, NF)) (k : Nat) (hk : k < NF) (hlink : va_Nw (Cond.fieldLinkNest own index ref (T k).2.1 (T k).2.2.1 host) s) (href : (T k).1 = ref) (hfv : fs[k]? = some v) (hd : decode cc pc = .ok (.getfield index, 3)) (kk : G p l e R s m args below meth c D cl A nL Q cells slots V (pc + 3) lo (v :: st)) : G p l e R s m args below meth c D cl A nL Q cells slots V (pc) lo (.ref a :: st) := fun ad w H locs ls hx0 hw hS hl => by
  obtain ⟨ha, he⟩ := hq ad w hx0
  subst ha
  subst href
  have hP : va_P D cl [(ad q, .inr (ci, fs))] H := fun k2 x hx => by
    have hz : k2 < 1 := (List.getElem?_eq_some_iff.mp hx).1
    rw [show k2 = 0 by omega] at hx
    cases hx
    exact (hw.1 q _ he).1
  exact va_getN hC.1.1 hC.1.2.1 hC.1.2.2.2.2 hin hC.1.2.2.2.1 hC.2.1 hP 0 rfl hc k hk (va_Nw.use rfl hlink) (fun _ h => h) hfv hd (kk ad w H locs ls hx0 hw hS hl)
theorem g_put {a : Nat} {ref C : String} {T : u_T} {NF ci index : Nat} {fs : List Value} {v : Value} {ty : FieldType} (hC : g_C p s m args c D cl N A nL cc own Ts) (hin : ∀ x ∈ u_ws C T NF, x ∈ Ts) (ty0 : Nat → FieldType) (hty : ∀ k, k < NF → parseFieldDescriptor (T k).2.2.1 = some (ty0 k)) (hnm : ∀ a, a < NF → ∀ b, b < NF → a ≠ b → (T a).2.1 ≠ (T b).2.1) (q : Nat) (hq : ∀ ad w, V ad w → ad q = a ∧ w q = some (.inr (ci, fs))) (hc : cl[ci]? = some (C, T, NF)) (k : Nat) (hk : k < NF) (hlink : Cond.fieldLink own index ref (T k).2.1 (T k).2.2.1 ∈ Ts) (href : (T k).1 = ref) (hfin : (T k).2.2.2 = false) (hd0 : parseFieldDescriptor (T k).2.2.1 = some ty) (hn : narrow ty v = v) (hfit : fits ty v = true) (hl0 : k < fs.length) {V' : (Nat → Nat) → gW → Prop} (hV : ∀ ad w, V ad w → V' ad (va_up w q (some (.inr (ci, fs.set k v))))) (hd : decode cc pc = .ok (.putfield index, 3)) (kk : G p l e R s m args below meth c D cl A nL Q cells slots V' (pc + 3) lo (st)) : G p l e R s m args below meth c D cl A nL Q cells slots V (pc) lo (v :: .ref a :: st) := fun ad w H locs ls hx0 hw hS hl => by
  obtain ⟨ha, he⟩ := hq ad w hx0
  subst ha
  subst href
  have hts := hC.1.2.2.2.2
  have hap := va_apart (own := own) hts hin ty0 hty hnm hC.2.1 hc
  obtain ⟨r, h1, cell, q1, q2, q3, q4⟩ := (hw.1 q _ he).1
  have hr : r = (C, T, NF) := Option.some.inj (h1.symm.trans hc)
  subst hr
  obtain ⟨hSl, hfc, kC, hkC, hkind⟩ := hC.2.1.1 ci _ hc
  obtain ⟨cf, kf, fi, f, hi, hsl⟩ := hSl k hk
  have hlay := hts _ (hin _ (u_in_lay hk))
  unfold u_lay at hlay
  rw [if_neg (by rw [hfin]; decide)] at hlay
  have hst := (u_facts hfc hkC (u_lays hts hin hk) hi).1
  have h6 := u_store hfc hkC hkind hlay hi hd0 hn hfit
  refine W.putK hC.1.1 hC.1.2.1 (f := f) ⟨hC.1.2.2.2.1, hts _ hlink, ⟨_, _, _, hi⟩, hst⟩ (by rw [q2]; exact h6) q1 q3 (by rw [hsl]; exact k2_hasslot (q4 k hk)) rfl rfl hd fun H' e1 e2 e3 => ?_
  rw [hsl] at e1 ⊢
  exact kk ad _ H' _ ls (hV ad w hx0) (hw.put he ⟨_, hc, t_OB.to (V := updV (vp_V fs) k v) ⟨_, e1, q2, q3, t_set q4 hap hk v⟩ (fun j _ => vp_updV_set hl0 v j)⟩ e3) (hS.put e2 e3 (hw.1 q _ he).2) hl
theorem g_putF {a : Nat} {ref C : String} {T : u_T} {NF ci index : Nat} {fs : List Value} {v : Value} {ty : FieldType} (hC : g_C p s m args c D cl N A nL cc own Ts) (hin2 : meth.name = "<init>") (hin : ∀ x ∈ u_ws C T NF, x ∈ Ts) (ty0 : Nat → FieldType) (hty : ∀ k, k < NF → parseFieldDescriptor (T k).2.2.1 = some (ty0 k)) (hnm : ∀ a, a < NF → ∀ b, b < NF → a ≠ b → (T a).2.1 ≠ (T b).2.1) (q : Nat) (hq : ∀ ad w, V ad w → ad q = a ∧ w q = some (.inr (ci, fs))) (hc : cl[ci]? = some (C, T, NF)) (k : Nat) (hk : k < NF) (hlink : Cond.fieldLink own index ref (T k).2.1 (T k).2.2.1 ∈ Ts) (href : (T k).1 = ref) (hfin : (T k).2.2.2 = true) (hdecl : (T k).1 = own) (hd0 : parseFieldDescriptor (T k).2.2.1 = some ty) (hn : narrow ty v = v) (hfit : fits ty v = true) (hl0 : k < fs.length) {V' : (Nat → Nat) → gW → Prop} (hV : ∀ ad w, V ad w → V' ad (va_up w q (some (.inr (ci, fs.set k v))))) (hd : decode cc pc = .ok (.putfield index, 3)) (kk : G p l e R s m args below meth c D cl A nL Q cells slots V' (pc + 3) lo (st)) : G p l e R s m args below meth c D cl A nL Q cells slots V (pc) lo (v :: .ref a :: st) := fun ad w H locs ls hx0 hw hS hl => by
  obtain ⟨ha, he⟩ := hq ad w hx0
  subst ha
  subst href
  have hts := hC.1.2.2.2.2
  have hap := va_apart (own := own) hts hin ty0 hty hnm hC.2.1 hc
  obtain ⟨r, h1, cell, q1, q2, q3, q4⟩ := (hw.1 q _ he).1
  have hr : r = (C, T, NF) := Option.some.inj (h1.symm.trans hc)
  subst hr
  obtain ⟨hSl, hfc, kC, hkC, hkind⟩ := hC.2.1.1 ci _ hc
  obtain ⟨cf, kf, fi, f, hi, hsl⟩ := hSl k hk
  have hlay := hts _ (hin _ (u_in_lay hk))
  unfold u_lay at hlay
  rw [if_pos hfin] at hlay
  have hst := (u_facts hfc hkC (u_lays hts hin hk) hi).1
  have hcf : m.cls = cf := by
    obtain ⟨_, _, c', _, _, _, -, -, hf', -, -, -, hown2, -⟩ := Cond.laysFinal_spec hlay
    have e1 : c' = cf := by
      have := hi.symm.trans hf'
      simp at this
      exact this.1.symm
    rw [hdecl] at hown2
    rw [← e1]
    exact Option.some.inj (hC.1.2.2.2.1.symm.trans hown2)
  have h6 := u_fits hfc hkC hkind (Or.inr hlay) hi hd0 hn hfit
  refine W.putFinK hC.1.1 hC.1.2.1 hC.1.2.2.2.1 (hts _ hlink) hi hst hcf hin2 (by rw [q2]; exact h6) q1 q3 (by rw [hsl]; exact k2_hasslot (q4 k hk)) rfl rfl hd fun H' e1 e2 e3 => ?_
  rw [hsl] at e1 ⊢
  exact kk ad _ H' _ ls (hV ad w hx0) (hw.put he ⟨_, hc, t_OB.to (V := updV (vp_V fs) k v) ⟨_, e1, q2, q3, t_set q4 hap hk v⟩ (fun j _ => vp_updV_set hl0 v j)⟩ e3) (hS.put e2 e3 (hw.1 q _ he).2) hl
theorem g_ald {a n j : Nat} {f : Nat → Int32} (hC : g_C p s m args c D cl N A nL cc own Ts) (q : Nat) (hq : ∀ ad w, V ad w → ad q = a ∧ w q = some (.inl (.int, n, .inl f))) (hj : j < n) (hn : n < 2 ^ 31) (hd : decode cc pc = .ok (.iaload, 1)) (kk : G p l e R s m args below meth c D cl A nL Q cells slots V (pc + 1) lo (.int (f j) :: st)) : G p l e R s m args below meth c D cl A nL Q cells slots V (pc) lo (.int (nI j) :: .ref a :: st) := fun ad w H locs ls hx0 hw hS hl => by
  obtain ⟨ha, he⟩ := hq ad w hx0
  subst ha
  obtain ⟨cA, h1, h2, h3⟩ := (hw.1 q _ he).1
  have hin := vp_in_nI hj hn
  have hcl := nI_clamp (n := j) (by omega)
  refine W.iald (v := .int (f j)) hC.1.1 hC.1.2.1 h3 (h1 n (fun j => .int (f j))) (fun q => by cases q) (by show ¬ (nI j < 0 ∨ (arrV _ _ _).slots.size ≤ _); rw [arrV_size]; exact hin) (by show (arrV _ _ _).slots[_]? = _; rw [hcl, arrV_read _ _ hj]) rfl rfl hd (kk ad w H locs ls hx0 hw hS hl)
theorem g_zld {a n j : Nat} {f : Nat → Int32} (hC : g_C p s m args c D cl N A nL cc own Ts) (q : Nat) (hq : ∀ ad w, V ad w → ad q = a ∧ w q = some (.inl (.boolean, n, .inl f))) (hj : j < n) (hn : n < 2 ^ 31) (hd : decode cc pc = .ok (.baload, 1)) (kk : G p l e R s m args below meth c D cl A nL Q cells slots V (pc + 1) lo (.int (f j) :: st)) : G p l e R s m args below meth c D cl A nL Q cells slots V (pc) lo (.int (nI j) :: .ref a :: st) := fun ad w H locs ls hx0 hw hS hl => by
  obtain ⟨ha, he⟩ := hq ad w hx0
  subst ha
  obtain ⟨cA, h1, h2, h3⟩ := (hw.1 q _ he).1
  have hin := vp_in_nI hj hn
  have hcl := nI_clamp (n := j) (by omega)
  refine W.zald (v := .int (f j)) hC.1.1 hC.1.2.1 h3 (h1 n (fun j => .int (f j))) (fun q => by cases q) (by show ¬ (nI j < 0 ∨ (arrV _ _ _).slots.size ≤ _); rw [arrV_size]; exact hin) (by show (arrV _ _ _).slots[_]? = _; rw [hcl, arrV_read _ _ hj]) rfl rfl hd (kk ad w H locs ls hx0 hw hS hl)
theorem g_qld {a n j : Nat} {C : String} {f : Nat → Option Nat} (hC : g_C p s m args c D cl N A nL cc own Ts) (q : Nat) (hq : ∀ ad w, V ad w → ad q = a ∧ w q = some (.inl (.object C, n, .inr (.inr (.inr (.inr f)))))) (hj : j < n) (hn : n < 2 ^ 31) (hd : decode cc pc = .ok (.aaload, 1)) (kk : G p l e R s m args below meth c D cl A nL Q cells slots V (pc + 1) lo (va_rf (f j) :: st)) : G p l e R s m args below meth c D cl A nL Q cells slots V (pc) lo (.int (nI j) :: .ref a :: st) := fun ad w H locs ls hx0 hw hS hl => by
  obtain ⟨ha, he⟩ := hq ad w hx0
  subst ha
  obtain ⟨cA, h1, h2, h3⟩ := (hw.1 q _ he).1
  have hin := vp_in_nI hj hn
  have hcl := nI_clamp (n := j) (by omega)
  refine W.aald (v := va_rf (f j)) (ty := .object C) hC.1.1 hC.1.2.1 h3 (h1 n (fun j => va_rf (f j))) rfl (fun q => by cases q) (by show ¬ (nI j < 0 ∨ (arrV _ _ _).slots.size ≤ _); rw [arrV_size]; exact hin) (by show (arrV _ _ _).slots[_]? = _; rw [hcl, arrV_read _ _ hj]) rfl rfl hd (kk ad w H locs ls hx0 hw hS hl)
theorem g_len {a n : Nat} {f : Nat → Int32} (hC : g_C p s m args c D cl N A nL cc own Ts) (q : Nat) (hq : ∀ ad w, V ad w → ad q = a ∧ w q = some (.inl (.int, n, .inl f))) (hd : decode cc pc = .ok (.arraylength, 1)) (kk : G p l e R s m args below meth c D cl A nL Q cells slots V (pc + 1) lo (.int (nI n) :: st)) : G p l e R s m args below meth c D cl A nL Q cells slots V (pc) lo (.ref a :: st) := fun ad w H locs ls hx0 hw hS hl => by
  obtain ⟨ha, he⟩ := hq ad w hx0
  subst ha
  obtain ⟨cA, h1, h2, h3⟩ := (hw.1 q _ he).1
  exact W.alen (n := nI n) hC.1.1 hC.1.2.1 h3 (h1 n (fun j => .int (f j))) (by rw [vp_cell_i, arrV_size] <;> rfl) rfl rfl hd (kk ad w H locs ls hx0 hw hS hl)
theorem g_ast {a n j : Nat} {f : Nat → Int32} {x : Int32} (hC : g_C p s m args c D cl N A nL cc own Ts) (q : Nat) (hq : ∀ ad w, V ad w → ad q = a ∧ w q = some (.inl (.int, n, .inl f))) (hj : j < n) (hn : n < 2 ^ 31) {V' : (Nat → Nat) → gW → Prop} (hV : ∀ ad w, V ad w → V' ad (va_up w q (some (.inl (.int, n, .inl (va_up f j x)))))) (hd : decode cc pc = .ok (.iastore, 1)) (kk : G p l e R s m args below meth c D cl A nL Q cells slots V' (pc + 1) lo (st)) : G p l e R s m args below meth c D cl A nL Q cells slots V (pc) lo (.int x :: .int (nI j) :: .ref a :: st) := fun ad w H locs ls hx0 hw hS hl => by
  obtain ⟨ha, he⟩ := hq ad w hx0
  subst ha
  obtain ⟨cA, h1, h2, h3⟩ := (hw.1 q _ he).1
  have hin := vp_in_nI hj hn
  have hcl := nI_clamp (n := j) (by omega)
  refine W.iast hC.1.1 hC.1.2.1 h3 (h1 n (fun j => .int (f j))) (fun q => by cases q) (by show ¬ (nI j < 0 ∨ (arrV _ _ _).slots.size ≤ _); rw [arrV_size]; exact hin) rfl rfl hd fun H1 e1 z oq => ?_
  refine kk ad _ H1 _ ls (hV ad w hx0) (hw.put he ⟨cA, h1, h2, ?_⟩ oq) (hS.put z oq (hw.1 q _ he).2) hl
  rw [e1, vp_cell_i, vp_cell_i, arrV_store, hcl]
  congr 2
  funext i
  by_cases hi : i = j
  · subst hi
    simp [updV, va_up]
  · simp [updV, va_up, hi]
theorem g_zst {a n j : Nat} {f : Nat → Int32} {x : Int32} (hC : g_C p s m args c D cl N A nL cc own Ts) (q : Nat) (hq : ∀ ad w, V ad w → ad q = a ∧ w q = some (.inl (.boolean, n, .inl f))) (hj : j < n) (hn : n < 2 ^ 31) (hx : vp_nar .boolean x = x) {V' : (Nat → Nat) → gW → Prop} (hV : ∀ ad w, V ad w → V' ad (va_up w q (some (.inl (.boolean, n, .inl (va_up f j x)))))) (hd : decode cc pc = .ok (.bastore, 1)) (kk : G p l e R s m args below meth c D cl A nL Q cells slots V' (pc + 1) lo (st)) : G p l e R s m args below meth c D cl A nL Q cells slots V (pc) lo (.int x :: .int (nI j) :: .ref a :: st) := fun ad w H locs ls hx0 hw hS hl => by
  obtain ⟨ha, he⟩ := hq ad w hx0
  subst ha
  obtain ⟨cA, h1, h2, h3⟩ := (hw.1 q _ he).1
  have hin := vp_in_nI hj hn
  have hcl := nI_clamp (n := j) (by omega)
  refine W.zast hC.1.1 hC.1.2.1 h3 (h1 n (fun j => .int (f j))) (fun q => by cases q) (by show ¬ (nI j < 0 ∨ (arrV _ _ _).slots.size ≤ _); rw [arrV_size]; exact hin) rfl rfl hd fun H1 e1 z oq => ?_
  refine kk ad _ H1 _ ls (hV ad w hx0) (hw.put he ⟨cA, h1, h2, ?_⟩ oq) (hS.put z oq (hw.1 q _ he).2) hl
  rw [e1, vp_cell_i, vp_cell_i, arrV_store, hcl]
  congr 2
  funext i
  by_cases hi : i = j
  · subst hi
    have : narrow .boolean (.int x) = .int x := by
      unfold vp_nar at hx
      cases hb : narrow .boolean (.int x) <;> rw [hb] at hx <;> simp_all [narrow]
    simp [updV, va_up, this]
  · simp [updV, va_up, hi]
theorem g_qst {a n j v ci qk : Nat} {r : vw_C} {vs : List Value} {f : Nat → Option Nat} (hC : g_C p s m args c D cl N A nL cc own Ts) (q : Nat) (hq : ∀ ad w, V ad w → ad q = a ∧ w q = some (.inl (.object r.1, n, .inr (.inr (.inr (.inr f)))))) (hqk : ∀ ad w, V ad w → ad qk = v ∧ w qk = some (.inr (ci, vs))) (hc : cl[ci]? = some r) (hj : j < n) (hn : n < 2 ^ 31) {V' : (Nat → Nat) → gW → Prop} (hV : ∀ ad w, V ad w → V' ad (va_up w q (some (.inl (.object r.1, n, .inr (.inr (.inr (.inr (va_up f j (some v)))))))))) (hd : decode cc pc = .ok (.aastore, 1)) (kk : G p l e R s m args below meth c D cl A nL Q cells slots V' (pc + 1) lo (st)) : G p l e R s m args below meth c D cl A nL Q cells slots V (pc) lo (.ref v :: .int (nI j) :: .ref a :: st) := fun ad w H locs ls hx0 hw hS hl => by
  obtain ⟨ha, he⟩ := hq ad w hx0
  obtain ⟨ha2, hek⟩ := hqk ad w hx0
  subst ha
  subst ha2
  obtain ⟨cA, h1, ⟨kA, comp, k1, k2, k3, k4⟩, h3⟩ := (hw.1 q _ he).1
  obtain ⟨r', hr', cellV, g1, g2, g3, -⟩ := (hw.1 qk _ hek).1
  have hcls := (hC.2.1.1 ci r hc).2
  have hcomp : comp = D.1 ci := Option.some.inj (k3.symm.trans hcls.1)
  subst hcomp
  obtain ⟨kC, hkC, -⟩ := hcls.2
  have hin := vp_in_nI hj hn
  have hcl := nI_clamp (n := j) (by omega)
  refine W.aast hC.1.1 hC.1.2.1 h3 (fun q h => by cases h) (fun h => by cases h) k1 k2 rfl hkC ⟨nI_pos (by omega), by show _ < (arrV _ _ _).slots.size; rw [arrV_size, hcl]; exact hj⟩ g1 (fun q h => by rw [g3] at h; cases h) (by rw [g2]; exact hkC) (by rw [g2]; exact va_assign hcls) rfl rfl hd fun H1 e1 z oq => ?_
  refine kk ad _ H1 _ ls (hV ad w hx0) (hw.put he ⟨cA, h1, ⟨kA, D.1 ci, k1, k2, k3, k4⟩, ?_⟩ oq) (hS.put z oq (hw.1 q _ he).2) hl
  rw [e1, vp_cell_q, vp_cell_q, arrV_store, hcl]
  congr 2
  funext i
  by_cases hi : i = j
  · subst hi
    simp [updV, va_up, va_rf]
  · simp [updV, va_up, hi]
theorem g_new {C : String} {T : u_T} {NF ci index k : Nat} {fs : List Value} (hC : g_C p s m args c D cl N A nL cc own Ts) (hin : ∀ x ∈ u_ws C T NF, x ∈ Ts) (ty : Nat → FieldType) (hty : ∀ k, k < NF → parseFieldDescriptor (T k).2.2.1 = some (ty k)) (hcl : Cond.classLink own index C ∈ Ts) (hinst : Cond.instantiable C NF ∈ Ts) (hini : Cond.initialized C ∈ Ts) (hc : cl[ci]? = some (C, T, NF)) (hk : ∀ ad w, V ad w → w k = none) (hfs : ∀ j, j < NF → defaultValue (ty j) = vp_V fs j) (hcells : cells + 1 ≤ R.cells) (hslots : slots + NF ≤ R.slots) {V' : Nat → (Nat → Nat) → gW → Prop} (hV : ∀ z ad w, V ad w → V' z (va_up ad k z) (va_up w k (some (.inr (ci, fs))))) (hd : decode cc pc = .ok (.new index, 3)) (kk : ∀ z : Nat, G p l e R s m args below meth c D cl A nL Q (cells + 1) (slots + NF) (V' z) (pc + 3) lo (.ref z :: st)) : G p l e R s m args below meth c D cl A nL Q cells slots V (pc) lo (st) := fun ad w H locs ls hx0 hw hS hl => by
  have hts := hC.1.2.2.2.2
  have hKn := hC.2.1.1 ci _ hc
  refine W.newcK hC.1.1 hC.1.2.1 hC.1.2.2.2.1 (hts _ hcl) (hts _ hinst) (hts _ hini) rfl hd hcells hslots hKn.2.1 rfl fun H1 kC hkC e1 z1 o1 => ?_
  refine kk H.size _ _ H1 locs ls (hV H.size ad w hx0) (hw.new (hk ad w hx0) ⟨_, hc, (u_born ty hts hin hKn hkC e1 hty).to hfs⟩ o1 (hC.2.2.2 _ hS.1)) ⟨Nat.le_trans hS.1 (by omega), fun x h1 h2 => (o1 x (Nat.lt_of_lt_of_le h1 hS.1)).trans (hS.2.1 x h1 h2), hS.2.2⟩ hl
theorem g_newa {atype : ArrayType} {ty : FieldType} {n k : Nat} {a0 : vp_A} (hC : g_C p s m args c D cl N A nL cc own Ts) (harr : Cond.arrayClass (newarray.typeOf atype) ∈ Ts) (hty : newarray.typeOf atype = ty) (ha : ∀ cA : ClassId, vp_cell cA a0 = arrV cA n (fun _ => defaultValue ty)) (hk : ∀ ad w, V ad w → w k = none) (hn : n < 2 ^ 31) (hbytes : n * componentBytes ty ≤ 536870912) (hcells : cells + 1 ≤ R.cells) (hslots : slots + n ≤ R.slots) {V' : Nat → (Nat → Nat) → gW → Prop} (hV : ∀ z ad w, V ad w → V' z (va_up ad k z) (va_up w k (some (.inl (ty, a0))))) (hd : decode cc pc = .ok (.newarray atype, 2)) (kk : ∀ z : Nat, G p l e R s m args below meth c D cl A nL Q (cells + 1) (slots + n) (V' z) (pc + 2) lo (.ref z :: st)) : G p l e R s m args below meth c D cl A nL Q cells slots V (pc) lo (.int (nI n) :: st) := fun ad w H locs ls hx0 hw hS hl => by
  subst hty
  refine va_newaK hC.1.1 hC.1.2.1 (hC.1.2.2.2.2 _ harr) rfl hd rfl (nI_pos hn) (nI_clamp hn) hbytes hcells hslots rfl fun H1 cA e1 z1 o1 hAr hNm => ?_
  refine kk H.size _ _ H1 locs ls (hV H.size ad w hx0) (hw.new (hk ad w hx0) ⟨cA, hAr, by cases atype <;> exact hNm, by rw [ha]; exact e1⟩ o1 (hC.2.2.2 _ hS.1)) ⟨Nat.le_trans hS.1 (by omega), fun x h1 h2 => (o1 x (Nat.lt_of_lt_of_le h1 hS.1)).trans (hS.2.1 x h1 h2), hS.2.2⟩ hl
theorem g_newq {C : String} {index n k : Nat} (hC : g_C p s m args c D cl N A nL cc own Ts) (hclink : Cond.classLink own index C ∈ Ts) (hover : va_AO C s) (hk : ∀ ad w, V ad w → w k = none) (hn : n < 2 ^ 31) (hbytes : n * 4 ≤ 536870912) (hcells : cells + 1 ≤ R.cells) (hslots : slots + n ≤ R.slots) {V' : Nat → (Nat → Nat) → gW → Prop} (hV : ∀ z ad w, V ad w → V' z (va_up ad k z) (va_up w k (some (.inl (.object C, n, .inr (.inr (.inr (.inr (fun _ => none))))))))) (hd : decode cc pc = .ok (.anewarray index, 3)) (kk : ∀ z : Nat, G p l e R s m args below meth c D cl A nL Q (cells + 1) (slots + n) (V' z) (pc + 3) lo (.ref z :: st)) : G p l e R s m args below meth c D cl A nL Q cells slots V (pc) lo (.int (nI n) :: st) := fun ad w H locs ls hx0 hw hS hl => by
  have hcl := nI_clamp (n := n) hn
  refine W.anew hC.1.1 hC.1.2.1 hC.1.2.2.2.1 (hC.1.2.2.2.2 _ hclink) (va_AO.use hover) rfl hd rfl (nI_pos hn) (by rw [hcl]; exact hbytes) hcells (by rw [hcl]; exact hslots) fun cA kA comp f1 f2 f3 f4 => ?_
  generalize hH1 : H.push ({ cls := cA, slots := Array.replicate (nI n).toNatClampNeg .null, vm := .none } : Cell) = H1
  have z1 : H1.size = H.size + 1 := by rw [← hH1, Array.size_push]
  have e1 : H1[H.size]? = some (arrV cA n (fun _ => .null)) := by rw [← hH1, Array.getElem?_push_size, hcl, ← arrV_new]
  have o1 : ∀ q : Nat, q < H.size → H1[q]? = H[q]? := fun q hq => by rw [← hH1, Array.getElem?_push, if_neg (Nat.ne_of_lt hq)]
  have hAr : ArrOfT s cA (.object C) := fun N z => ⟨(fun k h => by cases h), kA, f2, comp, f3⟩
  rw [hcl]
  refine kk H.size _ _ H1 locs ls (hV H.size ad w hx0) (hw.new (hk ad w hx0) ⟨cA, hAr, ⟨kA, comp, f2, f3, f4, f1⟩, by rw [vp_cell_q]; exact e1⟩ o1 (hC.2.2.2 _ hS.1)) ⟨Nat.le_trans hS.1 (by omega), fun x h1 h2 => (o1 x (Nat.lt_of_lt_of_le h1 hS.1)).trans (hS.2.1 x h1 h2), hS.2.2⟩ hl
theorem g_mmax {index : Nat} {x y : Int32} (hC : g_C p s m args c D cl N A nL cc own Ts) (hlink : Cond.methodLink own index Lib.Math.max.name ∈ Ts) (hstat : Cond.static Lib.Math.max.name ∈ Ts) (hini : Cond.initialized "java/lang/Math" ∈ Ts) (hcode : Cond.code Lib.Math.max.name Lib.Math.max.code 2 (some .int) ∈ Ts) (hframes : 1 ≤ R.frames) (hlocals : (st.map fun v => v.category).sum + 13 ≤ R.locals) (hcc : cells ≤ R.cells) (hss : slots ≤ R.slots) (hd : decode cc pc = .ok (.invokestatic index, 3)) (kk : G p l e R s m args below meth c D cl A nL Q cells slots V (pc + 3) lo (.int (if x < y then y else x) :: st)) : G p l e R s m args below meth c D cl A nL Q cells slots V (pc) lo (.int y :: .int x :: st) := fun ad w H locs ls hx0 hw hS hl =>
  va_mmax hC.1.1 hC.1.2.1 (hC.1.2.2.1.trans hl.1.symm) hC.1.2.2.2.1 (hC.1.2.2.2.2 _ hlink) (hC.1.2.2.2.2 _ hstat) (hC.1.2.2.2.2 _ hini) (hC.1.2.2.2.2 _ hcode) hframes hlocals hcc hss hd (kk ad w H locs ls hx0 hw hS hl)
theorem g_mmin {index : Nat} {x y : Int32} (hC : g_C p s m args c D cl N A nL cc own Ts) (hlink : Cond.methodLink own index Lib.Math.min.name ∈ Ts) (hstat : Cond.static Lib.Math.min.name ∈ Ts) (hini : Cond.initialized "java/lang/Math" ∈ Ts) (hcode : Cond.code Lib.Math.min.name Lib.Math.min.code 2 (some .int) ∈ Ts) (hframes : 1 ≤ R.frames) (hlocals : (st.map fun v => v.category).sum + 13 ≤ R.locals) (hcc : cells ≤ R.cells) (hss : slots ≤ R.slots) (hd : decode cc pc = .ok (.invokestatic index, 3)) (kk : G p l e R s m args below meth c D cl A nL Q cells slots V (pc + 3) lo (.int (if y < x then y else x) :: st)) : G p l e R s m args below meth c D cl A nL Q cells slots V (pc) lo (.int y :: .int x :: st) := fun ad w H locs ls hx0 hw hS hl =>
  va_mmin hC.1.1 hC.1.2.1 (hC.1.2.2.1.trans hl.1.symm) hC.1.2.2.2.1 (hC.1.2.2.2.2 _ hlink) (hC.1.2.2.2.2 _ hstat) (hC.1.2.2.2.2 _ hini) (hC.1.2.2.2.2 _ hcode) hframes hlocals hcc hss hd (kk ad w H locs ls hx0 hw hS hl)
theorem g_objInit {idx a : Nat} (hC : g_C p s m args c D cl N A nL cc own Ts) (hlink : Cond.methodLink own idx objectInit ∈ Ts) (hin : Cond.instanceMethod objectInit ∈ Ts) (hcode : Cond.code objectInit ⟨#[0xb1]⟩ 1 none ∈ Ts) (hf : 1 ≤ R.frames) (hlo : (st.map fun v => v.category).sum + 12 ≤ R.locals) (hd : decode cc pc = .ok (.invokespecial idx, 3)) (kk : G p l e R s m args below meth c D cl A nL Q cells slots V (pc + 3) lo (st)) : G p l e R s m args below meth c D cl A nL Q cells slots V (pc) lo (.ref a :: st) := fun ad w H locs ls hx0 hw hS hl =>
  W.objInit hC.1.1 hC.1.2.1 hC.1.2.2.2.1 (hC.1.2.2.2.2 _ hlink) (hC.1.2.2.2.2 _ hin) (hC.1.2.2.2.2 _ hcode) rfl (hl.1.trans hC.1.2.2.1.symm) rfl hd hf (by show 2 * 0 + _ + 12 ≤ _; omega) (kk ad w H locs ls hx0 hw hS hl)
/-! contracts over worlds by number -/
def g_Pre (D : va_G) (cl : List vw_C) (N : State → Prop) (ad : Nat → Nat) (w : gW) (sz : Nat) : State → Prop := fun U => U.heap.size = sz ∧ va_K D cl [] U ∧ N U ∧ g_w D cl U (fun _ => True) ad w U.heap
def g_B (D : va_G) (cl : List vw_C) (A : Nat → Prop) (u : (Nat → Nat) × gW) (t : State) : Prop := g_w D cl t A u.1 u.2 t.heap
abbrev g_Qi (D : va_G) (cl : List vw_C) (A : Nat → Prop) (Post : Int32 → (Nat → Nat) → gW → Prop) : Array Value → State → Outcome → State → Prop := va_Qi (fun r (u : (Nat → Nat) × gW) => Post r u.1 u.2) (g_B D cl A) A
abbrev g_Ql (D : va_G) (cl : List vw_C) (A : Nat → Prop) (Post : Int64 → (Nat → Nat) → gW → Prop) : Array Value → State → Outcome → State → Prop := va_Ql (fun r (u : (Nat → Nat) × gW) => Post r u.1 u.2) (g_B D cl A) A
abbrev g_Qv (D : va_G) (cl : List vw_C) (A : Nat → Prop) (Post : (Nat → Nat) → gW → Prop) : Array Value → State → Outcome → State → Prop := va_Qv (fun (u : (Nat → Nat) × gW) => Post u.1 u.2) (g_B D cl A) A
abbrev g_Qq (D : va_G) (cl : List vw_C) (A : Nat → Prop) (Post : Option Nat → (Nat → Nat) → gW → Prop) : Array Value → State → Outcome → State → Prop := va_Qq (fun r (u : (Nat → Nat) × gW) => Post r u.1 u.2) (g_B D cl A) A
/-- a contract: Qc says what comes back, by the cells that may be written -/
def g_M (l : Launch) (y : MethodName) (ws : List Cond) (rm : Room) (D : va_G) (cl : List vw_C) (N : State → Prop) (av : List Value) (V : (Nat → Nat) → gW → Prop) (mc ms : Nat) (Qc : (Nat → Prop) → Array Value → State → Outcome → State → Prop) : Prop :=
  ∀ (ad : Nat → Nat) (w : gW) (sz : Nat), V ad w → Met l y ws rm (va_Pc av (g_Pre D cl N ad w sz)) (Qc (g_A ad w sz)) mc ms (g_A ad w sz)
def g_NOK (N : State → Prop) : Prop := (∀ u U : State, u.WarmedH U.vm → N u → N U) ∧ ∀ u U : State, u.vm = U.vm → N u → N U
theorem g_of {y : MethodName} {ws ws' : List Cond} {rm : Room} {av : List Value} {mc ms : Nat} {Qc : (Nat → Prop) → Array Value → State → Outcome → State → Prop} {ret : Option FieldType} (hy : plainName y.cls = true) (hw : ws = Cond.code y cc nL ret :: ws') (hlen : (lg_sl av).length ≤ nL)
    (body : ∀ (p : Program) (e : Env) (s : State) (m : MethodId) (below : List Frame) (meth : Method) (c : Code) (A : Nat → Prop), g_C p s m av.toArray c D cl N A nL cc y.cls ws → meth.sig.returnType = ret → meth.locks = false → meth.name = y.name → G p l e rm s m av.toArray below meth c D cl A nL (MQ below (Qc A) av.toArray s mc ms A) 0 0 V 0 (lv_args 0 av) []) : g_M l y ws rm D cl N av V mc ms Qc := by
  intro ad w sz hV
  refine Met.ofW (cc := cc) (maxL := nL) (ret := ret) hy hw ?_
  intro p e s m args below meth c s₁ B hml hv
  obtain ⟨rfl, hsz, hK, hN, hW⟩ := hv
  subst hsz
  have h := body p e s m below meth c (g_A ad w s.heap.size) ⟨⟨B.exec, B.bytes, hml, findClass_of_methodNamed B.named, atoms_spec (ws := ws) B.pre⟩, hK, hN, fun q h => Or.inr h⟩ B.returns B.notSynchronized (name_of_methodNamed B.named B.method).1
  rw [lg_entry_eq]
  exact h ad w s.heap [] _ hV hW.self va_S.rf (lv_entry av hlen)
theorem g_iret {mc ms : Nat} {v : Int32} {Post : Int32 → (Nat → Nat) → gW → Prop} (hC : g_C p s m args c D cl N A nL cc own Ts) (hr : meth.sig.returnType = some .int) (hlk : meth.locks = false) (hd : decode cc pc = .ok (.ireturn, 1)) (hmc : cells ≤ mc) (hms : slots ≤ ms) (hp : ∀ ad w, V ad w → Post v ad w) : G p l e R s m args below meth c D cl A nL (MQ below (g_Qi D cl A Post) args s mc ms A) cells slots V pc lo [.int v] := fun ad w H locs ls hx0 hw hS hl =>
  W.widen hmc hms (W.iret (v := v) hC.1.1 hC.1.2.1 hr (fun t ht hW => ⟨⟨v, (ad, w), rfl, hp ad w hx0, by show g_w D cl t A ad w t.heap; rw [ht]; exact hw.moved hW.alike (fun _ h => h)⟩, hS.F ht⟩) hS.2.2 hd hlk)
theorem g_zret {mc ms : Nat} {v : Int32} {Post : Int32 → (Nat → Nat) → gW → Prop} (hC : g_C p s m args c D cl N A nL cc own Ts) (hr : meth.sig.returnType = some .boolean) (hlk : meth.locks = false) (hn : narrow .boolean (.int v) = .int v) (hd : decode cc pc = .ok (.ireturn, 1)) (hmc : cells ≤ mc) (hms : slots ≤ ms) (hp : ∀ ad w, V ad w → Post v ad w) : G p l e R s m args below meth c D cl A nL (MQ below (g_Qi D cl A Post) args s mc ms A) cells slots V pc lo [.int v] := fun ad w H locs ls hx0 hw hS hl =>
  W.widen hmc hms (W.zret (v := v) hC.1.1 hC.1.2.1 hr hn (fun t ht hW => ⟨⟨v, (ad, w), rfl, hp ad w hx0, by show g_w D cl t A ad w t.heap; rw [ht]; exact hw.moved hW.alike (fun _ h => h)⟩, hS.F ht⟩) hS.2.2 hd hlk)
theorem g_lret {mc ms : Nat} {v : Int64} {Post : Int64 → (Nat → Nat) → gW → Prop} (hC : g_C p s m args c D cl N A nL cc own Ts) (hr : meth.sig.returnType = some .long) (hlk : meth.locks = false) (hd : decode cc pc = .ok (.lreturn, 1)) (hmc : cells ≤ mc) (hms : slots ≤ ms) (hp : ∀ ad w, V ad w → Post v ad w) : G p l e R s m args below meth c D cl A nL (MQ below (g_Ql D cl A Post) args s mc ms A) cells slots V pc lo [.long v] := fun ad w H locs ls hx0 hw hS hl =>
  W.widen hmc hms (W.lret (v := v) hC.1.1 hC.1.2.1 hr (fun t ht hW => ⟨⟨v, (ad, w), rfl, hp ad w hx0, by show g_w D cl t A ad w t.heap; rw [ht]; exact hw.moved hW.alike (fun _ h => h)⟩, hS.F ht⟩) hS.2.2 hd hlk)
theorem g_vret {mc ms : Nat} {Post : (Nat → Nat) → gW → Prop} (hC : g_C p s m args c D cl N A nL cc own Ts) (hr : meth.sig.returnType = none) (hlk : meth.locks = false) (hd : decode cc pc = .ok (.return_, 1)) (hmc : cells ≤ mc) (hms : slots ≤ ms) (hp : ∀ ad w, V ad w → Post ad w) : G p l e R s m args below meth c D cl A nL (MQ below (g_Qv D cl A Post) args s mc ms A) cells slots V pc lo [] := fun ad w H locs ls hx0 hw hS hl =>
  W.widen hmc hms (W.vret hC.1.1 hC.1.2.1 hr (fun t ht hW => ⟨⟨(ad, w), rfl, hp ad w hx0, by show g_w D cl t A ad w t.heap; rw [ht]; exact hw.moved hW.alike (fun _ h => h)⟩, hS.F ht⟩) hS.2.2 hd hlk)
theorem g_aret {mc ms : Nat} {r : Option Nat} {Cn : String} {Post : Option Nat → (Nat → Nat) → gW → Prop} (hC : g_C p s m args c D cl N A nL cc own Ts) (hr : meth.sig.returnType = some (.object Cn)) (hlk : meth.locks = false) (hd : decode cc pc = .ok (.areturn, 1)) (hmc : cells ≤ mc) (hms : slots ≤ ms) (hp : ∀ ad w, V ad w → Post r ad w) : G p l e R s m args below meth c D cl A nL (MQ below (g_Qq D cl A Post) args s mc ms A) cells slots V pc lo [va_rf r] := fun ad w H locs ls hx0 hw hS hl =>
  W.widen hmc hms (W.aret (v := va_rf r) hC.1.1 hC.1.2.1 hr (Or.inl ⟨_, rfl⟩) (va_rf_or r) (fun t ht hW => ⟨⟨r, (ad, w), rfl, hp ad w hx0, by show g_w D cl t A ad w t.heap; rw [ht]; exact hw.moved hW.alike (fun _ h => h)⟩, hS.F ht⟩) hS.2.2 hd hlk)
/-- a call's run, for whatever heap holds the world -/
def g_Run (p : Program) (l : Launch) (e : Env) (R : Room) (s : State) (m : MethodId) (args : Array Value) (below : List Frame) (meth : Method) (c : Code) (D : va_G) (cl : List vw_C) (A : Nat → Prop) (nL : Nat) (cells slots : Nat) (V : (Nat → Nat) → gW → Prop) (pc : Nat) (lo : List (Nat × Value)) (st0 st : List Value) (mc ms : Nat) (Qa : (Nat → Prop) → State → Outcome → State → Prop) : Prop :=
  ∀ (ad : Nat → Nat) (w : gW) (H : Heap) (locs : List Loc) (ls : Array Slot), V ad w → g_w D cl s A ad w H → va_S A s.heap H locs → lv_has ls nL lo → va_Run p l e R s m args below meth c H locs cells slots mc ms (F0 m pc ls st0) st (Qa (g_A ad w H.size)) (g_A ad w H.size)
theorem g_blind {av : List Value} (hNM : g_NOK N) {sz : Nat} : FrameBlind (va_Pc av (g_Pre D cl N ad w sz)) := fun a U g mk q => by
  obtain ⟨q0, q1, q2, q3, q4⟩ := q
  exact ⟨q0, q1, va_K.moved (u := U) (U := U.calling g mk a) (Vm.Alike.refl U.vm) q2, hNM.2 U _ rfl q3, g_w.moved (u := U) (U := U.calling g mk a) (Vm.Alike.refl U.vm) q4 (fun _ h => h)⟩
theorem g_pre (hC : g_C p s m args c D cl N A nL cc own Ts) (hNM : g_NOK N) {av : List Value} {H : Heap} (hw : g_w D cl s A ad w H) : ∀ U : State, U.heap = H → s.WarmedH U.vm → va_Pc av (g_Pre D cl N ad w H.size) av.toArray U := fun U hU hW =>
  ⟨rfl, by rw [hU], va_K.moved hW.alike hC.2.1, hNM.1 s U hW hC.2.2.1, by rw [hU]; exact hw.moved hW.alike (fun _ _ => trivial)⟩
theorem g_recv (hC : g_C p s m args c D cl N A nL cc own Ts) {H : Heap} (hw : g_w D cl s A ad w H) {q ci : Nat} {r : vw_C} {fs : List Value} (he : w q = some (.inr (ci, fs))) (hc : cl[ci]? = some r) : ∃ cell : Cell, H[ad q]? = some cell ∧ cell.vm.isStatics = false ∧ s.vm.findClass r.1 = some cell.cls := by
  obtain ⟨q', h1, cell, g1, g2, g3, -⟩ := (hw.1 q _ he).1
  exact ⟨cell, g1, by rw [g3]; rfl, by rw [g2]; exact (hC.2.1.1 ci r hc).2.1⟩
variable {y : MethodName} {bytes : ByteArray} {maxL mc ms n index : Nat} {ret : Option FieldType} {ws : List Cond} {rm : Room} {As st0 : List Value} {Qc : (Nat → Prop) → Array Value → State → Outcome → State → Prop}
theorem g_runV {b ci q : Nat} {r : vw_C} {fs : List Value} (hC : g_C p s m args c D cl N A nL cc own Ts) (hNM : g_NOK N) (hM : g_M l y ws rm D cl N (.ref b :: As) V mc ms Qc) (cw : CallW R s args own r.1 index y bytes maxL ret ws rm mc ms n) (hq : ∀ ad w, V ad w → ad q = b ∧ w q = some (.inr (ci, fs))) (hc : cl[ci]? = some r) (hn : As.length = n) (hst : st0 = As.reverse ++ .ref b :: st) (hcat : (st.map fun v => v.category).sum ≤ 8) (hd : decode cc pc = .ok (.invokevirtual index, 3)) (hf : cells + mc ≤ R.cells ∧ slots + ms ≤ R.slots) : g_Run p l e R s m args below meth c D cl A nL cells slots V pc lo st0 st mc ms (fun A1 => Qc A1 (Value.ref b :: As).toArray) := fun ad w H locs ls hx0 hw hS hl => by
  obtain ⟨hb, he⟩ := hq ad w hx0
  subst hb
  exact va_runV hC.1 (hM ad w H.size hx0) cw ⟨g_blind hNM, g_recv hC hw he hc, g_pre hC hNM hw⟩ rfl hn hl.1 hst (lv_room hcat) hd hf
theorem g_runS (hC : g_C p s m args c D cl N A nL cc own Ts) (hNM : g_NOK N) (hM : g_M l y ws rm D cl N As V mc ms Qc) (cw : CallB R s args own index y bytes maxL ret ws rm mc ms n ∧ (Cond.static y).before args s = true) (hn : As.length = n) (hst : st0 = As.reverse ++ st) (hcat : (st.map fun v => v.category).sum ≤ 8) (hd : decode cc pc = .ok (.invokestatic index, 3)) (hf : cells + mc ≤ R.cells ∧ slots + ms ≤ R.slots) : g_Run p l e R s m args below meth c D cl A nL cells slots V pc lo st0 st mc ms (fun A1 => Qc A1 As.toArray) := fun ad w H locs ls hx0 hw hS hl =>
  va_runS hC.1 (hM ad w H.size hx0) cw ⟨g_blind hNM, g_pre hC hNM hw⟩ rfl hn hl.1 hst (lv_room hcat) hd hf
theorem g_runI {b : Nat} (hC : g_C p s m args c D cl N A nL cc own Ts) (hNM : g_NOK N) (hM : g_M l y ws rm D cl N (.ref b :: As) V mc ms Qc) (cw : CallB R s args own index y bytes maxL none ws rm mc ms n ∧ y.name = "<init>" ∧ (Cond.instanceMethod y).before args s = true) (hn : As.length = n) (hst : st0 = As.reverse ++ .ref b :: st) (hcat : (st.map fun v => v.category).sum ≤ 8) (hd : decode cc pc = .ok (.invokespecial index, 3)) (hf : cells + mc ≤ R.cells ∧ slots + ms ≤ R.slots) : g_Run p l e R s m args below meth c D cl A nL cells slots V pc lo st0 st mc ms (fun A1 => Qc A1 (Value.ref b :: As).toArray) := fun ad w H locs ls hx0 hw hS hl =>
  va_runI hC.1 (hM ad w H.size hx0) cw ⟨g_blind hNM, g_pre hC hNM hw⟩ rfl hn hl.1 hst (lv_room hcat) hd hf
theorem g_runVN {host : String} {b ci q : Nat} {r : vw_C} {fs : List Value} (hC : g_C p s m args c D cl N A nL cc own Ts) (hNM : g_NOK N) (hM : g_M l y ws rm D cl N (.ref b :: As) V mc ms Qc) (cw : va_CN R s args own index y host bytes maxL ret ws rm mc ms n ∧ (Cond.instanceMethod y).before args s = true ∧ (Cond.selects r.1 y y).before args s = true) (hq : ∀ ad w, V ad w → ad q = b ∧ w q = some (.inr (ci, fs))) (hc : cl[ci]? = some r) (hn : As.length = n) (hst : st0 = As.reverse ++ .ref b :: st) (hcat : (st.map fun v => v.category).sum ≤ 8) (hd : decode cc pc = .ok (.invokevirtual index, 3)) (hf : cells + mc ≤ R.cells ∧ slots + ms ≤ R.slots) : g_Run p l e R s m args below meth c D cl A nL cells slots V pc lo st0 st mc ms (fun A1 => Qc A1 (Value.ref b :: As).toArray) := fun ad w H locs ls hx0 hw hS hl => by
  obtain ⟨hb, he⟩ := hq ad w hx0
  subst hb
  exact va_runVN hC.1 (hM ad w H.size hx0) cw ⟨g_blind hNM, g_recv hC hw he hc, g_pre hC hNM hw⟩ rfl hn hl.1 hst (lv_room hcat) hd hf
theorem g_runSN {host : String} (hC : g_C p s m args c D cl N A nL cc own Ts) (hNM : g_NOK N) (hM : g_M l y ws rm D cl N As V mc ms Qc) (cw : va_CN R s args own index y host bytes maxL ret ws rm mc ms n ∧ (Cond.static y).before args s = true ∧ True) (hn : As.length = n) (hst : st0 = As.reverse ++ st) (hcat : (st.map fun v => v.category).sum ≤ 8) (hd : decode cc pc = .ok (.invokestatic index, 3)) (hf : cells + mc ≤ R.cells ∧ slots + ms ≤ R.slots) : g_Run p l e R s m args below meth c D cl A nL cells slots V pc lo st0 st mc ms (fun A1 => Qc A1 As.toArray) := fun ad w H locs ls hx0 hw hS hl =>
  va_runSN hC.1 (hM ad w H.size hx0) cw ⟨g_blind hNM, g_pre hC hNM hw⟩ rfl hn hl.1 hst (lv_room hcat) hd hf
theorem g_back (hC : g_C p s m args c D cl N A nL cc own Ts) {H : Heap} {locs : List Loc} (hw : g_w D cl s A ad w H) (hS : va_S A s.heap H locs) : ∀ q, g_A ad w H.size q → A q := fun q h => by
  rcases h with ⟨k, e, hk, rfl⟩ | h
  · exact (hw.1 k e hk).2
  · exact hC.2.2.2 q (Nat.le_trans hS.1 h)
theorem g_calli {aa : Array Value} {Post : Int32 → (Nat → Nat) → gW → Prop} (hC : g_C p s m args c D cl N A nL cc own Ts) (hr : g_Run p l e R s m args below meth c D cl A nL cells slots V pc lo st0 st mc ms (fun A1 => g_Qi D cl A1 Post aa)) (kk : ∀ r : Int32, G p l e R s m args below meth c D cl A nL Q (cells + mc) (slots + ms) (Post r) (pc + 3) lo (.int r :: st)) : G p l e R s m args below meth c D cl A nL Q cells slots V (pc) lo (st0) := fun ad w H locs ls hx0 hw hS hl =>
  va_calli (hr ad w H locs ls hx0 hw hS hl) hS (fun q _ h => g_back hC hw hS q h) (g_back hC hw hS) (fun r u t H1 locs1 ht hvm hp hB hz hk hS1 => kk r u.1 u.2 H1 locs1 ls hp (by subst ht; exact g_w.moved hvm.symm hB (g_back hC hw hS)) hS1 hl)
theorem g_calll {aa : Array Value} {Post : Int64 → (Nat → Nat) → gW → Prop} (hC : g_C p s m args c D cl N A nL cc own Ts) (hr : g_Run p l e R s m args below meth c D cl A nL cells slots V pc lo st0 st mc ms (fun A1 => g_Ql D cl A1 Post aa)) (kk : ∀ r : Int64, G p l e R s m args below meth c D cl A nL Q (cells + mc) (slots + ms) (Post r) (pc + 3) lo (.long r :: st)) : G p l e R s m args below meth c D cl A nL Q cells slots V (pc) lo (st0) := fun ad w H locs ls hx0 hw hS hl =>
  va_calll (hr ad w H locs ls hx0 hw hS hl) hS (fun q _ h => g_back hC hw hS q h) (g_back hC hw hS) (fun r u t H1 locs1 ht hvm hp hB hz hk hS1 => kk r u.1 u.2 H1 locs1 ls hp (by subst ht; exact g_w.moved hvm.symm hB (g_back hC hw hS)) hS1 hl)
theorem g_callv {aa : Array Value} {Post : (Nat → Nat) → gW → Prop} (hC : g_C p s m args c D cl N A nL cc own Ts) (hr : g_Run p l e R s m args below meth c D cl A nL cells slots V pc lo st0 st mc ms (fun A1 => g_Qv D cl A1 Post aa)) (kk : G p l e R s m args below meth c D cl A nL Q (cells + mc) (slots + ms) Post (pc + 3) lo (st)) : G p l e R s m args below meth c D cl A nL Q cells slots V (pc) lo (st0) := fun ad w H locs ls hx0 hw hS hl =>
  va_callv (hr ad w H locs ls hx0 hw hS hl) hS (fun q _ h => g_back hC hw hS q h) (g_back hC hw hS) (fun u t H1 locs1 ht hvm hp hB hz hk hS1 => kk u.1 u.2 H1 locs1 ls hp (by subst ht; exact g_w.moved hvm.symm hB (g_back hC hw hS)) hS1 hl)
theorem g_callq {aa : Array Value} {Post : Option Nat → (Nat → Nat) → gW → Prop} (hC : g_C p s m args c D cl N A nL cc own Ts) (hr : g_Run p l e R s m args below meth c D cl A nL cells slots V pc lo st0 st mc ms (fun A1 => g_Qq D cl A1 Post aa)) (kk : ∀ r : Option Nat, G p l e R s m args below meth c D cl A nL Q (cells + mc) (slots + ms) (Post r) (pc + 3) lo (va_rf r :: st)) : G p l e R s m args below meth c D cl A nL Q cells slots V (pc) lo (st0) := fun ad w H locs ls hx0 hw hS hl =>
  va_callq (hr ad w H locs ls hx0 hw hS hl) hS (fun q _ h => g_back hC hw hS q h) (g_back hC hw hS) (fun r u t H1 locs1 ht hvm hp hB hz hk hS1 => kk r u.1 u.2 H1 locs1 ls hp (by subst ht; exact g_w.moved hvm.symm hB (g_back hC hw hS)) hS1 hl)
theorem g_widen {k n : Nat} (h1 : cells ≤ k) (h2 : slots ≤ n) (kk : G p l e R s m args below meth c D cl A nL Q k n V pc lo st) : G p l e R s m args below meth c D cl A nL Q cells slots V (pc) lo (st) := fun ad w H locs ls hx0 hw hS hl => W.widen h1 h2 (kk ad w H locs ls hx0 hw hS hl)
theorem g_V {V' : (Nat → Nat) → gW → Prop} (h : ∀ ad w, V ad w → V' ad w) (kk : G p l e R s m args below meth c D cl A nL Q cells slots V' pc lo st) : G p l e R s m args below meth c D cl A nL Q cells slots V (pc) lo (st) := fun ad w H locs ls hx0 hw hS hl => kk ad w H locs ls (h ad w hx0) hw hS hl
theorem g_ex {α : Type} {V' : α → (Nat → Nat) → gW → Prop} (kk : ∀ x, G p l e R s m args below meth c D cl A nL Q cells slots (V' x) pc lo st) : G p l e R s m args below meth c D cl A nL Q cells slots (fun ad w => ∃ x, V' x ad w) pc lo st := fun ad w H locs ls hx0 hw hS hl => by
  obtain ⟨x, hx⟩ := hx0
  exact kk x ad w H locs ls hx hw hS hl
theorem g_pure {P : Prop} (h : ∀ ad w, V ad w → P) (kk : P → G p l e R s m args below meth c D cl A nL Q cells slots V (pc) lo (st)) : G p l e R s m args below meth c D cl A nL Q cells slots V (pc) lo (st) := fun ad w H locs ls hx0 hw hS hl => kk (h ad w hx0) ad w H locs ls hx0 hw hS hl
theorem g_and {P : Prop} (kk : P → G p l e R s m args below meth c D cl A nL Q cells slots V (pc) lo (st)) : G p l e R s m args below meth c D cl A nL Q cells slots (fun ad w => P ∧ V ad w) pc lo st := fun ad w H locs ls hx0 hw hS hl => kk hx0.1 ad w H locs ls hx0.2 hw hS hl

end GG
