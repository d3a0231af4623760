theorem g_NOK_N : g_NOK g_N := g_N_ok
section TCW
variable {R : Room} {s : State} {args : Array Value} {own C : String} {index maxL mc ms : Nat} {y : MethodName} {bytes : ByteArray} {ret : Option FieldType} {c0 : Cond} {rm : Room}
theorem t_cwV (n : Nat) (hts : ∀ w ∈ c0 :: gT, w.before args s = true) (hl : Cond.methodLink own index y ∈ gT) (hi : Cond.instanceMethod y ∈ gT) (hs : Cond.selects C y y ∈ gT) (hini : Cond.initialized C ∈ gT) (hk : Cond.code y bytes maxL ret ∈ gT) (hrc : rm.cells = mc) (hrs : rm.slots = ms)
    (hd : y.cls = C ∧ y.cls ≠ "java/lang/invoke/MethodHandle" ∧ y.cls ≠ "java/lang/invoke/VarHandle" ∧ (parseMethodDescriptor y.desc).map (fun d => d.parameters.length) = some n) (hR : rm.frames + 1 ≤ R.frames ∧ 8 + (maxL + 11) + rm.locals ≤ R.locals) :
    CallW R s args own C index y bytes maxL ret (Cond.code y bytes maxL ret :: gT) rm mc ms n := by
  refine cwV n hts (fun w h => ?_) rfl hrc hrs hd hR
  unfold wsV at h
  rcases List.mem_append.mp h with h | h
  · simp only [List.mem_cons, List.not_mem_nil, or_false] at h
    rcases h with rfl | rfl | rfl | rfl
    · exact ⟨List.mem_cons_of_mem _ hl, good_of_word (List.mem_filter.mp hl).2⟩
    · exact ⟨List.mem_cons_of_mem _ hi, good_of_word (List.mem_filter.mp hi).2⟩
    · exact ⟨List.mem_cons_of_mem _ hs, good_of_word (List.mem_filter.mp hs).2⟩
    · exact ⟨List.mem_cons_of_mem _ hini, good_of_word (List.mem_filter.mp hini).2⟩
  · exact gT_good y bytes maxL ret (List.mem_cons_of_mem _ hk) (fun w h => List.mem_cons_of_mem _ h) w h
theorem t_cwS (n : Nat) (hts : ∀ w ∈ c0 :: gT, w.before args s = true) (hl : Cond.methodLink own index y ∈ gT) (hi : Cond.static y ∈ gT) (hini : Cond.initialized y.cls ∈ gT) (hk : Cond.code y bytes maxL ret ∈ gT) (hrc : rm.cells = mc) (hrs : rm.slots = ms)
    (hd : y.cls = C ∧ y.cls ≠ "java/lang/invoke/MethodHandle" ∧ y.cls ≠ "java/lang/invoke/VarHandle" ∧ (parseMethodDescriptor y.desc).map (fun d => d.parameters.length) = some n) (hR : rm.frames + 1 ≤ R.frames ∧ 8 + (maxL + 11) + rm.locals ≤ R.locals) :
    CallB R s args own index y bytes maxL ret (Cond.code y bytes maxL ret :: gT) rm mc ms n ∧ (Cond.static y).before args s = true := by
  refine va_cwS n hts (fun w h => ?_) rfl hrc hrs hd.2 hR
  unfold va_wsS at h
  rcases List.mem_append.mp h with h | h
  · simp only [List.mem_cons, List.not_mem_nil, or_false] at h
    rcases h with rfl | rfl | rfl
    · exact ⟨List.mem_cons_of_mem _ hl, good_of_word (List.mem_filter.mp hl).2⟩
    · exact ⟨List.mem_cons_of_mem _ hi, good_of_word (List.mem_filter.mp hi).2⟩
    · exact ⟨List.mem_cons_of_mem _ hini, good_of_word (List.mem_filter.mp hini).2⟩
  · exact gT_good y bytes maxL ret (List.mem_cons_of_mem _ hk) (fun w h => List.mem_cons_of_mem _ h) w h
theorem t_cwI (n : Nat) (hts : ∀ w ∈ c0 :: gT, w.before args s = true) (hl : Cond.methodLink own index y ∈ gT) (hi : Cond.instanceMethod y ∈ gT) (hini : Cond.initialized y.cls ∈ gT) (hk : Cond.code y bytes maxL none ∈ gT) (hrc : rm.cells = mc) (hrs : rm.slots = ms) (hy1 : y.name = "<init>")
    (hd : y.cls = C ∧ y.cls ≠ "java/lang/invoke/MethodHandle" ∧ y.cls ≠ "java/lang/invoke/VarHandle" ∧ (parseMethodDescriptor y.desc).map (fun d => d.parameters.length) = some n) (hR : rm.frames + 1 ≤ R.frames ∧ 8 + (maxL + 11) + rm.locals ≤ R.locals) :
    CallB R s args own index y bytes maxL none (Cond.code y bytes maxL none :: gT) rm mc ms n ∧ y.name = "<init>" ∧ (Cond.instanceMethod y).before args s = true :=
  cwI n hts (gT_good y bytes maxL none (List.mem_cons_of_mem _ hk) (fun w h => List.mem_cons_of_mem _ h)) rfl hrc hrs (hts _ (List.mem_cons_of_mem _ hini)) (hts _ (List.mem_cons_of_mem _ hl)) (hts _ (List.mem_cons_of_mem _ hi)) hy1 hd.2 hR
theorem t_cwN {host : String} (n : Nat) (hts : ∀ w ∈ c0 :: gT, w.before args s = true) (hl : va_Nw (.methodLinkNest own index y host) s) (hi : Cond.instanceMethod y ∈ gT) (hs : Cond.selects C y y ∈ gT) (hini : Cond.initialized y.cls ∈ gT) (hk : Cond.code y bytes maxL ret ∈ gT) (hrc : rm.cells = mc) (hrs : rm.slots = ms)
    (hd : y.cls = C ∧ y.cls ≠ "java/lang/invoke/MethodHandle" ∧ y.cls ≠ "java/lang/invoke/VarHandle" ∧ (parseMethodDescriptor y.desc).map (fun d => d.parameters.length) = some n) (hR : rm.frames + 1 ≤ R.frames ∧ 8 + (maxL + 11) + rm.locals ≤ R.locals) :
    va_CN R s args own index y host bytes maxL ret (Cond.code y bytes maxL ret :: gT) rm mc ms n ∧ (Cond.instanceMethod y).before args s = true ∧ (Cond.selects C y y).before args s = true :=
  ⟨va_cnB n hts (gT_good y bytes maxL ret (List.mem_cons_of_mem _ hk) (fun w h => List.mem_cons_of_mem _ h)) rfl hrc hrs hl (hts _ (List.mem_cons_of_mem _ hini)) hd.2 hR, hts _ (List.mem_cons_of_mem _ hi), hts _ (List.mem_cons_of_mem _ hs)⟩
end TCW
/-! The reference's world: the object is cell 200, its arrays 201 .. 214. -/
abbrev rCI : Nat := 4
def r_ty (k : Nat) : FieldType := if k = 2 ∨ k = 6 ∨ k = 12 then .boolean else .int
def r_ln (k : Nat) : Nat := match k with
  | 1 => 3
  | 2 => 18
  | 3 => 18
  | 4 => 18
  | 5 => 54
  | 6 => 54
  | 7 => 54
  | 8 => 9
  | 9 => 18
  | 10 => 3
  | 11 => 54
  | 12 => 54
  | 13 => 6174
  | _ => 3
theorem r_ln_lt (k : Nat) : r_ln k < 2 ^ 31 := by
  unfold r_ln
  split <;> decide
def r_en (k n : Nat) : Int32 := if k = 7 ∨ k = 9 then nI n - 1 else nI n
def r_arr (σ : rS) (k : Nat) : gE := .inl (r_ty k, r_ln k, .inl (fun j => r_en k (σ k j)))
def r_fs (ad : Nat → Nat) (S : Nat) : List Value := [.int (nI S), .ref (ad 201), .ref (ad 202), .ref (ad 203), .ref (ad 204), .ref (ad 205), .ref (ad 206), .ref (ad 207), .ref (ad 208), .ref (ad 209), .ref (ad 210), .ref (ad 211), .ref (ad 212), .ref (ad 213), .ref (ad 214)]
def r_bl (σ : rS) : Prop := ∀ k j, σ k j < 1000 ∧ ((k = 2 ∨ k = 6 ∨ k = 12) → σ k j < 2)
theorem r_lt {σ : rS} (h : r_bl σ) (k j : Nat) : σ k j < 2 ^ 31 := Nat.lt_of_lt_of_le (h k j).1 (by decide)
theorem r_lt1 {σ : rS} (h : r_bl σ) (k j : Nat) : σ k j < 1000 := (h k j).1
/-- the world w has the reference at σ, and is w0 below 200 -/
def RX (S : Nat) (σ : rS) (ad0 : Nat → Nat) (w0 : gW) : (Nat → Nat) → gW → Prop := fun ad w =>
  ad = ad0 ∧ (∀ q, q < 200 → w q = w0 q) ∧ w 200 = some (.inr (rCI, r_fs ad0 S)) ∧ (∀ k, 1 ≤ k → k ≤ 14 → w (200 + k) = some (r_arr σ k)) ∧ r_bl σ
def u2 (σ : rS) (k j x : Nat) : rS := fun a b => if a = k ∧ b = j then x else σ a b
theorem u2_self {σ : rS} {k j x : Nat} : u2 σ k j x k j = x := if_pos ⟨rfl, rfl⟩
theorem u2_ne {σ : rS} {k j x a : Nat} (h : a ≠ k) : u2 σ k j x a = σ a := by
  funext b
  exact if_neg (fun q => h q.1)
theorem u2_in {σ : rS} {k j x b : Nat} : u2 σ k j x k b = if b = j then x else σ k b := by
  unfold u2
  by_cases h : b = j
  · rw [if_pos ⟨rfl, h⟩, if_pos h]
  · rw [if_neg (fun q => h q.2), if_neg h]
theorem r_this {S : Nat} {σ : rS} {ad0 : Nat → Nat} {w0 : gW} : ∀ ad w, RX S σ ad0 w0 ad w → ad 200 = ad0 200 ∧ w 200 = some (.inr (rCI, r_fs ad0 S)) := fun ad w h => ⟨by rw [h.1], h.2.2.1⟩
theorem r_a {S : Nat} {σ : rS} {ad0 : Nat → Nat} {w0 : gW} (k : Nat) (h1 : 1 ≤ k) (h2 : k ≤ 14) : ∀ ad w, RX S σ ad0 w0 ad w → ad (200 + k) = ad0 (200 + k) ∧ w (200 + k) = some (r_arr σ k) := fun ad w h => ⟨by rw [h.1], h.2.2.2.1 k h1 h2⟩
theorem r_put {S : Nat} {σ : rS} {ad0 : Nat → Nat} {w0 : gW} {k j x : Nat} (h1 : 1 ≤ k) (h2 : k ≤ 14) (hx : x < 1000 ∧ ((k = 2 ∨ k = 6 ∨ k = 12) → x < 2)) {e : gE} (he : e = r_arr (u2 σ k j x) k) : ∀ ad w, RX S σ ad0 w0 ad w → RX S (u2 σ k j x) ad0 w0 ad (va_up w (200 + k) (some e)) := by
  intro ad w h
  obtain ⟨a, b, c, d, f⟩ := h
  refine ⟨a, fun q hq => ?_, ?_, fun k' h1' h2' => ?_, fun k' i => ?_⟩
  · rw [va_up_ne _ _ (by omega)]
    exact b q hq
  · rw [va_up_ne _ _ (by omega)]
    exact c
  · by_cases q : k' = k
    · subst q
      rw [va_up_self, he]
    · rw [va_up_ne _ _ (by omega), d k' h1' h2']
      unfold r_arr
      rw [u2_ne q]
  · unfold u2
    split
    · rename_i q
      rw [q.1]
      exact hx
    · exact f k' i
theorem r_bl_of {S : Nat} {σ : rS} {ad0 : Nat → Nat} {w0 : gW} : ∀ ad w, RX S σ ad0 w0 ad w → r_bl σ := fun ad w h => h.2.2.2.2
section RW
variable {p : Program} {l : Launch} {e : Env} {R : Room} {s : State} {m : MethodId} {args : Array Value} {below : List Frame} {meth : Method} {c : Code} {D : va_G} {cl : List vw_C} {N : State → Prop} {A : Nat → Prop} {nL : Nat} {Q : State → Prop} {cells slots : Nat} {pc : Nat} {lo : List (Nat × Value)} {st : List Value} {cc : ByteArray} {own : String} {Ts : List Cond} {S : Nat} {σ : rS} {ad0 : Nat → Nat} {w0 : gW}
theorem r_ld (k : Nat) {j : Nat} (hC : g_C p s m args c D cl N A nL cc own Ts) (h1 : 1 ≤ k) (h2 : k ≤ 14) (hty : r_ty k = .int) (hen : ∀ n, r_en k n = nI n) (hj : j < r_ln k) (hd : decode cc pc = .ok (.iaload, 1)) (kk : G p l e R s m args below meth c D cl A nL Q cells slots (RX S σ ad0 w0) (pc + 1) lo (.int (nI (σ k j)) :: st)) : G p l e R s m args below meth c D cl A nL Q cells slots (RX S σ ad0 w0) pc lo (.int (nI j) :: .ref (ad0 (200 + k)) :: st) := by
  refine g_ald (f := fun j => nI (σ k j)) hC (200 + k) (fun ad w h => ⟨by rw [h.1], ?_⟩) hj (r_ln_lt k) hd kk
  rw [h.2.2.2.1 k h1 h2]
  unfold r_arr
  rw [hty, show (fun j => r_en k (σ k j)) = fun j => nI (σ k j) from funext fun j => hen _]
theorem r_lde (k : Nat) {j : Nat} (hC : g_C p s m args c D cl N A nL cc own Ts) (h1 : 1 ≤ k) (h2 : k ≤ 14) (hty : r_ty k = .int) (hen : ∀ n, r_en k n = nI n - 1) (hj : j < r_ln k) (hd : decode cc pc = .ok (.iaload, 1)) (kk : G p l e R s m args below meth c D cl A nL Q cells slots (RX S σ ad0 w0) (pc + 1) lo (.int (nI (σ k j) - 1) :: st)) : G p l e R s m args below meth c D cl A nL Q cells slots (RX S σ ad0 w0) pc lo (.int (nI j) :: .ref (ad0 (200 + k)) :: st) := by
  refine g_ald (f := fun j => nI (σ k j) - 1) hC (200 + k) (fun ad w h => ⟨by rw [h.1], ?_⟩) hj (r_ln_lt k) hd kk
  rw [h.2.2.2.1 k h1 h2]
  unfold r_arr
  rw [hty, show (fun j => r_en k (σ k j)) = fun j => nI (σ k j) - 1 from funext fun j => hen _]
theorem r_zld (k : Nat) {j : Nat} (hC : g_C p s m args c D cl N A nL cc own Ts) (h1 : 1 ≤ k) (h2 : k ≤ 14) (hty : r_ty k = .boolean) (hen : ∀ n, r_en k n = nI n) (hj : j < r_ln k) (hd : decode cc pc = .ok (.baload, 1)) (kk : G p l e R s m args below meth c D cl A nL Q cells slots (RX S σ ad0 w0) (pc + 1) lo (.int (nI (σ k j)) :: st)) : G p l e R s m args below meth c D cl A nL Q cells slots (RX S σ ad0 w0) pc lo (.int (nI j) :: .ref (ad0 (200 + k)) :: st) := by
  refine g_zld (f := fun j => nI (σ k j)) hC (200 + k) (fun ad w h => ⟨by rw [h.1], ?_⟩) hj (r_ln_lt k) hd kk
  rw [h.2.2.2.1 k h1 h2]
  unfold r_arr
  rw [hty, show (fun j => r_en k (σ k j)) = fun j => nI (σ k j) from funext fun j => hen _]
theorem r_st (k : Nat) {j x : Nat} (hC : g_C p s m args c D cl N A nL cc own Ts) (h1 : 1 ≤ k) (h2 : k ≤ 14) (hty : r_ty k = .int) (hen : ∀ n, r_en k n = nI n) (hb : ¬ (k = 2 ∨ k = 6 ∨ k = 12)) (hx : x < 1000) (hj : j < r_ln k) (hd : decode cc pc = .ok (.iastore, 1)) (kk : G p l e R s m args below meth c D cl A nL Q cells slots (RX S (u2 σ k j x) ad0 w0) (pc + 1) lo st) : G p l e R s m args below meth c D cl A nL Q cells slots (RX S σ ad0 w0) pc lo (.int (nI x) :: .int (nI j) :: .ref (ad0 (200 + k)) :: st) := by
  refine g_ast (f := fun j => nI (σ k j)) hC (200 + k) (fun ad w h => ⟨by rw [h.1], ?_⟩) hj (r_ln_lt k) (r_put h1 h2 ⟨hx, fun q => absurd q hb⟩ ?_) hd kk
  · rw [h.2.2.2.1 k h1 h2]
    unfold r_arr
    rw [hty, show (fun j => r_en k (σ k j)) = fun j => nI (σ k j) from funext fun j => hen _]
  · unfold r_arr
    rw [hty]
    congr 4
    funext i
    rw [hen, u2_in]
    unfold va_up
    split <;> rfl
theorem r_ste (k : Nat) {j x : Nat} {v : Int32} (hC : g_C p s m args c D cl N A nL cc own Ts) (h1 : 1 ≤ k) (h2 : k ≤ 14) (hty : r_ty k = .int) (hen : ∀ n, r_en k n = nI n - 1) (hb : ¬ (k = 2 ∨ k = 6 ∨ k = 12)) (hv : v = nI x - 1) (hx : x < 1000) (hj : j < r_ln k) (hd : decode cc pc = .ok (.iastore, 1)) (kk : G p l e R s m args below meth c D cl A nL Q cells slots (RX S (u2 σ k j x) ad0 w0) (pc + 1) lo st) : G p l e R s m args below meth c D cl A nL Q cells slots (RX S σ ad0 w0) pc lo (.int v :: .int (nI j) :: .ref (ad0 (200 + k)) :: st) := by
  refine g_ast (f := fun j => nI (σ k j) - 1) hC (200 + k) (fun ad w h => ⟨by rw [h.1], ?_⟩) hj (r_ln_lt k) (r_put h1 h2 ⟨hx, fun q => absurd q hb⟩ ?_) hd kk
  · rw [h.2.2.2.1 k h1 h2]
    unfold r_arr
    rw [hty, show (fun j => r_en k (σ k j)) = fun j => nI (σ k j) - 1 from funext fun j => hen _]
  · unfold r_arr
    rw [hty]
    congr 4
    funext i
    rw [hen, u2_in]
    unfold va_up
    split
    · exact hv
    · rfl
theorem r_nar {x : Nat} (h : x < 2) : vp_nar .boolean (nI x) = nI x := by
  rcases (show x = 0 ∨ x = 1 by omega) with rfl | rfl <;> decide +kernel
theorem r_nar2 {x : Nat} (h : x < 2) : narrow .boolean (.int (nI x)) = .int (nI x) := by
  rcases (show x = 0 ∨ x = 1 by omega) with rfl | rfl <;> decide +kernel
theorem r_zst (k : Nat) {j x : Nat} (hC : g_C p s m args c D cl N A nL cc own Ts) (h1 : 1 ≤ k) (h2 : k ≤ 14) (hty : r_ty k = .boolean) (hen : ∀ n, r_en k n = nI n) (hx : x < 2) (hj : j < r_ln k) (hd : decode cc pc = .ok (.bastore, 1)) (kk : G p l e R s m args below meth c D cl A nL Q cells slots (RX S (u2 σ k j x) ad0 w0) (pc + 1) lo st) : G p l e R s m args below meth c D cl A nL Q cells slots (RX S σ ad0 w0) pc lo (.int (nI x) :: .int (nI j) :: .ref (ad0 (200 + k)) :: st) := by
  refine g_zst (f := fun j => nI (σ k j)) hC (200 + k) (fun ad w h => ⟨by rw [h.1], ?_⟩) hj (r_ln_lt k) (r_nar hx) (r_put h1 h2 ⟨by omega, fun _ => hx⟩ ?_) hd kk
  · rw [h.2.2.2.1 k h1 h2]
    unfold r_arr
    rw [hty, show (fun j => r_en k (σ k j)) = fun j => nI (σ k j) from funext fun j => hen _]
  · unfold r_arr
    rw [hty]
    congr 4
    funext i
    rw [hen, u2_in]
    unfold va_up
    split <;> rfl
theorem g_loop {ι : Type} {pc0 : Nat} (μ : ι → Nat) (I : ι → Prop) (V : ι → (Nat → Nat) → gW → Prop) (lo : ι → List (Nat × Value)) (hs : ∀ i, I i → (∀ j, I j → μ j < μ i → G p l e R s m args below meth c D cl A nL Q cells slots (V j) pc0 (lo j) []) → G p l e R s m args below meth c D cl A nL Q cells slots (V i) pc0 (lo i) []) (i0 : ι) (h0 : I i0) : G p l e R s m args below meth c D cl A nL Q cells slots (V i0) pc0 (lo i0) [] := by
  have key : ∀ (n : Nat) (i : ι), μ i = n → I i → G p l e R s m args below meth c D cl A nL Q cells slots (V i) pc0 (lo i) [] := by
    intro n
    induction n using Nat.strongRecOn with
    | ind n ih =>
      intro i hi hI
      exact hs i hI (fun j hj hlt => ih (μ j) (by omega) j rfl hj)
  exact key _ i0 rfl h0
end RW
def rk (n : Nat) : Room := { frames := n, cells := 0, slots := 0, locals := 64 * n + 20 }
