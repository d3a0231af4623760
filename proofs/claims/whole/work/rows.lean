section
-- ===== PART A: goes FIRST, ahead of the names: the tables' words, and 'selects' of the private methods out of them =====
/-- a private method of a class that the tables say can be made, by its rows of tables_1 -/
def lw_okq (q : MethodName × Nat) : Prop := (q.1.cls ≠ "java/lang/invoke/MethodHandle" ∧ q.1.cls ≠ "java/lang/invoke/VarHandle") ∧ Cond.instantiable q.1.cls q.2 ∈ tables_1 ∧ Cond.privateMethod q.1 ∈ tables_1 ∧ Cond.instanceMethod q.1 ∈ tables_1
theorem lw_p0 : lw_okq (⟨"TombstoneSites", "isSite", "(I)Z"⟩, 3) := ⟨⟨by decide +kernel, by decide +kernel⟩, List.mem_of_getElem? (i := 10) (by decide +kernel), List.mem_of_getElem? (i := 103) (by decide +kernel), List.mem_of_getElem? (i := 104) (by decide +kernel)⟩
theorem lw_p1 : lw_okq (⟨"TombstoneSites", "make", "(LTombstoneSites$Copy;II)I"⟩, 3) := ⟨⟨by decide +kernel, by decide +kernel⟩, List.mem_of_getElem? (i := 10) (by decide +kernel), List.mem_of_getElem? (i := 119) (by decide +kernel), List.mem_of_getElem? (i := 120) (by decide +kernel)⟩
theorem lw_p2 : lw_okq (⟨"TombstoneSites$Copy", "putCell", "(II)V"⟩, 8) := ⟨⟨by decide +kernel, by decide +kernel⟩, List.mem_of_getElem? (i := 44) (by decide +kernel), List.mem_of_getElem? (i := 172) (by decide +kernel), List.mem_of_getElem? (i := 173) (by decide +kernel)⟩
theorem lw_p3 : lw_okq (⟨"TombstoneSites$Copy", "hideCell", "(I)V"⟩, 8) := ⟨⟨by decide +kernel, by decide +kernel⟩, List.mem_of_getElem? (i := 44) (by decide +kernel), List.mem_of_getElem? (i := 176) (by decide +kernel), List.mem_of_getElem? (i := 177) (by decide +kernel)⟩
theorem lw_p4 : lw_okq (⟨"TombstoneSites", "receive", "(LTombstoneSites$Copy;LTombstoneSites$Operation;)I"⟩, 3) := ⟨⟨by decide +kernel, by decide +kernel⟩, List.mem_of_getElem? (i := 10) (by decide +kernel), List.mem_of_getElem? (i := 197) (by decide +kernel), List.mem_of_getElem? (i := 198) (by decide +kernel)⟩
theorem lw_p5 : lw_okq (⟨"TombstoneSites", "firstReady", "(LTombstoneSites$Copy;)LTombstoneSites$Operation;"⟩, 3) := ⟨⟨by decide +kernel, by decide +kernel⟩, List.mem_of_getElem? (i := 10) (by decide +kernel), List.mem_of_getElem? (i := 206) (by decide +kernel), List.mem_of_getElem? (i := 207) (by decide +kernel)⟩
theorem lw_p6 : lw_okq (⟨"TombstoneSites$History", "placeFor", "(LTombstoneSites$Operation;II)I"⟩, 3) := ⟨⟨by decide +kernel, by decide +kernel⟩, List.mem_of_getElem? (i := 18) (by decide +kernel), List.mem_of_getElem? (i := 214) (by decide +kernel), List.mem_of_getElem? (i := 215) (by decide +kernel)⟩
theorem lw_p7 : lw_okq (⟨"TombstoneSites$History", "latestUnknownTo", "(LTombstoneSites$Operation;I)LTombstoneSites$Operation;"⟩, 3) := ⟨⟨by decide +kernel, by decide +kernel⟩, List.mem_of_getElem? (i := 18) (by decide +kernel), List.mem_of_getElem? (i := 218) (by decide +kernel), List.mem_of_getElem? (i := 219) (by decide +kernel)⟩
theorem lw_p8 : lw_okq (⟨"TombstoneSites$History", "isInContextOfAny", "(LTombstoneSites$Operation;I)Z"⟩, 3) := ⟨⟨by decide +kernel, by decide +kernel⟩, List.mem_of_getElem? (i := 18) (by decide +kernel), List.mem_of_getElem? (i := 231) (by decide +kernel), List.mem_of_getElem? (i := 232) (by decide +kernel)⟩
theorem lw_p9 : lw_okq (⟨"TombstoneSitesModel", "isSite", "(I)Z"⟩, 15) := ⟨⟨by decide +kernel, by decide +kernel⟩, List.mem_of_getElem? (i := 315) (by decide +kernel), List.mem_of_getElem? (i := 375) (by decide +kernel), List.mem_of_getElem? (i := 376) (by decide +kernel)⟩
theorem lw_p10 : lw_okq (⟨"TombstoneSitesModel", "cellOf", "(II)I"⟩, 15) := ⟨⟨by decide +kernel, by decide +kernel⟩, List.mem_of_getElem? (i := 315) (by decide +kernel), List.mem_of_getElem? (i := 383) (by decide +kernel), List.mem_of_getElem? (i := 384) (by decide +kernel)⟩
theorem lw_p11 : lw_okq (⟨"TombstoneSitesModel", "make", "(IZII)I"⟩, 15) := ⟨⟨by decide +kernel, by decide +kernel⟩, List.mem_of_getElem? (i := 315) (by decide +kernel), List.mem_of_getElem? (i := 387) (by decide +kernel), List.mem_of_getElem? (i := 388) (by decide +kernel)⟩
theorem lw_p12 : lw_okq (⟨"TombstoneSitesModel", "execute", "(II)V"⟩, 15) := ⟨⟨by decide +kernel, by decide +kernel⟩, List.mem_of_getElem? (i := 315) (by decide +kernel), List.mem_of_getElem? (i := 391) (by decide +kernel), List.mem_of_getElem? (i := 392) (by decide +kernel)⟩
theorem lw_p13 : lw_okq (⟨"TombstoneSitesModel", "placeFor", "(II)I"⟩, 15) := ⟨⟨by decide +kernel, by decide +kernel⟩, List.mem_of_getElem? (i := 315) (by decide +kernel), List.mem_of_getElem? (i := 395) (by decide +kernel), List.mem_of_getElem? (i := 396) (by decide +kernel)⟩
theorem lw_p14 : lw_okq (⟨"TombstoneSitesModel", "closed", "()Z"⟩, 15) := ⟨⟨by decide +kernel, by decide +kernel⟩, List.mem_of_getElem? (i := 315) (by decide +kernel), List.mem_of_getElem? (i := 399) (by decide +kernel), List.mem_of_getElem? (i := 400) (by decide +kernel)⟩
theorem lw_p15 : lw_okq (⟨"TombstoneSitesModel", "has", "(I)Z"⟩, 15) := ⟨⟨by decide +kernel, by decide +kernel⟩, List.mem_of_getElem? (i := 315) (by decide +kernel), List.mem_of_getElem? (i := 403) (by decide +kernel), List.mem_of_getElem? (i := 404) (by decide +kernel)⟩
def lw_privs_1 : List (MethodName × Nat) := [(⟨"TombstoneSites", "isSite", "(I)Z"⟩, 3), (⟨"TombstoneSites", "make", "(LTombstoneSites$Copy;II)I"⟩, 3), (⟨"TombstoneSites$Copy", "putCell", "(II)V"⟩, 8), (⟨"TombstoneSites$Copy", "hideCell", "(I)V"⟩, 8), (⟨"TombstoneSites", "receive", "(LTombstoneSites$Copy;LTombstoneSites$Operation;)I"⟩, 3), (⟨"TombstoneSites", "firstReady", "(LTombstoneSites$Copy;)LTombstoneSites$Operation;"⟩, 3), (⟨"TombstoneSites$History", "placeFor", "(LTombstoneSites$Operation;II)I"⟩, 3), (⟨"TombstoneSites$History", "latestUnknownTo", "(LTombstoneSites$Operation;I)LTombstoneSites$Operation;"⟩, 3), (⟨"TombstoneSites$History", "isInContextOfAny", "(LTombstoneSites$Operation;I)Z"⟩, 3), (⟨"TombstoneSitesModel", "isSite", "(I)Z"⟩, 15), (⟨"TombstoneSitesModel", "cellOf", "(II)I"⟩, 15), (⟨"TombstoneSitesModel", "make", "(IZII)I"⟩, 15), (⟨"TombstoneSitesModel", "execute", "(II)V"⟩, 15), (⟨"TombstoneSitesModel", "placeFor", "(II)I"⟩, 15), (⟨"TombstoneSitesModel", "closed", "()Z"⟩, 15), (⟨"TombstoneSitesModel", "has", "(I)Z"⟩, 15)]
theorem lw_r1 : ∀ q ∈ lw_privs_1, lw_okq q := List.forall_mem_cons.mpr ⟨lw_p0, List.forall_mem_cons.mpr ⟨lw_p1, List.forall_mem_cons.mpr ⟨lw_p2, List.forall_mem_cons.mpr ⟨lw_p3, List.forall_mem_cons.mpr ⟨lw_p4, List.forall_mem_cons.mpr ⟨lw_p5, List.forall_mem_cons.mpr ⟨lw_p6, List.forall_mem_cons.mpr ⟨lw_p7, List.forall_mem_cons.mpr ⟨lw_p8, List.forall_mem_cons.mpr ⟨lw_p9, List.forall_mem_cons.mpr ⟨lw_p10, List.forall_mem_cons.mpr ⟨lw_p11, List.forall_mem_cons.mpr ⟨lw_p12, List.forall_mem_cons.mpr ⟨lw_p13, List.forall_mem_cons.mpr ⟨lw_p14, List.forall_mem_cons.mpr ⟨lw_p15, fun _ h => absurd h List.not_mem_nil⟩⟩⟩⟩⟩⟩⟩⟩⟩⟩⟩⟩⟩⟩⟩⟩
theorem lw_p16 : lw_okq (⟨"TombstoneSitesModel", "covers", "(I)Z"⟩, 15) := ⟨⟨by decide +kernel, by decide +kernel⟩, List.mem_of_getElem? (i := 315) (by decide +kernel), List.mem_of_getElem? (i := 407) (by decide +kernel), List.mem_of_getElem? (i := 408) (by decide +kernel)⟩
theorem lw_p17 : lw_okq (⟨"TombstoneSitesModel", "settle", "(I)V"⟩, 15) := ⟨⟨by decide +kernel, by decide +kernel⟩, List.mem_of_getElem? (i := 315) (by decide +kernel), List.mem_of_getElem? (i := 411) (by decide +kernel), List.mem_of_getElem? (i := 412) (by decide +kernel)⟩
theorem lw_p18 : lw_okq (⟨"TombstoneSitesModel", "last", "(I)I"⟩, 15) := ⟨⟨by decide +kernel, by decide +kernel⟩, List.mem_of_getElem? (i := 315) (by decide +kernel), List.mem_of_getElem? (i := 415) (by decide +kernel), List.mem_of_getElem? (i := 416) (by decide +kernel)⟩
theorem lw_p19 : lw_okq (⟨"TombstoneSitesModel", "index", "(I)I"⟩, 15) := ⟨⟨by decide +kernel, by decide +kernel⟩, List.mem_of_getElem? (i := 315) (by decide +kernel), List.mem_of_getElem? (i := 419) (by decide +kernel), List.mem_of_getElem? (i := 420) (by decide +kernel)⟩
theorem lw_p20 : lw_okq (⟨"TombstoneSitesModel", "find", "(II)I"⟩, 15) := ⟨⟨by decide +kernel, by decide +kernel⟩, List.mem_of_getElem? (i := 315) (by decide +kernel), List.mem_of_getElem? (i := 426) (by decide +kernel), List.mem_of_getElem? (i := 427) (by decide +kernel)⟩
theorem lw_p21 : lw_okq (⟨"TombstoneSitesModel", "isMade", "(II)Z"⟩, 15) := ⟨⟨by decide +kernel, by decide +kernel⟩, List.mem_of_getElem? (i := 315) (by decide +kernel), List.mem_of_getElem? (i := 438) (by decide +kernel), List.mem_of_getElem? (i := 439) (by decide +kernel)⟩
theorem lw_p22 : lw_okq (⟨"TombstoneSitesModel", "work", "(I)I"⟩, 15) := ⟨⟨by decide +kernel, by decide +kernel⟩, List.mem_of_getElem? (i := 315) (by decide +kernel), List.mem_of_getElem? (i := 442) (by decide +kernel), List.mem_of_getElem? (i := 443) (by decide +kernel)⟩
theorem lw_p23 : lw_okq (⟨"TombstoneSitesModel", "ready", "(II)Z"⟩, 15) := ⟨⟨by decide +kernel, by decide +kernel⟩, List.mem_of_getElem? (i := 315) (by decide +kernel), List.mem_of_getElem? (i := 446) (by decide +kernel), List.mem_of_getElem? (i := 447) (by decide +kernel)⟩
def lw_privs_2 : List (MethodName × Nat) := [(⟨"TombstoneSitesModel", "covers", "(I)Z"⟩, 15), (⟨"TombstoneSitesModel", "settle", "(I)V"⟩, 15), (⟨"TombstoneSitesModel", "last", "(I)I"⟩, 15), (⟨"TombstoneSitesModel", "index", "(I)I"⟩, 15), (⟨"TombstoneSitesModel", "find", "(II)I"⟩, 15), (⟨"TombstoneSitesModel", "isMade", "(II)Z"⟩, 15), (⟨"TombstoneSitesModel", "work", "(I)I"⟩, 15), (⟨"TombstoneSitesModel", "ready", "(II)Z"⟩, 15)]
theorem lw_r2 : ∀ q ∈ lw_privs_2, lw_okq q := List.forall_mem_cons.mpr ⟨lw_p16, List.forall_mem_cons.mpr ⟨lw_p17, List.forall_mem_cons.mpr ⟨lw_p18, List.forall_mem_cons.mpr ⟨lw_p19, List.forall_mem_cons.mpr ⟨lw_p20, List.forall_mem_cons.mpr ⟨lw_p21, List.forall_mem_cons.mpr ⟨lw_p22, List.forall_mem_cons.mpr ⟨lw_p23, fun _ h => absurd h List.not_mem_nil⟩⟩⟩⟩⟩⟩⟩⟩
def lw_privs : List (MethodName × Nat) := lw_privs_1 ++ (lw_privs_2)
def lw_tbl : List Cond := k2_sels lw_privs ++ tables_1
theorem lw_privs_ok : ∀ q ∈ lw_privs, lw_okq q := by
  show ∀ q ∈ lw_privs_1 ++ (lw_privs_2), lw_okq q
  exact List.forall_mem_append.mpr ⟨lw_r1, lw_r2⟩
/-- the tables' words that a contract may hand on -/
def gT : List Cond := lw_tbl.filter goodWord
theorem gT_t {i : Nat} {w : Cond} (h : tables_1[i]? = some w) (hg : goodWord w = true) : w ∈ gT := List.mem_filter.mpr ⟨List.mem_append_right _ (List.mem_of_getElem? h), hg⟩
theorem gT_s {i : Nat} {q : MethodName × Nat} (h : lw_privs[i]? = some q) (hg : goodWord (Cond.selects q.1.cls q.1 q.1) = true) : Cond.selects q.1.cls q.1 q.1 ∈ gT := List.mem_filter.mpr ⟨List.mem_append_left _ (List.mem_map.mpr ⟨q, List.mem_of_getElem? h, rfl⟩), hg⟩
theorem gT_in : ∀ w ∈ gT, w ∈ lw_tbl := fun w h => (List.mem_filter.mp h).1
theorem gT_good (y : MethodName) (b : ByteArray) (n : Nat) (r : Option FieldType) {big : List Cond} (hc : Cond.code y b n r ∈ big) (hb : ∀ w ∈ gT, w ∈ big) : GoodIn big (Cond.code y b n r :: gT) := fun w h => by
  rcases List.mem_cons.mp h with rfl | h
  · exact ⟨hc, good_of_word rfl⟩
  · exact ⟨hb w h, good_of_word (List.mem_filter.mp h).2⟩
def R_K : String := "TombstoneSites$Copy"
def F_K : u_T := fun k => match k with
  | 0 => ("TombstoneSites$Copy", "site", "I", true)
  | 1 => ("TombstoneSites$Copy", "row", "[I", true)
  | 2 => ("TombstoneSites$Copy", "rowLength", "I", false)
  | 3 => ("TombstoneSites$Copy", "vector", "I", false)
  | 4 => ("TombstoneSites$Copy", "arrived", "[Z", true)
  | 5 => ("TombstoneSites$Copy", "arrivedCount", "I", false)
  | 6 => ("TombstoneSites$Copy", "executedOfOthers", "I", false)
  | _ => ("TombstoneSites$Copy", "places", "[I", true)
def ft_K : Nat → FieldType := fun k => match k with
  | 0 => .int
  | 1 => .array .int
  | 2 => .int
  | 3 => .int
  | 4 => .array .boolean
  | 5 => .int
  | 6 => .int
  | _ => .array .int
theorem n_K : ∀ a, a < 8 → ∀ b, b < 8 → a ≠ b → (F_K a).2.1 ≠ (F_K b).2.1 := by decide +kernel
theorem tk_K : ∀ k, k < 8 → parseFieldDescriptor (F_K k).2.2.1 = some (ft_K k) := by decide +kernel
theorem in_K : ∀ w ∈ u_ws R_K F_K 8, w ∈ gT := by
  intro w hw
  obtain ⟨k, hk, rfl⟩ := List.mem_map.mp hw
  have hk := List.mem_range.mp hk
  rcases (show k = 0 ∨ k = 1 ∨ k = 2 ∨ k = 3 ∨ k = 4 ∨ k = 5 ∨ k = 6 ∨ k = 7 by omega) with rfl | rfl | rfl | rfl | rfl | rfl | rfl | rfl
  · exact gT_t (i := 66) (by decide +kernel) rfl
  · exact gT_t (i := 68) (by decide +kernel) rfl
  · exact gT_t (i := 70) (by decide +kernel) rfl
  · exact gT_t (i := 72) (by decide +kernel) rfl
  · exact gT_t (i := 74) (by decide +kernel) rfl
  · exact gT_t (i := 76) (by decide +kernel) rfl
  · exact gT_t (i := 78) (by decide +kernel) rfl
  · exact gT_t (i := 80) (by decide +kernel) rfl
def R_H : String := "TombstoneSites$History"
def F_H : u_T := fun k => match k with
  | 0 => ("TombstoneSites$History", "siteCount", "I", true)
  | 1 => ("TombstoneSites$History", "made", "[LTombstoneSites$Operation;", true)
  | _ => ("TombstoneSites$History", "knownPlaces", "[I", true)
def ft_H : Nat → FieldType := fun k => match k with
  | 0 => .int
  | 1 => .array (.object "TombstoneSites$Operation")
  | _ => .array .int
theorem n_H : ∀ a, a < 3 → ∀ b, b < 3 → a ≠ b → (F_H a).2.1 ≠ (F_H b).2.1 := by decide +kernel
theorem tk_H : ∀ k, k < 3 → parseFieldDescriptor (F_H k).2.2.1 = some (ft_H k) := by decide +kernel
theorem in_H : ∀ w ∈ u_ws R_H F_H 3, w ∈ gT := by
  intro w hw
  obtain ⟨k, hk, rfl⟩ := List.mem_map.mp hw
  have hk := List.mem_range.mp hk
  rcases (show k = 0 ∨ k = 1 ∨ k = 2 by omega) with rfl | rfl | rfl
  · exact gT_t (i := 34) (by decide +kernel) rfl
  · exact gT_t (i := 36) (by decide +kernel) rfl
  · exact gT_t (i := 38) (by decide +kernel) rfl
def R_O : String := "TombstoneSites$Operation"
def F_O : u_T := fun k => match k with
  | 0 => ("TombstoneSites$Operation", "site", "I", true)
  | 1 => ("TombstoneSites$Operation", "number", "I", true)
  | 2 => ("TombstoneSites$Operation", "character", "I", true)
  | 3 => ("TombstoneSites$Operation", "position", "I", true)
  | _ => ("TombstoneSites$Operation", "context", "I", true)
def ft_O : Nat → FieldType := fun k => match k with
  | 0 => .int
  | 1 => .int
  | 2 => .int
  | 3 => .int
  | _ => .int
theorem n_O : ∀ a, a < 5 → ∀ b, b < 5 → a ≠ b → (F_O a).2.1 ≠ (F_O b).2.1 := by decide +kernel
theorem tk_O : ∀ k, k < 5 → parseFieldDescriptor (F_O k).2.2.1 = some (ft_O k) := by decide +kernel
theorem in_O : ∀ w ∈ u_ws R_O F_O 5, w ∈ gT := by
  intro w hw
  obtain ⟨k, hk, rfl⟩ := List.mem_map.mp hw
  have hk := List.mem_range.mp hk
  rcases (show k = 0 ∨ k = 1 ∨ k = 2 ∨ k = 3 ∨ k = 4 by omega) with rfl | rfl | rfl | rfl | rfl
  · exact gT_t (i := 144) (by decide +kernel) rfl
  · exact gT_t (i := 146) (by decide +kernel) rfl
  · exact gT_t (i := 148) (by decide +kernel) rfl
  · exact gT_t (i := 150) (by decide +kernel) rfl
  · exact gT_t (i := 152) (by decide +kernel) rfl
def R_T : String := "TombstoneSites"
def F_T : u_T := fun k => match k with
  | 0 => ("TombstoneSites", "siteCount", "I", true)
  | 1 => ("TombstoneSites", "history", "LTombstoneSites$History;", true)
  | _ => ("TombstoneSites", "copies", "[LTombstoneSites$Copy;", true)
def ft_T : Nat → FieldType := fun k => match k with
  | 0 => .int
  | 1 => .object "TombstoneSites$History"
  | _ => .array (.object "TombstoneSites$Copy")
theorem n_T : ∀ a, a < 3 → ∀ b, b < 3 → a ≠ b → (F_T a).2.1 ≠ (F_T b).2.1 := by decide +kernel
theorem tk_T : ∀ k, k < 3 → parseFieldDescriptor (F_T k).2.2.1 = some (ft_T k) := by decide +kernel
theorem in_T : ∀ w ∈ u_ws R_T F_T 3, w ∈ gT := by
  intro w hw
  obtain ⟨k, hk, rfl⟩ := List.mem_map.mp hw
  have hk := List.mem_range.mp hk
  rcases (show k = 0 ∨ k = 1 ∨ k = 2 by omega) with rfl | rfl | rfl
  · exact gT_t (i := 87) (by decide +kernel) rfl
  · exact gT_t (i := 89) (by decide +kernel) rfl
  · exact gT_t (i := 91) (by decide +kernel) rfl
def R_M : String := "TombstoneSitesModel"
def F_M : u_T := fun k => match k with
  | 0 => ("TombstoneSitesModel", "sites", "I", true)
  | 1 => ("TombstoneSitesModel", "made", "[I", true)
  | 2 => ("TombstoneSitesModel", "inserts", "[Z", true)
  | 3 => ("TombstoneSitesModel", "position", "[I", true)
  | 4 => ("TombstoneSitesModel", "letter", "[I", true)
  | 5 => ("TombstoneSitesModel", "context", "[I", true)
  | 6 => ("TombstoneSitesModel", "arrived", "[Z", true)
  | 7 => ("TombstoneSitesModel", "where", "[I", true)
  | 8 => ("TombstoneSitesModel", "vector", "[I", true)
  | 9 => ("TombstoneSitesModel", "target", "[I", true)
  | 10 => ("TombstoneSitesModel", "count", "[I", true)
  | 11 => ("TombstoneSitesModel", "cells", "[I", true)
  | 12 => ("TombstoneSitesModel", "visible", "[Z", true)
  | 13 => ("TombstoneSitesModel", "places", "[I", true)
  | _ => ("TombstoneSitesModel", "now", "[I", true)
def ft_M : Nat → FieldType := fun k => match k with
  | 0 => .int
  | 1 => .array .int
  | 2 => .array .boolean
  | 3 => .array .int
  | 4 => .array .int
  | 5 => .array .int
  | 6 => .array .boolean
  | 7 => .array .int
  | 8 => .array .int
  | 9 => .array .int
  | 10 => .array .int
  | 11 => .array .int
  | 12 => .array .boolean
  | 13 => .array .int
  | _ => .array .int
theorem n_M : ∀ a, a < 15 → ∀ b, b < 15 → a ≠ b → (F_M a).2.1 ≠ (F_M b).2.1 := by decide +kernel
theorem tk_M : ∀ k, k < 15 → parseFieldDescriptor (F_M k).2.2.1 = some (ft_M k) := by decide +kernel
theorem in_M : ∀ w ∈ u_ws R_M F_M 15, w ∈ gT := by
  intro w hw
  obtain ⟨k, hk, rfl⟩ := List.mem_map.mp hw
  have hk := List.mem_range.mp hk
  rcases (show k = 0 ∨ k = 1 ∨ k = 2 ∨ k = 3 ∨ k = 4 ∨ k = 5 ∨ k = 6 ∨ k = 7 ∨ k = 8 ∨ k = 9 ∨ k = 10 ∨ k = 11 ∨ k = 12 ∨ k = 13 ∨ k = 14 by omega) with rfl | rfl | rfl | rfl | rfl | rfl | rfl | rfl | rfl | rfl | rfl | rfl | rfl | rfl | rfl
  · exact gT_t (i := 335) (by decide +kernel) rfl
  · exact gT_t (i := 337) (by decide +kernel) rfl
  · exact gT_t (i := 339) (by decide +kernel) rfl
  · exact gT_t (i := 341) (by decide +kernel) rfl
  · exact gT_t (i := 343) (by decide +kernel) rfl
  · exact gT_t (i := 345) (by decide +kernel) rfl
  · exact gT_t (i := 347) (by decide +kernel) rfl
  · exact gT_t (i := 349) (by decide +kernel) rfl
  · exact gT_t (i := 351) (by decide +kernel) rfl
  · exact gT_t (i := 353) (by decide +kernel) rfl
  · exact gT_t (i := 355) (by decide +kernel) rfl
  · exact gT_t (i := 357) (by decide +kernel) rfl
  · exact gT_t (i := 359) (by decide +kernel) rfl
  · exact gT_t (i := 361) (by decide +kernel) rfl
  · exact gT_t (i := 363) (by decide +kernel) rfl
def R_V : String := "TombstoneSites$Vectors"
def R_L : String := "TombstoneSitesLaw"
def R_A : String := "java/util/Arrays"
abbrev gCl : List vw_C := [(R_K, F_K, 8), (R_H, F_H, 3), (R_O, F_O, 5), (R_T, F_T, 3), (R_M, F_M, 15)]
abbrev c_K_init : ByteArray := prog_2_method_1_code
def y_K_init : MethodName := ⟨R_K, "<init>", "(I)V"⟩
def w_K_init : List Cond := .code y_K_init c_K_init 2 (none) :: gT
theorem k_K_init : Cond.code y_K_init c_K_init 2 (none) ∈ gT := gT_t (i := 47) (by decide +kernel) rfl
theorem hd_K_init : y_K_init.cls = R_K ∧ y_K_init.cls ≠ "java/lang/invoke/MethodHandle" ∧ y_K_init.cls ≠ "java/lang/invoke/VarHandle" ∧ (parseMethodDescriptor y_K_init.desc).map (fun d => d.parameters.length) = some 1 := by decide +kernel
theorem d_K_init_0 : decode c_K_init 0 = .ok (.aload_n 0, 1) := by decide +kernel
theorem d_K_init_1 : decode c_K_init 1 = .ok (.invokespecial 3, 3) := by decide +kernel
theorem d_K_init_4 : decode c_K_init 4 = .ok (.aload_n 0, 1) := by decide +kernel
theorem d_K_init_5 : decode c_K_init 5 = .ok (.bipush 18, 2) := by decide +kernel
theorem d_K_init_7 : decode c_K_init 7 = .ok (.newarray .int, 2) := by decide +kernel
theorem d_K_init_9 : decode c_K_init 9 = .ok (.putfield 9, 3) := by decide +kernel
theorem d_K_init_12 : decode c_K_init 12 = .ok (.aload_n 0, 1) := by decide +kernel
theorem d_K_init_13 : decode c_K_init 13 = .ok (.bipush 18, 2) := by decide +kernel
theorem d_K_init_15 : decode c_K_init 15 = .ok (.newarray .boolean, 2) := by decide +kernel
theorem d_K_init_17 : decode c_K_init 17 = .ok (.putfield 15, 3) := by decide +kernel
theorem d_K_init_20 : decode c_K_init 20 = .ok (.aload_n 0, 1) := by decide +kernel
theorem d_K_init_21 : decode c_K_init 21 = .ok (.bipush 18, 2) := by decide +kernel
theorem d_K_init_23 : decode c_K_init 23 = .ok (.newarray .int, 2) := by decide +kernel
theorem d_K_init_25 : decode c_K_init 25 = .ok (.putfield 19, 3) := by decide +kernel
theorem d_K_init_28 : decode c_K_init 28 = .ok (.aload_n 0, 1) := by decide +kernel
theorem d_K_init_29 : decode c_K_init 29 = .ok (.iload_n 1, 1) := by decide +kernel
theorem d_K_init_30 : decode c_K_init 30 = .ok (.putfield 22, 3) := by decide +kernel
theorem d_K_init_33 : decode c_K_init 33 = .ok (.aload_n 0, 1) := by decide +kernel
theorem d_K_init_34 : decode c_K_init 34 = .ok (.getfield 19, 3) := by decide +kernel
theorem d_K_init_37 : decode c_K_init 37 = .ok (.iconst (-1), 1) := by decide +kernel
theorem d_K_init_38 : decode c_K_init 38 = .ok (.invokestatic 26, 3) := by decide +kernel
theorem d_K_init_41 : decode c_K_init 41 = .ok (.return_, 1) := by decide +kernel
abbrev c_K_noteArrival : ByteArray := prog_2_method_2_code
def y_K_noteArrival : MethodName := ⟨R_K, "noteArrival", "(LTombstoneSites$Operation;)V"⟩
def w_K_noteArrival : List Cond := .code y_K_noteArrival c_K_noteArrival 2 (none) :: gT
theorem k_K_noteArrival : Cond.code y_K_noteArrival c_K_noteArrival 2 (none) ∈ gT := gT_t (i := 204) (by decide +kernel) rfl
theorem hd_K_noteArrival : y_K_noteArrival.cls = R_K ∧ y_K_noteArrival.cls ≠ "java/lang/invoke/MethodHandle" ∧ y_K_noteArrival.cls ≠ "java/lang/invoke/VarHandle" ∧ (parseMethodDescriptor y_K_noteArrival.desc).map (fun d => d.parameters.length) = some 1 := by decide +kernel
theorem d_K_noteArrival_0 : decode c_K_noteArrival 0 = .ok (.aload_n 0, 1) := by decide +kernel
theorem d_K_noteArrival_1 : decode c_K_noteArrival 1 = .ok (.getfield 15, 3) := by decide +kernel
theorem d_K_noteArrival_4 : decode c_K_noteArrival 4 = .ok (.aload_n 1, 1) := by decide +kernel
theorem d_K_noteArrival_5 : decode c_K_noteArrival 5 = .ok (.invokevirtual 32, 3) := by decide +kernel
theorem d_K_noteArrival_8 : decode c_K_noteArrival 8 = .ok (.iconst 1, 1) := by decide +kernel
theorem d_K_noteArrival_9 : decode c_K_noteArrival 9 = .ok (.bastore, 1) := by decide +kernel
theorem d_K_noteArrival_10 : decode c_K_noteArrival 10 = .ok (.aload_n 0, 1) := by decide +kernel
theorem d_K_noteArrival_11 : decode c_K_noteArrival 11 = .ok (.dup, 1) := by decide +kernel
theorem d_K_noteArrival_12 : decode c_K_noteArrival 12 = .ok (.getfield 38, 3) := by decide +kernel
theorem d_K_noteArrival_15 : decode c_K_noteArrival 15 = .ok (.iconst 1, 1) := by decide +kernel
theorem d_K_noteArrival_16 : decode c_K_noteArrival 16 = .ok (.iadd, 1) := by decide +kernel
theorem d_K_noteArrival_17 : decode c_K_noteArrival 17 = .ok (.putfield 38, 3) := by decide +kernel
theorem d_K_noteArrival_20 : decode c_K_noteArrival 20 = .ok (.return_, 1) := by decide +kernel
abbrev c_K_execute : ByteArray := prog_2_method_3_code
def y_K_execute : MethodName := ⟨R_K, "execute", "(LTombstoneSites$Operation;I)V"⟩
def w_K_execute : List Cond := .code y_K_execute c_K_execute 3 (none) :: gT
theorem k_K_execute : Cond.code y_K_execute c_K_execute 3 (none) ∈ gT := gT_t (i := 166) (by decide +kernel) rfl
theorem hd_K_execute : y_K_execute.cls = R_K ∧ y_K_execute.cls ≠ "java/lang/invoke/MethodHandle" ∧ y_K_execute.cls ≠ "java/lang/invoke/VarHandle" ∧ (parseMethodDescriptor y_K_execute.desc).map (fun d => d.parameters.length) = some 2 := by decide +kernel
theorem d_K_execute_0 : decode c_K_execute 0 = .ok (.aload_n 1, 1) := by decide +kernel
theorem d_K_execute_1 : decode c_K_execute 1 = .ok (.invokevirtual 41, 3) := by decide +kernel
theorem d_K_execute_4 : decode c_K_execute 4 = .ok (.ifCond .eq 15, 3) := by decide +kernel
theorem d_K_execute_7 : decode c_K_execute 7 = .ok (.aload_n 0, 1) := by decide +kernel
theorem d_K_execute_8 : decode c_K_execute 8 = .ok (.iload_n 2, 1) := by decide +kernel
theorem d_K_execute_9 : decode c_K_execute 9 = .ok (.aload_n 1, 1) := by decide +kernel
theorem d_K_execute_10 : decode c_K_execute 10 = .ok (.getfield 45, 3) := by decide +kernel
theorem d_K_execute_13 : decode c_K_execute 13 = .ok (.invokevirtual 48, 3) := by decide +kernel
theorem d_K_execute_16 : decode c_K_execute 16 = .ok (.goto 8, 3) := by decide +kernel
theorem d_K_execute_19 : decode c_K_execute 19 = .ok (.aload_n 0, 1) := by decide +kernel
theorem d_K_execute_20 : decode c_K_execute 20 = .ok (.iload_n 2, 1) := by decide +kernel
theorem d_K_execute_21 : decode c_K_execute 21 = .ok (.invokevirtual 52, 3) := by decide +kernel
theorem d_K_execute_24 : decode c_K_execute 24 = .ok (.aload_n 0, 1) := by decide +kernel
theorem d_K_execute_25 : decode c_K_execute 25 = .ok (.getfield 19, 3) := by decide +kernel
theorem d_K_execute_28 : decode c_K_execute 28 = .ok (.aload_n 1, 1) := by decide +kernel
theorem d_K_execute_29 : decode c_K_execute 29 = .ok (.invokevirtual 32, 3) := by decide +kernel
theorem d_K_execute_32 : decode c_K_execute 32 = .ok (.iload_n 2, 1) := by decide +kernel
theorem d_K_execute_33 : decode c_K_execute 33 = .ok (.iastore, 1) := by decide +kernel
theorem d_K_execute_34 : decode c_K_execute 34 = .ok (.aload_n 0, 1) := by decide +kernel
theorem d_K_execute_35 : decode c_K_execute 35 = .ok (.aload_n 0, 1) := by decide +kernel
theorem d_K_execute_36 : decode c_K_execute 36 = .ok (.getfield 56, 3) := by decide +kernel
theorem d_K_execute_39 : decode c_K_execute 39 = .ok (.aload_n 1, 1) := by decide +kernel
theorem d_K_execute_40 : decode c_K_execute 40 = .ok (.getfield 59, 3) := by decide +kernel
theorem d_K_execute_43 : decode c_K_execute 43 = .ok (.invokestatic 60, 3) := by decide +kernel
theorem d_K_execute_46 : decode c_K_execute 46 = .ok (.putfield 56, 3) := by decide +kernel
theorem d_K_execute_49 : decode c_K_execute 49 = .ok (.aload_n 1, 1) := by decide +kernel
theorem d_K_execute_50 : decode c_K_execute 50 = .ok (.getfield 59, 3) := by decide +kernel
theorem d_K_execute_53 : decode c_K_execute 53 = .ok (.aload_n 0, 1) := by decide +kernel
theorem d_K_execute_54 : decode c_K_execute 54 = .ok (.getfield 22, 3) := by decide +kernel
theorem d_K_execute_57 : decode c_K_execute 57 = .ok (.if_icmp .eq 13, 3) := by decide +kernel
theorem d_K_execute_60 : decode c_K_execute 60 = .ok (.aload_n 0, 1) := by decide +kernel
theorem d_K_execute_61 : decode c_K_execute 61 = .ok (.dup, 1) := by decide +kernel
theorem d_K_execute_62 : decode c_K_execute 62 = .ok (.getfield 66, 3) := by decide +kernel
theorem d_K_execute_65 : decode c_K_execute 65 = .ok (.iconst 1, 1) := by decide +kernel
theorem d_K_execute_66 : decode c_K_execute 66 = .ok (.iadd, 1) := by decide +kernel
theorem d_K_execute_67 : decode c_K_execute 67 = .ok (.putfield 66, 3) := by decide +kernel
theorem d_K_execute_70 : decode c_K_execute 70 = .ok (.return_, 1) := by decide +kernel
abbrev c_K_visibleCount : ByteArray := prog_2_method_4_code
def y_K_visibleCount : MethodName := ⟨R_K, "visibleCount", "()I"⟩
def w_K_visibleCount : List Cond := .code y_K_visibleCount c_K_visibleCount 3 (some .int) :: gT
theorem k_K_visibleCount : Cond.code y_K_visibleCount c_K_visibleCount 3 (some .int) ∈ gT := gT_t (i := 113) (by decide +kernel) rfl
theorem hd_K_visibleCount : y_K_visibleCount.cls = R_K ∧ y_K_visibleCount.cls ≠ "java/lang/invoke/MethodHandle" ∧ y_K_visibleCount.cls ≠ "java/lang/invoke/VarHandle" ∧ (parseMethodDescriptor y_K_visibleCount.desc).map (fun d => d.parameters.length) = some 0 := by decide +kernel
theorem d_K_visibleCount_0 : decode c_K_visibleCount 0 = .ok (.iconst 0, 1) := by decide +kernel
theorem d_K_visibleCount_1 : decode c_K_visibleCount 1 = .ok (.istore_n 1, 1) := by decide +kernel
theorem d_K_visibleCount_2 : decode c_K_visibleCount 2 = .ok (.iconst 0, 1) := by decide +kernel
theorem d_K_visibleCount_3 : decode c_K_visibleCount 3 = .ok (.istore_n 2, 1) := by decide +kernel
theorem d_K_visibleCount_4 : decode c_K_visibleCount 4 = .ok (.iload_n 2, 1) := by decide +kernel
theorem d_K_visibleCount_5 : decode c_K_visibleCount 5 = .ok (.aload_n 0, 1) := by decide +kernel
theorem d_K_visibleCount_6 : decode c_K_visibleCount 6 = .ok (.getfield 69, 3) := by decide +kernel
theorem d_K_visibleCount_9 : decode c_K_visibleCount 9 = .ok (.if_icmp .ge 21, 3) := by decide +kernel
theorem d_K_visibleCount_12 : decode c_K_visibleCount 12 = .ok (.aload_n 0, 1) := by decide +kernel
theorem d_K_visibleCount_13 : decode c_K_visibleCount 13 = .ok (.getfield 9, 3) := by decide +kernel
theorem d_K_visibleCount_16 : decode c_K_visibleCount 16 = .ok (.iload_n 2, 1) := by decide +kernel
theorem d_K_visibleCount_17 : decode c_K_visibleCount 17 = .ok (.iaload, 1) := by decide +kernel
theorem d_K_visibleCount_18 : decode c_K_visibleCount 18 = .ok (.ifCond .le 6, 3) := by decide +kernel
theorem d_K_visibleCount_21 : decode c_K_visibleCount 21 = .ok (.iinc 1 1, 3) := by decide +kernel
theorem d_K_visibleCount_24 : decode c_K_visibleCount 24 = .ok (.iinc 2 1, 3) := by decide +kernel
theorem d_K_visibleCount_27 : decode c_K_visibleCount 27 = .ok (.goto (-23), 3) := by decide +kernel
theorem d_K_visibleCount_30 : decode c_K_visibleCount 30 = .ok (.iload_n 1, 1) := by decide +kernel
theorem d_K_visibleCount_31 : decode c_K_visibleCount 31 = .ok (.ireturn, 1) := by decide +kernel
abbrev c_K_cellOfVisible : ByteArray := prog_2_method_5_code
def y_K_cellOfVisible : MethodName := ⟨R_K, "cellOfVisible", "(I)I"⟩
def w_K_cellOfVisible : List Cond := .code y_K_cellOfVisible c_K_cellOfVisible 4 (some .int) :: gT
theorem k_K_cellOfVisible : Cond.code y_K_cellOfVisible c_K_cellOfVisible 4 (some .int) ∈ gT := gT_t (i := 117) (by decide +kernel) rfl
theorem hd_K_cellOfVisible : y_K_cellOfVisible.cls = R_K ∧ y_K_cellOfVisible.cls ≠ "java/lang/invoke/MethodHandle" ∧ y_K_cellOfVisible.cls ≠ "java/lang/invoke/VarHandle" ∧ (parseMethodDescriptor y_K_cellOfVisible.desc).map (fun d => d.parameters.length) = some 1 := by decide +kernel
theorem d_K_cellOfVisible_0 : decode c_K_cellOfVisible 0 = .ok (.iconst 0, 1) := by decide +kernel
theorem d_K_cellOfVisible_1 : decode c_K_cellOfVisible 1 = .ok (.istore_n 2, 1) := by decide +kernel
theorem d_K_cellOfVisible_2 : decode c_K_cellOfVisible 2 = .ok (.iconst 0, 1) := by decide +kernel
theorem d_K_cellOfVisible_3 : decode c_K_cellOfVisible 3 = .ok (.istore_n 3, 1) := by decide +kernel
theorem d_K_cellOfVisible_4 : decode c_K_cellOfVisible 4 = .ok (.iload_n 3, 1) := by decide +kernel
theorem d_K_cellOfVisible_5 : decode c_K_cellOfVisible 5 = .ok (.aload_n 0, 1) := by decide +kernel
theorem d_K_cellOfVisible_6 : decode c_K_cellOfVisible 6 = .ok (.getfield 69, 3) := by decide +kernel
theorem d_K_cellOfVisible_9 : decode c_K_cellOfVisible 9 = .ok (.if_icmp .ge 28, 3) := by decide +kernel
theorem d_K_cellOfVisible_12 : decode c_K_cellOfVisible 12 = .ok (.aload_n 0, 1) := by decide +kernel
theorem d_K_cellOfVisible_13 : decode c_K_cellOfVisible 13 = .ok (.getfield 9, 3) := by decide +kernel
theorem d_K_cellOfVisible_16 : decode c_K_cellOfVisible 16 = .ok (.iload_n 3, 1) := by decide +kernel
theorem d_K_cellOfVisible_17 : decode c_K_cellOfVisible 17 = .ok (.iaload, 1) := by decide +kernel
theorem d_K_cellOfVisible_18 : decode c_K_cellOfVisible 18 = .ok (.ifCond .le 13, 3) := by decide +kernel
theorem d_K_cellOfVisible_21 : decode c_K_cellOfVisible 21 = .ok (.iload_n 2, 1) := by decide +kernel
theorem d_K_cellOfVisible_22 : decode c_K_cellOfVisible 22 = .ok (.iload_n 1, 1) := by decide +kernel
theorem d_K_cellOfVisible_23 : decode c_K_cellOfVisible 23 = .ok (.if_icmp .ne 5, 3) := by decide +kernel
theorem d_K_cellOfVisible_26 : decode c_K_cellOfVisible 26 = .ok (.iload_n 3, 1) := by decide +kernel
theorem d_K_cellOfVisible_27 : decode c_K_cellOfVisible 27 = .ok (.ireturn, 1) := by decide +kernel
theorem d_K_cellOfVisible_28 : decode c_K_cellOfVisible 28 = .ok (.iinc 2 1, 3) := by decide +kernel
theorem d_K_cellOfVisible_31 : decode c_K_cellOfVisible 31 = .ok (.iinc 3 1, 3) := by decide +kernel
theorem d_K_cellOfVisible_34 : decode c_K_cellOfVisible 34 = .ok (.goto (-30), 3) := by decide +kernel
theorem d_K_cellOfVisible_37 : decode c_K_cellOfVisible 37 = .ok (.iconst (-1), 1) := by decide +kernel
theorem d_K_cellOfVisible_38 : decode c_K_cellOfVisible 38 = .ok (.ireturn, 1) := by decide +kernel
abbrev c_K_positionForInsert : ByteArray := prog_2_method_6_code
def y_K_positionForInsert : MethodName := ⟨R_K, "positionForInsert", "(I)I"⟩
def w_K_positionForInsert : List Cond := .code y_K_positionForInsert c_K_positionForInsert 2 (some .int) :: gT
theorem k_K_positionForInsert : Cond.code y_K_positionForInsert c_K_positionForInsert 2 (some .int) ∈ gT := gT_t (i := 109) (by decide +kernel) rfl
theorem hd_K_positionForInsert : y_K_positionForInsert.cls = R_K ∧ y_K_positionForInsert.cls ≠ "java/lang/invoke/MethodHandle" ∧ y_K_positionForInsert.cls ≠ "java/lang/invoke/VarHandle" ∧ (parseMethodDescriptor y_K_positionForInsert.desc).map (fun d => d.parameters.length) = some 1 := by decide +kernel
theorem d_K_positionForInsert_0 : decode c_K_positionForInsert 0 = .ok (.iload_n 1, 1) := by decide +kernel
theorem d_K_positionForInsert_1 : decode c_K_positionForInsert 1 = .ok (.aload_n 0, 1) := by decide +kernel
theorem d_K_positionForInsert_2 : decode c_K_positionForInsert 2 = .ok (.invokevirtual 72, 3) := by decide +kernel
theorem d_K_positionForInsert_5 : decode c_K_positionForInsert 5 = .ok (.if_icmp .ne 10, 3) := by decide +kernel
theorem d_K_positionForInsert_8 : decode c_K_positionForInsert 8 = .ok (.aload_n 0, 1) := by decide +kernel
theorem d_K_positionForInsert_9 : decode c_K_positionForInsert 9 = .ok (.getfield 69, 3) := by decide +kernel
theorem d_K_positionForInsert_12 : decode c_K_positionForInsert 12 = .ok (.goto 8, 3) := by decide +kernel
theorem d_K_positionForInsert_15 : decode c_K_positionForInsert 15 = .ok (.aload_n 0, 1) := by decide +kernel
theorem d_K_positionForInsert_16 : decode c_K_positionForInsert 16 = .ok (.iload_n 1, 1) := by decide +kernel
theorem d_K_positionForInsert_17 : decode c_K_positionForInsert 17 = .ok (.invokevirtual 75, 3) := by decide +kernel
theorem d_K_positionForInsert_20 : decode c_K_positionForInsert 20 = .ok (.ireturn, 1) := by decide +kernel
abbrev c_K_putCell : ByteArray := prog_2_method_7_code
def y_K_putCell : MethodName := ⟨R_K, "putCell", "(II)V"⟩
def w_K_putCell : List Cond := .code y_K_putCell c_K_putCell 4 (none) :: gT
theorem k_K_putCell : Cond.code y_K_putCell c_K_putCell 4 (none) ∈ gT := gT_t (i := 174) (by decide +kernel) rfl
theorem hd_K_putCell : y_K_putCell.cls = R_K ∧ y_K_putCell.cls ≠ "java/lang/invoke/MethodHandle" ∧ y_K_putCell.cls ≠ "java/lang/invoke/VarHandle" ∧ (parseMethodDescriptor y_K_putCell.desc).map (fun d => d.parameters.length) = some 2 := by decide +kernel
theorem d_K_putCell_0 : decode c_K_putCell 0 = .ok (.iload_n 1, 1) := by decide +kernel
theorem d_K_putCell_1 : decode c_K_putCell 1 = .ok (.ifCond .lt 23, 3) := by decide +kernel
theorem d_K_putCell_4 : decode c_K_putCell 4 = .ok (.iload_n 1, 1) := by decide +kernel
theorem d_K_putCell_5 : decode c_K_putCell 5 = .ok (.aload_n 0, 1) := by decide +kernel
theorem d_K_putCell_6 : decode c_K_putCell 6 = .ok (.getfield 69, 3) := by decide +kernel
theorem d_K_putCell_9 : decode c_K_putCell 9 = .ok (.if_icmp .gt 15, 3) := by decide +kernel
theorem d_K_putCell_12 : decode c_K_putCell 12 = .ok (.aload_n 0, 1) := by decide +kernel
theorem d_K_putCell_13 : decode c_K_putCell 13 = .ok (.getfield 69, 3) := by decide +kernel
theorem d_K_putCell_16 : decode c_K_putCell 16 = .ok (.aload_n 0, 1) := by decide +kernel
theorem d_K_putCell_17 : decode c_K_putCell 17 = .ok (.getfield 9, 3) := by decide +kernel
theorem d_K_putCell_20 : decode c_K_putCell 20 = .ok (.arraylength, 1) := by decide +kernel
theorem d_K_putCell_21 : decode c_K_putCell 21 = .ok (.if_icmp .lt 4, 3) := by decide +kernel
theorem d_K_putCell_24 : decode c_K_putCell 24 = .ok (.return_, 1) := by decide +kernel
theorem d_K_putCell_25 : decode c_K_putCell 25 = .ok (.aload_n 0, 1) := by decide +kernel
theorem d_K_putCell_26 : decode c_K_putCell 26 = .ok (.getfield 69, 3) := by decide +kernel
theorem d_K_putCell_29 : decode c_K_putCell 29 = .ok (.istore_n 3, 1) := by decide +kernel
theorem d_K_putCell_30 : decode c_K_putCell 30 = .ok (.iload_n 3, 1) := by decide +kernel
theorem d_K_putCell_31 : decode c_K_putCell 31 = .ok (.iload_n 1, 1) := by decide +kernel
theorem d_K_putCell_32 : decode c_K_putCell 32 = .ok (.if_icmp .le 23, 3) := by decide +kernel
theorem d_K_putCell_35 : decode c_K_putCell 35 = .ok (.aload_n 0, 1) := by decide +kernel
theorem d_K_putCell_36 : decode c_K_putCell 36 = .ok (.getfield 9, 3) := by decide +kernel
theorem d_K_putCell_39 : decode c_K_putCell 39 = .ok (.iload_n 3, 1) := by decide +kernel
theorem d_K_putCell_40 : decode c_K_putCell 40 = .ok (.aload_n 0, 1) := by decide +kernel
theorem d_K_putCell_41 : decode c_K_putCell 41 = .ok (.getfield 9, 3) := by decide +kernel
theorem d_K_putCell_44 : decode c_K_putCell 44 = .ok (.iload_n 3, 1) := by decide +kernel
theorem d_K_putCell_45 : decode c_K_putCell 45 = .ok (.iconst 1, 1) := by decide +kernel
theorem d_K_putCell_46 : decode c_K_putCell 46 = .ok (.isub, 1) := by decide +kernel
theorem d_K_putCell_47 : decode c_K_putCell 47 = .ok (.iaload, 1) := by decide +kernel
theorem d_K_putCell_48 : decode c_K_putCell 48 = .ok (.iastore, 1) := by decide +kernel
theorem d_K_putCell_49 : decode c_K_putCell 49 = .ok (.iinc 3 (-1), 3) := by decide +kernel
theorem d_K_putCell_52 : decode c_K_putCell 52 = .ok (.goto (-22), 3) := by decide +kernel
theorem d_K_putCell_55 : decode c_K_putCell 55 = .ok (.aload_n 0, 1) := by decide +kernel
theorem d_K_putCell_56 : decode c_K_putCell 56 = .ok (.getfield 9, 3) := by decide +kernel
theorem d_K_putCell_59 : decode c_K_putCell 59 = .ok (.iload_n 1, 1) := by decide +kernel
theorem d_K_putCell_60 : decode c_K_putCell 60 = .ok (.iload_n 2, 1) := by decide +kernel
theorem d_K_putCell_61 : decode c_K_putCell 61 = .ok (.iastore, 1) := by decide +kernel
theorem d_K_putCell_62 : decode c_K_putCell 62 = .ok (.aload_n 0, 1) := by decide +kernel
theorem d_K_putCell_63 : decode c_K_putCell 63 = .ok (.dup, 1) := by decide +kernel
theorem d_K_putCell_64 : decode c_K_putCell 64 = .ok (.getfield 69, 3) := by decide +kernel
theorem d_K_putCell_67 : decode c_K_putCell 67 = .ok (.iconst 1, 1) := by decide +kernel
theorem d_K_putCell_68 : decode c_K_putCell 68 = .ok (.iadd, 1) := by decide +kernel
theorem d_K_putCell_69 : decode c_K_putCell 69 = .ok (.putfield 69, 3) := by decide +kernel
theorem d_K_putCell_72 : decode c_K_putCell 72 = .ok (.return_, 1) := by decide +kernel
abbrev c_K_hideCell : ByteArray := prog_2_method_8_code
def y_K_hideCell : MethodName := ⟨R_K, "hideCell", "(I)V"⟩
def w_K_hideCell : List Cond := .code y_K_hideCell c_K_hideCell 2 (none) :: gT
theorem k_K_hideCell : Cond.code y_K_hideCell c_K_hideCell 2 (none) ∈ gT := gT_t (i := 178) (by decide +kernel) rfl
theorem hd_K_hideCell : y_K_hideCell.cls = R_K ∧ y_K_hideCell.cls ≠ "java/lang/invoke/MethodHandle" ∧ y_K_hideCell.cls ≠ "java/lang/invoke/VarHandle" ∧ (parseMethodDescriptor y_K_hideCell.desc).map (fun d => d.parameters.length) = some 1 := by decide +kernel
theorem d_K_hideCell_0 : decode c_K_hideCell 0 = .ok (.iload_n 1, 1) := by decide +kernel
theorem d_K_hideCell_1 : decode c_K_hideCell 1 = .ok (.ifCond .lt 33, 3) := by decide +kernel
theorem d_K_hideCell_4 : decode c_K_hideCell 4 = .ok (.iload_n 1, 1) := by decide +kernel
theorem d_K_hideCell_5 : decode c_K_hideCell 5 = .ok (.aload_n 0, 1) := by decide +kernel
theorem d_K_hideCell_6 : decode c_K_hideCell 6 = .ok (.getfield 69, 3) := by decide +kernel
theorem d_K_hideCell_9 : decode c_K_hideCell 9 = .ok (.if_icmp .ge 25, 3) := by decide +kernel
theorem d_K_hideCell_12 : decode c_K_hideCell 12 = .ok (.aload_n 0, 1) := by decide +kernel
theorem d_K_hideCell_13 : decode c_K_hideCell 13 = .ok (.getfield 9, 3) := by decide +kernel
theorem d_K_hideCell_16 : decode c_K_hideCell 16 = .ok (.iload_n 1, 1) := by decide +kernel
theorem d_K_hideCell_17 : decode c_K_hideCell 17 = .ok (.iaload, 1) := by decide +kernel
theorem d_K_hideCell_18 : decode c_K_hideCell 18 = .ok (.ifCond .le 16, 3) := by decide +kernel
theorem d_K_hideCell_21 : decode c_K_hideCell 21 = .ok (.aload_n 0, 1) := by decide +kernel
theorem d_K_hideCell_22 : decode c_K_hideCell 22 = .ok (.getfield 9, 3) := by decide +kernel
theorem d_K_hideCell_25 : decode c_K_hideCell 25 = .ok (.iload_n 1, 1) := by decide +kernel
theorem d_K_hideCell_26 : decode c_K_hideCell 26 = .ok (.aload_n 0, 1) := by decide +kernel
theorem d_K_hideCell_27 : decode c_K_hideCell 27 = .ok (.getfield 9, 3) := by decide +kernel
theorem d_K_hideCell_30 : decode c_K_hideCell 30 = .ok (.iload_n 1, 1) := by decide +kernel
theorem d_K_hideCell_31 : decode c_K_hideCell 31 = .ok (.iaload, 1) := by decide +kernel
theorem d_K_hideCell_32 : decode c_K_hideCell 32 = .ok (.ineg, 1) := by decide +kernel
theorem d_K_hideCell_33 : decode c_K_hideCell 33 = .ok (.iastore, 1) := by decide +kernel
theorem d_K_hideCell_34 : decode c_K_hideCell 34 = .ok (.return_, 1) := by decide +kernel
abbrev c_H_init : ByteArray := prog_3_method_1_code
def y_H_init : MethodName := ⟨R_H, "<init>", "(I)V"⟩
def w_H_init : List Cond := .code y_H_init c_H_init 2 (none) :: gT
theorem k_H_init : Cond.code y_H_init c_H_init 2 (none) ∈ gT := gT_t (i := 21) (by decide +kernel) rfl
theorem hd_H_init : y_H_init.cls = R_H ∧ y_H_init.cls ≠ "java/lang/invoke/MethodHandle" ∧ y_H_init.cls ≠ "java/lang/invoke/VarHandle" ∧ (parseMethodDescriptor y_H_init.desc).map (fun d => d.parameters.length) = some 1 := by decide +kernel
theorem d_H_init_0 : decode c_H_init 0 = .ok (.aload_n 0, 1) := by decide +kernel
theorem d_H_init_1 : decode c_H_init 1 = .ok (.invokespecial 3, 3) := by decide +kernel
theorem d_H_init_4 : decode c_H_init 4 = .ok (.aload_n 0, 1) := by decide +kernel
theorem d_H_init_5 : decode c_H_init 5 = .ok (.iload_n 1, 1) := by decide +kernel
theorem d_H_init_6 : decode c_H_init 6 = .ok (.putfield 9, 3) := by decide +kernel
theorem d_H_init_9 : decode c_H_init 9 = .ok (.aload_n 0, 1) := by decide +kernel
theorem d_H_init_10 : decode c_H_init 10 = .ok (.iload_n 1, 1) := by decide +kernel
theorem d_H_init_11 : decode c_H_init 11 = .ok (.bipush 6, 2) := by decide +kernel
theorem d_H_init_13 : decode c_H_init 13 = .ok (.imul, 1) := by decide +kernel
theorem d_H_init_14 : decode c_H_init 14 = .ok (.anewarray 15, 3) := by decide +kernel
theorem d_H_init_17 : decode c_H_init 17 = .ok (.putfield 17, 3) := by decide +kernel
theorem d_H_init_20 : decode c_H_init 20 = .ok (.aload_n 0, 1) := by decide +kernel
theorem d_H_init_21 : decode c_H_init 21 = .ok (.iload_n 1, 1) := by decide +kernel
theorem d_H_init_22 : decode c_H_init 22 = .ok (.iload_n 1, 1) := by decide +kernel
theorem d_H_init_23 : decode c_H_init 23 = .ok (.invokestatic 21, 3) := by decide +kernel
theorem d_H_init_26 : decode c_H_init 26 = .ok (.imul, 1) := by decide +kernel
theorem d_H_init_27 : decode c_H_init 27 = .ok (.newarray .int, 2) := by decide +kernel
theorem d_H_init_29 : decode c_H_init 29 = .ok (.putfield 27, 3) := by decide +kernel
theorem d_H_init_32 : decode c_H_init 32 = .ok (.aload_n 0, 1) := by decide +kernel
theorem d_H_init_33 : decode c_H_init 33 = .ok (.getfield 27, 3) := by decide +kernel
theorem d_H_init_36 : decode c_H_init 36 = .ok (.iconst (-1), 1) := by decide +kernel
theorem d_H_init_37 : decode c_H_init 37 = .ok (.invokestatic 31, 3) := by decide +kernel
theorem d_H_init_40 : decode c_H_init 40 = .ok (.return_, 1) := by decide +kernel
abbrev c_H_add : ByteArray := prog_3_method_2_code
def y_H_add : MethodName := ⟨R_H, "add", "(LTombstoneSites$Operation;)V"⟩
def w_H_add : List Cond := .code y_H_add c_H_add 2 (none) :: gT
theorem k_H_add : Cond.code y_H_add c_H_add 2 (none) ∈ gT := gT_t (i := 158) (by decide +kernel) rfl
theorem hd_H_add : y_H_add.cls = R_H ∧ y_H_add.cls ≠ "java/lang/invoke/MethodHandle" ∧ y_H_add.cls ≠ "java/lang/invoke/VarHandle" ∧ (parseMethodDescriptor y_H_add.desc).map (fun d => d.parameters.length) = some 1 := by decide +kernel
theorem d_H_add_0 : decode c_H_add 0 = .ok (.aload_n 0, 1) := by decide +kernel
theorem d_H_add_1 : decode c_H_add 1 = .ok (.getfield 17, 3) := by decide +kernel
theorem d_H_add_4 : decode c_H_add 4 = .ok (.aload_n 1, 1) := by decide +kernel
theorem d_H_add_5 : decode c_H_add 5 = .ok (.invokevirtual 37, 3) := by decide +kernel
theorem d_H_add_8 : decode c_H_add 8 = .ok (.aload_n 1, 1) := by decide +kernel
theorem d_H_add_9 : decode c_H_add 9 = .ok (.aastore, 1) := by decide +kernel
theorem d_H_add_10 : decode c_H_add 10 = .ok (.return_, 1) := by decide +kernel
abbrev c_H_find : ByteArray := prog_3_method_3_code
def y_H_find : MethodName := ⟨R_H, "find", "(II)LTombstoneSites$Operation;"⟩
def w_H_find : List Cond := .code y_H_find c_H_find 3 (some (.object "TombstoneSites$Operation")) :: gT
theorem k_H_find : Cond.code y_H_find c_H_find 3 (some (.object "TombstoneSites$Operation")) ∈ gT := gT_t (i := 195) (by decide +kernel) rfl
theorem hd_H_find : y_H_find.cls = R_H ∧ y_H_find.cls ≠ "java/lang/invoke/MethodHandle" ∧ y_H_find.cls ≠ "java/lang/invoke/VarHandle" ∧ (parseMethodDescriptor y_H_find.desc).map (fun d => d.parameters.length) = some 2 := by decide +kernel
theorem d_H_find_0 : decode c_H_find 0 = .ok (.iload_n 1, 1) := by decide +kernel
theorem d_H_find_1 : decode c_H_find 1 = .ok (.ifCond .lt 21, 3) := by decide +kernel
theorem d_H_find_4 : decode c_H_find 4 = .ok (.iload_n 1, 1) := by decide +kernel
theorem d_H_find_5 : decode c_H_find 5 = .ok (.aload_n 0, 1) := by decide +kernel
theorem d_H_find_6 : decode c_H_find 6 = .ok (.getfield 9, 3) := by decide +kernel
theorem d_H_find_9 : decode c_H_find 9 = .ok (.if_icmp .ge 13, 3) := by decide +kernel
theorem d_H_find_12 : decode c_H_find 12 = .ok (.iload_n 2, 1) := by decide +kernel
theorem d_H_find_13 : decode c_H_find 13 = .ok (.ifCond .lt 9, 3) := by decide +kernel
theorem d_H_find_16 : decode c_H_find 16 = .ok (.iload_n 2, 1) := by decide +kernel
theorem d_H_find_17 : decode c_H_find 17 = .ok (.bipush 6, 2) := by decide +kernel
theorem d_H_find_19 : decode c_H_find 19 = .ok (.if_icmp .lt 5, 3) := by decide +kernel
theorem d_H_find_22 : decode c_H_find 22 = .ok (.aconst_null, 1) := by decide +kernel
theorem d_H_find_23 : decode c_H_find 23 = .ok (.areturn, 1) := by decide +kernel
theorem d_H_find_24 : decode c_H_find 24 = .ok (.aload_n 0, 1) := by decide +kernel
theorem d_H_find_25 : decode c_H_find 25 = .ok (.getfield 17, 3) := by decide +kernel
theorem d_H_find_28 : decode c_H_find 28 = .ok (.iload_n 1, 1) := by decide +kernel
theorem d_H_find_29 : decode c_H_find 29 = .ok (.bipush 6, 2) := by decide +kernel
theorem d_H_find_31 : decode c_H_find 31 = .ok (.imul, 1) := by decide +kernel
theorem d_H_find_32 : decode c_H_find 32 = .ok (.iload_n 2, 1) := by decide +kernel
theorem d_H_find_33 : decode c_H_find 33 = .ok (.iadd, 1) := by decide +kernel
theorem d_H_find_34 : decode c_H_find 34 = .ok (.aaload, 1) := by decide +kernel
theorem d_H_find_35 : decode c_H_find 35 = .ok (.areturn, 1) := by decide +kernel
abbrev c_H_findByCode : ByteArray := prog_3_method_4_code
def y_H_findByCode : MethodName := ⟨R_H, "findByCode", "(J)LTombstoneSites$Operation;"⟩
def w_H_findByCode : List Cond := .code y_H_findByCode c_H_findByCode 4 (some (.object "TombstoneSites$Operation")) :: gT
theorem k_H_findByCode : Cond.code y_H_findByCode c_H_findByCode 4 (some (.object "TombstoneSites$Operation")) ∈ gT := gT_t (i := 250) (by decide +kernel) rfl
theorem hd_H_findByCode : y_H_findByCode.cls = R_H ∧ y_H_findByCode.cls ≠ "java/lang/invoke/MethodHandle" ∧ y_H_findByCode.cls ≠ "java/lang/invoke/VarHandle" ∧ (parseMethodDescriptor y_H_findByCode.desc).map (fun d => d.parameters.length) = some 1 := by decide +kernel
theorem d_H_findByCode_0 : decode c_H_findByCode 0 = .ok (.aload_n 0, 1) := by decide +kernel
theorem d_H_findByCode_1 : decode c_H_findByCode 1 = .ok (.lload_n 1, 1) := by decide +kernel
theorem d_H_findByCode_2 : decode c_H_findByCode 2 = .ok (.ldc2_w 41, 3) := by decide +kernel
theorem d_H_findByCode_5 : decode c_H_findByCode 5 = .ok (.land, 1) := by decide +kernel
theorem d_H_findByCode_6 : decode c_H_findByCode 6 = .ok (.l2i, 1) := by decide +kernel
theorem d_H_findByCode_7 : decode c_H_findByCode 7 = .ok (.lload_n 1, 1) := by decide +kernel
theorem d_H_findByCode_8 : decode c_H_findByCode 8 = .ok (.iconst 2, 1) := by decide +kernel
theorem d_H_findByCode_9 : decode c_H_findByCode 9 = .ok (.lshr, 1) := by decide +kernel
theorem d_H_findByCode_10 : decode c_H_findByCode 10 = .ok (.ldc2_w 43, 3) := by decide +kernel
theorem d_H_findByCode_13 : decode c_H_findByCode 13 = .ok (.land, 1) := by decide +kernel
theorem d_H_findByCode_14 : decode c_H_findByCode 14 = .ok (.l2i, 1) := by decide +kernel
theorem d_H_findByCode_15 : decode c_H_findByCode 15 = .ok (.invokevirtual 45, 3) := by decide +kernel
theorem d_H_findByCode_18 : decode c_H_findByCode 18 = .ok (.astore_n 3, 1) := by decide +kernel
theorem d_H_findByCode_19 : decode c_H_findByCode 19 = .ok (.aload_n 3, 1) := by decide +kernel
theorem d_H_findByCode_20 : decode c_H_findByCode 20 = .ok (.ifnull 16, 3) := by decide +kernel
theorem d_H_findByCode_23 : decode c_H_findByCode 23 = .ok (.aload_n 3, 1) := by decide +kernel
theorem d_H_findByCode_24 : decode c_H_findByCode 24 = .ok (.invokevirtual 49, 3) := by decide +kernel
theorem d_H_findByCode_27 : decode c_H_findByCode 27 = .ok (.lload_n 1, 1) := by decide +kernel
theorem d_H_findByCode_28 : decode c_H_findByCode 28 = .ok (.lcmp, 1) := by decide +kernel
theorem d_H_findByCode_29 : decode c_H_findByCode 29 = .ok (.ifCond .ne 7, 3) := by decide +kernel
theorem d_H_findByCode_32 : decode c_H_findByCode 32 = .ok (.aload_n 3, 1) := by decide +kernel
theorem d_H_findByCode_33 : decode c_H_findByCode 33 = .ok (.goto 4, 3) := by decide +kernel
theorem d_H_findByCode_36 : decode c_H_findByCode 36 = .ok (.aconst_null, 1) := by decide +kernel
theorem d_H_findByCode_37 : decode c_H_findByCode 37 = .ok (.areturn, 1) := by decide +kernel
abbrev c_H_last : ByteArray := prog_3_method_5_code
def y_H_last : MethodName := ⟨R_H, "last", "(II)LTombstoneSites$Operation;"⟩
def w_H_last : List Cond := .code y_H_last c_H_last 3 (some (.object "TombstoneSites$Operation")) :: gT
theorem k_H_last : Cond.code y_H_last c_H_last 3 (some (.object "TombstoneSites$Operation")) ∈ gT := gT_t (i := 224) (by decide +kernel) rfl
theorem hd_H_last : y_H_last.cls = R_H ∧ y_H_last.cls ≠ "java/lang/invoke/MethodHandle" ∧ y_H_last.cls ≠ "java/lang/invoke/VarHandle" ∧ (parseMethodDescriptor y_H_last.desc).map (fun d => d.parameters.length) = some 2 := by decide +kernel
theorem d_H_last_0 : decode c_H_last 0 = .ok (.aload_n 0, 1) := by decide +kernel
theorem d_H_last_1 : decode c_H_last 1 = .ok (.iload_n 2, 1) := by decide +kernel
theorem d_H_last_2 : decode c_H_last 2 = .ok (.iload_n 1, 1) := by decide +kernel
theorem d_H_last_3 : decode c_H_last 3 = .ok (.iload_n 2, 1) := by decide +kernel
theorem d_H_last_4 : decode c_H_last 4 = .ok (.invokestatic 53, 3) := by decide +kernel
theorem d_H_last_7 : decode c_H_last 7 = .ok (.iconst 1, 1) := by decide +kernel
theorem d_H_last_8 : decode c_H_last 8 = .ok (.isub, 1) := by decide +kernel
theorem d_H_last_9 : decode c_H_last 9 = .ok (.invokevirtual 45, 3) := by decide +kernel
theorem d_H_last_12 : decode c_H_last 12 = .ok (.areturn, 1) := by decide +kernel
abbrev c_H_placeFor : ByteArray := prog_3_method_6_code
def y_H_placeFor : MethodName := ⟨R_H, "placeFor", "(LTombstoneSites$Operation;II)I"⟩
def w_H_placeFor : List Cond := .code y_H_placeFor c_H_placeFor 9 (some .int) :: gT
theorem k_H_placeFor : Cond.code y_H_placeFor c_H_placeFor 9 (some .int) ∈ gT := gT_t (i := 216) (by decide +kernel) rfl
theorem hd_H_placeFor : y_H_placeFor.cls = R_H ∧ y_H_placeFor.cls ≠ "java/lang/invoke/MethodHandle" ∧ y_H_placeFor.cls ≠ "java/lang/invoke/VarHandle" ∧ (parseMethodDescriptor y_H_placeFor.desc).map (fun d => d.parameters.length) = some 3 := by decide +kernel
theorem d_H_placeFor_0 : decode c_H_placeFor 0 = .ok (.iload_n 2, 1) := by decide +kernel
theorem d_H_placeFor_1 : decode c_H_placeFor 1 = .ok (.aload_n 1, 1) := by decide +kernel
theorem d_H_placeFor_2 : decode c_H_placeFor 2 = .ok (.getfield 57, 3) := by decide +kernel
theorem d_H_placeFor_5 : decode c_H_placeFor 5 = .ok (.if_icmp .eq 7, 3) := by decide +kernel
theorem d_H_placeFor_8 : decode c_H_placeFor 8 = .ok (.iload_n 3, 1) := by decide +kernel
theorem d_H_placeFor_9 : decode c_H_placeFor 9 = .ok (.ifCond .gt 8, 3) := by decide +kernel
theorem d_H_placeFor_12 : decode c_H_placeFor 12 = .ok (.aload_n 1, 1) := by decide +kernel
theorem d_H_placeFor_13 : decode c_H_placeFor 13 = .ok (.getfield 60, 3) := by decide +kernel
theorem d_H_placeFor_16 : decode c_H_placeFor 16 = .ok (.ireturn, 1) := by decide +kernel
theorem d_H_placeFor_17 : decode c_H_placeFor 17 = .ok (.aload_n 1, 1) := by decide +kernel
theorem d_H_placeFor_18 : decode c_H_placeFor 18 = .ok (.getfield 63, 3) := by decide +kernel
theorem d_H_placeFor_21 : decode c_H_placeFor 21 = .ok (.aload_n 0, 1) := by decide +kernel
theorem d_H_placeFor_22 : decode c_H_placeFor 22 = .ok (.getfield 9, 3) := by decide +kernel
theorem d_H_placeFor_25 : decode c_H_placeFor 25 = .ok (.invokestatic 21, 3) := by decide +kernel
theorem d_H_placeFor_28 : decode c_H_placeFor 28 = .ok (.imul, 1) := by decide +kernel
theorem d_H_placeFor_29 : decode c_H_placeFor 29 = .ok (.iload_n 2, 1) := by decide +kernel
theorem d_H_placeFor_30 : decode c_H_placeFor 30 = .ok (.iadd, 1) := by decide +kernel
theorem d_H_placeFor_31 : decode c_H_placeFor 31 = .ok (.istore 4, 2) := by decide +kernel
theorem d_H_placeFor_33 : decode c_H_placeFor 33 = .ok (.aload_n 0, 1) := by decide +kernel
theorem d_H_placeFor_34 : decode c_H_placeFor 34 = .ok (.getfield 27, 3) := by decide +kernel
theorem d_H_placeFor_37 : decode c_H_placeFor 37 = .ok (.iload 4, 2) := by decide +kernel
theorem d_H_placeFor_39 : decode c_H_placeFor 39 = .ok (.iaload, 1) := by decide +kernel
theorem d_H_placeFor_40 : decode c_H_placeFor 40 = .ok (.iconst (-1), 1) := by decide +kernel
theorem d_H_placeFor_41 : decode c_H_placeFor 41 = .ok (.if_icmp .eq 11, 3) := by decide +kernel
theorem d_H_placeFor_44 : decode c_H_placeFor 44 = .ok (.aload_n 0, 1) := by decide +kernel
theorem d_H_placeFor_45 : decode c_H_placeFor 45 = .ok (.getfield 27, 3) := by decide +kernel
theorem d_H_placeFor_48 : decode c_H_placeFor 48 = .ok (.iload 4, 2) := by decide +kernel
theorem d_H_placeFor_50 : decode c_H_placeFor 50 = .ok (.iaload, 1) := by decide +kernel
theorem d_H_placeFor_51 : decode c_H_placeFor 51 = .ok (.ireturn, 1) := by decide +kernel
theorem d_H_placeFor_52 : decode c_H_placeFor 52 = .ok (.aload_n 0, 1) := by decide +kernel
theorem d_H_placeFor_53 : decode c_H_placeFor 53 = .ok (.aload_n 1, 1) := by decide +kernel
theorem d_H_placeFor_54 : decode c_H_placeFor 54 = .ok (.iload_n 2, 1) := by decide +kernel
theorem d_H_placeFor_55 : decode c_H_placeFor 55 = .ok (.invokevirtual 66, 3) := by decide +kernel
theorem d_H_placeFor_58 : decode c_H_placeFor 58 = .ok (.astore 5, 2) := by decide +kernel
theorem d_H_placeFor_60 : decode c_H_placeFor 60 = .ok (.aload 5, 2) := by decide +kernel
theorem d_H_placeFor_62 : decode c_H_placeFor 62 = .ok (.ifnonnull 8, 3) := by decide +kernel
theorem d_H_placeFor_65 : decode c_H_placeFor 65 = .ok (.aload_n 1, 1) := by decide +kernel
theorem d_H_placeFor_66 : decode c_H_placeFor 66 = .ok (.getfield 60, 3) := by decide +kernel
theorem d_H_placeFor_69 : decode c_H_placeFor 69 = .ok (.ireturn, 1) := by decide +kernel
theorem d_H_placeFor_70 : decode c_H_placeFor 70 = .ok (.iload_n 2, 1) := by decide +kernel
theorem d_H_placeFor_71 : decode c_H_placeFor 71 = .ok (.aload 5, 2) := by decide +kernel
theorem d_H_placeFor_73 : decode c_H_placeFor 73 = .ok (.getfield 63, 3) := by decide +kernel
theorem d_H_placeFor_76 : decode c_H_placeFor 76 = .ok (.invokestatic 70, 3) := by decide +kernel
theorem d_H_placeFor_79 : decode c_H_placeFor 79 = .ok (.istore 6, 2) := by decide +kernel
theorem d_H_placeFor_81 : decode c_H_placeFor 81 = .ok (.aload_n 0, 1) := by decide +kernel
theorem d_H_placeFor_82 : decode c_H_placeFor 82 = .ok (.aload_n 1, 1) := by decide +kernel
theorem d_H_placeFor_83 : decode c_H_placeFor 83 = .ok (.iload 6, 2) := by decide +kernel
theorem d_H_placeFor_85 : decode c_H_placeFor 85 = .ok (.iload_n 3, 1) := by decide +kernel
theorem d_H_placeFor_86 : decode c_H_placeFor 86 = .ok (.iconst 1, 1) := by decide +kernel
theorem d_H_placeFor_87 : decode c_H_placeFor 87 = .ok (.isub, 1) := by decide +kernel
theorem d_H_placeFor_88 : decode c_H_placeFor 88 = .ok (.invokevirtual 73, 3) := by decide +kernel
theorem d_H_placeFor_91 : decode c_H_placeFor 91 = .ok (.istore 7, 2) := by decide +kernel
theorem d_H_placeFor_93 : decode c_H_placeFor 93 = .ok (.aload_n 0, 1) := by decide +kernel
theorem d_H_placeFor_94 : decode c_H_placeFor 94 = .ok (.aload 5, 2) := by decide +kernel
theorem d_H_placeFor_96 : decode c_H_placeFor 96 = .ok (.iload 6, 2) := by decide +kernel
theorem d_H_placeFor_98 : decode c_H_placeFor 98 = .ok (.iload_n 3, 1) := by decide +kernel
theorem d_H_placeFor_99 : decode c_H_placeFor 99 = .ok (.iconst 1, 1) := by decide +kernel
theorem d_H_placeFor_100 : decode c_H_placeFor 100 = .ok (.isub, 1) := by decide +kernel
theorem d_H_placeFor_101 : decode c_H_placeFor 101 = .ok (.invokevirtual 73, 3) := by decide +kernel
theorem d_H_placeFor_104 : decode c_H_placeFor 104 = .ok (.istore 8, 2) := by decide +kernel
theorem d_H_placeFor_106 : decode c_H_placeFor 106 = .ok (.aload_n 0, 1) := by decide +kernel
theorem d_H_placeFor_107 : decode c_H_placeFor 107 = .ok (.getfield 27, 3) := by decide +kernel
theorem d_H_placeFor_110 : decode c_H_placeFor 110 = .ok (.iload 4, 2) := by decide +kernel
theorem d_H_placeFor_112 : decode c_H_placeFor 112 = .ok (.aload_n 1, 1) := by decide +kernel
theorem d_H_placeFor_113 : decode c_H_placeFor 113 = .ok (.iload 7, 2) := by decide +kernel
theorem d_H_placeFor_115 : decode c_H_placeFor 115 = .ok (.aload 5, 2) := by decide +kernel
theorem d_H_placeFor_117 : decode c_H_placeFor 117 = .ok (.iload 8, 2) := by decide +kernel
theorem d_H_placeFor_119 : decode c_H_placeFor 119 = .ok (.invokevirtual 77, 3) := by decide +kernel
theorem d_H_placeFor_122 : decode c_H_placeFor 122 = .ok (.iastore, 1) := by decide +kernel
theorem d_H_placeFor_123 : decode c_H_placeFor 123 = .ok (.aload_n 0, 1) := by decide +kernel
theorem d_H_placeFor_124 : decode c_H_placeFor 124 = .ok (.getfield 27, 3) := by decide +kernel
theorem d_H_placeFor_127 : decode c_H_placeFor 127 = .ok (.iload 4, 2) := by decide +kernel
theorem d_H_placeFor_129 : decode c_H_placeFor 129 = .ok (.iaload, 1) := by decide +kernel
theorem d_H_placeFor_130 : decode c_H_placeFor 130 = .ok (.ireturn, 1) := by decide +kernel
abbrev c_H_latestUnknownTo : ByteArray := prog_3_method_7_code
def y_H_latestUnknownTo : MethodName := ⟨R_H, "latestUnknownTo", "(LTombstoneSites$Operation;I)LTombstoneSites$Operation;"⟩
def w_H_latestUnknownTo : List Cond := .code y_H_latestUnknownTo c_H_latestUnknownTo 5 (some (.object "TombstoneSites$Operation")) :: gT
theorem k_H_latestUnknownTo : Cond.code y_H_latestUnknownTo c_H_latestUnknownTo 5 (some (.object "TombstoneSites$Operation")) ∈ gT := gT_t (i := 220) (by decide +kernel) rfl
theorem hd_H_latestUnknownTo : y_H_latestUnknownTo.cls = R_H ∧ y_H_latestUnknownTo.cls ≠ "java/lang/invoke/MethodHandle" ∧ y_H_latestUnknownTo.cls ≠ "java/lang/invoke/VarHandle" ∧ (parseMethodDescriptor y_H_latestUnknownTo.desc).map (fun d => d.parameters.length) = some 2 := by decide +kernel
theorem d_H_latestUnknownTo_0 : decode c_H_latestUnknownTo 0 = .ok (.iconst 0, 1) := by decide +kernel
theorem d_H_latestUnknownTo_1 : decode c_H_latestUnknownTo 1 = .ok (.istore_n 3, 1) := by decide +kernel
theorem d_H_latestUnknownTo_2 : decode c_H_latestUnknownTo 2 = .ok (.iload_n 3, 1) := by decide +kernel
theorem d_H_latestUnknownTo_3 : decode c_H_latestUnknownTo 3 = .ok (.aload_n 0, 1) := by decide +kernel
theorem d_H_latestUnknownTo_4 : decode c_H_latestUnknownTo 4 = .ok (.getfield 9, 3) := by decide +kernel
theorem d_H_latestUnknownTo_7 : decode c_H_latestUnknownTo 7 = .ok (.if_icmp .ge 47, 3) := by decide +kernel
theorem d_H_latestUnknownTo_10 : decode c_H_latestUnknownTo 10 = .ok (.aload_n 0, 1) := by decide +kernel
theorem d_H_latestUnknownTo_11 : decode c_H_latestUnknownTo 11 = .ok (.iload_n 2, 1) := by decide +kernel
theorem d_H_latestUnknownTo_12 : decode c_H_latestUnknownTo 12 = .ok (.iload_n 3, 1) := by decide +kernel
theorem d_H_latestUnknownTo_13 : decode c_H_latestUnknownTo 13 = .ok (.invokevirtual 81, 3) := by decide +kernel
theorem d_H_latestUnknownTo_16 : decode c_H_latestUnknownTo 16 = .ok (.astore 4, 2) := by decide +kernel
theorem d_H_latestUnknownTo_18 : decode c_H_latestUnknownTo 18 = .ok (.aload 4, 2) := by decide +kernel
theorem d_H_latestUnknownTo_20 : decode c_H_latestUnknownTo 20 = .ok (.ifnull 28, 3) := by decide +kernel
theorem d_H_latestUnknownTo_23 : decode c_H_latestUnknownTo 23 = .ok (.aload 4, 2) := by decide +kernel
theorem d_H_latestUnknownTo_25 : decode c_H_latestUnknownTo 25 = .ok (.aload_n 1, 1) := by decide +kernel
theorem d_H_latestUnknownTo_26 : decode c_H_latestUnknownTo 26 = .ok (.getfield 57, 3) := by decide +kernel
theorem d_H_latestUnknownTo_29 : decode c_H_latestUnknownTo 29 = .ok (.invokestatic 84, 3) := by decide +kernel
theorem d_H_latestUnknownTo_32 : decode c_H_latestUnknownTo 32 = .ok (.ifCond .ne 16, 3) := by decide +kernel
theorem d_H_latestUnknownTo_35 : decode c_H_latestUnknownTo 35 = .ok (.aload_n 0, 1) := by decide +kernel
theorem d_H_latestUnknownTo_36 : decode c_H_latestUnknownTo 36 = .ok (.aload 4, 2) := by decide +kernel
theorem d_H_latestUnknownTo_38 : decode c_H_latestUnknownTo 38 = .ok (.iload_n 2, 1) := by decide +kernel
theorem d_H_latestUnknownTo_39 : decode c_H_latestUnknownTo 39 = .ok (.invokevirtual 88, 3) := by decide +kernel
theorem d_H_latestUnknownTo_42 : decode c_H_latestUnknownTo 42 = .ok (.ifCond .ne 6, 3) := by decide +kernel
theorem d_H_latestUnknownTo_45 : decode c_H_latestUnknownTo 45 = .ok (.aload 4, 2) := by decide +kernel
theorem d_H_latestUnknownTo_47 : decode c_H_latestUnknownTo 47 = .ok (.areturn, 1) := by decide +kernel
theorem d_H_latestUnknownTo_48 : decode c_H_latestUnknownTo 48 = .ok (.iinc 3 1, 3) := by decide +kernel
theorem d_H_latestUnknownTo_51 : decode c_H_latestUnknownTo 51 = .ok (.goto (-49), 3) := by decide +kernel
theorem d_H_latestUnknownTo_54 : decode c_H_latestUnknownTo 54 = .ok (.aconst_null, 1) := by decide +kernel
theorem d_H_latestUnknownTo_55 : decode c_H_latestUnknownTo 55 = .ok (.areturn, 1) := by decide +kernel
abbrev c_H_isInContextOfAny : ByteArray := prog_3_method_8_code
def y_H_isInContextOfAny : MethodName := ⟨R_H, "isInContextOfAny", "(LTombstoneSites$Operation;I)Z"⟩
def w_H_isInContextOfAny : List Cond := .code y_H_isInContextOfAny c_H_isInContextOfAny 5 (some .boolean) :: gT
theorem k_H_isInContextOfAny : Cond.code y_H_isInContextOfAny c_H_isInContextOfAny 5 (some .boolean) ∈ gT := gT_t (i := 233) (by decide +kernel) rfl
theorem hd_H_isInContextOfAny : y_H_isInContextOfAny.cls = R_H ∧ y_H_isInContextOfAny.cls ≠ "java/lang/invoke/MethodHandle" ∧ y_H_isInContextOfAny.cls ≠ "java/lang/invoke/VarHandle" ∧ (parseMethodDescriptor y_H_isInContextOfAny.desc).map (fun d => d.parameters.length) = some 2 := by decide +kernel
theorem d_H_isInContextOfAny_0 : decode c_H_isInContextOfAny 0 = .ok (.iconst 0, 1) := by decide +kernel
theorem d_H_isInContextOfAny_1 : decode c_H_isInContextOfAny 1 = .ok (.istore_n 3, 1) := by decide +kernel
theorem d_H_isInContextOfAny_2 : decode c_H_isInContextOfAny 2 = .ok (.iload_n 3, 1) := by decide +kernel
theorem d_H_isInContextOfAny_3 : decode c_H_isInContextOfAny 3 = .ok (.aload_n 0, 1) := by decide +kernel
theorem d_H_isInContextOfAny_4 : decode c_H_isInContextOfAny 4 = .ok (.getfield 9, 3) := by decide +kernel
theorem d_H_isInContextOfAny_7 : decode c_H_isInContextOfAny 7 = .ok (.if_icmp .ge 36, 3) := by decide +kernel
theorem d_H_isInContextOfAny_10 : decode c_H_isInContextOfAny 10 = .ok (.aload_n 0, 1) := by decide +kernel
theorem d_H_isInContextOfAny_11 : decode c_H_isInContextOfAny 11 = .ok (.iload_n 2, 1) := by decide +kernel
theorem d_H_isInContextOfAny_12 : decode c_H_isInContextOfAny 12 = .ok (.iload_n 3, 1) := by decide +kernel
theorem d_H_isInContextOfAny_13 : decode c_H_isInContextOfAny 13 = .ok (.invokevirtual 81, 3) := by decide +kernel
theorem d_H_isInContextOfAny_16 : decode c_H_isInContextOfAny 16 = .ok (.astore 4, 2) := by decide +kernel
theorem d_H_isInContextOfAny_18 : decode c_H_isInContextOfAny 18 = .ok (.aload 4, 2) := by decide +kernel
theorem d_H_isInContextOfAny_20 : decode c_H_isInContextOfAny 20 = .ok (.ifnull 17, 3) := by decide +kernel
theorem d_H_isInContextOfAny_23 : decode c_H_isInContextOfAny 23 = .ok (.aload_n 1, 1) := by decide +kernel
theorem d_H_isInContextOfAny_24 : decode c_H_isInContextOfAny 24 = .ok (.aload 4, 2) := by decide +kernel
theorem d_H_isInContextOfAny_26 : decode c_H_isInContextOfAny 26 = .ok (.getfield 57, 3) := by decide +kernel
theorem d_H_isInContextOfAny_29 : decode c_H_isInContextOfAny 29 = .ok (.invokestatic 84, 3) := by decide +kernel
theorem d_H_isInContextOfAny_32 : decode c_H_isInContextOfAny 32 = .ok (.ifCond .eq 5, 3) := by decide +kernel
theorem d_H_isInContextOfAny_35 : decode c_H_isInContextOfAny 35 = .ok (.iconst 1, 1) := by decide +kernel
theorem d_H_isInContextOfAny_36 : decode c_H_isInContextOfAny 36 = .ok (.ireturn, 1) := by decide +kernel
theorem d_H_isInContextOfAny_37 : decode c_H_isInContextOfAny 37 = .ok (.iinc 3 1, 3) := by decide +kernel
theorem d_H_isInContextOfAny_40 : decode c_H_isInContextOfAny 40 = .ok (.goto (-38), 3) := by decide +kernel
theorem d_H_isInContextOfAny_43 : decode c_H_isInContextOfAny 43 = .ok (.iconst 0, 1) := by decide +kernel
theorem d_H_isInContextOfAny_44 : decode c_H_isInContextOfAny 44 = .ok (.ireturn, 1) := by decide +kernel
abbrev c_H_isIn : ByteArray := prog_3_method_9_code
def y_H_isIn : MethodName := ⟨R_H, "isIn", "(LTombstoneSites$Operation;I)Z"⟩
def w_H_isIn : List Cond := .code y_H_isIn c_H_isIn 2 (some .boolean) :: gT
theorem k_H_isIn : Cond.code y_H_isIn c_H_isIn 2 (some .boolean) ∈ gT := gT_t (i := 229) (by decide +kernel) rfl
theorem hd_H_isIn : y_H_isIn.cls = R_H ∧ y_H_isIn.cls ≠ "java/lang/invoke/MethodHandle" ∧ y_H_isIn.cls ≠ "java/lang/invoke/VarHandle" ∧ (parseMethodDescriptor y_H_isIn.desc).map (fun d => d.parameters.length) = some 2 := by decide +kernel
theorem d_H_isIn_0 : decode c_H_isIn 0 = .ok (.iload_n 1, 1) := by decide +kernel
theorem d_H_isIn_1 : decode c_H_isIn 1 = .ok (.aload_n 0, 1) := by decide +kernel
theorem d_H_isIn_2 : decode c_H_isIn 2 = .ok (.getfield 63, 3) := by decide +kernel
theorem d_H_isIn_5 : decode c_H_isIn 5 = .ok (.invokestatic 53, 3) := by decide +kernel
theorem d_H_isIn_8 : decode c_H_isIn 8 = .ok (.aload_n 0, 1) := by decide +kernel
theorem d_H_isIn_9 : decode c_H_isIn 9 = .ok (.getfield 91, 3) := by decide +kernel
theorem d_H_isIn_12 : decode c_H_isIn 12 = .ok (.if_icmp .le 7, 3) := by decide +kernel
theorem d_H_isIn_15 : decode c_H_isIn 15 = .ok (.iconst 1, 1) := by decide +kernel
theorem d_H_isIn_16 : decode c_H_isIn 16 = .ok (.goto 4, 3) := by decide +kernel
theorem d_H_isIn_19 : decode c_H_isIn 19 = .ok (.iconst 0, 1) := by decide +kernel
theorem d_H_isIn_20 : decode c_H_isIn 20 = .ok (.ireturn, 1) := by decide +kernel
abbrev c_O_init : ByteArray := prog_4_method_1_code
def y_O_init : MethodName := ⟨R_O, "<init>", "(IIIII)V"⟩
def w_O_init : List Cond := .code y_O_init c_O_init 6 (none) :: gT
theorem k_O_init : Cond.code y_O_init c_O_init 6 (none) ∈ gT := gT_t (i := 129) (by decide +kernel) rfl
theorem hd_O_init : y_O_init.cls = R_O ∧ y_O_init.cls ≠ "java/lang/invoke/MethodHandle" ∧ y_O_init.cls ≠ "java/lang/invoke/VarHandle" ∧ (parseMethodDescriptor y_O_init.desc).map (fun d => d.parameters.length) = some 5 := by decide +kernel
theorem d_O_init_0 : decode c_O_init 0 = .ok (.aload_n 0, 1) := by decide +kernel
theorem d_O_init_1 : decode c_O_init 1 = .ok (.invokespecial 3, 3) := by decide +kernel
theorem d_O_init_4 : decode c_O_init 4 = .ok (.aload_n 0, 1) := by decide +kernel
theorem d_O_init_5 : decode c_O_init 5 = .ok (.iload_n 1, 1) := by decide +kernel
theorem d_O_init_6 : decode c_O_init 6 = .ok (.putfield 9, 3) := by decide +kernel
theorem d_O_init_9 : decode c_O_init 9 = .ok (.aload_n 0, 1) := by decide +kernel
theorem d_O_init_10 : decode c_O_init 10 = .ok (.iload_n 2, 1) := by decide +kernel
theorem d_O_init_11 : decode c_O_init 11 = .ok (.putfield 15, 3) := by decide +kernel
theorem d_O_init_14 : decode c_O_init 14 = .ok (.aload_n 0, 1) := by decide +kernel
theorem d_O_init_15 : decode c_O_init 15 = .ok (.iload_n 3, 1) := by decide +kernel
theorem d_O_init_16 : decode c_O_init 16 = .ok (.putfield 18, 3) := by decide +kernel
theorem d_O_init_19 : decode c_O_init 19 = .ok (.aload_n 0, 1) := by decide +kernel
theorem d_O_init_20 : decode c_O_init 20 = .ok (.iload 4, 2) := by decide +kernel
theorem d_O_init_22 : decode c_O_init 22 = .ok (.putfield 21, 3) := by decide +kernel
theorem d_O_init_25 : decode c_O_init 25 = .ok (.aload_n 0, 1) := by decide +kernel
theorem d_O_init_26 : decode c_O_init 26 = .ok (.iload 5, 2) := by decide +kernel
theorem d_O_init_28 : decode c_O_init 28 = .ok (.putfield 24, 3) := by decide +kernel
theorem d_O_init_31 : decode c_O_init 31 = .ok (.return_, 1) := by decide +kernel
abbrev c_O_isInsert : ByteArray := prog_4_method_2_code
def y_O_isInsert : MethodName := ⟨R_O, "isInsert", "()Z"⟩
def w_O_isInsert : List Cond := .code y_O_isInsert c_O_isInsert 1 (some .boolean) :: gT
theorem k_O_isInsert : Cond.code y_O_isInsert c_O_isInsert 1 (some .boolean) ∈ gT := gT_t (i := 170) (by decide +kernel) rfl
theorem hd_O_isInsert : y_O_isInsert.cls = R_O ∧ y_O_isInsert.cls ≠ "java/lang/invoke/MethodHandle" ∧ y_O_isInsert.cls ≠ "java/lang/invoke/VarHandle" ∧ (parseMethodDescriptor y_O_isInsert.desc).map (fun d => d.parameters.length) = some 0 := by decide +kernel
theorem d_O_isInsert_0 : decode c_O_isInsert 0 = .ok (.aload_n 0, 1) := by decide +kernel
theorem d_O_isInsert_1 : decode c_O_isInsert 1 = .ok (.getfield 18, 3) := by decide +kernel
theorem d_O_isInsert_4 : decode c_O_isInsert 4 = .ok (.ifCond .eq 7, 3) := by decide +kernel
theorem d_O_isInsert_7 : decode c_O_isInsert 7 = .ok (.iconst 1, 1) := by decide +kernel
theorem d_O_isInsert_8 : decode c_O_isInsert 8 = .ok (.goto 4, 3) := by decide +kernel
theorem d_O_isInsert_11 : decode c_O_isInsert 11 = .ok (.iconst 0, 1) := by decide +kernel
theorem d_O_isInsert_12 : decode c_O_isInsert 12 = .ok (.ireturn, 1) := by decide +kernel
abbrev c_O_index : ByteArray := prog_4_method_3_code
def y_O_index : MethodName := ⟨R_O, "index", "()I"⟩
def w_O_index : List Cond := .code y_O_index c_O_index 1 (some .int) :: gT
theorem k_O_index : Cond.code y_O_index c_O_index 1 (some .int) ∈ gT := gT_t (i := 162) (by decide +kernel) rfl
theorem hd_O_index : y_O_index.cls = R_O ∧ y_O_index.cls ≠ "java/lang/invoke/MethodHandle" ∧ y_O_index.cls ≠ "java/lang/invoke/VarHandle" ∧ (parseMethodDescriptor y_O_index.desc).map (fun d => d.parameters.length) = some 0 := by decide +kernel
theorem d_O_index_0 : decode c_O_index 0 = .ok (.aload_n 0, 1) := by decide +kernel
theorem d_O_index_1 : decode c_O_index 1 = .ok (.getfield 9, 3) := by decide +kernel
theorem d_O_index_4 : decode c_O_index 4 = .ok (.bipush 6, 2) := by decide +kernel
theorem d_O_index_6 : decode c_O_index 6 = .ok (.imul, 1) := by decide +kernel
theorem d_O_index_7 : decode c_O_index 7 = .ok (.aload_n 0, 1) := by decide +kernel
theorem d_O_index_8 : decode c_O_index 8 = .ok (.getfield 15, 3) := by decide +kernel
theorem d_O_index_11 : decode c_O_index 11 = .ok (.iadd, 1) := by decide +kernel
theorem d_O_index_12 : decode c_O_index 12 = .ok (.ireturn, 1) := by decide +kernel
abbrev c_O_toCode : ByteArray := prog_4_method_4_code
def y_O_toCode : MethodName := ⟨R_O, "toCode", "()J"⟩
def w_O_toCode : List Cond := .code y_O_toCode c_O_toCode 3 (some .long) :: gT
theorem k_O_toCode : Cond.code y_O_toCode c_O_toCode 3 (some .long) ∈ gT := gT_t (i := 256) (by decide +kernel) rfl
theorem hd_O_toCode : y_O_toCode.cls = R_O ∧ y_O_toCode.cls ≠ "java/lang/invoke/MethodHandle" ∧ y_O_toCode.cls ≠ "java/lang/invoke/VarHandle" ∧ (parseMethodDescriptor y_O_toCode.desc).map (fun d => d.parameters.length) = some 0 := by decide +kernel
theorem d_O_toCode_0 : decode c_O_toCode 0 = .ok (.aload_n 0, 1) := by decide +kernel
theorem d_O_toCode_1 : decode c_O_toCode 1 = .ok (.getfield 9, 3) := by decide +kernel
theorem d_O_toCode_4 : decode c_O_toCode 4 = .ok (.iconst 4, 1) := by decide +kernel
theorem d_O_toCode_5 : decode c_O_toCode 5 = .ok (.aload_n 0, 1) := by decide +kernel
theorem d_O_toCode_6 : decode c_O_toCode 6 = .ok (.getfield 15, 3) := by decide +kernel
theorem d_O_toCode_9 : decode c_O_toCode 9 = .ok (.imul, 1) := by decide +kernel
theorem d_O_toCode_10 : decode c_O_toCode 10 = .ok (.iadd, 1) := by decide +kernel
theorem d_O_toCode_11 : decode c_O_toCode 11 = .ok (.aload_n 0, 1) := by decide +kernel
theorem d_O_toCode_12 : decode c_O_toCode 12 = .ok (.invokevirtual 27, 3) := by decide +kernel
theorem d_O_toCode_15 : decode c_O_toCode 15 = .ok (.ifCond .eq 8, 3) := by decide +kernel
theorem d_O_toCode_18 : decode c_O_toCode 18 = .ok (.bipush 64, 2) := by decide +kernel
theorem d_O_toCode_20 : decode c_O_toCode 20 = .ok (.goto 4, 3) := by decide +kernel
theorem d_O_toCode_23 : decode c_O_toCode 23 = .ok (.iconst 0, 1) := by decide +kernel
theorem d_O_toCode_24 : decode c_O_toCode 24 = .ok (.iadd, 1) := by decide +kernel
theorem d_O_toCode_25 : decode c_O_toCode 25 = .ok (.i2l, 1) := by decide +kernel
theorem d_O_toCode_26 : decode c_O_toCode 26 = .ok (.lstore_n 1, 1) := by decide +kernel
theorem d_O_toCode_27 : decode c_O_toCode 27 = .ok (.lload_n 1, 1) := by decide +kernel
theorem d_O_toCode_28 : decode c_O_toCode 28 = .ok (.aload_n 0, 1) := by decide +kernel
theorem d_O_toCode_29 : decode c_O_toCode 29 = .ok (.getfield 21, 3) := by decide +kernel
theorem d_O_toCode_32 : decode c_O_toCode 32 = .ok (.i2l, 1) := by decide +kernel
theorem d_O_toCode_33 : decode c_O_toCode 33 = .ok (.bipush 7, 2) := by decide +kernel
theorem d_O_toCode_35 : decode c_O_toCode 35 = .ok (.lshl, 1) := by decide +kernel
theorem d_O_toCode_36 : decode c_O_toCode 36 = .ok (.aload_n 0, 1) := by decide +kernel
theorem d_O_toCode_37 : decode c_O_toCode 37 = .ok (.getfield 18, 3) := by decide +kernel
theorem d_O_toCode_40 : decode c_O_toCode 40 = .ok (.i2l, 1) := by decide +kernel
theorem d_O_toCode_41 : decode c_O_toCode 41 = .ok (.bipush 13, 2) := by decide +kernel
theorem d_O_toCode_43 : decode c_O_toCode 43 = .ok (.lshl, 1) := by decide +kernel
theorem d_O_toCode_44 : decode c_O_toCode 44 = .ok (.ladd, 1) := by decide +kernel
theorem d_O_toCode_45 : decode c_O_toCode 45 = .ok (.ladd, 1) := by decide +kernel
theorem d_O_toCode_46 : decode c_O_toCode 46 = .ok (.lstore_n 1, 1) := by decide +kernel
theorem d_O_toCode_47 : decode c_O_toCode 47 = .ok (.lload_n 1, 1) := by decide +kernel
theorem d_O_toCode_48 : decode c_O_toCode 48 = .ok (.aload_n 0, 1) := by decide +kernel
theorem d_O_toCode_49 : decode c_O_toCode 49 = .ok (.getfield 24, 3) := by decide +kernel
theorem d_O_toCode_52 : decode c_O_toCode 52 = .ok (.iconst 0, 1) := by decide +kernel
theorem d_O_toCode_53 : decode c_O_toCode 53 = .ok (.invokestatic 31, 3) := by decide +kernel
theorem d_O_toCode_56 : decode c_O_toCode 56 = .ok (.i2l, 1) := by decide +kernel
theorem d_O_toCode_57 : decode c_O_toCode 57 = .ok (.bipush 21, 2) := by decide +kernel
theorem d_O_toCode_59 : decode c_O_toCode 59 = .ok (.lshl, 1) := by decide +kernel
theorem d_O_toCode_60 : decode c_O_toCode 60 = .ok (.ladd, 1) := by decide +kernel
theorem d_O_toCode_61 : decode c_O_toCode 61 = .ok (.lstore_n 1, 1) := by decide +kernel
theorem d_O_toCode_62 : decode c_O_toCode 62 = .ok (.lload_n 1, 1) := by decide +kernel
theorem d_O_toCode_63 : decode c_O_toCode 63 = .ok (.aload_n 0, 1) := by decide +kernel
theorem d_O_toCode_64 : decode c_O_toCode 64 = .ok (.getfield 24, 3) := by decide +kernel
theorem d_O_toCode_67 : decode c_O_toCode 67 = .ok (.iconst 1, 1) := by decide +kernel
theorem d_O_toCode_68 : decode c_O_toCode 68 = .ok (.invokestatic 31, 3) := by decide +kernel
theorem d_O_toCode_71 : decode c_O_toCode 71 = .ok (.i2l, 1) := by decide +kernel
theorem d_O_toCode_72 : decode c_O_toCode 72 = .ok (.bipush 25, 2) := by decide +kernel
theorem d_O_toCode_74 : decode c_O_toCode 74 = .ok (.lshl, 1) := by decide +kernel
theorem d_O_toCode_75 : decode c_O_toCode 75 = .ok (.ladd, 1) := by decide +kernel
theorem d_O_toCode_76 : decode c_O_toCode 76 = .ok (.lstore_n 1, 1) := by decide +kernel
theorem d_O_toCode_77 : decode c_O_toCode 77 = .ok (.lload_n 1, 1) := by decide +kernel
theorem d_O_toCode_78 : decode c_O_toCode 78 = .ok (.aload_n 0, 1) := by decide +kernel
theorem d_O_toCode_79 : decode c_O_toCode 79 = .ok (.getfield 24, 3) := by decide +kernel
theorem d_O_toCode_82 : decode c_O_toCode 82 = .ok (.iconst 2, 1) := by decide +kernel
theorem d_O_toCode_83 : decode c_O_toCode 83 = .ok (.invokestatic 31, 3) := by decide +kernel
theorem d_O_toCode_86 : decode c_O_toCode 86 = .ok (.i2l, 1) := by decide +kernel
theorem d_O_toCode_87 : decode c_O_toCode 87 = .ok (.bipush 29, 2) := by decide +kernel
theorem d_O_toCode_89 : decode c_O_toCode 89 = .ok (.lshl, 1) := by decide +kernel
theorem d_O_toCode_90 : decode c_O_toCode 90 = .ok (.ladd, 1) := by decide +kernel
theorem d_O_toCode_91 : decode c_O_toCode 91 = .ok (.lstore_n 1, 1) := by decide +kernel
theorem d_O_toCode_92 : decode c_O_toCode 92 = .ok (.lload_n 1, 1) := by decide +kernel
theorem d_O_toCode_93 : decode c_O_toCode 93 = .ok (.lreturn, 1) := by decide +kernel
abbrev c_O_movedPast : ByteArray := prog_4_method_5_code
def y_O_movedPast : MethodName := ⟨R_O, "movedPast", "(ILTombstoneSites$Operation;I)I"⟩
def w_O_movedPast : List Cond := .code y_O_movedPast c_O_movedPast 4 (some .int) :: gT
theorem k_O_movedPast : Cond.code y_O_movedPast c_O_movedPast 4 (some .int) ∈ gT := gT_t (i := 241) (by decide +kernel) rfl
theorem hd_O_movedPast : y_O_movedPast.cls = R_O ∧ y_O_movedPast.cls ≠ "java/lang/invoke/MethodHandle" ∧ y_O_movedPast.cls ≠ "java/lang/invoke/VarHandle" ∧ (parseMethodDescriptor y_O_movedPast.desc).map (fun d => d.parameters.length) = some 3 := by decide +kernel
theorem d_O_movedPast_0 : decode c_O_movedPast 0 = .ok (.aload_n 2, 1) := by decide +kernel
theorem d_O_movedPast_1 : decode c_O_movedPast 1 = .ok (.invokevirtual 27, 3) := by decide +kernel
theorem d_O_movedPast_4 : decode c_O_movedPast 4 = .ok (.ifCond .eq 8, 3) := by decide +kernel
theorem d_O_movedPast_7 : decode c_O_movedPast 7 = .ok (.iload_n 1, 1) := by decide +kernel
theorem d_O_movedPast_8 : decode c_O_movedPast 8 = .ok (.iload_n 3, 1) := by decide +kernel
theorem d_O_movedPast_9 : decode c_O_movedPast 9 = .ok (.if_icmp .ge 5, 3) := by decide +kernel
theorem d_O_movedPast_12 : decode c_O_movedPast 12 = .ok (.iload_n 1, 1) := by decide +kernel
theorem d_O_movedPast_13 : decode c_O_movedPast 13 = .ok (.ireturn, 1) := by decide +kernel
theorem d_O_movedPast_14 : decode c_O_movedPast 14 = .ok (.iload_n 1, 1) := by decide +kernel
theorem d_O_movedPast_15 : decode c_O_movedPast 15 = .ok (.iload_n 3, 1) := by decide +kernel
theorem d_O_movedPast_16 : decode c_O_movedPast 16 = .ok (.if_icmp .ne 25, 3) := by decide +kernel
theorem d_O_movedPast_19 : decode c_O_movedPast 19 = .ok (.aload_n 0, 1) := by decide +kernel
theorem d_O_movedPast_20 : decode c_O_movedPast 20 = .ok (.invokevirtual 27, 3) := by decide +kernel
theorem d_O_movedPast_23 : decode c_O_movedPast 23 = .ok (.ifCond .eq 18, 3) := by decide +kernel
theorem d_O_movedPast_26 : decode c_O_movedPast 26 = .ok (.aload_n 0, 1) := by decide +kernel
theorem d_O_movedPast_27 : decode c_O_movedPast 27 = .ok (.getfield 9, 3) := by decide +kernel
theorem d_O_movedPast_30 : decode c_O_movedPast 30 = .ok (.aload_n 2, 1) := by decide +kernel
theorem d_O_movedPast_31 : decode c_O_movedPast 31 = .ok (.getfield 9, 3) := by decide +kernel
theorem d_O_movedPast_34 : decode c_O_movedPast 34 = .ok (.if_icmp .ge 7, 3) := by decide +kernel
theorem d_O_movedPast_37 : decode c_O_movedPast 37 = .ok (.iload_n 1, 1) := by decide +kernel
theorem d_O_movedPast_38 : decode c_O_movedPast 38 = .ok (.goto 6, 3) := by decide +kernel
theorem d_O_movedPast_41 : decode c_O_movedPast 41 = .ok (.iload_n 1, 1) := by decide +kernel
theorem d_O_movedPast_42 : decode c_O_movedPast 42 = .ok (.iconst 1, 1) := by decide +kernel
theorem d_O_movedPast_43 : decode c_O_movedPast 43 = .ok (.iadd, 1) := by decide +kernel
theorem d_O_movedPast_44 : decode c_O_movedPast 44 = .ok (.ireturn, 1) := by decide +kernel
abbrev c_V_count : ByteArray := prog_5_method_2_code
def y_V_count : MethodName := ⟨R_V, "count", "(II)I"⟩
def w_V_count : List Cond := .code y_V_count c_V_count 2 (some .int) :: gT
theorem k_V_count : Cond.code y_V_count c_V_count 2 (some .int) ∈ gT := gT_t (i := 124) (by decide +kernel) rfl
theorem hd_V_count : y_V_count.cls = R_V ∧ y_V_count.cls ≠ "java/lang/invoke/MethodHandle" ∧ y_V_count.cls ≠ "java/lang/invoke/VarHandle" ∧ (parseMethodDescriptor y_V_count.desc).map (fun d => d.parameters.length) = some 2 := by decide +kernel
theorem d_V_count_0 : decode c_V_count 0 = .ok (.iload_n 0, 1) := by decide +kernel
theorem d_V_count_1 : decode c_V_count 1 = .ok (.iconst 3, 1) := by decide +kernel
theorem d_V_count_2 : decode c_V_count 2 = .ok (.iload_n 1, 1) := by decide +kernel
theorem d_V_count_3 : decode c_V_count 3 = .ok (.imul, 1) := by decide +kernel
theorem d_V_count_4 : decode c_V_count 4 = .ok (.ishr, 1) := by decide +kernel
theorem d_V_count_5 : decode c_V_count 5 = .ok (.bipush 7, 2) := by decide +kernel
theorem d_V_count_7 : decode c_V_count 7 = .ok (.iand, 1) := by decide +kernel
theorem d_V_count_8 : decode c_V_count 8 = .ok (.ireturn, 1) := by decide +kernel
abbrev c_V_withOneMore : ByteArray := prog_5_method_3_code
def y_V_withOneMore : MethodName := ⟨R_V, "withOneMore", "(II)I"⟩
def w_V_withOneMore : List Cond := .code y_V_withOneMore c_V_withOneMore 2 (some .int) :: gT
theorem k_V_withOneMore : Cond.code y_V_withOneMore c_V_withOneMore 2 (some .int) ∈ gT := gT_t (i := 182) (by decide +kernel) rfl
theorem hd_V_withOneMore : y_V_withOneMore.cls = R_V ∧ y_V_withOneMore.cls ≠ "java/lang/invoke/MethodHandle" ∧ y_V_withOneMore.cls ≠ "java/lang/invoke/VarHandle" ∧ (parseMethodDescriptor y_V_withOneMore.desc).map (fun d => d.parameters.length) = some 2 := by decide +kernel
theorem d_V_withOneMore_0 : decode c_V_withOneMore 0 = .ok (.iload_n 0, 1) := by decide +kernel
theorem d_V_withOneMore_1 : decode c_V_withOneMore 1 = .ok (.iconst 1, 1) := by decide +kernel
theorem d_V_withOneMore_2 : decode c_V_withOneMore 2 = .ok (.iconst 3, 1) := by decide +kernel
theorem d_V_withOneMore_3 : decode c_V_withOneMore 3 = .ok (.iload_n 1, 1) := by decide +kernel
theorem d_V_withOneMore_4 : decode c_V_withOneMore 4 = .ok (.imul, 1) := by decide +kernel
theorem d_V_withOneMore_5 : decode c_V_withOneMore 5 = .ok (.ishl, 1) := by decide +kernel
theorem d_V_withOneMore_6 : decode c_V_withOneMore 6 = .ok (.iadd, 1) := by decide +kernel
theorem d_V_withOneMore_7 : decode c_V_withOneMore 7 = .ok (.ireturn, 1) := by decide +kernel
abbrev c_V_withOneLess : ByteArray := prog_5_method_4_code
def y_V_withOneLess : MethodName := ⟨R_V, "withOneLess", "(II)I"⟩
def w_V_withOneLess : List Cond := .code y_V_withOneLess c_V_withOneLess 2 (some .int) :: gT
theorem k_V_withOneLess : Cond.code y_V_withOneLess c_V_withOneLess 2 (some .int) ∈ gT := gT_t (i := 236) (by decide +kernel) rfl
theorem hd_V_withOneLess : y_V_withOneLess.cls = R_V ∧ y_V_withOneLess.cls ≠ "java/lang/invoke/MethodHandle" ∧ y_V_withOneLess.cls ≠ "java/lang/invoke/VarHandle" ∧ (parseMethodDescriptor y_V_withOneLess.desc).map (fun d => d.parameters.length) = some 2 := by decide +kernel
theorem d_V_withOneLess_0 : decode c_V_withOneLess 0 = .ok (.iload_n 0, 1) := by decide +kernel
theorem d_V_withOneLess_1 : decode c_V_withOneLess 1 = .ok (.iconst 1, 1) := by decide +kernel
theorem d_V_withOneLess_2 : decode c_V_withOneLess 2 = .ok (.iconst 3, 1) := by decide +kernel
theorem d_V_withOneLess_3 : decode c_V_withOneLess 3 = .ok (.iload_n 1, 1) := by decide +kernel
theorem d_V_withOneLess_4 : decode c_V_withOneLess 4 = .ok (.imul, 1) := by decide +kernel
theorem d_V_withOneLess_5 : decode c_V_withOneLess 5 = .ok (.ishl, 1) := by decide +kernel
theorem d_V_withOneLess_6 : decode c_V_withOneLess 6 = .ok (.isub, 1) := by decide +kernel
theorem d_V_withOneLess_7 : decode c_V_withOneLess 7 = .ok (.ireturn, 1) := by decide +kernel
abbrev c_V_covers : ByteArray := prog_5_method_5_code
def y_V_covers : MethodName := ⟨R_V, "covers", "(II)Z"⟩
def w_V_covers : List Cond := .code y_V_covers c_V_covers 3 (some .boolean) :: gT
theorem k_V_covers : Cond.code y_V_covers c_V_covers 3 (some .boolean) ∈ gT := gT_t (i := 211) (by decide +kernel) rfl
theorem hd_V_covers : y_V_covers.cls = R_V ∧ y_V_covers.cls ≠ "java/lang/invoke/MethodHandle" ∧ y_V_covers.cls ≠ "java/lang/invoke/VarHandle" ∧ (parseMethodDescriptor y_V_covers.desc).map (fun d => d.parameters.length) = some 2 := by decide +kernel
theorem d_V_covers_0 : decode c_V_covers 0 = .ok (.iconst 0, 1) := by decide +kernel
theorem d_V_covers_1 : decode c_V_covers 1 = .ok (.istore_n 2, 1) := by decide +kernel
theorem d_V_covers_2 : decode c_V_covers 2 = .ok (.iload_n 2, 1) := by decide +kernel
theorem d_V_covers_3 : decode c_V_covers 3 = .ok (.iconst 3, 1) := by decide +kernel
theorem d_V_covers_4 : decode c_V_covers 4 = .ok (.if_icmp .ge 24, 3) := by decide +kernel
theorem d_V_covers_7 : decode c_V_covers 7 = .ok (.iload_n 0, 1) := by decide +kernel
theorem d_V_covers_8 : decode c_V_covers 8 = .ok (.iload_n 2, 1) := by decide +kernel
theorem d_V_covers_9 : decode c_V_covers 9 = .ok (.invokestatic 9, 3) := by decide +kernel
theorem d_V_covers_12 : decode c_V_covers 12 = .ok (.iload_n 1, 1) := by decide +kernel
theorem d_V_covers_13 : decode c_V_covers 13 = .ok (.iload_n 2, 1) := by decide +kernel
theorem d_V_covers_14 : decode c_V_covers 14 = .ok (.invokestatic 9, 3) := by decide +kernel
theorem d_V_covers_17 : decode c_V_covers 17 = .ok (.if_icmp .ge 5, 3) := by decide +kernel
theorem d_V_covers_20 : decode c_V_covers 20 = .ok (.iconst 0, 1) := by decide +kernel
theorem d_V_covers_21 : decode c_V_covers 21 = .ok (.ireturn, 1) := by decide +kernel
theorem d_V_covers_22 : decode c_V_covers 22 = .ok (.iinc 2 1, 3) := by decide +kernel
theorem d_V_covers_25 : decode c_V_covers 25 = .ok (.goto (-23), 3) := by decide +kernel
theorem d_V_covers_28 : decode c_V_covers 28 = .ok (.iconst 1, 1) := by decide +kernel
theorem d_V_covers_29 : decode c_V_covers 29 = .ok (.ireturn, 1) := by decide +kernel
abbrev c_V_howMany : ByteArray := prog_5_method_6_code
def y_V_howMany : MethodName := ⟨R_V, "howMany", "(I)I"⟩
def w_V_howMany : List Cond := .code y_V_howMany c_V_howMany 1 (some .int) :: gT
theorem k_V_howMany : Cond.code y_V_howMany c_V_howMany 1 (some .int) ∈ gT := gT_t (i := 27) (by decide +kernel) rfl
theorem hd_V_howMany : y_V_howMany.cls = R_V ∧ y_V_howMany.cls ≠ "java/lang/invoke/MethodHandle" ∧ y_V_howMany.cls ≠ "java/lang/invoke/VarHandle" ∧ (parseMethodDescriptor y_V_howMany.desc).map (fun d => d.parameters.length) = some 1 := by decide +kernel
theorem d_V_howMany_0 : decode c_V_howMany 0 = .ok (.iconst 1, 1) := by decide +kernel
theorem d_V_howMany_1 : decode c_V_howMany 1 = .ok (.iconst 3, 1) := by decide +kernel
theorem d_V_howMany_2 : decode c_V_howMany 2 = .ok (.iload_n 0, 1) := by decide +kernel
theorem d_V_howMany_3 : decode c_V_howMany 3 = .ok (.imul, 1) := by decide +kernel
theorem d_V_howMany_4 : decode c_V_howMany 4 = .ok (.ishl, 1) := by decide +kernel
theorem d_V_howMany_5 : decode c_V_howMany 5 = .ok (.ireturn, 1) := by decide +kernel
abbrev c_T_init : ByteArray := prog_1_method_1_code
def y_T_init : MethodName := ⟨R_T, "<init>", "(I)V"⟩
def w_T_init : List Cond := .code y_T_init c_T_init 3 (none) :: gT
theorem k_T_init : Cond.code y_T_init c_T_init 3 (none) ∈ gT := gT_t (i := 13) (by decide +kernel) rfl
theorem hd_T_init : y_T_init.cls = R_T ∧ y_T_init.cls ≠ "java/lang/invoke/MethodHandle" ∧ y_T_init.cls ≠ "java/lang/invoke/VarHandle" ∧ (parseMethodDescriptor y_T_init.desc).map (fun d => d.parameters.length) = some 1 := by decide +kernel
theorem d_T_init_0 : decode c_T_init 0 = .ok (.aload_n 0, 1) := by decide +kernel
theorem d_T_init_1 : decode c_T_init 1 = .ok (.invokespecial 1, 3) := by decide +kernel
theorem d_T_init_4 : decode c_T_init 4 = .ok (.aload_n 0, 1) := by decide +kernel
theorem d_T_init_5 : decode c_T_init 5 = .ok (.iload_n 1, 1) := by decide +kernel
theorem d_T_init_6 : decode c_T_init 6 = .ok (.iconst 3, 1) := by decide +kernel
theorem d_T_init_7 : decode c_T_init 7 = .ok (.if_icmp .ne 7, 3) := by decide +kernel
theorem d_T_init_10 : decode c_T_init 10 = .ok (.iconst 3, 1) := by decide +kernel
theorem d_T_init_11 : decode c_T_init 11 = .ok (.goto 4, 3) := by decide +kernel
theorem d_T_init_14 : decode c_T_init 14 = .ok (.iconst 2, 1) := by decide +kernel
theorem d_T_init_15 : decode c_T_init 15 = .ok (.putfield 7, 3) := by decide +kernel
theorem d_T_init_18 : decode c_T_init 18 = .ok (.aload_n 0, 1) := by decide +kernel
theorem d_T_init_19 : decode c_T_init 19 = .ok (.new 13, 3) := by decide +kernel
theorem d_T_init_22 : decode c_T_init 22 = .ok (.dup, 1) := by decide +kernel
theorem d_T_init_23 : decode c_T_init 23 = .ok (.aload_n 0, 1) := by decide +kernel
theorem d_T_init_24 : decode c_T_init 24 = .ok (.getfield 7, 3) := by decide +kernel
theorem d_T_init_27 : decode c_T_init 27 = .ok (.invokespecial 15, 3) := by decide +kernel
theorem d_T_init_30 : decode c_T_init 30 = .ok (.putfield 18, 3) := by decide +kernel
theorem d_T_init_33 : decode c_T_init 33 = .ok (.aload_n 0, 1) := by decide +kernel
theorem d_T_init_34 : decode c_T_init 34 = .ok (.aload_n 0, 1) := by decide +kernel
theorem d_T_init_35 : decode c_T_init 35 = .ok (.getfield 7, 3) := by decide +kernel
theorem d_T_init_38 : decode c_T_init 38 = .ok (.anewarray 22, 3) := by decide +kernel
theorem d_T_init_41 : decode c_T_init 41 = .ok (.putfield 24, 3) := by decide +kernel
theorem d_T_init_44 : decode c_T_init 44 = .ok (.iconst 0, 1) := by decide +kernel
theorem d_T_init_45 : decode c_T_init 45 = .ok (.istore_n 2, 1) := by decide +kernel
theorem d_T_init_46 : decode c_T_init 46 = .ok (.iload_n 2, 1) := by decide +kernel
theorem d_T_init_47 : decode c_T_init 47 = .ok (.aload_n 0, 1) := by decide +kernel
theorem d_T_init_48 : decode c_T_init 48 = .ok (.getfield 7, 3) := by decide +kernel
theorem d_T_init_51 : decode c_T_init 51 = .ok (.if_icmp .ge 23, 3) := by decide +kernel
theorem d_T_init_54 : decode c_T_init 54 = .ok (.aload_n 0, 1) := by decide +kernel
theorem d_T_init_55 : decode c_T_init 55 = .ok (.getfield 24, 3) := by decide +kernel
theorem d_T_init_58 : decode c_T_init 58 = .ok (.iload_n 2, 1) := by decide +kernel
theorem d_T_init_59 : decode c_T_init 59 = .ok (.new 22, 3) := by decide +kernel
theorem d_T_init_62 : decode c_T_init 62 = .ok (.dup, 1) := by decide +kernel
theorem d_T_init_63 : decode c_T_init 63 = .ok (.iload_n 2, 1) := by decide +kernel
theorem d_T_init_64 : decode c_T_init 64 = .ok (.invokespecial 28, 3) := by decide +kernel
theorem d_T_init_67 : decode c_T_init 67 = .ok (.aastore, 1) := by decide +kernel
theorem d_T_init_68 : decode c_T_init 68 = .ok (.iinc 2 1, 3) := by decide +kernel
theorem d_T_init_71 : decode c_T_init 71 = .ok (.goto (-25), 3) := by decide +kernel
theorem d_T_init_74 : decode c_T_init 74 = .ok (.return_, 1) := by decide +kernel
abbrev c_T_sites : ByteArray := prog_1_method_2_code
def y_T_sites : MethodName := ⟨R_T, "sites", "()I"⟩
def w_T_sites : List Cond := .code y_T_sites c_T_sites 1 (some .int) :: gT
theorem k_T_sites : Cond.code y_T_sites c_T_sites 1 (some .int) ∈ gT := gT_t (i := 97) (by decide +kernel) rfl
theorem hd_T_sites : y_T_sites.cls = R_T ∧ y_T_sites.cls ≠ "java/lang/invoke/MethodHandle" ∧ y_T_sites.cls ≠ "java/lang/invoke/VarHandle" ∧ (parseMethodDescriptor y_T_sites.desc).map (fun d => d.parameters.length) = some 0 := by decide +kernel
theorem d_T_sites_0 : decode c_T_sites 0 = .ok (.aload_n 0, 1) := by decide +kernel
theorem d_T_sites_1 : decode c_T_sites 1 = .ok (.getfield 7, 3) := by decide +kernel
theorem d_T_sites_4 : decode c_T_sites 4 = .ok (.ireturn, 1) := by decide +kernel
abbrev c_T_insert : ByteArray := prog_1_method_3_code
def y_T_insert : MethodName := ⟨R_T, "insert", "(III)I"⟩
def w_T_insert : List Cond := .code y_T_insert c_T_insert 4 (some .int) :: gT
theorem k_T_insert : Cond.code y_T_insert c_T_insert 4 (some .int) ∈ gT := gT_t (i := 101) (by decide +kernel) rfl
theorem hd_T_insert : y_T_insert.cls = R_T ∧ y_T_insert.cls ≠ "java/lang/invoke/MethodHandle" ∧ y_T_insert.cls ≠ "java/lang/invoke/VarHandle" ∧ (parseMethodDescriptor y_T_insert.desc).map (fun d => d.parameters.length) = some 3 := by decide +kernel
theorem d_T_insert_0 : decode c_T_insert 0 = .ok (.aload_n 0, 1) := by decide +kernel
theorem d_T_insert_1 : decode c_T_insert 1 = .ok (.iload_n 1, 1) := by decide +kernel
theorem d_T_insert_2 : decode c_T_insert 2 = .ok (.invokevirtual 29, 3) := by decide +kernel
theorem d_T_insert_5 : decode c_T_insert 5 = .ok (.ifCond .eq 15, 3) := by decide +kernel
theorem d_T_insert_8 : decode c_T_insert 8 = .ok (.iload_n 3, 1) := by decide +kernel
theorem d_T_insert_9 : decode c_T_insert 9 = .ok (.iconst 1, 1) := by decide +kernel
theorem d_T_insert_10 : decode c_T_insert 10 = .ok (.if_icmp .lt 10, 3) := by decide +kernel
theorem d_T_insert_13 : decode c_T_insert 13 = .ok (.iload_n 3, 1) := by decide +kernel
theorem d_T_insert_14 : decode c_T_insert 14 = .ok (.sipush 255, 3) := by decide +kernel
theorem d_T_insert_17 : decode c_T_insert 17 = .ok (.if_icmp .le 5, 3) := by decide +kernel
theorem d_T_insert_20 : decode c_T_insert 20 = .ok (.iconst (-1), 1) := by decide +kernel
theorem d_T_insert_21 : decode c_T_insert 21 = .ok (.ireturn, 1) := by decide +kernel
theorem d_T_insert_22 : decode c_T_insert 22 = .ok (.aload_n 0, 1) := by decide +kernel
theorem d_T_insert_23 : decode c_T_insert 23 = .ok (.aload_n 0, 1) := by decide +kernel
theorem d_T_insert_24 : decode c_T_insert 24 = .ok (.getfield 24, 3) := by decide +kernel
theorem d_T_insert_27 : decode c_T_insert 27 = .ok (.iload_n 1, 1) := by decide +kernel
theorem d_T_insert_28 : decode c_T_insert 28 = .ok (.aaload, 1) := by decide +kernel
theorem d_T_insert_29 : decode c_T_insert 29 = .ok (.aload_n 0, 1) := by decide +kernel
theorem d_T_insert_30 : decode c_T_insert 30 = .ok (.getfield 24, 3) := by decide +kernel
theorem d_T_insert_33 : decode c_T_insert 33 = .ok (.iload_n 1, 1) := by decide +kernel
theorem d_T_insert_34 : decode c_T_insert 34 = .ok (.aaload, 1) := by decide +kernel
theorem d_T_insert_35 : decode c_T_insert 35 = .ok (.iload_n 2, 1) := by decide +kernel
theorem d_T_insert_36 : decode c_T_insert 36 = .ok (.invokevirtual 33, 3) := by decide +kernel
theorem d_T_insert_39 : decode c_T_insert 39 = .ok (.iload_n 3, 1) := by decide +kernel
theorem d_T_insert_40 : decode c_T_insert 40 = .ok (.invokevirtual 37, 3) := by decide +kernel
theorem d_T_insert_43 : decode c_T_insert 43 = .ok (.ireturn, 1) := by decide +kernel
abbrev c_T_erase : ByteArray := prog_1_method_4_code
def y_T_erase : MethodName := ⟨R_T, "erase", "(II)I"⟩
def w_T_erase : List Cond := .code y_T_erase c_T_erase 3 (some .int) :: gT
theorem k_T_erase : Cond.code y_T_erase c_T_erase 3 (some .int) ∈ gT := gT_t (i := 186) (by decide +kernel) rfl
theorem hd_T_erase : y_T_erase.cls = R_T ∧ y_T_erase.cls ≠ "java/lang/invoke/MethodHandle" ∧ y_T_erase.cls ≠ "java/lang/invoke/VarHandle" ∧ (parseMethodDescriptor y_T_erase.desc).map (fun d => d.parameters.length) = some 2 := by decide +kernel
theorem d_T_erase_0 : decode c_T_erase 0 = .ok (.aload_n 0, 1) := by decide +kernel
theorem d_T_erase_1 : decode c_T_erase 1 = .ok (.iload_n 1, 1) := by decide +kernel
theorem d_T_erase_2 : decode c_T_erase 2 = .ok (.invokevirtual 29, 3) := by decide +kernel
theorem d_T_erase_5 : decode c_T_erase 5 = .ok (.ifCond .ne 5, 3) := by decide +kernel
theorem d_T_erase_8 : decode c_T_erase 8 = .ok (.iconst (-1), 1) := by decide +kernel
theorem d_T_erase_9 : decode c_T_erase 9 = .ok (.ireturn, 1) := by decide +kernel
theorem d_T_erase_10 : decode c_T_erase 10 = .ok (.aload_n 0, 1) := by decide +kernel
theorem d_T_erase_11 : decode c_T_erase 11 = .ok (.aload_n 0, 1) := by decide +kernel
theorem d_T_erase_12 : decode c_T_erase 12 = .ok (.getfield 24, 3) := by decide +kernel
theorem d_T_erase_15 : decode c_T_erase 15 = .ok (.iload_n 1, 1) := by decide +kernel
theorem d_T_erase_16 : decode c_T_erase 16 = .ok (.aaload, 1) := by decide +kernel
theorem d_T_erase_17 : decode c_T_erase 17 = .ok (.aload_n 0, 1) := by decide +kernel
theorem d_T_erase_18 : decode c_T_erase 18 = .ok (.getfield 24, 3) := by decide +kernel
theorem d_T_erase_21 : decode c_T_erase 21 = .ok (.iload_n 1, 1) := by decide +kernel
theorem d_T_erase_22 : decode c_T_erase 22 = .ok (.aaload, 1) := by decide +kernel
theorem d_T_erase_23 : decode c_T_erase 23 = .ok (.iload_n 2, 1) := by decide +kernel
theorem d_T_erase_24 : decode c_T_erase 24 = .ok (.invokevirtual 41, 3) := by decide +kernel
theorem d_T_erase_27 : decode c_T_erase 27 = .ok (.iconst 0, 1) := by decide +kernel
theorem d_T_erase_28 : decode c_T_erase 28 = .ok (.invokevirtual 37, 3) := by decide +kernel
theorem d_T_erase_31 : decode c_T_erase 31 = .ok (.ireturn, 1) := by decide +kernel
abbrev c_T_deliver : ByteArray := prog_1_method_5_code
def y_T_deliver : MethodName := ⟨R_T, "deliver", "(III)I"⟩
def w_T_deliver : List Cond := .code y_T_deliver c_T_deliver 4 (some .int) :: gT
theorem k_T_deliver : Cond.code y_T_deliver c_T_deliver 4 (some .int) ∈ gT := gT_t (i := 191) (by decide +kernel) rfl
theorem hd_T_deliver : y_T_deliver.cls = R_T ∧ y_T_deliver.cls ≠ "java/lang/invoke/MethodHandle" ∧ y_T_deliver.cls ≠ "java/lang/invoke/VarHandle" ∧ (parseMethodDescriptor y_T_deliver.desc).map (fun d => d.parameters.length) = some 3 := by decide +kernel
theorem d_T_deliver_0 : decode c_T_deliver 0 = .ok (.aload_n 0, 1) := by decide +kernel
theorem d_T_deliver_1 : decode c_T_deliver 1 = .ok (.iload_n 1, 1) := by decide +kernel
theorem d_T_deliver_2 : decode c_T_deliver 2 = .ok (.invokevirtual 29, 3) := by decide +kernel
theorem d_T_deliver_5 : decode c_T_deliver 5 = .ok (.ifCond .ne 5, 3) := by decide +kernel
theorem d_T_deliver_8 : decode c_T_deliver 8 = .ok (.iconst (-1), 1) := by decide +kernel
theorem d_T_deliver_9 : decode c_T_deliver 9 = .ok (.ireturn, 1) := by decide +kernel
theorem d_T_deliver_10 : decode c_T_deliver 10 = .ok (.aload_n 0, 1) := by decide +kernel
theorem d_T_deliver_11 : decode c_T_deliver 11 = .ok (.aload_n 0, 1) := by decide +kernel
theorem d_T_deliver_12 : decode c_T_deliver 12 = .ok (.getfield 24, 3) := by decide +kernel
theorem d_T_deliver_15 : decode c_T_deliver 15 = .ok (.iload_n 1, 1) := by decide +kernel
theorem d_T_deliver_16 : decode c_T_deliver 16 = .ok (.aaload, 1) := by decide +kernel
theorem d_T_deliver_17 : decode c_T_deliver 17 = .ok (.aload_n 0, 1) := by decide +kernel
theorem d_T_deliver_18 : decode c_T_deliver 18 = .ok (.getfield 18, 3) := by decide +kernel
theorem d_T_deliver_21 : decode c_T_deliver 21 = .ok (.iload_n 2, 1) := by decide +kernel
theorem d_T_deliver_22 : decode c_T_deliver 22 = .ok (.iload_n 3, 1) := by decide +kernel
theorem d_T_deliver_23 : decode c_T_deliver 23 = .ok (.invokevirtual 44, 3) := by decide +kernel
theorem d_T_deliver_26 : decode c_T_deliver 26 = .ok (.invokevirtual 48, 3) := by decide +kernel
theorem d_T_deliver_29 : decode c_T_deliver 29 = .ok (.ireturn, 1) := by decide +kernel
abbrev c_T_arrive : ByteArray := prog_1_method_6_code
def y_T_arrive : MethodName := ⟨R_T, "arrive", "(IJ)I"⟩
def w_T_arrive : List Cond := .code y_T_arrive c_T_arrive 4 (some .int) :: gT
theorem k_T_arrive : Cond.code y_T_arrive c_T_arrive 4 (some .int) ∈ gT := gT_t (i := 246) (by decide +kernel) rfl
theorem hd_T_arrive : y_T_arrive.cls = R_T ∧ y_T_arrive.cls ≠ "java/lang/invoke/MethodHandle" ∧ y_T_arrive.cls ≠ "java/lang/invoke/VarHandle" ∧ (parseMethodDescriptor y_T_arrive.desc).map (fun d => d.parameters.length) = some 2 := by decide +kernel
theorem d_T_arrive_0 : decode c_T_arrive 0 = .ok (.aload_n 0, 1) := by decide +kernel
theorem d_T_arrive_1 : decode c_T_arrive 1 = .ok (.iload_n 1, 1) := by decide +kernel
theorem d_T_arrive_2 : decode c_T_arrive 2 = .ok (.invokevirtual 29, 3) := by decide +kernel
theorem d_T_arrive_5 : decode c_T_arrive 5 = .ok (.ifCond .ne 5, 3) := by decide +kernel
theorem d_T_arrive_8 : decode c_T_arrive 8 = .ok (.iconst (-1), 1) := by decide +kernel
theorem d_T_arrive_9 : decode c_T_arrive 9 = .ok (.ireturn, 1) := by decide +kernel
theorem d_T_arrive_10 : decode c_T_arrive 10 = .ok (.aload_n 0, 1) := by decide +kernel
theorem d_T_arrive_11 : decode c_T_arrive 11 = .ok (.aload_n 0, 1) := by decide +kernel
theorem d_T_arrive_12 : decode c_T_arrive 12 = .ok (.getfield 24, 3) := by decide +kernel
theorem d_T_arrive_15 : decode c_T_arrive 15 = .ok (.iload_n 1, 1) := by decide +kernel
theorem d_T_arrive_16 : decode c_T_arrive 16 = .ok (.aaload, 1) := by decide +kernel
theorem d_T_arrive_17 : decode c_T_arrive 17 = .ok (.aload_n 0, 1) := by decide +kernel
theorem d_T_arrive_18 : decode c_T_arrive 18 = .ok (.getfield 18, 3) := by decide +kernel
theorem d_T_arrive_21 : decode c_T_arrive 21 = .ok (.lload_n 2, 1) := by decide +kernel
theorem d_T_arrive_22 : decode c_T_arrive 22 = .ok (.invokevirtual 52, 3) := by decide +kernel
theorem d_T_arrive_25 : decode c_T_arrive 25 = .ok (.invokevirtual 48, 3) := by decide +kernel
theorem d_T_arrive_28 : decode c_T_arrive 28 = .ok (.ireturn, 1) := by decide +kernel
abbrev c_T_sync : ByteArray := prog_1_method_7_code
def y_T_sync : MethodName := ⟨R_T, "sync", "(II)I"⟩
def w_T_sync : List Cond := .code y_T_sync c_T_sync 7 (some .int) :: gT
theorem k_T_sync : Cond.code y_T_sync c_T_sync 7 (some .int) ∈ gT := gT_t (i := 261) (by decide +kernel) rfl
theorem hd_T_sync : y_T_sync.cls = R_T ∧ y_T_sync.cls ≠ "java/lang/invoke/MethodHandle" ∧ y_T_sync.cls ≠ "java/lang/invoke/VarHandle" ∧ (parseMethodDescriptor y_T_sync.desc).map (fun d => d.parameters.length) = some 2 := by decide +kernel
theorem d_T_sync_0 : decode c_T_sync 0 = .ok (.aload_n 0, 1) := by decide +kernel
theorem d_T_sync_1 : decode c_T_sync 1 = .ok (.iload_n 1, 1) := by decide +kernel
theorem d_T_sync_2 : decode c_T_sync 2 = .ok (.invokevirtual 29, 3) := by decide +kernel
theorem d_T_sync_5 : decode c_T_sync 5 = .ok (.ifCond .eq 16, 3) := by decide +kernel
theorem d_T_sync_8 : decode c_T_sync 8 = .ok (.aload_n 0, 1) := by decide +kernel
theorem d_T_sync_9 : decode c_T_sync 9 = .ok (.iload_n 2, 1) := by decide +kernel
theorem d_T_sync_10 : decode c_T_sync 10 = .ok (.invokevirtual 29, 3) := by decide +kernel
theorem d_T_sync_13 : decode c_T_sync 13 = .ok (.ifCond .eq 8, 3) := by decide +kernel
theorem d_T_sync_16 : decode c_T_sync 16 = .ok (.iload_n 1, 1) := by decide +kernel
theorem d_T_sync_17 : decode c_T_sync 17 = .ok (.iload_n 2, 1) := by decide +kernel
theorem d_T_sync_18 : decode c_T_sync 18 = .ok (.if_icmp .ne 5, 3) := by decide +kernel
theorem d_T_sync_21 : decode c_T_sync 21 = .ok (.iconst (-1), 1) := by decide +kernel
theorem d_T_sync_22 : decode c_T_sync 22 = .ok (.ireturn, 1) := by decide +kernel
theorem d_T_sync_23 : decode c_T_sync 23 = .ok (.iconst 0, 1) := by decide +kernel
theorem d_T_sync_24 : decode c_T_sync 24 = .ok (.istore_n 3, 1) := by decide +kernel
theorem d_T_sync_25 : decode c_T_sync 25 = .ok (.iconst 0, 1) := by decide +kernel
theorem d_T_sync_26 : decode c_T_sync 26 = .ok (.istore 4, 2) := by decide +kernel
theorem d_T_sync_28 : decode c_T_sync 28 = .ok (.iload 4, 2) := by decide +kernel
theorem d_T_sync_30 : decode c_T_sync 30 = .ok (.aload_n 0, 1) := by decide +kernel
theorem d_T_sync_31 : decode c_T_sync 31 = .ok (.getfield 7, 3) := by decide +kernel
theorem d_T_sync_34 : decode c_T_sync 34 = .ok (.if_icmp .ge 69, 3) := by decide +kernel
theorem d_T_sync_37 : decode c_T_sync 37 = .ok (.aload_n 0, 1) := by decide +kernel
theorem d_T_sync_38 : decode c_T_sync 38 = .ok (.getfield 24, 3) := by decide +kernel
theorem d_T_sync_41 : decode c_T_sync 41 = .ok (.iload_n 2, 1) := by decide +kernel
theorem d_T_sync_42 : decode c_T_sync 42 = .ok (.aaload, 1) := by decide +kernel
theorem d_T_sync_43 : decode c_T_sync 43 = .ok (.getfield 56, 3) := by decide +kernel
theorem d_T_sync_46 : decode c_T_sync 46 = .ok (.iload 4, 2) := by decide +kernel
theorem d_T_sync_48 : decode c_T_sync 48 = .ok (.invokestatic 59, 3) := by decide +kernel
theorem d_T_sync_51 : decode c_T_sync 51 = .ok (.istore 5, 2) := by decide +kernel
theorem d_T_sync_53 : decode c_T_sync 53 = .ok (.iconst 0, 1) := by decide +kernel
theorem d_T_sync_54 : decode c_T_sync 54 = .ok (.istore 6, 2) := by decide +kernel
theorem d_T_sync_56 : decode c_T_sync 56 = .ok (.iload 6, 2) := by decide +kernel
theorem d_T_sync_58 : decode c_T_sync 58 = .ok (.iload 5, 2) := by decide +kernel
theorem d_T_sync_60 : decode c_T_sync 60 = .ok (.if_icmp .ge 37, 3) := by decide +kernel
theorem d_T_sync_63 : decode c_T_sync 63 = .ok (.iload_n 3, 1) := by decide +kernel
theorem d_T_sync_64 : decode c_T_sync 64 = .ok (.iconst 0, 1) := by decide +kernel
theorem d_T_sync_65 : decode c_T_sync 65 = .ok (.aload_n 0, 1) := by decide +kernel
theorem d_T_sync_66 : decode c_T_sync 66 = .ok (.aload_n 0, 1) := by decide +kernel
theorem d_T_sync_67 : decode c_T_sync 67 = .ok (.getfield 24, 3) := by decide +kernel
theorem d_T_sync_70 : decode c_T_sync 70 = .ok (.iload_n 1, 1) := by decide +kernel
theorem d_T_sync_71 : decode c_T_sync 71 = .ok (.aaload, 1) := by decide +kernel
theorem d_T_sync_72 : decode c_T_sync 72 = .ok (.aload_n 0, 1) := by decide +kernel
theorem d_T_sync_73 : decode c_T_sync 73 = .ok (.getfield 18, 3) := by decide +kernel
theorem d_T_sync_76 : decode c_T_sync 76 = .ok (.iload 4, 2) := by decide +kernel
theorem d_T_sync_78 : decode c_T_sync 78 = .ok (.iload 6, 2) := by decide +kernel
theorem d_T_sync_80 : decode c_T_sync 80 = .ok (.invokevirtual 44, 3) := by decide +kernel
theorem d_T_sync_83 : decode c_T_sync 83 = .ok (.invokevirtual 48, 3) := by decide +kernel
theorem d_T_sync_86 : decode c_T_sync 86 = .ok (.invokestatic 65, 3) := by decide +kernel
theorem d_T_sync_89 : decode c_T_sync 89 = .ok (.iadd, 1) := by decide +kernel
theorem d_T_sync_90 : decode c_T_sync 90 = .ok (.istore_n 3, 1) := by decide +kernel
theorem d_T_sync_91 : decode c_T_sync 91 = .ok (.iinc 6 1, 3) := by decide +kernel
theorem d_T_sync_94 : decode c_T_sync 94 = .ok (.goto (-38), 3) := by decide +kernel
theorem d_T_sync_97 : decode c_T_sync 97 = .ok (.iinc 4 1, 3) := by decide +kernel
theorem d_T_sync_100 : decode c_T_sync 100 = .ok (.goto (-72), 3) := by decide +kernel
theorem d_T_sync_103 : decode c_T_sync 103 = .ok (.iload_n 3, 1) := by decide +kernel
theorem d_T_sync_104 : decode c_T_sync 104 = .ok (.ireturn, 1) := by decide +kernel
abbrev c_T_code : ByteArray := prog_1_method_8_code
def y_T_code : MethodName := ⟨R_T, "code", "(II)J"⟩
def w_T_code : List Cond := .code y_T_code c_T_code 4 (some .long) :: gT
theorem k_T_code : Cond.code y_T_code c_T_code 4 (some .long) ∈ gT := gT_t (i := 268) (by decide +kernel) rfl
theorem hd_T_code : y_T_code.cls = R_T ∧ y_T_code.cls ≠ "java/lang/invoke/MethodHandle" ∧ y_T_code.cls ≠ "java/lang/invoke/VarHandle" ∧ (parseMethodDescriptor y_T_code.desc).map (fun d => d.parameters.length) = some 2 := by decide +kernel
theorem d_T_code_0 : decode c_T_code 0 = .ok (.aload_n 0, 1) := by decide +kernel
theorem d_T_code_1 : decode c_T_code 1 = .ok (.getfield 18, 3) := by decide +kernel
theorem d_T_code_4 : decode c_T_code 4 = .ok (.iload_n 1, 1) := by decide +kernel
theorem d_T_code_5 : decode c_T_code 5 = .ok (.iload_n 2, 1) := by decide +kernel
theorem d_T_code_6 : decode c_T_code 6 = .ok (.invokevirtual 44, 3) := by decide +kernel
theorem d_T_code_9 : decode c_T_code 9 = .ok (.astore_n 3, 1) := by decide +kernel
theorem d_T_code_10 : decode c_T_code 10 = .ok (.aload_n 3, 1) := by decide +kernel
theorem d_T_code_11 : decode c_T_code 11 = .ok (.ifnonnull 9, 3) := by decide +kernel
theorem d_T_code_14 : decode c_T_code 14 = .ok (.ldc2_w 70, 3) := by decide +kernel
theorem d_T_code_17 : decode c_T_code 17 = .ok (.goto 7, 3) := by decide +kernel
theorem d_T_code_20 : decode c_T_code 20 = .ok (.aload_n 3, 1) := by decide +kernel
theorem d_T_code_21 : decode c_T_code 21 = .ok (.invokevirtual 72, 3) := by decide +kernel
theorem d_T_code_24 : decode c_T_code 24 = .ok (.lreturn, 1) := by decide +kernel
abbrev c_T_executed : ByteArray := prog_1_method_9_code
def y_T_executed : MethodName := ⟨R_T, "executed", "(II)I"⟩
def w_T_executed : List Cond := .code y_T_executed c_T_executed 3 (some .int) :: gT
theorem k_T_executed : Cond.code y_T_executed c_T_executed 3 (some .int) ∈ gT := gT_t (i := 274) (by decide +kernel) rfl
theorem hd_T_executed : y_T_executed.cls = R_T ∧ y_T_executed.cls ≠ "java/lang/invoke/MethodHandle" ∧ y_T_executed.cls ≠ "java/lang/invoke/VarHandle" ∧ (parseMethodDescriptor y_T_executed.desc).map (fun d => d.parameters.length) = some 2 := by decide +kernel
theorem d_T_executed_0 : decode c_T_executed 0 = .ok (.aload_n 0, 1) := by decide +kernel
theorem d_T_executed_1 : decode c_T_executed 1 = .ok (.iload_n 1, 1) := by decide +kernel
theorem d_T_executed_2 : decode c_T_executed 2 = .ok (.invokevirtual 29, 3) := by decide +kernel
theorem d_T_executed_5 : decode c_T_executed 5 = .ok (.ifCond .eq 11, 3) := by decide +kernel
theorem d_T_executed_8 : decode c_T_executed 8 = .ok (.aload_n 0, 1) := by decide +kernel
theorem d_T_executed_9 : decode c_T_executed 9 = .ok (.iload_n 2, 1) := by decide +kernel
theorem d_T_executed_10 : decode c_T_executed 10 = .ok (.invokevirtual 29, 3) := by decide +kernel
theorem d_T_executed_13 : decode c_T_executed 13 = .ok (.ifCond .ne 5, 3) := by decide +kernel
theorem d_T_executed_16 : decode c_T_executed 16 = .ok (.iconst (-1), 1) := by decide +kernel
theorem d_T_executed_17 : decode c_T_executed 17 = .ok (.ireturn, 1) := by decide +kernel
theorem d_T_executed_18 : decode c_T_executed 18 = .ok (.aload_n 0, 1) := by decide +kernel
theorem d_T_executed_19 : decode c_T_executed 19 = .ok (.getfield 24, 3) := by decide +kernel
theorem d_T_executed_22 : decode c_T_executed 22 = .ok (.iload_n 1, 1) := by decide +kernel
theorem d_T_executed_23 : decode c_T_executed 23 = .ok (.aaload, 1) := by decide +kernel
theorem d_T_executed_24 : decode c_T_executed 24 = .ok (.getfield 56, 3) := by decide +kernel
theorem d_T_executed_27 : decode c_T_executed 27 = .ok (.iload_n 2, 1) := by decide +kernel
theorem d_T_executed_28 : decode c_T_executed 28 = .ok (.invokestatic 59, 3) := by decide +kernel
theorem d_T_executed_31 : decode c_T_executed 31 = .ok (.ireturn, 1) := by decide +kernel
abbrev c_T_waiting : ByteArray := prog_1_method_10_code
def y_T_waiting : MethodName := ⟨R_T, "waiting", "(I)I"⟩
def w_T_waiting : List Cond := .code y_T_waiting c_T_waiting 2 (some .int) :: gT
theorem k_T_waiting : Cond.code y_T_waiting c_T_waiting 2 (some .int) ∈ gT := gT_t (i := 278) (by decide +kernel) rfl
theorem hd_T_waiting : y_T_waiting.cls = R_T ∧ y_T_waiting.cls ≠ "java/lang/invoke/MethodHandle" ∧ y_T_waiting.cls ≠ "java/lang/invoke/VarHandle" ∧ (parseMethodDescriptor y_T_waiting.desc).map (fun d => d.parameters.length) = some 1 := by decide +kernel
theorem d_T_waiting_0 : decode c_T_waiting 0 = .ok (.aload_n 0, 1) := by decide +kernel
theorem d_T_waiting_1 : decode c_T_waiting 1 = .ok (.iload_n 1, 1) := by decide +kernel
theorem d_T_waiting_2 : decode c_T_waiting 2 = .ok (.invokevirtual 29, 3) := by decide +kernel
theorem d_T_waiting_5 : decode c_T_waiting 5 = .ok (.ifCond .ne 5, 3) := by decide +kernel
theorem d_T_waiting_8 : decode c_T_waiting 8 = .ok (.iconst (-1), 1) := by decide +kernel
theorem d_T_waiting_9 : decode c_T_waiting 9 = .ok (.ireturn, 1) := by decide +kernel
theorem d_T_waiting_10 : decode c_T_waiting 10 = .ok (.aload_n 0, 1) := by decide +kernel
theorem d_T_waiting_11 : decode c_T_waiting 11 = .ok (.getfield 24, 3) := by decide +kernel
theorem d_T_waiting_14 : decode c_T_waiting 14 = .ok (.iload_n 1, 1) := by decide +kernel
theorem d_T_waiting_15 : decode c_T_waiting 15 = .ok (.aaload, 1) := by decide +kernel
theorem d_T_waiting_16 : decode c_T_waiting 16 = .ok (.getfield 78, 3) := by decide +kernel
theorem d_T_waiting_19 : decode c_T_waiting 19 = .ok (.aload_n 0, 1) := by decide +kernel
theorem d_T_waiting_20 : decode c_T_waiting 20 = .ok (.getfield 24, 3) := by decide +kernel
theorem d_T_waiting_23 : decode c_T_waiting 23 = .ok (.iload_n 1, 1) := by decide +kernel
theorem d_T_waiting_24 : decode c_T_waiting 24 = .ok (.aaload, 1) := by decide +kernel
theorem d_T_waiting_25 : decode c_T_waiting 25 = .ok (.getfield 81, 3) := by decide +kernel
theorem d_T_waiting_28 : decode c_T_waiting 28 = .ok (.isub, 1) := by decide +kernel
theorem d_T_waiting_29 : decode c_T_waiting 29 = .ok (.ireturn, 1) := by decide +kernel
abbrev c_T_place : ByteArray := prog_1_method_11_code
def y_T_place : MethodName := ⟨R_T, "place", "(III)I"⟩
def w_T_place : List Cond := .code y_T_place c_T_place 5 (some .int) :: gT
theorem k_T_place : Cond.code y_T_place c_T_place 5 (some .int) ∈ gT := gT_t (i := 282) (by decide +kernel) rfl
theorem hd_T_place : y_T_place.cls = R_T ∧ y_T_place.cls ≠ "java/lang/invoke/MethodHandle" ∧ y_T_place.cls ≠ "java/lang/invoke/VarHandle" ∧ (parseMethodDescriptor y_T_place.desc).map (fun d => d.parameters.length) = some 3 := by decide +kernel
theorem d_T_place_0 : decode c_T_place 0 = .ok (.aload_n 0, 1) := by decide +kernel
theorem d_T_place_1 : decode c_T_place 1 = .ok (.getfield 18, 3) := by decide +kernel
theorem d_T_place_4 : decode c_T_place 4 = .ok (.iload_n 2, 1) := by decide +kernel
theorem d_T_place_5 : decode c_T_place 5 = .ok (.iload_n 3, 1) := by decide +kernel
theorem d_T_place_6 : decode c_T_place 6 = .ok (.invokevirtual 44, 3) := by decide +kernel
theorem d_T_place_9 : decode c_T_place 9 = .ok (.astore 4, 2) := by decide +kernel
theorem d_T_place_11 : decode c_T_place 11 = .ok (.aload_n 0, 1) := by decide +kernel
theorem d_T_place_12 : decode c_T_place 12 = .ok (.iload_n 1, 1) := by decide +kernel
theorem d_T_place_13 : decode c_T_place 13 = .ok (.invokevirtual 29, 3) := by decide +kernel
theorem d_T_place_16 : decode c_T_place 16 = .ok (.ifCond .eq 8, 3) := by decide +kernel
theorem d_T_place_19 : decode c_T_place 19 = .ok (.aload 4, 2) := by decide +kernel
theorem d_T_place_21 : decode c_T_place 21 = .ok (.ifnonnull 5, 3) := by decide +kernel
theorem d_T_place_24 : decode c_T_place 24 = .ok (.iconst (-1), 1) := by decide +kernel
theorem d_T_place_25 : decode c_T_place 25 = .ok (.ireturn, 1) := by decide +kernel
theorem d_T_place_26 : decode c_T_place 26 = .ok (.aload_n 0, 1) := by decide +kernel
theorem d_T_place_27 : decode c_T_place 27 = .ok (.getfield 24, 3) := by decide +kernel
theorem d_T_place_30 : decode c_T_place 30 = .ok (.iload_n 1, 1) := by decide +kernel
theorem d_T_place_31 : decode c_T_place 31 = .ok (.aaload, 1) := by decide +kernel
theorem d_T_place_32 : decode c_T_place 32 = .ok (.getfield 84, 3) := by decide +kernel
theorem d_T_place_35 : decode c_T_place 35 = .ok (.aload 4, 2) := by decide +kernel
theorem d_T_place_37 : decode c_T_place 37 = .ok (.invokevirtual 88, 3) := by decide +kernel
theorem d_T_place_40 : decode c_T_place 40 = .ok (.iaload, 1) := by decide +kernel
theorem d_T_place_41 : decode c_T_place 41 = .ok (.ireturn, 1) := by decide +kernel
abbrev c_T_length : ByteArray := prog_1_method_12_code
def y_T_length : MethodName := ⟨R_T, "length", "(I)I"⟩
def w_T_length : List Cond := .code y_T_length c_T_length 2 (some .int) :: gT
theorem k_T_length : Cond.code y_T_length c_T_length 2 (some .int) ∈ gT := gT_t (i := 286) (by decide +kernel) rfl
theorem hd_T_length : y_T_length.cls = R_T ∧ y_T_length.cls ≠ "java/lang/invoke/MethodHandle" ∧ y_T_length.cls ≠ "java/lang/invoke/VarHandle" ∧ (parseMethodDescriptor y_T_length.desc).map (fun d => d.parameters.length) = some 1 := by decide +kernel
theorem d_T_length_0 : decode c_T_length 0 = .ok (.aload_n 0, 1) := by decide +kernel
theorem d_T_length_1 : decode c_T_length 1 = .ok (.iload_n 1, 1) := by decide +kernel
theorem d_T_length_2 : decode c_T_length 2 = .ok (.invokevirtual 29, 3) := by decide +kernel
theorem d_T_length_5 : decode c_T_length 5 = .ok (.ifCond .ne 5, 3) := by decide +kernel
theorem d_T_length_8 : decode c_T_length 8 = .ok (.iconst (-1), 1) := by decide +kernel
theorem d_T_length_9 : decode c_T_length 9 = .ok (.ireturn, 1) := by decide +kernel
theorem d_T_length_10 : decode c_T_length 10 = .ok (.aload_n 0, 1) := by decide +kernel
theorem d_T_length_11 : decode c_T_length 11 = .ok (.getfield 24, 3) := by decide +kernel
theorem d_T_length_14 : decode c_T_length 14 = .ok (.iload_n 1, 1) := by decide +kernel
theorem d_T_length_15 : decode c_T_length 15 = .ok (.aaload, 1) := by decide +kernel
theorem d_T_length_16 : decode c_T_length 16 = .ok (.invokevirtual 92, 3) := by decide +kernel
theorem d_T_length_19 : decode c_T_length 19 = .ok (.ireturn, 1) := by decide +kernel
abbrev c_T_at : ByteArray := prog_1_method_13_code
def y_T_at : MethodName := ⟨R_T, "at", "(II)I"⟩
def w_T_at : List Cond := .code y_T_at c_T_at 4 (some .int) :: gT
theorem k_T_at : Cond.code y_T_at c_T_at 4 (some .int) ∈ gT := gT_t (i := 291) (by decide +kernel) rfl
theorem hd_T_at : y_T_at.cls = R_T ∧ y_T_at.cls ≠ "java/lang/invoke/MethodHandle" ∧ y_T_at.cls ≠ "java/lang/invoke/VarHandle" ∧ (parseMethodDescriptor y_T_at.desc).map (fun d => d.parameters.length) = some 2 := by decide +kernel
theorem d_T_at_0 : decode c_T_at 0 = .ok (.aload_n 0, 1) := by decide +kernel
theorem d_T_at_1 : decode c_T_at 1 = .ok (.iload_n 1, 1) := by decide +kernel
theorem d_T_at_2 : decode c_T_at 2 = .ok (.invokevirtual 29, 3) := by decide +kernel
theorem d_T_at_5 : decode c_T_at 5 = .ok (.ifCond .ne 5, 3) := by decide +kernel
theorem d_T_at_8 : decode c_T_at 8 = .ok (.iconst (-1), 1) := by decide +kernel
theorem d_T_at_9 : decode c_T_at 9 = .ok (.ireturn, 1) := by decide +kernel
theorem d_T_at_10 : decode c_T_at 10 = .ok (.aload_n 0, 1) := by decide +kernel
theorem d_T_at_11 : decode c_T_at 11 = .ok (.getfield 24, 3) := by decide +kernel
theorem d_T_at_14 : decode c_T_at 14 = .ok (.iload_n 1, 1) := by decide +kernel
theorem d_T_at_15 : decode c_T_at 15 = .ok (.aaload, 1) := by decide +kernel
theorem d_T_at_16 : decode c_T_at 16 = .ok (.iload_n 2, 1) := by decide +kernel
theorem d_T_at_17 : decode c_T_at 17 = .ok (.invokevirtual 41, 3) := by decide +kernel
theorem d_T_at_20 : decode c_T_at 20 = .ok (.istore_n 3, 1) := by decide +kernel
theorem d_T_at_21 : decode c_T_at 21 = .ok (.iload_n 3, 1) := by decide +kernel
theorem d_T_at_22 : decode c_T_at 22 = .ok (.iconst (-1), 1) := by decide +kernel
theorem d_T_at_23 : decode c_T_at 23 = .ok (.if_icmp .ne 7, 3) := by decide +kernel
theorem d_T_at_26 : decode c_T_at 26 = .ok (.iconst (-1), 1) := by decide +kernel
theorem d_T_at_27 : decode c_T_at 27 = .ok (.goto 14, 3) := by decide +kernel
theorem d_T_at_30 : decode c_T_at 30 = .ok (.aload_n 0, 1) := by decide +kernel
theorem d_T_at_31 : decode c_T_at 31 = .ok (.getfield 24, 3) := by decide +kernel
theorem d_T_at_34 : decode c_T_at 34 = .ok (.iload_n 1, 1) := by decide +kernel
theorem d_T_at_35 : decode c_T_at 35 = .ok (.aaload, 1) := by decide +kernel
theorem d_T_at_36 : decode c_T_at 36 = .ok (.getfield 95, 3) := by decide +kernel
theorem d_T_at_39 : decode c_T_at 39 = .ok (.iload_n 3, 1) := by decide +kernel
theorem d_T_at_40 : decode c_T_at 40 = .ok (.iaload, 1) := by decide +kernel
theorem d_T_at_41 : decode c_T_at 41 = .ok (.ireturn, 1) := by decide +kernel
abbrev c_T_cells : ByteArray := prog_1_method_14_code
def y_T_cells : MethodName := ⟨R_T, "cells", "(I)I"⟩
def w_T_cells : List Cond := .code y_T_cells c_T_cells 2 (some .int) :: gT
theorem k_T_cells : Cond.code y_T_cells c_T_cells 2 (some .int) ∈ gT := gT_t (i := 295) (by decide +kernel) rfl
theorem hd_T_cells : y_T_cells.cls = R_T ∧ y_T_cells.cls ≠ "java/lang/invoke/MethodHandle" ∧ y_T_cells.cls ≠ "java/lang/invoke/VarHandle" ∧ (parseMethodDescriptor y_T_cells.desc).map (fun d => d.parameters.length) = some 1 := by decide +kernel
theorem d_T_cells_0 : decode c_T_cells 0 = .ok (.aload_n 0, 1) := by decide +kernel
theorem d_T_cells_1 : decode c_T_cells 1 = .ok (.iload_n 1, 1) := by decide +kernel
theorem d_T_cells_2 : decode c_T_cells 2 = .ok (.invokevirtual 29, 3) := by decide +kernel
theorem d_T_cells_5 : decode c_T_cells 5 = .ok (.ifCond .ne 5, 3) := by decide +kernel
theorem d_T_cells_8 : decode c_T_cells 8 = .ok (.iconst (-1), 1) := by decide +kernel
theorem d_T_cells_9 : decode c_T_cells 9 = .ok (.ireturn, 1) := by decide +kernel
theorem d_T_cells_10 : decode c_T_cells 10 = .ok (.aload_n 0, 1) := by decide +kernel
theorem d_T_cells_11 : decode c_T_cells 11 = .ok (.getfield 24, 3) := by decide +kernel
theorem d_T_cells_14 : decode c_T_cells 14 = .ok (.iload_n 1, 1) := by decide +kernel
theorem d_T_cells_15 : decode c_T_cells 15 = .ok (.aaload, 1) := by decide +kernel
theorem d_T_cells_16 : decode c_T_cells 16 = .ok (.getfield 98, 3) := by decide +kernel
theorem d_T_cells_19 : decode c_T_cells 19 = .ok (.ireturn, 1) := by decide +kernel
abbrev c_T_cell : ByteArray := prog_1_method_15_code
def y_T_cell : MethodName := ⟨R_T, "cell", "(II)I"⟩
def w_T_cell : List Cond := .code y_T_cell c_T_cell 3 (some .int) :: gT
theorem k_T_cell : Cond.code y_T_cell c_T_cell 3 (some .int) ∈ gT := gT_t (i := 299) (by decide +kernel) rfl
theorem hd_T_cell : y_T_cell.cls = R_T ∧ y_T_cell.cls ≠ "java/lang/invoke/MethodHandle" ∧ y_T_cell.cls ≠ "java/lang/invoke/VarHandle" ∧ (parseMethodDescriptor y_T_cell.desc).map (fun d => d.parameters.length) = some 2 := by decide +kernel
theorem d_T_cell_0 : decode c_T_cell 0 = .ok (.aload_n 0, 1) := by decide +kernel
theorem d_T_cell_1 : decode c_T_cell 1 = .ok (.iload_n 1, 1) := by decide +kernel
theorem d_T_cell_2 : decode c_T_cell 2 = .ok (.invokevirtual 29, 3) := by decide +kernel
theorem d_T_cell_5 : decode c_T_cell 5 = .ok (.ifCond .eq 20, 3) := by decide +kernel
theorem d_T_cell_8 : decode c_T_cell 8 = .ok (.iload_n 2, 1) := by decide +kernel
theorem d_T_cell_9 : decode c_T_cell 9 = .ok (.ifCond .lt 16, 3) := by decide +kernel
theorem d_T_cell_12 : decode c_T_cell 12 = .ok (.iload_n 2, 1) := by decide +kernel
theorem d_T_cell_13 : decode c_T_cell 13 = .ok (.aload_n 0, 1) := by decide +kernel
theorem d_T_cell_14 : decode c_T_cell 14 = .ok (.getfield 24, 3) := by decide +kernel
theorem d_T_cell_17 : decode c_T_cell 17 = .ok (.iload_n 1, 1) := by decide +kernel
theorem d_T_cell_18 : decode c_T_cell 18 = .ok (.aaload, 1) := by decide +kernel
theorem d_T_cell_19 : decode c_T_cell 19 = .ok (.getfield 98, 3) := by decide +kernel
theorem d_T_cell_22 : decode c_T_cell 22 = .ok (.if_icmp .lt 5, 3) := by decide +kernel
theorem d_T_cell_25 : decode c_T_cell 25 = .ok (.iconst 0, 1) := by decide +kernel
theorem d_T_cell_26 : decode c_T_cell 26 = .ok (.ireturn, 1) := by decide +kernel
theorem d_T_cell_27 : decode c_T_cell 27 = .ok (.aload_n 0, 1) := by decide +kernel
theorem d_T_cell_28 : decode c_T_cell 28 = .ok (.getfield 24, 3) := by decide +kernel
theorem d_T_cell_31 : decode c_T_cell 31 = .ok (.iload_n 1, 1) := by decide +kernel
theorem d_T_cell_32 : decode c_T_cell 32 = .ok (.aaload, 1) := by decide +kernel
theorem d_T_cell_33 : decode c_T_cell 33 = .ok (.getfield 95, 3) := by decide +kernel
theorem d_T_cell_36 : decode c_T_cell 36 = .ok (.iload_n 2, 1) := by decide +kernel
theorem d_T_cell_37 : decode c_T_cell 37 = .ok (.iaload, 1) := by decide +kernel
theorem d_T_cell_38 : decode c_T_cell 38 = .ok (.ireturn, 1) := by decide +kernel
abbrev c_T_stable : ByteArray := prog_1_method_16_code
def y_T_stable : MethodName := ⟨R_T, "stable", "(II)I"⟩
def w_T_stable : List Cond := .code y_T_stable c_T_stable 6 (some .int) :: gT
theorem k_T_stable : Cond.code y_T_stable c_T_stable 6 (some .int) ∈ gT := gT_t (i := 303) (by decide +kernel) rfl
theorem hd_T_stable : y_T_stable.cls = R_T ∧ y_T_stable.cls ≠ "java/lang/invoke/MethodHandle" ∧ y_T_stable.cls ≠ "java/lang/invoke/VarHandle" ∧ (parseMethodDescriptor y_T_stable.desc).map (fun d => d.parameters.length) = some 2 := by decide +kernel
theorem d_T_stable_0 : decode c_T_stable 0 = .ok (.aload_n 0, 1) := by decide +kernel
theorem d_T_stable_1 : decode c_T_stable 1 = .ok (.iload_n 1, 1) := by decide +kernel
theorem d_T_stable_2 : decode c_T_stable 2 = .ok (.invokevirtual 29, 3) := by decide +kernel
theorem d_T_stable_5 : decode c_T_stable 5 = .ok (.ifCond .eq 11, 3) := by decide +kernel
theorem d_T_stable_8 : decode c_T_stable 8 = .ok (.aload_n 0, 1) := by decide +kernel
theorem d_T_stable_9 : decode c_T_stable 9 = .ok (.iload_n 2, 1) := by decide +kernel
theorem d_T_stable_10 : decode c_T_stable 10 = .ok (.invokevirtual 29, 3) := by decide +kernel
theorem d_T_stable_13 : decode c_T_stable 13 = .ok (.ifCond .ne 5, 3) := by decide +kernel
theorem d_T_stable_16 : decode c_T_stable 16 = .ok (.iconst (-1), 1) := by decide +kernel
theorem d_T_stable_17 : decode c_T_stable 17 = .ok (.ireturn, 1) := by decide +kernel
theorem d_T_stable_18 : decode c_T_stable 18 = .ok (.aload_n 0, 1) := by decide +kernel
theorem d_T_stable_19 : decode c_T_stable 19 = .ok (.getfield 24, 3) := by decide +kernel
theorem d_T_stable_22 : decode c_T_stable 22 = .ok (.iload_n 1, 1) := by decide +kernel
theorem d_T_stable_23 : decode c_T_stable 23 = .ok (.aaload, 1) := by decide +kernel
theorem d_T_stable_24 : decode c_T_stable 24 = .ok (.getfield 56, 3) := by decide +kernel
theorem d_T_stable_27 : decode c_T_stable 27 = .ok (.istore_n 3, 1) := by decide +kernel
theorem d_T_stable_28 : decode c_T_stable 28 = .ok (.iload_n 3, 1) := by decide +kernel
theorem d_T_stable_29 : decode c_T_stable 29 = .ok (.iload_n 2, 1) := by decide +kernel
theorem d_T_stable_30 : decode c_T_stable 30 = .ok (.invokestatic 59, 3) := by decide +kernel
theorem d_T_stable_33 : decode c_T_stable 33 = .ok (.istore 4, 2) := by decide +kernel
theorem d_T_stable_35 : decode c_T_stable 35 = .ok (.iconst 0, 1) := by decide +kernel
theorem d_T_stable_36 : decode c_T_stable 36 = .ok (.istore 5, 2) := by decide +kernel
theorem d_T_stable_38 : decode c_T_stable 38 = .ok (.iload 5, 2) := by decide +kernel
theorem d_T_stable_40 : decode c_T_stable 40 = .ok (.aload_n 0, 1) := by decide +kernel
theorem d_T_stable_41 : decode c_T_stable 41 = .ok (.getfield 7, 3) := by decide +kernel
theorem d_T_stable_44 : decode c_T_stable 44 = .ok (.if_icmp .ge 36, 3) := by decide +kernel
theorem d_T_stable_47 : decode c_T_stable 47 = .ok (.iload 5, 2) := by decide +kernel
theorem d_T_stable_49 : decode c_T_stable 49 = .ok (.iload_n 1, 1) := by decide +kernel
theorem d_T_stable_50 : decode c_T_stable 50 = .ok (.if_icmp .eq 24, 3) := by decide +kernel
theorem d_T_stable_53 : decode c_T_stable 53 = .ok (.iload 4, 2) := by decide +kernel
theorem d_T_stable_55 : decode c_T_stable 55 = .ok (.aload_n 0, 1) := by decide +kernel
theorem d_T_stable_56 : decode c_T_stable 56 = .ok (.getfield 18, 3) := by decide +kernel
theorem d_T_stable_59 : decode c_T_stable 59 = .ok (.iload_n 3, 1) := by decide +kernel
theorem d_T_stable_60 : decode c_T_stable 60 = .ok (.iload 5, 2) := by decide +kernel
theorem d_T_stable_62 : decode c_T_stable 62 = .ok (.invokevirtual 101, 3) := by decide +kernel
theorem d_T_stable_65 : decode c_T_stable 65 = .ok (.iload_n 2, 1) := by decide +kernel
theorem d_T_stable_66 : decode c_T_stable 66 = .ok (.invokestatic 104, 3) := by decide +kernel
theorem d_T_stable_69 : decode c_T_stable 69 = .ok (.invokestatic 108, 3) := by decide +kernel
theorem d_T_stable_72 : decode c_T_stable 72 = .ok (.istore 4, 2) := by decide +kernel
theorem d_T_stable_74 : decode c_T_stable 74 = .ok (.iinc 5 1, 3) := by decide +kernel
theorem d_T_stable_77 : decode c_T_stable 77 = .ok (.goto (-39), 3) := by decide +kernel
theorem d_T_stable_80 : decode c_T_stable 80 = .ok (.iload 4, 2) := by decide +kernel
theorem d_T_stable_82 : decode c_T_stable 82 = .ok (.ireturn, 1) := by decide +kernel
abbrev c_T_isSite : ByteArray := prog_1_method_17_code
def y_T_isSite : MethodName := ⟨R_T, "isSite", "(I)Z"⟩
def w_T_isSite : List Cond := .code y_T_isSite c_T_isSite 2 (some .boolean) :: gT
theorem k_T_isSite : Cond.code y_T_isSite c_T_isSite 2 (some .boolean) ∈ gT := gT_t (i := 105) (by decide +kernel) rfl
theorem hd_T_isSite : y_T_isSite.cls = R_T ∧ y_T_isSite.cls ≠ "java/lang/invoke/MethodHandle" ∧ y_T_isSite.cls ≠ "java/lang/invoke/VarHandle" ∧ (parseMethodDescriptor y_T_isSite.desc).map (fun d => d.parameters.length) = some 1 := by decide +kernel
theorem d_T_isSite_0 : decode c_T_isSite 0 = .ok (.iload_n 1, 1) := by decide +kernel
theorem d_T_isSite_1 : decode c_T_isSite 1 = .ok (.ifCond .lt 15, 3) := by decide +kernel
theorem d_T_isSite_4 : decode c_T_isSite 4 = .ok (.iload_n 1, 1) := by decide +kernel
theorem d_T_isSite_5 : decode c_T_isSite 5 = .ok (.aload_n 0, 1) := by decide +kernel
theorem d_T_isSite_6 : decode c_T_isSite 6 = .ok (.getfield 7, 3) := by decide +kernel
theorem d_T_isSite_9 : decode c_T_isSite 9 = .ok (.if_icmp .ge 7, 3) := by decide +kernel
theorem d_T_isSite_12 : decode c_T_isSite 12 = .ok (.iconst 1, 1) := by decide +kernel
theorem d_T_isSite_13 : decode c_T_isSite 13 = .ok (.goto 4, 3) := by decide +kernel
theorem d_T_isSite_16 : decode c_T_isSite 16 = .ok (.iconst 0, 1) := by decide +kernel
theorem d_T_isSite_17 : decode c_T_isSite 17 = .ok (.ireturn, 1) := by decide +kernel
abbrev c_T_make : ByteArray := prog_1_method_18_code
def y_T_make : MethodName := ⟨R_T, "make", "(LTombstoneSites$Copy;II)I"⟩
def w_T_make : List Cond := .code y_T_make c_T_make 6 (some .int) :: gT
theorem k_T_make : Cond.code y_T_make c_T_make 6 (some .int) ∈ gT := gT_t (i := 121) (by decide +kernel) rfl
theorem hd_T_make : y_T_make.cls = R_T ∧ y_T_make.cls ≠ "java/lang/invoke/MethodHandle" ∧ y_T_make.cls ≠ "java/lang/invoke/VarHandle" ∧ (parseMethodDescriptor y_T_make.desc).map (fun d => d.parameters.length) = some 3 := by decide +kernel
theorem d_T_make_0 : decode c_T_make 0 = .ok (.aload_n 1, 1) := by decide +kernel
theorem d_T_make_1 : decode c_T_make 1 = .ok (.getfield 56, 3) := by decide +kernel
theorem d_T_make_4 : decode c_T_make 4 = .ok (.aload_n 1, 1) := by decide +kernel
theorem d_T_make_5 : decode c_T_make 5 = .ok (.getfield 111, 3) := by decide +kernel
theorem d_T_make_8 : decode c_T_make 8 = .ok (.invokestatic 59, 3) := by decide +kernel
theorem d_T_make_11 : decode c_T_make 11 = .ok (.istore 4, 2) := by decide +kernel
theorem d_T_make_13 : decode c_T_make 13 = .ok (.iload_n 2, 1) := by decide +kernel
theorem d_T_make_14 : decode c_T_make 14 = .ok (.iconst (-1), 1) := by decide +kernel
theorem d_T_make_15 : decode c_T_make 15 = .ok (.if_icmp .eq 10, 3) := by decide +kernel
theorem d_T_make_18 : decode c_T_make 18 = .ok (.iload 4, 2) := by decide +kernel
theorem d_T_make_20 : decode c_T_make 20 = .ok (.bipush 6, 2) := by decide +kernel
theorem d_T_make_22 : decode c_T_make 22 = .ok (.if_icmp .lt 5, 3) := by decide +kernel
theorem d_T_make_25 : decode c_T_make 25 = .ok (.iconst (-1), 1) := by decide +kernel
theorem d_T_make_26 : decode c_T_make 26 = .ok (.ireturn, 1) := by decide +kernel
theorem d_T_make_27 : decode c_T_make 27 = .ok (.new 73, 3) := by decide +kernel
theorem d_T_make_30 : decode c_T_make 30 = .ok (.dup, 1) := by decide +kernel
theorem d_T_make_31 : decode c_T_make 31 = .ok (.aload_n 1, 1) := by decide +kernel
theorem d_T_make_32 : decode c_T_make 32 = .ok (.getfield 111, 3) := by decide +kernel
theorem d_T_make_35 : decode c_T_make 35 = .ok (.iload 4, 2) := by decide +kernel
theorem d_T_make_37 : decode c_T_make 37 = .ok (.iload_n 3, 1) := by decide +kernel
theorem d_T_make_38 : decode c_T_make 38 = .ok (.iload_n 2, 1) := by decide +kernel
theorem d_T_make_39 : decode c_T_make 39 = .ok (.aload_n 1, 1) := by decide +kernel
theorem d_T_make_40 : decode c_T_make 40 = .ok (.getfield 56, 3) := by decide +kernel
theorem d_T_make_43 : decode c_T_make 43 = .ok (.invokespecial 114, 3) := by decide +kernel
theorem d_T_make_46 : decode c_T_make 46 = .ok (.astore 5, 2) := by decide +kernel
theorem d_T_make_48 : decode c_T_make 48 = .ok (.aload_n 0, 1) := by decide +kernel
theorem d_T_make_49 : decode c_T_make 49 = .ok (.getfield 18, 3) := by decide +kernel
theorem d_T_make_52 : decode c_T_make 52 = .ok (.aload 5, 2) := by decide +kernel
theorem d_T_make_54 : decode c_T_make 54 = .ok (.invokevirtual 117, 3) := by decide +kernel
theorem d_T_make_57 : decode c_T_make 57 = .ok (.aload_n 1, 1) := by decide +kernel
theorem d_T_make_58 : decode c_T_make 58 = .ok (.aload 5, 2) := by decide +kernel
theorem d_T_make_60 : decode c_T_make 60 = .ok (.iload_n 2, 1) := by decide +kernel
theorem d_T_make_61 : decode c_T_make 61 = .ok (.invokevirtual 121, 3) := by decide +kernel
theorem d_T_make_64 : decode c_T_make 64 = .ok (.iload 4, 2) := by decide +kernel
theorem d_T_make_66 : decode c_T_make 66 = .ok (.ireturn, 1) := by decide +kernel
abbrev c_T_receive : ByteArray := prog_1_method_19_code
def y_T_receive : MethodName := ⟨R_T, "receive", "(LTombstoneSites$Copy;LTombstoneSites$Operation;)I"⟩
def w_T_receive : List Cond := .code y_T_receive c_T_receive 5 (some .int) :: gT
theorem k_T_receive : Cond.code y_T_receive c_T_receive 5 (some .int) ∈ gT := gT_t (i := 199) (by decide +kernel) rfl
theorem hd_T_receive : y_T_receive.cls = R_T ∧ y_T_receive.cls ≠ "java/lang/invoke/MethodHandle" ∧ y_T_receive.cls ≠ "java/lang/invoke/VarHandle" ∧ (parseMethodDescriptor y_T_receive.desc).map (fun d => d.parameters.length) = some 2 := by decide +kernel
theorem d_T_receive_0 : decode c_T_receive 0 = .ok (.aload_n 2, 1) := by decide +kernel
theorem d_T_receive_1 : decode c_T_receive 1 = .ok (.ifnull 26, 3) := by decide +kernel
theorem d_T_receive_4 : decode c_T_receive 4 = .ok (.aload_n 2, 1) := by decide +kernel
theorem d_T_receive_5 : decode c_T_receive 5 = .ok (.getfield 125, 3) := by decide +kernel
theorem d_T_receive_8 : decode c_T_receive 8 = .ok (.aload_n 1, 1) := by decide +kernel
theorem d_T_receive_9 : decode c_T_receive 9 = .ok (.getfield 111, 3) := by decide +kernel
theorem d_T_receive_12 : decode c_T_receive 12 = .ok (.if_icmp .eq 15, 3) := by decide +kernel
theorem d_T_receive_15 : decode c_T_receive 15 = .ok (.aload_n 1, 1) := by decide +kernel
theorem d_T_receive_16 : decode c_T_receive 16 = .ok (.getfield 126, 3) := by decide +kernel
theorem d_T_receive_19 : decode c_T_receive 19 = .ok (.aload_n 2, 1) := by decide +kernel
theorem d_T_receive_20 : decode c_T_receive 20 = .ok (.invokevirtual 88, 3) := by decide +kernel
theorem d_T_receive_23 : decode c_T_receive 23 = .ok (.baload, 1) := by decide +kernel
theorem d_T_receive_24 : decode c_T_receive 24 = .ok (.ifCond .eq 5, 3) := by decide +kernel
theorem d_T_receive_27 : decode c_T_receive 27 = .ok (.iconst (-1), 1) := by decide +kernel
theorem d_T_receive_28 : decode c_T_receive 28 = .ok (.ireturn, 1) := by decide +kernel
theorem d_T_receive_29 : decode c_T_receive 29 = .ok (.aload_n 1, 1) := by decide +kernel
theorem d_T_receive_30 : decode c_T_receive 30 = .ok (.aload_n 2, 1) := by decide +kernel
theorem d_T_receive_31 : decode c_T_receive 31 = .ok (.invokevirtual 130, 3) := by decide +kernel
theorem d_T_receive_34 : decode c_T_receive 34 = .ok (.iconst 0, 1) := by decide +kernel
theorem d_T_receive_35 : decode c_T_receive 35 = .ok (.istore_n 3, 1) := by decide +kernel
theorem d_T_receive_36 : decode c_T_receive 36 = .ok (.aload_n 0, 1) := by decide +kernel
theorem d_T_receive_37 : decode c_T_receive 37 = .ok (.aload_n 1, 1) := by decide +kernel
theorem d_T_receive_38 : decode c_T_receive 38 = .ok (.invokevirtual 133, 3) := by decide +kernel
theorem d_T_receive_41 : decode c_T_receive 41 = .ok (.astore 4, 2) := by decide +kernel
theorem d_T_receive_43 : decode c_T_receive 43 = .ok (.aload 4, 2) := by decide +kernel
theorem d_T_receive_45 : decode c_T_receive 45 = .ok (.ifnull 43, 3) := by decide +kernel
theorem d_T_receive_48 : decode c_T_receive 48 = .ok (.iload_n 3, 1) := by decide +kernel
theorem d_T_receive_49 : decode c_T_receive 49 = .ok (.bipush 18, 2) := by decide +kernel
theorem d_T_receive_51 : decode c_T_receive 51 = .ok (.if_icmp .ge 37, 3) := by decide +kernel
theorem d_T_receive_54 : decode c_T_receive 54 = .ok (.aload_n 1, 1) := by decide +kernel
theorem d_T_receive_55 : decode c_T_receive 55 = .ok (.aload 4, 2) := by decide +kernel
theorem d_T_receive_57 : decode c_T_receive 57 = .ok (.aload_n 0, 1) := by decide +kernel
theorem d_T_receive_58 : decode c_T_receive 58 = .ok (.getfield 18, 3) := by decide +kernel
theorem d_T_receive_61 : decode c_T_receive 61 = .ok (.aload 4, 2) := by decide +kernel
theorem d_T_receive_63 : decode c_T_receive 63 = .ok (.aload_n 1, 1) := by decide +kernel
theorem d_T_receive_64 : decode c_T_receive 64 = .ok (.getfield 56, 3) := by decide +kernel
theorem d_T_receive_67 : decode c_T_receive 67 = .ok (.bipush 18, 2) := by decide +kernel
theorem d_T_receive_69 : decode c_T_receive 69 = .ok (.invokevirtual 137, 3) := by decide +kernel
theorem d_T_receive_72 : decode c_T_receive 72 = .ok (.invokevirtual 121, 3) := by decide +kernel
theorem d_T_receive_75 : decode c_T_receive 75 = .ok (.iinc 3 1, 3) := by decide +kernel
theorem d_T_receive_78 : decode c_T_receive 78 = .ok (.aload_n 0, 1) := by decide +kernel
theorem d_T_receive_79 : decode c_T_receive 79 = .ok (.aload_n 1, 1) := by decide +kernel
theorem d_T_receive_80 : decode c_T_receive 80 = .ok (.invokevirtual 133, 3) := by decide +kernel
theorem d_T_receive_83 : decode c_T_receive 83 = .ok (.astore 4, 2) := by decide +kernel
theorem d_T_receive_85 : decode c_T_receive 85 = .ok (.goto (-42), 3) := by decide +kernel
theorem d_T_receive_88 : decode c_T_receive 88 = .ok (.iload_n 3, 1) := by decide +kernel
theorem d_T_receive_89 : decode c_T_receive 89 = .ok (.ireturn, 1) := by decide +kernel
abbrev c_T_firstReady : ByteArray := prog_1_method_20_code
def y_T_firstReady : MethodName := ⟨R_T, "firstReady", "(LTombstoneSites$Copy;)LTombstoneSites$Operation;"⟩
def w_T_firstReady : List Cond := .code y_T_firstReady c_T_firstReady 4 (some (.object "TombstoneSites$Operation")) :: gT
theorem k_T_firstReady : Cond.code y_T_firstReady c_T_firstReady 4 (some (.object "TombstoneSites$Operation")) ∈ gT := gT_t (i := 208) (by decide +kernel) rfl
theorem hd_T_firstReady : y_T_firstReady.cls = R_T ∧ y_T_firstReady.cls ≠ "java/lang/invoke/MethodHandle" ∧ y_T_firstReady.cls ≠ "java/lang/invoke/VarHandle" ∧ (parseMethodDescriptor y_T_firstReady.desc).map (fun d => d.parameters.length) = some 1 := by decide +kernel
theorem d_T_firstReady_0 : decode c_T_firstReady 0 = .ok (.iconst 0, 1) := by decide +kernel
theorem d_T_firstReady_1 : decode c_T_firstReady 1 = .ok (.istore_n 2, 1) := by decide +kernel
theorem d_T_firstReady_2 : decode c_T_firstReady 2 = .ok (.iload_n 2, 1) := by decide +kernel
theorem d_T_firstReady_3 : decode c_T_firstReady 3 = .ok (.aload_n 0, 1) := by decide +kernel
theorem d_T_firstReady_4 : decode c_T_firstReady 4 = .ok (.getfield 7, 3) := by decide +kernel
theorem d_T_firstReady_7 : decode c_T_firstReady 7 = .ok (.if_icmp .ge 58, 3) := by decide +kernel
theorem d_T_firstReady_10 : decode c_T_firstReady 10 = .ok (.aload_n 0, 1) := by decide +kernel
theorem d_T_firstReady_11 : decode c_T_firstReady 11 = .ok (.getfield 18, 3) := by decide +kernel
theorem d_T_firstReady_14 : decode c_T_firstReady 14 = .ok (.iload_n 2, 1) := by decide +kernel
theorem d_T_firstReady_15 : decode c_T_firstReady 15 = .ok (.aload_n 1, 1) := by decide +kernel
theorem d_T_firstReady_16 : decode c_T_firstReady 16 = .ok (.getfield 56, 3) := by decide +kernel
theorem d_T_firstReady_19 : decode c_T_firstReady 19 = .ok (.iload_n 2, 1) := by decide +kernel
theorem d_T_firstReady_20 : decode c_T_firstReady 20 = .ok (.invokestatic 59, 3) := by decide +kernel
theorem d_T_firstReady_23 : decode c_T_firstReady 23 = .ok (.invokevirtual 44, 3) := by decide +kernel
theorem d_T_firstReady_26 : decode c_T_firstReady 26 = .ok (.astore_n 3, 1) := by decide +kernel
theorem d_T_firstReady_27 : decode c_T_firstReady 27 = .ok (.aload_n 3, 1) := by decide +kernel
theorem d_T_firstReady_28 : decode c_T_firstReady 28 = .ok (.ifnull 31, 3) := by decide +kernel
theorem d_T_firstReady_31 : decode c_T_firstReady 31 = .ok (.aload_n 1, 1) := by decide +kernel
theorem d_T_firstReady_32 : decode c_T_firstReady 32 = .ok (.getfield 126, 3) := by decide +kernel
theorem d_T_firstReady_35 : decode c_T_firstReady 35 = .ok (.aload_n 3, 1) := by decide +kernel
theorem d_T_firstReady_36 : decode c_T_firstReady 36 = .ok (.invokevirtual 88, 3) := by decide +kernel
theorem d_T_firstReady_39 : decode c_T_firstReady 39 = .ok (.baload, 1) := by decide +kernel
theorem d_T_firstReady_40 : decode c_T_firstReady 40 = .ok (.ifCond .eq 19, 3) := by decide +kernel
theorem d_T_firstReady_43 : decode c_T_firstReady 43 = .ok (.aload_n 1, 1) := by decide +kernel
theorem d_T_firstReady_44 : decode c_T_firstReady 44 = .ok (.getfield 56, 3) := by decide +kernel
theorem d_T_firstReady_47 : decode c_T_firstReady 47 = .ok (.aload_n 3, 1) := by decide +kernel
theorem d_T_firstReady_48 : decode c_T_firstReady 48 = .ok (.getfield 141, 3) := by decide +kernel
theorem d_T_firstReady_51 : decode c_T_firstReady 51 = .ok (.invokestatic 144, 3) := by decide +kernel
theorem d_T_firstReady_54 : decode c_T_firstReady 54 = .ok (.ifCond .eq 5, 3) := by decide +kernel
theorem d_T_firstReady_57 : decode c_T_firstReady 57 = .ok (.aload_n 3, 1) := by decide +kernel
theorem d_T_firstReady_58 : decode c_T_firstReady 58 = .ok (.areturn, 1) := by decide +kernel
theorem d_T_firstReady_59 : decode c_T_firstReady 59 = .ok (.iinc 2 1, 3) := by decide +kernel
theorem d_T_firstReady_62 : decode c_T_firstReady 62 = .ok (.goto (-60), 3) := by decide +kernel
theorem d_T_firstReady_65 : decode c_T_firstReady 65 = .ok (.aconst_null, 1) := by decide +kernel
theorem d_T_firstReady_66 : decode c_T_firstReady 66 = .ok (.areturn, 1) := by decide +kernel
abbrev c_T_toldBy : ByteArray := prog_1_method_21_code
def y_T_toldBy : MethodName := ⟨R_T, "toldBy", "(LTombstoneSites$Operation;I)I"⟩
def w_T_toldBy : List Cond := .code y_T_toldBy c_T_toldBy 3 (some .int) :: gT
theorem k_T_toldBy : Cond.code y_T_toldBy c_T_toldBy 3 (some .int) ∈ gT := gT_t (i := 307) (by decide +kernel) rfl
theorem hd_T_toldBy : y_T_toldBy.cls = R_T ∧ y_T_toldBy.cls ≠ "java/lang/invoke/MethodHandle" ∧ y_T_toldBy.cls ≠ "java/lang/invoke/VarHandle" ∧ (parseMethodDescriptor y_T_toldBy.desc).map (fun d => d.parameters.length) = some 2 := by decide +kernel
theorem d_T_toldBy_0 : decode c_T_toldBy 0 = .ok (.aload_n 0, 1) := by decide +kernel
theorem d_T_toldBy_1 : decode c_T_toldBy 1 = .ok (.ifnonnull 5, 3) := by decide +kernel
theorem d_T_toldBy_4 : decode c_T_toldBy 4 = .ok (.iconst 0, 1) := by decide +kernel
theorem d_T_toldBy_5 : decode c_T_toldBy 5 = .ok (.ireturn, 1) := by decide +kernel
theorem d_T_toldBy_6 : decode c_T_toldBy 6 = .ok (.aload_n 0, 1) := by decide +kernel
theorem d_T_toldBy_7 : decode c_T_toldBy 7 = .ok (.getfield 141, 3) := by decide +kernel
theorem d_T_toldBy_10 : decode c_T_toldBy 10 = .ok (.iload_n 1, 1) := by decide +kernel
theorem d_T_toldBy_11 : decode c_T_toldBy 11 = .ok (.invokestatic 59, 3) := by decide +kernel
theorem d_T_toldBy_14 : decode c_T_toldBy 14 = .ok (.istore_n 2, 1) := by decide +kernel
theorem d_T_toldBy_15 : decode c_T_toldBy 15 = .ok (.aload_n 0, 1) := by decide +kernel
theorem d_T_toldBy_16 : decode c_T_toldBy 16 = .ok (.getfield 125, 3) := by decide +kernel
theorem d_T_toldBy_19 : decode c_T_toldBy 19 = .ok (.iload_n 1, 1) := by decide +kernel
theorem d_T_toldBy_20 : decode c_T_toldBy 20 = .ok (.if_icmp .ne 9, 3) := by decide +kernel
theorem d_T_toldBy_23 : decode c_T_toldBy 23 = .ok (.iload_n 2, 1) := by decide +kernel
theorem d_T_toldBy_24 : decode c_T_toldBy 24 = .ok (.iconst 1, 1) := by decide +kernel
theorem d_T_toldBy_25 : decode c_T_toldBy 25 = .ok (.iadd, 1) := by decide +kernel
theorem d_T_toldBy_26 : decode c_T_toldBy 26 = .ok (.goto 4, 3) := by decide +kernel
theorem d_T_toldBy_29 : decode c_T_toldBy 29 = .ok (.iload_n 2, 1) := by decide +kernel
theorem d_T_toldBy_30 : decode c_T_toldBy 30 = .ok (.ireturn, 1) := by decide +kernel
abbrev c_M_init : ByteArray := prog_7_method_1_code
def y_M_init : MethodName := ⟨R_M, "<init>", "(I)V"⟩
def w_M_init : List Cond := .code y_M_init c_M_init 3 (none) :: gT
theorem k_M_init : Cond.code y_M_init c_M_init 3 (none) ∈ gT := gT_t (i := 318) (by decide +kernel) rfl
theorem hd_M_init : y_M_init.cls = R_M ∧ y_M_init.cls ≠ "java/lang/invoke/MethodHandle" ∧ y_M_init.cls ≠ "java/lang/invoke/VarHandle" ∧ (parseMethodDescriptor y_M_init.desc).map (fun d => d.parameters.length) = some 1 := by decide +kernel
theorem d_M_init_0 : decode c_M_init 0 = .ok (.aload_n 0, 1) := by decide +kernel
theorem d_M_init_1 : decode c_M_init 1 = .ok (.invokespecial 1, 3) := by decide +kernel
theorem d_M_init_4 : decode c_M_init 4 = .ok (.aload_n 0, 1) := by decide +kernel
theorem d_M_init_5 : decode c_M_init 5 = .ok (.iconst 3, 1) := by decide +kernel
theorem d_M_init_6 : decode c_M_init 6 = .ok (.newarray .int, 2) := by decide +kernel
theorem d_M_init_8 : decode c_M_init 8 = .ok (.putfield 7, 3) := by decide +kernel
theorem d_M_init_11 : decode c_M_init 11 = .ok (.aload_n 0, 1) := by decide +kernel
theorem d_M_init_12 : decode c_M_init 12 = .ok (.bipush 18, 2) := by decide +kernel
theorem d_M_init_14 : decode c_M_init 14 = .ok (.newarray .boolean, 2) := by decide +kernel
theorem d_M_init_16 : decode c_M_init 16 = .ok (.putfield 13, 3) := by decide +kernel
theorem d_M_init_19 : decode c_M_init 19 = .ok (.aload_n 0, 1) := by decide +kernel
theorem d_M_init_20 : decode c_M_init 20 = .ok (.bipush 18, 2) := by decide +kernel
theorem d_M_init_22 : decode c_M_init 22 = .ok (.newarray .int, 2) := by decide +kernel
theorem d_M_init_24 : decode c_M_init 24 = .ok (.putfield 17, 3) := by decide +kernel
theorem d_M_init_27 : decode c_M_init 27 = .ok (.aload_n 0, 1) := by decide +kernel
theorem d_M_init_28 : decode c_M_init 28 = .ok (.bipush 18, 2) := by decide +kernel
theorem d_M_init_30 : decode c_M_init 30 = .ok (.newarray .int, 2) := by decide +kernel
theorem d_M_init_32 : decode c_M_init 32 = .ok (.putfield 20, 3) := by decide +kernel
theorem d_M_init_35 : decode c_M_init 35 = .ok (.aload_n 0, 1) := by decide +kernel
theorem d_M_init_36 : decode c_M_init 36 = .ok (.bipush 54, 2) := by decide +kernel
theorem d_M_init_38 : decode c_M_init 38 = .ok (.newarray .int, 2) := by decide +kernel
theorem d_M_init_40 : decode c_M_init 40 = .ok (.putfield 23, 3) := by decide +kernel
theorem d_M_init_43 : decode c_M_init 43 = .ok (.aload_n 0, 1) := by decide +kernel
theorem d_M_init_44 : decode c_M_init 44 = .ok (.bipush 54, 2) := by decide +kernel
theorem d_M_init_46 : decode c_M_init 46 = .ok (.newarray .boolean, 2) := by decide +kernel
theorem d_M_init_48 : decode c_M_init 48 = .ok (.putfield 26, 3) := by decide +kernel
theorem d_M_init_51 : decode c_M_init 51 = .ok (.aload_n 0, 1) := by decide +kernel
theorem d_M_init_52 : decode c_M_init 52 = .ok (.bipush 54, 2) := by decide +kernel
theorem d_M_init_54 : decode c_M_init 54 = .ok (.newarray .int, 2) := by decide +kernel
theorem d_M_init_56 : decode c_M_init 56 = .ok (.putfield 29, 3) := by decide +kernel
theorem d_M_init_59 : decode c_M_init 59 = .ok (.aload_n 0, 1) := by decide +kernel
theorem d_M_init_60 : decode c_M_init 60 = .ok (.bipush 9, 2) := by decide +kernel
theorem d_M_init_62 : decode c_M_init 62 = .ok (.newarray .int, 2) := by decide +kernel
theorem d_M_init_64 : decode c_M_init 64 = .ok (.putfield 32, 3) := by decide +kernel
theorem d_M_init_67 : decode c_M_init 67 = .ok (.aload_n 0, 1) := by decide +kernel
theorem d_M_init_68 : decode c_M_init 68 = .ok (.bipush 18, 2) := by decide +kernel
theorem d_M_init_70 : decode c_M_init 70 = .ok (.newarray .int, 2) := by decide +kernel
theorem d_M_init_72 : decode c_M_init 72 = .ok (.putfield 35, 3) := by decide +kernel
theorem d_M_init_75 : decode c_M_init 75 = .ok (.aload_n 0, 1) := by decide +kernel
theorem d_M_init_76 : decode c_M_init 76 = .ok (.iconst 3, 1) := by decide +kernel
theorem d_M_init_77 : decode c_M_init 77 = .ok (.newarray .int, 2) := by decide +kernel
theorem d_M_init_79 : decode c_M_init 79 = .ok (.putfield 38, 3) := by decide +kernel
theorem d_M_init_82 : decode c_M_init 82 = .ok (.aload_n 0, 1) := by decide +kernel
theorem d_M_init_83 : decode c_M_init 83 = .ok (.bipush 54, 2) := by decide +kernel
theorem d_M_init_85 : decode c_M_init 85 = .ok (.newarray .int, 2) := by decide +kernel
theorem d_M_init_87 : decode c_M_init 87 = .ok (.putfield 41, 3) := by decide +kernel
theorem d_M_init_90 : decode c_M_init 90 = .ok (.aload_n 0, 1) := by decide +kernel
theorem d_M_init_91 : decode c_M_init 91 = .ok (.bipush 54, 2) := by decide +kernel
theorem d_M_init_93 : decode c_M_init 93 = .ok (.newarray .boolean, 2) := by decide +kernel
theorem d_M_init_95 : decode c_M_init 95 = .ok (.putfield 44, 3) := by decide +kernel
theorem d_M_init_98 : decode c_M_init 98 = .ok (.aload_n 0, 1) := by decide +kernel
theorem d_M_init_99 : decode c_M_init 99 = .ok (.sipush 6174, 3) := by decide +kernel
theorem d_M_init_102 : decode c_M_init 102 = .ok (.newarray .int, 2) := by decide +kernel
theorem d_M_init_104 : decode c_M_init 104 = .ok (.putfield 47, 3) := by decide +kernel
theorem d_M_init_107 : decode c_M_init 107 = .ok (.aload_n 0, 1) := by decide +kernel
theorem d_M_init_108 : decode c_M_init 108 = .ok (.iconst 3, 1) := by decide +kernel
theorem d_M_init_109 : decode c_M_init 109 = .ok (.newarray .int, 2) := by decide +kernel
theorem d_M_init_111 : decode c_M_init 111 = .ok (.putfield 50, 3) := by decide +kernel
theorem d_M_init_114 : decode c_M_init 114 = .ok (.aload_n 0, 1) := by decide +kernel
theorem d_M_init_115 : decode c_M_init 115 = .ok (.iload_n 1, 1) := by decide +kernel
theorem d_M_init_116 : decode c_M_init 116 = .ok (.iconst 3, 1) := by decide +kernel
theorem d_M_init_117 : decode c_M_init 117 = .ok (.if_icmp .ne 7, 3) := by decide +kernel
theorem d_M_init_120 : decode c_M_init 120 = .ok (.iconst 3, 1) := by decide +kernel
theorem d_M_init_121 : decode c_M_init 121 = .ok (.goto 4, 3) := by decide +kernel
theorem d_M_init_124 : decode c_M_init 124 = .ok (.iconst 2, 1) := by decide +kernel
theorem d_M_init_125 : decode c_M_init 125 = .ok (.putfield 53, 3) := by decide +kernel
theorem d_M_init_128 : decode c_M_init 128 = .ok (.iconst 0, 1) := by decide +kernel
theorem d_M_init_129 : decode c_M_init 129 = .ok (.istore_n 2, 1) := by decide +kernel
theorem d_M_init_130 : decode c_M_init 130 = .ok (.iload_n 2, 1) := by decide +kernel
theorem d_M_init_131 : decode c_M_init 131 = .ok (.bipush 54, 2) := by decide +kernel
theorem d_M_init_133 : decode c_M_init 133 = .ok (.if_icmp .ge 16, 3) := by decide +kernel
theorem d_M_init_136 : decode c_M_init 136 = .ok (.aload_n 0, 1) := by decide +kernel
theorem d_M_init_137 : decode c_M_init 137 = .ok (.getfield 29, 3) := by decide +kernel
theorem d_M_init_140 : decode c_M_init 140 = .ok (.iload_n 2, 1) := by decide +kernel
theorem d_M_init_141 : decode c_M_init 141 = .ok (.iconst (-1), 1) := by decide +kernel
theorem d_M_init_142 : decode c_M_init 142 = .ok (.iastore, 1) := by decide +kernel
theorem d_M_init_143 : decode c_M_init 143 = .ok (.iinc 2 1, 3) := by decide +kernel
theorem d_M_init_146 : decode c_M_init 146 = .ok (.goto (-16), 3) := by decide +kernel
theorem d_M_init_149 : decode c_M_init 149 = .ok (.return_, 1) := by decide +kernel
abbrev c_M_isSite : ByteArray := prog_7_method_2_code
def y_M_isSite : MethodName := ⟨R_M, "isSite", "(I)Z"⟩
def w_M_isSite : List Cond := .code y_M_isSite c_M_isSite 2 (some .boolean) :: gT
theorem k_M_isSite : Cond.code y_M_isSite c_M_isSite 2 (some .boolean) ∈ gT := gT_t (i := 377) (by decide +kernel) rfl
theorem hd_M_isSite : y_M_isSite.cls = R_M ∧ y_M_isSite.cls ≠ "java/lang/invoke/MethodHandle" ∧ y_M_isSite.cls ≠ "java/lang/invoke/VarHandle" ∧ (parseMethodDescriptor y_M_isSite.desc).map (fun d => d.parameters.length) = some 1 := by decide +kernel
theorem d_M_isSite_0 : decode c_M_isSite 0 = .ok (.iload_n 1, 1) := by decide +kernel
theorem d_M_isSite_1 : decode c_M_isSite 1 = .ok (.ifCond .lt 15, 3) := by decide +kernel
theorem d_M_isSite_4 : decode c_M_isSite 4 = .ok (.iload_n 1, 1) := by decide +kernel
theorem d_M_isSite_5 : decode c_M_isSite 5 = .ok (.aload_n 0, 1) := by decide +kernel
theorem d_M_isSite_6 : decode c_M_isSite 6 = .ok (.getfield 53, 3) := by decide +kernel
theorem d_M_isSite_9 : decode c_M_isSite 9 = .ok (.if_icmp .ge 7, 3) := by decide +kernel
theorem d_M_isSite_12 : decode c_M_isSite 12 = .ok (.iconst 1, 1) := by decide +kernel
theorem d_M_isSite_13 : decode c_M_isSite 13 = .ok (.goto 4, 3) := by decide +kernel
theorem d_M_isSite_16 : decode c_M_isSite 16 = .ok (.iconst 0, 1) := by decide +kernel
theorem d_M_isSite_17 : decode c_M_isSite 17 = .ok (.ireturn, 1) := by decide +kernel
abbrev c_M_isMade : ByteArray := prog_7_method_3_code
def y_M_isMade : MethodName := ⟨R_M, "isMade", "(II)Z"⟩
def w_M_isMade : List Cond := .code y_M_isMade c_M_isMade 3 (some .boolean) :: gT
theorem k_M_isMade : Cond.code y_M_isMade c_M_isMade 3 (some .boolean) ∈ gT := gT_t (i := 440) (by decide +kernel) rfl
theorem hd_M_isMade : y_M_isMade.cls = R_M ∧ y_M_isMade.cls ≠ "java/lang/invoke/MethodHandle" ∧ y_M_isMade.cls ≠ "java/lang/invoke/VarHandle" ∧ (parseMethodDescriptor y_M_isMade.desc).map (fun d => d.parameters.length) = some 2 := by decide +kernel
theorem d_M_isMade_0 : decode c_M_isMade 0 = .ok (.aload_n 0, 1) := by decide +kernel
theorem d_M_isMade_1 : decode c_M_isMade 1 = .ok (.iload_n 1, 1) := by decide +kernel
theorem d_M_isMade_2 : decode c_M_isMade 2 = .ok (.invokevirtual 57, 3) := by decide +kernel
theorem d_M_isMade_5 : decode c_M_isMade 5 = .ok (.ifCond .eq 21, 3) := by decide +kernel
theorem d_M_isMade_8 : decode c_M_isMade 8 = .ok (.iload_n 2, 1) := by decide +kernel
theorem d_M_isMade_9 : decode c_M_isMade 9 = .ok (.ifCond .lt 17, 3) := by decide +kernel
theorem d_M_isMade_12 : decode c_M_isMade 12 = .ok (.iload_n 2, 1) := by decide +kernel
theorem d_M_isMade_13 : decode c_M_isMade 13 = .ok (.aload_n 0, 1) := by decide +kernel
theorem d_M_isMade_14 : decode c_M_isMade 14 = .ok (.getfield 7, 3) := by decide +kernel
theorem d_M_isMade_17 : decode c_M_isMade 17 = .ok (.iload_n 1, 1) := by decide +kernel
theorem d_M_isMade_18 : decode c_M_isMade 18 = .ok (.iaload, 1) := by decide +kernel
theorem d_M_isMade_19 : decode c_M_isMade 19 = .ok (.if_icmp .ge 7, 3) := by decide +kernel
theorem d_M_isMade_22 : decode c_M_isMade 22 = .ok (.iconst 1, 1) := by decide +kernel
theorem d_M_isMade_23 : decode c_M_isMade 23 = .ok (.goto 4, 3) := by decide +kernel
theorem d_M_isMade_26 : decode c_M_isMade 26 = .ok (.iconst 0, 1) := by decide +kernel
theorem d_M_isMade_27 : decode c_M_isMade 27 = .ok (.ireturn, 1) := by decide +kernel
abbrev c_M_sites : ByteArray := prog_7_method_4_code
def y_M_sites : MethodName := ⟨R_M, "sites", "()I"⟩
def w_M_sites : List Cond := .code y_M_sites c_M_sites 1 (some .int) :: gT
theorem k_M_sites : Cond.code y_M_sites c_M_sites 1 (some .int) ∈ gT := gT_t (i := 369) (by decide +kernel) rfl
theorem hd_M_sites : y_M_sites.cls = R_M ∧ y_M_sites.cls ≠ "java/lang/invoke/MethodHandle" ∧ y_M_sites.cls ≠ "java/lang/invoke/VarHandle" ∧ (parseMethodDescriptor y_M_sites.desc).map (fun d => d.parameters.length) = some 0 := by decide +kernel
theorem d_M_sites_0 : decode c_M_sites 0 = .ok (.aload_n 0, 1) := by decide +kernel
theorem d_M_sites_1 : decode c_M_sites 1 = .ok (.getfield 53, 3) := by decide +kernel
theorem d_M_sites_4 : decode c_M_sites 4 = .ok (.ireturn, 1) := by decide +kernel
abbrev c_M_has : ByteArray := prog_7_method_5_code
def y_M_has : MethodName := ⟨R_M, "has", "(I)Z"⟩
def w_M_has : List Cond := .code y_M_has c_M_has 2 (some .boolean) :: gT
theorem k_M_has : Cond.code y_M_has c_M_has 2 (some .boolean) ∈ gT := gT_t (i := 405) (by decide +kernel) rfl
theorem hd_M_has : y_M_has.cls = R_M ∧ y_M_has.cls ≠ "java/lang/invoke/MethodHandle" ∧ y_M_has.cls ≠ "java/lang/invoke/VarHandle" ∧ (parseMethodDescriptor y_M_has.desc).map (fun d => d.parameters.length) = some 1 := by decide +kernel
theorem d_M_has_0 : decode c_M_has 0 = .ok (.iload_n 1, 1) := by decide +kernel
theorem d_M_has_1 : decode c_M_has 1 = .ok (.bipush 6, 2) := by decide +kernel
theorem d_M_has_3 : decode c_M_has 3 = .ok (.irem, 1) := by decide +kernel
theorem d_M_has_4 : decode c_M_has 4 = .ok (.aload_n 0, 1) := by decide +kernel
theorem d_M_has_5 : decode c_M_has 5 = .ok (.getfield 50, 3) := by decide +kernel
theorem d_M_has_8 : decode c_M_has 8 = .ok (.iload_n 1, 1) := by decide +kernel
theorem d_M_has_9 : decode c_M_has 9 = .ok (.bipush 6, 2) := by decide +kernel
theorem d_M_has_11 : decode c_M_has 11 = .ok (.idiv, 1) := by decide +kernel
theorem d_M_has_12 : decode c_M_has 12 = .ok (.iaload, 1) := by decide +kernel
theorem d_M_has_13 : decode c_M_has 13 = .ok (.if_icmp .ge 7, 3) := by decide +kernel
theorem d_M_has_16 : decode c_M_has 16 = .ok (.iconst 1, 1) := by decide +kernel
theorem d_M_has_17 : decode c_M_has 17 = .ok (.goto 4, 3) := by decide +kernel
theorem d_M_has_20 : decode c_M_has 20 = .ok (.iconst 0, 1) := by decide +kernel
theorem d_M_has_21 : decode c_M_has 21 = .ok (.ireturn, 1) := by decide +kernel
abbrev c_M_covers : ByteArray := prog_7_method_6_code
def y_M_covers : MethodName := ⟨R_M, "covers", "(I)Z"⟩
def w_M_covers : List Cond := .code y_M_covers c_M_covers 2 (some .boolean) :: gT
theorem k_M_covers : Cond.code y_M_covers c_M_covers 2 (some .boolean) ∈ gT := gT_t (i := 409) (by decide +kernel) rfl
theorem hd_M_covers : y_M_covers.cls = R_M ∧ y_M_covers.cls ≠ "java/lang/invoke/MethodHandle" ∧ y_M_covers.cls ≠ "java/lang/invoke/VarHandle" ∧ (parseMethodDescriptor y_M_covers.desc).map (fun d => d.parameters.length) = some 1 := by decide +kernel
theorem d_M_covers_0 : decode c_M_covers 0 = .ok (.aload_n 0, 1) := by decide +kernel
theorem d_M_covers_1 : decode c_M_covers 1 = .ok (.getfield 23, 3) := by decide +kernel
theorem d_M_covers_4 : decode c_M_covers 4 = .ok (.iconst 3, 1) := by decide +kernel
theorem d_M_covers_5 : decode c_M_covers 5 = .ok (.iload_n 1, 1) := by decide +kernel
theorem d_M_covers_6 : decode c_M_covers 6 = .ok (.imul, 1) := by decide +kernel
theorem d_M_covers_7 : decode c_M_covers 7 = .ok (.iaload, 1) := by decide +kernel
theorem d_M_covers_8 : decode c_M_covers 8 = .ok (.aload_n 0, 1) := by decide +kernel
theorem d_M_covers_9 : decode c_M_covers 9 = .ok (.getfield 50, 3) := by decide +kernel
theorem d_M_covers_12 : decode c_M_covers 12 = .ok (.iconst 0, 1) := by decide +kernel
theorem d_M_covers_13 : decode c_M_covers 13 = .ok (.iaload, 1) := by decide +kernel
theorem d_M_covers_14 : decode c_M_covers 14 = .ok (.if_icmp .gt 45, 3) := by decide +kernel
theorem d_M_covers_17 : decode c_M_covers 17 = .ok (.aload_n 0, 1) := by decide +kernel
theorem d_M_covers_18 : decode c_M_covers 18 = .ok (.getfield 23, 3) := by decide +kernel
theorem d_M_covers_21 : decode c_M_covers 21 = .ok (.iconst 3, 1) := by decide +kernel
theorem d_M_covers_22 : decode c_M_covers 22 = .ok (.iload_n 1, 1) := by decide +kernel
theorem d_M_covers_23 : decode c_M_covers 23 = .ok (.imul, 1) := by decide +kernel
theorem d_M_covers_24 : decode c_M_covers 24 = .ok (.iconst 1, 1) := by decide +kernel
theorem d_M_covers_25 : decode c_M_covers 25 = .ok (.iadd, 1) := by decide +kernel
theorem d_M_covers_26 : decode c_M_covers 26 = .ok (.iaload, 1) := by decide +kernel
theorem d_M_covers_27 : decode c_M_covers 27 = .ok (.aload_n 0, 1) := by decide +kernel
theorem d_M_covers_28 : decode c_M_covers 28 = .ok (.getfield 50, 3) := by decide +kernel
theorem d_M_covers_31 : decode c_M_covers 31 = .ok (.iconst 1, 1) := by decide +kernel
theorem d_M_covers_32 : decode c_M_covers 32 = .ok (.iaload, 1) := by decide +kernel
theorem d_M_covers_33 : decode c_M_covers 33 = .ok (.if_icmp .gt 26, 3) := by decide +kernel
theorem d_M_covers_36 : decode c_M_covers 36 = .ok (.aload_n 0, 1) := by decide +kernel
theorem d_M_covers_37 : decode c_M_covers 37 = .ok (.getfield 23, 3) := by decide +kernel
theorem d_M_covers_40 : decode c_M_covers 40 = .ok (.iconst 3, 1) := by decide +kernel
theorem d_M_covers_41 : decode c_M_covers 41 = .ok (.iload_n 1, 1) := by decide +kernel
theorem d_M_covers_42 : decode c_M_covers 42 = .ok (.imul, 1) := by decide +kernel
theorem d_M_covers_43 : decode c_M_covers 43 = .ok (.iconst 2, 1) := by decide +kernel
theorem d_M_covers_44 : decode c_M_covers 44 = .ok (.iadd, 1) := by decide +kernel
theorem d_M_covers_45 : decode c_M_covers 45 = .ok (.iaload, 1) := by decide +kernel
theorem d_M_covers_46 : decode c_M_covers 46 = .ok (.aload_n 0, 1) := by decide +kernel
theorem d_M_covers_47 : decode c_M_covers 47 = .ok (.getfield 50, 3) := by decide +kernel
theorem d_M_covers_50 : decode c_M_covers 50 = .ok (.iconst 2, 1) := by decide +kernel
theorem d_M_covers_51 : decode c_M_covers 51 = .ok (.iaload, 1) := by decide +kernel
theorem d_M_covers_52 : decode c_M_covers 52 = .ok (.if_icmp .gt 7, 3) := by decide +kernel
theorem d_M_covers_55 : decode c_M_covers 55 = .ok (.iconst 1, 1) := by decide +kernel
theorem d_M_covers_56 : decode c_M_covers 56 = .ok (.goto 4, 3) := by decide +kernel
theorem d_M_covers_59 : decode c_M_covers 59 = .ok (.iconst 0, 1) := by decide +kernel
theorem d_M_covers_60 : decode c_M_covers 60 = .ok (.ireturn, 1) := by decide +kernel
abbrev c_M_closed : ByteArray := prog_7_method_7_code
def y_M_closed : MethodName := ⟨R_M, "closed", "()Z"⟩
def w_M_closed : List Cond := .code y_M_closed c_M_closed 3 (some .boolean) :: gT
theorem k_M_closed : Cond.code y_M_closed c_M_closed 3 (some .boolean) ∈ gT := gT_t (i := 401) (by decide +kernel) rfl
theorem hd_M_closed : y_M_closed.cls = R_M ∧ y_M_closed.cls ≠ "java/lang/invoke/MethodHandle" ∧ y_M_closed.cls ≠ "java/lang/invoke/VarHandle" ∧ (parseMethodDescriptor y_M_closed.desc).map (fun d => d.parameters.length) = some 0 := by decide +kernel
theorem d_M_closed_0 : decode c_M_closed 0 = .ok (.iconst 1, 1) := by decide +kernel
theorem d_M_closed_1 : decode c_M_closed 1 = .ok (.istore_n 1, 1) := by decide +kernel
theorem d_M_closed_2 : decode c_M_closed 2 = .ok (.iconst 0, 1) := by decide +kernel
theorem d_M_closed_3 : decode c_M_closed 3 = .ok (.istore_n 2, 1) := by decide +kernel
theorem d_M_closed_4 : decode c_M_closed 4 = .ok (.iload_n 2, 1) := by decide +kernel
theorem d_M_closed_5 : decode c_M_closed 5 = .ok (.bipush 18, 2) := by decide +kernel
theorem d_M_closed_7 : decode c_M_closed 7 = .ok (.if_icmp .ge 51, 3) := by decide +kernel
theorem d_M_closed_10 : decode c_M_closed 10 = .ok (.iload_n 1, 1) := by decide +kernel
theorem d_M_closed_11 : decode c_M_closed 11 = .ok (.ifCond .eq 39, 3) := by decide +kernel
theorem d_M_closed_14 : decode c_M_closed 14 = .ok (.aload_n 0, 1) := by decide +kernel
theorem d_M_closed_15 : decode c_M_closed 15 = .ok (.iload_n 2, 1) := by decide +kernel
theorem d_M_closed_16 : decode c_M_closed 16 = .ok (.invokevirtual 61, 3) := by decide +kernel
theorem d_M_closed_19 : decode c_M_closed 19 = .ok (.ifCond .eq 27, 3) := by decide +kernel
theorem d_M_closed_22 : decode c_M_closed 22 = .ok (.iload_n 2, 1) := by decide +kernel
theorem d_M_closed_23 : decode c_M_closed 23 = .ok (.bipush 6, 2) := by decide +kernel
theorem d_M_closed_25 : decode c_M_closed 25 = .ok (.irem, 1) := by decide +kernel
theorem d_M_closed_26 : decode c_M_closed 26 = .ok (.aload_n 0, 1) := by decide +kernel
theorem d_M_closed_27 : decode c_M_closed 27 = .ok (.getfield 7, 3) := by decide +kernel
theorem d_M_closed_30 : decode c_M_closed 30 = .ok (.iload_n 2, 1) := by decide +kernel
theorem d_M_closed_31 : decode c_M_closed 31 = .ok (.bipush 6, 2) := by decide +kernel
theorem d_M_closed_33 : decode c_M_closed 33 = .ok (.idiv, 1) := by decide +kernel
theorem d_M_closed_34 : decode c_M_closed 34 = .ok (.iaload, 1) := by decide +kernel
theorem d_M_closed_35 : decode c_M_closed 35 = .ok (.if_icmp .ge 15, 3) := by decide +kernel
theorem d_M_closed_38 : decode c_M_closed 38 = .ok (.aload_n 0, 1) := by decide +kernel
theorem d_M_closed_39 : decode c_M_closed 39 = .ok (.iload_n 2, 1) := by decide +kernel
theorem d_M_closed_40 : decode c_M_closed 40 = .ok (.invokevirtual 64, 3) := by decide +kernel
theorem d_M_closed_43 : decode c_M_closed 43 = .ok (.ifCond .eq 7, 3) := by decide +kernel
theorem d_M_closed_46 : decode c_M_closed 46 = .ok (.iconst 1, 1) := by decide +kernel
theorem d_M_closed_47 : decode c_M_closed 47 = .ok (.goto 4, 3) := by decide +kernel
theorem d_M_closed_50 : decode c_M_closed 50 = .ok (.iconst 0, 1) := by decide +kernel
theorem d_M_closed_51 : decode c_M_closed 51 = .ok (.istore_n 1, 1) := by decide +kernel
theorem d_M_closed_52 : decode c_M_closed 52 = .ok (.iinc 2 1, 3) := by decide +kernel
theorem d_M_closed_55 : decode c_M_closed 55 = .ok (.goto (-51), 3) := by decide +kernel
theorem d_M_closed_58 : decode c_M_closed 58 = .ok (.iload_n 1, 1) := by decide +kernel
theorem d_M_closed_59 : decode c_M_closed 59 = .ok (.ireturn, 1) := by decide +kernel
abbrev c_M_index : ByteArray := prog_7_method_8_code
def y_M_index : MethodName := ⟨R_M, "index", "(I)I"⟩
def w_M_index : List Cond := .code y_M_index c_M_index 2 (some .int) :: gT
theorem k_M_index : Cond.code y_M_index c_M_index 2 (some .int) ∈ gT := gT_t (i := 421) (by decide +kernel) rfl
theorem hd_M_index : y_M_index.cls = R_M ∧ y_M_index.cls ≠ "java/lang/invoke/MethodHandle" ∧ y_M_index.cls ≠ "java/lang/invoke/VarHandle" ∧ (parseMethodDescriptor y_M_index.desc).map (fun d => d.parameters.length) = some 1 := by decide +kernel
theorem d_M_index_0 : decode c_M_index 0 = .ok (.sipush 343, 3) := by decide +kernel
theorem d_M_index_3 : decode c_M_index 3 = .ok (.iload_n 1, 1) := by decide +kernel
theorem d_M_index_4 : decode c_M_index 4 = .ok (.imul, 1) := by decide +kernel
theorem d_M_index_5 : decode c_M_index 5 = .ok (.aload_n 0, 1) := by decide +kernel
theorem d_M_index_6 : decode c_M_index 6 = .ok (.getfield 50, 3) := by decide +kernel
theorem d_M_index_9 : decode c_M_index 9 = .ok (.iconst 0, 1) := by decide +kernel
theorem d_M_index_10 : decode c_M_index 10 = .ok (.iaload, 1) := by decide +kernel
theorem d_M_index_11 : decode c_M_index 11 = .ok (.iadd, 1) := by decide +kernel
theorem d_M_index_12 : decode c_M_index 12 = .ok (.bipush 7, 2) := by decide +kernel
theorem d_M_index_14 : decode c_M_index 14 = .ok (.aload_n 0, 1) := by decide +kernel
theorem d_M_index_15 : decode c_M_index 15 = .ok (.getfield 50, 3) := by decide +kernel
theorem d_M_index_18 : decode c_M_index 18 = .ok (.iconst 1, 1) := by decide +kernel
theorem d_M_index_19 : decode c_M_index 19 = .ok (.iaload, 1) := by decide +kernel
theorem d_M_index_20 : decode c_M_index 20 = .ok (.imul, 1) := by decide +kernel
theorem d_M_index_21 : decode c_M_index 21 = .ok (.iadd, 1) := by decide +kernel
theorem d_M_index_22 : decode c_M_index 22 = .ok (.bipush 49, 2) := by decide +kernel
theorem d_M_index_24 : decode c_M_index 24 = .ok (.aload_n 0, 1) := by decide +kernel
theorem d_M_index_25 : decode c_M_index 25 = .ok (.getfield 50, 3) := by decide +kernel
theorem d_M_index_28 : decode c_M_index 28 = .ok (.iconst 2, 1) := by decide +kernel
theorem d_M_index_29 : decode c_M_index 29 = .ok (.iaload, 1) := by decide +kernel
theorem d_M_index_30 : decode c_M_index 30 = .ok (.imul, 1) := by decide +kernel
theorem d_M_index_31 : decode c_M_index 31 = .ok (.iadd, 1) := by decide +kernel
theorem d_M_index_32 : decode c_M_index 32 = .ok (.ireturn, 1) := by decide +kernel
abbrev c_M_last : ByteArray := prog_7_method_9_code
def y_M_last : MethodName := ⟨R_M, "last", "(I)I"⟩
def w_M_last : List Cond := .code y_M_last c_M_last 5 (some .int) :: gT
theorem k_M_last : Cond.code y_M_last c_M_last 5 (some .int) ∈ gT := gT_t (i := 417) (by decide +kernel) rfl
theorem hd_M_last : y_M_last.cls = R_M ∧ y_M_last.cls ≠ "java/lang/invoke/MethodHandle" ∧ y_M_last.cls ≠ "java/lang/invoke/VarHandle" ∧ (parseMethodDescriptor y_M_last.desc).map (fun d => d.parameters.length) = some 1 := by decide +kernel
theorem d_M_last_0 : decode c_M_last 0 = .ok (.iconst 2, 1) := by decide +kernel
theorem d_M_last_1 : decode c_M_last 1 = .ok (.istore_n 2, 1) := by decide +kernel
theorem d_M_last_2 : decode c_M_last 2 = .ok (.iload_n 2, 1) := by decide +kernel
theorem d_M_last_3 : decode c_M_last 3 = .ok (.ifCond .lt 95, 3) := by decide +kernel
theorem d_M_last_6 : decode c_M_last 6 = .ok (.aload_n 0, 1) := by decide +kernel
theorem d_M_last_7 : decode c_M_last 7 = .ok (.getfield 50, 3) := by decide +kernel
theorem d_M_last_10 : decode c_M_last 10 = .ok (.iload_n 2, 1) := by decide +kernel
theorem d_M_last_11 : decode c_M_last 11 = .ok (.iaload, 1) := by decide +kernel
theorem d_M_last_12 : decode c_M_last 12 = .ok (.aload_n 0, 1) := by decide +kernel
theorem d_M_last_13 : decode c_M_last 13 = .ok (.getfield 23, 3) := by decide +kernel
theorem d_M_last_16 : decode c_M_last 16 = .ok (.iconst 3, 1) := by decide +kernel
theorem d_M_last_17 : decode c_M_last 17 = .ok (.iload_n 1, 1) := by decide +kernel
theorem d_M_last_18 : decode c_M_last 18 = .ok (.imul, 1) := by decide +kernel
theorem d_M_last_19 : decode c_M_last 19 = .ok (.iload_n 2, 1) := by decide +kernel
theorem d_M_last_20 : decode c_M_last 20 = .ok (.iadd, 1) := by decide +kernel
theorem d_M_last_21 : decode c_M_last 21 = .ok (.iaload, 1) := by decide +kernel
theorem d_M_last_22 : decode c_M_last 22 = .ok (.if_icmp .le 7, 3) := by decide +kernel
theorem d_M_last_25 : decode c_M_last 25 = .ok (.iconst 1, 1) := by decide +kernel
theorem d_M_last_26 : decode c_M_last 26 = .ok (.goto 4, 3) := by decide +kernel
theorem d_M_last_29 : decode c_M_last 29 = .ok (.iconst 0, 1) := by decide +kernel
theorem d_M_last_30 : decode c_M_last 30 = .ok (.istore_n 3, 1) := by decide +kernel
theorem d_M_last_31 : decode c_M_last 31 = .ok (.iconst 0, 1) := by decide +kernel
theorem d_M_last_32 : decode c_M_last 32 = .ok (.istore 4, 2) := by decide +kernel
theorem d_M_last_34 : decode c_M_last 34 = .ok (.iload 4, 2) := by decide +kernel
theorem d_M_last_36 : decode c_M_last 36 = .ok (.bipush 18, 2) := by decide +kernel
theorem d_M_last_38 : decode c_M_last 38 = .ok (.if_icmp .ge 48, 3) := by decide +kernel
theorem d_M_last_41 : decode c_M_last 41 = .ok (.iload_n 3, 1) := by decide +kernel
theorem d_M_last_42 : decode c_M_last 42 = .ok (.ifCond .eq 44, 3) := by decide +kernel
theorem d_M_last_45 : decode c_M_last 45 = .ok (.aload_n 0, 1) := by decide +kernel
theorem d_M_last_46 : decode c_M_last 46 = .ok (.iload 4, 2) := by decide +kernel
theorem d_M_last_48 : decode c_M_last 48 = .ok (.invokevirtual 61, 3) := by decide +kernel
theorem d_M_last_51 : decode c_M_last 51 = .ok (.ifCond .eq 23, 3) := by decide +kernel
theorem d_M_last_54 : decode c_M_last 54 = .ok (.aload_n 0, 1) := by decide +kernel
theorem d_M_last_55 : decode c_M_last 55 = .ok (.getfield 23, 3) := by decide +kernel
theorem d_M_last_58 : decode c_M_last 58 = .ok (.iconst 3, 1) := by decide +kernel
theorem d_M_last_59 : decode c_M_last 59 = .ok (.iload 4, 2) := by decide +kernel
theorem d_M_last_61 : decode c_M_last 61 = .ok (.imul, 1) := by decide +kernel
theorem d_M_last_62 : decode c_M_last 62 = .ok (.iload_n 2, 1) := by decide +kernel
theorem d_M_last_63 : decode c_M_last 63 = .ok (.iadd, 1) := by decide +kernel
theorem d_M_last_64 : decode c_M_last 64 = .ok (.iaload, 1) := by decide +kernel
theorem d_M_last_65 : decode c_M_last 65 = .ok (.aload_n 0, 1) := by decide +kernel
theorem d_M_last_66 : decode c_M_last 66 = .ok (.getfield 50, 3) := by decide +kernel
theorem d_M_last_69 : decode c_M_last 69 = .ok (.iload_n 2, 1) := by decide +kernel
theorem d_M_last_70 : decode c_M_last 70 = .ok (.iaload, 1) := by decide +kernel
theorem d_M_last_71 : decode c_M_last 71 = .ok (.if_icmp .ge 7, 3) := by decide +kernel
theorem d_M_last_74 : decode c_M_last 74 = .ok (.iconst 1, 1) := by decide +kernel
theorem d_M_last_75 : decode c_M_last 75 = .ok (.goto 4, 3) := by decide +kernel
theorem d_M_last_78 : decode c_M_last 78 = .ok (.iconst 0, 1) := by decide +kernel
theorem d_M_last_79 : decode c_M_last 79 = .ok (.istore_n 3, 1) := by decide +kernel
theorem d_M_last_80 : decode c_M_last 80 = .ok (.iinc 4 1, 3) := by decide +kernel
theorem d_M_last_83 : decode c_M_last 83 = .ok (.goto (-49), 3) := by decide +kernel
theorem d_M_last_86 : decode c_M_last 86 = .ok (.iload_n 3, 1) := by decide +kernel
theorem d_M_last_87 : decode c_M_last 87 = .ok (.ifCond .eq 5, 3) := by decide +kernel
theorem d_M_last_90 : decode c_M_last 90 = .ok (.iload_n 2, 1) := by decide +kernel
theorem d_M_last_91 : decode c_M_last 91 = .ok (.ireturn, 1) := by decide +kernel
theorem d_M_last_92 : decode c_M_last 92 = .ok (.iinc 2 (-1), 3) := by decide +kernel
theorem d_M_last_95 : decode c_M_last 95 = .ok (.goto (-93), 3) := by decide +kernel
theorem d_M_last_98 : decode c_M_last 98 = .ok (.iconst (-1), 1) := by decide +kernel
theorem d_M_last_99 : decode c_M_last 99 = .ok (.ireturn, 1) := by decide +kernel
abbrev c_M_moved : ByteArray := prog_7_method_10_code
def y_M_moved : MethodName := ⟨R_M, "moved", "(IIII)I"⟩
def w_M_moved : List Cond := .code y_M_moved c_M_moved 4 (some .int) :: gT
theorem k_M_moved : Cond.code y_M_moved c_M_moved 4 (some .int) ∈ gT := gT_t (i := 424) (by decide +kernel) rfl
theorem hd_M_moved : y_M_moved.cls = R_M ∧ y_M_moved.cls ≠ "java/lang/invoke/MethodHandle" ∧ y_M_moved.cls ≠ "java/lang/invoke/VarHandle" ∧ (parseMethodDescriptor y_M_moved.desc).map (fun d => d.parameters.length) = some 4 := by decide +kernel
theorem d_M_moved_0 : decode c_M_moved 0 = .ok (.iload_n 1, 1) := by decide +kernel
theorem d_M_moved_1 : decode c_M_moved 1 = .ok (.iload_n 3, 1) := by decide +kernel
theorem d_M_moved_2 : decode c_M_moved 2 = .ok (.if_icmp .lt 19, 3) := by decide +kernel
theorem d_M_moved_5 : decode c_M_moved 5 = .ok (.iload_n 1, 1) := by decide +kernel
theorem d_M_moved_6 : decode c_M_moved 6 = .ok (.iload_n 3, 1) := by decide +kernel
theorem d_M_moved_7 : decode c_M_moved 7 = .ok (.if_icmp .ne 18, 3) := by decide +kernel
theorem d_M_moved_10 : decode c_M_moved 10 = .ok (.iload_n 0, 1) := by decide +kernel
theorem d_M_moved_11 : decode c_M_moved 11 = .ok (.bipush 6, 2) := by decide +kernel
theorem d_M_moved_13 : decode c_M_moved 13 = .ok (.idiv, 1) := by decide +kernel
theorem d_M_moved_14 : decode c_M_moved 14 = .ok (.iload_n 2, 1) := by decide +kernel
theorem d_M_moved_15 : decode c_M_moved 15 = .ok (.bipush 6, 2) := by decide +kernel
theorem d_M_moved_17 : decode c_M_moved 17 = .ok (.idiv, 1) := by decide +kernel
theorem d_M_moved_18 : decode c_M_moved 18 = .ok (.if_icmp .ge 7, 3) := by decide +kernel
theorem d_M_moved_21 : decode c_M_moved 21 = .ok (.iload_n 1, 1) := by decide +kernel
theorem d_M_moved_22 : decode c_M_moved 22 = .ok (.goto 6, 3) := by decide +kernel
theorem d_M_moved_25 : decode c_M_moved 25 = .ok (.iload_n 1, 1) := by decide +kernel
theorem d_M_moved_26 : decode c_M_moved 26 = .ok (.iconst 1, 1) := by decide +kernel
theorem d_M_moved_27 : decode c_M_moved 27 = .ok (.iadd, 1) := by decide +kernel
theorem d_M_moved_28 : decode c_M_moved 28 = .ok (.ireturn, 1) := by decide +kernel
abbrev c_M_settle : ByteArray := prog_7_method_11_code
def y_M_settle : MethodName := ⟨R_M, "settle", "(I)V"⟩
def w_M_settle : List Cond := .code y_M_settle c_M_settle 5 (none) :: gT
theorem k_M_settle : Cond.code y_M_settle c_M_settle 5 (none) ∈ gT := gT_t (i := 413) (by decide +kernel) rfl
theorem hd_M_settle : y_M_settle.cls = R_M ∧ y_M_settle.cls ≠ "java/lang/invoke/MethodHandle" ∧ y_M_settle.cls ≠ "java/lang/invoke/VarHandle" ∧ (parseMethodDescriptor y_M_settle.desc).map (fun d => d.parameters.length) = some 1 := by decide +kernel
theorem d_M_settle_0 : decode c_M_settle 0 = .ok (.aload_n 0, 1) := by decide +kernel
theorem d_M_settle_1 : decode c_M_settle 1 = .ok (.iload_n 1, 1) := by decide +kernel
theorem d_M_settle_2 : decode c_M_settle 2 = .ok (.invokevirtual 67, 3) := by decide +kernel
theorem d_M_settle_5 : decode c_M_settle 5 = .ok (.istore_n 2, 1) := by decide +kernel
theorem d_M_settle_6 : decode c_M_settle 6 = .ok (.aload_n 0, 1) := by decide +kernel
theorem d_M_settle_7 : decode c_M_settle 7 = .ok (.getfield 17, 3) := by decide +kernel
theorem d_M_settle_10 : decode c_M_settle 10 = .ok (.iload_n 1, 1) := by decide +kernel
theorem d_M_settle_11 : decode c_M_settle 11 = .ok (.iaload, 1) := by decide +kernel
theorem d_M_settle_12 : decode c_M_settle 12 = .ok (.istore_n 3, 1) := by decide +kernel
theorem d_M_settle_13 : decode c_M_settle 13 = .ok (.iload_n 2, 1) := by decide +kernel
theorem d_M_settle_14 : decode c_M_settle 14 = .ok (.ifCond .lt 89, 3) := by decide +kernel
theorem d_M_settle_17 : decode c_M_settle 17 = .ok (.bipush 6, 2) := by decide +kernel
theorem d_M_settle_19 : decode c_M_settle 19 = .ok (.iload_n 2, 1) := by decide +kernel
theorem d_M_settle_20 : decode c_M_settle 20 = .ok (.imul, 1) := by decide +kernel
theorem d_M_settle_21 : decode c_M_settle 21 = .ok (.aload_n 0, 1) := by decide +kernel
theorem d_M_settle_22 : decode c_M_settle 22 = .ok (.getfield 50, 3) := by decide +kernel
theorem d_M_settle_25 : decode c_M_settle 25 = .ok (.iload_n 2, 1) := by decide +kernel
theorem d_M_settle_26 : decode c_M_settle 26 = .ok (.iaload, 1) := by decide +kernel
theorem d_M_settle_27 : decode c_M_settle 27 = .ok (.iadd, 1) := by decide +kernel
theorem d_M_settle_28 : decode c_M_settle 28 = .ok (.iconst 1, 1) := by decide +kernel
theorem d_M_settle_29 : decode c_M_settle 29 = .ok (.isub, 1) := by decide +kernel
theorem d_M_settle_30 : decode c_M_settle 30 = .ok (.istore 4, 2) := by decide +kernel
theorem d_M_settle_32 : decode c_M_settle 32 = .ok (.aload_n 0, 1) := by decide +kernel
theorem d_M_settle_33 : decode c_M_settle 33 = .ok (.getfield 50, 3) := by decide +kernel
theorem d_M_settle_36 : decode c_M_settle 36 = .ok (.iload_n 2, 1) := by decide +kernel
theorem d_M_settle_37 : decode c_M_settle 37 = .ok (.dup2, 1) := by decide +kernel
theorem d_M_settle_38 : decode c_M_settle 38 = .ok (.iaload, 1) := by decide +kernel
theorem d_M_settle_39 : decode c_M_settle 39 = .ok (.iconst 1, 1) := by decide +kernel
theorem d_M_settle_40 : decode c_M_settle 40 = .ok (.isub, 1) := by decide +kernel
theorem d_M_settle_41 : decode c_M_settle 41 = .ok (.iastore, 1) := by decide +kernel
theorem d_M_settle_42 : decode c_M_settle 42 = .ok (.aload_n 0, 1) := by decide +kernel
theorem d_M_settle_43 : decode c_M_settle 43 = .ok (.getfield 13, 3) := by decide +kernel
theorem d_M_settle_46 : decode c_M_settle 46 = .ok (.iload 4, 2) := by decide +kernel
theorem d_M_settle_48 : decode c_M_settle 48 = .ok (.baload, 1) := by decide +kernel
theorem d_M_settle_49 : decode c_M_settle 49 = .ok (.ifCond .eq 33, 3) := by decide +kernel
theorem d_M_settle_52 : decode c_M_settle 52 = .ok (.iload_n 1, 1) := by decide +kernel
theorem d_M_settle_53 : decode c_M_settle 53 = .ok (.aload_n 0, 1) := by decide +kernel
theorem d_M_settle_54 : decode c_M_settle 54 = .ok (.getfield 47, 3) := by decide +kernel
theorem d_M_settle_57 : decode c_M_settle 57 = .ok (.aload_n 0, 1) := by decide +kernel
theorem d_M_settle_58 : decode c_M_settle 58 = .ok (.iload_n 1, 1) := by decide +kernel
theorem d_M_settle_59 : decode c_M_settle 59 = .ok (.invokevirtual 71, 3) := by decide +kernel
theorem d_M_settle_62 : decode c_M_settle 62 = .ok (.iaload, 1) := by decide +kernel
theorem d_M_settle_63 : decode c_M_settle 63 = .ok (.iload 4, 2) := by decide +kernel
theorem d_M_settle_65 : decode c_M_settle 65 = .ok (.aload_n 0, 1) := by decide +kernel
theorem d_M_settle_66 : decode c_M_settle 66 = .ok (.getfield 47, 3) := by decide +kernel
theorem d_M_settle_69 : decode c_M_settle 69 = .ok (.aload_n 0, 1) := by decide +kernel
theorem d_M_settle_70 : decode c_M_settle 70 = .ok (.iload 4, 2) := by decide +kernel
theorem d_M_settle_72 : decode c_M_settle 72 = .ok (.invokevirtual 71, 3) := by decide +kernel
theorem d_M_settle_75 : decode c_M_settle 75 = .ok (.iaload, 1) := by decide +kernel
theorem d_M_settle_76 : decode c_M_settle 76 = .ok (.invokestatic 74, 3) := by decide +kernel
theorem d_M_settle_79 : decode c_M_settle 79 = .ok (.goto 13, 3) := by decide +kernel
theorem d_M_settle_82 : decode c_M_settle 82 = .ok (.aload_n 0, 1) := by decide +kernel
theorem d_M_settle_83 : decode c_M_settle 83 = .ok (.getfield 47, 3) := by decide +kernel
theorem d_M_settle_86 : decode c_M_settle 86 = .ok (.aload_n 0, 1) := by decide +kernel
theorem d_M_settle_87 : decode c_M_settle 87 = .ok (.iload_n 1, 1) := by decide +kernel
theorem d_M_settle_88 : decode c_M_settle 88 = .ok (.invokevirtual 71, 3) := by decide +kernel
theorem d_M_settle_91 : decode c_M_settle 91 = .ok (.iaload, 1) := by decide +kernel
theorem d_M_settle_92 : decode c_M_settle 92 = .ok (.istore_n 3, 1) := by decide +kernel
theorem d_M_settle_93 : decode c_M_settle 93 = .ok (.aload_n 0, 1) := by decide +kernel
theorem d_M_settle_94 : decode c_M_settle 94 = .ok (.getfield 50, 3) := by decide +kernel
theorem d_M_settle_97 : decode c_M_settle 97 = .ok (.iload_n 2, 1) := by decide +kernel
theorem d_M_settle_98 : decode c_M_settle 98 = .ok (.dup2, 1) := by decide +kernel
theorem d_M_settle_99 : decode c_M_settle 99 = .ok (.iaload, 1) := by decide +kernel
theorem d_M_settle_100 : decode c_M_settle 100 = .ok (.iconst 1, 1) := by decide +kernel
theorem d_M_settle_101 : decode c_M_settle 101 = .ok (.iadd, 1) := by decide +kernel
theorem d_M_settle_102 : decode c_M_settle 102 = .ok (.iastore, 1) := by decide +kernel
theorem d_M_settle_103 : decode c_M_settle 103 = .ok (.aload_n 0, 1) := by decide +kernel
theorem d_M_settle_104 : decode c_M_settle 104 = .ok (.getfield 47, 3) := by decide +kernel
theorem d_M_settle_107 : decode c_M_settle 107 = .ok (.aload_n 0, 1) := by decide +kernel
theorem d_M_settle_108 : decode c_M_settle 108 = .ok (.iload_n 1, 1) := by decide +kernel
theorem d_M_settle_109 : decode c_M_settle 109 = .ok (.invokevirtual 71, 3) := by decide +kernel
theorem d_M_settle_112 : decode c_M_settle 112 = .ok (.iload_n 3, 1) := by decide +kernel
theorem d_M_settle_113 : decode c_M_settle 113 = .ok (.iastore, 1) := by decide +kernel
theorem d_M_settle_114 : decode c_M_settle 114 = .ok (.return_, 1) := by decide +kernel
abbrev c_M_find : ByteArray := prog_7_method_12_code
def y_M_find : MethodName := ⟨R_M, "find", "(II)I"⟩
def w_M_find : List Cond := .code y_M_find c_M_find 5 (some .int) :: gT
theorem k_M_find : Cond.code y_M_find c_M_find 5 (some .int) ∈ gT := gT_t (i := 428) (by decide +kernel) rfl
theorem hd_M_find : y_M_find.cls = R_M ∧ y_M_find.cls ≠ "java/lang/invoke/MethodHandle" ∧ y_M_find.cls ≠ "java/lang/invoke/VarHandle" ∧ (parseMethodDescriptor y_M_find.desc).map (fun d => d.parameters.length) = some 2 := by decide +kernel
theorem d_M_find_0 : decode c_M_find 0 = .ok (.iconst (-1), 1) := by decide +kernel
theorem d_M_find_1 : decode c_M_find 1 = .ok (.istore_n 3, 1) := by decide +kernel
theorem d_M_find_2 : decode c_M_find 2 = .ok (.iconst 0, 1) := by decide +kernel
theorem d_M_find_3 : decode c_M_find 3 = .ok (.istore 4, 2) := by decide +kernel
theorem d_M_find_5 : decode c_M_find 5 = .ok (.iload 4, 2) := by decide +kernel
theorem d_M_find_7 : decode c_M_find 7 = .ok (.aload_n 0, 1) := by decide +kernel
theorem d_M_find_8 : decode c_M_find 8 = .ok (.getfield 38, 3) := by decide +kernel
theorem d_M_find_11 : decode c_M_find 11 = .ok (.iload_n 1, 1) := by decide +kernel
theorem d_M_find_12 : decode c_M_find 12 = .ok (.iaload, 1) := by decide +kernel
theorem d_M_find_13 : decode c_M_find 13 = .ok (.if_icmp .ge 32, 3) := by decide +kernel
theorem d_M_find_16 : decode c_M_find 16 = .ok (.aload_n 0, 1) := by decide +kernel
theorem d_M_find_17 : decode c_M_find 17 = .ok (.getfield 41, 3) := by decide +kernel
theorem d_M_find_20 : decode c_M_find 20 = .ok (.bipush 18, 2) := by decide +kernel
theorem d_M_find_22 : decode c_M_find 22 = .ok (.iload_n 1, 1) := by decide +kernel
theorem d_M_find_23 : decode c_M_find 23 = .ok (.imul, 1) := by decide +kernel
theorem d_M_find_24 : decode c_M_find 24 = .ok (.iload 4, 2) := by decide +kernel
theorem d_M_find_26 : decode c_M_find 26 = .ok (.iadd, 1) := by decide +kernel
theorem d_M_find_27 : decode c_M_find 27 = .ok (.iaload, 1) := by decide +kernel
theorem d_M_find_28 : decode c_M_find 28 = .ok (.iload_n 2, 1) := by decide +kernel
theorem d_M_find_29 : decode c_M_find 29 = .ok (.if_icmp .ne 8, 3) := by decide +kernel
theorem d_M_find_32 : decode c_M_find 32 = .ok (.iload 4, 2) := by decide +kernel
theorem d_M_find_34 : decode c_M_find 34 = .ok (.goto 4, 3) := by decide +kernel
theorem d_M_find_37 : decode c_M_find 37 = .ok (.iload_n 3, 1) := by decide +kernel
theorem d_M_find_38 : decode c_M_find 38 = .ok (.istore_n 3, 1) := by decide +kernel
theorem d_M_find_39 : decode c_M_find 39 = .ok (.iinc 4 1, 3) := by decide +kernel
theorem d_M_find_42 : decode c_M_find 42 = .ok (.goto (-37), 3) := by decide +kernel
theorem d_M_find_45 : decode c_M_find 45 = .ok (.iload_n 3, 1) := by decide +kernel
theorem d_M_find_46 : decode c_M_find 46 = .ok (.ireturn, 1) := by decide +kernel
abbrev c_M_placeFor : ByteArray := prog_7_method_13_code
def y_M_placeFor : MethodName := ⟨R_M, "placeFor", "(II)I"⟩
def w_M_placeFor : List Cond := .code y_M_placeFor c_M_placeFor 10 (some .int) :: gT
theorem k_M_placeFor : Cond.code y_M_placeFor c_M_placeFor 10 (some .int) ∈ gT := gT_t (i := 397) (by decide +kernel) rfl
theorem hd_M_placeFor : y_M_placeFor.cls = R_M ∧ y_M_placeFor.cls ≠ "java/lang/invoke/MethodHandle" ∧ y_M_placeFor.cls ≠ "java/lang/invoke/VarHandle" ∧ (parseMethodDescriptor y_M_placeFor.desc).map (fun d => d.parameters.length) = some 2 := by decide +kernel
theorem d_M_placeFor_0 : decode c_M_placeFor 0 = .ok (.aload_n 0, 1) := by decide +kernel
theorem d_M_placeFor_1 : decode c_M_placeFor 1 = .ok (.getfield 32, 3) := by decide +kernel
theorem d_M_placeFor_4 : decode c_M_placeFor 4 = .ok (.iconst 3, 1) := by decide +kernel
theorem d_M_placeFor_5 : decode c_M_placeFor 5 = .ok (.iload_n 2, 1) := by decide +kernel
theorem d_M_placeFor_6 : decode c_M_placeFor 6 = .ok (.imul, 1) := by decide +kernel
theorem d_M_placeFor_7 : decode c_M_placeFor 7 = .ok (.iaload, 1) := by decide +kernel
theorem d_M_placeFor_8 : decode c_M_placeFor 8 = .ok (.istore_n 3, 1) := by decide +kernel
theorem d_M_placeFor_9 : decode c_M_placeFor 9 = .ok (.aload_n 0, 1) := by decide +kernel
theorem d_M_placeFor_10 : decode c_M_placeFor 10 = .ok (.getfield 32, 3) := by decide +kernel
theorem d_M_placeFor_13 : decode c_M_placeFor 13 = .ok (.iconst 3, 1) := by decide +kernel
theorem d_M_placeFor_14 : decode c_M_placeFor 14 = .ok (.iload_n 2, 1) := by decide +kernel
theorem d_M_placeFor_15 : decode c_M_placeFor 15 = .ok (.imul, 1) := by decide +kernel
theorem d_M_placeFor_16 : decode c_M_placeFor 16 = .ok (.iconst 1, 1) := by decide +kernel
theorem d_M_placeFor_17 : decode c_M_placeFor 17 = .ok (.iadd, 1) := by decide +kernel
theorem d_M_placeFor_18 : decode c_M_placeFor 18 = .ok (.iaload, 1) := by decide +kernel
theorem d_M_placeFor_19 : decode c_M_placeFor 19 = .ok (.istore 4, 2) := by decide +kernel
theorem d_M_placeFor_21 : decode c_M_placeFor 21 = .ok (.aload_n 0, 1) := by decide +kernel
theorem d_M_placeFor_22 : decode c_M_placeFor 22 = .ok (.getfield 32, 3) := by decide +kernel
theorem d_M_placeFor_25 : decode c_M_placeFor 25 = .ok (.iconst 3, 1) := by decide +kernel
theorem d_M_placeFor_26 : decode c_M_placeFor 26 = .ok (.iload_n 2, 1) := by decide +kernel
theorem d_M_placeFor_27 : decode c_M_placeFor 27 = .ok (.imul, 1) := by decide +kernel
theorem d_M_placeFor_28 : decode c_M_placeFor 28 = .ok (.iconst 2, 1) := by decide +kernel
theorem d_M_placeFor_29 : decode c_M_placeFor 29 = .ok (.iadd, 1) := by decide +kernel
theorem d_M_placeFor_30 : decode c_M_placeFor 30 = .ok (.iaload, 1) := by decide +kernel
theorem d_M_placeFor_31 : decode c_M_placeFor 31 = .ok (.istore 5, 2) := by decide +kernel
theorem d_M_placeFor_33 : decode c_M_placeFor 33 = .ok (.iconst 0, 1) := by decide +kernel
theorem d_M_placeFor_34 : decode c_M_placeFor 34 = .ok (.istore 6, 2) := by decide +kernel
theorem d_M_placeFor_36 : decode c_M_placeFor 36 = .ok (.iload 6, 2) := by decide +kernel
theorem d_M_placeFor_38 : decode c_M_placeFor 38 = .ok (.iload_n 3, 1) := by decide +kernel
theorem d_M_placeFor_39 : decode c_M_placeFor 39 = .ok (.iconst 1, 1) := by decide +kernel
theorem d_M_placeFor_40 : decode c_M_placeFor 40 = .ok (.iadd, 1) := by decide +kernel
theorem d_M_placeFor_41 : decode c_M_placeFor 41 = .ok (.iload 4, 2) := by decide +kernel
theorem d_M_placeFor_43 : decode c_M_placeFor 43 = .ok (.iconst 1, 1) := by decide +kernel
theorem d_M_placeFor_44 : decode c_M_placeFor 44 = .ok (.iadd, 1) := by decide +kernel
theorem d_M_placeFor_45 : decode c_M_placeFor 45 = .ok (.imul, 1) := by decide +kernel
theorem d_M_placeFor_46 : decode c_M_placeFor 46 = .ok (.iload 5, 2) := by decide +kernel
theorem d_M_placeFor_48 : decode c_M_placeFor 48 = .ok (.iconst 1, 1) := by decide +kernel
theorem d_M_placeFor_49 : decode c_M_placeFor 49 = .ok (.iadd, 1) := by decide +kernel
theorem d_M_placeFor_50 : decode c_M_placeFor 50 = .ok (.imul, 1) := by decide +kernel
theorem d_M_placeFor_51 : decode c_M_placeFor 51 = .ok (.if_icmp .ge 156, 3) := by decide +kernel
theorem d_M_placeFor_54 : decode c_M_placeFor 54 = .ok (.aload_n 0, 1) := by decide +kernel
theorem d_M_placeFor_55 : decode c_M_placeFor 55 = .ok (.getfield 50, 3) := by decide +kernel
theorem d_M_placeFor_58 : decode c_M_placeFor 58 = .ok (.iconst 0, 1) := by decide +kernel
theorem d_M_placeFor_59 : decode c_M_placeFor 59 = .ok (.iload 6, 2) := by decide +kernel
theorem d_M_placeFor_61 : decode c_M_placeFor 61 = .ok (.iload_n 3, 1) := by decide +kernel
theorem d_M_placeFor_62 : decode c_M_placeFor 62 = .ok (.iconst 1, 1) := by decide +kernel
theorem d_M_placeFor_63 : decode c_M_placeFor 63 = .ok (.iadd, 1) := by decide +kernel
theorem d_M_placeFor_64 : decode c_M_placeFor 64 = .ok (.irem, 1) := by decide +kernel
theorem d_M_placeFor_65 : decode c_M_placeFor 65 = .ok (.iastore, 1) := by decide +kernel
theorem d_M_placeFor_66 : decode c_M_placeFor 66 = .ok (.aload_n 0, 1) := by decide +kernel
theorem d_M_placeFor_67 : decode c_M_placeFor 67 = .ok (.getfield 50, 3) := by decide +kernel
theorem d_M_placeFor_70 : decode c_M_placeFor 70 = .ok (.iconst 1, 1) := by decide +kernel
theorem d_M_placeFor_71 : decode c_M_placeFor 71 = .ok (.iload 6, 2) := by decide +kernel
theorem d_M_placeFor_73 : decode c_M_placeFor 73 = .ok (.iload_n 3, 1) := by decide +kernel
theorem d_M_placeFor_74 : decode c_M_placeFor 74 = .ok (.iconst 1, 1) := by decide +kernel
theorem d_M_placeFor_75 : decode c_M_placeFor 75 = .ok (.iadd, 1) := by decide +kernel
theorem d_M_placeFor_76 : decode c_M_placeFor 76 = .ok (.idiv, 1) := by decide +kernel
theorem d_M_placeFor_77 : decode c_M_placeFor 77 = .ok (.iload 4, 2) := by decide +kernel
theorem d_M_placeFor_79 : decode c_M_placeFor 79 = .ok (.iconst 1, 1) := by decide +kernel
theorem d_M_placeFor_80 : decode c_M_placeFor 80 = .ok (.iadd, 1) := by decide +kernel
theorem d_M_placeFor_81 : decode c_M_placeFor 81 = .ok (.irem, 1) := by decide +kernel
theorem d_M_placeFor_82 : decode c_M_placeFor 82 = .ok (.iastore, 1) := by decide +kernel
theorem d_M_placeFor_83 : decode c_M_placeFor 83 = .ok (.aload_n 0, 1) := by decide +kernel
theorem d_M_placeFor_84 : decode c_M_placeFor 84 = .ok (.getfield 50, 3) := by decide +kernel
theorem d_M_placeFor_87 : decode c_M_placeFor 87 = .ok (.iconst 2, 1) := by decide +kernel
theorem d_M_placeFor_88 : decode c_M_placeFor 88 = .ok (.iload 6, 2) := by decide +kernel
theorem d_M_placeFor_90 : decode c_M_placeFor 90 = .ok (.iload_n 3, 1) := by decide +kernel
theorem d_M_placeFor_91 : decode c_M_placeFor 91 = .ok (.iconst 1, 1) := by decide +kernel
theorem d_M_placeFor_92 : decode c_M_placeFor 92 = .ok (.iadd, 1) := by decide +kernel
theorem d_M_placeFor_93 : decode c_M_placeFor 93 = .ok (.idiv, 1) := by decide +kernel
theorem d_M_placeFor_94 : decode c_M_placeFor 94 = .ok (.iload 4, 2) := by decide +kernel
theorem d_M_placeFor_96 : decode c_M_placeFor 96 = .ok (.iconst 1, 1) := by decide +kernel
theorem d_M_placeFor_97 : decode c_M_placeFor 97 = .ok (.iadd, 1) := by decide +kernel
theorem d_M_placeFor_98 : decode c_M_placeFor 98 = .ok (.idiv, 1) := by decide +kernel
theorem d_M_placeFor_99 : decode c_M_placeFor 99 = .ok (.iastore, 1) := by decide +kernel
theorem d_M_placeFor_100 : decode c_M_placeFor 100 = .ok (.aload_n 0, 1) := by decide +kernel
theorem d_M_placeFor_101 : decode c_M_placeFor 101 = .ok (.invokevirtual 78, 3) := by decide +kernel
theorem d_M_placeFor_104 : decode c_M_placeFor 104 = .ok (.istore 7, 2) := by decide +kernel
theorem d_M_placeFor_106 : decode c_M_placeFor 106 = .ok (.iconst 0, 1) := by decide +kernel
theorem d_M_placeFor_107 : decode c_M_placeFor 107 = .ok (.istore 8, 2) := by decide +kernel
theorem d_M_placeFor_109 : decode c_M_placeFor 109 = .ok (.iload 8, 2) := by decide +kernel
theorem d_M_placeFor_111 : decode c_M_placeFor 111 = .ok (.bipush 18, 2) := by decide +kernel
theorem d_M_placeFor_113 : decode c_M_placeFor 113 = .ok (.if_icmp .ge 88, 3) := by decide +kernel
theorem d_M_placeFor_116 : decode c_M_placeFor 116 = .ok (.iload 7, 2) := by decide +kernel
theorem d_M_placeFor_118 : decode c_M_placeFor 118 = .ok (.ifCond .eq 83, 3) := by decide +kernel
theorem d_M_placeFor_121 : decode c_M_placeFor 121 = .ok (.iload 8, 2) := by decide +kernel
theorem d_M_placeFor_123 : decode c_M_placeFor 123 = .ok (.iload_n 1, 1) := by decide +kernel
theorem d_M_placeFor_124 : decode c_M_placeFor 124 = .ok (.if_icmp .eq 25, 3) := by decide +kernel
theorem d_M_placeFor_127 : decode c_M_placeFor 127 = .ok (.iload 8, 2) := by decide +kernel
theorem d_M_placeFor_129 : decode c_M_placeFor 129 = .ok (.bipush 6, 2) := by decide +kernel
theorem d_M_placeFor_131 : decode c_M_placeFor 131 = .ok (.irem, 1) := by decide +kernel
theorem d_M_placeFor_132 : decode c_M_placeFor 132 = .ok (.aload_n 0, 1) := by decide +kernel
theorem d_M_placeFor_133 : decode c_M_placeFor 133 = .ok (.getfield 32, 3) := by decide +kernel
theorem d_M_placeFor_136 : decode c_M_placeFor 136 = .ok (.iconst 3, 1) := by decide +kernel
theorem d_M_placeFor_137 : decode c_M_placeFor 137 = .ok (.iload_n 2, 1) := by decide +kernel
theorem d_M_placeFor_138 : decode c_M_placeFor 138 = .ok (.imul, 1) := by decide +kernel
theorem d_M_placeFor_139 : decode c_M_placeFor 139 = .ok (.iload 8, 2) := by decide +kernel
theorem d_M_placeFor_141 : decode c_M_placeFor 141 = .ok (.bipush 6, 2) := by decide +kernel
theorem d_M_placeFor_143 : decode c_M_placeFor 143 = .ok (.idiv, 1) := by decide +kernel
theorem d_M_placeFor_144 : decode c_M_placeFor 144 = .ok (.iadd, 1) := by decide +kernel
theorem d_M_placeFor_145 : decode c_M_placeFor 145 = .ok (.iaload, 1) := by decide +kernel
theorem d_M_placeFor_146 : decode c_M_placeFor 146 = .ok (.if_icmp .ge 7, 3) := by decide +kernel
theorem d_M_placeFor_149 : decode c_M_placeFor 149 = .ok (.iconst 1, 1) := by decide +kernel
theorem d_M_placeFor_150 : decode c_M_placeFor 150 = .ok (.goto 4, 3) := by decide +kernel
theorem d_M_placeFor_153 : decode c_M_placeFor 153 = .ok (.iconst 0, 1) := by decide +kernel
theorem d_M_placeFor_154 : decode c_M_placeFor 154 = .ok (.istore 9, 2) := by decide +kernel
theorem d_M_placeFor_156 : decode c_M_placeFor 156 = .ok (.iload 9, 2) := by decide +kernel
theorem d_M_placeFor_158 : decode c_M_placeFor 158 = .ok (.ifCond .eq 37, 3) := by decide +kernel
theorem d_M_placeFor_161 : decode c_M_placeFor 161 = .ok (.aload_n 0, 1) := by decide +kernel
theorem d_M_placeFor_162 : decode c_M_placeFor 162 = .ok (.getfield 13, 3) := by decide +kernel
theorem d_M_placeFor_165 : decode c_M_placeFor 165 = .ok (.iload 8, 2) := by decide +kernel
theorem d_M_placeFor_167 : decode c_M_placeFor 167 = .ok (.baload, 1) := by decide +kernel
theorem d_M_placeFor_168 : decode c_M_placeFor 168 = .ok (.ifCond .eq 27, 3) := by decide +kernel
theorem d_M_placeFor_171 : decode c_M_placeFor 171 = .ok (.aload_n 0, 1) := by decide +kernel
theorem d_M_placeFor_172 : decode c_M_placeFor 172 = .ok (.iload 8, 2) := by decide +kernel
theorem d_M_placeFor_174 : decode c_M_placeFor 174 = .ok (.invokevirtual 61, 3) := by decide +kernel
theorem d_M_placeFor_177 : decode c_M_placeFor 177 = .ok (.ifCond .ne 18, 3) := by decide +kernel
theorem d_M_placeFor_180 : decode c_M_placeFor 180 = .ok (.aload_n 0, 1) := by decide +kernel
theorem d_M_placeFor_181 : decode c_M_placeFor 181 = .ok (.iload 8, 2) := by decide +kernel
theorem d_M_placeFor_183 : decode c_M_placeFor 183 = .ok (.invokevirtual 64, 3) := by decide +kernel
theorem d_M_placeFor_186 : decode c_M_placeFor 186 = .ok (.ifCond .eq 9, 3) := by decide +kernel
theorem d_M_placeFor_189 : decode c_M_placeFor 189 = .ok (.aload_n 0, 1) := by decide +kernel
theorem d_M_placeFor_190 : decode c_M_placeFor 190 = .ok (.iload 8, 2) := by decide +kernel
theorem d_M_placeFor_192 : decode c_M_placeFor 192 = .ok (.invokevirtual 82, 3) := by decide +kernel
theorem d_M_placeFor_195 : decode c_M_placeFor 195 = .ok (.iinc 8 1, 3) := by decide +kernel
theorem d_M_placeFor_198 : decode c_M_placeFor 198 = .ok (.goto (-89), 3) := by decide +kernel
theorem d_M_placeFor_201 : decode c_M_placeFor 201 = .ok (.iinc 6 1, 3) := by decide +kernel
theorem d_M_placeFor_204 : decode c_M_placeFor 204 = .ok (.goto (-168), 3) := by decide +kernel
theorem d_M_placeFor_207 : decode c_M_placeFor 207 = .ok (.aload_n 0, 1) := by decide +kernel
theorem d_M_placeFor_208 : decode c_M_placeFor 208 = .ok (.getfield 50, 3) := by decide +kernel
theorem d_M_placeFor_211 : decode c_M_placeFor 211 = .ok (.iconst 0, 1) := by decide +kernel
theorem d_M_placeFor_212 : decode c_M_placeFor 212 = .ok (.iload_n 3, 1) := by decide +kernel
theorem d_M_placeFor_213 : decode c_M_placeFor 213 = .ok (.iastore, 1) := by decide +kernel
theorem d_M_placeFor_214 : decode c_M_placeFor 214 = .ok (.aload_n 0, 1) := by decide +kernel
theorem d_M_placeFor_215 : decode c_M_placeFor 215 = .ok (.getfield 50, 3) := by decide +kernel
theorem d_M_placeFor_218 : decode c_M_placeFor 218 = .ok (.iconst 1, 1) := by decide +kernel
theorem d_M_placeFor_219 : decode c_M_placeFor 219 = .ok (.iload 4, 2) := by decide +kernel
theorem d_M_placeFor_221 : decode c_M_placeFor 221 = .ok (.iastore, 1) := by decide +kernel
theorem d_M_placeFor_222 : decode c_M_placeFor 222 = .ok (.aload_n 0, 1) := by decide +kernel
theorem d_M_placeFor_223 : decode c_M_placeFor 223 = .ok (.getfield 50, 3) := by decide +kernel
theorem d_M_placeFor_226 : decode c_M_placeFor 226 = .ok (.iconst 2, 1) := by decide +kernel
theorem d_M_placeFor_227 : decode c_M_placeFor 227 = .ok (.iload 5, 2) := by decide +kernel
theorem d_M_placeFor_229 : decode c_M_placeFor 229 = .ok (.iastore, 1) := by decide +kernel
theorem d_M_placeFor_230 : decode c_M_placeFor 230 = .ok (.aload_n 0, 1) := by decide +kernel
theorem d_M_placeFor_231 : decode c_M_placeFor 231 = .ok (.getfield 47, 3) := by decide +kernel
theorem d_M_placeFor_234 : decode c_M_placeFor 234 = .ok (.aload_n 0, 1) := by decide +kernel
theorem d_M_placeFor_235 : decode c_M_placeFor 235 = .ok (.iload_n 1, 1) := by decide +kernel
theorem d_M_placeFor_236 : decode c_M_placeFor 236 = .ok (.invokevirtual 71, 3) := by decide +kernel
theorem d_M_placeFor_239 : decode c_M_placeFor 239 = .ok (.iaload, 1) := by decide +kernel
theorem d_M_placeFor_240 : decode c_M_placeFor 240 = .ok (.ireturn, 1) := by decide +kernel
abbrev c_M_execute : ByteArray := prog_7_method_14_code
def y_M_execute : MethodName := ⟨R_M, "execute", "(II)V"⟩
def w_M_execute : List Cond := .code y_M_execute c_M_execute 6 (none) :: gT
theorem k_M_execute : Cond.code y_M_execute c_M_execute 6 (none) ∈ gT := gT_t (i := 393) (by decide +kernel) rfl
theorem hd_M_execute : y_M_execute.cls = R_M ∧ y_M_execute.cls ≠ "java/lang/invoke/MethodHandle" ∧ y_M_execute.cls ≠ "java/lang/invoke/VarHandle" ∧ (parseMethodDescriptor y_M_execute.desc).map (fun d => d.parameters.length) = some 2 := by decide +kernel
theorem d_M_execute_0 : decode c_M_execute 0 = .ok (.aload_n 0, 1) := by decide +kernel
theorem d_M_execute_1 : decode c_M_execute 1 = .ok (.getfield 13, 3) := by decide +kernel
theorem d_M_execute_4 : decode c_M_execute 4 = .ok (.iload_n 2, 1) := by decide +kernel
theorem d_M_execute_5 : decode c_M_execute 5 = .ok (.baload, 1) := by decide +kernel
theorem d_M_execute_6 : decode c_M_execute 6 = .ok (.ifCond .eq 12, 3) := by decide +kernel
theorem d_M_execute_9 : decode c_M_execute 9 = .ok (.aload_n 0, 1) := by decide +kernel
theorem d_M_execute_10 : decode c_M_execute 10 = .ok (.iload_n 2, 1) := by decide +kernel
theorem d_M_execute_11 : decode c_M_execute 11 = .ok (.iload_n 1, 1) := by decide +kernel
theorem d_M_execute_12 : decode c_M_execute 12 = .ok (.invokevirtual 86, 3) := by decide +kernel
theorem d_M_execute_15 : decode c_M_execute 15 = .ok (.goto 14, 3) := by decide +kernel
theorem d_M_execute_18 : decode c_M_execute 18 = .ok (.aload_n 0, 1) := by decide +kernel
theorem d_M_execute_19 : decode c_M_execute 19 = .ok (.iload_n 1, 1) := by decide +kernel
theorem d_M_execute_20 : decode c_M_execute 20 = .ok (.aload_n 0, 1) := by decide +kernel
theorem d_M_execute_21 : decode c_M_execute 21 = .ok (.getfield 35, 3) := by decide +kernel
theorem d_M_execute_24 : decode c_M_execute 24 = .ok (.iload_n 2, 1) := by decide +kernel
theorem d_M_execute_25 : decode c_M_execute 25 = .ok (.iaload, 1) := by decide +kernel
theorem d_M_execute_26 : decode c_M_execute 26 = .ok (.invokevirtual 90, 3) := by decide +kernel
theorem d_M_execute_29 : decode c_M_execute 29 = .ok (.istore_n 3, 1) := by decide +kernel
theorem d_M_execute_30 : decode c_M_execute 30 = .ok (.aload_n 0, 1) := by decide +kernel
theorem d_M_execute_31 : decode c_M_execute 31 = .ok (.getfield 29, 3) := by decide +kernel
theorem d_M_execute_34 : decode c_M_execute 34 = .ok (.bipush 18, 2) := by decide +kernel
theorem d_M_execute_36 : decode c_M_execute 36 = .ok (.iload_n 1, 1) := by decide +kernel
theorem d_M_execute_37 : decode c_M_execute 37 = .ok (.imul, 1) := by decide +kernel
theorem d_M_execute_38 : decode c_M_execute 38 = .ok (.iload_n 2, 1) := by decide +kernel
theorem d_M_execute_39 : decode c_M_execute 39 = .ok (.iadd, 1) := by decide +kernel
theorem d_M_execute_40 : decode c_M_execute 40 = .ok (.iload_n 3, 1) := by decide +kernel
theorem d_M_execute_41 : decode c_M_execute 41 = .ok (.iastore, 1) := by decide +kernel
theorem d_M_execute_42 : decode c_M_execute 42 = .ok (.bipush 18, 2) := by decide +kernel
theorem d_M_execute_44 : decode c_M_execute 44 = .ok (.iload_n 1, 1) := by decide +kernel
theorem d_M_execute_45 : decode c_M_execute 45 = .ok (.imul, 1) := by decide +kernel
theorem d_M_execute_46 : decode c_M_execute 46 = .ok (.istore 4, 2) := by decide +kernel
theorem d_M_execute_48 : decode c_M_execute 48 = .ok (.aload_n 0, 1) := by decide +kernel
theorem d_M_execute_49 : decode c_M_execute 49 = .ok (.getfield 13, 3) := by decide +kernel
theorem d_M_execute_52 : decode c_M_execute 52 = .ok (.iload_n 2, 1) := by decide +kernel
theorem d_M_execute_53 : decode c_M_execute 53 = .ok (.baload, 1) := by decide +kernel
theorem d_M_execute_54 : decode c_M_execute 54 = .ok (.ifCond .eq 100, 3) := by decide +kernel
theorem d_M_execute_57 : decode c_M_execute 57 = .ok (.aload_n 0, 1) := by decide +kernel
theorem d_M_execute_58 : decode c_M_execute 58 = .ok (.getfield 38, 3) := by decide +kernel
theorem d_M_execute_61 : decode c_M_execute 61 = .ok (.iload_n 1, 1) := by decide +kernel
theorem d_M_execute_62 : decode c_M_execute 62 = .ok (.iaload, 1) := by decide +kernel
theorem d_M_execute_63 : decode c_M_execute 63 = .ok (.istore 5, 2) := by decide +kernel
theorem d_M_execute_65 : decode c_M_execute 65 = .ok (.iload 5, 2) := by decide +kernel
theorem d_M_execute_67 : decode c_M_execute 67 = .ok (.iload_n 3, 1) := by decide +kernel
theorem d_M_execute_68 : decode c_M_execute 68 = .ok (.if_icmp .le 53, 3) := by decide +kernel
theorem d_M_execute_71 : decode c_M_execute 71 = .ok (.aload_n 0, 1) := by decide +kernel
theorem d_M_execute_72 : decode c_M_execute 72 = .ok (.getfield 41, 3) := by decide +kernel
theorem d_M_execute_75 : decode c_M_execute 75 = .ok (.iload 4, 2) := by decide +kernel
theorem d_M_execute_77 : decode c_M_execute 77 = .ok (.iload 5, 2) := by decide +kernel
theorem d_M_execute_79 : decode c_M_execute 79 = .ok (.iadd, 1) := by decide +kernel
theorem d_M_execute_80 : decode c_M_execute 80 = .ok (.aload_n 0, 1) := by decide +kernel
theorem d_M_execute_81 : decode c_M_execute 81 = .ok (.getfield 41, 3) := by decide +kernel
theorem d_M_execute_84 : decode c_M_execute 84 = .ok (.iload 4, 2) := by decide +kernel
theorem d_M_execute_86 : decode c_M_execute 86 = .ok (.iload 5, 2) := by decide +kernel
theorem d_M_execute_88 : decode c_M_execute 88 = .ok (.iadd, 1) := by decide +kernel
theorem d_M_execute_89 : decode c_M_execute 89 = .ok (.iconst 1, 1) := by decide +kernel
theorem d_M_execute_90 : decode c_M_execute 90 = .ok (.isub, 1) := by decide +kernel
theorem d_M_execute_91 : decode c_M_execute 91 = .ok (.iaload, 1) := by decide +kernel
theorem d_M_execute_92 : decode c_M_execute 92 = .ok (.iastore, 1) := by decide +kernel
theorem d_M_execute_93 : decode c_M_execute 93 = .ok (.aload_n 0, 1) := by decide +kernel
theorem d_M_execute_94 : decode c_M_execute 94 = .ok (.getfield 44, 3) := by decide +kernel
theorem d_M_execute_97 : decode c_M_execute 97 = .ok (.iload 4, 2) := by decide +kernel
theorem d_M_execute_99 : decode c_M_execute 99 = .ok (.iload 5, 2) := by decide +kernel
theorem d_M_execute_101 : decode c_M_execute 101 = .ok (.iadd, 1) := by decide +kernel
theorem d_M_execute_102 : decode c_M_execute 102 = .ok (.aload_n 0, 1) := by decide +kernel
theorem d_M_execute_103 : decode c_M_execute 103 = .ok (.getfield 44, 3) := by decide +kernel
theorem d_M_execute_106 : decode c_M_execute 106 = .ok (.iload 4, 2) := by decide +kernel
theorem d_M_execute_108 : decode c_M_execute 108 = .ok (.iload 5, 2) := by decide +kernel
theorem d_M_execute_110 : decode c_M_execute 110 = .ok (.iadd, 1) := by decide +kernel
theorem d_M_execute_111 : decode c_M_execute 111 = .ok (.iconst 1, 1) := by decide +kernel
theorem d_M_execute_112 : decode c_M_execute 112 = .ok (.isub, 1) := by decide +kernel
theorem d_M_execute_113 : decode c_M_execute 113 = .ok (.baload, 1) := by decide +kernel
theorem d_M_execute_114 : decode c_M_execute 114 = .ok (.bastore, 1) := by decide +kernel
theorem d_M_execute_115 : decode c_M_execute 115 = .ok (.iinc 5 (-1), 3) := by decide +kernel
theorem d_M_execute_118 : decode c_M_execute 118 = .ok (.goto (-53), 3) := by decide +kernel
theorem d_M_execute_121 : decode c_M_execute 121 = .ok (.aload_n 0, 1) := by decide +kernel
theorem d_M_execute_122 : decode c_M_execute 122 = .ok (.getfield 41, 3) := by decide +kernel
theorem d_M_execute_125 : decode c_M_execute 125 = .ok (.iload 4, 2) := by decide +kernel
theorem d_M_execute_127 : decode c_M_execute 127 = .ok (.iload_n 3, 1) := by decide +kernel
theorem d_M_execute_128 : decode c_M_execute 128 = .ok (.iadd, 1) := by decide +kernel
theorem d_M_execute_129 : decode c_M_execute 129 = .ok (.iload_n 2, 1) := by decide +kernel
theorem d_M_execute_130 : decode c_M_execute 130 = .ok (.iastore, 1) := by decide +kernel
theorem d_M_execute_131 : decode c_M_execute 131 = .ok (.aload_n 0, 1) := by decide +kernel
theorem d_M_execute_132 : decode c_M_execute 132 = .ok (.getfield 44, 3) := by decide +kernel
theorem d_M_execute_135 : decode c_M_execute 135 = .ok (.iload 4, 2) := by decide +kernel
theorem d_M_execute_137 : decode c_M_execute 137 = .ok (.iload_n 3, 1) := by decide +kernel
theorem d_M_execute_138 : decode c_M_execute 138 = .ok (.iadd, 1) := by decide +kernel
theorem d_M_execute_139 : decode c_M_execute 139 = .ok (.iconst 1, 1) := by decide +kernel
theorem d_M_execute_140 : decode c_M_execute 140 = .ok (.bastore, 1) := by decide +kernel
theorem d_M_execute_141 : decode c_M_execute 141 = .ok (.aload_n 0, 1) := by decide +kernel
theorem d_M_execute_142 : decode c_M_execute 142 = .ok (.getfield 38, 3) := by decide +kernel
theorem d_M_execute_145 : decode c_M_execute 145 = .ok (.iload_n 1, 1) := by decide +kernel
theorem d_M_execute_146 : decode c_M_execute 146 = .ok (.dup2, 1) := by decide +kernel
theorem d_M_execute_147 : decode c_M_execute 147 = .ok (.iaload, 1) := by decide +kernel
theorem d_M_execute_148 : decode c_M_execute 148 = .ok (.iconst 1, 1) := by decide +kernel
theorem d_M_execute_149 : decode c_M_execute 149 = .ok (.iadd, 1) := by decide +kernel
theorem d_M_execute_150 : decode c_M_execute 150 = .ok (.iastore, 1) := by decide +kernel
theorem d_M_execute_151 : decode c_M_execute 151 = .ok (.goto 13, 3) := by decide +kernel
theorem d_M_execute_154 : decode c_M_execute 154 = .ok (.aload_n 0, 1) := by decide +kernel
theorem d_M_execute_155 : decode c_M_execute 155 = .ok (.getfield 44, 3) := by decide +kernel
theorem d_M_execute_158 : decode c_M_execute 158 = .ok (.iload 4, 2) := by decide +kernel
theorem d_M_execute_160 : decode c_M_execute 160 = .ok (.iload_n 3, 1) := by decide +kernel
theorem d_M_execute_161 : decode c_M_execute 161 = .ok (.iadd, 1) := by decide +kernel
theorem d_M_execute_162 : decode c_M_execute 162 = .ok (.iconst 0, 1) := by decide +kernel
theorem d_M_execute_163 : decode c_M_execute 163 = .ok (.bastore, 1) := by decide +kernel
theorem d_M_execute_164 : decode c_M_execute 164 = .ok (.aload_n 0, 1) := by decide +kernel
theorem d_M_execute_165 : decode c_M_execute 165 = .ok (.getfield 32, 3) := by decide +kernel
theorem d_M_execute_168 : decode c_M_execute 168 = .ok (.iconst 3, 1) := by decide +kernel
theorem d_M_execute_169 : decode c_M_execute 169 = .ok (.iload_n 1, 1) := by decide +kernel
theorem d_M_execute_170 : decode c_M_execute 170 = .ok (.imul, 1) := by decide +kernel
theorem d_M_execute_171 : decode c_M_execute 171 = .ok (.iload_n 2, 1) := by decide +kernel
theorem d_M_execute_172 : decode c_M_execute 172 = .ok (.bipush 6, 2) := by decide +kernel
theorem d_M_execute_174 : decode c_M_execute 174 = .ok (.idiv, 1) := by decide +kernel
theorem d_M_execute_175 : decode c_M_execute 175 = .ok (.iadd, 1) := by decide +kernel
theorem d_M_execute_176 : decode c_M_execute 176 = .ok (.dup2, 1) := by decide +kernel
theorem d_M_execute_177 : decode c_M_execute 177 = .ok (.iaload, 1) := by decide +kernel
theorem d_M_execute_178 : decode c_M_execute 178 = .ok (.iconst 1, 1) := by decide +kernel
theorem d_M_execute_179 : decode c_M_execute 179 = .ok (.iadd, 1) := by decide +kernel
theorem d_M_execute_180 : decode c_M_execute 180 = .ok (.iastore, 1) := by decide +kernel
theorem d_M_execute_181 : decode c_M_execute 181 = .ok (.return_, 1) := by decide +kernel
abbrev c_M_ready : ByteArray := prog_7_method_15_code
def y_M_ready : MethodName := ⟨R_M, "ready", "(II)Z"⟩
def w_M_ready : List Cond := .code y_M_ready c_M_ready 5 (some .boolean) :: gT
theorem k_M_ready : Cond.code y_M_ready c_M_ready 5 (some .boolean) ∈ gT := gT_t (i := 448) (by decide +kernel) rfl
theorem hd_M_ready : y_M_ready.cls = R_M ∧ y_M_ready.cls ≠ "java/lang/invoke/MethodHandle" ∧ y_M_ready.cls ≠ "java/lang/invoke/VarHandle" ∧ (parseMethodDescriptor y_M_ready.desc).map (fun d => d.parameters.length) = some 2 := by decide +kernel
theorem d_M_ready_0 : decode c_M_ready 0 = .ok (.aload_n 0, 1) := by decide +kernel
theorem d_M_ready_1 : decode c_M_ready 1 = .ok (.getfield 32, 3) := by decide +kernel
theorem d_M_ready_4 : decode c_M_ready 4 = .ok (.iconst 3, 1) := by decide +kernel
theorem d_M_ready_5 : decode c_M_ready 5 = .ok (.iload_n 1, 1) := by decide +kernel
theorem d_M_ready_6 : decode c_M_ready 6 = .ok (.imul, 1) := by decide +kernel
theorem d_M_ready_7 : decode c_M_ready 7 = .ok (.iload_n 2, 1) := by decide +kernel
theorem d_M_ready_8 : decode c_M_ready 8 = .ok (.bipush 6, 2) := by decide +kernel
theorem d_M_ready_10 : decode c_M_ready 10 = .ok (.idiv, 1) := by decide +kernel
theorem d_M_ready_11 : decode c_M_ready 11 = .ok (.iadd, 1) := by decide +kernel
theorem d_M_ready_12 : decode c_M_ready 12 = .ok (.iaload, 1) := by decide +kernel
theorem d_M_ready_13 : decode c_M_ready 13 = .ok (.iload_n 2, 1) := by decide +kernel
theorem d_M_ready_14 : decode c_M_ready 14 = .ok (.bipush 6, 2) := by decide +kernel
theorem d_M_ready_16 : decode c_M_ready 16 = .ok (.irem, 1) := by decide +kernel
theorem d_M_ready_17 : decode c_M_ready 17 = .ok (.if_icmp .ne 7, 3) := by decide +kernel
theorem d_M_ready_20 : decode c_M_ready 20 = .ok (.iconst 1, 1) := by decide +kernel
theorem d_M_ready_21 : decode c_M_ready 21 = .ok (.goto 4, 3) := by decide +kernel
theorem d_M_ready_24 : decode c_M_ready 24 = .ok (.iconst 0, 1) := by decide +kernel
theorem d_M_ready_25 : decode c_M_ready 25 = .ok (.istore_n 3, 1) := by decide +kernel
theorem d_M_ready_26 : decode c_M_ready 26 = .ok (.iconst 0, 1) := by decide +kernel
theorem d_M_ready_27 : decode c_M_ready 27 = .ok (.istore 4, 2) := by decide +kernel
theorem d_M_ready_29 : decode c_M_ready 29 = .ok (.iload 4, 2) := by decide +kernel
theorem d_M_ready_31 : decode c_M_ready 31 = .ok (.iconst 3, 1) := by decide +kernel
theorem d_M_ready_32 : decode c_M_ready 32 = .ok (.if_icmp .ge 53, 3) := by decide +kernel
theorem d_M_ready_35 : decode c_M_ready 35 = .ok (.iload_n 3, 1) := by decide +kernel
theorem d_M_ready_36 : decode c_M_ready 36 = .ok (.ifCond .eq 41, 3) := by decide +kernel
theorem d_M_ready_39 : decode c_M_ready 39 = .ok (.iload 4, 2) := by decide +kernel
theorem d_M_ready_41 : decode c_M_ready 41 = .ok (.iload_n 2, 1) := by decide +kernel
theorem d_M_ready_42 : decode c_M_ready 42 = .ok (.bipush 6, 2) := by decide +kernel
theorem d_M_ready_44 : decode c_M_ready 44 = .ok (.idiv, 1) := by decide +kernel
theorem d_M_ready_45 : decode c_M_ready 45 = .ok (.if_icmp .eq 28, 3) := by decide +kernel
theorem d_M_ready_48 : decode c_M_ready 48 = .ok (.aload_n 0, 1) := by decide +kernel
theorem d_M_ready_49 : decode c_M_ready 49 = .ok (.getfield 32, 3) := by decide +kernel
theorem d_M_ready_52 : decode c_M_ready 52 = .ok (.iconst 3, 1) := by decide +kernel
theorem d_M_ready_53 : decode c_M_ready 53 = .ok (.iload_n 1, 1) := by decide +kernel
theorem d_M_ready_54 : decode c_M_ready 54 = .ok (.imul, 1) := by decide +kernel
theorem d_M_ready_55 : decode c_M_ready 55 = .ok (.iload 4, 2) := by decide +kernel
theorem d_M_ready_57 : decode c_M_ready 57 = .ok (.iadd, 1) := by decide +kernel
theorem d_M_ready_58 : decode c_M_ready 58 = .ok (.iaload, 1) := by decide +kernel
theorem d_M_ready_59 : decode c_M_ready 59 = .ok (.aload_n 0, 1) := by decide +kernel
theorem d_M_ready_60 : decode c_M_ready 60 = .ok (.getfield 23, 3) := by decide +kernel
theorem d_M_ready_63 : decode c_M_ready 63 = .ok (.iconst 3, 1) := by decide +kernel
theorem d_M_ready_64 : decode c_M_ready 64 = .ok (.iload_n 2, 1) := by decide +kernel
theorem d_M_ready_65 : decode c_M_ready 65 = .ok (.imul, 1) := by decide +kernel
theorem d_M_ready_66 : decode c_M_ready 66 = .ok (.iload 4, 2) := by decide +kernel
theorem d_M_ready_68 : decode c_M_ready 68 = .ok (.iadd, 1) := by decide +kernel
theorem d_M_ready_69 : decode c_M_ready 69 = .ok (.iaload, 1) := by decide +kernel
theorem d_M_ready_70 : decode c_M_ready 70 = .ok (.if_icmp .lt 7, 3) := by decide +kernel
theorem d_M_ready_73 : decode c_M_ready 73 = .ok (.iconst 1, 1) := by decide +kernel
theorem d_M_ready_74 : decode c_M_ready 74 = .ok (.goto 4, 3) := by decide +kernel
theorem d_M_ready_77 : decode c_M_ready 77 = .ok (.iconst 0, 1) := by decide +kernel
theorem d_M_ready_78 : decode c_M_ready 78 = .ok (.istore_n 3, 1) := by decide +kernel
theorem d_M_ready_79 : decode c_M_ready 79 = .ok (.iinc 4 1, 3) := by decide +kernel
theorem d_M_ready_82 : decode c_M_ready 82 = .ok (.goto (-53), 3) := by decide +kernel
theorem d_M_ready_85 : decode c_M_ready 85 = .ok (.iload_n 3, 1) := by decide +kernel
theorem d_M_ready_86 : decode c_M_ready 86 = .ok (.ireturn, 1) := by decide +kernel
abbrev c_M_work : ByteArray := prog_7_method_16_code
def y_M_work : MethodName := ⟨R_M, "work", "(I)I"⟩
def w_M_work : List Cond := .code y_M_work c_M_work 7 (some .int) :: gT
theorem k_M_work : Cond.code y_M_work c_M_work 7 (some .int) ∈ gT := gT_t (i := 444) (by decide +kernel) rfl
theorem hd_M_work : y_M_work.cls = R_M ∧ y_M_work.cls ≠ "java/lang/invoke/MethodHandle" ∧ y_M_work.cls ≠ "java/lang/invoke/VarHandle" ∧ (parseMethodDescriptor y_M_work.desc).map (fun d => d.parameters.length) = some 1 := by decide +kernel
theorem d_M_work_0 : decode c_M_work 0 = .ok (.iconst 0, 1) := by decide +kernel
theorem d_M_work_1 : decode c_M_work 1 = .ok (.istore_n 2, 1) := by decide +kernel
theorem d_M_work_2 : decode c_M_work 2 = .ok (.iconst 1, 1) := by decide +kernel
theorem d_M_work_3 : decode c_M_work 3 = .ok (.istore_n 3, 1) := by decide +kernel
theorem d_M_work_4 : decode c_M_work 4 = .ok (.iload_n 3, 1) := by decide +kernel
theorem d_M_work_5 : decode c_M_work 5 = .ok (.ifCond .eq 110, 3) := by decide +kernel
theorem d_M_work_8 : decode c_M_work 8 = .ok (.iconst (-1), 1) := by decide +kernel
theorem d_M_work_9 : decode c_M_work 9 = .ok (.istore 4, 2) := by decide +kernel
theorem d_M_work_11 : decode c_M_work 11 = .ok (.bipush 17, 2) := by decide +kernel
theorem d_M_work_13 : decode c_M_work 13 = .ok (.istore 5, 2) := by decide +kernel
theorem d_M_work_15 : decode c_M_work 15 = .ok (.iload 5, 2) := by decide +kernel
theorem d_M_work_17 : decode c_M_work 17 = .ok (.ifCond .lt 70, 3) := by decide +kernel
theorem d_M_work_20 : decode c_M_work 20 = .ok (.aload_n 0, 1) := by decide +kernel
theorem d_M_work_21 : decode c_M_work 21 = .ok (.getfield 26, 3) := by decide +kernel
theorem d_M_work_24 : decode c_M_work 24 = .ok (.bipush 18, 2) := by decide +kernel
theorem d_M_work_26 : decode c_M_work 26 = .ok (.iload_n 1, 1) := by decide +kernel
theorem d_M_work_27 : decode c_M_work 27 = .ok (.imul, 1) := by decide +kernel
theorem d_M_work_28 : decode c_M_work 28 = .ok (.iload 5, 2) := by decide +kernel
theorem d_M_work_30 : decode c_M_work 30 = .ok (.iadd, 1) := by decide +kernel
theorem d_M_work_31 : decode c_M_work 31 = .ok (.baload, 1) := by decide +kernel
theorem d_M_work_32 : decode c_M_work 32 = .ok (.ifCond .eq 22, 3) := by decide +kernel
theorem d_M_work_35 : decode c_M_work 35 = .ok (.aload_n 0, 1) := by decide +kernel
theorem d_M_work_36 : decode c_M_work 36 = .ok (.getfield 29, 3) := by decide +kernel
theorem d_M_work_39 : decode c_M_work 39 = .ok (.bipush 18, 2) := by decide +kernel
theorem d_M_work_41 : decode c_M_work 41 = .ok (.iload_n 1, 1) := by decide +kernel
theorem d_M_work_42 : decode c_M_work 42 = .ok (.imul, 1) := by decide +kernel
theorem d_M_work_43 : decode c_M_work 43 = .ok (.iload 5, 2) := by decide +kernel
theorem d_M_work_45 : decode c_M_work 45 = .ok (.iadd, 1) := by decide +kernel
theorem d_M_work_46 : decode c_M_work 46 = .ok (.iaload, 1) := by decide +kernel
theorem d_M_work_47 : decode c_M_work 47 = .ok (.ifCond .ge 7, 3) := by decide +kernel
theorem d_M_work_50 : decode c_M_work 50 = .ok (.iconst 1, 1) := by decide +kernel
theorem d_M_work_51 : decode c_M_work 51 = .ok (.goto 4, 3) := by decide +kernel
theorem d_M_work_54 : decode c_M_work 54 = .ok (.iconst 0, 1) := by decide +kernel
theorem d_M_work_55 : decode c_M_work 55 = .ok (.istore 6, 2) := by decide +kernel
theorem d_M_work_57 : decode c_M_work 57 = .ok (.iload 6, 2) := by decide +kernel
theorem d_M_work_59 : decode c_M_work 59 = .ok (.ifCond .eq 18, 3) := by decide +kernel
theorem d_M_work_62 : decode c_M_work 62 = .ok (.aload_n 0, 1) := by decide +kernel
theorem d_M_work_63 : decode c_M_work 63 = .ok (.iload_n 1, 1) := by decide +kernel
theorem d_M_work_64 : decode c_M_work 64 = .ok (.iload 5, 2) := by decide +kernel
theorem d_M_work_66 : decode c_M_work 66 = .ok (.invokevirtual 93, 3) := by decide +kernel
theorem d_M_work_69 : decode c_M_work 69 = .ok (.ifCond .eq 8, 3) := by decide +kernel
theorem d_M_work_72 : decode c_M_work 72 = .ok (.iload 5, 2) := by decide +kernel
theorem d_M_work_74 : decode c_M_work 74 = .ok (.goto 5, 3) := by decide +kernel
theorem d_M_work_77 : decode c_M_work 77 = .ok (.iload 4, 2) := by decide +kernel
theorem d_M_work_79 : decode c_M_work 79 = .ok (.istore 4, 2) := by decide +kernel
theorem d_M_work_81 : decode c_M_work 81 = .ok (.iinc 5 (-1), 3) := by decide +kernel
theorem d_M_work_84 : decode c_M_work 84 = .ok (.goto (-69), 3) := by decide +kernel
theorem d_M_work_87 : decode c_M_work 87 = .ok (.iload 4, 2) := by decide +kernel
theorem d_M_work_89 : decode c_M_work 89 = .ok (.ifCond .lt 7, 3) := by decide +kernel
theorem d_M_work_92 : decode c_M_work 92 = .ok (.iconst 1, 1) := by decide +kernel
theorem d_M_work_93 : decode c_M_work 93 = .ok (.goto 4, 3) := by decide +kernel
theorem d_M_work_96 : decode c_M_work 96 = .ok (.iconst 0, 1) := by decide +kernel
theorem d_M_work_97 : decode c_M_work 97 = .ok (.istore_n 3, 1) := by decide +kernel
theorem d_M_work_98 : decode c_M_work 98 = .ok (.iload_n 3, 1) := by decide +kernel
theorem d_M_work_99 : decode c_M_work 99 = .ok (.ifCond .eq 13, 3) := by decide +kernel
theorem d_M_work_102 : decode c_M_work 102 = .ok (.aload_n 0, 1) := by decide +kernel
theorem d_M_work_103 : decode c_M_work 103 = .ok (.iload_n 1, 1) := by decide +kernel
theorem d_M_work_104 : decode c_M_work 104 = .ok (.iload 4, 2) := by decide +kernel
theorem d_M_work_106 : decode c_M_work 106 = .ok (.invokevirtual 97, 3) := by decide +kernel
theorem d_M_work_109 : decode c_M_work 109 = .ok (.iinc 2 1, 3) := by decide +kernel
theorem d_M_work_112 : decode c_M_work 112 = .ok (.goto (-108), 3) := by decide +kernel
theorem d_M_work_115 : decode c_M_work 115 = .ok (.iload_n 2, 1) := by decide +kernel
theorem d_M_work_116 : decode c_M_work 116 = .ok (.ireturn, 1) := by decide +kernel
abbrev c_M_cellOf : ByteArray := prog_7_method_17_code
def y_M_cellOf : MethodName := ⟨R_M, "cellOf", "(II)I"⟩
def w_M_cellOf : List Cond := .code y_M_cellOf c_M_cellOf 5 (some .int) :: gT
theorem k_M_cellOf : Cond.code y_M_cellOf c_M_cellOf 5 (some .int) ∈ gT := gT_t (i := 385) (by decide +kernel) rfl
theorem hd_M_cellOf : y_M_cellOf.cls = R_M ∧ y_M_cellOf.cls ≠ "java/lang/invoke/MethodHandle" ∧ y_M_cellOf.cls ≠ "java/lang/invoke/VarHandle" ∧ (parseMethodDescriptor y_M_cellOf.desc).map (fun d => d.parameters.length) = some 2 := by decide +kernel
theorem d_M_cellOf_0 : decode c_M_cellOf 0 = .ok (.iconst 0, 1) := by decide +kernel
theorem d_M_cellOf_1 : decode c_M_cellOf 1 = .ok (.istore_n 3, 1) := by decide +kernel
theorem d_M_cellOf_2 : decode c_M_cellOf 2 = .ok (.iconst 0, 1) := by decide +kernel
theorem d_M_cellOf_3 : decode c_M_cellOf 3 = .ok (.istore 4, 2) := by decide +kernel
theorem d_M_cellOf_5 : decode c_M_cellOf 5 = .ok (.iload 4, 2) := by decide +kernel
theorem d_M_cellOf_7 : decode c_M_cellOf 7 = .ok (.aload_n 0, 1) := by decide +kernel
theorem d_M_cellOf_8 : decode c_M_cellOf 8 = .ok (.getfield 38, 3) := by decide +kernel
theorem d_M_cellOf_11 : decode c_M_cellOf 11 = .ok (.iload_n 1, 1) := by decide +kernel
theorem d_M_cellOf_12 : decode c_M_cellOf 12 = .ok (.iaload, 1) := by decide +kernel
theorem d_M_cellOf_13 : decode c_M_cellOf 13 = .ok (.if_icmp .ge 35, 3) := by decide +kernel
theorem d_M_cellOf_16 : decode c_M_cellOf 16 = .ok (.aload_n 0, 1) := by decide +kernel
theorem d_M_cellOf_17 : decode c_M_cellOf 17 = .ok (.getfield 44, 3) := by decide +kernel
theorem d_M_cellOf_20 : decode c_M_cellOf 20 = .ok (.bipush 18, 2) := by decide +kernel
theorem d_M_cellOf_22 : decode c_M_cellOf 22 = .ok (.iload_n 1, 1) := by decide +kernel
theorem d_M_cellOf_23 : decode c_M_cellOf 23 = .ok (.imul, 1) := by decide +kernel
theorem d_M_cellOf_24 : decode c_M_cellOf 24 = .ok (.iload 4, 2) := by decide +kernel
theorem d_M_cellOf_26 : decode c_M_cellOf 26 = .ok (.iadd, 1) := by decide +kernel
theorem d_M_cellOf_27 : decode c_M_cellOf 27 = .ok (.baload, 1) := by decide +kernel
theorem d_M_cellOf_28 : decode c_M_cellOf 28 = .ok (.ifCond .eq 14, 3) := by decide +kernel
theorem d_M_cellOf_31 : decode c_M_cellOf 31 = .ok (.iload_n 3, 1) := by decide +kernel
theorem d_M_cellOf_32 : decode c_M_cellOf 32 = .ok (.iload_n 2, 1) := by decide +kernel
theorem d_M_cellOf_33 : decode c_M_cellOf 33 = .ok (.if_icmp .ne 6, 3) := by decide +kernel
theorem d_M_cellOf_36 : decode c_M_cellOf 36 = .ok (.iload 4, 2) := by decide +kernel
theorem d_M_cellOf_38 : decode c_M_cellOf 38 = .ok (.ireturn, 1) := by decide +kernel
theorem d_M_cellOf_39 : decode c_M_cellOf 39 = .ok (.iinc 3 1, 3) := by decide +kernel
theorem d_M_cellOf_42 : decode c_M_cellOf 42 = .ok (.iinc 4 1, 3) := by decide +kernel
theorem d_M_cellOf_45 : decode c_M_cellOf 45 = .ok (.goto (-40), 3) := by decide +kernel
theorem d_M_cellOf_48 : decode c_M_cellOf 48 = .ok (.aload_n 0, 1) := by decide +kernel
theorem d_M_cellOf_49 : decode c_M_cellOf 49 = .ok (.getfield 38, 3) := by decide +kernel
theorem d_M_cellOf_52 : decode c_M_cellOf 52 = .ok (.iload_n 1, 1) := by decide +kernel
theorem d_M_cellOf_53 : decode c_M_cellOf 53 = .ok (.iaload, 1) := by decide +kernel
theorem d_M_cellOf_54 : decode c_M_cellOf 54 = .ok (.ireturn, 1) := by decide +kernel
abbrev c_M_make : ByteArray := prog_7_method_18_code
def y_M_make : MethodName := ⟨R_M, "make", "(IZII)I"⟩
def w_M_make : List Cond := .code y_M_make c_M_make 7 (some .int) :: gT
theorem k_M_make : Cond.code y_M_make c_M_make 7 (some .int) ∈ gT := gT_t (i := 389) (by decide +kernel) rfl
theorem hd_M_make : y_M_make.cls = R_M ∧ y_M_make.cls ≠ "java/lang/invoke/MethodHandle" ∧ y_M_make.cls ≠ "java/lang/invoke/VarHandle" ∧ (parseMethodDescriptor y_M_make.desc).map (fun d => d.parameters.length) = some 4 := by decide +kernel
theorem d_M_make_0 : decode c_M_make 0 = .ok (.bipush 6, 2) := by decide +kernel
theorem d_M_make_2 : decode c_M_make 2 = .ok (.iload_n 1, 1) := by decide +kernel
theorem d_M_make_3 : decode c_M_make 3 = .ok (.imul, 1) := by decide +kernel
theorem d_M_make_4 : decode c_M_make 4 = .ok (.aload_n 0, 1) := by decide +kernel
theorem d_M_make_5 : decode c_M_make 5 = .ok (.getfield 7, 3) := by decide +kernel
theorem d_M_make_8 : decode c_M_make 8 = .ok (.iload_n 1, 1) := by decide +kernel
theorem d_M_make_9 : decode c_M_make 9 = .ok (.iaload, 1) := by decide +kernel
theorem d_M_make_10 : decode c_M_make 10 = .ok (.iadd, 1) := by decide +kernel
theorem d_M_make_11 : decode c_M_make 11 = .ok (.istore 5, 2) := by decide +kernel
theorem d_M_make_13 : decode c_M_make 13 = .ok (.aload_n 0, 1) := by decide +kernel
theorem d_M_make_14 : decode c_M_make 14 = .ok (.getfield 13, 3) := by decide +kernel
theorem d_M_make_17 : decode c_M_make 17 = .ok (.iload 5, 2) := by decide +kernel
theorem d_M_make_19 : decode c_M_make 19 = .ok (.iload_n 2, 1) := by decide +kernel
theorem d_M_make_20 : decode c_M_make 20 = .ok (.bastore, 1) := by decide +kernel
theorem d_M_make_21 : decode c_M_make 21 = .ok (.aload_n 0, 1) := by decide +kernel
theorem d_M_make_22 : decode c_M_make 22 = .ok (.getfield 17, 3) := by decide +kernel
theorem d_M_make_25 : decode c_M_make 25 = .ok (.iload 5, 2) := by decide +kernel
theorem d_M_make_27 : decode c_M_make 27 = .ok (.iload_n 3, 1) := by decide +kernel
theorem d_M_make_28 : decode c_M_make 28 = .ok (.iastore, 1) := by decide +kernel
theorem d_M_make_29 : decode c_M_make 29 = .ok (.aload_n 0, 1) := by decide +kernel
theorem d_M_make_30 : decode c_M_make 30 = .ok (.getfield 20, 3) := by decide +kernel
theorem d_M_make_33 : decode c_M_make 33 = .ok (.iload 5, 2) := by decide +kernel
theorem d_M_make_35 : decode c_M_make 35 = .ok (.iload 4, 2) := by decide +kernel
theorem d_M_make_37 : decode c_M_make 37 = .ok (.iastore, 1) := by decide +kernel
theorem d_M_make_38 : decode c_M_make 38 = .ok (.aload_n 0, 1) := by decide +kernel
theorem d_M_make_39 : decode c_M_make 39 = .ok (.getfield 35, 3) := by decide +kernel
theorem d_M_make_42 : decode c_M_make 42 = .ok (.iload 5, 2) := by decide +kernel
theorem d_M_make_44 : decode c_M_make 44 = .ok (.iload_n 2, 1) := by decide +kernel
theorem d_M_make_45 : decode c_M_make 45 = .ok (.ifCond .eq 7, 3) := by decide +kernel
theorem d_M_make_48 : decode c_M_make 48 = .ok (.iconst (-1), 1) := by decide +kernel
theorem d_M_make_49 : decode c_M_make 49 = .ok (.goto 14, 3) := by decide +kernel
theorem d_M_make_52 : decode c_M_make 52 = .ok (.aload_n 0, 1) := by decide +kernel
theorem d_M_make_53 : decode c_M_make 53 = .ok (.getfield 41, 3) := by decide +kernel
theorem d_M_make_56 : decode c_M_make 56 = .ok (.bipush 18, 2) := by decide +kernel
theorem d_M_make_58 : decode c_M_make 58 = .ok (.iload_n 1, 1) := by decide +kernel
theorem d_M_make_59 : decode c_M_make 59 = .ok (.imul, 1) := by decide +kernel
theorem d_M_make_60 : decode c_M_make 60 = .ok (.iload_n 3, 1) := by decide +kernel
theorem d_M_make_61 : decode c_M_make 61 = .ok (.iadd, 1) := by decide +kernel
theorem d_M_make_62 : decode c_M_make 62 = .ok (.iaload, 1) := by decide +kernel
theorem d_M_make_63 : decode c_M_make 63 = .ok (.iastore, 1) := by decide +kernel
theorem d_M_make_64 : decode c_M_make 64 = .ok (.iconst 0, 1) := by decide +kernel
theorem d_M_make_65 : decode c_M_make 65 = .ok (.istore 6, 2) := by decide +kernel
theorem d_M_make_67 : decode c_M_make 67 = .ok (.iload 6, 2) := by decide +kernel
theorem d_M_make_69 : decode c_M_make 69 = .ok (.iconst 3, 1) := by decide +kernel
theorem d_M_make_70 : decode c_M_make 70 = .ok (.if_icmp .ge 32, 3) := by decide +kernel
theorem d_M_make_73 : decode c_M_make 73 = .ok (.aload_n 0, 1) := by decide +kernel
theorem d_M_make_74 : decode c_M_make 74 = .ok (.getfield 23, 3) := by decide +kernel
theorem d_M_make_77 : decode c_M_make 77 = .ok (.iconst 3, 1) := by decide +kernel
theorem d_M_make_78 : decode c_M_make 78 = .ok (.iload 5, 2) := by decide +kernel
theorem d_M_make_80 : decode c_M_make 80 = .ok (.imul, 1) := by decide +kernel
theorem d_M_make_81 : decode c_M_make 81 = .ok (.iload 6, 2) := by decide +kernel
theorem d_M_make_83 : decode c_M_make 83 = .ok (.iadd, 1) := by decide +kernel
theorem d_M_make_84 : decode c_M_make 84 = .ok (.aload_n 0, 1) := by decide +kernel
theorem d_M_make_85 : decode c_M_make 85 = .ok (.getfield 32, 3) := by decide +kernel
theorem d_M_make_88 : decode c_M_make 88 = .ok (.iconst 3, 1) := by decide +kernel
theorem d_M_make_89 : decode c_M_make 89 = .ok (.iload_n 1, 1) := by decide +kernel
theorem d_M_make_90 : decode c_M_make 90 = .ok (.imul, 1) := by decide +kernel
theorem d_M_make_91 : decode c_M_make 91 = .ok (.iload 6, 2) := by decide +kernel
theorem d_M_make_93 : decode c_M_make 93 = .ok (.iadd, 1) := by decide +kernel
theorem d_M_make_94 : decode c_M_make 94 = .ok (.iaload, 1) := by decide +kernel
theorem d_M_make_95 : decode c_M_make 95 = .ok (.iastore, 1) := by decide +kernel
theorem d_M_make_96 : decode c_M_make 96 = .ok (.iinc 6 1, 3) := by decide +kernel
theorem d_M_make_99 : decode c_M_make 99 = .ok (.goto (-32), 3) := by decide +kernel
theorem d_M_make_102 : decode c_M_make 102 = .ok (.aload_n 0, 1) := by decide +kernel
theorem d_M_make_103 : decode c_M_make 103 = .ok (.getfield 7, 3) := by decide +kernel
theorem d_M_make_106 : decode c_M_make 106 = .ok (.iload_n 1, 1) := by decide +kernel
theorem d_M_make_107 : decode c_M_make 107 = .ok (.dup2, 1) := by decide +kernel
theorem d_M_make_108 : decode c_M_make 108 = .ok (.iaload, 1) := by decide +kernel
theorem d_M_make_109 : decode c_M_make 109 = .ok (.iconst 1, 1) := by decide +kernel
theorem d_M_make_110 : decode c_M_make 110 = .ok (.iadd, 1) := by decide +kernel
theorem d_M_make_111 : decode c_M_make 111 = .ok (.iastore, 1) := by decide +kernel
theorem d_M_make_112 : decode c_M_make 112 = .ok (.aload_n 0, 1) := by decide +kernel
theorem d_M_make_113 : decode c_M_make 113 = .ok (.getfield 26, 3) := by decide +kernel
theorem d_M_make_116 : decode c_M_make 116 = .ok (.bipush 18, 2) := by decide +kernel
theorem d_M_make_118 : decode c_M_make 118 = .ok (.iload_n 1, 1) := by decide +kernel
theorem d_M_make_119 : decode c_M_make 119 = .ok (.imul, 1) := by decide +kernel
theorem d_M_make_120 : decode c_M_make 120 = .ok (.iload 5, 2) := by decide +kernel
theorem d_M_make_122 : decode c_M_make 122 = .ok (.iadd, 1) := by decide +kernel
theorem d_M_make_123 : decode c_M_make 123 = .ok (.iconst 1, 1) := by decide +kernel
theorem d_M_make_124 : decode c_M_make 124 = .ok (.bastore, 1) := by decide +kernel
theorem d_M_make_125 : decode c_M_make 125 = .ok (.aload_n 0, 1) := by decide +kernel
theorem d_M_make_126 : decode c_M_make 126 = .ok (.iload_n 1, 1) := by decide +kernel
theorem d_M_make_127 : decode c_M_make 127 = .ok (.iload 5, 2) := by decide +kernel
theorem d_M_make_129 : decode c_M_make 129 = .ok (.invokevirtual 97, 3) := by decide +kernel
theorem d_M_make_132 : decode c_M_make 132 = .ok (.aload_n 0, 1) := by decide +kernel
theorem d_M_make_133 : decode c_M_make 133 = .ok (.getfield 7, 3) := by decide +kernel
theorem d_M_make_136 : decode c_M_make 136 = .ok (.iload_n 1, 1) := by decide +kernel
theorem d_M_make_137 : decode c_M_make 137 = .ok (.iaload, 1) := by decide +kernel
theorem d_M_make_138 : decode c_M_make 138 = .ok (.iconst 1, 1) := by decide +kernel
theorem d_M_make_139 : decode c_M_make 139 = .ok (.isub, 1) := by decide +kernel
theorem d_M_make_140 : decode c_M_make 140 = .ok (.ireturn, 1) := by decide +kernel
abbrev c_M_insert : ByteArray := prog_7_method_19_code
def y_M_insert : MethodName := ⟨R_M, "insert", "(III)I"⟩
def w_M_insert : List Cond := .code y_M_insert c_M_insert 5 (some .int) :: gT
theorem k_M_insert : Cond.code y_M_insert c_M_insert 5 (some .int) ∈ gT := gT_t (i := 373) (by decide +kernel) rfl
theorem hd_M_insert : y_M_insert.cls = R_M ∧ y_M_insert.cls ≠ "java/lang/invoke/MethodHandle" ∧ y_M_insert.cls ≠ "java/lang/invoke/VarHandle" ∧ (parseMethodDescriptor y_M_insert.desc).map (fun d => d.parameters.length) = some 3 := by decide +kernel
theorem d_M_insert_0 : decode c_M_insert 0 = .ok (.aload_n 0, 1) := by decide +kernel
theorem d_M_insert_1 : decode c_M_insert 1 = .ok (.iload_n 1, 1) := by decide +kernel
theorem d_M_insert_2 : decode c_M_insert 2 = .ok (.invokevirtual 57, 3) := by decide +kernel
theorem d_M_insert_5 : decode c_M_insert 5 = .ok (.ifCond .eq 39, 3) := by decide +kernel
theorem d_M_insert_8 : decode c_M_insert 8 = .ok (.iload_n 2, 1) := by decide +kernel
theorem d_M_insert_9 : decode c_M_insert 9 = .ok (.ifCond .lt 35, 3) := by decide +kernel
theorem d_M_insert_12 : decode c_M_insert 12 = .ok (.iload_n 2, 1) := by decide +kernel
theorem d_M_insert_13 : decode c_M_insert 13 = .ok (.aload_n 0, 1) := by decide +kernel
theorem d_M_insert_14 : decode c_M_insert 14 = .ok (.iload_n 1, 1) := by decide +kernel
theorem d_M_insert_15 : decode c_M_insert 15 = .ok (.invokevirtual 101, 3) := by decide +kernel
theorem d_M_insert_18 : decode c_M_insert 18 = .ok (.if_icmp .gt 26, 3) := by decide +kernel
theorem d_M_insert_21 : decode c_M_insert 21 = .ok (.iload_n 3, 1) := by decide +kernel
theorem d_M_insert_22 : decode c_M_insert 22 = .ok (.iconst 1, 1) := by decide +kernel
theorem d_M_insert_23 : decode c_M_insert 23 = .ok (.if_icmp .lt 21, 3) := by decide +kernel
theorem d_M_insert_26 : decode c_M_insert 26 = .ok (.iload_n 3, 1) := by decide +kernel
theorem d_M_insert_27 : decode c_M_insert 27 = .ok (.sipush 255, 3) := by decide +kernel
theorem d_M_insert_30 : decode c_M_insert 30 = .ok (.if_icmp .gt 14, 3) := by decide +kernel
theorem d_M_insert_33 : decode c_M_insert 33 = .ok (.aload_n 0, 1) := by decide +kernel
theorem d_M_insert_34 : decode c_M_insert 34 = .ok (.getfield 7, 3) := by decide +kernel
theorem d_M_insert_37 : decode c_M_insert 37 = .ok (.iload_n 1, 1) := by decide +kernel
theorem d_M_insert_38 : decode c_M_insert 38 = .ok (.iaload, 1) := by decide +kernel
theorem d_M_insert_39 : decode c_M_insert 39 = .ok (.bipush 6, 2) := by decide +kernel
theorem d_M_insert_41 : decode c_M_insert 41 = .ok (.if_icmp .ne 5, 3) := by decide +kernel
theorem d_M_insert_44 : decode c_M_insert 44 = .ok (.iconst (-1), 1) := by decide +kernel
theorem d_M_insert_45 : decode c_M_insert 45 = .ok (.ireturn, 1) := by decide +kernel
theorem d_M_insert_46 : decode c_M_insert 46 = .ok (.aload_n 0, 1) := by decide +kernel
theorem d_M_insert_47 : decode c_M_insert 47 = .ok (.iload_n 1, 1) := by decide +kernel
theorem d_M_insert_48 : decode c_M_insert 48 = .ok (.iload_n 2, 1) := by decide +kernel
theorem d_M_insert_49 : decode c_M_insert 49 = .ok (.invokevirtual 104, 3) := by decide +kernel
theorem d_M_insert_52 : decode c_M_insert 52 = .ok (.istore 4, 2) := by decide +kernel
theorem d_M_insert_54 : decode c_M_insert 54 = .ok (.aload_n 0, 1) := by decide +kernel
theorem d_M_insert_55 : decode c_M_insert 55 = .ok (.iload_n 1, 1) := by decide +kernel
theorem d_M_insert_56 : decode c_M_insert 56 = .ok (.iconst 1, 1) := by decide +kernel
theorem d_M_insert_57 : decode c_M_insert 57 = .ok (.iload 4, 2) := by decide +kernel
theorem d_M_insert_59 : decode c_M_insert 59 = .ok (.iload_n 3, 1) := by decide +kernel
theorem d_M_insert_60 : decode c_M_insert 60 = .ok (.invokevirtual 107, 3) := by decide +kernel
theorem d_M_insert_63 : decode c_M_insert 63 = .ok (.ireturn, 1) := by decide +kernel
abbrev c_M_erase : ByteArray := prog_7_method_20_code
def y_M_erase : MethodName := ⟨R_M, "erase", "(II)I"⟩
def w_M_erase : List Cond := .code y_M_erase c_M_erase 4 (some .int) :: gT
theorem k_M_erase : Cond.code y_M_erase c_M_erase 4 (some .int) ∈ gT := gT_t (i := 432) (by decide +kernel) rfl
theorem hd_M_erase : y_M_erase.cls = R_M ∧ y_M_erase.cls ≠ "java/lang/invoke/MethodHandle" ∧ y_M_erase.cls ≠ "java/lang/invoke/VarHandle" ∧ (parseMethodDescriptor y_M_erase.desc).map (fun d => d.parameters.length) = some 2 := by decide +kernel
theorem d_M_erase_0 : decode c_M_erase 0 = .ok (.aload_n 0, 1) := by decide +kernel
theorem d_M_erase_1 : decode c_M_erase 1 = .ok (.iload_n 1, 1) := by decide +kernel
theorem d_M_erase_2 : decode c_M_erase 2 = .ok (.invokevirtual 57, 3) := by decide +kernel
theorem d_M_erase_5 : decode c_M_erase 5 = .ok (.ifCond .eq 27, 3) := by decide +kernel
theorem d_M_erase_8 : decode c_M_erase 8 = .ok (.iload_n 2, 1) := by decide +kernel
theorem d_M_erase_9 : decode c_M_erase 9 = .ok (.ifCond .lt 23, 3) := by decide +kernel
theorem d_M_erase_12 : decode c_M_erase 12 = .ok (.iload_n 2, 1) := by decide +kernel
theorem d_M_erase_13 : decode c_M_erase 13 = .ok (.aload_n 0, 1) := by decide +kernel
theorem d_M_erase_14 : decode c_M_erase 14 = .ok (.iload_n 1, 1) := by decide +kernel
theorem d_M_erase_15 : decode c_M_erase 15 = .ok (.invokevirtual 101, 3) := by decide +kernel
theorem d_M_erase_18 : decode c_M_erase 18 = .ok (.if_icmp .ge 14, 3) := by decide +kernel
theorem d_M_erase_21 : decode c_M_erase 21 = .ok (.aload_n 0, 1) := by decide +kernel
theorem d_M_erase_22 : decode c_M_erase 22 = .ok (.getfield 7, 3) := by decide +kernel
theorem d_M_erase_25 : decode c_M_erase 25 = .ok (.iload_n 1, 1) := by decide +kernel
theorem d_M_erase_26 : decode c_M_erase 26 = .ok (.iaload, 1) := by decide +kernel
theorem d_M_erase_27 : decode c_M_erase 27 = .ok (.bipush 6, 2) := by decide +kernel
theorem d_M_erase_29 : decode c_M_erase 29 = .ok (.if_icmp .ne 5, 3) := by decide +kernel
theorem d_M_erase_32 : decode c_M_erase 32 = .ok (.iconst (-1), 1) := by decide +kernel
theorem d_M_erase_33 : decode c_M_erase 33 = .ok (.ireturn, 1) := by decide +kernel
theorem d_M_erase_34 : decode c_M_erase 34 = .ok (.aload_n 0, 1) := by decide +kernel
theorem d_M_erase_35 : decode c_M_erase 35 = .ok (.iload_n 1, 1) := by decide +kernel
theorem d_M_erase_36 : decode c_M_erase 36 = .ok (.iload_n 2, 1) := by decide +kernel
theorem d_M_erase_37 : decode c_M_erase 37 = .ok (.invokevirtual 104, 3) := by decide +kernel
theorem d_M_erase_40 : decode c_M_erase 40 = .ok (.istore_n 3, 1) := by decide +kernel
theorem d_M_erase_41 : decode c_M_erase 41 = .ok (.aload_n 0, 1) := by decide +kernel
theorem d_M_erase_42 : decode c_M_erase 42 = .ok (.iload_n 1, 1) := by decide +kernel
theorem d_M_erase_43 : decode c_M_erase 43 = .ok (.iconst 0, 1) := by decide +kernel
theorem d_M_erase_44 : decode c_M_erase 44 = .ok (.iload_n 3, 1) := by decide +kernel
theorem d_M_erase_45 : decode c_M_erase 45 = .ok (.iconst 0, 1) := by decide +kernel
theorem d_M_erase_46 : decode c_M_erase 46 = .ok (.invokevirtual 107, 3) := by decide +kernel
theorem d_M_erase_49 : decode c_M_erase 49 = .ok (.ireturn, 1) := by decide +kernel
abbrev c_M_deliver : ByteArray := prog_7_method_21_code
def y_M_deliver : MethodName := ⟨R_M, "deliver", "(III)I"⟩
def w_M_deliver : List Cond := .code y_M_deliver c_M_deliver 4 (some .int) :: gT
theorem k_M_deliver : Cond.code y_M_deliver c_M_deliver 4 (some .int) ∈ gT := gT_t (i := 436) (by decide +kernel) rfl
theorem hd_M_deliver : y_M_deliver.cls = R_M ∧ y_M_deliver.cls ≠ "java/lang/invoke/MethodHandle" ∧ y_M_deliver.cls ≠ "java/lang/invoke/VarHandle" ∧ (parseMethodDescriptor y_M_deliver.desc).map (fun d => d.parameters.length) = some 3 := by decide +kernel
theorem d_M_deliver_0 : decode c_M_deliver 0 = .ok (.aload_n 0, 1) := by decide +kernel
theorem d_M_deliver_1 : decode c_M_deliver 1 = .ok (.iload_n 1, 1) := by decide +kernel
theorem d_M_deliver_2 : decode c_M_deliver 2 = .ok (.invokevirtual 57, 3) := by decide +kernel
theorem d_M_deliver_5 : decode c_M_deliver 5 = .ok (.ifCond .eq 36, 3) := by decide +kernel
theorem d_M_deliver_8 : decode c_M_deliver 8 = .ok (.iload_n 1, 1) := by decide +kernel
theorem d_M_deliver_9 : decode c_M_deliver 9 = .ok (.iload_n 2, 1) := by decide +kernel
theorem d_M_deliver_10 : decode c_M_deliver 10 = .ok (.if_icmp .eq 31, 3) := by decide +kernel
theorem d_M_deliver_13 : decode c_M_deliver 13 = .ok (.aload_n 0, 1) := by decide +kernel
theorem d_M_deliver_14 : decode c_M_deliver 14 = .ok (.iload_n 2, 1) := by decide +kernel
theorem d_M_deliver_15 : decode c_M_deliver 15 = .ok (.iload_n 3, 1) := by decide +kernel
theorem d_M_deliver_16 : decode c_M_deliver 16 = .ok (.invokevirtual 111, 3) := by decide +kernel
theorem d_M_deliver_19 : decode c_M_deliver 19 = .ok (.ifCond .eq 22, 3) := by decide +kernel
theorem d_M_deliver_22 : decode c_M_deliver 22 = .ok (.aload_n 0, 1) := by decide +kernel
theorem d_M_deliver_23 : decode c_M_deliver 23 = .ok (.getfield 26, 3) := by decide +kernel
theorem d_M_deliver_26 : decode c_M_deliver 26 = .ok (.bipush 18, 2) := by decide +kernel
theorem d_M_deliver_28 : decode c_M_deliver 28 = .ok (.iload_n 1, 1) := by decide +kernel
theorem d_M_deliver_29 : decode c_M_deliver 29 = .ok (.imul, 1) := by decide +kernel
theorem d_M_deliver_30 : decode c_M_deliver 30 = .ok (.bipush 6, 2) := by decide +kernel
theorem d_M_deliver_32 : decode c_M_deliver 32 = .ok (.iload_n 2, 1) := by decide +kernel
theorem d_M_deliver_33 : decode c_M_deliver 33 = .ok (.imul, 1) := by decide +kernel
theorem d_M_deliver_34 : decode c_M_deliver 34 = .ok (.iadd, 1) := by decide +kernel
theorem d_M_deliver_35 : decode c_M_deliver 35 = .ok (.iload_n 3, 1) := by decide +kernel
theorem d_M_deliver_36 : decode c_M_deliver 36 = .ok (.iadd, 1) := by decide +kernel
theorem d_M_deliver_37 : decode c_M_deliver 37 = .ok (.baload, 1) := by decide +kernel
theorem d_M_deliver_38 : decode c_M_deliver 38 = .ok (.ifCond .eq 5, 3) := by decide +kernel
theorem d_M_deliver_41 : decode c_M_deliver 41 = .ok (.iconst (-1), 1) := by decide +kernel
theorem d_M_deliver_42 : decode c_M_deliver 42 = .ok (.ireturn, 1) := by decide +kernel
theorem d_M_deliver_43 : decode c_M_deliver 43 = .ok (.aload_n 0, 1) := by decide +kernel
theorem d_M_deliver_44 : decode c_M_deliver 44 = .ok (.getfield 26, 3) := by decide +kernel
theorem d_M_deliver_47 : decode c_M_deliver 47 = .ok (.bipush 18, 2) := by decide +kernel
theorem d_M_deliver_49 : decode c_M_deliver 49 = .ok (.iload_n 1, 1) := by decide +kernel
theorem d_M_deliver_50 : decode c_M_deliver 50 = .ok (.imul, 1) := by decide +kernel
theorem d_M_deliver_51 : decode c_M_deliver 51 = .ok (.bipush 6, 2) := by decide +kernel
theorem d_M_deliver_53 : decode c_M_deliver 53 = .ok (.iload_n 2, 1) := by decide +kernel
theorem d_M_deliver_54 : decode c_M_deliver 54 = .ok (.imul, 1) := by decide +kernel
theorem d_M_deliver_55 : decode c_M_deliver 55 = .ok (.iadd, 1) := by decide +kernel
theorem d_M_deliver_56 : decode c_M_deliver 56 = .ok (.iload_n 3, 1) := by decide +kernel
theorem d_M_deliver_57 : decode c_M_deliver 57 = .ok (.iadd, 1) := by decide +kernel
theorem d_M_deliver_58 : decode c_M_deliver 58 = .ok (.iconst 1, 1) := by decide +kernel
theorem d_M_deliver_59 : decode c_M_deliver 59 = .ok (.bastore, 1) := by decide +kernel
theorem d_M_deliver_60 : decode c_M_deliver 60 = .ok (.aload_n 0, 1) := by decide +kernel
theorem d_M_deliver_61 : decode c_M_deliver 61 = .ok (.iload_n 1, 1) := by decide +kernel
theorem d_M_deliver_62 : decode c_M_deliver 62 = .ok (.invokevirtual 114, 3) := by decide +kernel
theorem d_M_deliver_65 : decode c_M_deliver 65 = .ok (.ireturn, 1) := by decide +kernel
abbrev c_M_arrive : ByteArray := prog_7_method_22_code
def y_M_arrive : MethodName := ⟨R_M, "arrive", "(IJ)I"⟩
def w_M_arrive : List Cond := .code y_M_arrive c_M_arrive 5 (some .int) :: gT
theorem k_M_arrive : Cond.code y_M_arrive c_M_arrive 5 (some .int) ∈ gT := gT_t (i := 452) (by decide +kernel) rfl
theorem hd_M_arrive : y_M_arrive.cls = R_M ∧ y_M_arrive.cls ≠ "java/lang/invoke/MethodHandle" ∧ y_M_arrive.cls ≠ "java/lang/invoke/VarHandle" ∧ (parseMethodDescriptor y_M_arrive.desc).map (fun d => d.parameters.length) = some 2 := by decide +kernel
theorem d_M_arrive_0 : decode c_M_arrive 0 = .ok (.iconst 0, 1) := by decide +kernel
theorem d_M_arrive_1 : decode c_M_arrive 1 = .ok (.istore 4, 2) := by decide +kernel
theorem d_M_arrive_3 : decode c_M_arrive 3 = .ok (.iload 4, 2) := by decide +kernel
theorem d_M_arrive_5 : decode c_M_arrive 5 = .ok (.bipush 18, 2) := by decide +kernel
theorem d_M_arrive_7 : decode c_M_arrive 7 = .ok (.if_icmp .ge 61, 3) := by decide +kernel
theorem d_M_arrive_10 : decode c_M_arrive 10 = .ok (.aload_n 0, 1) := by decide +kernel
theorem d_M_arrive_11 : decode c_M_arrive 11 = .ok (.iload 4, 2) := by decide +kernel
theorem d_M_arrive_13 : decode c_M_arrive 13 = .ok (.bipush 6, 2) := by decide +kernel
theorem d_M_arrive_15 : decode c_M_arrive 15 = .ok (.idiv, 1) := by decide +kernel
theorem d_M_arrive_16 : decode c_M_arrive 16 = .ok (.iload 4, 2) := by decide +kernel
theorem d_M_arrive_18 : decode c_M_arrive 18 = .ok (.bipush 6, 2) := by decide +kernel
theorem d_M_arrive_20 : decode c_M_arrive 20 = .ok (.irem, 1) := by decide +kernel
theorem d_M_arrive_21 : decode c_M_arrive 21 = .ok (.invokevirtual 111, 3) := by decide +kernel
theorem d_M_arrive_24 : decode c_M_arrive 24 = .ok (.ifCond .eq 38, 3) := by decide +kernel
theorem d_M_arrive_27 : decode c_M_arrive 27 = .ok (.aload_n 0, 1) := by decide +kernel
theorem d_M_arrive_28 : decode c_M_arrive 28 = .ok (.iload 4, 2) := by decide +kernel
theorem d_M_arrive_30 : decode c_M_arrive 30 = .ok (.bipush 6, 2) := by decide +kernel
theorem d_M_arrive_32 : decode c_M_arrive 32 = .ok (.idiv, 1) := by decide +kernel
theorem d_M_arrive_33 : decode c_M_arrive 33 = .ok (.iload 4, 2) := by decide +kernel
theorem d_M_arrive_35 : decode c_M_arrive 35 = .ok (.bipush 6, 2) := by decide +kernel
theorem d_M_arrive_37 : decode c_M_arrive 37 = .ok (.irem, 1) := by decide +kernel
theorem d_M_arrive_38 : decode c_M_arrive 38 = .ok (.invokevirtual 117, 3) := by decide +kernel
theorem d_M_arrive_41 : decode c_M_arrive 41 = .ok (.lload_n 2, 1) := by decide +kernel
theorem d_M_arrive_42 : decode c_M_arrive 42 = .ok (.lcmp, 1) := by decide +kernel
theorem d_M_arrive_43 : decode c_M_arrive 43 = .ok (.ifCond .ne 19, 3) := by decide +kernel
theorem d_M_arrive_46 : decode c_M_arrive 46 = .ok (.aload_n 0, 1) := by decide +kernel
theorem d_M_arrive_47 : decode c_M_arrive 47 = .ok (.iload_n 1, 1) := by decide +kernel
theorem d_M_arrive_48 : decode c_M_arrive 48 = .ok (.iload 4, 2) := by decide +kernel
theorem d_M_arrive_50 : decode c_M_arrive 50 = .ok (.bipush 6, 2) := by decide +kernel
theorem d_M_arrive_52 : decode c_M_arrive 52 = .ok (.idiv, 1) := by decide +kernel
theorem d_M_arrive_53 : decode c_M_arrive 53 = .ok (.iload 4, 2) := by decide +kernel
theorem d_M_arrive_55 : decode c_M_arrive 55 = .ok (.bipush 6, 2) := by decide +kernel
theorem d_M_arrive_57 : decode c_M_arrive 57 = .ok (.irem, 1) := by decide +kernel
theorem d_M_arrive_58 : decode c_M_arrive 58 = .ok (.invokevirtual 121, 3) := by decide +kernel
theorem d_M_arrive_61 : decode c_M_arrive 61 = .ok (.ireturn, 1) := by decide +kernel
theorem d_M_arrive_62 : decode c_M_arrive 62 = .ok (.iinc 4 1, 3) := by decide +kernel
theorem d_M_arrive_65 : decode c_M_arrive 65 = .ok (.goto (-62), 3) := by decide +kernel
theorem d_M_arrive_68 : decode c_M_arrive 68 = .ok (.iconst (-1), 1) := by decide +kernel
theorem d_M_arrive_69 : decode c_M_arrive 69 = .ok (.ireturn, 1) := by decide +kernel
abbrev c_M_sync : ByteArray := prog_7_method_23_code
def y_M_sync : MethodName := ⟨R_M, "sync", "(II)I"⟩
def w_M_sync : List Cond := .code y_M_sync c_M_sync 5 (some .int) :: gT
theorem k_M_sync : Cond.code y_M_sync c_M_sync 5 (some .int) ∈ gT := gT_t (i := 469) (by decide +kernel) rfl
theorem hd_M_sync : y_M_sync.cls = R_M ∧ y_M_sync.cls ≠ "java/lang/invoke/MethodHandle" ∧ y_M_sync.cls ≠ "java/lang/invoke/VarHandle" ∧ (parseMethodDescriptor y_M_sync.desc).map (fun d => d.parameters.length) = some 2 := by decide +kernel
theorem d_M_sync_0 : decode c_M_sync 0 = .ok (.aload_n 0, 1) := by decide +kernel
theorem d_M_sync_1 : decode c_M_sync 1 = .ok (.iload_n 1, 1) := by decide +kernel
theorem d_M_sync_2 : decode c_M_sync 2 = .ok (.invokevirtual 57, 3) := by decide +kernel
theorem d_M_sync_5 : decode c_M_sync 5 = .ok (.ifCond .eq 16, 3) := by decide +kernel
theorem d_M_sync_8 : decode c_M_sync 8 = .ok (.aload_n 0, 1) := by decide +kernel
theorem d_M_sync_9 : decode c_M_sync 9 = .ok (.iload_n 2, 1) := by decide +kernel
theorem d_M_sync_10 : decode c_M_sync 10 = .ok (.invokevirtual 57, 3) := by decide +kernel
theorem d_M_sync_13 : decode c_M_sync 13 = .ok (.ifCond .eq 8, 3) := by decide +kernel
theorem d_M_sync_16 : decode c_M_sync 16 = .ok (.iload_n 1, 1) := by decide +kernel
theorem d_M_sync_17 : decode c_M_sync 17 = .ok (.iload_n 2, 1) := by decide +kernel
theorem d_M_sync_18 : decode c_M_sync 18 = .ok (.if_icmp .ne 5, 3) := by decide +kernel
theorem d_M_sync_21 : decode c_M_sync 21 = .ok (.iconst (-1), 1) := by decide +kernel
theorem d_M_sync_22 : decode c_M_sync 22 = .ok (.ireturn, 1) := by decide +kernel
theorem d_M_sync_23 : decode c_M_sync 23 = .ok (.iconst 0, 1) := by decide +kernel
theorem d_M_sync_24 : decode c_M_sync 24 = .ok (.istore_n 3, 1) := by decide +kernel
theorem d_M_sync_25 : decode c_M_sync 25 = .ok (.iconst 0, 1) := by decide +kernel
theorem d_M_sync_26 : decode c_M_sync 26 = .ok (.istore 4, 2) := by decide +kernel
theorem d_M_sync_28 : decode c_M_sync 28 = .ok (.iload 4, 2) := by decide +kernel
theorem d_M_sync_30 : decode c_M_sync 30 = .ok (.bipush 18, 2) := by decide +kernel
theorem d_M_sync_32 : decode c_M_sync 32 = .ok (.if_icmp .ge 66, 3) := by decide +kernel
theorem d_M_sync_35 : decode c_M_sync 35 = .ok (.aload_n 0, 1) := by decide +kernel
theorem d_M_sync_36 : decode c_M_sync 36 = .ok (.getfield 29, 3) := by decide +kernel
theorem d_M_sync_39 : decode c_M_sync 39 = .ok (.bipush 18, 2) := by decide +kernel
theorem d_M_sync_41 : decode c_M_sync 41 = .ok (.iload_n 2, 1) := by decide +kernel
theorem d_M_sync_42 : decode c_M_sync 42 = .ok (.imul, 1) := by decide +kernel
theorem d_M_sync_43 : decode c_M_sync 43 = .ok (.iload 4, 2) := by decide +kernel
theorem d_M_sync_45 : decode c_M_sync 45 = .ok (.iadd, 1) := by decide +kernel
theorem d_M_sync_46 : decode c_M_sync 46 = .ok (.iaload, 1) := by decide +kernel
theorem d_M_sync_47 : decode c_M_sync 47 = .ok (.ifCond .lt 45, 3) := by decide +kernel
theorem d_M_sync_50 : decode c_M_sync 50 = .ok (.iload 4, 2) := by decide +kernel
theorem d_M_sync_52 : decode c_M_sync 52 = .ok (.bipush 6, 2) := by decide +kernel
theorem d_M_sync_54 : decode c_M_sync 54 = .ok (.idiv, 1) := by decide +kernel
theorem d_M_sync_55 : decode c_M_sync 55 = .ok (.iload_n 1, 1) := by decide +kernel
theorem d_M_sync_56 : decode c_M_sync 56 = .ok (.if_icmp .eq 36, 3) := by decide +kernel
theorem d_M_sync_59 : decode c_M_sync 59 = .ok (.aload_n 0, 1) := by decide +kernel
theorem d_M_sync_60 : decode c_M_sync 60 = .ok (.getfield 26, 3) := by decide +kernel
theorem d_M_sync_63 : decode c_M_sync 63 = .ok (.bipush 18, 2) := by decide +kernel
theorem d_M_sync_65 : decode c_M_sync 65 = .ok (.iload_n 1, 1) := by decide +kernel
theorem d_M_sync_66 : decode c_M_sync 66 = .ok (.imul, 1) := by decide +kernel
theorem d_M_sync_67 : decode c_M_sync 67 = .ok (.iload 4, 2) := by decide +kernel
theorem d_M_sync_69 : decode c_M_sync 69 = .ok (.iadd, 1) := by decide +kernel
theorem d_M_sync_70 : decode c_M_sync 70 = .ok (.baload, 1) := by decide +kernel
theorem d_M_sync_71 : decode c_M_sync 71 = .ok (.ifCond .ne 21, 3) := by decide +kernel
theorem d_M_sync_74 : decode c_M_sync 74 = .ok (.iload_n 3, 1) := by decide +kernel
theorem d_M_sync_75 : decode c_M_sync 75 = .ok (.aload_n 0, 1) := by decide +kernel
theorem d_M_sync_76 : decode c_M_sync 76 = .ok (.iload_n 1, 1) := by decide +kernel
theorem d_M_sync_77 : decode c_M_sync 77 = .ok (.iload 4, 2) := by decide +kernel
theorem d_M_sync_79 : decode c_M_sync 79 = .ok (.bipush 6, 2) := by decide +kernel
theorem d_M_sync_81 : decode c_M_sync 81 = .ok (.idiv, 1) := by decide +kernel
theorem d_M_sync_82 : decode c_M_sync 82 = .ok (.iload 4, 2) := by decide +kernel
theorem d_M_sync_84 : decode c_M_sync 84 = .ok (.bipush 6, 2) := by decide +kernel
theorem d_M_sync_86 : decode c_M_sync 86 = .ok (.irem, 1) := by decide +kernel
theorem d_M_sync_87 : decode c_M_sync 87 = .ok (.invokevirtual 121, 3) := by decide +kernel
theorem d_M_sync_90 : decode c_M_sync 90 = .ok (.iadd, 1) := by decide +kernel
theorem d_M_sync_91 : decode c_M_sync 91 = .ok (.istore_n 3, 1) := by decide +kernel
theorem d_M_sync_92 : decode c_M_sync 92 = .ok (.iinc 4 1, 3) := by decide +kernel
theorem d_M_sync_95 : decode c_M_sync 95 = .ok (.goto (-67), 3) := by decide +kernel
theorem d_M_sync_98 : decode c_M_sync 98 = .ok (.iload_n 3, 1) := by decide +kernel
theorem d_M_sync_99 : decode c_M_sync 99 = .ok (.ireturn, 1) := by decide +kernel
abbrev c_M_code : ByteArray := prog_7_method_24_code
def y_M_code : MethodName := ⟨R_M, "code", "(II)J"⟩
def w_M_code : List Cond := .code y_M_code c_M_code 6 (some .long) :: gT
theorem k_M_code : Cond.code y_M_code c_M_code 6 (some .long) ∈ gT := gT_t (i := 456) (by decide +kernel) rfl
theorem hd_M_code : y_M_code.cls = R_M ∧ y_M_code.cls ≠ "java/lang/invoke/MethodHandle" ∧ y_M_code.cls ≠ "java/lang/invoke/VarHandle" ∧ (parseMethodDescriptor y_M_code.desc).map (fun d => d.parameters.length) = some 2 := by decide +kernel
theorem d_M_code_0 : decode c_M_code 0 = .ok (.aload_n 0, 1) := by decide +kernel
theorem d_M_code_1 : decode c_M_code 1 = .ok (.iload_n 1, 1) := by decide +kernel
theorem d_M_code_2 : decode c_M_code 2 = .ok (.iload_n 2, 1) := by decide +kernel
theorem d_M_code_3 : decode c_M_code 3 = .ok (.invokevirtual 111, 3) := by decide +kernel
theorem d_M_code_6 : decode c_M_code 6 = .ok (.ifCond .ne 7, 3) := by decide +kernel
theorem d_M_code_9 : decode c_M_code 9 = .ok (.ldc2_w 125, 3) := by decide +kernel
theorem d_M_code_12 : decode c_M_code 12 = .ok (.lreturn, 1) := by decide +kernel
theorem d_M_code_13 : decode c_M_code 13 = .ok (.bipush 6, 2) := by decide +kernel
theorem d_M_code_15 : decode c_M_code 15 = .ok (.iload_n 1, 1) := by decide +kernel
theorem d_M_code_16 : decode c_M_code 16 = .ok (.imul, 1) := by decide +kernel
theorem d_M_code_17 : decode c_M_code 17 = .ok (.iload_n 2, 1) := by decide +kernel
theorem d_M_code_18 : decode c_M_code 18 = .ok (.iadd, 1) := by decide +kernel
theorem d_M_code_19 : decode c_M_code 19 = .ok (.istore_n 3, 1) := by decide +kernel
theorem d_M_code_20 : decode c_M_code 20 = .ok (.iload_n 1, 1) := by decide +kernel
theorem d_M_code_21 : decode c_M_code 21 = .ok (.i2l, 1) := by decide +kernel
theorem d_M_code_22 : decode c_M_code 22 = .ok (.ldc2_w 127, 3) := by decide +kernel
theorem d_M_code_25 : decode c_M_code 25 = .ok (.iload_n 2, 1) := by decide +kernel
theorem d_M_code_26 : decode c_M_code 26 = .ok (.i2l, 1) := by decide +kernel
theorem d_M_code_27 : decode c_M_code 27 = .ok (.lmul, 1) := by decide +kernel
theorem d_M_code_28 : decode c_M_code 28 = .ok (.ladd, 1) := by decide +kernel
theorem d_M_code_29 : decode c_M_code 29 = .ok (.aload_n 0, 1) := by decide +kernel
theorem d_M_code_30 : decode c_M_code 30 = .ok (.getfield 13, 3) := by decide +kernel
theorem d_M_code_33 : decode c_M_code 33 = .ok (.iload_n 3, 1) := by decide +kernel
theorem d_M_code_34 : decode c_M_code 34 = .ok (.baload, 1) := by decide +kernel
theorem d_M_code_35 : decode c_M_code 35 = .ok (.ifCond .eq 9, 3) := by decide +kernel
theorem d_M_code_38 : decode c_M_code 38 = .ok (.ldc2_w 129, 3) := by decide +kernel
theorem d_M_code_41 : decode c_M_code 41 = .ok (.goto 4, 3) := by decide +kernel
theorem d_M_code_44 : decode c_M_code 44 = .ok (.lconst 0, 1) := by decide +kernel
theorem d_M_code_45 : decode c_M_code 45 = .ok (.ladd, 1) := by decide +kernel
theorem d_M_code_46 : decode c_M_code 46 = .ok (.ldc2_w 131, 3) := by decide +kernel
theorem d_M_code_49 : decode c_M_code 49 = .ok (.aload_n 0, 1) := by decide +kernel
theorem d_M_code_50 : decode c_M_code 50 = .ok (.getfield 17, 3) := by decide +kernel
theorem d_M_code_53 : decode c_M_code 53 = .ok (.iload_n 3, 1) := by decide +kernel
theorem d_M_code_54 : decode c_M_code 54 = .ok (.iaload, 1) := by decide +kernel
theorem d_M_code_55 : decode c_M_code 55 = .ok (.i2l, 1) := by decide +kernel
theorem d_M_code_56 : decode c_M_code 56 = .ok (.lmul, 1) := by decide +kernel
theorem d_M_code_57 : decode c_M_code 57 = .ok (.ladd, 1) := by decide +kernel
theorem d_M_code_58 : decode c_M_code 58 = .ok (.ldc2_w 133, 3) := by decide +kernel
theorem d_M_code_61 : decode c_M_code 61 = .ok (.aload_n 0, 1) := by decide +kernel
theorem d_M_code_62 : decode c_M_code 62 = .ok (.getfield 20, 3) := by decide +kernel
theorem d_M_code_65 : decode c_M_code 65 = .ok (.iload_n 3, 1) := by decide +kernel
theorem d_M_code_66 : decode c_M_code 66 = .ok (.iaload, 1) := by decide +kernel
theorem d_M_code_67 : decode c_M_code 67 = .ok (.i2l, 1) := by decide +kernel
theorem d_M_code_68 : decode c_M_code 68 = .ok (.lmul, 1) := by decide +kernel
theorem d_M_code_69 : decode c_M_code 69 = .ok (.ladd, 1) := by decide +kernel
theorem d_M_code_70 : decode c_M_code 70 = .ok (.lstore 4, 2) := by decide +kernel
theorem d_M_code_72 : decode c_M_code 72 = .ok (.lload 4, 2) := by decide +kernel
theorem d_M_code_74 : decode c_M_code 74 = .ok (.ldc2_w 135, 3) := by decide +kernel
theorem d_M_code_77 : decode c_M_code 77 = .ok (.aload_n 0, 1) := by decide +kernel
theorem d_M_code_78 : decode c_M_code 78 = .ok (.getfield 23, 3) := by decide +kernel
theorem d_M_code_81 : decode c_M_code 81 = .ok (.iconst 3, 1) := by decide +kernel
theorem d_M_code_82 : decode c_M_code 82 = .ok (.iload_n 3, 1) := by decide +kernel
theorem d_M_code_83 : decode c_M_code 83 = .ok (.imul, 1) := by decide +kernel
theorem d_M_code_84 : decode c_M_code 84 = .ok (.iaload, 1) := by decide +kernel
theorem d_M_code_85 : decode c_M_code 85 = .ok (.i2l, 1) := by decide +kernel
theorem d_M_code_86 : decode c_M_code 86 = .ok (.lmul, 1) := by decide +kernel
theorem d_M_code_87 : decode c_M_code 87 = .ok (.ladd, 1) := by decide +kernel
theorem d_M_code_88 : decode c_M_code 88 = .ok (.ldc2_w 137, 3) := by decide +kernel
theorem d_M_code_91 : decode c_M_code 91 = .ok (.aload_n 0, 1) := by decide +kernel
theorem d_M_code_92 : decode c_M_code 92 = .ok (.getfield 23, 3) := by decide +kernel
theorem d_M_code_95 : decode c_M_code 95 = .ok (.iconst 3, 1) := by decide +kernel
theorem d_M_code_96 : decode c_M_code 96 = .ok (.iload_n 3, 1) := by decide +kernel
theorem d_M_code_97 : decode c_M_code 97 = .ok (.imul, 1) := by decide +kernel
theorem d_M_code_98 : decode c_M_code 98 = .ok (.iconst 1, 1) := by decide +kernel
theorem d_M_code_99 : decode c_M_code 99 = .ok (.iadd, 1) := by decide +kernel
theorem d_M_code_100 : decode c_M_code 100 = .ok (.iaload, 1) := by decide +kernel
theorem d_M_code_101 : decode c_M_code 101 = .ok (.i2l, 1) := by decide +kernel
theorem d_M_code_102 : decode c_M_code 102 = .ok (.lmul, 1) := by decide +kernel
theorem d_M_code_103 : decode c_M_code 103 = .ok (.ladd, 1) := by decide +kernel
theorem d_M_code_104 : decode c_M_code 104 = .ok (.ldc2_w 139, 3) := by decide +kernel
theorem d_M_code_107 : decode c_M_code 107 = .ok (.aload_n 0, 1) := by decide +kernel
theorem d_M_code_108 : decode c_M_code 108 = .ok (.getfield 23, 3) := by decide +kernel
theorem d_M_code_111 : decode c_M_code 111 = .ok (.iconst 3, 1) := by decide +kernel
theorem d_M_code_112 : decode c_M_code 112 = .ok (.iload_n 3, 1) := by decide +kernel
theorem d_M_code_113 : decode c_M_code 113 = .ok (.imul, 1) := by decide +kernel
theorem d_M_code_114 : decode c_M_code 114 = .ok (.iconst 2, 1) := by decide +kernel
theorem d_M_code_115 : decode c_M_code 115 = .ok (.iadd, 1) := by decide +kernel
theorem d_M_code_116 : decode c_M_code 116 = .ok (.iaload, 1) := by decide +kernel
theorem d_M_code_117 : decode c_M_code 117 = .ok (.i2l, 1) := by decide +kernel
theorem d_M_code_118 : decode c_M_code 118 = .ok (.lmul, 1) := by decide +kernel
theorem d_M_code_119 : decode c_M_code 119 = .ok (.ladd, 1) := by decide +kernel
theorem d_M_code_120 : decode c_M_code 120 = .ok (.lreturn, 1) := by decide +kernel
abbrev c_M_executed : ByteArray := prog_7_method_25_code
def y_M_executed : MethodName := ⟨R_M, "executed", "(II)I"⟩
def w_M_executed : List Cond := .code y_M_executed c_M_executed 3 (some .int) :: gT
theorem k_M_executed : Cond.code y_M_executed c_M_executed 3 (some .int) ∈ gT := gT_t (i := 474) (by decide +kernel) rfl
theorem hd_M_executed : y_M_executed.cls = R_M ∧ y_M_executed.cls ≠ "java/lang/invoke/MethodHandle" ∧ y_M_executed.cls ≠ "java/lang/invoke/VarHandle" ∧ (parseMethodDescriptor y_M_executed.desc).map (fun d => d.parameters.length) = some 2 := by decide +kernel
theorem d_M_executed_0 : decode c_M_executed 0 = .ok (.aload_n 0, 1) := by decide +kernel
theorem d_M_executed_1 : decode c_M_executed 1 = .ok (.iload_n 1, 1) := by decide +kernel
theorem d_M_executed_2 : decode c_M_executed 2 = .ok (.invokevirtual 57, 3) := by decide +kernel
theorem d_M_executed_5 : decode c_M_executed 5 = .ok (.ifCond .eq 24, 3) := by decide +kernel
theorem d_M_executed_8 : decode c_M_executed 8 = .ok (.aload_n 0, 1) := by decide +kernel
theorem d_M_executed_9 : decode c_M_executed 9 = .ok (.iload_n 2, 1) := by decide +kernel
theorem d_M_executed_10 : decode c_M_executed 10 = .ok (.invokevirtual 57, 3) := by decide +kernel
theorem d_M_executed_13 : decode c_M_executed 13 = .ok (.ifCond .eq 16, 3) := by decide +kernel
theorem d_M_executed_16 : decode c_M_executed 16 = .ok (.aload_n 0, 1) := by decide +kernel
theorem d_M_executed_17 : decode c_M_executed 17 = .ok (.getfield 32, 3) := by decide +kernel
theorem d_M_executed_20 : decode c_M_executed 20 = .ok (.iconst 3, 1) := by decide +kernel
theorem d_M_executed_21 : decode c_M_executed 21 = .ok (.iload_n 1, 1) := by decide +kernel
theorem d_M_executed_22 : decode c_M_executed 22 = .ok (.imul, 1) := by decide +kernel
theorem d_M_executed_23 : decode c_M_executed 23 = .ok (.iload_n 2, 1) := by decide +kernel
theorem d_M_executed_24 : decode c_M_executed 24 = .ok (.iadd, 1) := by decide +kernel
theorem d_M_executed_25 : decode c_M_executed 25 = .ok (.iaload, 1) := by decide +kernel
theorem d_M_executed_26 : decode c_M_executed 26 = .ok (.goto 4, 3) := by decide +kernel
theorem d_M_executed_29 : decode c_M_executed 29 = .ok (.iconst (-1), 1) := by decide +kernel
theorem d_M_executed_30 : decode c_M_executed 30 = .ok (.ireturn, 1) := by decide +kernel
abbrev c_M_waiting : ByteArray := prog_7_method_26_code
def y_M_waiting : MethodName := ⟨R_M, "waiting", "(I)I"⟩
def w_M_waiting : List Cond := .code y_M_waiting c_M_waiting 4 (some .int) :: gT
theorem k_M_waiting : Cond.code y_M_waiting c_M_waiting 4 (some .int) ∈ gT := gT_t (i := 478) (by decide +kernel) rfl
theorem hd_M_waiting : y_M_waiting.cls = R_M ∧ y_M_waiting.cls ≠ "java/lang/invoke/MethodHandle" ∧ y_M_waiting.cls ≠ "java/lang/invoke/VarHandle" ∧ (parseMethodDescriptor y_M_waiting.desc).map (fun d => d.parameters.length) = some 1 := by decide +kernel
theorem d_M_waiting_0 : decode c_M_waiting 0 = .ok (.aload_n 0, 1) := by decide +kernel
theorem d_M_waiting_1 : decode c_M_waiting 1 = .ok (.iload_n 1, 1) := by decide +kernel
theorem d_M_waiting_2 : decode c_M_waiting 2 = .ok (.invokevirtual 57, 3) := by decide +kernel
theorem d_M_waiting_5 : decode c_M_waiting 5 = .ok (.ifCond .ne 5, 3) := by decide +kernel
theorem d_M_waiting_8 : decode c_M_waiting 8 = .ok (.iconst (-1), 1) := by decide +kernel
theorem d_M_waiting_9 : decode c_M_waiting 9 = .ok (.ireturn, 1) := by decide +kernel
theorem d_M_waiting_10 : decode c_M_waiting 10 = .ok (.iconst 0, 1) := by decide +kernel
theorem d_M_waiting_11 : decode c_M_waiting 11 = .ok (.istore_n 2, 1) := by decide +kernel
theorem d_M_waiting_12 : decode c_M_waiting 12 = .ok (.iconst 0, 1) := by decide +kernel
theorem d_M_waiting_13 : decode c_M_waiting 13 = .ok (.istore_n 3, 1) := by decide +kernel
theorem d_M_waiting_14 : decode c_M_waiting 14 = .ok (.iload_n 3, 1) := by decide +kernel
theorem d_M_waiting_15 : decode c_M_waiting 15 = .ok (.bipush 18, 2) := by decide +kernel
theorem d_M_waiting_17 : decode c_M_waiting 17 = .ok (.if_icmp .ge 45, 3) := by decide +kernel
theorem d_M_waiting_20 : decode c_M_waiting 20 = .ok (.aload_n 0, 1) := by decide +kernel
theorem d_M_waiting_21 : decode c_M_waiting 21 = .ok (.getfield 26, 3) := by decide +kernel
theorem d_M_waiting_24 : decode c_M_waiting 24 = .ok (.bipush 18, 2) := by decide +kernel
theorem d_M_waiting_26 : decode c_M_waiting 26 = .ok (.iload_n 1, 1) := by decide +kernel
theorem d_M_waiting_27 : decode c_M_waiting 27 = .ok (.imul, 1) := by decide +kernel
theorem d_M_waiting_28 : decode c_M_waiting 28 = .ok (.iload_n 3, 1) := by decide +kernel
theorem d_M_waiting_29 : decode c_M_waiting 29 = .ok (.iadd, 1) := by decide +kernel
theorem d_M_waiting_30 : decode c_M_waiting 30 = .ok (.baload, 1) := by decide +kernel
theorem d_M_waiting_31 : decode c_M_waiting 31 = .ok (.ifCond .eq 23, 3) := by decide +kernel
theorem d_M_waiting_34 : decode c_M_waiting 34 = .ok (.aload_n 0, 1) := by decide +kernel
theorem d_M_waiting_35 : decode c_M_waiting 35 = .ok (.getfield 29, 3) := by decide +kernel
theorem d_M_waiting_38 : decode c_M_waiting 38 = .ok (.bipush 18, 2) := by decide +kernel
theorem d_M_waiting_40 : decode c_M_waiting 40 = .ok (.iload_n 1, 1) := by decide +kernel
theorem d_M_waiting_41 : decode c_M_waiting 41 = .ok (.imul, 1) := by decide +kernel
theorem d_M_waiting_42 : decode c_M_waiting 42 = .ok (.iload_n 3, 1) := by decide +kernel
theorem d_M_waiting_43 : decode c_M_waiting 43 = .ok (.iadd, 1) := by decide +kernel
theorem d_M_waiting_44 : decode c_M_waiting 44 = .ok (.iaload, 1) := by decide +kernel
theorem d_M_waiting_45 : decode c_M_waiting 45 = .ok (.ifCond .ge 9, 3) := by decide +kernel
theorem d_M_waiting_48 : decode c_M_waiting 48 = .ok (.iload_n 2, 1) := by decide +kernel
theorem d_M_waiting_49 : decode c_M_waiting 49 = .ok (.iconst 1, 1) := by decide +kernel
theorem d_M_waiting_50 : decode c_M_waiting 50 = .ok (.iadd, 1) := by decide +kernel
theorem d_M_waiting_51 : decode c_M_waiting 51 = .ok (.goto 4, 3) := by decide +kernel
theorem d_M_waiting_54 : decode c_M_waiting 54 = .ok (.iload_n 2, 1) := by decide +kernel
theorem d_M_waiting_55 : decode c_M_waiting 55 = .ok (.istore_n 2, 1) := by decide +kernel
theorem d_M_waiting_56 : decode c_M_waiting 56 = .ok (.iinc 3 1, 3) := by decide +kernel
theorem d_M_waiting_59 : decode c_M_waiting 59 = .ok (.goto (-45), 3) := by decide +kernel
theorem d_M_waiting_62 : decode c_M_waiting 62 = .ok (.iload_n 2, 1) := by decide +kernel
theorem d_M_waiting_63 : decode c_M_waiting 63 = .ok (.ireturn, 1) := by decide +kernel
abbrev c_M_place : ByteArray := prog_7_method_27_code
def y_M_place : MethodName := ⟨R_M, "place", "(III)I"⟩
def w_M_place : List Cond := .code y_M_place c_M_place 4 (some .int) :: gT
theorem k_M_place : Cond.code y_M_place c_M_place 4 (some .int) ∈ gT := gT_t (i := 482) (by decide +kernel) rfl
theorem hd_M_place : y_M_place.cls = R_M ∧ y_M_place.cls ≠ "java/lang/invoke/MethodHandle" ∧ y_M_place.cls ≠ "java/lang/invoke/VarHandle" ∧ (parseMethodDescriptor y_M_place.desc).map (fun d => d.parameters.length) = some 3 := by decide +kernel
theorem d_M_place_0 : decode c_M_place 0 = .ok (.aload_n 0, 1) := by decide +kernel
theorem d_M_place_1 : decode c_M_place 1 = .ok (.iload_n 1, 1) := by decide +kernel
theorem d_M_place_2 : decode c_M_place 2 = .ok (.invokevirtual 57, 3) := by decide +kernel
theorem d_M_place_5 : decode c_M_place 5 = .ok (.ifCond .eq 31, 3) := by decide +kernel
theorem d_M_place_8 : decode c_M_place 8 = .ok (.aload_n 0, 1) := by decide +kernel
theorem d_M_place_9 : decode c_M_place 9 = .ok (.iload_n 2, 1) := by decide +kernel
theorem d_M_place_10 : decode c_M_place 10 = .ok (.iload_n 3, 1) := by decide +kernel
theorem d_M_place_11 : decode c_M_place 11 = .ok (.invokevirtual 111, 3) := by decide +kernel
theorem d_M_place_14 : decode c_M_place 14 = .ok (.ifCond .eq 22, 3) := by decide +kernel
theorem d_M_place_17 : decode c_M_place 17 = .ok (.aload_n 0, 1) := by decide +kernel
theorem d_M_place_18 : decode c_M_place 18 = .ok (.getfield 29, 3) := by decide +kernel
theorem d_M_place_21 : decode c_M_place 21 = .ok (.bipush 18, 2) := by decide +kernel
theorem d_M_place_23 : decode c_M_place 23 = .ok (.iload_n 1, 1) := by decide +kernel
theorem d_M_place_24 : decode c_M_place 24 = .ok (.imul, 1) := by decide +kernel
theorem d_M_place_25 : decode c_M_place 25 = .ok (.bipush 6, 2) := by decide +kernel
theorem d_M_place_27 : decode c_M_place 27 = .ok (.iload_n 2, 1) := by decide +kernel
theorem d_M_place_28 : decode c_M_place 28 = .ok (.imul, 1) := by decide +kernel
theorem d_M_place_29 : decode c_M_place 29 = .ok (.iadd, 1) := by decide +kernel
theorem d_M_place_30 : decode c_M_place 30 = .ok (.iload_n 3, 1) := by decide +kernel
theorem d_M_place_31 : decode c_M_place 31 = .ok (.iadd, 1) := by decide +kernel
theorem d_M_place_32 : decode c_M_place 32 = .ok (.iaload, 1) := by decide +kernel
theorem d_M_place_33 : decode c_M_place 33 = .ok (.goto 4, 3) := by decide +kernel
theorem d_M_place_36 : decode c_M_place 36 = .ok (.iconst (-1), 1) := by decide +kernel
theorem d_M_place_37 : decode c_M_place 37 = .ok (.ireturn, 1) := by decide +kernel
abbrev c_M_length : ByteArray := prog_7_method_28_code
def y_M_length : MethodName := ⟨R_M, "length", "(I)I"⟩
def w_M_length : List Cond := .code y_M_length c_M_length 4 (some .int) :: gT
theorem k_M_length : Cond.code y_M_length c_M_length 4 (some .int) ∈ gT := gT_t (i := 381) (by decide +kernel) rfl
theorem hd_M_length : y_M_length.cls = R_M ∧ y_M_length.cls ≠ "java/lang/invoke/MethodHandle" ∧ y_M_length.cls ≠ "java/lang/invoke/VarHandle" ∧ (parseMethodDescriptor y_M_length.desc).map (fun d => d.parameters.length) = some 1 := by decide +kernel
theorem d_M_length_0 : decode c_M_length 0 = .ok (.aload_n 0, 1) := by decide +kernel
theorem d_M_length_1 : decode c_M_length 1 = .ok (.iload_n 1, 1) := by decide +kernel
theorem d_M_length_2 : decode c_M_length 2 = .ok (.invokevirtual 57, 3) := by decide +kernel
theorem d_M_length_5 : decode c_M_length 5 = .ok (.ifCond .ne 5, 3) := by decide +kernel
theorem d_M_length_8 : decode c_M_length 8 = .ok (.iconst (-1), 1) := by decide +kernel
theorem d_M_length_9 : decode c_M_length 9 = .ok (.ireturn, 1) := by decide +kernel
theorem d_M_length_10 : decode c_M_length 10 = .ok (.iconst 0, 1) := by decide +kernel
theorem d_M_length_11 : decode c_M_length 11 = .ok (.istore_n 2, 1) := by decide +kernel
theorem d_M_length_12 : decode c_M_length 12 = .ok (.iconst 0, 1) := by decide +kernel
theorem d_M_length_13 : decode c_M_length 13 = .ok (.istore_n 3, 1) := by decide +kernel
theorem d_M_length_14 : decode c_M_length 14 = .ok (.iload_n 3, 1) := by decide +kernel
theorem d_M_length_15 : decode c_M_length 15 = .ok (.aload_n 0, 1) := by decide +kernel
theorem d_M_length_16 : decode c_M_length 16 = .ok (.getfield 38, 3) := by decide +kernel
theorem d_M_length_19 : decode c_M_length 19 = .ok (.iload_n 1, 1) := by decide +kernel
theorem d_M_length_20 : decode c_M_length 20 = .ok (.iaload, 1) := by decide +kernel
theorem d_M_length_21 : decode c_M_length 21 = .ok (.if_icmp .ge 31, 3) := by decide +kernel
theorem d_M_length_24 : decode c_M_length 24 = .ok (.aload_n 0, 1) := by decide +kernel
theorem d_M_length_25 : decode c_M_length 25 = .ok (.getfield 44, 3) := by decide +kernel
theorem d_M_length_28 : decode c_M_length 28 = .ok (.bipush 18, 2) := by decide +kernel
theorem d_M_length_30 : decode c_M_length 30 = .ok (.iload_n 1, 1) := by decide +kernel
theorem d_M_length_31 : decode c_M_length 31 = .ok (.imul, 1) := by decide +kernel
theorem d_M_length_32 : decode c_M_length 32 = .ok (.iload_n 3, 1) := by decide +kernel
theorem d_M_length_33 : decode c_M_length 33 = .ok (.iadd, 1) := by decide +kernel
theorem d_M_length_34 : decode c_M_length 34 = .ok (.baload, 1) := by decide +kernel
theorem d_M_length_35 : decode c_M_length 35 = .ok (.ifCond .eq 9, 3) := by decide +kernel
theorem d_M_length_38 : decode c_M_length 38 = .ok (.iload_n 2, 1) := by decide +kernel
theorem d_M_length_39 : decode c_M_length 39 = .ok (.iconst 1, 1) := by decide +kernel
theorem d_M_length_40 : decode c_M_length 40 = .ok (.iadd, 1) := by decide +kernel
theorem d_M_length_41 : decode c_M_length 41 = .ok (.goto 4, 3) := by decide +kernel
theorem d_M_length_44 : decode c_M_length 44 = .ok (.iload_n 2, 1) := by decide +kernel
theorem d_M_length_45 : decode c_M_length 45 = .ok (.istore_n 2, 1) := by decide +kernel
theorem d_M_length_46 : decode c_M_length 46 = .ok (.iinc 3 1, 3) := by decide +kernel
theorem d_M_length_49 : decode c_M_length 49 = .ok (.goto (-35), 3) := by decide +kernel
theorem d_M_length_52 : decode c_M_length 52 = .ok (.iload_n 2, 1) := by decide +kernel
theorem d_M_length_53 : decode c_M_length 53 = .ok (.ireturn, 1) := by decide +kernel
abbrev c_M_at : ByteArray := prog_7_method_29_code
def y_M_at : MethodName := ⟨R_M, "at", "(II)I"⟩
def w_M_at : List Cond := .code y_M_at c_M_at 4 (some .int) :: gT
theorem k_M_at : Cond.code y_M_at c_M_at 4 (some .int) ∈ gT := gT_t (i := 487) (by decide +kernel) rfl
theorem hd_M_at : y_M_at.cls = R_M ∧ y_M_at.cls ≠ "java/lang/invoke/MethodHandle" ∧ y_M_at.cls ≠ "java/lang/invoke/VarHandle" ∧ (parseMethodDescriptor y_M_at.desc).map (fun d => d.parameters.length) = some 2 := by decide +kernel
theorem d_M_at_0 : decode c_M_at 0 = .ok (.aload_n 0, 1) := by decide +kernel
theorem d_M_at_1 : decode c_M_at 1 = .ok (.iload_n 1, 1) := by decide +kernel
theorem d_M_at_2 : decode c_M_at 2 = .ok (.invokevirtual 57, 3) := by decide +kernel
theorem d_M_at_5 : decode c_M_at 5 = .ok (.ifCond .eq 16, 3) := by decide +kernel
theorem d_M_at_8 : decode c_M_at 8 = .ok (.iload_n 2, 1) := by decide +kernel
theorem d_M_at_9 : decode c_M_at 9 = .ok (.ifCond .lt 12, 3) := by decide +kernel
theorem d_M_at_12 : decode c_M_at 12 = .ok (.iload_n 2, 1) := by decide +kernel
theorem d_M_at_13 : decode c_M_at 13 = .ok (.aload_n 0, 1) := by decide +kernel
theorem d_M_at_14 : decode c_M_at 14 = .ok (.iload_n 1, 1) := by decide +kernel
theorem d_M_at_15 : decode c_M_at 15 = .ok (.invokevirtual 101, 3) := by decide +kernel
theorem d_M_at_18 : decode c_M_at 18 = .ok (.if_icmp .lt 5, 3) := by decide +kernel
theorem d_M_at_21 : decode c_M_at 21 = .ok (.iconst (-1), 1) := by decide +kernel
theorem d_M_at_22 : decode c_M_at 22 = .ok (.ireturn, 1) := by decide +kernel
theorem d_M_at_23 : decode c_M_at 23 = .ok (.aload_n 0, 1) := by decide +kernel
theorem d_M_at_24 : decode c_M_at 24 = .ok (.iload_n 1, 1) := by decide +kernel
theorem d_M_at_25 : decode c_M_at 25 = .ok (.iload_n 2, 1) := by decide +kernel
theorem d_M_at_26 : decode c_M_at 26 = .ok (.invokevirtual 104, 3) := by decide +kernel
theorem d_M_at_29 : decode c_M_at 29 = .ok (.istore_n 3, 1) := by decide +kernel
theorem d_M_at_30 : decode c_M_at 30 = .ok (.aload_n 0, 1) := by decide +kernel
theorem d_M_at_31 : decode c_M_at 31 = .ok (.getfield 20, 3) := by decide +kernel
theorem d_M_at_34 : decode c_M_at 34 = .ok (.aload_n 0, 1) := by decide +kernel
theorem d_M_at_35 : decode c_M_at 35 = .ok (.getfield 41, 3) := by decide +kernel
theorem d_M_at_38 : decode c_M_at 38 = .ok (.bipush 18, 2) := by decide +kernel
theorem d_M_at_40 : decode c_M_at 40 = .ok (.iload_n 1, 1) := by decide +kernel
theorem d_M_at_41 : decode c_M_at 41 = .ok (.imul, 1) := by decide +kernel
theorem d_M_at_42 : decode c_M_at 42 = .ok (.iload_n 3, 1) := by decide +kernel
theorem d_M_at_43 : decode c_M_at 43 = .ok (.iadd, 1) := by decide +kernel
theorem d_M_at_44 : decode c_M_at 44 = .ok (.iaload, 1) := by decide +kernel
theorem d_M_at_45 : decode c_M_at 45 = .ok (.iaload, 1) := by decide +kernel
theorem d_M_at_46 : decode c_M_at 46 = .ok (.ireturn, 1) := by decide +kernel
abbrev c_M_cells : ByteArray := prog_7_method_30_code
def y_M_cells : MethodName := ⟨R_M, "cells", "(I)I"⟩
def w_M_cells : List Cond := .code y_M_cells c_M_cells 2 (some .int) :: gT
theorem k_M_cells : Cond.code y_M_cells c_M_cells 2 (some .int) ∈ gT := gT_t (i := 491) (by decide +kernel) rfl
theorem hd_M_cells : y_M_cells.cls = R_M ∧ y_M_cells.cls ≠ "java/lang/invoke/MethodHandle" ∧ y_M_cells.cls ≠ "java/lang/invoke/VarHandle" ∧ (parseMethodDescriptor y_M_cells.desc).map (fun d => d.parameters.length) = some 1 := by decide +kernel
theorem d_M_cells_0 : decode c_M_cells 0 = .ok (.aload_n 0, 1) := by decide +kernel
theorem d_M_cells_1 : decode c_M_cells 1 = .ok (.iload_n 1, 1) := by decide +kernel
theorem d_M_cells_2 : decode c_M_cells 2 = .ok (.invokevirtual 57, 3) := by decide +kernel
theorem d_M_cells_5 : decode c_M_cells 5 = .ok (.ifCond .eq 12, 3) := by decide +kernel
theorem d_M_cells_8 : decode c_M_cells 8 = .ok (.aload_n 0, 1) := by decide +kernel
theorem d_M_cells_9 : decode c_M_cells 9 = .ok (.getfield 38, 3) := by decide +kernel
theorem d_M_cells_12 : decode c_M_cells 12 = .ok (.iload_n 1, 1) := by decide +kernel
theorem d_M_cells_13 : decode c_M_cells 13 = .ok (.iaload, 1) := by decide +kernel
theorem d_M_cells_14 : decode c_M_cells 14 = .ok (.goto 4, 3) := by decide +kernel
theorem d_M_cells_17 : decode c_M_cells 17 = .ok (.iconst (-1), 1) := by decide +kernel
theorem d_M_cells_18 : decode c_M_cells 18 = .ok (.ireturn, 1) := by decide +kernel
abbrev c_M_cell : ByteArray := prog_7_method_31_code
def y_M_cell : MethodName := ⟨R_M, "cell", "(II)I"⟩
def w_M_cell : List Cond := .code y_M_cell c_M_cell 4 (some .int) :: gT
theorem k_M_cell : Cond.code y_M_cell c_M_cell 4 (some .int) ∈ gT := gT_t (i := 495) (by decide +kernel) rfl
theorem hd_M_cell : y_M_cell.cls = R_M ∧ y_M_cell.cls ≠ "java/lang/invoke/MethodHandle" ∧ y_M_cell.cls ≠ "java/lang/invoke/VarHandle" ∧ (parseMethodDescriptor y_M_cell.desc).map (fun d => d.parameters.length) = some 2 := by decide +kernel
theorem d_M_cell_0 : decode c_M_cell 0 = .ok (.aload_n 0, 1) := by decide +kernel
theorem d_M_cell_1 : decode c_M_cell 1 = .ok (.iload_n 1, 1) := by decide +kernel
theorem d_M_cell_2 : decode c_M_cell 2 = .ok (.invokevirtual 57, 3) := by decide +kernel
theorem d_M_cell_5 : decode c_M_cell 5 = .ok (.ifCond .eq 17, 3) := by decide +kernel
theorem d_M_cell_8 : decode c_M_cell 8 = .ok (.iload_n 2, 1) := by decide +kernel
theorem d_M_cell_9 : decode c_M_cell 9 = .ok (.ifCond .lt 13, 3) := by decide +kernel
theorem d_M_cell_12 : decode c_M_cell 12 = .ok (.iload_n 2, 1) := by decide +kernel
theorem d_M_cell_13 : decode c_M_cell 13 = .ok (.aload_n 0, 1) := by decide +kernel
theorem d_M_cell_14 : decode c_M_cell 14 = .ok (.getfield 38, 3) := by decide +kernel
theorem d_M_cell_17 : decode c_M_cell 17 = .ok (.iload_n 1, 1) := by decide +kernel
theorem d_M_cell_18 : decode c_M_cell 18 = .ok (.iaload, 1) := by decide +kernel
theorem d_M_cell_19 : decode c_M_cell 19 = .ok (.if_icmp .lt 5, 3) := by decide +kernel
theorem d_M_cell_22 : decode c_M_cell 22 = .ok (.iconst 0, 1) := by decide +kernel
theorem d_M_cell_23 : decode c_M_cell 23 = .ok (.ireturn, 1) := by decide +kernel
theorem d_M_cell_24 : decode c_M_cell 24 = .ok (.aload_n 0, 1) := by decide +kernel
theorem d_M_cell_25 : decode c_M_cell 25 = .ok (.getfield 20, 3) := by decide +kernel
theorem d_M_cell_28 : decode c_M_cell 28 = .ok (.aload_n 0, 1) := by decide +kernel
theorem d_M_cell_29 : decode c_M_cell 29 = .ok (.getfield 41, 3) := by decide +kernel
theorem d_M_cell_32 : decode c_M_cell 32 = .ok (.bipush 18, 2) := by decide +kernel
theorem d_M_cell_34 : decode c_M_cell 34 = .ok (.iload_n 1, 1) := by decide +kernel
theorem d_M_cell_35 : decode c_M_cell 35 = .ok (.imul, 1) := by decide +kernel
theorem d_M_cell_36 : decode c_M_cell 36 = .ok (.iload_n 2, 1) := by decide +kernel
theorem d_M_cell_37 : decode c_M_cell 37 = .ok (.iadd, 1) := by decide +kernel
theorem d_M_cell_38 : decode c_M_cell 38 = .ok (.iaload, 1) := by decide +kernel
theorem d_M_cell_39 : decode c_M_cell 39 = .ok (.iaload, 1) := by decide +kernel
theorem d_M_cell_40 : decode c_M_cell 40 = .ok (.istore_n 3, 1) := by decide +kernel
theorem d_M_cell_41 : decode c_M_cell 41 = .ok (.aload_n 0, 1) := by decide +kernel
theorem d_M_cell_42 : decode c_M_cell 42 = .ok (.getfield 44, 3) := by decide +kernel
theorem d_M_cell_45 : decode c_M_cell 45 = .ok (.bipush 18, 2) := by decide +kernel
theorem d_M_cell_47 : decode c_M_cell 47 = .ok (.iload_n 1, 1) := by decide +kernel
theorem d_M_cell_48 : decode c_M_cell 48 = .ok (.imul, 1) := by decide +kernel
theorem d_M_cell_49 : decode c_M_cell 49 = .ok (.iload_n 2, 1) := by decide +kernel
theorem d_M_cell_50 : decode c_M_cell 50 = .ok (.iadd, 1) := by decide +kernel
theorem d_M_cell_51 : decode c_M_cell 51 = .ok (.baload, 1) := by decide +kernel
theorem d_M_cell_52 : decode c_M_cell 52 = .ok (.ifCond .eq 7, 3) := by decide +kernel
theorem d_M_cell_55 : decode c_M_cell 55 = .ok (.iload_n 3, 1) := by decide +kernel
theorem d_M_cell_56 : decode c_M_cell 56 = .ok (.goto 5, 3) := by decide +kernel
theorem d_M_cell_59 : decode c_M_cell 59 = .ok (.iload_n 3, 1) := by decide +kernel
theorem d_M_cell_60 : decode c_M_cell 60 = .ok (.ineg, 1) := by decide +kernel
theorem d_M_cell_61 : decode c_M_cell 61 = .ok (.ireturn, 1) := by decide +kernel
abbrev c_M_stable : ByteArray := prog_7_method_32_code
def y_M_stable : MethodName := ⟨R_M, "stable", "(II)I"⟩
def w_M_stable : List Cond := .code y_M_stable c_M_stable 7 (some .int) :: gT
theorem k_M_stable : Cond.code y_M_stable c_M_stable 7 (some .int) ∈ gT := gT_t (i := 499) (by decide +kernel) rfl
theorem hd_M_stable : y_M_stable.cls = R_M ∧ y_M_stable.cls ≠ "java/lang/invoke/MethodHandle" ∧ y_M_stable.cls ≠ "java/lang/invoke/VarHandle" ∧ (parseMethodDescriptor y_M_stable.desc).map (fun d => d.parameters.length) = some 2 := by decide +kernel
theorem d_M_stable_0 : decode c_M_stable 0 = .ok (.aload_n 0, 1) := by decide +kernel
theorem d_M_stable_1 : decode c_M_stable 1 = .ok (.iload_n 1, 1) := by decide +kernel
theorem d_M_stable_2 : decode c_M_stable 2 = .ok (.invokevirtual 57, 3) := by decide +kernel
theorem d_M_stable_5 : decode c_M_stable 5 = .ok (.ifCond .eq 11, 3) := by decide +kernel
theorem d_M_stable_8 : decode c_M_stable 8 = .ok (.aload_n 0, 1) := by decide +kernel
theorem d_M_stable_9 : decode c_M_stable 9 = .ok (.iload_n 2, 1) := by decide +kernel
theorem d_M_stable_10 : decode c_M_stable 10 = .ok (.invokevirtual 57, 3) := by decide +kernel
theorem d_M_stable_13 : decode c_M_stable 13 = .ok (.ifCond .ne 5, 3) := by decide +kernel
theorem d_M_stable_16 : decode c_M_stable 16 = .ok (.iconst (-1), 1) := by decide +kernel
theorem d_M_stable_17 : decode c_M_stable 17 = .ok (.ireturn, 1) := by decide +kernel
theorem d_M_stable_18 : decode c_M_stable 18 = .ok (.bipush 100, 2) := by decide +kernel
theorem d_M_stable_20 : decode c_M_stable 20 = .ok (.istore_n 3, 1) := by decide +kernel
theorem d_M_stable_21 : decode c_M_stable 21 = .ok (.iconst 0, 1) := by decide +kernel
theorem d_M_stable_22 : decode c_M_stable 22 = .ok (.istore 4, 2) := by decide +kernel
theorem d_M_stable_24 : decode c_M_stable 24 = .ok (.iload 4, 2) := by decide +kernel
theorem d_M_stable_26 : decode c_M_stable 26 = .ok (.aload_n 0, 1) := by decide +kernel
theorem d_M_stable_27 : decode c_M_stable 27 = .ok (.getfield 53, 3) := by decide +kernel
theorem d_M_stable_30 : decode c_M_stable 30 = .ok (.if_icmp .ge 97, 3) := by decide +kernel
theorem d_M_stable_33 : decode c_M_stable 33 = .ok (.aload_n 0, 1) := by decide +kernel
theorem d_M_stable_34 : decode c_M_stable 34 = .ok (.getfield 32, 3) := by decide +kernel
theorem d_M_stable_37 : decode c_M_stable 37 = .ok (.iconst 3, 1) := by decide +kernel
theorem d_M_stable_38 : decode c_M_stable 38 = .ok (.iload_n 1, 1) := by decide +kernel
theorem d_M_stable_39 : decode c_M_stable 39 = .ok (.imul, 1) := by decide +kernel
theorem d_M_stable_40 : decode c_M_stable 40 = .ok (.iload 4, 2) := by decide +kernel
theorem d_M_stable_42 : decode c_M_stable 42 = .ok (.iadd, 1) := by decide +kernel
theorem d_M_stable_43 : decode c_M_stable 43 = .ok (.iaload, 1) := by decide +kernel
theorem d_M_stable_44 : decode c_M_stable 44 = .ok (.istore 5, 2) := by decide +kernel
theorem d_M_stable_46 : decode c_M_stable 46 = .ok (.iconst 0, 1) := by decide +kernel
theorem d_M_stable_47 : decode c_M_stable 47 = .ok (.istore 6, 2) := by decide +kernel
theorem d_M_stable_49 : decode c_M_stable 49 = .ok (.iload 4, 2) := by decide +kernel
theorem d_M_stable_51 : decode c_M_stable 51 = .ok (.iload_n 1, 1) := by decide +kernel
theorem d_M_stable_52 : decode c_M_stable 52 = .ok (.if_icmp .ne 18, 3) := by decide +kernel
theorem d_M_stable_55 : decode c_M_stable 55 = .ok (.aload_n 0, 1) := by decide +kernel
theorem d_M_stable_56 : decode c_M_stable 56 = .ok (.getfield 32, 3) := by decide +kernel
theorem d_M_stable_59 : decode c_M_stable 59 = .ok (.iconst 3, 1) := by decide +kernel
theorem d_M_stable_60 : decode c_M_stable 60 = .ok (.iload_n 1, 1) := by decide +kernel
theorem d_M_stable_61 : decode c_M_stable 61 = .ok (.imul, 1) := by decide +kernel
theorem d_M_stable_62 : decode c_M_stable 62 = .ok (.iload_n 2, 1) := by decide +kernel
theorem d_M_stable_63 : decode c_M_stable 63 = .ok (.iadd, 1) := by decide +kernel
theorem d_M_stable_64 : decode c_M_stable 64 = .ok (.iaload, 1) := by decide +kernel
theorem d_M_stable_65 : decode c_M_stable 65 = .ok (.istore 6, 2) := by decide +kernel
theorem d_M_stable_67 : decode c_M_stable 67 = .ok (.goto 41, 3) := by decide +kernel
theorem d_M_stable_70 : decode c_M_stable 70 = .ok (.iload 5, 2) := by decide +kernel
theorem d_M_stable_72 : decode c_M_stable 72 = .ok (.ifCond .le 36, 3) := by decide +kernel
theorem d_M_stable_75 : decode c_M_stable 75 = .ok (.aload_n 0, 1) := by decide +kernel
theorem d_M_stable_76 : decode c_M_stable 76 = .ok (.getfield 23, 3) := by decide +kernel
theorem d_M_stable_79 : decode c_M_stable 79 = .ok (.iconst 3, 1) := by decide +kernel
theorem d_M_stable_80 : decode c_M_stable 80 = .ok (.bipush 6, 2) := by decide +kernel
theorem d_M_stable_82 : decode c_M_stable 82 = .ok (.iload 4, 2) := by decide +kernel
theorem d_M_stable_84 : decode c_M_stable 84 = .ok (.imul, 1) := by decide +kernel
theorem d_M_stable_85 : decode c_M_stable 85 = .ok (.iload 5, 2) := by decide +kernel
theorem d_M_stable_87 : decode c_M_stable 87 = .ok (.iadd, 1) := by decide +kernel
theorem d_M_stable_88 : decode c_M_stable 88 = .ok (.iconst 1, 1) := by decide +kernel
theorem d_M_stable_89 : decode c_M_stable 89 = .ok (.isub, 1) := by decide +kernel
theorem d_M_stable_90 : decode c_M_stable 90 = .ok (.imul, 1) := by decide +kernel
theorem d_M_stable_91 : decode c_M_stable 91 = .ok (.iload_n 2, 1) := by decide +kernel
theorem d_M_stable_92 : decode c_M_stable 92 = .ok (.iadd, 1) := by decide +kernel
theorem d_M_stable_93 : decode c_M_stable 93 = .ok (.iaload, 1) := by decide +kernel
theorem d_M_stable_94 : decode c_M_stable 94 = .ok (.iload_n 2, 1) := by decide +kernel
theorem d_M_stable_95 : decode c_M_stable 95 = .ok (.iload 4, 2) := by decide +kernel
theorem d_M_stable_97 : decode c_M_stable 97 = .ok (.if_icmp .ne 7, 3) := by decide +kernel
theorem d_M_stable_100 : decode c_M_stable 100 = .ok (.iconst 1, 1) := by decide +kernel
theorem d_M_stable_101 : decode c_M_stable 101 = .ok (.goto 4, 3) := by decide +kernel
theorem d_M_stable_104 : decode c_M_stable 104 = .ok (.iconst 0, 1) := by decide +kernel
theorem d_M_stable_105 : decode c_M_stable 105 = .ok (.iadd, 1) := by decide +kernel
theorem d_M_stable_106 : decode c_M_stable 106 = .ok (.istore 6, 2) := by decide +kernel
theorem d_M_stable_108 : decode c_M_stable 108 = .ok (.iload 6, 2) := by decide +kernel
theorem d_M_stable_110 : decode c_M_stable 110 = .ok (.iload_n 3, 1) := by decide +kernel
theorem d_M_stable_111 : decode c_M_stable 111 = .ok (.if_icmp .ge 8, 3) := by decide +kernel
theorem d_M_stable_114 : decode c_M_stable 114 = .ok (.iload 6, 2) := by decide +kernel
theorem d_M_stable_116 : decode c_M_stable 116 = .ok (.goto 4, 3) := by decide +kernel
theorem d_M_stable_119 : decode c_M_stable 119 = .ok (.iload_n 3, 1) := by decide +kernel
theorem d_M_stable_120 : decode c_M_stable 120 = .ok (.istore_n 3, 1) := by decide +kernel
theorem d_M_stable_121 : decode c_M_stable 121 = .ok (.iinc 4 1, 3) := by decide +kernel
theorem d_M_stable_124 : decode c_M_stable 124 = .ok (.goto (-100), 3) := by decide +kernel
theorem d_M_stable_127 : decode c_M_stable 127 = .ok (.iload_n 3, 1) := by decide +kernel
theorem d_M_stable_128 : decode c_M_stable 128 = .ok (.ireturn, 1) := by decide +kernel
abbrev c_L_cell : ByteArray := method_2_code
def y_L_cell : MethodName := ⟨R_L, "cell", "([II)I"⟩
def w_L_cell : List Cond := .code y_L_cell c_L_cell 2 (some .int) :: gT
theorem k_L_cell : Cond.code y_L_cell c_L_cell 2 (some .int) ∈ gT := gT_t (i := 313) (by decide +kernel) rfl
theorem hd_L_cell : y_L_cell.cls = R_L ∧ y_L_cell.cls ≠ "java/lang/invoke/MethodHandle" ∧ y_L_cell.cls ≠ "java/lang/invoke/VarHandle" ∧ (parseMethodDescriptor y_L_cell.desc).map (fun d => d.parameters.length) = some 2 := by decide +kernel
theorem d_L_cell_0 : decode c_L_cell 0 = .ok (.iload_n 1, 1) := by decide +kernel
theorem d_L_cell_1 : decode c_L_cell 1 = .ok (.aload_n 0, 1) := by decide +kernel
theorem d_L_cell_2 : decode c_L_cell 2 = .ok (.arraylength, 1) := by decide +kernel
theorem d_L_cell_3 : decode c_L_cell 3 = .ok (.if_icmp .ge 9, 3) := by decide +kernel
theorem d_L_cell_6 : decode c_L_cell 6 = .ok (.aload_n 0, 1) := by decide +kernel
theorem d_L_cell_7 : decode c_L_cell 7 = .ok (.iload_n 1, 1) := by decide +kernel
theorem d_L_cell_8 : decode c_L_cell 8 = .ok (.iaload, 1) := by decide +kernel
theorem d_L_cell_9 : decode c_L_cell 9 = .ok (.goto 4, 3) := by decide +kernel
theorem d_L_cell_12 : decode c_L_cell 12 = .ok (.iconst 0, 1) := by decide +kernel
theorem d_L_cell_13 : decode c_L_cell 13 = .ok (.ireturn, 1) := by decide +kernel
abbrev c_L_law : ByteArray := code
def y_L_law : MethodName := ⟨R_L, "law", "([I)Z"⟩
theorem d_L_law_0 : decode c_L_law 0 = .ok (.new 7, 3) := by decide +kernel
theorem d_L_law_3 : decode c_L_law 3 = .ok (.dup, 1) := by decide +kernel
theorem d_L_law_4 : decode c_L_law 4 = .ok (.aload_n 0, 1) := by decide +kernel
theorem d_L_law_5 : decode c_L_law 5 = .ok (.iconst 0, 1) := by decide +kernel
theorem d_L_law_6 : decode c_L_law 6 = .ok (.invokestatic 9, 3) := by decide +kernel
theorem d_L_law_9 : decode c_L_law 9 = .ok (.invokespecial 15, 3) := by decide +kernel
theorem d_L_law_12 : decode c_L_law 12 = .ok (.astore_n 1, 1) := by decide +kernel
theorem d_L_law_13 : decode c_L_law 13 = .ok (.new 18, 3) := by decide +kernel
theorem d_L_law_16 : decode c_L_law 16 = .ok (.dup, 1) := by decide +kernel
theorem d_L_law_17 : decode c_L_law 17 = .ok (.aload_n 0, 1) := by decide +kernel
theorem d_L_law_18 : decode c_L_law 18 = .ok (.iconst 0, 1) := by decide +kernel
theorem d_L_law_19 : decode c_L_law 19 = .ok (.invokestatic 9, 3) := by decide +kernel
theorem d_L_law_22 : decode c_L_law 22 = .ok (.invokespecial 20, 3) := by decide +kernel
theorem d_L_law_25 : decode c_L_law 25 = .ok (.astore_n 2, 1) := by decide +kernel
theorem d_L_law_26 : decode c_L_law 26 = .ok (.iconst 1, 1) := by decide +kernel
theorem d_L_law_27 : decode c_L_law 27 = .ok (.istore_n 3, 1) := by decide +kernel
theorem d_L_law_28 : decode c_L_law 28 = .ok (.iload_n 3, 1) := by decide +kernel
theorem d_L_law_29 : decode c_L_law 29 = .ok (.aload_n 0, 1) := by decide +kernel
theorem d_L_law_30 : decode c_L_law 30 = .ok (.arraylength, 1) := by decide +kernel
theorem d_L_law_31 : decode c_L_law 31 = .ok (.iconst 4, 1) := by decide +kernel
theorem d_L_law_32 : decode c_L_law 32 = .ok (.isub, 1) := by decide +kernel
theorem d_L_law_33 : decode c_L_law 33 = .ok (.if_icmp .gt 595, 3) := by decide +kernel
theorem d_L_law_36 : decode c_L_law 36 = .ok (.aload_n 0, 1) := by decide +kernel
theorem d_L_law_37 : decode c_L_law 37 = .ok (.iload_n 3, 1) := by decide +kernel
theorem d_L_law_38 : decode c_L_law 38 = .ok (.iaload, 1) := by decide +kernel
theorem d_L_law_39 : decode c_L_law 39 = .ok (.bipush 15, 2) := by decide +kernel
theorem d_L_law_41 : decode c_L_law 41 = .ok (.iand, 1) := by decide +kernel
theorem d_L_law_42 : decode c_L_law 42 = .ok (.tableswitch 580 0 14 #[74, 87, 130, 163, 206, 269, 302, 336, 369, 392, 435, 458, 491, 514, 547], 74) := by decide +kernel
theorem d_L_law_116 : decode c_L_law 116 = .ok (.aload_n 1, 1) := by decide +kernel
theorem d_L_law_117 : decode c_L_law 117 = .ok (.invokevirtual 21, 3) := by decide +kernel
theorem d_L_law_120 : decode c_L_law 120 = .ok (.aload_n 2, 1) := by decide +kernel
theorem d_L_law_121 : decode c_L_law 121 = .ok (.invokevirtual 25, 3) := by decide +kernel
theorem d_L_law_124 : decode c_L_law 124 = .ok (.if_icmp .eq 498, 3) := by decide +kernel
theorem d_L_law_127 : decode c_L_law 127 = .ok (.iconst 0, 1) := by decide +kernel
theorem d_L_law_128 : decode c_L_law 128 = .ok (.ireturn, 1) := by decide +kernel
theorem d_L_law_129 : decode c_L_law 129 = .ok (.aload_n 1, 1) := by decide +kernel
theorem d_L_law_130 : decode c_L_law 130 = .ok (.aload_n 0, 1) := by decide +kernel
theorem d_L_law_131 : decode c_L_law 131 = .ok (.iload_n 3, 1) := by decide +kernel
theorem d_L_law_132 : decode c_L_law 132 = .ok (.iconst 1, 1) := by decide +kernel
theorem d_L_law_133 : decode c_L_law 133 = .ok (.iadd, 1) := by decide +kernel
theorem d_L_law_134 : decode c_L_law 134 = .ok (.iaload, 1) := by decide +kernel
theorem d_L_law_135 : decode c_L_law 135 = .ok (.aload_n 0, 1) := by decide +kernel
theorem d_L_law_136 : decode c_L_law 136 = .ok (.iload_n 3, 1) := by decide +kernel
theorem d_L_law_137 : decode c_L_law 137 = .ok (.iconst 2, 1) := by decide +kernel
theorem d_L_law_138 : decode c_L_law 138 = .ok (.iadd, 1) := by decide +kernel
theorem d_L_law_139 : decode c_L_law 139 = .ok (.iaload, 1) := by decide +kernel
theorem d_L_law_140 : decode c_L_law 140 = .ok (.aload_n 0, 1) := by decide +kernel
theorem d_L_law_141 : decode c_L_law 141 = .ok (.iload_n 3, 1) := by decide +kernel
theorem d_L_law_142 : decode c_L_law 142 = .ok (.iconst 3, 1) := by decide +kernel
theorem d_L_law_143 : decode c_L_law 143 = .ok (.iadd, 1) := by decide +kernel
theorem d_L_law_144 : decode c_L_law 144 = .ok (.iaload, 1) := by decide +kernel
theorem d_L_law_145 : decode c_L_law 145 = .ok (.invokevirtual 26, 3) := by decide +kernel
theorem d_L_law_148 : decode c_L_law 148 = .ok (.aload_n 2, 1) := by decide +kernel
theorem d_L_law_149 : decode c_L_law 149 = .ok (.aload_n 0, 1) := by decide +kernel
theorem d_L_law_150 : decode c_L_law 150 = .ok (.iload_n 3, 1) := by decide +kernel
theorem d_L_law_151 : decode c_L_law 151 = .ok (.iconst 1, 1) := by decide +kernel
theorem d_L_law_152 : decode c_L_law 152 = .ok (.iadd, 1) := by decide +kernel
theorem d_L_law_153 : decode c_L_law 153 = .ok (.iaload, 1) := by decide +kernel
theorem d_L_law_154 : decode c_L_law 154 = .ok (.aload_n 0, 1) := by decide +kernel
theorem d_L_law_155 : decode c_L_law 155 = .ok (.iload_n 3, 1) := by decide +kernel
theorem d_L_law_156 : decode c_L_law 156 = .ok (.iconst 2, 1) := by decide +kernel
theorem d_L_law_157 : decode c_L_law 157 = .ok (.iadd, 1) := by decide +kernel
theorem d_L_law_158 : decode c_L_law 158 = .ok (.iaload, 1) := by decide +kernel
theorem d_L_law_159 : decode c_L_law 159 = .ok (.aload_n 0, 1) := by decide +kernel
theorem d_L_law_160 : decode c_L_law 160 = .ok (.iload_n 3, 1) := by decide +kernel
theorem d_L_law_161 : decode c_L_law 161 = .ok (.iconst 3, 1) := by decide +kernel
theorem d_L_law_162 : decode c_L_law 162 = .ok (.iadd, 1) := by decide +kernel
theorem d_L_law_163 : decode c_L_law 163 = .ok (.iaload, 1) := by decide +kernel
theorem d_L_law_164 : decode c_L_law 164 = .ok (.invokevirtual 30, 3) := by decide +kernel
theorem d_L_law_167 : decode c_L_law 167 = .ok (.if_icmp .eq 455, 3) := by decide +kernel
theorem d_L_law_170 : decode c_L_law 170 = .ok (.iconst 0, 1) := by decide +kernel
theorem d_L_law_171 : decode c_L_law 171 = .ok (.ireturn, 1) := by decide +kernel
theorem d_L_law_172 : decode c_L_law 172 = .ok (.aload_n 1, 1) := by decide +kernel
theorem d_L_law_173 : decode c_L_law 173 = .ok (.aload_n 0, 1) := by decide +kernel
theorem d_L_law_174 : decode c_L_law 174 = .ok (.iload_n 3, 1) := by decide +kernel
theorem d_L_law_175 : decode c_L_law 175 = .ok (.iconst 1, 1) := by decide +kernel
theorem d_L_law_176 : decode c_L_law 176 = .ok (.iadd, 1) := by decide +kernel
theorem d_L_law_177 : decode c_L_law 177 = .ok (.iaload, 1) := by decide +kernel
theorem d_L_law_178 : decode c_L_law 178 = .ok (.aload_n 0, 1) := by decide +kernel
theorem d_L_law_179 : decode c_L_law 179 = .ok (.iload_n 3, 1) := by decide +kernel
theorem d_L_law_180 : decode c_L_law 180 = .ok (.iconst 2, 1) := by decide +kernel
theorem d_L_law_181 : decode c_L_law 181 = .ok (.iadd, 1) := by decide +kernel
theorem d_L_law_182 : decode c_L_law 182 = .ok (.iaload, 1) := by decide +kernel
theorem d_L_law_183 : decode c_L_law 183 = .ok (.invokevirtual 31, 3) := by decide +kernel
theorem d_L_law_186 : decode c_L_law 186 = .ok (.aload_n 2, 1) := by decide +kernel
theorem d_L_law_187 : decode c_L_law 187 = .ok (.aload_n 0, 1) := by decide +kernel
theorem d_L_law_188 : decode c_L_law 188 = .ok (.iload_n 3, 1) := by decide +kernel
theorem d_L_law_189 : decode c_L_law 189 = .ok (.iconst 1, 1) := by decide +kernel
theorem d_L_law_190 : decode c_L_law 190 = .ok (.iadd, 1) := by decide +kernel
theorem d_L_law_191 : decode c_L_law 191 = .ok (.iaload, 1) := by decide +kernel
theorem d_L_law_192 : decode c_L_law 192 = .ok (.aload_n 0, 1) := by decide +kernel
theorem d_L_law_193 : decode c_L_law 193 = .ok (.iload_n 3, 1) := by decide +kernel
theorem d_L_law_194 : decode c_L_law 194 = .ok (.iconst 2, 1) := by decide +kernel
theorem d_L_law_195 : decode c_L_law 195 = .ok (.iadd, 1) := by decide +kernel
theorem d_L_law_196 : decode c_L_law 196 = .ok (.iaload, 1) := by decide +kernel
theorem d_L_law_197 : decode c_L_law 197 = .ok (.invokevirtual 35, 3) := by decide +kernel
theorem d_L_law_200 : decode c_L_law 200 = .ok (.if_icmp .eq 422, 3) := by decide +kernel
theorem d_L_law_203 : decode c_L_law 203 = .ok (.iconst 0, 1) := by decide +kernel
theorem d_L_law_204 : decode c_L_law 204 = .ok (.ireturn, 1) := by decide +kernel
theorem d_L_law_205 : decode c_L_law 205 = .ok (.aload_n 1, 1) := by decide +kernel
theorem d_L_law_206 : decode c_L_law 206 = .ok (.aload_n 0, 1) := by decide +kernel
theorem d_L_law_207 : decode c_L_law 207 = .ok (.iload_n 3, 1) := by decide +kernel
theorem d_L_law_208 : decode c_L_law 208 = .ok (.iconst 1, 1) := by decide +kernel
theorem d_L_law_209 : decode c_L_law 209 = .ok (.iadd, 1) := by decide +kernel
theorem d_L_law_210 : decode c_L_law 210 = .ok (.iaload, 1) := by decide +kernel
theorem d_L_law_211 : decode c_L_law 211 = .ok (.aload_n 0, 1) := by decide +kernel
theorem d_L_law_212 : decode c_L_law 212 = .ok (.iload_n 3, 1) := by decide +kernel
theorem d_L_law_213 : decode c_L_law 213 = .ok (.iconst 2, 1) := by decide +kernel
theorem d_L_law_214 : decode c_L_law 214 = .ok (.iadd, 1) := by decide +kernel
theorem d_L_law_215 : decode c_L_law 215 = .ok (.iaload, 1) := by decide +kernel
theorem d_L_law_216 : decode c_L_law 216 = .ok (.aload_n 0, 1) := by decide +kernel
theorem d_L_law_217 : decode c_L_law 217 = .ok (.iload_n 3, 1) := by decide +kernel
theorem d_L_law_218 : decode c_L_law 218 = .ok (.iconst 3, 1) := by decide +kernel
theorem d_L_law_219 : decode c_L_law 219 = .ok (.iadd, 1) := by decide +kernel
theorem d_L_law_220 : decode c_L_law 220 = .ok (.iaload, 1) := by decide +kernel
theorem d_L_law_221 : decode c_L_law 221 = .ok (.invokevirtual 36, 3) := by decide +kernel
theorem d_L_law_224 : decode c_L_law 224 = .ok (.aload_n 2, 1) := by decide +kernel
theorem d_L_law_225 : decode c_L_law 225 = .ok (.aload_n 0, 1) := by decide +kernel
theorem d_L_law_226 : decode c_L_law 226 = .ok (.iload_n 3, 1) := by decide +kernel
theorem d_L_law_227 : decode c_L_law 227 = .ok (.iconst 1, 1) := by decide +kernel
theorem d_L_law_228 : decode c_L_law 228 = .ok (.iadd, 1) := by decide +kernel
theorem d_L_law_229 : decode c_L_law 229 = .ok (.iaload, 1) := by decide +kernel
theorem d_L_law_230 : decode c_L_law 230 = .ok (.aload_n 0, 1) := by decide +kernel
theorem d_L_law_231 : decode c_L_law 231 = .ok (.iload_n 3, 1) := by decide +kernel
theorem d_L_law_232 : decode c_L_law 232 = .ok (.iconst 2, 1) := by decide +kernel
theorem d_L_law_233 : decode c_L_law 233 = .ok (.iadd, 1) := by decide +kernel
theorem d_L_law_234 : decode c_L_law 234 = .ok (.iaload, 1) := by decide +kernel
theorem d_L_law_235 : decode c_L_law 235 = .ok (.aload_n 0, 1) := by decide +kernel
theorem d_L_law_236 : decode c_L_law 236 = .ok (.iload_n 3, 1) := by decide +kernel
theorem d_L_law_237 : decode c_L_law 237 = .ok (.iconst 3, 1) := by decide +kernel
theorem d_L_law_238 : decode c_L_law 238 = .ok (.iadd, 1) := by decide +kernel
theorem d_L_law_239 : decode c_L_law 239 = .ok (.iaload, 1) := by decide +kernel
theorem d_L_law_240 : decode c_L_law 240 = .ok (.invokevirtual 39, 3) := by decide +kernel
theorem d_L_law_243 : decode c_L_law 243 = .ok (.if_icmp .eq 379, 3) := by decide +kernel
theorem d_L_law_246 : decode c_L_law 246 = .ok (.iconst 0, 1) := by decide +kernel
theorem d_L_law_247 : decode c_L_law 247 = .ok (.ireturn, 1) := by decide +kernel
theorem d_L_law_248 : decode c_L_law 248 = .ok (.aload_n 1, 1) := by decide +kernel
theorem d_L_law_249 : decode c_L_law 249 = .ok (.aload_n 0, 1) := by decide +kernel
theorem d_L_law_250 : decode c_L_law 250 = .ok (.iload_n 3, 1) := by decide +kernel
theorem d_L_law_251 : decode c_L_law 251 = .ok (.iconst 1, 1) := by decide +kernel
theorem d_L_law_252 : decode c_L_law 252 = .ok (.iadd, 1) := by decide +kernel
theorem d_L_law_253 : decode c_L_law 253 = .ok (.iaload, 1) := by decide +kernel
theorem d_L_law_254 : decode c_L_law 254 = .ok (.aload_n 0, 1) := by decide +kernel
theorem d_L_law_255 : decode c_L_law 255 = .ok (.iload_n 3, 1) := by decide +kernel
theorem d_L_law_256 : decode c_L_law 256 = .ok (.iconst 2, 1) := by decide +kernel
theorem d_L_law_257 : decode c_L_law 257 = .ok (.iadd, 1) := by decide +kernel
theorem d_L_law_258 : decode c_L_law 258 = .ok (.iaload, 1) := by decide +kernel
theorem d_L_law_259 : decode c_L_law 259 = .ok (.i2l, 1) := by decide +kernel
theorem d_L_law_260 : decode c_L_law 260 = .ok (.bipush 32, 2) := by decide +kernel
theorem d_L_law_262 : decode c_L_law 262 = .ok (.lshl, 1) := by decide +kernel
theorem d_L_law_263 : decode c_L_law 263 = .ok (.aload_n 0, 1) := by decide +kernel
theorem d_L_law_264 : decode c_L_law 264 = .ok (.iload_n 3, 1) := by decide +kernel
theorem d_L_law_265 : decode c_L_law 265 = .ok (.iconst 3, 1) := by decide +kernel
theorem d_L_law_266 : decode c_L_law 266 = .ok (.iadd, 1) := by decide +kernel
theorem d_L_law_267 : decode c_L_law 267 = .ok (.iaload, 1) := by decide +kernel
theorem d_L_law_268 : decode c_L_law 268 = .ok (.i2l, 1) := by decide +kernel
theorem d_L_law_269 : decode c_L_law 269 = .ok (.ldc2_w 40, 3) := by decide +kernel
theorem d_L_law_272 : decode c_L_law 272 = .ok (.land, 1) := by decide +kernel
theorem d_L_law_273 : decode c_L_law 273 = .ok (.lor, 1) := by decide +kernel
theorem d_L_law_274 : decode c_L_law 274 = .ok (.invokevirtual 42, 3) := by decide +kernel
theorem d_L_law_277 : decode c_L_law 277 = .ok (.aload_n 2, 1) := by decide +kernel
theorem d_L_law_278 : decode c_L_law 278 = .ok (.aload_n 0, 1) := by decide +kernel
theorem d_L_law_279 : decode c_L_law 279 = .ok (.iload_n 3, 1) := by decide +kernel
theorem d_L_law_280 : decode c_L_law 280 = .ok (.iconst 1, 1) := by decide +kernel
theorem d_L_law_281 : decode c_L_law 281 = .ok (.iadd, 1) := by decide +kernel
theorem d_L_law_282 : decode c_L_law 282 = .ok (.iaload, 1) := by decide +kernel
theorem d_L_law_283 : decode c_L_law 283 = .ok (.aload_n 0, 1) := by decide +kernel
theorem d_L_law_284 : decode c_L_law 284 = .ok (.iload_n 3, 1) := by decide +kernel
theorem d_L_law_285 : decode c_L_law 285 = .ok (.iconst 2, 1) := by decide +kernel
theorem d_L_law_286 : decode c_L_law 286 = .ok (.iadd, 1) := by decide +kernel
theorem d_L_law_287 : decode c_L_law 287 = .ok (.iaload, 1) := by decide +kernel
theorem d_L_law_288 : decode c_L_law 288 = .ok (.i2l, 1) := by decide +kernel
theorem d_L_law_289 : decode c_L_law 289 = .ok (.bipush 32, 2) := by decide +kernel
theorem d_L_law_291 : decode c_L_law 291 = .ok (.lshl, 1) := by decide +kernel
theorem d_L_law_292 : decode c_L_law 292 = .ok (.aload_n 0, 1) := by decide +kernel
theorem d_L_law_293 : decode c_L_law 293 = .ok (.iload_n 3, 1) := by decide +kernel
theorem d_L_law_294 : decode c_L_law 294 = .ok (.iconst 3, 1) := by decide +kernel
theorem d_L_law_295 : decode c_L_law 295 = .ok (.iadd, 1) := by decide +kernel
theorem d_L_law_296 : decode c_L_law 296 = .ok (.iaload, 1) := by decide +kernel
theorem d_L_law_297 : decode c_L_law 297 = .ok (.i2l, 1) := by decide +kernel
theorem d_L_law_298 : decode c_L_law 298 = .ok (.ldc2_w 40, 3) := by decide +kernel
theorem d_L_law_301 : decode c_L_law 301 = .ok (.land, 1) := by decide +kernel
theorem d_L_law_302 : decode c_L_law 302 = .ok (.lor, 1) := by decide +kernel
theorem d_L_law_303 : decode c_L_law 303 = .ok (.invokevirtual 46, 3) := by decide +kernel
theorem d_L_law_306 : decode c_L_law 306 = .ok (.if_icmp .eq 316, 3) := by decide +kernel
theorem d_L_law_309 : decode c_L_law 309 = .ok (.iconst 0, 1) := by decide +kernel
theorem d_L_law_310 : decode c_L_law 310 = .ok (.ireturn, 1) := by decide +kernel
theorem d_L_law_311 : decode c_L_law 311 = .ok (.aload_n 1, 1) := by decide +kernel
theorem d_L_law_312 : decode c_L_law 312 = .ok (.aload_n 0, 1) := by decide +kernel
theorem d_L_law_313 : decode c_L_law 313 = .ok (.iload_n 3, 1) := by decide +kernel
theorem d_L_law_314 : decode c_L_law 314 = .ok (.iconst 1, 1) := by decide +kernel
theorem d_L_law_315 : decode c_L_law 315 = .ok (.iadd, 1) := by decide +kernel
theorem d_L_law_316 : decode c_L_law 316 = .ok (.iaload, 1) := by decide +kernel
theorem d_L_law_317 : decode c_L_law 317 = .ok (.aload_n 0, 1) := by decide +kernel
theorem d_L_law_318 : decode c_L_law 318 = .ok (.iload_n 3, 1) := by decide +kernel
theorem d_L_law_319 : decode c_L_law 319 = .ok (.iconst 2, 1) := by decide +kernel
theorem d_L_law_320 : decode c_L_law 320 = .ok (.iadd, 1) := by decide +kernel
theorem d_L_law_321 : decode c_L_law 321 = .ok (.iaload, 1) := by decide +kernel
theorem d_L_law_322 : decode c_L_law 322 = .ok (.invokevirtual 47, 3) := by decide +kernel
theorem d_L_law_325 : decode c_L_law 325 = .ok (.aload_n 2, 1) := by decide +kernel
theorem d_L_law_326 : decode c_L_law 326 = .ok (.aload_n 0, 1) := by decide +kernel
theorem d_L_law_327 : decode c_L_law 327 = .ok (.iload_n 3, 1) := by decide +kernel
theorem d_L_law_328 : decode c_L_law 328 = .ok (.iconst 1, 1) := by decide +kernel
theorem d_L_law_329 : decode c_L_law 329 = .ok (.iadd, 1) := by decide +kernel
theorem d_L_law_330 : decode c_L_law 330 = .ok (.iaload, 1) := by decide +kernel
theorem d_L_law_331 : decode c_L_law 331 = .ok (.aload_n 0, 1) := by decide +kernel
theorem d_L_law_332 : decode c_L_law 332 = .ok (.iload_n 3, 1) := by decide +kernel
theorem d_L_law_333 : decode c_L_law 333 = .ok (.iconst 2, 1) := by decide +kernel
theorem d_L_law_334 : decode c_L_law 334 = .ok (.iadd, 1) := by decide +kernel
theorem d_L_law_335 : decode c_L_law 335 = .ok (.iaload, 1) := by decide +kernel
theorem d_L_law_336 : decode c_L_law 336 = .ok (.invokevirtual 50, 3) := by decide +kernel
theorem d_L_law_339 : decode c_L_law 339 = .ok (.if_icmp .eq 283, 3) := by decide +kernel
theorem d_L_law_342 : decode c_L_law 342 = .ok (.iconst 0, 1) := by decide +kernel
theorem d_L_law_343 : decode c_L_law 343 = .ok (.ireturn, 1) := by decide +kernel
theorem d_L_law_344 : decode c_L_law 344 = .ok (.aload_n 1, 1) := by decide +kernel
theorem d_L_law_345 : decode c_L_law 345 = .ok (.aload_n 0, 1) := by decide +kernel
theorem d_L_law_346 : decode c_L_law 346 = .ok (.iload_n 3, 1) := by decide +kernel
theorem d_L_law_347 : decode c_L_law 347 = .ok (.iconst 1, 1) := by decide +kernel
theorem d_L_law_348 : decode c_L_law 348 = .ok (.iadd, 1) := by decide +kernel
theorem d_L_law_349 : decode c_L_law 349 = .ok (.iaload, 1) := by decide +kernel
theorem d_L_law_350 : decode c_L_law 350 = .ok (.aload_n 0, 1) := by decide +kernel
theorem d_L_law_351 : decode c_L_law 351 = .ok (.iload_n 3, 1) := by decide +kernel
theorem d_L_law_352 : decode c_L_law 352 = .ok (.iconst 2, 1) := by decide +kernel
theorem d_L_law_353 : decode c_L_law 353 = .ok (.iadd, 1) := by decide +kernel
theorem d_L_law_354 : decode c_L_law 354 = .ok (.iaload, 1) := by decide +kernel
theorem d_L_law_355 : decode c_L_law 355 = .ok (.invokevirtual 51, 3) := by decide +kernel
theorem d_L_law_358 : decode c_L_law 358 = .ok (.aload_n 2, 1) := by decide +kernel
theorem d_L_law_359 : decode c_L_law 359 = .ok (.aload_n 0, 1) := by decide +kernel
theorem d_L_law_360 : decode c_L_law 360 = .ok (.iload_n 3, 1) := by decide +kernel
theorem d_L_law_361 : decode c_L_law 361 = .ok (.iconst 1, 1) := by decide +kernel
theorem d_L_law_362 : decode c_L_law 362 = .ok (.iadd, 1) := by decide +kernel
theorem d_L_law_363 : decode c_L_law 363 = .ok (.iaload, 1) := by decide +kernel
theorem d_L_law_364 : decode c_L_law 364 = .ok (.aload_n 0, 1) := by decide +kernel
theorem d_L_law_365 : decode c_L_law 365 = .ok (.iload_n 3, 1) := by decide +kernel
theorem d_L_law_366 : decode c_L_law 366 = .ok (.iconst 2, 1) := by decide +kernel
theorem d_L_law_367 : decode c_L_law 367 = .ok (.iadd, 1) := by decide +kernel
theorem d_L_law_368 : decode c_L_law 368 = .ok (.iaload, 1) := by decide +kernel
theorem d_L_law_369 : decode c_L_law 369 = .ok (.invokevirtual 55, 3) := by decide +kernel
theorem d_L_law_372 : decode c_L_law 372 = .ok (.lcmp, 1) := by decide +kernel
theorem d_L_law_373 : decode c_L_law 373 = .ok (.ifCond .eq 249, 3) := by decide +kernel
theorem d_L_law_376 : decode c_L_law 376 = .ok (.iconst 0, 1) := by decide +kernel
theorem d_L_law_377 : decode c_L_law 377 = .ok (.ireturn, 1) := by decide +kernel
theorem d_L_law_378 : decode c_L_law 378 = .ok (.aload_n 1, 1) := by decide +kernel
theorem d_L_law_379 : decode c_L_law 379 = .ok (.aload_n 0, 1) := by decide +kernel
theorem d_L_law_380 : decode c_L_law 380 = .ok (.iload_n 3, 1) := by decide +kernel
theorem d_L_law_381 : decode c_L_law 381 = .ok (.iconst 1, 1) := by decide +kernel
theorem d_L_law_382 : decode c_L_law 382 = .ok (.iadd, 1) := by decide +kernel
theorem d_L_law_383 : decode c_L_law 383 = .ok (.iaload, 1) := by decide +kernel
theorem d_L_law_384 : decode c_L_law 384 = .ok (.aload_n 0, 1) := by decide +kernel
theorem d_L_law_385 : decode c_L_law 385 = .ok (.iload_n 3, 1) := by decide +kernel
theorem d_L_law_386 : decode c_L_law 386 = .ok (.iconst 2, 1) := by decide +kernel
theorem d_L_law_387 : decode c_L_law 387 = .ok (.iadd, 1) := by decide +kernel
theorem d_L_law_388 : decode c_L_law 388 = .ok (.iaload, 1) := by decide +kernel
theorem d_L_law_389 : decode c_L_law 389 = .ok (.invokevirtual 56, 3) := by decide +kernel
theorem d_L_law_392 : decode c_L_law 392 = .ok (.aload_n 2, 1) := by decide +kernel
theorem d_L_law_393 : decode c_L_law 393 = .ok (.aload_n 0, 1) := by decide +kernel
theorem d_L_law_394 : decode c_L_law 394 = .ok (.iload_n 3, 1) := by decide +kernel
theorem d_L_law_395 : decode c_L_law 395 = .ok (.iconst 1, 1) := by decide +kernel
theorem d_L_law_396 : decode c_L_law 396 = .ok (.iadd, 1) := by decide +kernel
theorem d_L_law_397 : decode c_L_law 397 = .ok (.iaload, 1) := by decide +kernel
theorem d_L_law_398 : decode c_L_law 398 = .ok (.aload_n 0, 1) := by decide +kernel
theorem d_L_law_399 : decode c_L_law 399 = .ok (.iload_n 3, 1) := by decide +kernel
theorem d_L_law_400 : decode c_L_law 400 = .ok (.iconst 2, 1) := by decide +kernel
theorem d_L_law_401 : decode c_L_law 401 = .ok (.iadd, 1) := by decide +kernel
theorem d_L_law_402 : decode c_L_law 402 = .ok (.iaload, 1) := by decide +kernel
theorem d_L_law_403 : decode c_L_law 403 = .ok (.invokevirtual 59, 3) := by decide +kernel
theorem d_L_law_406 : decode c_L_law 406 = .ok (.if_icmp .eq 216, 3) := by decide +kernel
theorem d_L_law_409 : decode c_L_law 409 = .ok (.iconst 0, 1) := by decide +kernel
theorem d_L_law_410 : decode c_L_law 410 = .ok (.ireturn, 1) := by decide +kernel
theorem d_L_law_411 : decode c_L_law 411 = .ok (.aload_n 1, 1) := by decide +kernel
theorem d_L_law_412 : decode c_L_law 412 = .ok (.aload_n 0, 1) := by decide +kernel
theorem d_L_law_413 : decode c_L_law 413 = .ok (.iload_n 3, 1) := by decide +kernel
theorem d_L_law_414 : decode c_L_law 414 = .ok (.iconst 1, 1) := by decide +kernel
theorem d_L_law_415 : decode c_L_law 415 = .ok (.iadd, 1) := by decide +kernel
theorem d_L_law_416 : decode c_L_law 416 = .ok (.iaload, 1) := by decide +kernel
theorem d_L_law_417 : decode c_L_law 417 = .ok (.invokevirtual 60, 3) := by decide +kernel
theorem d_L_law_420 : decode c_L_law 420 = .ok (.aload_n 2, 1) := by decide +kernel
theorem d_L_law_421 : decode c_L_law 421 = .ok (.aload_n 0, 1) := by decide +kernel
theorem d_L_law_422 : decode c_L_law 422 = .ok (.iload_n 3, 1) := by decide +kernel
theorem d_L_law_423 : decode c_L_law 423 = .ok (.iconst 1, 1) := by decide +kernel
theorem d_L_law_424 : decode c_L_law 424 = .ok (.iadd, 1) := by decide +kernel
theorem d_L_law_425 : decode c_L_law 425 = .ok (.iaload, 1) := by decide +kernel
theorem d_L_law_426 : decode c_L_law 426 = .ok (.invokevirtual 64, 3) := by decide +kernel
theorem d_L_law_429 : decode c_L_law 429 = .ok (.if_icmp .eq 193, 3) := by decide +kernel
theorem d_L_law_432 : decode c_L_law 432 = .ok (.iconst 0, 1) := by decide +kernel
theorem d_L_law_433 : decode c_L_law 433 = .ok (.ireturn, 1) := by decide +kernel
theorem d_L_law_434 : decode c_L_law 434 = .ok (.aload_n 1, 1) := by decide +kernel
theorem d_L_law_435 : decode c_L_law 435 = .ok (.aload_n 0, 1) := by decide +kernel
theorem d_L_law_436 : decode c_L_law 436 = .ok (.iload_n 3, 1) := by decide +kernel
theorem d_L_law_437 : decode c_L_law 437 = .ok (.iconst 1, 1) := by decide +kernel
theorem d_L_law_438 : decode c_L_law 438 = .ok (.iadd, 1) := by decide +kernel
theorem d_L_law_439 : decode c_L_law 439 = .ok (.iaload, 1) := by decide +kernel
theorem d_L_law_440 : decode c_L_law 440 = .ok (.aload_n 0, 1) := by decide +kernel
theorem d_L_law_441 : decode c_L_law 441 = .ok (.iload_n 3, 1) := by decide +kernel
theorem d_L_law_442 : decode c_L_law 442 = .ok (.iconst 2, 1) := by decide +kernel
theorem d_L_law_443 : decode c_L_law 443 = .ok (.iadd, 1) := by decide +kernel
theorem d_L_law_444 : decode c_L_law 444 = .ok (.iaload, 1) := by decide +kernel
theorem d_L_law_445 : decode c_L_law 445 = .ok (.aload_n 0, 1) := by decide +kernel
theorem d_L_law_446 : decode c_L_law 446 = .ok (.iload_n 3, 1) := by decide +kernel
theorem d_L_law_447 : decode c_L_law 447 = .ok (.iconst 3, 1) := by decide +kernel
theorem d_L_law_448 : decode c_L_law 448 = .ok (.iadd, 1) := by decide +kernel
theorem d_L_law_449 : decode c_L_law 449 = .ok (.iaload, 1) := by decide +kernel
theorem d_L_law_450 : decode c_L_law 450 = .ok (.invokevirtual 65, 3) := by decide +kernel
theorem d_L_law_453 : decode c_L_law 453 = .ok (.aload_n 2, 1) := by decide +kernel
theorem d_L_law_454 : decode c_L_law 454 = .ok (.aload_n 0, 1) := by decide +kernel
theorem d_L_law_455 : decode c_L_law 455 = .ok (.iload_n 3, 1) := by decide +kernel
theorem d_L_law_456 : decode c_L_law 456 = .ok (.iconst 1, 1) := by decide +kernel
theorem d_L_law_457 : decode c_L_law 457 = .ok (.iadd, 1) := by decide +kernel
theorem d_L_law_458 : decode c_L_law 458 = .ok (.iaload, 1) := by decide +kernel
theorem d_L_law_459 : decode c_L_law 459 = .ok (.aload_n 0, 1) := by decide +kernel
theorem d_L_law_460 : decode c_L_law 460 = .ok (.iload_n 3, 1) := by decide +kernel
theorem d_L_law_461 : decode c_L_law 461 = .ok (.iconst 2, 1) := by decide +kernel
theorem d_L_law_462 : decode c_L_law 462 = .ok (.iadd, 1) := by decide +kernel
theorem d_L_law_463 : decode c_L_law 463 = .ok (.iaload, 1) := by decide +kernel
theorem d_L_law_464 : decode c_L_law 464 = .ok (.aload_n 0, 1) := by decide +kernel
theorem d_L_law_465 : decode c_L_law 465 = .ok (.iload_n 3, 1) := by decide +kernel
theorem d_L_law_466 : decode c_L_law 466 = .ok (.iconst 3, 1) := by decide +kernel
theorem d_L_law_467 : decode c_L_law 467 = .ok (.iadd, 1) := by decide +kernel
theorem d_L_law_468 : decode c_L_law 468 = .ok (.iaload, 1) := by decide +kernel
theorem d_L_law_469 : decode c_L_law 469 = .ok (.invokevirtual 68, 3) := by decide +kernel
theorem d_L_law_472 : decode c_L_law 472 = .ok (.if_icmp .eq 150, 3) := by decide +kernel
theorem d_L_law_475 : decode c_L_law 475 = .ok (.iconst 0, 1) := by decide +kernel
theorem d_L_law_476 : decode c_L_law 476 = .ok (.ireturn, 1) := by decide +kernel
theorem d_L_law_477 : decode c_L_law 477 = .ok (.aload_n 1, 1) := by decide +kernel
theorem d_L_law_478 : decode c_L_law 478 = .ok (.aload_n 0, 1) := by decide +kernel
theorem d_L_law_479 : decode c_L_law 479 = .ok (.iload_n 3, 1) := by decide +kernel
theorem d_L_law_480 : decode c_L_law 480 = .ok (.iconst 1, 1) := by decide +kernel
theorem d_L_law_481 : decode c_L_law 481 = .ok (.iadd, 1) := by decide +kernel
theorem d_L_law_482 : decode c_L_law 482 = .ok (.iaload, 1) := by decide +kernel
theorem d_L_law_483 : decode c_L_law 483 = .ok (.invokevirtual 69, 3) := by decide +kernel
theorem d_L_law_486 : decode c_L_law 486 = .ok (.aload_n 2, 1) := by decide +kernel
theorem d_L_law_487 : decode c_L_law 487 = .ok (.aload_n 0, 1) := by decide +kernel
theorem d_L_law_488 : decode c_L_law 488 = .ok (.iload_n 3, 1) := by decide +kernel
theorem d_L_law_489 : decode c_L_law 489 = .ok (.iconst 1, 1) := by decide +kernel
theorem d_L_law_490 : decode c_L_law 490 = .ok (.iadd, 1) := by decide +kernel
theorem d_L_law_491 : decode c_L_law 491 = .ok (.iaload, 1) := by decide +kernel
theorem d_L_law_492 : decode c_L_law 492 = .ok (.invokevirtual 72, 3) := by decide +kernel
theorem d_L_law_495 : decode c_L_law 495 = .ok (.if_icmp .eq 127, 3) := by decide +kernel
theorem d_L_law_498 : decode c_L_law 498 = .ok (.iconst 0, 1) := by decide +kernel
theorem d_L_law_499 : decode c_L_law 499 = .ok (.ireturn, 1) := by decide +kernel
theorem d_L_law_500 : decode c_L_law 500 = .ok (.aload_n 1, 1) := by decide +kernel
theorem d_L_law_501 : decode c_L_law 501 = .ok (.aload_n 0, 1) := by decide +kernel
theorem d_L_law_502 : decode c_L_law 502 = .ok (.iload_n 3, 1) := by decide +kernel
theorem d_L_law_503 : decode c_L_law 503 = .ok (.iconst 1, 1) := by decide +kernel
theorem d_L_law_504 : decode c_L_law 504 = .ok (.iadd, 1) := by decide +kernel
theorem d_L_law_505 : decode c_L_law 505 = .ok (.iaload, 1) := by decide +kernel
theorem d_L_law_506 : decode c_L_law 506 = .ok (.aload_n 0, 1) := by decide +kernel
theorem d_L_law_507 : decode c_L_law 507 = .ok (.iload_n 3, 1) := by decide +kernel
theorem d_L_law_508 : decode c_L_law 508 = .ok (.iconst 2, 1) := by decide +kernel
theorem d_L_law_509 : decode c_L_law 509 = .ok (.iadd, 1) := by decide +kernel
theorem d_L_law_510 : decode c_L_law 510 = .ok (.iaload, 1) := by decide +kernel
theorem d_L_law_511 : decode c_L_law 511 = .ok (.invokevirtual 73, 3) := by decide +kernel
theorem d_L_law_514 : decode c_L_law 514 = .ok (.aload_n 2, 1) := by decide +kernel
theorem d_L_law_515 : decode c_L_law 515 = .ok (.aload_n 0, 1) := by decide +kernel
theorem d_L_law_516 : decode c_L_law 516 = .ok (.iload_n 3, 1) := by decide +kernel
theorem d_L_law_517 : decode c_L_law 517 = .ok (.iconst 1, 1) := by decide +kernel
theorem d_L_law_518 : decode c_L_law 518 = .ok (.iadd, 1) := by decide +kernel
theorem d_L_law_519 : decode c_L_law 519 = .ok (.iaload, 1) := by decide +kernel
theorem d_L_law_520 : decode c_L_law 520 = .ok (.aload_n 0, 1) := by decide +kernel
theorem d_L_law_521 : decode c_L_law 521 = .ok (.iload_n 3, 1) := by decide +kernel
theorem d_L_law_522 : decode c_L_law 522 = .ok (.iconst 2, 1) := by decide +kernel
theorem d_L_law_523 : decode c_L_law 523 = .ok (.iadd, 1) := by decide +kernel
theorem d_L_law_524 : decode c_L_law 524 = .ok (.iaload, 1) := by decide +kernel
theorem d_L_law_525 : decode c_L_law 525 = .ok (.invokevirtual 76, 3) := by decide +kernel
theorem d_L_law_528 : decode c_L_law 528 = .ok (.if_icmp .eq 94, 3) := by decide +kernel
theorem d_L_law_531 : decode c_L_law 531 = .ok (.iconst 0, 1) := by decide +kernel
theorem d_L_law_532 : decode c_L_law 532 = .ok (.ireturn, 1) := by decide +kernel
theorem d_L_law_533 : decode c_L_law 533 = .ok (.aload_n 1, 1) := by decide +kernel
theorem d_L_law_534 : decode c_L_law 534 = .ok (.aload_n 0, 1) := by decide +kernel
theorem d_L_law_535 : decode c_L_law 535 = .ok (.iload_n 3, 1) := by decide +kernel
theorem d_L_law_536 : decode c_L_law 536 = .ok (.iconst 1, 1) := by decide +kernel
theorem d_L_law_537 : decode c_L_law 537 = .ok (.iadd, 1) := by decide +kernel
theorem d_L_law_538 : decode c_L_law 538 = .ok (.iaload, 1) := by decide +kernel
theorem d_L_law_539 : decode c_L_law 539 = .ok (.invokevirtual 77, 3) := by decide +kernel
theorem d_L_law_542 : decode c_L_law 542 = .ok (.aload_n 2, 1) := by decide +kernel
theorem d_L_law_543 : decode c_L_law 543 = .ok (.aload_n 0, 1) := by decide +kernel
theorem d_L_law_544 : decode c_L_law 544 = .ok (.iload_n 3, 1) := by decide +kernel
theorem d_L_law_545 : decode c_L_law 545 = .ok (.iconst 1, 1) := by decide +kernel
theorem d_L_law_546 : decode c_L_law 546 = .ok (.iadd, 1) := by decide +kernel
theorem d_L_law_547 : decode c_L_law 547 = .ok (.iaload, 1) := by decide +kernel
theorem d_L_law_548 : decode c_L_law 548 = .ok (.invokevirtual 80, 3) := by decide +kernel
theorem d_L_law_551 : decode c_L_law 551 = .ok (.if_icmp .eq 71, 3) := by decide +kernel
theorem d_L_law_554 : decode c_L_law 554 = .ok (.iconst 0, 1) := by decide +kernel
theorem d_L_law_555 : decode c_L_law 555 = .ok (.ireturn, 1) := by decide +kernel
theorem d_L_law_556 : decode c_L_law 556 = .ok (.aload_n 1, 1) := by decide +kernel
theorem d_L_law_557 : decode c_L_law 557 = .ok (.aload_n 0, 1) := by decide +kernel
theorem d_L_law_558 : decode c_L_law 558 = .ok (.iload_n 3, 1) := by decide +kernel
theorem d_L_law_559 : decode c_L_law 559 = .ok (.iconst 1, 1) := by decide +kernel
theorem d_L_law_560 : decode c_L_law 560 = .ok (.iadd, 1) := by decide +kernel
theorem d_L_law_561 : decode c_L_law 561 = .ok (.iaload, 1) := by decide +kernel
theorem d_L_law_562 : decode c_L_law 562 = .ok (.aload_n 0, 1) := by decide +kernel
theorem d_L_law_563 : decode c_L_law 563 = .ok (.iload_n 3, 1) := by decide +kernel
theorem d_L_law_564 : decode c_L_law 564 = .ok (.iconst 2, 1) := by decide +kernel
theorem d_L_law_565 : decode c_L_law 565 = .ok (.iadd, 1) := by decide +kernel
theorem d_L_law_566 : decode c_L_law 566 = .ok (.iaload, 1) := by decide +kernel
theorem d_L_law_567 : decode c_L_law 567 = .ok (.invokevirtual 81, 3) := by decide +kernel
theorem d_L_law_570 : decode c_L_law 570 = .ok (.aload_n 2, 1) := by decide +kernel
theorem d_L_law_571 : decode c_L_law 571 = .ok (.aload_n 0, 1) := by decide +kernel
theorem d_L_law_572 : decode c_L_law 572 = .ok (.iload_n 3, 1) := by decide +kernel
theorem d_L_law_573 : decode c_L_law 573 = .ok (.iconst 1, 1) := by decide +kernel
theorem d_L_law_574 : decode c_L_law 574 = .ok (.iadd, 1) := by decide +kernel
theorem d_L_law_575 : decode c_L_law 575 = .ok (.iaload, 1) := by decide +kernel
theorem d_L_law_576 : decode c_L_law 576 = .ok (.aload_n 0, 1) := by decide +kernel
theorem d_L_law_577 : decode c_L_law 577 = .ok (.iload_n 3, 1) := by decide +kernel
theorem d_L_law_578 : decode c_L_law 578 = .ok (.iconst 2, 1) := by decide +kernel
theorem d_L_law_579 : decode c_L_law 579 = .ok (.iadd, 1) := by decide +kernel
theorem d_L_law_580 : decode c_L_law 580 = .ok (.iaload, 1) := by decide +kernel
theorem d_L_law_581 : decode c_L_law 581 = .ok (.invokevirtual 83, 3) := by decide +kernel
theorem d_L_law_584 : decode c_L_law 584 = .ok (.if_icmp .eq 38, 3) := by decide +kernel
theorem d_L_law_587 : decode c_L_law 587 = .ok (.iconst 0, 1) := by decide +kernel
theorem d_L_law_588 : decode c_L_law 588 = .ok (.ireturn, 1) := by decide +kernel
theorem d_L_law_589 : decode c_L_law 589 = .ok (.aload_n 1, 1) := by decide +kernel
theorem d_L_law_590 : decode c_L_law 590 = .ok (.aload_n 0, 1) := by decide +kernel
theorem d_L_law_591 : decode c_L_law 591 = .ok (.iload_n 3, 1) := by decide +kernel
theorem d_L_law_592 : decode c_L_law 592 = .ok (.iconst 1, 1) := by decide +kernel
theorem d_L_law_593 : decode c_L_law 593 = .ok (.iadd, 1) := by decide +kernel
theorem d_L_law_594 : decode c_L_law 594 = .ok (.iaload, 1) := by decide +kernel
theorem d_L_law_595 : decode c_L_law 595 = .ok (.aload_n 0, 1) := by decide +kernel
theorem d_L_law_596 : decode c_L_law 596 = .ok (.iload_n 3, 1) := by decide +kernel
theorem d_L_law_597 : decode c_L_law 597 = .ok (.iconst 2, 1) := by decide +kernel
theorem d_L_law_598 : decode c_L_law 598 = .ok (.iadd, 1) := by decide +kernel
theorem d_L_law_599 : decode c_L_law 599 = .ok (.iaload, 1) := by decide +kernel
theorem d_L_law_600 : decode c_L_law 600 = .ok (.invokevirtual 84, 3) := by decide +kernel
theorem d_L_law_603 : decode c_L_law 603 = .ok (.aload_n 2, 1) := by decide +kernel
theorem d_L_law_604 : decode c_L_law 604 = .ok (.aload_n 0, 1) := by decide +kernel
theorem d_L_law_605 : decode c_L_law 605 = .ok (.iload_n 3, 1) := by decide +kernel
theorem d_L_law_606 : decode c_L_law 606 = .ok (.iconst 1, 1) := by decide +kernel
theorem d_L_law_607 : decode c_L_law 607 = .ok (.iadd, 1) := by decide +kernel
theorem d_L_law_608 : decode c_L_law 608 = .ok (.iaload, 1) := by decide +kernel
theorem d_L_law_609 : decode c_L_law 609 = .ok (.aload_n 0, 1) := by decide +kernel
theorem d_L_law_610 : decode c_L_law 610 = .ok (.iload_n 3, 1) := by decide +kernel
theorem d_L_law_611 : decode c_L_law 611 = .ok (.iconst 2, 1) := by decide +kernel
theorem d_L_law_612 : decode c_L_law 612 = .ok (.iadd, 1) := by decide +kernel
theorem d_L_law_613 : decode c_L_law 613 = .ok (.iaload, 1) := by decide +kernel
theorem d_L_law_614 : decode c_L_law 614 = .ok (.invokevirtual 87, 3) := by decide +kernel
theorem d_L_law_617 : decode c_L_law 617 = .ok (.if_icmp .eq 5, 3) := by decide +kernel
theorem d_L_law_620 : decode c_L_law 620 = .ok (.iconst 0, 1) := by decide +kernel
theorem d_L_law_621 : decode c_L_law 621 = .ok (.ireturn, 1) := by decide +kernel
theorem d_L_law_622 : decode c_L_law 622 = .ok (.iinc 3 4, 3) := by decide +kernel
theorem d_L_law_625 : decode c_L_law 625 = .ok (.goto (-597), 3) := by decide +kernel
theorem d_L_law_628 : decode c_L_law 628 = .ok (.iconst 1, 1) := by decide +kernel
theorem d_L_law_629 : decode c_L_law 629 = .ok (.ireturn, 1) := by decide +kernel
abbrev c_A_fill : ByteArray := prog_9_method_103_code
def y_A_fill : MethodName := ⟨R_A, "fill", "([II)V"⟩
def w_A_fill : List Cond := .code y_A_fill c_A_fill 4 (none) :: gT
theorem k_A_fill : Cond.code y_A_fill c_A_fill 4 (none) ∈ gT := gT_t (i := 30) (by decide +kernel) rfl
theorem hd_A_fill : y_A_fill.cls = R_A ∧ y_A_fill.cls ≠ "java/lang/invoke/MethodHandle" ∧ y_A_fill.cls ≠ "java/lang/invoke/VarHandle" ∧ (parseMethodDescriptor y_A_fill.desc).map (fun d => d.parameters.length) = some 2 := by decide +kernel
theorem d_A_fill_0 : decode c_A_fill 0 = .ok (.iconst 0, 1) := by decide +kernel
theorem d_A_fill_1 : decode c_A_fill 1 = .ok (.istore_n 2, 1) := by decide +kernel
theorem d_A_fill_2 : decode c_A_fill 2 = .ok (.aload_n 0, 1) := by decide +kernel
theorem d_A_fill_3 : decode c_A_fill 3 = .ok (.arraylength, 1) := by decide +kernel
theorem d_A_fill_4 : decode c_A_fill 4 = .ok (.istore_n 3, 1) := by decide +kernel
theorem d_A_fill_5 : decode c_A_fill 5 = .ok (.iload_n 2, 1) := by decide +kernel
theorem d_A_fill_6 : decode c_A_fill 6 = .ok (.iload_n 3, 1) := by decide +kernel
theorem d_A_fill_7 : decode c_A_fill 7 = .ok (.if_icmp .ge 13, 3) := by decide +kernel
theorem d_A_fill_10 : decode c_A_fill 10 = .ok (.aload_n 0, 1) := by decide +kernel
theorem d_A_fill_11 : decode c_A_fill 11 = .ok (.iload_n 2, 1) := by decide +kernel
theorem d_A_fill_12 : decode c_A_fill 12 = .ok (.iload_n 1, 1) := by decide +kernel
theorem d_A_fill_13 : decode c_A_fill 13 = .ok (.iastore, 1) := by decide +kernel
theorem d_A_fill_14 : decode c_A_fill 14 = .ok (.iinc 2 1, 3) := by decide +kernel
theorem d_A_fill_17 : decode c_A_fill 17 = .ok (.goto (-12), 3) := by decide +kernel
theorem d_A_fill_20 : decode c_A_fill 20 = .ok (.return_, 1) := by decide +kernel
theorem m_11 : (Cond.methodLink R_L (15) y_T_init) ∈ gT := gT_t (i := 11) (by decide +kernel) rfl
theorem m_14 : (Cond.methodLink R_T (1) ({ cls := "java/lang/Object", name := "<init>", desc := "()V" } : MethodName)) ∈ gT := gT_t (i := 14) (by decide +kernel) rfl
theorem m_19 : (Cond.methodLink R_T (15) y_H_init) ∈ gT := gT_t (i := 19) (by decide +kernel) rfl
theorem m_22 : (Cond.methodLink R_H (3) ({ cls := "java/lang/Object", name := "<init>", desc := "()V" } : MethodName)) ∈ gT := gT_t (i := 22) (by decide +kernel) rfl
theorem m_25 : (Cond.methodLink R_H (21) y_V_howMany) ∈ gT := gT_t (i := 25) (by decide +kernel) rfl
theorem m_28 : (Cond.methodLink R_H (31) y_A_fill) ∈ gT := gT_t (i := 28) (by decide +kernel) rfl
theorem m_45 : (Cond.methodLink R_T (28) y_K_init) ∈ gT := gT_t (i := 45) (by decide +kernel) rfl
theorem m_48 : (Cond.methodLink R_K (3) ({ cls := "java/lang/Object", name := "<init>", desc := "()V" } : MethodName)) ∈ gT := gT_t (i := 48) (by decide +kernel) rfl
theorem m_49 : (Cond.methodLink R_K (26) y_A_fill) ∈ gT := gT_t (i := 49) (by decide +kernel) rfl
theorem m_94 : (Cond.methodLink R_L (21) y_T_sites) ∈ gT := gT_t (i := 94) (by decide +kernel) rfl
theorem m_98 : (Cond.methodLink R_L (26) y_T_insert) ∈ gT := gT_t (i := 98) (by decide +kernel) rfl
theorem m_102 : (Cond.methodLink R_T (29) y_T_isSite) ∈ gT := gT_t (i := 102) (by decide +kernel) rfl
theorem m_106 : (Cond.methodLink R_T (33) y_K_positionForInsert) ∈ gT := gT_t (i := 106) (by decide +kernel) rfl
theorem m_110 : (Cond.methodLink R_K (72) y_K_visibleCount) ∈ gT := gT_t (i := 110) (by decide +kernel) rfl
theorem m_114 : (Cond.methodLink R_K (75) y_K_cellOfVisible) ∈ gT := gT_t (i := 114) (by decide +kernel) rfl
theorem m_118 : (Cond.methodLink R_T (37) y_T_make) ∈ gT := gT_t (i := 118) (by decide +kernel) rfl
theorem m_122 : (Cond.methodLink R_T (59) y_V_count) ∈ gT := gT_t (i := 122) (by decide +kernel) rfl
theorem m_127 : (Cond.methodLink R_T (114) y_O_init) ∈ gT := gT_t (i := 127) (by decide +kernel) rfl
theorem m_130 : (Cond.methodLink R_O (3) ({ cls := "java/lang/Object", name := "<init>", desc := "()V" } : MethodName)) ∈ gT := gT_t (i := 130) (by decide +kernel) rfl
theorem m_155 : (Cond.methodLink R_T (117) y_H_add) ∈ gT := gT_t (i := 155) (by decide +kernel) rfl
theorem m_159 : (Cond.methodLink R_H (37) y_O_index) ∈ gT := gT_t (i := 159) (by decide +kernel) rfl
theorem m_163 : (Cond.methodLink R_T (121) y_K_execute) ∈ gT := gT_t (i := 163) (by decide +kernel) rfl
theorem m_167 : (Cond.methodLink R_K (41) y_O_isInsert) ∈ gT := gT_t (i := 167) (by decide +kernel) rfl
theorem m_171 : (Cond.methodLink R_K (48) y_K_putCell) ∈ gT := gT_t (i := 171) (by decide +kernel) rfl
theorem m_175 : (Cond.methodLink R_K (52) y_K_hideCell) ∈ gT := gT_t (i := 175) (by decide +kernel) rfl
theorem m_179 : (Cond.methodLink R_K (32) y_O_index) ∈ gT := gT_t (i := 179) (by decide +kernel) rfl
theorem m_180 : (Cond.methodLink R_K (60) y_V_withOneMore) ∈ gT := gT_t (i := 180) (by decide +kernel) rfl
theorem m_183 : (Cond.methodLink R_L (31) y_T_erase) ∈ gT := gT_t (i := 183) (by decide +kernel) rfl
theorem m_187 : (Cond.methodLink R_T (41) y_K_cellOfVisible) ∈ gT := gT_t (i := 187) (by decide +kernel) rfl
theorem m_188 : (Cond.methodLink R_L (36) y_T_deliver) ∈ gT := gT_t (i := 188) (by decide +kernel) rfl
theorem m_192 : (Cond.methodLink R_T (44) y_H_find) ∈ gT := gT_t (i := 192) (by decide +kernel) rfl
theorem m_196 : (Cond.methodLink R_T (48) y_T_receive) ∈ gT := gT_t (i := 196) (by decide +kernel) rfl
theorem m_200 : (Cond.methodLink R_T (88) y_O_index) ∈ gT := gT_t (i := 200) (by decide +kernel) rfl
theorem m_201 : (Cond.methodLink R_T (130) y_K_noteArrival) ∈ gT := gT_t (i := 201) (by decide +kernel) rfl
theorem m_205 : (Cond.methodLink R_T (133) y_T_firstReady) ∈ gT := gT_t (i := 205) (by decide +kernel) rfl
theorem m_209 : (Cond.methodLink R_T (144) y_V_covers) ∈ gT := gT_t (i := 209) (by decide +kernel) rfl
theorem m_212 : (Cond.methodLink R_V (9) y_V_count) ∈ gT := gT_t (i := 212) (by decide +kernel) rfl
theorem m_217 : (Cond.methodLink R_H (66) y_H_latestUnknownTo) ∈ gT := gT_t (i := 217) (by decide +kernel) rfl
theorem m_221 : (Cond.methodLink R_H (81) y_H_last) ∈ gT := gT_t (i := 221) (by decide +kernel) rfl
theorem m_225 : (Cond.methodLink R_H (53) y_V_count) ∈ gT := gT_t (i := 225) (by decide +kernel) rfl
theorem m_226 : (Cond.methodLink R_H (45) y_H_find) ∈ gT := gT_t (i := 226) (by decide +kernel) rfl
theorem m_227 : (Cond.methodLink R_H (84) y_H_isIn) ∈ gT := gT_t (i := 227) (by decide +kernel) rfl
theorem m_230 : (Cond.methodLink R_H (88) y_H_isInContextOfAny) ∈ gT := gT_t (i := 230) (by decide +kernel) rfl
theorem m_234 : (Cond.methodLink R_H (70) y_V_withOneLess) ∈ gT := gT_t (i := 234) (by decide +kernel) rfl
theorem m_237 : (Cond.methodLink R_H (73) y_H_placeFor) ∈ gT := gT_t (i := 237) (by decide +kernel) rfl
theorem m_238 : (Cond.methodLink R_H (77) y_O_movedPast) ∈ gT := gT_t (i := 238) (by decide +kernel) rfl
theorem m_242 : (Cond.methodLink R_O (27) y_O_isInsert) ∈ gT := gT_t (i := 242) (by decide +kernel) rfl
theorem m_243 : (Cond.methodLink R_L (42) y_T_arrive) ∈ gT := gT_t (i := 243) (by decide +kernel) rfl
theorem m_247 : (Cond.methodLink R_T (52) y_H_findByCode) ∈ gT := gT_t (i := 247) (by decide +kernel) rfl
theorem m_253 : (Cond.methodLink R_H (49) y_O_toCode) ∈ gT := gT_t (i := 253) (by decide +kernel) rfl
theorem m_257 : (Cond.methodLink R_O (31) y_V_count) ∈ gT := gT_t (i := 257) (by decide +kernel) rfl
theorem m_258 : (Cond.methodLink R_L (47) y_T_sync) ∈ gT := gT_t (i := 258) (by decide +kernel) rfl
theorem m_262 : (Cond.methodLink R_T (65) ({ cls := "java/lang/Math", name := "max", desc := "(II)I" } : MethodName)) ∈ gT := gT_t (i := 262) (by decide +kernel) rfl
theorem m_265 : (Cond.methodLink R_L (51) y_T_code) ∈ gT := gT_t (i := 265) (by decide +kernel) rfl
theorem m_270 : (Cond.methodLink R_T (72) y_O_toCode) ∈ gT := gT_t (i := 270) (by decide +kernel) rfl
theorem m_271 : (Cond.methodLink R_L (56) y_T_executed) ∈ gT := gT_t (i := 271) (by decide +kernel) rfl
theorem m_275 : (Cond.methodLink R_L (60) y_T_waiting) ∈ gT := gT_t (i := 275) (by decide +kernel) rfl
theorem m_279 : (Cond.methodLink R_L (65) y_T_place) ∈ gT := gT_t (i := 279) (by decide +kernel) rfl
theorem m_283 : (Cond.methodLink R_L (69) y_T_length) ∈ gT := gT_t (i := 283) (by decide +kernel) rfl
theorem m_287 : (Cond.methodLink R_T (92) y_K_visibleCount) ∈ gT := gT_t (i := 287) (by decide +kernel) rfl
theorem m_288 : (Cond.methodLink R_L (73) y_T_at) ∈ gT := gT_t (i := 288) (by decide +kernel) rfl
theorem m_292 : (Cond.methodLink R_L (77) y_T_cells) ∈ gT := gT_t (i := 292) (by decide +kernel) rfl
theorem m_296 : (Cond.methodLink R_L (81) y_T_cell) ∈ gT := gT_t (i := 296) (by decide +kernel) rfl
theorem m_300 : (Cond.methodLink R_L (84) y_T_stable) ∈ gT := gT_t (i := 300) (by decide +kernel) rfl
theorem m_304 : (Cond.methodLink R_T (101) y_H_last) ∈ gT := gT_t (i := 304) (by decide +kernel) rfl
theorem m_305 : (Cond.methodLink R_T (104) y_T_toldBy) ∈ gT := gT_t (i := 305) (by decide +kernel) rfl
theorem m_308 : (Cond.methodLink R_T (108) ({ cls := "java/lang/Math", name := "min", desc := "(II)I" } : MethodName)) ∈ gT := gT_t (i := 308) (by decide +kernel) rfl
theorem m_311 : (Cond.methodLink R_L (9) y_L_cell) ∈ gT := gT_t (i := 311) (by decide +kernel) rfl
theorem m_316 : (Cond.methodLink R_L (20) y_M_init) ∈ gT := gT_t (i := 316) (by decide +kernel) rfl
theorem m_319 : (Cond.methodLink R_M (1) ({ cls := "java/lang/Object", name := "<init>", desc := "()V" } : MethodName)) ∈ gT := gT_t (i := 319) (by decide +kernel) rfl
theorem m_366 : (Cond.methodLink R_L (25) y_M_sites) ∈ gT := gT_t (i := 366) (by decide +kernel) rfl
theorem m_370 : (Cond.methodLink R_L (30) y_M_insert) ∈ gT := gT_t (i := 370) (by decide +kernel) rfl
theorem m_374 : (Cond.methodLink R_M (57) y_M_isSite) ∈ gT := gT_t (i := 374) (by decide +kernel) rfl
theorem m_378 : (Cond.methodLink R_M (101) y_M_length) ∈ gT := gT_t (i := 378) (by decide +kernel) rfl
theorem m_382 : (Cond.methodLink R_M (104) y_M_cellOf) ∈ gT := gT_t (i := 382) (by decide +kernel) rfl
theorem m_386 : (Cond.methodLink R_M (107) y_M_make) ∈ gT := gT_t (i := 386) (by decide +kernel) rfl
theorem m_390 : (Cond.methodLink R_M (97) y_M_execute) ∈ gT := gT_t (i := 390) (by decide +kernel) rfl
theorem m_394 : (Cond.methodLink R_M (86) y_M_placeFor) ∈ gT := gT_t (i := 394) (by decide +kernel) rfl
theorem m_398 : (Cond.methodLink R_M (78) y_M_closed) ∈ gT := gT_t (i := 398) (by decide +kernel) rfl
theorem m_402 : (Cond.methodLink R_M (61) y_M_has) ∈ gT := gT_t (i := 402) (by decide +kernel) rfl
theorem m_406 : (Cond.methodLink R_M (64) y_M_covers) ∈ gT := gT_t (i := 406) (by decide +kernel) rfl
theorem m_410 : (Cond.methodLink R_M (82) y_M_settle) ∈ gT := gT_t (i := 410) (by decide +kernel) rfl
theorem m_414 : (Cond.methodLink R_M (67) y_M_last) ∈ gT := gT_t (i := 414) (by decide +kernel) rfl
theorem m_418 : (Cond.methodLink R_M (71) y_M_index) ∈ gT := gT_t (i := 418) (by decide +kernel) rfl
theorem m_422 : (Cond.methodLink R_M (74) y_M_moved) ∈ gT := gT_t (i := 422) (by decide +kernel) rfl
theorem m_425 : (Cond.methodLink R_M (90) y_M_find) ∈ gT := gT_t (i := 425) (by decide +kernel) rfl
theorem m_429 : (Cond.methodLink R_L (35) y_M_erase) ∈ gT := gT_t (i := 429) (by decide +kernel) rfl
theorem m_433 : (Cond.methodLink R_L (39) y_M_deliver) ∈ gT := gT_t (i := 433) (by decide +kernel) rfl
theorem m_437 : (Cond.methodLink R_M (111) y_M_isMade) ∈ gT := gT_t (i := 437) (by decide +kernel) rfl
theorem m_441 : (Cond.methodLink R_M (114) y_M_work) ∈ gT := gT_t (i := 441) (by decide +kernel) rfl
theorem m_445 : (Cond.methodLink R_M (93) y_M_ready) ∈ gT := gT_t (i := 445) (by decide +kernel) rfl
theorem m_449 : (Cond.methodLink R_L (46) y_M_arrive) ∈ gT := gT_t (i := 449) (by decide +kernel) rfl
theorem m_453 : (Cond.methodLink R_M (117) y_M_code) ∈ gT := gT_t (i := 453) (by decide +kernel) rfl
theorem m_465 : (Cond.methodLink R_M (121) y_M_deliver) ∈ gT := gT_t (i := 465) (by decide +kernel) rfl
theorem m_466 : (Cond.methodLink R_L (50) y_M_sync) ∈ gT := gT_t (i := 466) (by decide +kernel) rfl
theorem m_470 : (Cond.methodLink R_L (55) y_M_code) ∈ gT := gT_t (i := 470) (by decide +kernel) rfl
theorem m_471 : (Cond.methodLink R_L (59) y_M_executed) ∈ gT := gT_t (i := 471) (by decide +kernel) rfl
theorem m_475 : (Cond.methodLink R_L (64) y_M_waiting) ∈ gT := gT_t (i := 475) (by decide +kernel) rfl
theorem m_479 : (Cond.methodLink R_L (68) y_M_place) ∈ gT := gT_t (i := 479) (by decide +kernel) rfl
theorem m_483 : (Cond.methodLink R_L (72) y_M_length) ∈ gT := gT_t (i := 483) (by decide +kernel) rfl
theorem m_484 : (Cond.methodLink R_L (76) y_M_at) ∈ gT := gT_t (i := 484) (by decide +kernel) rfl
theorem m_488 : (Cond.methodLink R_L (80) y_M_cells) ∈ gT := gT_t (i := 488) (by decide +kernel) rfl
theorem m_492 : (Cond.methodLink R_L (83) y_M_cell) ∈ gT := gT_t (i := 492) (by decide +kernel) rfl
theorem m_496 : (Cond.methodLink R_L (87) y_M_stable) ∈ gT := gT_t (i := 496) (by decide +kernel) rfl
theorem m_12 : (Cond.instanceMethod y_T_init) ∈ gT := gT_t (i := 12) (by decide +kernel) rfl
theorem m_15 : (Cond.instanceMethod ({ cls := "java/lang/Object", name := "<init>", desc := "()V" } : MethodName)) ∈ gT := gT_t (i := 15) (by decide +kernel) rfl
theorem m_20 : (Cond.instanceMethod y_H_init) ∈ gT := gT_t (i := 20) (by decide +kernel) rfl
theorem m_46 : (Cond.instanceMethod y_K_init) ∈ gT := gT_t (i := 46) (by decide +kernel) rfl
theorem m_95 : (Cond.instanceMethod y_T_sites) ∈ gT := gT_t (i := 95) (by decide +kernel) rfl
theorem m_99 : (Cond.instanceMethod y_T_insert) ∈ gT := gT_t (i := 99) (by decide +kernel) rfl
theorem m_104 : (Cond.instanceMethod y_T_isSite) ∈ gT := gT_t (i := 104) (by decide +kernel) rfl
theorem m_107 : (Cond.instanceMethod y_K_positionForInsert) ∈ gT := gT_t (i := 107) (by decide +kernel) rfl
theorem m_111 : (Cond.instanceMethod y_K_visibleCount) ∈ gT := gT_t (i := 111) (by decide +kernel) rfl
theorem m_115 : (Cond.instanceMethod y_K_cellOfVisible) ∈ gT := gT_t (i := 115) (by decide +kernel) rfl
theorem m_120 : (Cond.instanceMethod y_T_make) ∈ gT := gT_t (i := 120) (by decide +kernel) rfl
theorem m_128 : (Cond.instanceMethod y_O_init) ∈ gT := gT_t (i := 128) (by decide +kernel) rfl
theorem m_156 : (Cond.instanceMethod y_H_add) ∈ gT := gT_t (i := 156) (by decide +kernel) rfl
theorem m_160 : (Cond.instanceMethod y_O_index) ∈ gT := gT_t (i := 160) (by decide +kernel) rfl
theorem m_164 : (Cond.instanceMethod y_K_execute) ∈ gT := gT_t (i := 164) (by decide +kernel) rfl
theorem m_168 : (Cond.instanceMethod y_O_isInsert) ∈ gT := gT_t (i := 168) (by decide +kernel) rfl
theorem m_173 : (Cond.instanceMethod y_K_putCell) ∈ gT := gT_t (i := 173) (by decide +kernel) rfl
theorem m_177 : (Cond.instanceMethod y_K_hideCell) ∈ gT := gT_t (i := 177) (by decide +kernel) rfl
theorem m_184 : (Cond.instanceMethod y_T_erase) ∈ gT := gT_t (i := 184) (by decide +kernel) rfl
theorem m_189 : (Cond.instanceMethod y_T_deliver) ∈ gT := gT_t (i := 189) (by decide +kernel) rfl
theorem m_193 : (Cond.instanceMethod y_H_find) ∈ gT := gT_t (i := 193) (by decide +kernel) rfl
theorem m_198 : (Cond.instanceMethod y_T_receive) ∈ gT := gT_t (i := 198) (by decide +kernel) rfl
theorem m_202 : (Cond.instanceMethod y_K_noteArrival) ∈ gT := gT_t (i := 202) (by decide +kernel) rfl
theorem m_207 : (Cond.instanceMethod y_T_firstReady) ∈ gT := gT_t (i := 207) (by decide +kernel) rfl
theorem m_215 : (Cond.instanceMethod y_H_placeFor) ∈ gT := gT_t (i := 215) (by decide +kernel) rfl
theorem m_219 : (Cond.instanceMethod y_H_latestUnknownTo) ∈ gT := gT_t (i := 219) (by decide +kernel) rfl
theorem m_222 : (Cond.instanceMethod y_H_last) ∈ gT := gT_t (i := 222) (by decide +kernel) rfl
theorem m_232 : (Cond.instanceMethod y_H_isInContextOfAny) ∈ gT := gT_t (i := 232) (by decide +kernel) rfl
theorem m_239 : (Cond.instanceMethod y_O_movedPast) ∈ gT := gT_t (i := 239) (by decide +kernel) rfl
theorem m_244 : (Cond.instanceMethod y_T_arrive) ∈ gT := gT_t (i := 244) (by decide +kernel) rfl
theorem m_248 : (Cond.instanceMethod y_H_findByCode) ∈ gT := gT_t (i := 248) (by decide +kernel) rfl
theorem m_254 : (Cond.instanceMethod y_O_toCode) ∈ gT := gT_t (i := 254) (by decide +kernel) rfl
theorem m_259 : (Cond.instanceMethod y_T_sync) ∈ gT := gT_t (i := 259) (by decide +kernel) rfl
theorem m_266 : (Cond.instanceMethod y_T_code) ∈ gT := gT_t (i := 266) (by decide +kernel) rfl
theorem m_272 : (Cond.instanceMethod y_T_executed) ∈ gT := gT_t (i := 272) (by decide +kernel) rfl
theorem m_276 : (Cond.instanceMethod y_T_waiting) ∈ gT := gT_t (i := 276) (by decide +kernel) rfl
theorem m_280 : (Cond.instanceMethod y_T_place) ∈ gT := gT_t (i := 280) (by decide +kernel) rfl
theorem m_284 : (Cond.instanceMethod y_T_length) ∈ gT := gT_t (i := 284) (by decide +kernel) rfl
theorem m_289 : (Cond.instanceMethod y_T_at) ∈ gT := gT_t (i := 289) (by decide +kernel) rfl
theorem m_293 : (Cond.instanceMethod y_T_cells) ∈ gT := gT_t (i := 293) (by decide +kernel) rfl
theorem m_297 : (Cond.instanceMethod y_T_cell) ∈ gT := gT_t (i := 297) (by decide +kernel) rfl
theorem m_301 : (Cond.instanceMethod y_T_stable) ∈ gT := gT_t (i := 301) (by decide +kernel) rfl
theorem m_317 : (Cond.instanceMethod y_M_init) ∈ gT := gT_t (i := 317) (by decide +kernel) rfl
theorem m_367 : (Cond.instanceMethod y_M_sites) ∈ gT := gT_t (i := 367) (by decide +kernel) rfl
theorem m_371 : (Cond.instanceMethod y_M_insert) ∈ gT := gT_t (i := 371) (by decide +kernel) rfl
theorem m_376 : (Cond.instanceMethod y_M_isSite) ∈ gT := gT_t (i := 376) (by decide +kernel) rfl
theorem m_379 : (Cond.instanceMethod y_M_length) ∈ gT := gT_t (i := 379) (by decide +kernel) rfl
theorem m_384 : (Cond.instanceMethod y_M_cellOf) ∈ gT := gT_t (i := 384) (by decide +kernel) rfl
theorem m_388 : (Cond.instanceMethod y_M_make) ∈ gT := gT_t (i := 388) (by decide +kernel) rfl
theorem m_392 : (Cond.instanceMethod y_M_execute) ∈ gT := gT_t (i := 392) (by decide +kernel) rfl
theorem m_396 : (Cond.instanceMethod y_M_placeFor) ∈ gT := gT_t (i := 396) (by decide +kernel) rfl
theorem m_400 : (Cond.instanceMethod y_M_closed) ∈ gT := gT_t (i := 400) (by decide +kernel) rfl
theorem m_404 : (Cond.instanceMethod y_M_has) ∈ gT := gT_t (i := 404) (by decide +kernel) rfl
theorem m_408 : (Cond.instanceMethod y_M_covers) ∈ gT := gT_t (i := 408) (by decide +kernel) rfl
theorem m_412 : (Cond.instanceMethod y_M_settle) ∈ gT := gT_t (i := 412) (by decide +kernel) rfl
theorem m_416 : (Cond.instanceMethod y_M_last) ∈ gT := gT_t (i := 416) (by decide +kernel) rfl
theorem m_420 : (Cond.instanceMethod y_M_index) ∈ gT := gT_t (i := 420) (by decide +kernel) rfl
theorem m_427 : (Cond.instanceMethod y_M_find) ∈ gT := gT_t (i := 427) (by decide +kernel) rfl
theorem m_430 : (Cond.instanceMethod y_M_erase) ∈ gT := gT_t (i := 430) (by decide +kernel) rfl
theorem m_434 : (Cond.instanceMethod y_M_deliver) ∈ gT := gT_t (i := 434) (by decide +kernel) rfl
theorem m_439 : (Cond.instanceMethod y_M_isMade) ∈ gT := gT_t (i := 439) (by decide +kernel) rfl
theorem m_443 : (Cond.instanceMethod y_M_work) ∈ gT := gT_t (i := 443) (by decide +kernel) rfl
theorem m_447 : (Cond.instanceMethod y_M_ready) ∈ gT := gT_t (i := 447) (by decide +kernel) rfl
theorem m_450 : (Cond.instanceMethod y_M_arrive) ∈ gT := gT_t (i := 450) (by decide +kernel) rfl
theorem m_454 : (Cond.instanceMethod y_M_code) ∈ gT := gT_t (i := 454) (by decide +kernel) rfl
theorem m_467 : (Cond.instanceMethod y_M_sync) ∈ gT := gT_t (i := 467) (by decide +kernel) rfl
theorem m_472 : (Cond.instanceMethod y_M_executed) ∈ gT := gT_t (i := 472) (by decide +kernel) rfl
theorem m_476 : (Cond.instanceMethod y_M_waiting) ∈ gT := gT_t (i := 476) (by decide +kernel) rfl
theorem m_480 : (Cond.instanceMethod y_M_place) ∈ gT := gT_t (i := 480) (by decide +kernel) rfl
theorem m_485 : (Cond.instanceMethod y_M_at) ∈ gT := gT_t (i := 485) (by decide +kernel) rfl
theorem m_489 : (Cond.instanceMethod y_M_cells) ∈ gT := gT_t (i := 489) (by decide +kernel) rfl
theorem m_493 : (Cond.instanceMethod y_M_cell) ∈ gT := gT_t (i := 493) (by decide +kernel) rfl
theorem m_497 : (Cond.instanceMethod y_M_stable) ∈ gT := gT_t (i := 497) (by decide +kernel) rfl
theorem m_96 : (Cond.selects R_T y_T_sites y_T_sites) ∈ gT := gT_t (i := 96) (by decide +kernel) rfl
theorem m_100 : (Cond.selects R_T y_T_insert y_T_insert) ∈ gT := gT_t (i := 100) (by decide +kernel) rfl
theorem m_108 : (Cond.selects R_K y_K_positionForInsert y_K_positionForInsert) ∈ gT := gT_t (i := 108) (by decide +kernel) rfl
theorem m_112 : (Cond.selects R_K y_K_visibleCount y_K_visibleCount) ∈ gT := gT_t (i := 112) (by decide +kernel) rfl
theorem m_116 : (Cond.selects R_K y_K_cellOfVisible y_K_cellOfVisible) ∈ gT := gT_t (i := 116) (by decide +kernel) rfl
theorem m_157 : (Cond.selects R_H y_H_add y_H_add) ∈ gT := gT_t (i := 157) (by decide +kernel) rfl
theorem m_161 : (Cond.selects R_O y_O_index y_O_index) ∈ gT := gT_t (i := 161) (by decide +kernel) rfl
theorem m_165 : (Cond.selects R_K y_K_execute y_K_execute) ∈ gT := gT_t (i := 165) (by decide +kernel) rfl
theorem m_169 : (Cond.selects R_O y_O_isInsert y_O_isInsert) ∈ gT := gT_t (i := 169) (by decide +kernel) rfl
theorem m_185 : (Cond.selects R_T y_T_erase y_T_erase) ∈ gT := gT_t (i := 185) (by decide +kernel) rfl
theorem m_190 : (Cond.selects R_T y_T_deliver y_T_deliver) ∈ gT := gT_t (i := 190) (by decide +kernel) rfl
theorem m_194 : (Cond.selects R_H y_H_find y_H_find) ∈ gT := gT_t (i := 194) (by decide +kernel) rfl
theorem m_203 : (Cond.selects R_K y_K_noteArrival y_K_noteArrival) ∈ gT := gT_t (i := 203) (by decide +kernel) rfl
theorem m_223 : (Cond.selects R_H y_H_last y_H_last) ∈ gT := gT_t (i := 223) (by decide +kernel) rfl
theorem m_240 : (Cond.selects R_O y_O_movedPast y_O_movedPast) ∈ gT := gT_t (i := 240) (by decide +kernel) rfl
theorem m_245 : (Cond.selects R_T y_T_arrive y_T_arrive) ∈ gT := gT_t (i := 245) (by decide +kernel) rfl
theorem m_249 : (Cond.selects R_H y_H_findByCode y_H_findByCode) ∈ gT := gT_t (i := 249) (by decide +kernel) rfl
theorem m_255 : (Cond.selects R_O y_O_toCode y_O_toCode) ∈ gT := gT_t (i := 255) (by decide +kernel) rfl
theorem m_260 : (Cond.selects R_T y_T_sync y_T_sync) ∈ gT := gT_t (i := 260) (by decide +kernel) rfl
theorem m_267 : (Cond.selects R_T y_T_code y_T_code) ∈ gT := gT_t (i := 267) (by decide +kernel) rfl
theorem m_273 : (Cond.selects R_T y_T_executed y_T_executed) ∈ gT := gT_t (i := 273) (by decide +kernel) rfl
theorem m_277 : (Cond.selects R_T y_T_waiting y_T_waiting) ∈ gT := gT_t (i := 277) (by decide +kernel) rfl
theorem m_281 : (Cond.selects R_T y_T_place y_T_place) ∈ gT := gT_t (i := 281) (by decide +kernel) rfl
theorem m_285 : (Cond.selects R_T y_T_length y_T_length) ∈ gT := gT_t (i := 285) (by decide +kernel) rfl
theorem m_290 : (Cond.selects R_T y_T_at y_T_at) ∈ gT := gT_t (i := 290) (by decide +kernel) rfl
theorem m_294 : (Cond.selects R_T y_T_cells y_T_cells) ∈ gT := gT_t (i := 294) (by decide +kernel) rfl
theorem m_298 : (Cond.selects R_T y_T_cell y_T_cell) ∈ gT := gT_t (i := 298) (by decide +kernel) rfl
theorem m_302 : (Cond.selects R_T y_T_stable y_T_stable) ∈ gT := gT_t (i := 302) (by decide +kernel) rfl
theorem m_368 : (Cond.selects R_M y_M_sites y_M_sites) ∈ gT := gT_t (i := 368) (by decide +kernel) rfl
theorem m_372 : (Cond.selects R_M y_M_insert y_M_insert) ∈ gT := gT_t (i := 372) (by decide +kernel) rfl
theorem m_380 : (Cond.selects R_M y_M_length y_M_length) ∈ gT := gT_t (i := 380) (by decide +kernel) rfl
theorem m_431 : (Cond.selects R_M y_M_erase y_M_erase) ∈ gT := gT_t (i := 431) (by decide +kernel) rfl
theorem m_435 : (Cond.selects R_M y_M_deliver y_M_deliver) ∈ gT := gT_t (i := 435) (by decide +kernel) rfl
theorem m_451 : (Cond.selects R_M y_M_arrive y_M_arrive) ∈ gT := gT_t (i := 451) (by decide +kernel) rfl
theorem m_455 : (Cond.selects R_M y_M_code y_M_code) ∈ gT := gT_t (i := 455) (by decide +kernel) rfl
theorem m_468 : (Cond.selects R_M y_M_sync y_M_sync) ∈ gT := gT_t (i := 468) (by decide +kernel) rfl
theorem m_473 : (Cond.selects R_M y_M_executed y_M_executed) ∈ gT := gT_t (i := 473) (by decide +kernel) rfl
theorem m_477 : (Cond.selects R_M y_M_waiting y_M_waiting) ∈ gT := gT_t (i := 477) (by decide +kernel) rfl
theorem m_481 : (Cond.selects R_M y_M_place y_M_place) ∈ gT := gT_t (i := 481) (by decide +kernel) rfl
theorem m_486 : (Cond.selects R_M y_M_at y_M_at) ∈ gT := gT_t (i := 486) (by decide +kernel) rfl
theorem m_490 : (Cond.selects R_M y_M_cells y_M_cells) ∈ gT := gT_t (i := 490) (by decide +kernel) rfl
theorem m_494 : (Cond.selects R_M y_M_cell y_M_cell) ∈ gT := gT_t (i := 494) (by decide +kernel) rfl
theorem m_498 : (Cond.selects R_M y_M_stable y_M_stable) ∈ gT := gT_t (i := 498) (by decide +kernel) rfl
theorem m_31 : (Cond.fieldLink R_H (9) R_H "siteCount" "I") ∈ gT := gT_t (i := 31) (by decide +kernel) rfl
theorem m_32 : (Cond.fieldLink R_H (17) R_H "made" "[LTombstoneSites$Operation;") ∈ gT := gT_t (i := 32) (by decide +kernel) rfl
theorem m_33 : (Cond.fieldLink R_H (27) R_H "knownPlaces" "[I") ∈ gT := gT_t (i := 33) (by decide +kernel) rfl
theorem m_50 : (Cond.fieldLink R_K (22) R_K "site" "I") ∈ gT := gT_t (i := 50) (by decide +kernel) rfl
theorem m_52 : (Cond.fieldLink R_K (9) R_K "row" "[I") ∈ gT := gT_t (i := 52) (by decide +kernel) rfl
theorem m_54 : (Cond.fieldLink R_K (69) R_K "rowLength" "I") ∈ gT := gT_t (i := 54) (by decide +kernel) rfl
theorem m_56 : (Cond.fieldLink R_K (56) R_K "vector" "I") ∈ gT := gT_t (i := 56) (by decide +kernel) rfl
theorem m_58 : (Cond.fieldLink R_K (15) R_K "arrived" "[Z") ∈ gT := gT_t (i := 58) (by decide +kernel) rfl
theorem m_60 : (Cond.fieldLink R_K (38) R_K "arrivedCount" "I") ∈ gT := gT_t (i := 60) (by decide +kernel) rfl
theorem m_62 : (Cond.fieldLink R_K (66) R_K "executedOfOthers" "I") ∈ gT := gT_t (i := 62) (by decide +kernel) rfl
theorem m_64 : (Cond.fieldLink R_K (19) R_K "places" "[I") ∈ gT := gT_t (i := 64) (by decide +kernel) rfl
theorem m_84 : (Cond.fieldLink R_T (7) R_T "siteCount" "I") ∈ gT := gT_t (i := 84) (by decide +kernel) rfl
theorem m_85 : (Cond.fieldLink R_T (18) R_T "history" "LTombstoneSites$History;") ∈ gT := gT_t (i := 85) (by decide +kernel) rfl
theorem m_86 : (Cond.fieldLink R_T (24) R_T "copies" "[LTombstoneSites$Copy;") ∈ gT := gT_t (i := 86) (by decide +kernel) rfl
theorem m_131 : (Cond.fieldLink R_O (9) R_O "site" "I") ∈ gT := gT_t (i := 131) (by decide +kernel) rfl
theorem m_135 : (Cond.fieldLink R_O (15) R_O "number" "I") ∈ gT := gT_t (i := 135) (by decide +kernel) rfl
theorem m_137 : (Cond.fieldLink R_O (18) R_O "character" "I") ∈ gT := gT_t (i := 137) (by decide +kernel) rfl
theorem m_139 : (Cond.fieldLink R_O (21) R_O "position" "I") ∈ gT := gT_t (i := 139) (by decide +kernel) rfl
theorem m_141 : (Cond.fieldLink R_O (24) R_O "context" "I") ∈ gT := gT_t (i := 141) (by decide +kernel) rfl
theorem m_320 : (Cond.fieldLink R_M (53) R_M "sites" "I") ∈ gT := gT_t (i := 320) (by decide +kernel) rfl
theorem m_321 : (Cond.fieldLink R_M (7) R_M "made" "[I") ∈ gT := gT_t (i := 321) (by decide +kernel) rfl
theorem m_322 : (Cond.fieldLink R_M (13) R_M "inserts" "[Z") ∈ gT := gT_t (i := 322) (by decide +kernel) rfl
theorem m_323 : (Cond.fieldLink R_M (17) R_M "position" "[I") ∈ gT := gT_t (i := 323) (by decide +kernel) rfl
theorem m_324 : (Cond.fieldLink R_M (20) R_M "letter" "[I") ∈ gT := gT_t (i := 324) (by decide +kernel) rfl
theorem m_325 : (Cond.fieldLink R_M (23) R_M "context" "[I") ∈ gT := gT_t (i := 325) (by decide +kernel) rfl
theorem m_326 : (Cond.fieldLink R_M (26) R_M "arrived" "[Z") ∈ gT := gT_t (i := 326) (by decide +kernel) rfl
theorem m_327 : (Cond.fieldLink R_M (29) R_M "where" "[I") ∈ gT := gT_t (i := 327) (by decide +kernel) rfl
theorem m_328 : (Cond.fieldLink R_M (32) R_M "vector" "[I") ∈ gT := gT_t (i := 328) (by decide +kernel) rfl
theorem m_329 : (Cond.fieldLink R_M (35) R_M "target" "[I") ∈ gT := gT_t (i := 329) (by decide +kernel) rfl
theorem m_330 : (Cond.fieldLink R_M (38) R_M "count" "[I") ∈ gT := gT_t (i := 330) (by decide +kernel) rfl
theorem m_331 : (Cond.fieldLink R_M (41) R_M "cells" "[I") ∈ gT := gT_t (i := 331) (by decide +kernel) rfl
theorem m_332 : (Cond.fieldLink R_M (44) R_M "visible" "[Z") ∈ gT := gT_t (i := 332) (by decide +kernel) rfl
theorem m_333 : (Cond.fieldLink R_M (47) R_M "places" "[I") ∈ gT := gT_t (i := 333) (by decide +kernel) rfl
theorem m_334 : (Cond.fieldLink R_M (50) R_M "now" "[I") ∈ gT := gT_t (i := 334) (by decide +kernel) rfl
theorem m_26 : (Cond.static y_V_howMany) ∈ gT := gT_t (i := 26) (by decide +kernel) rfl
theorem m_29 : (Cond.static y_A_fill) ∈ gT := gT_t (i := 29) (by decide +kernel) rfl
theorem m_123 : (Cond.static y_V_count) ∈ gT := gT_t (i := 123) (by decide +kernel) rfl
theorem m_181 : (Cond.static y_V_withOneMore) ∈ gT := gT_t (i := 181) (by decide +kernel) rfl
theorem m_210 : (Cond.static y_V_covers) ∈ gT := gT_t (i := 210) (by decide +kernel) rfl
theorem m_228 : (Cond.static y_H_isIn) ∈ gT := gT_t (i := 228) (by decide +kernel) rfl
theorem m_235 : (Cond.static y_V_withOneLess) ∈ gT := gT_t (i := 235) (by decide +kernel) rfl
theorem m_263 : (Cond.static ({ cls := "java/lang/Math", name := "max", desc := "(II)I" } : MethodName)) ∈ gT := gT_t (i := 263) (by decide +kernel) rfl
theorem m_306 : (Cond.static y_T_toldBy) ∈ gT := gT_t (i := 306) (by decide +kernel) rfl
theorem m_309 : (Cond.static ({ cls := "java/lang/Math", name := "min", desc := "(II)I" } : MethodName)) ∈ gT := gT_t (i := 309) (by decide +kernel) rfl
theorem m_312 : (Cond.static y_L_cell) ∈ gT := gT_t (i := 312) (by decide +kernel) rfl
theorem m_423 : (Cond.static y_M_moved) ∈ gT := gT_t (i := 423) (by decide +kernel) rfl
theorem m_251 : (Cond.constantLong R_H (41) (3)) ∈ gT := gT_t (i := 251) (by decide +kernel) rfl
theorem m_252 : (Cond.constantLong R_H (43) (15)) ∈ gT := gT_t (i := 252) (by decide +kernel) rfl
theorem m_269 : (Cond.constantLong R_T (70) (-1)) ∈ gT := gT_t (i := 269) (by decide +kernel) rfl
theorem m_457 : (Cond.constantLong R_M (125) (-1)) ∈ gT := gT_t (i := 457) (by decide +kernel) rfl
theorem m_458 : (Cond.constantLong R_M (127) (4)) ∈ gT := gT_t (i := 458) (by decide +kernel) rfl
theorem m_459 : (Cond.constantLong R_M (129) (64)) ∈ gT := gT_t (i := 459) (by decide +kernel) rfl
theorem m_460 : (Cond.constantLong R_M (131) (128)) ∈ gT := gT_t (i := 460) (by decide +kernel) rfl
theorem m_461 : (Cond.constantLong R_M (133) (8192)) ∈ gT := gT_t (i := 461) (by decide +kernel) rfl
theorem m_462 : (Cond.constantLong R_M (135) (2097152)) ∈ gT := gT_t (i := 462) (by decide +kernel) rfl
theorem m_463 : (Cond.constantLong R_M (137) (33554432)) ∈ gT := gT_t (i := 463) (by decide +kernel) rfl
theorem m_464 : (Cond.constantLong R_M (139) (536870912)) ∈ gT := gT_t (i := 464) (by decide +kernel) rfl
theorem m_500 : (Cond.constantLong R_L (40) (4294967295)) ∈ gT := gT_t (i := 500) (by decide +kernel) rfl
theorem m_0 : (Cond.initialized R_L) ∈ gT := gT_t (i := 0) (by decide +kernel) rfl
theorem m_1 : (Cond.initialized R_T) ∈ gT := gT_t (i := 1) (by decide +kernel) rfl
theorem m_2 : (Cond.initialized R_H) ∈ gT := gT_t (i := 2) (by decide +kernel) rfl
theorem m_3 : (Cond.initialized R_V) ∈ gT := gT_t (i := 3) (by decide +kernel) rfl
theorem m_4 : (Cond.initialized R_A) ∈ gT := gT_t (i := 4) (by decide +kernel) rfl
theorem m_5 : (Cond.initialized R_K) ∈ gT := gT_t (i := 5) (by decide +kernel) rfl
theorem m_6 : (Cond.initialized R_M) ∈ gT := gT_t (i := 6) (by decide +kernel) rfl
theorem m_7 : (Cond.initialized R_O) ∈ gT := gT_t (i := 7) (by decide +kernel) rfl
theorem m_8 : (Cond.initialized "java/lang/Math") ∈ gT := gT_t (i := 8) (by decide +kernel) rfl
theorem m_9 : (Cond.classLink R_L (7) R_T) ∈ gT := gT_t (i := 9) (by decide +kernel) rfl
theorem m_17 : (Cond.classLink R_T (13) R_H) ∈ gT := gT_t (i := 17) (by decide +kernel) rfl
theorem m_23 : (Cond.classLink R_H (15) R_O) ∈ gT := gT_t (i := 23) (by decide +kernel) rfl
theorem m_42 : (Cond.classLink R_T (22) R_K) ∈ gT := gT_t (i := 42) (by decide +kernel) rfl
theorem m_125 : (Cond.classLink R_T (73) R_O) ∈ gT := gT_t (i := 125) (by decide +kernel) rfl
theorem m_314 : (Cond.classLink R_L (18) R_M) ∈ gT := gT_t (i := 314) (by decide +kernel) rfl
theorem m_10 : (Cond.instantiable R_T (3)) ∈ gT := gT_t (i := 10) (by decide +kernel) rfl
theorem m_18 : (Cond.instantiable R_H (3)) ∈ gT := gT_t (i := 18) (by decide +kernel) rfl
theorem m_44 : (Cond.instantiable R_K (8)) ∈ gT := gT_t (i := 44) (by decide +kernel) rfl
theorem m_126 : (Cond.instantiable R_O (5)) ∈ gT := gT_t (i := 126) (by decide +kernel) rfl
theorem m_315 : (Cond.instantiable R_M (15)) ∈ gT := gT_t (i := 315) (by decide +kernel) rfl
theorem m_41 : (Cond.arrayClass .int) ∈ gT := gT_t (i := 41) (by decide +kernel) rfl
theorem m_83 : (Cond.arrayClass .boolean) ∈ gT := gT_t (i := 83) (by decide +kernel) rfl
theorem m_16 : (Cond.code ({ cls := "java/lang/Object", name := "<init>", desc := "()V" } : MethodName) object_method_1_code (1) (Option.none : Option Jvm.ClassFile.FieldType)) ∈ gT := gT_t (i := 16) (by decide +kernel) rfl
theorem m_264 : (Cond.code ({ cls := "java/lang/Math", name := "max", desc := "(II)I" } : MethodName) prog_8_method_65_code (2) (Option.some .int)) ∈ gT := gT_t (i := 264) (by decide +kernel) rfl
theorem m_310 : (Cond.code ({ cls := "java/lang/Math", name := "min", desc := "(II)I" } : MethodName) prog_8_method_69_code (2) (Option.some .int)) ∈ gT := gT_t (i := 310) (by decide +kernel) rfl
theorem ms_0 : Cond.selects R_T y_T_isSite y_T_isSite ∈ gT := gT_s (i := 0) (q := (y_T_isSite, 3)) (by decide +kernel) rfl
theorem ms_1 : Cond.selects R_T y_T_make y_T_make ∈ gT := gT_s (i := 1) (q := (y_T_make, 3)) (by decide +kernel) rfl
theorem ms_2 : Cond.selects R_K y_K_putCell y_K_putCell ∈ gT := gT_s (i := 2) (q := (y_K_putCell, 8)) (by decide +kernel) rfl
theorem ms_3 : Cond.selects R_K y_K_hideCell y_K_hideCell ∈ gT := gT_s (i := 3) (q := (y_K_hideCell, 8)) (by decide +kernel) rfl
theorem ms_4 : Cond.selects R_T y_T_receive y_T_receive ∈ gT := gT_s (i := 4) (q := (y_T_receive, 3)) (by decide +kernel) rfl
theorem ms_5 : Cond.selects R_T y_T_firstReady y_T_firstReady ∈ gT := gT_s (i := 5) (q := (y_T_firstReady, 3)) (by decide +kernel) rfl
theorem ms_6 : Cond.selects R_H y_H_placeFor y_H_placeFor ∈ gT := gT_s (i := 6) (q := (y_H_placeFor, 3)) (by decide +kernel) rfl
theorem ms_7 : Cond.selects R_H y_H_latestUnknownTo y_H_latestUnknownTo ∈ gT := gT_s (i := 7) (q := (y_H_latestUnknownTo, 3)) (by decide +kernel) rfl
theorem ms_8 : Cond.selects R_H y_H_isInContextOfAny y_H_isInContextOfAny ∈ gT := gT_s (i := 8) (q := (y_H_isInContextOfAny, 3)) (by decide +kernel) rfl
theorem ms_9 : Cond.selects R_M y_M_isSite y_M_isSite ∈ gT := gT_s (i := 9) (q := (y_M_isSite, 15)) (by decide +kernel) rfl
theorem ms_10 : Cond.selects R_M y_M_cellOf y_M_cellOf ∈ gT := gT_s (i := 10) (q := (y_M_cellOf, 15)) (by decide +kernel) rfl
theorem ms_11 : Cond.selects R_M y_M_make y_M_make ∈ gT := gT_s (i := 11) (q := (y_M_make, 15)) (by decide +kernel) rfl
theorem ms_12 : Cond.selects R_M y_M_execute y_M_execute ∈ gT := gT_s (i := 12) (q := (y_M_execute, 15)) (by decide +kernel) rfl
theorem ms_13 : Cond.selects R_M y_M_placeFor y_M_placeFor ∈ gT := gT_s (i := 13) (q := (y_M_placeFor, 15)) (by decide +kernel) rfl
theorem ms_14 : Cond.selects R_M y_M_closed y_M_closed ∈ gT := gT_s (i := 14) (q := (y_M_closed, 15)) (by decide +kernel) rfl
theorem ms_15 : Cond.selects R_M y_M_has y_M_has ∈ gT := gT_s (i := 15) (q := (y_M_has, 15)) (by decide +kernel) rfl
theorem ms_16 : Cond.selects R_M y_M_covers y_M_covers ∈ gT := gT_s (i := 16) (q := (y_M_covers, 15)) (by decide +kernel) rfl
theorem ms_17 : Cond.selects R_M y_M_settle y_M_settle ∈ gT := gT_s (i := 17) (q := (y_M_settle, 15)) (by decide +kernel) rfl
theorem ms_18 : Cond.selects R_M y_M_last y_M_last ∈ gT := gT_s (i := 18) (q := (y_M_last, 15)) (by decide +kernel) rfl
theorem ms_19 : Cond.selects R_M y_M_index y_M_index ∈ gT := gT_s (i := 19) (q := (y_M_index, 15)) (by decide +kernel) rfl
theorem ms_20 : Cond.selects R_M y_M_find y_M_find ∈ gT := gT_s (i := 20) (q := (y_M_find, 15)) (by decide +kernel) rfl
theorem ms_21 : Cond.selects R_M y_M_isMade y_M_isMade ∈ gT := gT_s (i := 21) (q := (y_M_isMade, 15)) (by decide +kernel) rfl
theorem ms_22 : Cond.selects R_M y_M_work y_M_work ∈ gT := gT_s (i := 22) (q := (y_M_work, 15)) (by decide +kernel) rfl
theorem ms_23 : Cond.selects R_M y_M_ready y_M_ready ∈ gT := gT_s (i := 23) (q := (y_M_ready, 15)) (by decide +kernel) rfl
/-- the words of nest mates -/
def g_nst : Cond → Bool
  | .fieldLinkNest _ _ _ _ _ _ => true
  | .methodLinkNest _ _ _ _ => true
  | _ => false
def g_nw : List Cond := lw_tbl.filter g_nst
theorem g_nw_t {i : Nat} {w : Cond} (h : tables_1[i]? = some w) (hg : g_nst w = true) : w ∈ g_nw := List.mem_filter.mpr ⟨List.mem_append_right _ (List.mem_of_getElem? h), hg⟩
theorem mn_51 : (Cond.fieldLinkNest R_T (111) R_K "site" "I" R_T) ∈ g_nw := g_nw_t (i := 51) (by decide +kernel) rfl
theorem mn_53 : (Cond.fieldLinkNest R_T (95) R_K "row" "[I" R_T) ∈ g_nw := g_nw_t (i := 53) (by decide +kernel) rfl
theorem mn_55 : (Cond.fieldLinkNest R_T (98) R_K "rowLength" "I" R_T) ∈ g_nw := g_nw_t (i := 55) (by decide +kernel) rfl
theorem mn_57 : (Cond.fieldLinkNest R_T (56) R_K "vector" "I" R_T) ∈ g_nw := g_nw_t (i := 57) (by decide +kernel) rfl
theorem mn_59 : (Cond.fieldLinkNest R_T (126) R_K "arrived" "[Z" R_T) ∈ g_nw := g_nw_t (i := 59) (by decide +kernel) rfl
theorem mn_61 : (Cond.fieldLinkNest R_T (78) R_K "arrivedCount" "I" R_T) ∈ g_nw := g_nw_t (i := 61) (by decide +kernel) rfl
theorem mn_63 : (Cond.fieldLinkNest R_T (81) R_K "executedOfOthers" "I" R_T) ∈ g_nw := g_nw_t (i := 63) (by decide +kernel) rfl
theorem mn_65 : (Cond.fieldLinkNest R_T (84) R_K "places" "[I" R_T) ∈ g_nw := g_nw_t (i := 65) (by decide +kernel) rfl
theorem mn_132 : (Cond.fieldLinkNest R_K (59) R_O "site" "I" R_T) ∈ g_nw := g_nw_t (i := 132) (by decide +kernel) rfl
theorem mn_133 : (Cond.fieldLinkNest R_H (63) R_O "site" "I" R_T) ∈ g_nw := g_nw_t (i := 133) (by decide +kernel) rfl
theorem mn_134 : (Cond.fieldLinkNest R_T (125) R_O "site" "I" R_T) ∈ g_nw := g_nw_t (i := 134) (by decide +kernel) rfl
theorem mn_136 : (Cond.fieldLinkNest R_H (91) R_O "number" "I" R_T) ∈ g_nw := g_nw_t (i := 136) (by decide +kernel) rfl
theorem mn_138 : (Cond.fieldLinkNest R_K (45) R_O "character" "I" R_T) ∈ g_nw := g_nw_t (i := 138) (by decide +kernel) rfl
theorem mn_140 : (Cond.fieldLinkNest R_H (60) R_O "position" "I" R_T) ∈ g_nw := g_nw_t (i := 140) (by decide +kernel) rfl
theorem mn_142 : (Cond.fieldLinkNest R_H (57) R_O "context" "I" R_T) ∈ g_nw := g_nw_t (i := 142) (by decide +kernel) rfl
theorem mn_143 : (Cond.fieldLinkNest R_T (141) R_O "context" "I" R_T) ∈ g_nw := g_nw_t (i := 143) (by decide +kernel) rfl
theorem mn_213 : (Cond.methodLinkNest R_T (137) y_H_placeFor R_T) ∈ g_nw := g_nw_t (i := 213) (by decide +kernel) rfl
def g_N (U : State) : Prop := (∀ w ∈ g_nw, va_Nw w U) ∧ va_AO "TombstoneSites$Operation" U ∧ va_AO "TombstoneSites$Copy" U
theorem g_N_of {args : Array Value} {s : State} (hts : ∀ w ∈ lw_tbl, w.before args s = true) : g_N s := by
  refine ⟨fun w h => ?_, va_AO.of (hts _ (List.mem_append_right _ (List.mem_of_getElem? (i := 24) (by decide +kernel)))), va_AO.of (hts _ (List.mem_append_right _ (List.mem_of_getElem? (i := 43) (by decide +kernel))))⟩
  have h2 := List.mem_filter.mp h
  have h3 := hts w h2.1
  have h4 := h2.2
  cases w <;> first | exact va_Nw.of rfl h3 | exact absurd h4 (by simp [g_nst])
theorem g_N_ok : (∀ u U : State, u.WarmedH U.vm → g_N u → g_N U) ∧ ∀ u U : State, u.vm = U.vm → g_N u → g_N U := by
  constructor
  · intro u U hW h
    refine ⟨fun w hw => ?_, h.2.1.moved hW.alike, h.2.2.moved hW.alike⟩
    have h3 := h.1 w hw
    have h4 := (List.mem_filter.mp hw).2
    cases w <;> first | exact va_Nw.warmF hW h3 | exact va_Nw.warmM hW h3 | exact absurd h4 (by simp [g_nst])
  · intro u U hW h
    have hA : u.vm.Alike U.vm := by rw [hW]; exact Vm.Alike.refl _
    refine ⟨fun w hw => ?_, h.2.1.moved hA, h.2.2.moved hA⟩
    have h3 := h.1 w hw
    have h4 := (List.mem_filter.mp hw).2
    cases w <;> first | exact va_Nw.same rfl hW h3 | exact absurd h4 (by simp [g_nst])
end
section
/-! The document's rule of places, over any record of operations: ins (0: an erase), pos (the position), cx (the context). Operation o is number o % 6 of site o / 6. A vector v says how many of each site. -/
def mh (v : Nat → Nat) (o : Nat) : Prop := o % 6 < v (o / 6)
def md (v : Nat → Nat) (t : Nat) : Nat → Nat := fun j => if j = t then v j - 1 else v j
def mtop (v : Nat → Nat) (t : Nat) : Nat := 6 * t + (v t - 1)
def msz (v : Nat → Nat) : Nat := v 0 + v 1 + v 2
/-- place p of an operation (insert: ix, of site sx) past one at q -/
def mmv (ix sx p iy sy q : Nat) : Nat := if iy ≠ 0 ∧ q ≤ p ∧ (p ≠ q ∨ ix = 0 ∨ sy ≤ sx) then p + 1 else p
/-- the last operation of site t is in no context of what v has -/
def mmx (cx : Nat → Nat → Nat) (v : Nat → Nat) (t : Nat) : Prop := t < 3 ∧ 0 < v t ∧ ∀ o, o < 18 → mh v o → cx o t < v t
def mcand (cx : Nat → Nat → Nat) (x : Nat) (v : Nat → Nat) (t : Nat) : Prop := cx x t < v t ∧ mmx cx v t
noncomputable def mf (P : Nat → Prop) : Option Nat := by
  classical exact if P 0 then some 0 else if P 1 then some 1 else if P 2 then some 2 else none
theorem mf_some {P : Nat → Prop} {t : Nat} (h : mf P = some t) : P t := by
  unfold mf at h
  split at h
  · cases h; assumption
  · split at h
    · cases h; assumption
    · split at h
      · cases h; assumption
      · cases h
theorem mf_none {P : Nat → Prop} (h : mf P = none) : ∀ t, t < 3 → ¬ P t := by
  unfold mf at h
  split at h
  · cases h
  · split at h
    · cases h
    · split at h
      · cases h
      · intro t ht
        rcases (show t = 0 ∨ t = 1 ∨ t = 2 by omega) with rfl | rfl | rfl <;> assumption
theorem mf_congr {P P' : Nat → Prop} (h : ∀ t, P t ↔ P' t) : mf P = mf P' := by
  have : P = P' := funext fun t => propext (h t)
  rw [this]
theorem mf_is {P : Nat → Prop} {t : Nat} (ht : t < 3) (h : P t) (h0 : ∀ j, j < t → ¬ P j) : mf P = some t := by
  unfold mf
  rcases (show t = 0 ∨ t = 1 ∨ t = 2 by omega) with rfl | rfl | rfl
  · rw [if_pos h]
  · rw [if_neg (h0 0 (by omega)), if_pos h]
  · rw [if_neg (h0 0 (by omega)), if_neg (h0 1 (by omega)), if_pos h]
theorem mf_not {P : Nat → Prop} (h0 : ∀ j, j < 3 → ¬ P j) : mf P = none := by
  unfold mf
  rw [if_neg (h0 0 (by omega)), if_neg (h0 1 (by omega)), if_neg (h0 2 (by omega))]
noncomputable def mpl (ins pos : Nat → Nat) (cx : Nat → Nat → Nat) : Nat → Nat → (Nat → Nat) → Nat
  | 0, x, _ => pos x
  | n + 1, x, v => match mf (mcand cx x v) with
    | none => pos x
    | some t => mmv (ins x) (x / 6) (mpl ins pos cx n x (md v t)) (ins (mtop v t)) t (mpl ins pos cx n (mtop v t) (md v t))
/-- the place of x for v -/
noncomputable def mplace (ins pos : Nat → Nat) (cx : Nat → Nat → Nat) (x : Nat) (v : Nat → Nat) : Nat := mpl ins pos cx (msz v) x v
def MH (mk : Nat → Nat) (cx : Nat → Nat → Nat) : Prop := (∀ t, mk t ≤ 6) ∧ (∀ t, 3 ≤ t → mk t = 0) ∧ ∀ o, mh mk o → cx o (o / 6) = o % 6 ∧ (∀ t, cx o t ≤ mk t) ∧ ∀ x, mh (cx o) x → ∀ t, cx x t ≤ cx o t
def MC (mk : Nat → Nat) (cx : Nat → Nat → Nat) (v : Nat → Nat) : Prop := (∀ t, v t ≤ mk t) ∧ ∀ o, mh v o → ∀ t, cx o t ≤ v t
def MX (mk : Nat → Nat) (cx : Nat → Nat → Nat) (x : Nat) (v : Nat → Nat) : Prop := mh mk x ∧ ¬ mh v x ∧ ∀ t, cx x t ≤ v t
theorem mtop_d {v : Nat → Nat} {t : Nat} (h6 : v t ≤ 6) : mtop v t / 6 = t ∧ mtop v t % 6 = v t - 1 := by
  unfold mtop
  omega
theorem mh_top {v : Nat → Nat} {t : Nat} (h0 : 0 < v t) (h6 : v t ≤ 6) : mh v (mtop v t) := by
  obtain ⟨h1, h2⟩ := mtop_d h6
  unfold mh
  rw [h1, h2]
  omega
theorem mh_md {v : Nat → Nat} {t o : Nat} (h : mh (md v t) o) : mh v o := by
  unfold mh md at *
  split at h <;> omega
theorem md_self {v : Nat → Nat} {t : Nat} : md v t t = v t - 1 := by simp [md]
theorem md_ne {v : Nat → Nat} {t j : Nat} (h : j ≠ t) : md v t j = v j := by simp [md, h]
theorem mh_md_ne {v : Nat → Nat} {t o : Nat} (h : mh v o) (hn : o ≠ mtop v t) : mh (md v t) o := by
  unfold mh md mtop at *
  split
  · rename_i e
    rw [e] at h ⊢
    omega
  · exact h
theorem mh_top_not {v : Nat → Nat} {t : Nat} (h6 : v t ≤ 6) : ¬ mh (md v t) (mtop v t) := by
  obtain ⟨h1, h2⟩ := mtop_d h6
  unfold mh
  rw [h1, h2, md_self]
  omega
theorem msz_md {v : Nat → Nat} {t : Nat} (ht : t < 3) (h0 : 0 < v t) : msz (md v t) + 1 = msz v := by
  unfold msz md
  rcases (show t = 0 ∨ t = 1 ∨ t = 2 by omega) with rfl | rfl | rfl <;> simp <;> omega
theorem md_comm (v : Nat → Nat) (s t : Nat) : md (md v s) t = md (md v t) s := by
  funext j
  unfold md
  split <;> split <;> rfl
theorem MC.le6 {mk : Nat → Nat} {cx : Nat → Nat → Nat} {v : Nat → Nat} (hH : MH mk cx) (h : MC mk cx v) (t : Nat) : v t ≤ 6 := Nat.le_trans (h.1 t) (hH.1 t)
theorem MC.lt18 {mk : Nat → Nat} {cx : Nat → Nat → Nat} {v : Nat → Nat} (hH : MH mk cx) (h : MC mk cx v) {o : Nat} (ho : mh v o) : o < 18 := by
  unfold mh at ho
  by_cases h3 : 3 ≤ o / 6
  · have h1 := h.1 (o / 6)
    rw [hH.2.1 _ h3] at h1
    omega
  · omega
theorem MC.made {mk : Nat → Nat} {cx : Nat → Nat → Nat} {v : Nat → Nat} (h : MC mk cx v) {o : Nat} (ho : mh v o) : mh mk o := Nat.lt_of_lt_of_le ho (h.1 _)
theorem MC.dn {mk : Nat → Nat} {cx : Nat → Nat → Nat} {v : Nat → Nat} {t : Nat} (hH : MH mk cx) (h : MC mk cx v) (hx : mmx cx v t) : MC mk cx (md v t) := by
  refine ⟨fun j => ?_, fun o ho j => ?_⟩
  · have := h.1 j
    unfold md
    split <;> omega
  · have ho' := mh_md ho
    by_cases hj : j = t
    · subst hj
      rw [md_self]
      have := hx.2.2 o (h.lt18 hH ho') ho'
      omega
    · rw [md_ne hj]
      exact h.2 o ho' j
theorem mmx_md {cx : Nat → Nat → Nat} {v : Nat → Nat} {s t : Nat} (hst : t ≠ s) (h : mmx cx v t) : mmx cx (md v s) t := by
  obtain ⟨h1, h2, h3⟩ := h
  refine ⟨h1, ?_, fun o ho hh => ?_⟩
  · rw [md_ne hst]; exact h2
  · rw [md_ne hst]; exact h3 o ho (mh_md hh)
theorem mcand_md {cx : Nat → Nat → Nat} {x : Nat} {v : Nat → Nat} {s t : Nat} (hst : t ≠ s) (h : mcand cx x v t) : mcand cx x (md v s) t := by
  refine ⟨?_, mmx_md hst h.2⟩
  rw [md_ne hst]
  exact h.1
theorem mcand_top {mk : Nat → Nat} {cx : Nat → Nat → Nat} {v : Nat → Nat} {s t : Nat} (hH : MH mk cx) (h : MC mk cx v) (hst : t ≠ s) (hs : mmx cx v s) (ht : mmx cx v t) : mcand cx (mtop v s) (md v s) t := by
  refine ⟨?_, mmx_md hst ht⟩
  rw [md_ne hst]
  have hh := mh_top hs.2.1 (h.le6 hH s)
  exact ht.2.2 _ (h.lt18 hH hh) hh
theorem MX.top {mk : Nat → Nat} {cx : Nat → Nat → Nat} {v : Nat → Nat} {s : Nat} (hH : MH mk cx) (h : MC mk cx v) (hs : mmx cx v s) : MX mk cx (mtop v s) (md v s) := by
  have hh := mh_top hs.2.1 (h.le6 hH s)
  refine ⟨h.made hh, mh_top_not (h.le6 hH s), fun j => ?_⟩
  by_cases hj : j = s
  · subst hj
    obtain ⟨h1, h2⟩ := mtop_d (h.le6 hH j)
    have h3 := (hH.2.2 _ (h.made hh)).1
    rw [h1, h2] at h3
    rw [md_self, h3]
    exact Nat.le_refl _
  · rw [md_ne hj]
    exact h.2 _ hh j
theorem MX.dn {mk : Nat → Nat} {cx : Nat → Nat → Nat} {x : Nat} {v : Nat → Nat} {t : Nat} (h : MX mk cx x v) (ht : mcand cx x v t) : MX mk cx x (md v t) := by
  refine ⟨h.1, fun q => h.2.1 (mh_md q), fun j => ?_⟩
  by_cases hj : j = t
  · subst hj
    rw [md_self]
    have := ht.1
    omega
  · rw [md_ne hj]
    exact h.2.2 j
theorem MX.site {mk : Nat → Nat} {cx : Nat → Nat → Nat} {x : Nat} {v : Nat → Nat} {t : Nat} (hH : MH mk cx) (h : MX mk cx x v) (ht : mcand cx x v t) : x / 6 ≠ t := by
  intro e
  have h1 := (hH.2.2 x h.1).1
  have h2 := h.2.1
  have h3 := ht.1
  unfold mh at h2
  rw [← e] at h3
  omega
theorem mmv_spec (ix sx p iy sy q : Nat) : ((iy ≠ 0 ∧ q ≤ p ∧ (p ≠ q ∨ ix = 0 ∨ sy ≤ sx)) ∧ mmv ix sx p iy sy q = p + 1) ∨ (¬ (iy ≠ 0 ∧ q ≤ p ∧ (p ≠ q ∨ ix = 0 ∨ sy ≤ sx)) ∧ mmv ix sx p iy sy q = p) := by
  unfold mmv
  split
  · exact Or.inl ⟨by assumption, rfl⟩
  · exact Or.inr ⟨by assumption, rfl⟩
theorem mmv_0 {ix sx p iy sy q : Nat} (h : iy = 0) : mmv ix sx p iy sy q = p := by
  unfold mmv
  rw [if_neg (fun z => z.1 h)]
theorem mmv_1 {ix sx p iy sy q : Nat} (h : iy ≠ 0 ∧ q ≤ p ∧ (p ≠ q ∨ ix = 0 ∨ sy ≤ sx)) : mmv ix sx p iy sy q = p + 1 := if_pos h
theorem mmv_2 {ix sx p iy sy q : Nat} (h : p < q ∨ (p = q ∧ ix ≠ 0 ∧ sx < sy)) : mmv ix sx p iy sy q = p := by
  unfold mmv
  rw [if_neg]
  omega
/-- past two operations of two other sites, in either order -/
theorem mmv_tp2 (ix sx i1 s1 i2 s2 a b c : Nat) (h12 : s1 ≠ s2) (h1 : sx ≠ s1) (h2 : sx ≠ s2) : mmv ix sx (mmv ix sx a i2 s2 c) i1 s1 (mmv i1 s1 b i2 s2 c) = mmv ix sx (mmv ix sx a i1 s1 b) i2 s2 (mmv i2 s2 c i1 s1 b) := by
  by_cases g1 : i1 = 0
  · rw [mmv_0 g1, mmv_0 g1, mmv_0 g1]
  by_cases g2 : i2 = 0
  · rw [mmv_0 g2, mmv_0 g2, mmv_0 g2]
  have e1 := mmv_spec ix sx a i2 s2 c
  have e2 := mmv_spec i1 s1 b i2 s2 c
  have e3 := mmv_spec ix sx a i1 s1 b
  have e4 := mmv_spec i2 s2 c i1 s1 b
  generalize mmv ix sx a i2 s2 c = A2 at *
  generalize mmv i1 s1 b i2 s2 c = B at *
  generalize mmv ix sx a i1 s1 b = A1 at *
  generalize mmv i2 s2 c i1 s1 b = C at *
  have e5 := mmv_spec ix sx A2 i1 s1 B
  have e6 := mmv_spec ix sx A1 i2 s2 C
  rcases e1 with ⟨q1, e1⟩ | ⟨q1, e1⟩ <;> rcases e2 with ⟨q2, e2⟩ | ⟨q2, e2⟩ <;> rcases e3 with ⟨q3, e3⟩ | ⟨q3, e3⟩ <;> rcases e4 with ⟨q4, e4⟩ | ⟨q4, e4⟩ <;> rcases e5 with ⟨q5, e5⟩ | ⟨q5, e5⟩ <;> rcases e6 with ⟨q6, e6⟩ | ⟨q6, e6⟩ <;> omega
theorem mplace_none {ins pos : Nat → Nat} {cx : Nat → Nat → Nat} {x : Nat} {v : Nat → Nat} (h : mf (mcand cx x v) = none) : mplace ins pos cx x v = pos x := by
  unfold mplace
  cases hn : msz v with
  | zero => rfl
  | succ n => simp only [mpl, h]
theorem mplace_some {ins pos : Nat → Nat} {cx : Nat → Nat → Nat} {x t : Nat} {v : Nat → Nat} (h : mf (mcand cx x v) = some t) : mplace ins pos cx x v = mmv (ins x) (x / 6) (mplace ins pos cx x (md v t)) (ins (mtop v t)) t (mplace ins pos cx (mtop v t) (md v t)) := by
  have hc := mf_some h
  have hz := msz_md hc.2.1 hc.2.2.1
  unfold mplace
  rw [← hz]
  simp only [mpl, h]
/-- which y is taken doesn't matter -/
theorem mplace_any {ins pos : Nat → Nat} {mk : Nat → Nat} {cx : Nat → Nat → Nat} (hH : MH mk cx) : ∀ (n : Nat) (v : Nat → Nat) (x t : Nat), msz v = n → MC mk cx v → MX mk cx x v → mcand cx x v t → mplace ins pos cx x v = mmv (ins x) (x / 6) (mplace ins pos cx x (md v t)) (ins (mtop v t)) t (mplace ins pos cx (mtop v t) (md v t)) := by
  intro n
  induction n with
  | zero =>
    intro v x t hn hC hX ht
    have hz := msz_md ht.2.1 ht.2.2.1
    omega
  | succ n ih =>
    intro v x t hn hC hX ht
    cases hf : mf (mcand cx x v) with
    | none => exact absurd ht (mf_none hf t ht.2.1)
    | some r =>
      have hr := mf_some hf
      rw [mplace_some hf]
      by_cases hrt : r = t
      · rw [hrt]
      have hrt' : t ≠ r := fun q => hrt q.symm
      have zr := msz_md hr.2.1 hr.2.2.1
      have zt := msz_md ht.2.1 ht.2.2.1
      have Cr := hC.dn hH hr.2
      have Ct := hC.dn hH ht.2
      have tr : mtop (md v r) t = mtop v t := by unfold mtop; rw [md_ne hrt']
      have rt : mtop (md v t) r = mtop v r := by unfold mtop; rw [md_ne hrt]
      have e1 := ih (md v r) x t (by omega) Cr (hX.dn hr) (mcand_md hrt' ht)
      have e2 := ih (md v r) (mtop v r) t (by omega) Cr (MX.top hH hC hr.2) (mcand_top hH hC hrt' hr.2 ht.2)
      have e3 := ih (md v t) x r (by omega) Ct (hX.dn ht) (mcand_md hrt hr)
      have e4 := ih (md v t) (mtop v t) r (by omega) Ct (MX.top hH hC ht.2) (mcand_top hH hC hrt ht.2 hr.2)
      rw [tr] at e1 e2
      rw [rt] at e3 e4
      rw [md_comm v t r] at e3 e4
      rw [e1, e2, e3, e4, (mtop_d (hC.le6 hH r)).1, (mtop_d (hC.le6 hH t)).1]
      exact mmv_tp2 _ _ _ _ _ _ _ _ _ hrt (hX.site hH hr) (hX.site hH ht)
/-- there is such a y -/
theorem mcand_ex {mk : Nat → Nat} {cx : Nat → Nat → Nat} (hH : MH mk cx) {v : Nat → Nat} {x : Nat} (hC : MC mk cx v) (hX : MX mk cx x v) : ∀ (n t : Nat), t < 3 → cx x t < v t → msz v ≤ n + msz (cx (mtop v t)) → ∃ s, mcand cx x v s := by
  intro n
  induction n with
  | zero =>
    intro t ht h1 h2
    exfalso
    have hh := mh_top (v := v) (t := t) (by omega) (hC.le6 hH t)
    have a := hC.2 _ hh
    have h3 := (hH.2.2 _ (hC.made hh)).1
    rw [(mtop_d (hC.le6 hH t)).1, (mtop_d (hC.le6 hH t)).2] at h3
    have a0 := a 0
    have a1 := a 1
    have a2 := a 2
    unfold msz at h2
    rcases (show t = 0 ∨ t = 1 ∨ t = 2 by omega) with rfl | rfl | rfl <;> omega
  | succ n ih =>
    intro t ht h1 h2
    by_cases hm : mmx cx v t
    · exact ⟨t, h1, hm⟩
    · have h0 : 0 < v t := by omega
      have : ∃ o, o < 18 ∧ mh v o ∧ v t ≤ cx o t := by
        apply Classical.byContradiction
        intro hne
        apply hm
        refine ⟨ht, h0, fun o ho hh => ?_⟩
        apply Classical.byContradiction
        intro hlt
        exact hne ⟨o, ho, hh, by omega⟩
      obtain ⟨o, ho, hh, hv⟩ := this
      have hox : ¬ mh (cx x) o := by
        intro q
        have := (hH.2.2 x hX.1).2.2 o q t
        omega
      unfold mh at hox
      have hs : cx x (o / 6) < v (o / 6) := by
        have : o % 6 < v (o / 6) := hh
        omega
      have hs3 : o / 6 < 3 := by omega
      have h6 := hC.le6 hH (o / 6)
      have hht := mh_top (v := v) (t := o / 6) (by omega) h6
      obtain ⟨d1, d2⟩ := mtop_d h6
      have hz := (hH.2.2 _ (hC.made hht))
      rw [d1, d2] at hz
      have hoz : ∀ j, cx o j ≤ cx (mtop v (o / 6)) j := by
        intro j
        by_cases e : o = mtop v (o / 6)
        · rw [← e]; exact Nat.le_refl _
        · refine hz.2.2 o ?_ j
          unfold mh
          rw [hz.1]
          have : o % 6 < v (o / 6) := hh
          unfold mtop at e
          omega
      refine ih (o / 6) hs3 hs ?_
      have hty : mh (cx (mtop v (o / 6))) (mtop v t) := by
        obtain ⟨f1, f2⟩ := mtop_d (hC.le6 hH t)
        unfold mh
        rw [f1, f2]
        have := hoz t
        omega
      have hle := hz.2.2 _ hty
      have hhy := mh_top (v := v) (t := t) h0 (hC.le6 hH t)
      have hy := (hH.2.2 _ (hC.made hhy)).1
      rw [(mtop_d (hC.le6 hH t)).1, (mtop_d (hC.le6 hH t)).2] at hy
      have l0 := hle 0
      have l1 := hle 1
      have l2 := hle 2
      have lt := hoz t
      unfold msz at h2 ⊢
      rcases (show t = 0 ∨ t = 1 ∨ t = 2 by omega) with rfl | rfl | rfl <;> omega
theorem mcand_of_ne {mk : Nat → Nat} {cx : Nat → Nat → Nat} (hH : MH mk cx) {v : Nat → Nat} {x : Nat} (hC : MC mk cx v) (hX : MX mk cx x v) (hne : ¬ ∀ t, t < 3 → v t = cx x t) : ∃ s, mcand cx x v s := by
  have : ∃ t, t < 3 ∧ cx x t < v t := by
    apply Classical.byContradiction
    intro hn
    apply hne
    intro t ht
    apply Classical.byContradiction
    intro hq
    have := hX.2.2 t
    exact hn ⟨t, ht, by omega⟩
  obtain ⟨t, ht, h⟩ := this
  exact mcand_ex hH hC hX (msz v) t ht h (by omega)
/-! the row of cells: which insert made each -/
def mIn (f : Nat → Nat) (p y : Nat) : Nat → Nat := fun i => if i < p then f i else if i = p then y else f (i - 1)
def mst (ins : Nat → Nat) (f : Nat → Nat) (y p : Nat) : Nat → Nat := if ins y = 0 then f else mIn f p y
noncomputable def mrw (ins pos : Nat → Nat) (cx : Nat → Nat → Nat) : Nat → (Nat → Nat) → Nat → Nat
  | 0, _ => fun _ => 0
  | n + 1, v => match mf (mmx cx v) with
    | none => fun _ => 0
    | some t => mst ins (mrw ins pos cx n (md v t)) (mtop v t) (mplace ins pos cx (mtop v t) (md v t))
noncomputable def mrow (ins pos : Nat → Nat) (cx : Nat → Nat → Nat) (v : Nat → Nat) : Nat → Nat := mrw ins pos cx (msz v) v
theorem mrow_some {ins pos : Nat → Nat} {cx : Nat → Nat → Nat} {t : Nat} {v : Nat → Nat} (h : mf (mmx cx v) = some t) : mrow ins pos cx v = mst ins (mrow ins pos cx (md v t)) (mtop v t) (mplace ins pos cx (mtop v t) (md v t)) := by
  have hc := mf_some h
  have hz := msz_md hc.1 hc.2.1
  unfold mrow
  rw [← hz]
  simp only [mrw, h]
theorem mst_tp1 (ins : Nat → Nat) (f : Nat → Nat) (x y s t b c : Nat) (hst : s ≠ t) : mst ins (mst ins f y c) x (mmv (ins x) s b (ins y) t c) = mst ins (mst ins f x b) y (mmv (ins y) t c (ins x) s b) := by
  unfold mst
  by_cases hx : ins x = 0
  · rw [if_pos hx, if_pos hx, mmv_0 hx]
  by_cases hy : ins y = 0
  · rw [if_pos hy, if_pos hy, mmv_0 hy]
  rw [if_neg hx, if_neg hy, if_neg hy, if_neg hx]
  have e1 := mmv_spec (ins x) s b (ins y) t c
  have e2 := mmv_spec (ins y) t c (ins x) s b
  generalize mmv (ins x) s b (ins y) t c = B at *
  generalize mmv (ins y) t c (ins x) s b = C at *
  funext i
  unfold mIn
  rcases Nat.lt_trichotomy b c with hbc | hbc | hbc
  · have hB : B = b := by omega
    have hC : C = c + 1 := by omega
    subst hB
    subst hC
    by_cases g1 : i < B
    · rw [if_pos g1, if_pos (by omega), if_pos (by omega), if_pos g1]
    by_cases g2 : i = B
    · rw [if_neg g1, if_pos g2, if_pos (by omega), if_neg g1, if_pos g2]
    by_cases g3 : i < c + 1
    · rw [if_neg g1, if_neg g2, if_pos (by omega), if_pos g3, if_neg g1, if_neg g2]
    by_cases g4 : i = c + 1
    · rw [if_neg g1, if_neg g2, if_neg (by omega), if_pos (by omega), if_neg g3, if_pos g4]
    · rw [if_neg g1, if_neg g2, if_neg (by omega), if_neg (by omega), if_neg g3, if_neg g4, if_neg (by omega), if_neg (by omega)]
  · subst hbc
    by_cases hl : s < t
    · have hB : B = b := by omega
      have hC : C = b + 1 := by omega
      subst hB
      subst hC
      by_cases g1 : i < B
      · rw [if_pos g1, if_pos g1, if_pos (by omega), if_pos g1]
      by_cases g2 : i = B
      · rw [if_neg g1, if_pos g2, if_pos (by omega), if_neg g1, if_pos g2]
      by_cases g4 : i = B + 1
      · rw [if_neg g1, if_neg g2, if_neg (by omega), if_pos (by omega), if_neg (by omega), if_pos g4]
      · rw [if_neg g1, if_neg g2, if_neg (by omega), if_neg (by omega), if_neg (by omega), if_neg g4, if_neg (by omega), if_neg (by omega)]
    · have hB : B = b + 1 := by omega
      have hC : C = b := by omega
      subst hB
      subst hC
      by_cases g1 : i < C
      · rw [if_pos (by omega), if_pos g1, if_pos g1, if_pos g1]
      by_cases g2 : i = C
      · rw [if_pos (by omega), if_neg g1, if_pos g2, if_neg g1, if_pos g2]
      by_cases g4 : i = C + 1
      · rw [if_neg (by omega), if_pos g4, if_neg g1, if_neg g2, if_neg (by omega), if_pos (by omega)]
      · rw [if_neg (by omega), if_neg g4, if_neg (by omega), if_neg (by omega), if_neg g1, if_neg g2, if_neg (by omega), if_neg (by omega)]
  · have hB : B = b + 1 := by omega
    have hC : C = c := by omega
    subst hB
    subst hC
    by_cases g1 : i < C
    · rw [if_pos (by omega), if_pos g1, if_pos g1, if_pos (by omega)]
    by_cases g2 : i = C
    · rw [if_pos (by omega), if_neg g1, if_pos g2, if_neg g1, if_pos g2]
    by_cases g3 : i < b + 1
    · rw [if_pos g3, if_neg g1, if_neg g2, if_neg g1, if_neg g2, if_pos (by omega)]
    by_cases g4 : i = b + 1
    · rw [if_neg g3, if_pos g4, if_neg g1, if_neg g2, if_neg (by omega), if_pos (by omega)]
    · rw [if_neg g3, if_neg g4, if_neg (by omega), if_neg (by omega), if_neg g1, if_neg g2, if_neg (by omega), if_neg (by omega)]
theorem mrow_any {ins pos : Nat → Nat} {mk : Nat → Nat} {cx : Nat → Nat → Nat} (hH : MH mk cx) : ∀ (n : Nat) (v : Nat → Nat) (t : Nat), msz v = n → MC mk cx v → mmx cx v t → mrow ins pos cx v = mst ins (mrow ins pos cx (md v t)) (mtop v t) (mplace ins pos cx (mtop v t) (md v t)) := by
  intro n
  induction n with
  | zero =>
    intro v t hn hC ht
    have hz := msz_md ht.1 ht.2.1
    omega
  | succ n ih =>
    intro v t hn hC ht
    cases hf : mf (mmx cx v) with
    | none => exact absurd ht (mf_none hf t ht.1)
    | some r =>
      have hr := mf_some hf
      rw [mrow_some hf]
      by_cases hrt : r = t
      · rw [hrt]
      have hrt' : t ≠ r := fun q => hrt q.symm
      have zr := msz_md hr.1 hr.2.1
      have zt := msz_md ht.1 ht.2.1
      have Cr := hC.dn hH hr
      have Ct := hC.dn hH ht
      have tr : mtop (md v r) t = mtop v t := by unfold mtop; rw [md_ne hrt']
      have rt : mtop (md v t) r = mtop v r := by unfold mtop; rw [md_ne hrt]
      have e1 := ih (md v r) t (by omega) Cr (mmx_md hrt' ht)
      have e2 := mplace_any (ins := ins) (pos := pos) hH n (md v r) (mtop v r) t (by omega) Cr (MX.top hH hC hr) (mcand_top hH hC hrt' hr ht)
      have e3 := ih (md v t) r (by omega) Ct (mmx_md hrt hr)
      have e4 := mplace_any (ins := ins) (pos := pos) hH n (md v t) (mtop v t) r (by omega) Ct (MX.top hH hC ht) (mcand_top hH hC hrt ht hr)
      rw [tr] at e1 e2
      rw [rt] at e3 e4
      rw [md_comm v t r] at e3 e4
      rw [e1, e2, e3, e4, (mtop_d (hC.le6 hH r)).1, (mtop_d (hC.le6 hH t)).1]
      exact mst_tp1 _ _ _ _ _ _ _ _ hrt
/-- an erase's place is where its cell is -/
theorem mrow_erase {ins pos tg : Nat → Nat} {mk : Nat → Nat} {cx : Nat → Nat → Nat} (hH : MH mk cx) {x : Nat} (h0 : ins x = 0) (hb : mrow ins pos cx (cx x) (pos x) = tg x) (hc3 : ∀ t, 3 ≤ t → cx x t = 0) : ∀ (n : Nat) (v : Nat → Nat), msz v = n → MC mk cx v → MX mk cx x v → mrow ins pos cx v (mplace ins pos cx x v) = tg x := by
  intro n
  induction n with
  | zero =>
    intro v hn hC hX
    have hv : v = cx x := by
      funext t
      have := hX.2.2 t
      unfold msz at hn
      by_cases ht : t < 3
      · rcases (show t = 0 ∨ t = 1 ∨ t = 2 by omega) with rfl | rfl | rfl <;> omega
      · have h1 := hC.1 t
        rw [hH.2.1 t (by omega)] at h1
        omega
    rw [mplace_none (mf_not (fun j hj q => by
      have := q.1
      rw [hv] at this
      omega)), hv]
    exact hb
  | succ n ih =>
    intro v hn hC hX
    by_cases hv : ∀ t, t < 3 → v t = cx x t
    · have hv : v = cx x := by
        funext t
        by_cases ht : t < 3
        · exact hv t ht
        · have h1 := hC.1 t
          rw [hH.2.1 t (by omega)] at h1
          rw [hc3 t (by omega)]
          omega
      rw [mplace_none (mf_not (fun j hj q => by
        have := q.1
        rw [hv] at this
        omega)), hv]
      exact hb
    · obtain ⟨t, ht⟩ := mcand_of_ne hH hC hX hv
      have zt := msz_md ht.2.1 ht.2.2.1
      have e := ih (md v t) (by omega) (hC.dn hH ht.2) (hX.dn ht)
      rw [mplace_any (ins := ins) (pos := pos) hH _ v x t rfl hC hX ht, mrow_any (ins := ins) (pos := pos) hH _ v t rfl hC ht.2, h0]
      generalize mplace ins pos cx x (md v t) = p at *
      generalize mplace ins pos cx (mtop v t) (md v t) = q
      unfold mst
      by_cases hy : ins (mtop v t) = 0
      · rw [if_pos hy, mmv_0 hy]
        exact e
      · rw [if_neg hy]
        unfold mIn
        by_cases hpq : q ≤ p
        · rw [mmv_1 ⟨hy, hpq, Or.inr (Or.inl rfl)⟩, if_neg (by omega), if_neg (by omega)]
          exact e
        · rw [mmv_2 (Or.inl (by omega)), if_pos (by omega)]
          exact e
/-! sums -/
def msum (f : Nat → Nat) : Nat → Nat
  | 0 => 0
  | n + 1 => msum f n + f n
theorem msum_congr {f g : Nat → Nat} : ∀ {n : Nat}, (∀ i, i < n → f i = g i) → msum f n = msum g n
  | 0, _ => rfl
  | n + 1, h => by
    simp only [msum]
    rw [msum_congr (n := n) (fun i hi => h i (by omega)), h n (by omega)]
theorem msum_le {f g : Nat → Nat} : ∀ {n : Nat}, (∀ i, i < n → f i ≤ g i) → msum f n ≤ msum g n
  | 0, _ => Nat.le_refl _
  | n + 1, h => by
    simp only [msum]
    exact Nat.add_le_add (msum_le (n := n) (fun i hi => h i (by omega))) (h n (by omega))
theorem msum_one {f g : Nat → Nat} {a d : Nat} : ∀ {n : Nat}, a < n → (∀ i, i < n → i ≠ a → f i = g i) → f a = g a + d → msum f n = msum g n + d
  | 0, h, _, _ => absurd h (Nat.not_lt_zero _)
  | n + 1, h, h1, h2 => by
    simp only [msum]
    by_cases e : a = n
    · subst e
      rw [msum_congr (n := a) (f := f) (g := g) (fun i hi => h1 i (by omega) (by omega)), h2]
      omega
    · rw [msum_one (n := n) (by omega) (fun i hi hne => h1 i (by omega) hne) h2, h1 n (by omega) (fun q => e q.symm)]
      omega
theorem msum_bound {f : Nat → Nat} {c : Nat} : ∀ {n : Nat}, (∀ i, i < n → f i ≤ c) → msum f n ≤ c * n
  | 0, _ => Nat.le_refl _
  | n + 1, h => by
    simp only [msum]
    have h1 := msum_bound (n := n) (fun i hi => h i (by omega))
    have h2 := h n (by omega)
    rw [Nat.mul_succ]
    omega
/-- how many inserts v has -/
def mcnt (ins : Nat → Nat) (v : Nat → Nat) : Nat := msum (fun o => if o % 6 < v (o / 6) ∧ ins o ≠ 0 then 1 else 0) 18
theorem mcnt_mono {ins : Nat → Nat} {v w : Nat → Nat} (h : ∀ t, v t ≤ w t) : mcnt ins v ≤ mcnt ins w := by
  unfold mcnt
  refine msum_le (fun i _ => ?_)
  have := h (i / 6)
  split
  · rename_i q
    rw [if_pos ⟨by omega, q.2⟩]
    exact Nat.le_refl _
  · exact Nat.zero_le _
theorem mcnt_md {ins : Nat → Nat} {v : Nat → Nat} {t : Nat} (ht : t < 3) (h0 : 0 < v t) (h6 : v t ≤ 6) : mcnt ins v = mcnt ins (md v t) + (if ins (mtop v t) ≠ 0 then 1 else 0) := by
  obtain ⟨d1, d2⟩ := mtop_d h6
  unfold mcnt
  refine msum_one (a := mtop v t) (by unfold mtop; omega) (fun i _ hne => ?_) ?_
  · by_cases hh : mh v i
    · have h2 := mh_md_ne hh hne
      unfold mh at hh h2
      by_cases hi : ins i ≠ 0
      · rw [if_pos ⟨hh, hi⟩, if_pos ⟨h2, hi⟩]
      · rw [if_neg (fun q => hi q.2), if_neg (fun q => hi q.2)]
    · have h2 : ¬ mh (md v t) i := fun q => hh (mh_md q)
      unfold mh at hh h2
      rw [if_neg (fun q => hh q.1), if_neg (fun q => h2 q.1)]
  · rw [d1, d2, md_self, if_neg (c := v t - 1 < v t - 1 ∧ _) (fun q => absurd q.1 (Nat.lt_irrefl _)), Nat.zero_add]
    by_cases hi : ins (mtop v t) ≠ 0
    · rw [if_pos hi, if_pos ⟨by omega, hi⟩]
    · rw [if_neg hi, if_neg (fun q => hi q.2)]
theorem mcnt_18 (ins v : Nat → Nat) : mcnt ins v ≤ 18 := by
  unfold mcnt
  have := msum_bound (f := fun o => if o % 6 < v (o / 6) ∧ ins o ≠ 0 then 1 else 0) (c := 1) (n := 18) (fun i _ => by split <;> omega)
  omega
theorem mmv_le (ix sx p iy sy q : Nat) : mmv ix sx p iy sy q ≤ p + (if iy ≠ 0 then 1 else 0) := by
  have := mmv_spec ix sx p iy sy q
  split <;> omega
/-- a place is in the row -/
theorem mplace_in {ins pos : Nat → Nat} {mk : Nat → Nat} {cx : Nat → Nat → Nat} (hH : MH mk cx) (d : Nat → Nat) (hp : ∀ o, mh mk o → pos o + d o ≤ mcnt ins (cx o)) : ∀ (n : Nat) (v : Nat → Nat) (x : Nat), msz v = n → MC mk cx v → MX mk cx x v → mplace ins pos cx x v + d x ≤ mcnt ins v := by
  intro n
  induction n with
  | zero =>
    intro v x hn hC hX
    cases hf : mf (mcand cx x v) with
    | none =>
      rw [mplace_none hf]
      exact Nat.le_trans (hp x hX.1) (mcnt_mono hX.2.2)
    | some r =>
      have hr := mf_some hf
      have zr := msz_md hr.2.1 hr.2.2.1
      omega
  | succ n ih =>
    intro v x hn hC hX
    cases hf : mf (mcand cx x v) with
    | none =>
      rw [mplace_none hf]
      exact Nat.le_trans (hp x hX.1) (mcnt_mono hX.2.2)
    | some r =>
      have hr := mf_some hf
      have zr := msz_md hr.2.1 hr.2.2.1
      have e := ih (md v r) x (by omega) (hC.dn hH hr.2) (hX.dn hr)
      rw [mplace_some hf, mcnt_md hr.2.1 hr.2.2.1 (hC.le6 hH r)]
      have := mmv_le (ins x) (x / 6) (mplace ins pos cx x (md v r)) (ins (mtop v r)) r (mplace ins pos cx (mtop v r) (md v r))
      omega
/-- what isn't in v doesn't matter -/
theorem mpl_congr {ins pos ins' pos' : Nat → Nat} {cx cx' : Nat → Nat → Nat} : ∀ (n x : Nat) (v : Nat → Nat), (∀ t, v t ≤ 6) → (ins x = ins' x ∧ pos x = pos' x ∧ cx x = cx' x) → (∀ o, mh v o → ins o = ins' o ∧ pos o = pos' o ∧ cx o = cx' o) → mpl ins pos cx n x v = mpl ins' pos' cx' n x v := by
  intro n
  induction n with
  | zero => intro x v h6 hx hv; exact hx.2.1
  | succ n ih =>
    intro x v h6 hx hv
    have hf : mf (mcand cx x v) = mf (mcand cx' x v) := by
      refine mf_congr (fun t => ?_)
      unfold mcand mmx
      rw [hx.2.2]
      constructor
      · rintro ⟨a, b, c, e⟩
        exact ⟨a, b, c, fun o ho hh => by rw [← (hv o hh).2.2]; exact e o ho hh⟩
      · rintro ⟨a, b, c, e⟩
        exact ⟨a, b, c, fun o ho hh => by rw [(hv o hh).2.2]; exact e o ho hh⟩
    simp only [mpl]
    rw [← hf]
    cases hr : mf (mcand cx x v) with
    | none => exact hx.2.1
    | some r =>
      have hc := mf_some hr
      have ht := hv _ (mh_top hc.2.2.1 (h6 r))
      have h6' : ∀ t, md v r t ≤ 6 := fun t => by
        have := h6 t
        unfold md
        split <;> omega
      show mmv _ _ _ _ _ _ = mmv _ _ _ _ _ _
      rw [ih x (md v r) h6' hx (fun o hh => hv o (mh_md hh)), ih (mtop v r) (md v r) h6' ht (fun o hh => hv o (mh_md hh)), hx.1, ht.1]
theorem mplace_congr {ins pos ins' pos' : Nat → Nat} {cx cx' : Nat → Nat → Nat} {x : Nat} {v : Nat → Nat} (h6 : ∀ t, v t ≤ 6) (hx : ins x = ins' x ∧ pos x = pos' x ∧ cx x = cx' x) (hv : ∀ o, mh v o → ins o = ins' o ∧ pos o = pos' o ∧ cx o = cx' o) : mplace ins pos cx x v = mplace ins' pos' cx' x v := mpl_congr _ _ _ h6 hx hv
theorem mrw_congr {ins pos ins' pos' : Nat → Nat} {cx cx' : Nat → Nat → Nat} : ∀ (n : Nat) (v : Nat → Nat), (∀ t, v t ≤ 6) → (∀ o, mh v o → ins o = ins' o ∧ pos o = pos' o ∧ cx o = cx' o) → mrw ins pos cx n v = mrw ins' pos' cx' n v := by
  intro n
  induction n with
  | zero => intro v h6 hv; rfl
  | succ n ih =>
    intro v h6 hv
    have hf : mf (mmx cx v) = mf (mmx cx' v) := by
      refine mf_congr (fun t => ?_)
      unfold mmx
      constructor
      · rintro ⟨b, c, e⟩
        exact ⟨b, c, fun o ho hh => by rw [← (hv o hh).2.2]; exact e o ho hh⟩
      · rintro ⟨b, c, e⟩
        exact ⟨b, c, fun o ho hh => by rw [(hv o hh).2.2]; exact e o ho hh⟩
    simp only [mrw]
    rw [← hf]
    cases hr : mf (mmx cx v) with
    | none => rfl
    | some r =>
      have hc := mf_some hr
      have ht := hv _ (mh_top hc.2.1 (h6 r))
      have h6' : ∀ t, md v r t ≤ 6 := fun t => by
        have := h6 t
        unfold md
        split <;> omega
      show mst _ _ _ _ = mst _ _ _ _
      rw [ih (md v r) h6' (fun o hh => hv o (mh_md hh)), mplace_congr h6' ht (fun o hh => hv o (mh_md hh))]
      unfold mst
      rw [ht.1]
theorem mrow_congr {ins pos ins' pos' : Nat → Nat} {cx cx' : Nat → Nat → Nat} {v : Nat → Nat} (h6 : ∀ t, v t ≤ 6) (hv : ∀ o, mh v o → ins o = ins' o ∧ pos o = pos' o ∧ cx o = cx' o) : mrow ins pos cx v = mrow ins' pos' cx' v := mrw_congr _ _ h6 hv
theorem mcnt_congr {ins ins' : Nat → Nat} {v : Nat → Nat} (hv : ∀ o, mh v o → ins o = ins' o) : mcnt ins v = mcnt ins' v := by
  unfold mcnt
  refine msum_congr (fun i _ => ?_)
  by_cases hh : mh v i
  · rw [hv i hh]
  · unfold mh at hh
    rw [if_neg (fun q => hh q.1), if_neg (fun q => hh q.1)]
/-! one operation more -/
def mu (v : Nat → Nat) (t : Nat) : Nat → Nat := fun j => if j = t then v j + 1 else v j
theorem mu_self {v : Nat → Nat} {t : Nat} : mu v t t = v t + 1 := by simp [mu]
theorem mu_ne {v : Nat → Nat} {t j : Nat} (h : j ≠ t) : mu v t j = v j := by simp [mu, h]
theorem md_mu (v : Nat → Nat) (t : Nat) : md (mu v t) t = v := by
  funext j
  unfold md mu
  split <;> omega
theorem mtop_mu (v : Nat → Nat) (t : Nat) : mtop (mu v t) t = 6 * t + v t := by
  unfold mtop
  rw [mu_self]
  omega
theorem mh_mu {v : Nat → Nat} {t o : Nat} (h6 : v t < 6) (h : mh (mu v t) o) : mh v o ∨ o = 6 * t + v t := by
  unfold mh mu at *
  split at h
  · rename_i e
    rw [e] at h ⊢
    omega
  · exact Or.inl h
theorem mh_mu_of {v : Nat → Nat} {t o : Nat} (h : mh v o) : mh (mu v t) o := by
  unfold mh mu at *
  split <;> omega
/-- x is ready at v -/
theorem MX.ready {mk : Nat → Nat} {cx : Nat → Nat → Nat} {x : Nat} {v : Nat → Nat} (hx : mh mk x) (hv : v (x / 6) = x % 6) (hc : ∀ t, cx x t ≤ v t) : MX mk cx x v := ⟨hx, by unfold mh; omega, hc⟩
theorem MC.inc {mk : Nat → Nat} {cx : Nat → Nat → Nat} {x : Nat} {v : Nat → Nat} (hH : MH mk cx) (hC : MC mk cx v) (hx : mh mk x) (hv : v (x / 6) = x % 6) (hc : ∀ t, cx x t ≤ v t) : MC mk cx (mu v (x / 6)) ∧ mmx cx (mu v (x / 6)) (x / 6) := by
  have hx' : x % 6 < mk (x / 6) := hx
  have h6 := hH.1 (x / 6)
  have hx3 : x / 6 < 3 := by
    by_cases q : x / 6 < 3
    · exact q
    · have := hH.2.1 (x / 6) (by omega)
      omega
  have key : ∀ o, mh (mu v (x / 6)) o → ∀ t, cx o t ≤ v t := by
    intro o ho t
    rcases mh_mu (by omega) ho with h | h
    · exact hC.2 o h t
    · rw [hv] at h
      rw [show o = x by omega]
      exact hc t
  refine ⟨⟨fun t => ?_, fun o ho t => ?_⟩, hx3, ?_, fun o _ ho => ?_⟩
  · by_cases e : t = x / 6
    · subst e
      rw [mu_self]
      omega
    · rw [mu_ne e]
      exact hC.1 t
  · have := key o ho t
    unfold mu
    split <;> omega
  · rw [mu_self]; omega
  · have := key o ho (x / 6)
    rw [mu_self]
    omega
theorem mrow_mu {ins pos : Nat → Nat} {mk : Nat → Nat} {cx : Nat → Nat → Nat} {x : Nat} {v : Nat → Nat} (hH : MH mk cx) (hC : MC mk cx v) (hx : mh mk x) (hv : v (x / 6) = x % 6) (hc : ∀ t, cx x t ≤ v t) : mrow ins pos cx (mu v (x / 6)) = mst ins (mrow ins pos cx v) x (mplace ins pos cx x v) := by
  obtain ⟨h1, h2⟩ := MC.inc hH hC hx hv hc
  have e := mrow_any (ins := ins) (pos := pos) hH _ (mu v (x / 6)) (x / 6) rfl h1 h2
  rw [md_mu, mtop_mu, hv, show 6 * (x / 6) + x % 6 = x by omega] at e
  exact e
theorem mcnt_mu {ins : Nat → Nat} {x : Nat} {v : Nat → Nat} (hx3 : x / 6 < 3) (hv : v (x / 6) = x % 6) : mcnt ins (mu v (x / 6)) = mcnt ins v + (if ins x ≠ 0 then 1 else 0) := by
  have e := mcnt_md (ins := ins) (v := mu v (x / 6)) (t := x / 6) hx3 (by rw [mu_self]; omega) (by rw [mu_self]; omega)
  rw [md_mu, mtop_mu, hv, show 6 * (x / 6) + x % 6 = x by omega] at e
  exact e
/-- at its own context an operation has its position -/
theorem mplace_own {ins pos : Nat → Nat} {cx : Nat → Nat → Nat} {x : Nat} {v : Nat → Nat} (h : ∀ t, t < 3 → v t = cx x t) : mplace ins pos cx x v = pos x := mplace_none (mf_not (fun j hj q => by
  have := q.1
  have := h j hj
  omega))
/-- only the last operations matter -/
theorem mmx_tops {mk : Nat → Nat} {cx : Nat → Nat → Nat} {v : Nat → Nat} {t : Nat} (hH : MH mk cx) (hC : MC mk cx v) (ht : t < 3) (h0 : 0 < v t) (h : ∀ s, s < 3 → 0 < v s → cx (mtop v s) t < v t) : mmx cx v t := by
  refine ⟨ht, h0, fun o ho hh => ?_⟩
  have hv : o % 6 < v (o / 6) := hh
  have h1 := h (o / 6) (by omega) (by omega)
  have h6 := hC.le6 hH (o / 6)
  have hht := mh_top (v := v) (t := o / 6) (by omega) h6
  obtain ⟨d1, d2⟩ := mtop_d h6
  have hz := (hH.2.2 _ (hC.made hht))
  rw [d1, d2] at hz
  by_cases e : o = mtop v (o / 6)
  · rw [← e] at h1
    exact h1
  · have := hz.2.2 o (by
      unfold mh
      rw [hz.1]
      unfold mtop at e
      omega) t
    omega
end
section
/-! The state, as the reference holds it: σ k j is what array k has at j (1 made, 2 inserts, 3 position, 4 letter, 5 context, 6 arrived, 7 where + 1, 8 vector, 9 target + 1, 10 count, 11 cells, 12 visible; 13 and 14 are scratch). -/
abbrev rS : Type := Nat → Nat → Nat
def s_mk (σ : rS) (t : Nat) : Nat := if t < 3 then σ 1 t else 0
def s_cx (σ : rS) (o t : Nat) : Nat := if t < 3 then σ 5 (3 * o + t) else 0
def s_vc (σ : rS) (s t : Nat) : Nat := if t < 3 then σ 8 (3 * s + t) else 0
noncomputable def s_pl (σ : rS) (o : Nat) (v : Nat → Nat) : Nat := mplace (σ 2) (σ 3) (s_cx σ) o v
noncomputable def s_row (σ : rS) (v : Nat → Nat) : Nat → Nat := mrow (σ 2) (σ 3) (s_cx σ) v
def IH (S : Nat) (σ : rS) : Prop := (S = 2 ∨ S = 3) ∧ (∀ t, S ≤ t → σ 1 t = 0) ∧ MH (s_mk σ) (s_cx σ) ∧ ∀ o, mh (s_mk σ) o → (σ 3 o + (if σ 2 o = 0 then 1 else 0) ≤ mcnt (σ 2) (s_cx σ o)) ∧ (σ 2 o = 0 → σ 4 o = 0 ∧ σ 9 o = 1 + s_row σ (s_cx σ o) (σ 3 o)) ∧ (σ 2 o ≠ 0 → σ 2 o = 1 ∧ 1 ≤ σ 4 o ∧ σ 4 o ≤ 255)
/-- a site, but for its own number -/
def IW (σ : rS) (s : Nat) : Prop := MC (s_mk σ) (s_cx σ) (s_vc σ s) ∧ σ 10 s = mcnt (σ 2) (s_vc σ s) ∧ (∀ i, i < σ 10 s → σ 11 (18 * s + i) = s_row σ (s_vc σ s) i ∧ mh (s_vc σ s) (σ 11 (18 * s + i)) ∧ σ 2 (σ 11 (18 * s + i)) ≠ 0) ∧ (∀ i j, i < σ 10 s → j < σ 10 s → σ 11 (18 * s + i) = σ 11 (18 * s + j) → i = j) ∧ ∀ o, o < 18 → (σ 7 (18 * s + o) ≠ 0 ↔ mh (s_vc σ s) o) ∧ σ 7 (18 * s + o) ≤ 18 ∧ (mh (s_vc σ s) o → σ 6 (18 * s + o) ≠ 0) ∧ (σ 6 (18 * s + o) ≠ 0 → mh (s_mk σ) o)
def INV (S : Nat) (σ : rS) : Prop := IH S σ ∧ ∀ s, s < S → IW σ s ∧ s_vc σ s s = s_mk σ s
/-- an operation is executed at place p -/
def exS (σ : rS) (s o p : Nat) : rS := fun k j =>
  if k = 7 ∧ j = 18 * s + o then p + 1
  else if k = 8 ∧ j = 3 * s + o / 6 then σ 8 j + 1
  else if σ 2 o ≠ 0 then
    if k = 10 ∧ j = s then σ 10 j + 1
    else if k = 11 ∧ 18 * s + p ≤ j ∧ j ≤ 18 * s + σ 10 s then (if j = 18 * s + p then o else σ 11 (j - 1))
    else if k = 12 ∧ 18 * s + p ≤ j ∧ j ≤ 18 * s + σ 10 s then (if j = 18 * s + p then 1 else σ 12 (j - 1))
    else σ k j
  else if k = 12 ∧ j = 18 * s + p then 0
  else σ k j
theorem exS_lo {σ : rS} {s o p k : Nat} (h : k ≤ 6 ∨ k = 9 ∨ 12 < k) : exS σ s o p k = σ k := by
  funext j
  unfold exS
  rw [if_neg (by omega), if_neg (by omega)]
  split
  · rw [if_neg (by omega), if_neg (by omega), if_neg (by omega)]
  · rw [if_neg (by omega)]
theorem exS_7 {σ : rS} {s o p j : Nat} : exS σ s o p 7 j = if j = 18 * s + o then p + 1 else σ 7 j := by
  unfold exS
  by_cases h : j = 18 * s + o
  · rw [if_pos ⟨rfl, h⟩, if_pos h]
  · rw [if_neg (fun q => h q.2), if_neg h, if_neg (by omega)]
    split
    · rw [if_neg (by omega), if_neg (by omega), if_neg (by omega)]
    · rw [if_neg (by omega)]
theorem exS_8 {σ : rS} {s o p j : Nat} : exS σ s o p 8 j = if j = 3 * s + o / 6 then σ 8 j + 1 else σ 8 j := by
  unfold exS
  rw [if_neg (by omega)]
  by_cases h : j = 3 * s + o / 6
  · rw [if_pos ⟨rfl, h⟩, if_pos h]
  · rw [if_neg (fun q => h q.2), if_neg h]
    split
    · rw [if_neg (by omega), if_neg (by omega), if_neg (by omega)]
    · rw [if_neg (by omega)]
theorem exS_10 {σ : rS} {s o p j : Nat} : exS σ s o p 10 j = if σ 2 o ≠ 0 ∧ j = s then σ 10 j + 1 else σ 10 j := by
  unfold exS
  rw [if_neg (by omega), if_neg (by omega)]
  by_cases h : σ 2 o ≠ 0
  · rw [if_pos h]
    by_cases hj : j = s
    · rw [if_pos ⟨rfl, hj⟩, if_pos ⟨h, hj⟩]
    · rw [if_neg (fun q => hj q.2), if_neg (by omega), if_neg (by omega), if_neg (fun q => hj q.2)]
  · rw [if_neg h, if_neg (by omega), if_neg (fun q => h q.1)]
theorem exS_11 {σ : rS} {s o p j : Nat} : exS σ s o p 11 j = if σ 2 o ≠ 0 ∧ 18 * s + p ≤ j ∧ j ≤ 18 * s + σ 10 s then (if j = 18 * s + p then o else σ 11 (j - 1)) else σ 11 j := by
  unfold exS
  rw [if_neg (by omega), if_neg (by omega)]
  by_cases h : σ 2 o ≠ 0
  · rw [if_pos h, if_neg (by omega)]
    by_cases hj : 18 * s + p ≤ j ∧ j ≤ 18 * s + σ 10 s
    · rw [if_pos ⟨rfl, hj⟩, if_pos (c := σ 2 o ≠ 0 ∧ 18 * s + p ≤ j ∧ j ≤ 18 * s + σ 10 s) ⟨h, hj⟩]
    · rw [if_neg (fun q => hj q.2), if_neg (by omega), if_neg (fun q => hj q.2)]
  · rw [if_neg h, if_neg (by omega), if_neg (fun q => h q.1)]
theorem exS_12 {σ : rS} {s o p j : Nat} : exS σ s o p 12 j = if σ 2 o ≠ 0 then (if 18 * s + p ≤ j ∧ j ≤ 18 * s + σ 10 s then (if j = 18 * s + p then 1 else σ 12 (j - 1)) else σ 12 j) else (if j = 18 * s + p then 0 else σ 12 j) := by
  unfold exS
  rw [if_neg (by omega), if_neg (by omega)]
  by_cases h : σ 2 o ≠ 0
  · rw [if_pos h, if_pos h, if_neg (by omega), if_neg (by omega)]
    by_cases hj : 18 * s + p ≤ j ∧ j ≤ 18 * s + σ 10 s
    · rw [if_pos ⟨rfl, hj⟩, if_pos hj]
    · rw [if_neg (fun q => hj q.2), if_neg hj]
  · rw [if_neg h, if_neg h]
    by_cases hj : j = 18 * s + p
    · rw [if_pos ⟨rfl, hj⟩, if_pos hj]
    · rw [if_neg (fun q => hj q.2), if_neg hj]
theorem exS_mk {σ : rS} {s o p : Nat} : s_mk (exS σ s o p) = s_mk σ := by
  funext t
  unfold s_mk
  rw [exS_lo (k := 1) (by omega)]
theorem exS_cx {σ : rS} {s o p : Nat} : s_cx (exS σ s o p) = s_cx σ := by
  funext o' t
  unfold s_cx
  rw [exS_lo (k := 5) (by omega)]
theorem exS_row {σ : rS} {s o p : Nat} : s_row (exS σ s o p) = s_row σ := by
  funext v
  unfold s_row
  rw [exS_cx, exS_lo (k := 2) (by omega), exS_lo (k := 3) (by omega)]
theorem exS_pl {σ : rS} {s o p : Nat} : s_pl (exS σ s o p) = s_pl σ := by
  funext x v
  unfold s_pl
  rw [exS_cx, exS_lo (k := 2) (by omega), exS_lo (k := 3) (by omega)]
theorem exS_IH {S : Nat} {σ : rS} {s o p : Nat} (h : IH S σ) : IH S (exS σ s o p) := by
  unfold IH
  rw [exS_mk, exS_cx, exS_row, exS_lo (k := 1) (by omega), exS_lo (k := 2) (by omega), exS_lo (k := 3) (by omega), exS_lo (k := 4) (by omega), exS_lo (k := 9) (by omega)]
  exact h
theorem exS_vc_ne {σ : rS} {s o p s' : Nat} (ho : o < 18) (h : s' ≠ s) : s_vc (exS σ s o p) s' = s_vc σ s' := by
  funext t
  unfold s_vc
  by_cases ht : t < 3
  · rw [if_pos ht, if_pos ht, exS_8, if_neg (by omega)]
  · rw [if_neg ht, if_neg ht]
theorem exS_vc {σ : rS} {s o p : Nat} (ho : o < 18) : s_vc (exS σ s o p) s = mu (s_vc σ s) (o / 6) := by
  funext t
  unfold s_vc mu
  dsimp only
  by_cases ht : t < 3
  · rw [if_pos ht, if_pos ht, exS_8]
    by_cases h : t = o / 6
    · rw [if_pos (by omega), if_pos h]
    · rw [if_neg (by omega), if_neg h]
  · rw [if_neg ht, if_neg ht, if_neg (by omega)]
theorem exS_IW_ne {σ : rS} {s o p s' : Nat} (ho : o < 18) (h10 : σ 2 o ≠ 0 → σ 10 s < 18) (h : s' ≠ s) (h10' : σ 10 s' ≤ 18) (hI : IW σ s') : IW (exS σ s o p) s' := by
  obtain ⟨h1, h2, h3, h4, h5⟩ := hI
  have e10 : exS σ s o p 10 s' = σ 10 s' := by
    rw [exS_10, if_neg (fun q => h q.2)]
  have e11 : ∀ i, i < 18 → exS σ s o p 11 (18 * s' + i) = σ 11 (18 * s' + i) := by
    intro i hi
    rw [exS_11, if_neg]
    rintro ⟨z, z1, z2⟩
    have := h10 z
    omega
  have e7 : ∀ i, i < 18 → exS σ s o p 7 (18 * s' + i) = σ 7 (18 * s' + i) := by
    intro i hi
    rw [exS_7, if_neg (by omega)]
  unfold IW
  rw [exS_mk, exS_cx, exS_row, exS_vc_ne ho h, e10, exS_lo (k := 2) (by omega), exS_lo (k := 6) (by omega)]
  refine ⟨h1, h2, fun i hi => ?_, fun i j hi hj => ?_, fun o' ho' => ?_⟩
  · rw [e11 i (by omega)]
    exact h3 i hi
  · rw [e11 i (by omega), e11 j (by omega)]
    exact h4 i j hi hj
  · rw [e7 o' ho']
    exact h5 o' ho'
/-- what an execution needs -/
def RDY (σ : rS) (s o : Nat) : Prop := mh (s_mk σ) o ∧ s_vc σ s (o / 6) = o % 6 ∧ (∀ t, s_cx σ o t ≤ s_vc σ s t) ∧ σ 6 (18 * s + o) ≠ 0
theorem IH.lt18 {S : Nat} {σ : rS} (h : IH S σ) {o : Nat} (ho : mh (s_mk σ) o) : o < 18 := by
  unfold mh at ho
  by_cases h3 : 3 ≤ o / 6
  · rw [h.2.2.1.2.1 _ h3] at ho
    omega
  · omega
theorem RDY.in {S : Nat} {σ : rS} {s o : Nat} (hH : IH S σ) (hI : IW σ s) (h : RDY σ s o) : s_pl σ o (s_vc σ s) + (if σ 2 o = 0 then 1 else 0) ≤ σ 10 s ∧ (σ 2 o ≠ 0 → σ 10 s < 18) := by
  have hX := MX.ready h.1 h.2.1 h.2.2.1
  have h18 := hH.lt18 h.1
  constructor
  · rw [hI.2.1]
    exact mplace_in hH.2.2.1 (fun o => if σ 2 o = 0 then 1 else 0) (fun o ho => (hH.2.2.2 o ho).1) _ _ _ rfl hI.1 hX
  · intro h2
    have e := mcnt_mu (ins := σ 2) (x := o) (v := s_vc σ s) (by omega) h.2.1
    rw [if_pos h2, ← hI.2.1] at e
    have := mcnt_18 (σ 2) (mu (s_vc σ s) (o / 6))
    omega
theorem exS_IW {S : Nat} {σ : rS} {s o : Nat} (hH : IH S σ) (hI : IW σ s) (h : RDY σ s o) : IW (exS σ s o (s_pl σ o (s_vc σ s))) s := by
  obtain ⟨hp, h18⟩ := h.in hH hI
  have ho := hH.lt18 h.1
  obtain ⟨h1, h2, h3, h4, h5⟩ := hI
  have hnot : ¬ mh (s_vc σ s) o := (MX.ready h.1 h.2.1 h.2.2.1).2.1
  have hrow := mrow_mu (ins := σ 2) (pos := σ 3) hH.2.2.1 h1 h.1 h.2.1 h.2.2.1
  have hcnt := mcnt_mu (ins := σ 2) (x := o) (v := s_vc σ s) (by omega) h.2.1
  have hle := mcnt_18 (σ 2) (s_vc σ s)
  rw [← h2] at hle
  have hpd : s_pl σ o (s_vc σ s) = mplace (σ 2) (σ 3) (s_cx σ) o (s_vc σ s) := rfl
  rw [← hpd] at hrow
  generalize s_pl σ o (s_vc σ s) = p at *
  have hmu : ∀ o', mh (mu (s_vc σ s) (o / 6)) o' ↔ mh (s_vc σ s) o' ∨ o' = o := by
    intro o'
    constructor
    · intro q
      rcases mh_mu (by rw [h.2.1]; omega) q with q | q
      · exact Or.inl q
      · rw [h.2.1] at q
        exact Or.inr (by omega)
    · rintro (q | q)
      · exact mh_mu_of q
      · subst q
        unfold mh
        rw [mu_self, h.2.1]
        omega
  unfold IW
  rw [exS_mk, exS_cx, exS_row, exS_vc ho, exS_lo (k := 2) (by omega), exS_lo (k := 6) (by omega)]
  refine ⟨(MC.inc hH.2.2.1 h1 h.1 h.2.1 h.2.2.1).1, ?_, ?_, ?_, ?_⟩
  · rw [exS_10, hcnt, h2]
    by_cases q : σ 2 o ≠ 0
    · rw [if_pos ⟨q, rfl⟩, if_pos q]
    · rw [if_neg (fun z => q z.1), if_neg q]
      rfl
  · intro i hi
    rw [exS_10] at hi
    rw [exS_11]
    unfold s_row
    rw [hrow]
    unfold mst
    by_cases q : σ 2 o = 0
    · rw [if_neg (fun z => z.1 q)] at hi
      rw [if_neg (fun z => z.1 q), if_pos q]
      obtain ⟨a, b, c⟩ := h3 i hi
      exact ⟨a, (hmu _).mpr (Or.inl b), c⟩
    · rw [if_pos ⟨q, rfl⟩] at hi
      rw [if_neg q]
      unfold mIn
      rw [if_neg q] at hp
      by_cases g1 : i < p
      · rw [if_neg (by omega), if_pos g1]
        obtain ⟨a, b, c⟩ := h3 i (by omega)
        exact ⟨a, (hmu _).mpr (Or.inl b), c⟩
      · by_cases g2 : i = p
        · rw [if_pos ⟨q, by omega, by omega⟩, if_pos (by omega), if_neg g1, if_pos g2]
          exact ⟨rfl, (hmu _).mpr (Or.inr rfl), q⟩
        · rw [if_pos ⟨q, by omega, by omega⟩, if_neg (by omega), if_neg g1, if_neg g2, show 18 * s + i - 1 = 18 * s + (i - 1) by omega]
          obtain ⟨a, b, c⟩ := h3 (i - 1) (by omega)
          exact ⟨a, (hmu _).mpr (Or.inl b), c⟩
  · intro i j hi hj
    rw [exS_10] at hi hj
    rw [exS_11, exS_11]
    by_cases q : σ 2 o = 0
    · rw [if_neg (fun z => z.1 q)] at hi hj
      rw [if_neg (fun z => z.1 q), if_neg (fun z => z.1 q)]
      exact h4 i j hi hj
    · rw [if_pos ⟨q, rfl⟩] at hi hj
      rw [if_neg q] at hp
      have key : ∀ i, i < σ 10 s + 1 → ∃ x, (if σ 2 o ≠ 0 ∧ 18 * s + p ≤ 18 * s + i ∧ 18 * s + i ≤ 18 * s + σ 10 s then (if 18 * s + i = 18 * s + p then o else σ 11 (18 * s + i - 1)) else σ 11 (18 * s + i)) = x ∧ ((i = p ∧ x = o) ∨ (i < p ∧ x = σ 11 (18 * s + i)) ∨ (p < i ∧ x = σ 11 (18 * s + (i - 1)))) := by
        intro i hi
        refine ⟨_, rfl, ?_⟩
        by_cases g1 : i < p
        · rw [if_neg (by omega)]
          exact Or.inr (Or.inl ⟨g1, rfl⟩)
        · rw [if_pos ⟨q, by omega, by omega⟩]
          by_cases g2 : i = p
          · rw [if_pos (by omega)]
            exact Or.inl ⟨g2, rfl⟩
          · rw [if_neg (by omega), show 18 * s + i - 1 = 18 * s + (i - 1) by omega]
            exact Or.inr (Or.inr ⟨by omega, rfl⟩)
      have no : ∀ i, i < σ 10 s → σ 11 (18 * s + i) ≠ o := fun i hi z => hnot (z ▸ (h3 i hi).2.1)
      obtain ⟨x, ex, hx⟩ := key i hi
      obtain ⟨y, ey, hy⟩ := key j hj
      rw [ex, ey]
      intro hxy
      subst hxy
      rcases hx with ⟨a, b⟩ | ⟨a, b⟩ | ⟨a, b⟩ <;> rcases hy with ⟨a', b'⟩ | ⟨a', b'⟩ | ⟨a', b'⟩
      · omega
      · exact absurd (b'.symm.trans b) (no j (by omega))
      · exact absurd (b'.symm.trans b) (no (j - 1) (by omega))
      · exact absurd (b.symm.trans b') (no i (by omega))
      · exact h4 i j (by omega) (by omega) (b.symm.trans b')
      · have := h4 i (j - 1) (by omega) (by omega) (b.symm.trans b')
        omega
      · exact absurd (b.symm.trans b') (no (i - 1) (by omega))
      · have := h4 (i - 1) j (by omega) (by omega) (b.symm.trans b')
        omega
      · have := h4 (i - 1) (j - 1) (by omega) (by omega) (b.symm.trans b')
        omega
  · intro o' ho'
    rw [exS_7]
    obtain ⟨a, b, c, d⟩ := h5 o' ho'
    by_cases q : o' = o
    · subst q
      rw [if_pos rfl]
      refine ⟨⟨fun _ => (hmu _).mpr (Or.inr rfl), fun _ => by omega⟩, ?_, fun _ => h.2.2.2, d⟩
      by_cases z : σ 2 o' = 0
      · rw [if_pos z] at hp
        omega
      · have := h18 z
        rw [if_neg z] at hp
        omega
    · rw [if_neg (by omega)]
      refine ⟨⟨fun z => (hmu _).mpr (Or.inl (a.mp z)), fun z => ?_⟩, b, fun z => ?_, d⟩
      · rcases (hmu _).mp z with z | z
        · exact a.mpr z
        · exact absurd z q
      · rcases (hmu _).mp z with z | z
        · exact c z
        · exact absurd z q
theorem INV.in18 {S : Nat} {σ : rS} {s : Nat} (hI : IW σ s) : σ 10 s ≤ 18 := by
  rw [hI.2.1]
  exact mcnt_18 _ _
theorem exS_INV {S : Nat} {σ : rS} {s o : Nat} (h : INV S σ) (hs : s < S) (hr : RDY σ s o) (hne : o / 6 ≠ s) : INV S (exS σ s o (s_pl σ o (s_vc σ s))) := by
  have ho := h.1.lt18 hr.1
  obtain ⟨hp, h18⟩ := hr.in h.1 (h.2 s hs).1
  refine ⟨exS_IH h.1, fun s' hs' => ?_⟩
  by_cases e : s' = s
  · subst e
    refine ⟨exS_IW h.1 (h.2 s' hs').1 hr, ?_⟩
    rw [exS_mk, exS_vc ho, mu_ne (fun z => hne z.symm)]
    exact (h.2 s' hs').2
  · refine ⟨?_, ?_⟩
    · exact exS_IW_ne ho h18 e (INV.in18 (S := S) (h.2 s' hs').1) (h.2 s' hs').1
    · rw [exS_mk, exS_vc_ne ho e]
      exact (h.2 s' hs').2
/-- an operation is made, not yet executed -/
def adS (σ : rS) (s b p c : Nat) : rS := fun k j =>
  if k = 1 ∧ j = s then σ 1 j + 1
  else if k = 2 ∧ j = 6 * s + σ 1 s then b
  else if k = 3 ∧ j = 6 * s + σ 1 s then p
  else if k = 4 ∧ j = 6 * s + σ 1 s then c
  else if k = 5 ∧ 3 * (6 * s + σ 1 s) ≤ j ∧ j < 3 * (6 * s + σ 1 s) + 3 then σ 8 (3 * s + (j - 3 * (6 * s + σ 1 s)))
  else if k = 6 ∧ j = 18 * s + (6 * s + σ 1 s) then 1
  else if k = 9 ∧ j = 6 * s + σ 1 s then (if b = 0 then σ 11 (18 * s + p) + 1 else 0)
  else σ k j
/-- made and executed -/
def mkS (σ : rS) (s b p c : Nat) : rS := exS (adS σ s b p c) s (6 * s + σ 1 s) p
theorem adS_hi {σ : rS} {s b p c k : Nat} (h : k = 7 ∨ k = 8 ∨ 9 < k ∨ k = 0) : adS σ s b p c k = σ k := by
  funext j
  unfold adS
  rw [if_neg (by omega), if_neg (by omega), if_neg (by omega), if_neg (by omega), if_neg (by omega), if_neg (by omega), if_neg (by omega)]
theorem adS_1 {σ : rS} {s b p c j : Nat} : adS σ s b p c 1 j = if j = s then σ 1 j + 1 else σ 1 j := by
  unfold adS
  by_cases h : j = s
  · rw [if_pos ⟨rfl, h⟩, if_pos h]
  · rw [if_neg (fun q => h q.2), if_neg h, if_neg (by omega), if_neg (by omega), if_neg (by omega), if_neg (by omega), if_neg (by omega), if_neg (by omega)]
theorem adS_2 {σ : rS} {s b p c j : Nat} : adS σ s b p c 2 j = if j = 6 * s + σ 1 s then b else σ 2 j := by
  unfold adS
  by_cases h : j = 6 * s + σ 1 s
  · rw [if_neg (by omega), if_pos ⟨rfl, h⟩, if_pos h]
  · rw [if_neg (by omega), if_neg (fun q => h q.2), if_neg h, if_neg (by omega), if_neg (by omega), if_neg (by omega), if_neg (by omega), if_neg (by omega)]
theorem adS_3 {σ : rS} {s b p c j : Nat} : adS σ s b p c 3 j = if j = 6 * s + σ 1 s then p else σ 3 j := by
  unfold adS
  by_cases h : j = 6 * s + σ 1 s
  · rw [if_neg (by omega), if_neg (by omega), if_pos ⟨rfl, h⟩, if_pos h]
  · rw [if_neg (by omega), if_neg (by omega), if_neg (fun q => h q.2), if_neg h, if_neg (by omega), if_neg (by omega), if_neg (by omega), if_neg (by omega)]
theorem adS_4 {σ : rS} {s b p c j : Nat} : adS σ s b p c 4 j = if j = 6 * s + σ 1 s then c else σ 4 j := by
  unfold adS
  by_cases h : j = 6 * s + σ 1 s
  · rw [if_neg (by omega), if_neg (by omega), if_neg (by omega), if_pos ⟨rfl, h⟩, if_pos h]
  · rw [if_neg (by omega), if_neg (by omega), if_neg (by omega), if_neg (fun q => h q.2), if_neg h, if_neg (by omega), if_neg (by omega), if_neg (by omega)]
theorem adS_5 {σ : rS} {s b p c j : Nat} : adS σ s b p c 5 j = if 3 * (6 * s + σ 1 s) ≤ j ∧ j < 3 * (6 * s + σ 1 s) + 3 then σ 8 (3 * s + (j - 3 * (6 * s + σ 1 s))) else σ 5 j := by
  unfold adS
  by_cases h : 3 * (6 * s + σ 1 s) ≤ j ∧ j < 3 * (6 * s + σ 1 s) + 3
  · rw [if_neg (by omega), if_neg (by omega), if_neg (by omega), if_neg (by omega), if_pos ⟨rfl, h⟩, if_pos h]
  · rw [if_neg (by omega), if_neg (by omega), if_neg (by omega), if_neg (by omega), if_neg (fun q => h q.2), if_neg h, if_neg (by omega), if_neg (by omega)]
theorem adS_6 {σ : rS} {s b p c j : Nat} : adS σ s b p c 6 j = if j = 18 * s + (6 * s + σ 1 s) then 1 else σ 6 j := by
  unfold adS
  by_cases h : j = 18 * s + (6 * s + σ 1 s)
  · rw [if_neg (by omega), if_neg (by omega), if_neg (by omega), if_neg (by omega), if_neg (by omega), if_pos ⟨rfl, h⟩, if_pos h]
  · rw [if_neg (by omega), if_neg (by omega), if_neg (by omega), if_neg (by omega), if_neg (by omega), if_neg (fun q => h q.2), if_neg h, if_neg (by omega)]
theorem adS_9 {σ : rS} {s b p c j : Nat} : adS σ s b p c 9 j = if j = 6 * s + σ 1 s then (if b = 0 then σ 11 (18 * s + p) + 1 else 0) else σ 9 j := by
  unfold adS
  by_cases h : j = 6 * s + σ 1 s
  · rw [if_neg (by omega), if_neg (by omega), if_neg (by omega), if_neg (by omega), if_neg (by omega), if_neg (by omega), if_pos ⟨rfl, h⟩, if_pos h]
  · rw [if_neg (by omega), if_neg (by omega), if_neg (by omega), if_neg (by omega), if_neg (by omega), if_neg (by omega), if_neg (fun q => h q.2), if_neg h]
theorem adS_mk {σ : rS} {s b p c : Nat} (hs : s < 3) : s_mk (adS σ s b p c) = mu (s_mk σ) s := by
  funext t
  unfold s_mk mu
  dsimp only
  by_cases ht : t < 3
  · rw [if_pos ht, if_pos ht, adS_1]
  · rw [if_neg ht, if_neg ht, if_neg (by omega)]
theorem adS_cx {σ : rS} {s b p c : Nat} : s_cx (adS σ s b p c) = fun o => if o = 6 * s + σ 1 s then s_vc σ s else s_cx σ o := by
  funext o t
  unfold s_cx
  by_cases ho : o = 6 * s + σ 1 s
  · rw [if_pos ho]
    unfold s_vc
    by_cases ht : t < 3
    · rw [if_pos ht, if_pos ht, adS_5, if_pos (by omega), ho, show 3 * (6 * s + σ 1 s) + t - 3 * (6 * s + σ 1 s) = t by omega]
    · rw [if_neg ht, if_neg ht]
  · rw [if_neg ho]
    by_cases ht : t < 3
    · rw [if_pos ht, if_pos ht, adS_5, if_neg (by omega)]
    · rw [if_neg ht, if_neg ht]
theorem adS_vc {σ : rS} {s b p c : Nat} : s_vc (adS σ s b p c) = s_vc σ := by
  funext s' t
  unfold s_vc
  rw [adS_hi (k := 8) (by omega)]
theorem mkS_INV {S : Nat} {σ : rS} {s b p c : Nat} (h : INV S σ) (hs : s < S) (h6 : σ 1 s < 6) (hb : b = 0 ∧ c = 0 ∧ p < σ 10 s ∨ b = 1 ∧ 1 ≤ c ∧ c ≤ 255 ∧ p ≤ σ 10 s) : INV S (mkS σ s b p c) ∧ RDY (adS σ s b p c) s (6 * s + σ 1 s) ∧ s_pl (adS σ s b p c) (6 * s + σ 1 s) (s_vc σ s) = p ∧ IH S (adS σ s b p c) ∧ IW (adS σ s b p c) s := by
  obtain ⟨hH, hS⟩ := h
  have hS3 : S ≤ 3 := by
    have := hH.1
    omega
  have hs3 : s < 3 := by omega
  have hmks : s_mk σ s = σ 1 s := by unfold s_mk; rw [if_pos hs3]
  have hM := hH.2.2.1
  have hvs := (hS s hs).2
  have od : (6 * s + σ 1 s) / 6 = s ∧ (6 * s + σ 1 s) % 6 = σ 1 s := by omega
  have hne : ∀ o', mh (s_mk σ) o' → o' ≠ 6 * s + σ 1 s := by
    intro o' ho' e
    subst e
    unfold mh at ho'
    rw [od.1, od.2, hmks] at ho'
    omega
  have hnv : ∀ v : Nat → Nat, (∀ t, v t ≤ s_mk σ t) → ∀ o', mh v o' → o' ≠ 6 * s + σ 1 s := fun v hv o' ho' => hne o' (Nat.lt_of_lt_of_le ho' (hv _))
  generalize hσ1 : adS σ s b p c = σ1
  have e2 : ∀ o', o' ≠ 6 * s + σ 1 s → σ1 2 o' = σ 2 o' := fun o' q => by rw [← hσ1, adS_2, if_neg q]
  have e3 : ∀ o', o' ≠ 6 * s + σ 1 s → σ1 3 o' = σ 3 o' := fun o' q => by rw [← hσ1, adS_3, if_neg q]
  have e4 : ∀ o', o' ≠ 6 * s + σ 1 s → σ1 4 o' = σ 4 o' := fun o' q => by rw [← hσ1, adS_4, if_neg q]
  have e9 : ∀ o', o' ≠ 6 * s + σ 1 s → σ1 9 o' = σ 9 o' := fun o' q => by rw [← hσ1, adS_9, if_neg q]
  have n2 : σ1 2 (6 * s + σ 1 s) = b := by rw [← hσ1, adS_2, if_pos rfl]
  have n3 : σ1 3 (6 * s + σ 1 s) = p := by rw [← hσ1, adS_3, if_pos rfl]
  have n4 : σ1 4 (6 * s + σ 1 s) = c := by rw [← hσ1, adS_4, if_pos rfl]
  have n9 : σ1 9 (6 * s + σ 1 s) = if b = 0 then σ 11 (18 * s + p) + 1 else 0 := by rw [← hσ1, adS_9, if_pos rfl]
  have ecx : ∀ o', o' ≠ 6 * s + σ 1 s → s_cx σ1 o' = s_cx σ o' := fun o' q => by rw [← hσ1, adS_cx]; exact if_neg q
  have ncx : s_cx σ1 (6 * s + σ 1 s) = s_vc σ s := by rw [← hσ1, adS_cx]; exact if_pos rfl
  have emk : s_mk σ1 = mu (s_mk σ) s := by rw [← hσ1]; exact adS_mk hs3
  have evc : s_vc σ1 = s_vc σ := by rw [← hσ1]; exact adS_vc
  have ehi : ∀ k, k = 7 ∨ k = 8 ∨ 9 < k ∨ k = 0 → σ1 k = σ k := fun k q => by rw [← hσ1]; exact adS_hi q
  have e6 : ∀ j, σ1 6 j = if j = 18 * s + (6 * s + σ 1 s) then 1 else σ 6 j := fun j => by rw [← hσ1]; exact adS_6
  have e1 : ∀ j, σ1 1 j = if j = s then σ 1 j + 1 else σ 1 j := fun j => by rw [← hσ1]; exact adS_1
  have ecnt : ∀ v : Nat → Nat, (∀ t, v t ≤ s_mk σ t) → mcnt (σ1 2) v = mcnt (σ 2) v := fun v hv => mcnt_congr (fun o' ho' => e2 o' (hnv v hv o' ho'))
  have erow : ∀ v : Nat → Nat, (∀ t, v t ≤ s_mk σ t) → s_row σ1 v = s_row σ v := fun v hv => by
    unfold s_row
    exact mrow_congr (fun t => Nat.le_trans (hv t) (hM.1 t)) (fun o' ho' => ⟨e2 o' (hnv v hv o' ho'), e3 o' (hnv v hv o' ho'), ecx o' (hnv v hv o' ho')⟩)
  have hmu : ∀ o', mh (mu (s_mk σ) s) o' ↔ mh (s_mk σ) o' ∨ o' = 6 * s + σ 1 s := by
    intro o'
    constructor
    · intro q
      rcases mh_mu (by rw [hmks]; exact h6) q with q | q
      · exact Or.inl q
      · rw [hmks] at q
        exact Or.inr q
    · rintro (q | q)
      · exact mh_mu_of q
      · subst q
        unfold mh
        rw [od.1, od.2, mu_self, hmks]
        omega
  have hle : ∀ t, s_mk σ t ≤ mu (s_mk σ) s t := fun t => by
    unfold mu
    split <;> omega
  have hW := (hS s hs).1
  have hC := hW.1
  have hIH : IH S σ1 := by
    refine ⟨hH.1, fun t ht => ?_, ?_, fun o' ho' => ?_⟩
    · rw [e1, if_neg (by omega)]
      exact hH.2.1 t ht
    · rw [emk]
      refine ⟨fun t => ?_, fun t ht => ?_, fun o' ho' => ?_⟩
      · unfold mu
        split
        · rename_i q
          rw [q, hmks]
          omega
        · exact hM.1 t
      · rw [mu_ne (by omega)]
        exact hM.2.1 t ht
      · rcases (hmu o').mp ho' with q | q
        · have hn := hne o' q
          obtain ⟨a, b', c'⟩ := hM.2.2 o' q
          rw [ecx o' hn]
          exact ⟨a, fun t => Nat.le_trans (b' t) (hle t), fun x hx t => by
            rw [ecx x (hnv _ b' x hx)]
            exact c' x hx t⟩
        · subst q
          rw [ncx, od.1, od.2]
          refine ⟨by rw [hvs, hmks], fun t => Nat.le_trans (hC.1 t) (hle t), fun x hx t => ?_⟩
          rw [ecx x (hnv _ hC.1 x hx)]
          exact hC.2 x hx t
    · rw [emk] at ho'
      rcases (hmu o').mp ho' with q | q
      · have hn := hne o' q
        have hv := (hM.2.2 o' q).2.1
        rw [ecx o' hn, e2 o' hn, e3 o' hn, e4 o' hn, e9 o' hn, ecnt _ hv, erow _ hv]
        exact hH.2.2.2 o' q
      · subst q
        rw [ncx, n2, n3, n4, n9, ecnt _ hC.1, erow _ hC.1, ← hW.2.1]
        rcases hb with ⟨rfl, rfl, hp⟩ | ⟨rfl, h1, h2, hp⟩
        · refine ⟨by rw [if_pos rfl]; omega, fun _ => ⟨rfl, ?_⟩, fun q => absurd rfl q⟩
          rw [if_pos rfl, (hW.2.2.1 p hp).1]
          omega
        · exact ⟨by rw [if_neg (by decide)]; omega, fun q => absurd q (by decide), fun _ => ⟨rfl, h1, h2⟩⟩
  have hIW : ∀ s', s' < S → IW σ1 s' := by
    intro s' hs'
    have hW' := (hS s' hs').1
    have hC' := hW'.1
    unfold IW
    rw [emk, evc, ehi 10 (by omega), ehi 11 (by omega), ehi 7 (by omega), ecnt _ hC'.1, erow _ hC'.1]
    refine ⟨⟨fun t => Nat.le_trans (hC'.1 t) (hle t), fun o' ho' t => ?_⟩, hW'.2.1, fun i hi => ?_, hW'.2.2.2.1, fun o' ho' => ?_⟩
    · rw [ecx o' (hnv _ hC'.1 o' ho')]
      exact hC'.2 o' ho' t
    · obtain ⟨a, b', c'⟩ := hW'.2.2.1 i hi
      exact ⟨a, b', by rw [e2 _ (hnv _ hC'.1 _ b')]; exact c'⟩
    · obtain ⟨a, b', c', d⟩ := hW'.2.2.2.2 o' ho'
      rw [e6]
      refine ⟨a, b', fun q => ?_, fun q => ?_⟩
      · split
        · decide
        · exact c' q
      · split at q
        · rename_i z
          have : o' = 6 * s + σ 1 s := by omega
          exact (hmu o').mpr (Or.inr this)
        · exact mh_mu_of (d q)
  have hR : RDY σ1 s (6 * s + σ 1 s) := by
    refine ⟨by rw [emk]; exact (hmu _).mpr (Or.inr rfl), ?_, fun t => ?_, ?_⟩
    · rw [evc, od.1, od.2, hvs, hmks]
    · rw [ncx, evc]
      exact Nat.le_refl _
    · rw [e6, if_pos rfl]
      decide
  have hpl : s_pl σ1 (6 * s + σ 1 s) (s_vc σ s) = p := by
    unfold s_pl
    rw [mplace_own (fun t _ => by rw [ncx]), n3]
  have ho : 6 * s + σ 1 s < 18 := by omega
  refine ⟨?_, hR, hpl, hIH, hIW s hs⟩
  unfold mkS
  rw [hσ1]
  have hpl' : p = s_pl σ1 (6 * s + σ 1 s) (s_vc σ1 s) := by rw [evc, hpl]
  obtain ⟨hp, h18⟩ := hR.in hIH (hIW s hs)
  refine ⟨exS_IH hIH, fun s' hs' => ?_⟩
  by_cases q : s' = s
  · subst q
    refine ⟨?_, ?_⟩
    · have := exS_IW hIH (hIW s' hs') hR
      rw [← hpl'] at this
      exact this
    · rw [exS_mk, exS_vc ho, od.1, mu_self, evc, emk, mu_self, (hS s' hs').2]
  · refine ⟨exS_IW_ne ho h18 q (INV.in18 (S := S) (hIW s' hs')) (hIW s' hs'), ?_⟩
    rw [exS_mk, exS_vc_ne ho q, evc, emk, mu_ne q]
    exact (hS s' hs').2
/-! what waits and is ready; the work behind an arrival -/
def WT (σ : rS) (s o : Nat) : Prop := σ 6 (18 * s + o) ≠ 0 ∧ σ 7 (18 * s + o) = 0 ∧ s_vc σ s (o / 6) = o % 6 ∧ ∀ t, t < 3 → t ≠ o / 6 → s_cx σ o t ≤ s_vc σ s t
/-- r is the lowest that is ready, if there is one -/
def NX (σ : rS) (s : Nat) (r : Option Nat) : Prop := match r with
  | none => ∀ o, o < 18 → ¬ WT σ s o
  | some o => o < 18 ∧ WT σ s o ∧ ∀ o', o' < o → ¬ WT σ s o'
theorem NX_eq {σ : rS} {s : Nat} {r r' : Option Nat} (h : NX σ s r) (h' : NX σ s r') : r = r' := by
  cases r with
  | none =>
    cases r' with
    | none => rfl
    | some o => exact absurd h'.2.1 (h o h'.1)
  | some o =>
    cases r' with
    | none => exact absurd h.2.1 (h' o h.1)
    | some o' =>
      rcases Nat.lt_trichotomy o o' with q | q | q
      · exact absurd h.2.1 (h'.2.2 o q)
      · rw [q]
      · exact absurd h'.2.1 (h.2.2 o' q)
/-- n operations are executed at s, one after the other, and then none is ready -/
def WK (s : Nat) : Nat → rS → rS → Prop
  | 0, σ, σ' => σ' = σ ∧ NX σ s none
  | n + 1, σ, σ' => ∃ o, NX σ s (some o) ∧ WK s n (exS σ s o (s_pl σ o (s_vc σ s))) σ'
theorem WK_eq {s : Nat} : ∀ {n n' : Nat} {σ σ1 σ2 : rS}, WK s n σ σ1 → WK s n' σ σ2 → n = n' ∧ σ1 = σ2
  | 0, 0, σ, σ1, σ2, h, h' => ⟨rfl, h.1.trans h'.1.symm⟩
  | 0, n' + 1, σ, σ1, σ2, h, h' => by
    obtain ⟨o, ho, -⟩ := h'
    cases NX_eq h.2 ho
  | n + 1, 0, σ, σ1, σ2, h, h' => by
    obtain ⟨o, ho, -⟩ := h
    cases NX_eq h'.2 ho
  | n + 1, n' + 1, σ, σ1, σ2, h, h' => by
    obtain ⟨o, ho, hw⟩ := h
    obtain ⟨o', ho', hw'⟩ := h'
    cases NX_eq ho ho'
    obtain ⟨e1, e2⟩ := WK_eq hw hw'
    exact ⟨by omega, e2⟩
theorem WT.rdy {S : Nat} {σ : rS} {s o : Nat} (h : INV S σ) (hs : s < S) (ho : o < 18) (hw : WT σ s o) : RDY σ s o ∧ o / 6 ≠ s := by
  obtain ⟨h1, h2, h3, h4⟩ := hw
  obtain ⟨hW, hv⟩ := h.2 s hs
  obtain ⟨a, b, c, d⟩ := hW.2.2.2.2 o ho
  have hm := d h1
  have hcx := (h.1.2.2.1.2.2 o hm).1
  refine ⟨⟨hm, h3, fun t => ?_, h1⟩, fun e => ?_⟩
  · by_cases ht : t < 3
    · by_cases q : t = o / 6
      · rw [q, hcx, h3]
        exact Nat.le_refl _
      · exact h4 t ht q
    · unfold s_cx
      rw [if_neg ht]
      exact Nat.zero_le _
  · have : mh (s_vc σ s) o := by
      unfold mh
      rw [e, hv, ← e]
      exact hm
    exact a.mpr this h2
theorem WK.inv {S s : Nat} (hs : s < S) : ∀ {n : Nat} {σ σ' : rS}, INV S σ → WK s n σ σ' → INV S σ'
  | 0, σ, σ', h, hw => by
    rw [hw.1]
    exact h
  | n + 1, σ, σ', h, hw => by
    obtain ⟨o, ho, hw⟩ := hw
    obtain ⟨hr, hne⟩ := WT.rdy h hs ho.1 ho.2.1
    exact WK.inv hs (exS_INV h hs hr hne) hw
/-- how many of the operations have not been executed at s -/
def s_left (σ : rS) (s : Nat) : Nat := msum (fun o => if σ 7 (18 * s + o) = 0 then 1 else 0) 18
theorem s_left_ex {σ : rS} {s o p : Nat} (ho : o < 18) (h : σ 7 (18 * s + o) = 0) : s_left σ s = s_left (exS σ s o p) s + 1 := by
  unfold s_left
  refine msum_one (a := o) ho (fun i hi hne => ?_) ?_
  · rw [exS_7, if_neg (c := 18 * s + i = 18 * s + o) (by omega)]
  · rw [exS_7, if_pos h, if_pos rfl, if_neg (by omega)]
theorem s_left_18 (σ : rS) (s : Nat) : s_left σ s ≤ 18 := by
  unfold s_left
  have := msum_bound (f := fun o => if σ 7 (18 * s + o) = 0 then 1 else 0) (c := 1) (n := 18) (fun i _ => by split <;> omega)
  omega
theorem s_left_0 {σ : rS} {s : Nat} (h : s_left σ s = 0) : NX σ s none := by
  intro o ho hw
  have e := s_left_ex (p := 0) ho hw.2.1
  omega
/-- it arrives -/
def arS (σ : rS) (s o : Nat) : rS := fun k j => if k = 6 ∧ j = 18 * s + o then 1 else σ k j
theorem arS_ne {σ : rS} {s o k : Nat} (h : k ≠ 6) : arS σ s o k = σ k := by
  funext j
  unfold arS
  rw [if_neg (fun q => h q.1)]
theorem arS_6 {σ : rS} {s o j : Nat} : arS σ s o 6 j = if j = 18 * s + o then 1 else σ 6 j := by
  unfold arS
  by_cases h : j = 18 * s + o
  · rw [if_pos ⟨rfl, h⟩, if_pos h]
  · rw [if_neg (fun q => h q.2), if_neg h]
theorem arS_mk {σ : rS} {s o : Nat} : s_mk (arS σ s o) = s_mk σ := by
  funext t
  unfold s_mk
  rw [arS_ne (k := 1) (by omega)]
theorem arS_cx {σ : rS} {s o : Nat} : s_cx (arS σ s o) = s_cx σ := by
  funext o' t
  unfold s_cx
  rw [arS_ne (k := 5) (by omega)]
theorem arS_vc {σ : rS} {s o : Nat} : s_vc (arS σ s o) = s_vc σ := by
  funext o' t
  unfold s_vc
  rw [arS_ne (k := 8) (by omega)]
theorem arS_row {σ : rS} {s o : Nat} : s_row (arS σ s o) = s_row σ := by
  funext v
  unfold s_row
  rw [arS_cx, arS_ne (k := 2) (by omega), arS_ne (k := 3) (by omega)]
theorem arS_INV {S : Nat} {σ : rS} {s o : Nat} (h : INV S σ) (ho : mh (s_mk σ) o) : INV S (arS σ s o) := by
  obtain ⟨hH, hS⟩ := h
  refine ⟨?_, fun s' hs' => ?_⟩
  · unfold IH
    rw [arS_mk, arS_cx, arS_row, arS_ne (k := 1) (by omega), arS_ne (k := 2) (by omega), arS_ne (k := 3) (by omega), arS_ne (k := 4) (by omega), arS_ne (k := 9) (by omega)]
    exact hH
  · obtain ⟨hW, hv⟩ := hS s' hs'
    refine ⟨?_, by rw [arS_vc, arS_mk]; exact hv⟩
    have h18 := hH.lt18 ho
    obtain ⟨a, b, c, d, e⟩ := hW
    unfold IW
    rw [arS_mk, arS_cx, arS_row, arS_vc, arS_ne (k := 2) (by omega), arS_ne (k := 10) (by omega), arS_ne (k := 11) (by omega), arS_ne (k := 7) (by omega)]
    refine ⟨a, b, c, d, fun o' ho' => ?_⟩
    obtain ⟨e1, e2, e3, e4⟩ := e o' ho'
    rw [arS_6]
    refine ⟨e1, e2, fun q => ?_, fun q => ?_⟩
    · split
      · decide
      · exact e3 q
    · split at q
      · rename_i z
        have : o' = o := by omega
        rw [this]
        exact ho
      · exact e4 q
/-! numbers of the script as numbers of sites, operations, cells -/
def ix (n : Nat) (x : Int32) : Option Nat := if 0 ≤ x.toInt ∧ x.toInt < (n : Int) then some x.toInt.toNat else none
theorem ix_some {n j : Nat} {x : Int32} (hn : n < 2 ^ 31) (h : ix n x = some j) : j < n ∧ x = nI j := by
  unfold ix at h
  split at h
  · rename_i q
    cases h
    refine ⟨by omega, ?_⟩
    apply Int32.toInt_inj.mp
    rw [nI_toInt (by omega)]
    omega
  · cases h
theorem ix_nI {n j : Nat} (hn : n < 2 ^ 31) (h : j < n) : ix n (nI j) = some j := by
  unfold ix
  rw [nI_toInt (by omega), if_pos (by omega)]
  rfl
theorem ix_none {n : Nat} {x : Int32} (hn : n < 2 ^ 31) (h : ix n x = none) : x < 0 ∨ nI n ≤ x := by
  unfold ix at h
  split at h
  · cases h
  · rename_i q
    by_cases q0 : x < 0
    · exact Or.inl q0
    · refine Or.inr ?_
      rw [Int32.le_iff_toInt_le, nI_toInt hn]
      rw [Int32.lt_iff_toInt_lt, Int32.toInt_zero] at q0
      omega
theorem ix_neg {n : Nat} {x : Int32} (h : x < 0) : ix n x = none := by
  unfold ix
  rw [if_neg]
  rw [Int32.lt_iff_toInt_lt, Int32.toInt_zero] at h
  omega
theorem ix_big {n : Nat} {x : Int32} (hn : n < 2 ^ 31) (h : nI n ≤ x) : ix n x = none := by
  unfold ix
  rw [if_neg]
  rw [Int32.le_iff_toInt_le, nI_toInt hn] at h
  omega
theorem ix_of {n : Nat} {x : Int32} (hn : n < 2 ^ 31) (h0 : ¬ x < 0) (h : ¬ nI n ≤ x) : ∃ j, j < n ∧ x = nI j ∧ ix n x = some j := by
  cases e : ix n x with
  | none => rcases ix_none hn e with q | q
            · exact absurd q h0
            · exact absurd q h
  | some j => exact ⟨j, (ix_some hn e).1, (ix_some hn e).2, rfl⟩
def b2 (b : Bool) : Nat := cond b 1 0
theorem b2_lt (b : Bool) : b2 b < 2 := by cases b <;> decide
theorem b2_le (b : Bool) : b2 b < 2 ^ 31 := by cases b <;> decide
theorem b2_t {P : Prop} {h : Decidable P} (q : P) : b2 (@decide P h) = 1 := by simp [b2, q]
theorem b2_f {P : Prop} {h : Decidable P} (q : ¬ P) : b2 (@decide P h) = 0 := by simp [b2, q]
theorem b2_0 {P : Prop} {h : Decidable P} (q : b2 (@decide P h) = 0) : ¬ P := by
  intro p
  simp [b2, p] at q
theorem b2_1 {P : Prop} {h : Decidable P} (q : b2 (@decide P h) ≠ 0) : P := by
  apply Decidable.byContradiction
  intro p
  exact q (b2_f p)
theorem nI_inc (a : Nat) : nI a + Int32.ofInt 1 = nI (a + 1) := (nI_succ a).symm
theorem nI_dec {a : Nat} (h : 0 < a) : nI a + Int32.ofInt (-1) = nI (a - 1) := by
  have := pk_m1 (a - 1)
  rw [show a - 1 + 1 = a by omega] at this
  exact this
end
section
/-! Worlds by number: w k is cell number k, at the address ad k: an array (type, length, contents) or an object (its class's number, its fields). -/
abbrev gE : Type := (FieldType × vp_A) ⊕ (Nat × List Value)
abbrev gW : Type := Nat → Option gE
def g_at (D : va_G) (cl : List vw_C) (s : State) (a : Nat) (e : gE) (H : Heap) : Prop := match e with
  | .inl x => ∃ cA : ClassId, ArrOfT s cA x.1 ∧ va_RA s cA x.1 ∧ H[a]? = some (vp_cell cA x.2)
  | .inr o => ∃ r : vw_C, cl[o.1]? = some r ∧ t_OB a (D.1 o.1) r.2.2 (D.2 o.1) H (vp_V o.2)
def g_w (D : va_G) (cl : List vw_C) (s : State) (A : Nat → Prop) (ad : Nat → Nat) (w : gW) (H : Heap) : Prop :=
  (∀ (k : Nat) (e : gE), w k = some e → g_at D cl s (ad k) e H ∧ A (ad k)) ∧ ∀ (i j : Nat) (ei ej : gE), w i = some ei → w j = some ej → ad i = ad j → i = j
/-- the cells that a method with the world (ad, w) may write: its own, and new ones -/
def g_A (ad : Nat → Nat) (w : gW) (sz : Nat) : Nat → Prop := fun q => (∃ (k : Nat) (e : gE), w k = some e ∧ ad k = q) ∨ sz ≤ q
theorem g_at.lt {D : va_G} {cl : List vw_C} {s : State} {a : Nat} {e : gE} {H : Heap} (h : g_at D cl s a e H) : a < H.size := by
  cases e with
  | inl x =>
    obtain ⟨cA, -, -, h⟩ := h
    exact (Array.getElem?_eq_some_iff.mp h).1
  | inr o =>
    obtain ⟨r, h1, cell, h2, -⟩ := h
    exact (Array.getElem?_eq_some_iff.mp h2).1
theorem g_at.kept {D : va_G} {cl : List vw_C} {s : State} {a : Nat} {e : gE} {H H1 : Heap} (h : g_at D cl s a e H) (hq : H1[a]? = H[a]?) : g_at D cl s a e H1 := by
  cases e with
  | inl x =>
    obtain ⟨cA, h1, h2, h3⟩ := h
    exact ⟨cA, h1, h2, hq.trans h3⟩
  | inr o =>
    obtain ⟨r, h1, h2⟩ := h
    exact ⟨r, h1, h2.kept hq⟩
theorem g_at.moved {D : va_G} {cl : List vw_C} {u U : State} (hvm : u.vm.Alike U.vm) {a : Nat} {e : gE} {H : Heap} (h : g_at D cl u a e H) : g_at D cl U a e H := by
  cases e with
  | inl x =>
    obtain ⟨cA, h1, h2, h3⟩ := h
    exact ⟨cA, arrOfT_moved hvm h1, h2.moved hvm, h3⟩
  | inr o => exact h
theorem g_w.moved {D : va_G} {cl : List vw_C} {u U : State} (hvm : u.vm.Alike U.vm) {A B : Nat → Prop} {ad : Nat → Nat} {w : gW} {H : Heap} (h : g_w D cl u A ad w H) (hAB : ∀ q, A q → B q) : g_w D cl U B ad w H :=
  ⟨fun k e hk => ⟨(h.1 k e hk).1.moved hvm, hAB _ (h.1 k e hk).2⟩, h.2⟩
theorem g_w.self {D : va_G} {cl : List vw_C} {u : State} {A : Nat → Prop} {ad : Nat → Nat} {w : gW} {H : Heap} {sz : Nat} (h : g_w D cl u A ad w H) : g_w D cl u (g_A ad w sz) ad w H :=
  ⟨fun k e hk => ⟨(h.1 k e hk).1, Or.inl ⟨k, e, hk, rfl⟩⟩, h.2⟩
theorem g_w.put {D : va_G} {cl : List vw_C} {s : State} {A : Nat → Prop} {ad : Nat → Nat} {w : gW} {H H1 : Heap} {k : Nat} {e0 e : gE} (h : g_w D cl s A ad w H) (hk : w k = some e0) (he : g_at D cl s (ad k) e H1) (oq : ∀ q : Nat, q ≠ ad k → H1[q]? = H[q]?) : g_w D cl s A ad (va_up w k (some e)) H1 := by
  have key : ∀ (j : Nat) (ej : gE), va_up w k (some e) j = some ej → (j = k ∧ ej = e) ∨ (j ≠ k ∧ w j = some ej) := by
    intro j ej hj
    by_cases q : j = k
    · subst q
      rw [va_up_self] at hj
      exact Or.inl ⟨rfl, (Option.some.inj hj).symm⟩
    · rw [va_up_ne _ _ q] at hj
      exact Or.inr ⟨q, hj⟩
  refine ⟨fun j ej hj => ?_, fun i j ei ej hi hj hij => ?_⟩
  · rcases key j ej hj with ⟨rfl, rfl⟩ | ⟨q, hj⟩
    · exact ⟨he, (h.1 _ _ hk).2⟩
    · exact ⟨(h.1 j ej hj).1.kept (oq _ (fun z => q (h.2 _ _ _ _ hj hk z))), (h.1 j ej hj).2⟩
  · have a1 : ∃ x, w i = some x := by
      rcases key i ei hi with ⟨rfl, -⟩ | ⟨-, q⟩
      · exact ⟨_, hk⟩
      · exact ⟨_, q⟩
    have a2 : ∃ x, w j = some x := by
      rcases key j ej hj with ⟨rfl, -⟩ | ⟨-, q⟩
      · exact ⟨_, hk⟩
      · exact ⟨_, q⟩
    obtain ⟨x, hx⟩ := a1
    obtain ⟨y, hy⟩ := a2
    exact h.2 i j x y hx hy hij
theorem g_w.new {D : va_G} {cl : List vw_C} {s : State} {A : Nat → Prop} {ad : Nat → Nat} {w : gW} {H H1 : Heap} {k : Nat} {e : gE} (h : g_w D cl s A ad w H) (_hk : w k = none) (he : g_at D cl s H.size e H1) (oq : ∀ q : Nat, q < H.size → H1[q]? = H[q]?) (hA : A H.size) : g_w D cl s A (va_up ad k H.size) (va_up w k (some e)) H1 := by
  have key : ∀ (j : Nat) (ej : gE), va_up w k (some e) j = some ej → (j = k ∧ ej = e ∧ va_up ad k H.size j = H.size) ∨ (j ≠ k ∧ w j = some ej ∧ va_up ad k H.size j = ad j ∧ ad j < H.size) := by
    intro j ej hj
    by_cases q : j = k
    · subst q
      rw [va_up_self] at hj
      exact Or.inl ⟨rfl, (Option.some.inj hj).symm, va_up_self _ _ _⟩
    · rw [va_up_ne _ _ q] at hj
      exact Or.inr ⟨q, hj, va_up_ne _ _ q, (h.1 j ej hj).1.lt⟩
  refine ⟨fun j ej hj => ?_, fun i j ei ej hi hj hij => ?_⟩
  · rcases key j ej hj with ⟨rfl, rfl, z⟩ | ⟨q, hj, z, hl⟩
    · rw [z]; exact ⟨he, hA⟩
    · rw [z]; exact ⟨(h.1 j ej hj).1.kept (oq _ hl), (h.1 j ej hj).2⟩
  · rcases key i ei hi with ⟨rfl, -, z1⟩ | ⟨q1, h1, z1, l1⟩ <;> rcases key j ej hj with ⟨h2, -, z2⟩ | ⟨q2, h2, z2, l2⟩
    · exact h2.symm
    · rw [z1, z2] at hij; omega
    · rw [z1, z2] at hij; omega
    · rw [z1, z2] at hij; exact h.2 i j ei ej h1 h2 hij
/-- a method's surroundings -/
def g_C (p : Program) (s : State) (m : MethodId) (args : Array Value) (c : Code) (D : va_G) (cl : List vw_C) (N : State → Prop) (A : Nat → Prop) (nL : Nat) (cc : ByteArray) (own : String) (Ts : List Cond) : Prop :=
  CallFix p m c cc nL s args Ts own ∧ va_K D cl [] s ∧ N s ∧ ∀ q : Nat, s.heap.size ≤ q → A q
def G (p : Program) (l : Launch) (e : Env) (R : Room) (s : State) (m : MethodId) (args : Array Value) (below : List Frame) (meth : Method) (c : Code) (D : va_G) (cl : List vw_C) (A : Nat → Prop) (nL : Nat) (Q : State → Prop) (cells slots : Nat) (V : (Nat → Nat) → gW → Prop) (pc : Nat) (lo : List (Nat × Value)) (st : List Value) : Prop :=
  ∀ (ad : Nat → Nat) (w : gW) (H : Heap) (locs : List Loc) (ls : Array Slot), V ad w → g_w D cl s A ad w H → va_S A s.heap H locs → lv_has ls nL lo → W p l e R s m args below meth c H locs cells slots Q (F0 m pc ls st)
def g_lo (lo : List (Nat × Value)) (i : Nat) : Option Value := match lo with
  | [] => none
  | q :: r => cond (Nat.beq q.1 i) (some q.2) (g_lo r i)
theorem g_lo_mem : ∀ {lo : List (Nat × Value)} {i : Nat} {v : Value}, g_lo lo i = some v → (i, v) ∈ lo
  | [], i, v, h => by cases h
  | (j, u) :: r, i, v, h => by
    unfold g_lo at h
    cases hb : Nat.beq j i with
    | true =>
      rw [hb] at h
      have e := Nat.eq_of_beq_eq_true hb
      subst e
      cases h
      exact List.mem_cons_self
    | false =>
      rw [hb] at h
      exact List.mem_cons_of_mem _ (g_lo_mem h)
theorem g_lo_at {ls : Array Slot} {nL : Nat} {lo : List (Nat × Value)} (h : lv_has ls nL lo) {i : Nat} {v : Value} (hk : g_lo lo i = some v) : ls[i]? = some (.val v) := h.2.2 (i, v) (g_lo_mem hk)
def g_rf (v : Value) : Prop := v = .null ∨ ∃ a, v = .ref a
theorem g_cat {v : Value} (h : g_rf v) : v.category = 1 := by
  rcases h with rfl | ⟨a, rfl⟩ <;> rfl
section GG
variable {p : Program} {l : Launch} {e : Env} {R : Room} {s : State} {m : MethodId} {args : Array Value} {below : List Frame} {meth : Method} {c : Code} {D : va_G} {cl : List vw_C} {N : State → Prop} {A : Nat → Prop} {nL : Nat} {Q : State → Prop} {cells slots : Nat} {V : (Nat → Nat) → gW → Prop} {ad : Nat → Nat} {w : gW} {pc : Nat} {lo : List (Nat × Value)} {st : List Value} {cc : ByteArray} {own : String} {Ts : List Cond}
theorem g_iconst (hC : g_C p s m args c D cl N A nL cc own Ts) {n : Int} {v : Int32} (hd : decode cc pc = .ok (.iconst n, 1)) (hv : Int32.ofInt n = v) (k : G p l e R s m args below meth c D cl A nL Q cells slots V (pc + 1) lo (.int v :: st)) : G p l e R s m args below meth c D cl A nL Q cells slots V (pc) lo (st) := fun ad w H locs ls hx0 hw hS hl => lv_iconst hC.1.1 hC.1.2.1 hd hv (k ad w H locs ls hx0 hw hS hl)
theorem g_bipush (hC : g_C p s m args c D cl N A nL cc own Ts) {n : Int} {v : Int32} (hd : decode cc pc = .ok (.bipush n, 2)) (hv : (Int8.ofInt n).toInt32 = v) (k : G p l e R s m args below meth c D cl A nL Q cells slots V (pc + 2) lo (.int v :: st)) : G p l e R s m args below meth c D cl A nL Q cells slots V (pc) lo (st) := fun ad w H locs ls hx0 hw hS hl => lv_bipush hC.1.1 hC.1.2.1 hd hv (k ad w H locs ls hx0 hw hS hl)
theorem g_sipush (hC : g_C p s m args c D cl N A nL cc own Ts) {n : Int} {v : Int32} (hd : decode cc pc = .ok (.sipush n, 3)) (hv : (Int16.ofInt n).toInt32 = v) (k : G p l e R s m args below meth c D cl A nL Q cells slots V (pc + 3) lo (.int v :: st)) : G p l e R s m args below meth c D cl A nL Q cells slots V (pc) lo (st) := fun ad w H locs ls hx0 hw hS hl => lv_sipush hC.1.1 hC.1.2.1 hd hv (k ad w H locs ls hx0 hw hS hl)
theorem g_lconst (hC : g_C p s m args c D cl N A nL cc own Ts) {n : Fin 2} {v : Int64} (hd : decode cc pc = .ok (.lconst n, 1)) (hv : Int64.ofNat (n : Nat) = v) (k : G p l e R s m args below meth c D cl A nL Q cells slots V (pc + 1) lo (.long v :: st)) : G p l e R s m args below meth c D cl A nL Q cells slots V (pc) lo (st) := fun ad w H locs ls hx0 hw hS hl => lv_lconst hC.1.1 hC.1.2.1 hd hv (k ad w H locs ls hx0 hw hS hl)
theorem g_ldc2 (hC : g_C p s m args c D cl N A nL cc own Ts) {index : Nat} {v : Int64} (hd : decode cc pc = .ok (.ldc2_w index, 3)) (hv : Jvm.Cond.constantLong own index v ∈ Ts) (k : G p l e R s m args below meth c D cl A nL Q cells slots V (pc + 3) lo (.long v :: st)) : G p l e R s m args below meth c D cl A nL Q cells slots V (pc) lo (st) := fun ad w H locs ls hx0 hw hS hl => lv_ldc2 hC.1.1 hC.1.2.1 hC.1.2.2.2.1 (hC.1.2.2.2.2 _ hv) hd (k ad w H locs ls hx0 hw hS hl)
theorem g_iload_n (hC : g_C p s m args c D cl N A nL cc own Ts) {k : Fin 4} {i : Nat} {x : Int32} (hd : decode cc pc = .ok (.iload_n k, 1)) (hi : (k : Nat) = i) (hv : g_lo lo i = some (.int x)) (k : G p l e R s m args below meth c D cl A nL Q cells slots V (pc + 1) lo (.int x :: st)) : G p l e R s m args below meth c D cl A nL Q cells slots V (pc) lo (st) := fun ad w H locs ls hx0 hw hS hl => lv_iload_n hC.1.1 hC.1.2.1 hd hi (g_lo_at hl hv) (k ad w H locs ls hx0 hw hS hl)
theorem g_iload (hC : g_C p s m args c D cl N A nL cc own Ts) {i : Nat} {x : Int32} (hd : decode cc pc = .ok (.iload i, 2)) (hv : g_lo lo i = some (.int x)) (k : G p l e R s m args below meth c D cl A nL Q cells slots V (pc + 2) lo (.int x :: st)) : G p l e R s m args below meth c D cl A nL Q cells slots V (pc) lo (st) := fun ad w H locs ls hx0 hw hS hl => lv_iload hC.1.1 hC.1.2.1 hd (g_lo_at hl hv) (k ad w H locs ls hx0 hw hS hl)
theorem g_lload_n (hC : g_C p s m args c D cl N A nL cc own Ts) {k : Fin 4} {i : Nat} {x : Int64} (hd : decode cc pc = .ok (.lload_n k, 1)) (hi : (k : Nat) = i) (hv : g_lo lo i = some (.long x)) (k : G p l e R s m args below meth c D cl A nL Q cells slots V (pc + 1) lo (.long x :: st)) : G p l e R s m args below meth c D cl A nL Q cells slots V (pc) lo (st) := fun ad w H locs ls hx0 hw hS hl => lv_lload_n hC.1.1 hC.1.2.1 hd hi (g_lo_at hl hv) (k ad w H locs ls hx0 hw hS hl)
theorem g_lload (hC : g_C p s m args c D cl N A nL cc own Ts) {i : Nat} {x : Int64} (hd : decode cc pc = .ok (.lload i, 2)) (hv : g_lo lo i = some (.long x)) (k : G p l e R s m args below meth c D cl A nL Q cells slots V (pc + 2) lo (.long x :: st)) : G p l e R s m args below meth c D cl A nL Q cells slots V (pc) lo (st) := fun ad w H locs ls hx0 hw hS hl => lv_lload hC.1.1 hC.1.2.1 hd (g_lo_at hl hv) (k ad w H locs ls hx0 hw hS hl)
theorem g_aload_n (hC : g_C p s m args c D cl N A nL cc own Ts) {k : Fin 4} {i : Nat} {v : Value} (hd : decode cc pc = .ok (.aload_n k, 1)) (hi : (k : Nat) = i) (hv : g_lo lo i = some v) (hr : g_rf v) (k : G p l e R s m args below meth c D cl A nL Q cells slots V (pc + 1) lo (v :: st)) : G p l e R s m args below meth c D cl A nL Q cells slots V (pc) lo (st) := fun ad w H locs ls hx0 hw hS hl => by
  rcases hr with rfl | ⟨a, rfl⟩
  · exact lv_aload_nN hC.1.1 hC.1.2.1 hd hi (g_lo_at hl hv) (k ad w H locs ls hx0 hw hS hl)
  · exact lv_aload_n hC.1.1 hC.1.2.1 hd hi (g_lo_at hl hv) (k ad w H locs ls hx0 hw hS hl)
theorem g_aload (hC : g_C p s m args c D cl N A nL cc own Ts) {i : Nat} {v : Value} (hd : decode cc pc = .ok (.aload i, 2)) (hv : g_lo lo i = some v) (hr : g_rf v) (k : G p l e R s m args below meth c D cl A nL Q cells slots V (pc + 2) lo (v :: st)) : G p l e R s m args below meth c D cl A nL Q cells slots V (pc) lo (st) := fun ad w H locs ls hx0 hw hS hl => by
  rcases hr with rfl | ⟨a, rfl⟩
  · exact lv_aloadN hC.1.1 hC.1.2.1 hd (g_lo_at hl hv) (k ad w H locs ls hx0 hw hS hl)
  · exact lv_aload hC.1.1 hC.1.2.1 hd (g_lo_at hl hv) (k ad w H locs ls hx0 hw hS hl)
theorem g_istore_n (hC : g_C p s m args c D cl N A nL cc own Ts) {k : Fin 4} {i : Nat} {x : Int32} {lo' : List (Nat × Value)} (hd : decode cc pc = .ok (.istore_n k, 1)) (hi : (k : Nat) = i) (hn : i < nL) (hlo : (i, Value.int x) :: lo.filter (fun q => !(q.1 == i) && !(q.1 + 1 == i && q.2.category == 2)) = lo') (k : G p l e R s m args below meth c D cl A nL Q cells slots V (pc + 1) lo' (st)) : G p l e R s m args below meth c D cl A nL Q cells slots V (pc) lo (.int x :: st) := fun ad w H locs ls hx0 hw hS hl => lv_istore_n hC.1.1 hC.1.2.1 hd hi hl hn hlo (fun ls' hl' => k ad w H locs ls' hx0 hw hS hl')
theorem g_istore (hC : g_C p s m args c D cl N A nL cc own Ts) {i : Nat} {x : Int32} {lo' : List (Nat × Value)} (hd : decode cc pc = .ok (.istore i, 2)) (hn : i < nL) (hlo : (i, Value.int x) :: lo.filter (fun q => !(q.1 == i) && !(q.1 + 1 == i && q.2.category == 2)) = lo') (k : G p l e R s m args below meth c D cl A nL Q cells slots V (pc + 2) lo' (st)) : G p l e R s m args below meth c D cl A nL Q cells slots V (pc) lo (.int x :: st) := fun ad w H locs ls hx0 hw hS hl => lv_istore hC.1.1 hC.1.2.1 hd hl hn hlo (fun ls' hl' => k ad w H locs ls' hx0 hw hS hl')
theorem g_lstore_n (hC : g_C p s m args c D cl N A nL cc own Ts) {k : Fin 4} {i : Nat} {x : Int64} {lo' : List (Nat × Value)} (hd : decode cc pc = .ok (.lstore_n k, 1)) (hi : (k : Nat) = i) (hn : i + 1 < nL) (hlo : (i, Value.long x) :: lo.filter (fun q => !(q.1 == i) && (!(q.1 == i + 1) && !(q.1 + 1 == i && q.2.category == 2))) = lo') (k : G p l e R s m args below meth c D cl A nL Q cells slots V (pc + 1) lo' (st)) : G p l e R s m args below meth c D cl A nL Q cells slots V (pc) lo (.long x :: st) := fun ad w H locs ls hx0 hw hS hl => lv_lstore_n hC.1.1 hC.1.2.1 hd hi hl hn hlo (fun ls' hl' => k ad w H locs ls' hx0 hw hS hl')
theorem g_lstore (hC : g_C p s m args c D cl N A nL cc own Ts) {i : Nat} {x : Int64} {lo' : List (Nat × Value)} (hd : decode cc pc = .ok (.lstore i, 2)) (hn : i + 1 < nL) (hlo : (i, Value.long x) :: lo.filter (fun q => !(q.1 == i) && (!(q.1 == i + 1) && !(q.1 + 1 == i && q.2.category == 2))) = lo') (k : G p l e R s m args below meth c D cl A nL Q cells slots V (pc + 2) lo' (st)) : G p l e R s m args below meth c D cl A nL Q cells slots V (pc) lo (.long x :: st) := fun ad w H locs ls hx0 hw hS hl => lv_lstore hC.1.1 hC.1.2.1 hd hl hn hlo (fun ls' hl' => k ad w H locs ls' hx0 hw hS hl')
theorem g_astore_n (hC : g_C p s m args c D cl N A nL cc own Ts) {k : Fin 4} {i : Nat} {v : Value} {lo' : List (Nat × Value)} (hd : decode cc pc = .ok (.astore_n k, 1)) (hi : (k : Nat) = i) (hr : g_rf v) (hn : i < nL) (hlo : (i, v) :: lo.filter (fun q => !(q.1 == i) && !(q.1 + 1 == i && q.2.category == 2)) = lo') (k : G p l e R s m args below meth c D cl A nL Q cells slots V (pc + 1) lo' (st)) : G p l e R s m args below meth c D cl A nL Q cells slots V (pc) lo (v :: st) := fun ad w H locs ls hx0 hw hS hl => by
  rcases hr with rfl | ⟨a, rfl⟩
  · exact lv_astore_nN hC.1.1 hC.1.2.1 hd hi hl hn hlo (fun ls' hl' => k ad w H locs ls' hx0 hw hS hl')
  · exact lv_astore_n hC.1.1 hC.1.2.1 hd hi hl hn hlo (fun ls' hl' => k ad w H locs ls' hx0 hw hS hl')
theorem g_astore (hC : g_C p s m args c D cl N A nL cc own Ts) {i : Nat} {v : Value} {lo' : List (Nat × Value)} (hd : decode cc pc = .ok (.astore i, 2)) (hr : g_rf v) (hn : i < nL) (hlo : (i, v) :: lo.filter (fun q => !(q.1 == i) && !(q.1 + 1 == i && q.2.category == 2)) = lo') (k : G p l e R s m args below meth c D cl A nL Q cells slots V (pc + 2) lo' (st)) : G p l e R s m args below meth c D cl A nL Q cells slots V (pc) lo (v :: st) := fun ad w H locs ls hx0 hw hS hl => by
  rcases hr with rfl | ⟨a, rfl⟩
  · exact lv_astoreN hC.1.1 hC.1.2.1 hd hl hn hlo (fun ls' hl' => k ad w H locs ls' hx0 hw hS hl')
  · exact lv_astore hC.1.1 hC.1.2.1 hd hl hn hlo (fun ls' hl' => k ad w H locs ls' hx0 hw hS hl')
theorem g_iinc (hC : g_C p s m args c D cl N A nL cc own Ts) {i k : Nat} {n : Int} {x v : Int32} {lo' : List (Nat × Value)} (hd : decode cc pc = .ok (.iinc i n, 3)) (hk : lo[k]? = some (i, .int x)) (hv : x + Int32.ofInt n = v) (hn : i < nL) (hlo : (i, Value.int v) :: lo.filter (fun q => !(q.1 == i) && !(q.1 + 1 == i && q.2.category == 2)) = lo') (k : G p l e R s m args below meth c D cl A nL Q cells slots V (pc + 3) lo' (st)) : G p l e R s m args below meth c D cl A nL Q cells slots V (pc) lo (st) := fun ad w H locs ls hx0 hw hS hl => lv_iinc hC.1.1 hC.1.2.1 hd hl hk hv hn hlo (fun ls' hl' => k ad w H locs ls' hx0 hw hS hl')
theorem g_iadd (hC : g_C p s m args c D cl N A nL cc own Ts) {x y : Int32} (hd : decode cc pc = .ok (.iadd, 1)) (k : G p l e R s m args below meth c D cl A nL Q cells slots V (pc + 1) lo (.int (x + y) :: st)) : G p l e R s m args below meth c D cl A nL Q cells slots V (pc) lo (.int y :: .int x :: st) := fun ad w H locs ls hx0 hw hS hl => lv_iadd hC.1.1 hC.1.2.1 hd (k ad w H locs ls hx0 hw hS hl)
theorem g_isub (hC : g_C p s m args c D cl N A nL cc own Ts) {x y : Int32} (hd : decode cc pc = .ok (.isub, 1)) (k : G p l e R s m args below meth c D cl A nL Q cells slots V (pc + 1) lo (.int (x - y) :: st)) : G p l e R s m args below meth c D cl A nL Q cells slots V (pc) lo (.int y :: .int x :: st) := fun ad w H locs ls hx0 hw hS hl => lv_isub hC.1.1 hC.1.2.1 hd (k ad w H locs ls hx0 hw hS hl)
theorem g_imul (hC : g_C p s m args c D cl N A nL cc own Ts) {x y : Int32} (hd : decode cc pc = .ok (.imul, 1)) (k : G p l e R s m args below meth c D cl A nL Q cells slots V (pc + 1) lo (.int (x * y) :: st)) : G p l e R s m args below meth c D cl A nL Q cells slots V (pc) lo (.int y :: .int x :: st) := fun ad w H locs ls hx0 hw hS hl => lv_imul hC.1.1 hC.1.2.1 hd (k ad w H locs ls hx0 hw hS hl)
theorem g_iand (hC : g_C p s m args c D cl N A nL cc own Ts) {x y : Int32} (hd : decode cc pc = .ok (.iand, 1)) (k : G p l e R s m args below meth c D cl A nL Q cells slots V (pc + 1) lo (.int (x &&& y) :: st)) : G p l e R s m args below meth c D cl A nL Q cells slots V (pc) lo (.int y :: .int x :: st) := fun ad w H locs ls hx0 hw hS hl => lv_iand hC.1.1 hC.1.2.1 hd (k ad w H locs ls hx0 hw hS hl)
theorem g_ishl (hC : g_C p s m args c D cl N A nL cc own Ts) {x y : Int32} (hd : decode cc pc = .ok (.ishl, 1)) (k : G p l e R s m args below meth c D cl A nL Q cells slots V (pc + 1) lo (.int (x <<< (y &&& 31)) :: st)) : G p l e R s m args below meth c D cl A nL Q cells slots V (pc) lo (.int y :: .int x :: st) := fun ad w H locs ls hx0 hw hS hl => lv_ishl hC.1.1 hC.1.2.1 hd (k ad w H locs ls hx0 hw hS hl)
theorem g_ishr (hC : g_C p s m args c D cl N A nL cc own Ts) {x y : Int32} (hd : decode cc pc = .ok (.ishr, 1)) (k : G p l e R s m args below meth c D cl A nL Q cells slots V (pc + 1) lo (.int (x >>> (y &&& 31)) :: st)) : G p l e R s m args below meth c D cl A nL Q cells slots V (pc) lo (.int y :: .int x :: st) := fun ad w H locs ls hx0 hw hS hl => lv_ishr hC.1.1 hC.1.2.1 hd (k ad w H locs ls hx0 hw hS hl)
theorem g_idiv (hC : g_C p s m args c D cl N A nL cc own Ts) {x y : Int32} (hd : decode cc pc = .ok (.idiv, 1)) (hne : ¬ y = 0) (k : G p l e R s m args below meth c D cl A nL Q cells slots V (pc + 1) lo (.int (x / y) :: st)) : G p l e R s m args below meth c D cl A nL Q cells slots V (pc) lo (.int y :: .int x :: st) := fun ad w H locs ls hx0 hw hS hl => lv_idiv hC.1.1 hC.1.2.1 hd hne (k ad w H locs ls hx0 hw hS hl)
theorem g_irem (hC : g_C p s m args c D cl N A nL cc own Ts) {x y : Int32} (hd : decode cc pc = .ok (.irem, 1)) (hne : ¬ y = 0) (k : G p l e R s m args below meth c D cl A nL Q cells slots V (pc + 1) lo (.int (x - x / y * y) :: st)) : G p l e R s m args below meth c D cl A nL Q cells slots V (pc) lo (.int y :: .int x :: st) := fun ad w H locs ls hx0 hw hS hl => lv_irem hC.1.1 hC.1.2.1 hd hne (k ad w H locs ls hx0 hw hS hl)
theorem g_ineg (hC : g_C p s m args c D cl N A nL cc own Ts) {x : Int32} (hd : decode cc pc = .ok (.ineg, 1)) (k : G p l e R s m args below meth c D cl A nL Q cells slots V (pc + 1) lo (.int (-x) :: st)) : G p l e R s m args below meth c D cl A nL Q cells slots V (pc) lo (.int x :: st) := fun ad w H locs ls hx0 hw hS hl => lv_ineg hC.1.1 hC.1.2.1 hd (k ad w H locs ls hx0 hw hS hl)
theorem g_ladd (hC : g_C p s m args c D cl N A nL cc own Ts) {x y : Int64} (hd : decode cc pc = .ok (.ladd, 1)) (k : G p l e R s m args below meth c D cl A nL Q cells slots V (pc + 1) lo (.long (x + y) :: st)) : G p l e R s m args below meth c D cl A nL Q cells slots V (pc) lo (.long y :: .long x :: st) := fun ad w H locs ls hx0 hw hS hl => lv_ladd hC.1.1 hC.1.2.1 hd (k ad w H locs ls hx0 hw hS hl)
theorem g_lmul (hC : g_C p s m args c D cl N A nL cc own Ts) {x y : Int64} (hd : decode cc pc = .ok (.lmul, 1)) (k : G p l e R s m args below meth c D cl A nL Q cells slots V (pc + 1) lo (.long (x * y) :: st)) : G p l e R s m args below meth c D cl A nL Q cells slots V (pc) lo (.long y :: .long x :: st) := fun ad w H locs ls hx0 hw hS hl => lv_lmul hC.1.1 hC.1.2.1 hd (k ad w H locs ls hx0 hw hS hl)
theorem g_land (hC : g_C p s m args c D cl N A nL cc own Ts) {x y : Int64} (hd : decode cc pc = .ok (.land, 1)) (k : G p l e R s m args below meth c D cl A nL Q cells slots V (pc + 1) lo (.long (x &&& y) :: st)) : G p l e R s m args below meth c D cl A nL Q cells slots V (pc) lo (.long y :: .long x :: st) := fun ad w H locs ls hx0 hw hS hl => lv_land hC.1.1 hC.1.2.1 hd (k ad w H locs ls hx0 hw hS hl)
theorem g_lor (hC : g_C p s m args c D cl N A nL cc own Ts) {x y : Int64} (hd : decode cc pc = .ok (.lor, 1)) (k : G p l e R s m args below meth c D cl A nL Q cells slots V (pc + 1) lo (.long (x ||| y) :: st)) : G p l e R s m args below meth c D cl A nL Q cells slots V (pc) lo (.long y :: .long x :: st) := fun ad w H locs ls hx0 hw hS hl => lv_lor hC.1.1 hC.1.2.1 hd (k ad w H locs ls hx0 hw hS hl)
theorem g_i2l (hC : g_C p s m args c D cl N A nL cc own Ts) {x : Int32} {v : Int64} (hd : decode cc pc = .ok (.i2l, 1)) (hv : x.toInt64 = v) (k : G p l e R s m args below meth c D cl A nL Q cells slots V (pc + 1) lo (.long v :: st)) : G p l e R s m args below meth c D cl A nL Q cells slots V (pc) lo (.int x :: st) := fun ad w H locs ls hx0 hw hS hl => lv_i2l hC.1.1 hC.1.2.1 hd hv (k ad w H locs ls hx0 hw hS hl)
theorem g_l2i (hC : g_C p s m args c D cl N A nL cc own Ts) {x : Int64} {v : Int32} (hd : decode cc pc = .ok (.l2i, 1)) (hv : x.toInt32 = v) (k : G p l e R s m args below meth c D cl A nL Q cells slots V (pc + 1) lo (.int v :: st)) : G p l e R s m args below meth c D cl A nL Q cells slots V (pc) lo (.long x :: st) := fun ad w H locs ls hx0 hw hS hl => lv_l2i hC.1.1 hC.1.2.1 hd hv (k ad w H locs ls hx0 hw hS hl)
theorem g_lshl (hC : g_C p s m args c D cl N A nL cc own Ts) {x v : Int64} {y : Int32} (hd : decode cc pc = .ok (.lshl, 1)) (hv : x <<< (y.toInt64 &&& 63) = v) (k : G p l e R s m args below meth c D cl A nL Q cells slots V (pc + 1) lo (.long v :: st)) : G p l e R s m args below meth c D cl A nL Q cells slots V (pc) lo (.int y :: .long x :: st) := fun ad w H locs ls hx0 hw hS hl => lv_lshl hC.1.1 hC.1.2.1 hd hv (k ad w H locs ls hx0 hw hS hl)
theorem g_lshr (hC : g_C p s m args c D cl N A nL cc own Ts) {x v : Int64} {y : Int32} (hd : decode cc pc = .ok (.lshr, 1)) (hv : x >>> (y.toInt64 &&& 63) = v) (k : G p l e R s m args below meth c D cl A nL Q cells slots V (pc + 1) lo (.long v :: st)) : G p l e R s m args below meth c D cl A nL Q cells slots V (pc) lo (.int y :: .long x :: st) := fun ad w H locs ls hx0 hw hS hl => lv_lshr hC.1.1 hC.1.2.1 hd hv (k ad w H locs ls hx0 hw hS hl)
theorem g_lcmp (hC : g_C p s m args c D cl N A nL cc own Ts) {x y : Int64} (hd : decode cc pc = .ok (.lcmp, 1)) (k : G p l e R s m args below meth c D cl A nL Q cells slots V (pc + 1) lo (.int (lg_cmp x y) :: st)) : G p l e R s m args below meth c D cl A nL Q cells slots V (pc) lo (.long y :: .long x :: st) := fun ad w H locs ls hx0 hw hS hl => W.lcmp hC.1.1 hC.1.2.1 hd (k ad w H locs ls hx0 hw hS hl)
theorem g_dup (hC : g_C p s m args c D cl N A nL cc own Ts) {va : Value} (hd : decode cc pc = .ok (.dup, 1)) (hva : va.category = 1) (k : G p l e R s m args below meth c D cl A nL Q cells slots V (pc + 1) lo (va :: va :: st)) : G p l e R s m args below meth c D cl A nL Q cells slots V (pc) lo (va :: st) := fun ad w H locs ls hx0 hw hS hl => lv_dup hC.1.1 hC.1.2.1 hd hva (k ad w H locs ls hx0 hw hS hl)
theorem g_dup2 (hC : g_C p s m args c D cl N A nL cc own Ts) {va vb : Value} (hd : decode cc pc = .ok (.dup2, 1)) (hva : va.category = 1) (hvb : vb.category = 1) (k : G p l e R s m args below meth c D cl A nL Q cells slots V (pc + 1) lo (va :: vb :: va :: vb :: st)) : G p l e R s m args below meth c D cl A nL Q cells slots V (pc) lo (va :: vb :: st) := fun ad w H locs ls hx0 hw hS hl => lv_dup2_11 hC.1.1 hC.1.2.1 hd hva hvb (k ad w H locs ls hx0 hw hS hl)
theorem g_if_eq (hC : g_C p s m args c D cl N A nL cc own Ts) {x : Int32} {off : Int} {tgt : Nat} (hd : decode cc pc = .ok (.ifCond .eq off, 3)) (ht : (pc : Int) + off = (tgt : Int)) (kt : x = 0 → G p l e R s m args below meth c D cl A nL Q cells slots V (tgt) lo (st)) (kf : ¬ x = 0 → G p l e R s m args below meth c D cl A nL Q cells slots V (pc + 3) lo (st)) : G p l e R s m args below meth c D cl A nL Q cells slots V (pc) lo (.int x :: st) := fun ad w H locs ls hx0 hw hS hl => lv_if_eq hC.1.1 hC.1.2.1 hd ht (fun h => kt h ad w H locs ls hx0 hw hS hl) (fun h => kf h ad w H locs ls hx0 hw hS hl)
theorem g_icmp_eq (hC : g_C p s m args c D cl N A nL cc own Ts) {x y : Int32} {off : Int} {tgt : Nat} (hd : decode cc pc = .ok (.if_icmp .eq off, 3)) (ht : (pc : Int) + off = (tgt : Int)) (kt : x = y → G p l e R s m args below meth c D cl A nL Q cells slots V (tgt) lo (st)) (kf : ¬ x = y → G p l e R s m args below meth c D cl A nL Q cells slots V (pc + 3) lo (st)) : G p l e R s m args below meth c D cl A nL Q cells slots V (pc) lo (.int y :: .int x :: st) := fun ad w H locs ls hx0 hw hS hl => lv_icmp_eq hC.1.1 hC.1.2.1 hd ht (fun h => kt h ad w H locs ls hx0 hw hS hl) (fun h => kf h ad w H locs ls hx0 hw hS hl)
theorem g_if_ne (hC : g_C p s m args c D cl N A nL cc own Ts) {x : Int32} {off : Int} {tgt : Nat} (hd : decode cc pc = .ok (.ifCond .ne off, 3)) (ht : (pc : Int) + off = (tgt : Int)) (kt : ¬ x = 0 → G p l e R s m args below meth c D cl A nL Q cells slots V (tgt) lo (st)) (kf : x = 0 → G p l e R s m args below meth c D cl A nL Q cells slots V (pc + 3) lo (st)) : G p l e R s m args below meth c D cl A nL Q cells slots V (pc) lo (.int x :: st) := fun ad w H locs ls hx0 hw hS hl => lv_if_ne hC.1.1 hC.1.2.1 hd ht (fun h => kt h ad w H locs ls hx0 hw hS hl) (fun h => kf h ad w H locs ls hx0 hw hS hl)
theorem g_icmp_ne (hC : g_C p s m args c D cl N A nL cc own Ts) {x y : Int32} {off : Int} {tgt : Nat} (hd : decode cc pc = .ok (.if_icmp .ne off, 3)) (ht : (pc : Int) + off = (tgt : Int)) (kt : ¬ x = y → G p l e R s m args below meth c D cl A nL Q cells slots V (tgt) lo (st)) (kf : x = y → G p l e R s m args below meth c D cl A nL Q cells slots V (pc + 3) lo (st)) : G p l e R s m args below meth c D cl A nL Q cells slots V (pc) lo (.int y :: .int x :: st) := fun ad w H locs ls hx0 hw hS hl => lv_icmp_ne hC.1.1 hC.1.2.1 hd ht (fun h => kt h ad w H locs ls hx0 hw hS hl) (fun h => kf h ad w H locs ls hx0 hw hS hl)
theorem g_if_lt (hC : g_C p s m args c D cl N A nL cc own Ts) {x : Int32} {off : Int} {tgt : Nat} (hd : decode cc pc = .ok (.ifCond .lt off, 3)) (ht : (pc : Int) + off = (tgt : Int)) (kt : x < 0 → G p l e R s m args below meth c D cl A nL Q cells slots V (tgt) lo (st)) (kf : ¬ x < 0 → G p l e R s m args below meth c D cl A nL Q cells slots V (pc + 3) lo (st)) : G p l e R s m args below meth c D cl A nL Q cells slots V (pc) lo (.int x :: st) := fun ad w H locs ls hx0 hw hS hl => lv_if_lt hC.1.1 hC.1.2.1 hd ht (fun h => kt h ad w H locs ls hx0 hw hS hl) (fun h => kf h ad w H locs ls hx0 hw hS hl)
theorem g_icmp_lt (hC : g_C p s m args c D cl N A nL cc own Ts) {x y : Int32} {off : Int} {tgt : Nat} (hd : decode cc pc = .ok (.if_icmp .lt off, 3)) (ht : (pc : Int) + off = (tgt : Int)) (kt : x < y → G p l e R s m args below meth c D cl A nL Q cells slots V (tgt) lo (st)) (kf : ¬ x < y → G p l e R s m args below meth c D cl A nL Q cells slots V (pc + 3) lo (st)) : G p l e R s m args below meth c D cl A nL Q cells slots V (pc) lo (.int y :: .int x :: st) := fun ad w H locs ls hx0 hw hS hl => lv_icmp_lt hC.1.1 hC.1.2.1 hd ht (fun h => kt h ad w H locs ls hx0 hw hS hl) (fun h => kf h ad w H locs ls hx0 hw hS hl)
theorem g_if_ge (hC : g_C p s m args c D cl N A nL cc own Ts) {x : Int32} {off : Int} {tgt : Nat} (hd : decode cc pc = .ok (.ifCond .ge off, 3)) (ht : (pc : Int) + off = (tgt : Int)) (kt : 0 ≤ x → G p l e R s m args below meth c D cl A nL Q cells slots V (tgt) lo (st)) (kf : ¬ 0 ≤ x → G p l e R s m args below meth c D cl A nL Q cells slots V (pc + 3) lo (st)) : G p l e R s m args below meth c D cl A nL Q cells slots V (pc) lo (.int x :: st) := fun ad w H locs ls hx0 hw hS hl => lv_if_ge hC.1.1 hC.1.2.1 hd ht (fun h => kt h ad w H locs ls hx0 hw hS hl) (fun h => kf h ad w H locs ls hx0 hw hS hl)
theorem g_icmp_ge (hC : g_C p s m args c D cl N A nL cc own Ts) {x y : Int32} {off : Int} {tgt : Nat} (hd : decode cc pc = .ok (.if_icmp .ge off, 3)) (ht : (pc : Int) + off = (tgt : Int)) (kt : y ≤ x → G p l e R s m args below meth c D cl A nL Q cells slots V (tgt) lo (st)) (kf : ¬ y ≤ x → G p l e R s m args below meth c D cl A nL Q cells slots V (pc + 3) lo (st)) : G p l e R s m args below meth c D cl A nL Q cells slots V (pc) lo (.int y :: .int x :: st) := fun ad w H locs ls hx0 hw hS hl => lv_icmp_ge hC.1.1 hC.1.2.1 hd ht (fun h => kt h ad w H locs ls hx0 hw hS hl) (fun h => kf h ad w H locs ls hx0 hw hS hl)
theorem g_if_gt (hC : g_C p s m args c D cl N A nL cc own Ts) {x : Int32} {off : Int} {tgt : Nat} (hd : decode cc pc = .ok (.ifCond .gt off, 3)) (ht : (pc : Int) + off = (tgt : Int)) (kt : 0 < x → G p l e R s m args below meth c D cl A nL Q cells slots V (tgt) lo (st)) (kf : ¬ 0 < x → G p l e R s m args below meth c D cl A nL Q cells slots V (pc + 3) lo (st)) : G p l e R s m args below meth c D cl A nL Q cells slots V (pc) lo (.int x :: st) := fun ad w H locs ls hx0 hw hS hl => lv_if_gt hC.1.1 hC.1.2.1 hd ht (fun h => kt h ad w H locs ls hx0 hw hS hl) (fun h => kf h ad w H locs ls hx0 hw hS hl)
theorem g_icmp_gt (hC : g_C p s m args c D cl N A nL cc own Ts) {x y : Int32} {off : Int} {tgt : Nat} (hd : decode cc pc = .ok (.if_icmp .gt off, 3)) (ht : (pc : Int) + off = (tgt : Int)) (kt : y < x → G p l e R s m args below meth c D cl A nL Q cells slots V (tgt) lo (st)) (kf : ¬ y < x → G p l e R s m args below meth c D cl A nL Q cells slots V (pc + 3) lo (st)) : G p l e R s m args below meth c D cl A nL Q cells slots V (pc) lo (.int y :: .int x :: st) := fun ad w H locs ls hx0 hw hS hl => lv_icmp_gt hC.1.1 hC.1.2.1 hd ht (fun h => kt h ad w H locs ls hx0 hw hS hl) (fun h => kf h ad w H locs ls hx0 hw hS hl)
theorem g_if_le (hC : g_C p s m args c D cl N A nL cc own Ts) {x : Int32} {off : Int} {tgt : Nat} (hd : decode cc pc = .ok (.ifCond .le off, 3)) (ht : (pc : Int) + off = (tgt : Int)) (kt : x ≤ 0 → G p l e R s m args below meth c D cl A nL Q cells slots V (tgt) lo (st)) (kf : ¬ x ≤ 0 → G p l e R s m args below meth c D cl A nL Q cells slots V (pc + 3) lo (st)) : G p l e R s m args below meth c D cl A nL Q cells slots V (pc) lo (.int x :: st) := fun ad w H locs ls hx0 hw hS hl => lv_if_le hC.1.1 hC.1.2.1 hd ht (fun h => kt h ad w H locs ls hx0 hw hS hl) (fun h => kf h ad w H locs ls hx0 hw hS hl)
theorem g_icmp_le (hC : g_C p s m args c D cl N A nL cc own Ts) {x y : Int32} {off : Int} {tgt : Nat} (hd : decode cc pc = .ok (.if_icmp .le off, 3)) (ht : (pc : Int) + off = (tgt : Int)) (kt : x ≤ y → G p l e R s m args below meth c D cl A nL Q cells slots V (tgt) lo (st)) (kf : ¬ x ≤ y → G p l e R s m args below meth c D cl A nL Q cells slots V (pc + 3) lo (st)) : G p l e R s m args below meth c D cl A nL Q cells slots V (pc) lo (.int y :: .int x :: st) := fun ad w H locs ls hx0 hw hS hl => lv_icmp_le hC.1.1 hC.1.2.1 hd ht (fun h => kt h ad w H locs ls hx0 hw hS hl) (fun h => kf h ad w H locs ls hx0 hw hS hl)
theorem g_goto (hC : g_C p s m args c D cl N A nL cc own Ts) {off : Int} {tgt : Nat} (hd : decode cc pc = .ok (.goto off, 3)) (ht : (pc : Int) + off = (tgt : Int)) (k : G p l e R s m args below meth c D cl A nL Q cells slots V (tgt) lo (st)) : G p l e R s m args below meth c D cl A nL Q cells slots V (pc) lo (st) := fun ad w H locs ls hx0 hw hS hl => lv_goto hC.1.1 hC.1.2.1 hd ht (k ad w H locs ls hx0 hw hS hl)
theorem g_null (hC : g_C p s m args c D cl N A nL cc own Ts) (hd : decode cc pc = .ok (.aconst_null, 1)) (k : G p l e R s m args below meth c D cl A nL Q cells slots V (pc + 1) lo (.null :: st)) : G p l e R s m args below meth c D cl A nL Q cells slots V (pc) lo (st) := fun ad w H locs ls hx0 hw hS hl => lv_null hC.1.1 hC.1.2.1 hd (k ad w H locs ls hx0 hw hS hl)
theorem g_ifnull (hC : g_C p s m args c D cl N A nL cc own Ts) {r : Option Nat} {off : Int} {tgt : Nat} (hd : decode cc pc = .ok (.ifnull off, 3)) (ht : (pc : Int) + off = (tgt : Int)) (kt : r = none → G p l e R s m args below meth c D cl A nL Q cells slots V (tgt) lo (st)) (kf : ∀ a, r = some a → G p l e R s m args below meth c D cl A nL Q cells slots V (pc + 3) lo (st)) : G p l e R s m args below meth c D cl A nL Q cells slots V (pc) lo (va_rf r :: st) := fun ad w H locs ls hx0 hw hS hl => by
  cases r with
  | none => exact lv_ifnullN hC.1.1 hC.1.2.1 hd ht (kt rfl ad w H locs ls hx0 hw hS hl)
  | some a => exact lv_ifnull hC.1.1 hC.1.2.1 hd (kf a rfl ad w H locs ls hx0 hw hS hl)
theorem g_ifnonnull (hC : g_C p s m args c D cl N A nL cc own Ts) {r : Option Nat} {off : Int} {tgt : Nat} (hd : decode cc pc = .ok (.ifnonnull off, 3)) (ht : (pc : Int) + off = (tgt : Int)) (kt : ∀ a, r = some a → G p l e R s m args below meth c D cl A nL Q cells slots V (tgt) lo (st)) (kf : r = none → G p l e R s m args below meth c D cl A nL Q cells slots V (pc + 3) lo (st)) : G p l e R s m args below meth c D cl A nL Q cells slots V (pc) lo (va_rf r :: st) := fun ad w H locs ls hx0 hw hS hl => by
  cases r with
  | none => exact lv_ifnonnullN hC.1.1 hC.1.2.1 hd (kf rfl ad w H locs ls hx0 hw hS hl)
  | some a => exact lv_ifnonnull hC.1.1 hC.1.2.1 hd ht (kt a rfl ad w H locs ls hx0 hw hS hl)
theorem g_los {lo' : List (Nat × Value)} (ks : List Nat) (hlo : lv_pick lo ks = lo') (k : G p l e R s m args below meth c D cl A nL Q cells slots V (pc) lo' (st)) : G p l e R s m args below meth c D cl A nL Q cells slots V (pc) lo (st) := fun ad w H locs ls hx0 hw hS hl => k ad w H locs ls hx0 hw hS (lv_sub hl ks hlo)
theorem g_eqi {x y : Int32} (h : x = y) (k : G p l e R s m args below meth c D cl A nL Q cells slots V (pc) lo (.int y :: st)) : G p l e R s m args below meth c D cl A nL Q cells slots V (pc) lo (.int x :: st) := by
  rw [h]
  exact k
theorem g_eql {x y : Int64} (h : x = y) (k : G p l e R s m args below meth c D cl A nL Q cells slots V (pc) lo (.long y :: st)) : G p l e R s m args below meth c D cl A nL Q cells slots V (pc) lo (.long x :: st) := by
  rw [h]
  exact k
theorem g_pc {pc' : Nat} (h : pc = pc') (k : G p l e R s m args below meth c D cl A nL Q cells slots V (pc') lo (st)) : G p l e R s m args below meth c D cl A nL Q cells slots V (pc) lo (st) := by
  rw [h]
  exact k
theorem g_iaddN (hC : g_C p s m args c D cl N A nL cc own Ts) {a b : Nat} (hd : decode cc pc = .ok (.iadd, 1))  (k : G p l e R s m args below meth c D cl A nL Q cells slots V (pc + 1) lo (.int (nI (a + b)) :: st)) : G p l e R s m args below meth c D cl A nL Q cells slots V (pc) lo (.int (nI b) :: .int (nI a) :: st) := g_iadd hC hd (g_eqi (nI_add a b) k)
theorem g_imulN (hC : g_C p s m args c D cl N A nL cc own Ts) {a b : Nat} (hd : decode cc pc = .ok (.imul, 1))  (k : G p l e R s m args below meth c D cl A nL Q cells slots V (pc + 1) lo (.int (nI (a * b)) :: st)) : G p l e R s m args below meth c D cl A nL Q cells slots V (pc) lo (.int (nI b) :: .int (nI a) :: st) := g_imul hC hd (g_eqi (pk_mul a b) k)
theorem g_isubN (hC : g_C p s m args c D cl N A nL cc own Ts) {a b : Nat} (hd : decode cc pc = .ok (.isub, 1)) (hs : b ≤ a) (k : G p l e R s m args below meth c D cl A nL Q cells slots V (pc + 1) lo (.int (nI (a - b)) :: st)) : G p l e R s m args below meth c D cl A nL Q cells slots V (pc) lo (.int (nI b) :: .int (nI a) :: st) := g_isub hC hd (g_eqi (pk_sub hs) k)
theorem g_idivN (hC : g_C p s m args c D cl N A nL cc own Ts) {a b : Nat} (hd : decode cc pc = .ok (.idiv, 1)) (ha : a < 2 ^ 31) (h0 : 0 < b) (hb : b < 2 ^ 31) (k : G p l e R s m args below meth c D cl A nL Q cells slots V (pc + 1) lo (.int (nI (a / b)) :: st)) : G p l e R s m args below meth c D cl A nL Q cells slots V (pc) lo (.int (nI b) :: .int (nI a) :: st) := g_idiv hC hd (nI_ne0 h0 hb) (g_eqi (pk_div ha h0 hb) k)
theorem g_iremN (hC : g_C p s m args c D cl N A nL cc own Ts) {a b : Nat} (hd : decode cc pc = .ok (.irem, 1)) (ha : a < 2 ^ 31) (h0 : 0 < b) (hb : b < 2 ^ 31) (k : G p l e R s m args below meth c D cl A nL Q cells slots V (pc + 1) lo (.int (nI (a % b)) :: st)) : G p l e R s m args below meth c D cl A nL Q cells slots V (pc) lo (.int (nI b) :: .int (nI a) :: st) := g_irem hC hd (nI_ne0 h0 hb) (g_eqi (pk_rem ha h0 hb) k)
theorem g_icmp_eqN (hC : g_C p s m args c D cl N A nL cc own Ts) {a b : Nat} {off : Int} {tgt : Nat} (hd : decode cc pc = .ok (.if_icmp .eq off, 3)) (ht : (pc : Int) + off = (tgt : Int)) (ha : a < 2 ^ 31) (hb : b < 2 ^ 31) (kt : a = b → G p l e R s m args below meth c D cl A nL Q cells slots V (tgt) lo (st)) (kf : a ≠ b → G p l e R s m args below meth c D cl A nL Q cells slots V (pc + 3) lo (st)) : G p l e R s m args below meth c D cl A nL Q cells slots V (pc) lo (.int (nI b) :: .int (nI a) :: st) := g_icmp_eq hC hd ht (fun h => kt ((nI_eq ha hb).mp h)) (fun h => kf (fun q => h ((nI_eq ha hb).mpr q)))
theorem g_icmp_neN (hC : g_C p s m args c D cl N A nL cc own Ts) {a b : Nat} {off : Int} {tgt : Nat} (hd : decode cc pc = .ok (.if_icmp .ne off, 3)) (ht : (pc : Int) + off = (tgt : Int)) (ha : a < 2 ^ 31) (hb : b < 2 ^ 31) (kt : a ≠ b → G p l e R s m args below meth c D cl A nL Q cells slots V (tgt) lo (st)) (kf : a = b → G p l e R s m args below meth c D cl A nL Q cells slots V (pc + 3) lo (st)) : G p l e R s m args below meth c D cl A nL Q cells slots V (pc) lo (.int (nI b) :: .int (nI a) :: st) := g_icmp_ne hC hd ht (fun h => kt (fun q => h ((nI_eq ha hb).mpr q))) (fun h => kf ((nI_eq ha hb).mp h))
theorem g_icmp_ltN (hC : g_C p s m args c D cl N A nL cc own Ts) {a b : Nat} {off : Int} {tgt : Nat} (hd : decode cc pc = .ok (.if_icmp .lt off, 3)) (ht : (pc : Int) + off = (tgt : Int)) (ha : a < 2 ^ 31) (hb : b < 2 ^ 31) (kt : a < b → G p l e R s m args below meth c D cl A nL Q cells slots V (tgt) lo (st)) (kf : b ≤ a → G p l e R s m args below meth c D cl A nL Q cells slots V (pc + 3) lo (st)) : G p l e R s m args below meth c D cl A nL Q cells slots V (pc) lo (.int (nI b) :: .int (nI a) :: st) := g_icmp_lt hC hd ht (fun h => kt ((nI_ltI ha hb).mp h)) (fun h => kf (Nat.le_of_not_lt (fun q => h ((nI_ltI ha hb).mpr q))))
theorem g_icmp_geN (hC : g_C p s m args c D cl N A nL cc own Ts) {a b : Nat} {off : Int} {tgt : Nat} (hd : decode cc pc = .ok (.if_icmp .ge off, 3)) (ht : (pc : Int) + off = (tgt : Int)) (ha : a < 2 ^ 31) (hb : b < 2 ^ 31) (kt : b ≤ a → G p l e R s m args below meth c D cl A nL Q cells slots V (tgt) lo (st)) (kf : a < b → G p l e R s m args below meth c D cl A nL Q cells slots V (pc + 3) lo (st)) : G p l e R s m args below meth c D cl A nL Q cells slots V (pc) lo (.int (nI b) :: .int (nI a) :: st) := g_icmp_ge hC hd ht (fun h => kt ((nI_leI hb ha).mp h)) (fun h => kf (Nat.lt_of_not_le (fun q => h ((nI_leI hb ha).mpr q))))
theorem g_icmp_gtN (hC : g_C p s m args c D cl N A nL cc own Ts) {a b : Nat} {off : Int} {tgt : Nat} (hd : decode cc pc = .ok (.if_icmp .gt off, 3)) (ht : (pc : Int) + off = (tgt : Int)) (ha : a < 2 ^ 31) (hb : b < 2 ^ 31) (kt : b < a → G p l e R s m args below meth c D cl A nL Q cells slots V (tgt) lo (st)) (kf : a ≤ b → G p l e R s m args below meth c D cl A nL Q cells slots V (pc + 3) lo (st)) : G p l e R s m args below meth c D cl A nL Q cells slots V (pc) lo (.int (nI b) :: .int (nI a) :: st) := g_icmp_gt hC hd ht (fun h => kt ((nI_ltI hb ha).mp h)) (fun h => kf (Nat.le_of_not_lt (fun q => h ((nI_ltI hb ha).mpr q))))
theorem g_icmp_leN (hC : g_C p s m args c D cl N A nL cc own Ts) {a b : Nat} {off : Int} {tgt : Nat} (hd : decode cc pc = .ok (.if_icmp .le off, 3)) (ht : (pc : Int) + off = (tgt : Int)) (ha : a < 2 ^ 31) (hb : b < 2 ^ 31) (kt : a ≤ b → G p l e R s m args below meth c D cl A nL Q cells slots V (tgt) lo (st)) (kf : b < a → G p l e R s m args below meth c D cl A nL Q cells slots V (pc + 3) lo (st)) : G p l e R s m args below meth c D cl A nL Q cells slots V (pc) lo (.int (nI b) :: .int (nI a) :: st) := g_icmp_le hC hd ht (fun h => kt ((nI_leI ha hb).mp h)) (fun h => kf (Nat.lt_of_not_le (fun q => h ((nI_leI ha hb).mpr q))))
theorem g_if_eqN (hC : g_C p s m args c D cl N A nL cc own Ts) {a : Nat} {off : Int} {tgt : Nat} (hd : decode cc pc = .ok (.ifCond .eq off, 3)) (ht : (pc : Int) + off = (tgt : Int)) (ha : a < 2 ^ 31) (kt : a = 0 → G p l e R s m args below meth c D cl A nL Q cells slots V (tgt) lo (st)) (kf : a ≠ 0 → G p l e R s m args below meth c D cl A nL Q cells slots V (pc + 3) lo (st)) : G p l e R s m args below meth c D cl A nL Q cells slots V (pc) lo (.int (nI a) :: st) := g_if_eq hC hd ht (fun h => kt ((nI_eq (b := 0) ha (by decide)).mp h)) (fun h => kf (fun q => h ((nI_eq (b := 0) ha (by decide)).mpr q)))
theorem g_if_neN (hC : g_C p s m args c D cl N A nL cc own Ts) {a : Nat} {off : Int} {tgt : Nat} (hd : decode cc pc = .ok (.ifCond .ne off, 3)) (ht : (pc : Int) + off = (tgt : Int)) (ha : a < 2 ^ 31) (kt : a ≠ 0 → G p l e R s m args below meth c D cl A nL Q cells slots V (tgt) lo (st)) (kf : a = 0 → G p l e R s m args below meth c D cl A nL Q cells slots V (pc + 3) lo (st)) : G p l e R s m args below meth c D cl A nL Q cells slots V (pc) lo (.int (nI a) :: st) := g_if_ne hC hd ht (fun h => kt (fun q => h ((nI_eq (b := 0) ha (by decide)).mpr q))) (fun h => kf ((nI_eq (b := 0) ha (by decide)).mp h))
theorem g_if_gtN (hC : g_C p s m args c D cl N A nL cc own Ts) {a : Nat} {off : Int} {tgt : Nat} (hd : decode cc pc = .ok (.ifCond .gt off, 3)) (ht : (pc : Int) + off = (tgt : Int)) (ha : a < 2 ^ 31) (kt : 0 < a → G p l e R s m args below meth c D cl A nL Q cells slots V (tgt) lo (st)) (kf : a = 0 → G p l e R s m args below meth c D cl A nL Q cells slots V (pc + 3) lo (st)) : G p l e R s m args below meth c D cl A nL Q cells slots V (pc) lo (.int (nI a) :: st) := g_if_gt hC hd ht (fun h => kt ((nI_ltI (a := 0) (by decide) ha).mp h)) (fun h => kf (Nat.eq_zero_of_not_pos (fun q => h ((nI_ltI (a := 0) (by decide) ha).mpr q))))
theorem g_if_leN (hC : g_C p s m args c D cl N A nL cc own Ts) {a : Nat} {off : Int} {tgt : Nat} (hd : decode cc pc = .ok (.ifCond .le off, 3)) (ht : (pc : Int) + off = (tgt : Int)) (ha : a < 2 ^ 31) (kt : a = 0 → G p l e R s m args below meth c D cl A nL Q cells slots V (tgt) lo (st)) (kf : 0 < a → G p l e R s m args below meth c D cl A nL Q cells slots V (pc + 3) lo (st)) : G p l e R s m args below meth c D cl A nL Q cells slots V (pc) lo (.int (nI a) :: st) := g_if_le hC hd ht (fun h => kt (Nat.le_zero.mp ((nI_leI (b := 0) ha (by decide)).mp h))) (fun h => kf (Nat.lt_of_not_le (fun q => h ((nI_leI (b := 0) ha (by decide)).mpr q))))
theorem g_if_ltN (hC : g_C p s m args c D cl N A nL cc own Ts) {a : Nat} {off : Int} {tgt : Nat} (hd : decode cc pc = .ok (.ifCond .lt off, 3)) (ht : (pc : Int) + off = (tgt : Int)) (ha : a < 2 ^ 31) (kf : G p l e R s m args below meth c D cl A nL Q cells slots V (pc + 3) lo (st)) : G p l e R s m args below meth c D cl A nL Q cells slots V (pc) lo (.int (nI a) :: st) := g_if_lt hC hd ht (fun h => absurd h (nI_pos ha)) (fun _ => kf)
theorem g_if_geN (hC : g_C p s m args c D cl N A nL cc own Ts) {a : Nat} {off : Int} {tgt : Nat} (hd : decode cc pc = .ok (.ifCond .ge off, 3)) (ht : (pc : Int) + off = (tgt : Int)) (ha : a < 2 ^ 31) (kt : G p l e R s m args below meth c D cl A nL Q cells slots V (tgt) lo (st)) : G p l e R s m args below meth c D cl A nL Q cells slots V (pc) lo (.int (nI a) :: st) := g_if_ge hC hd ht (fun _ => kt) (fun h => absurd (nI_pos' ha) h)
theorem g_get {a : Nat} {ref C : String} {T : u_T} {NF ci index : Nat} {fs : List Value} {v : Value} (hC : g_C p s m args c D cl N A nL cc own Ts) (hin : ∀ x ∈ u_ws C T NF, x ∈ Ts) (q : Nat) (hq : ∀ ad w, V ad w → ad q = a ∧ w q = some (.inr (ci, fs))) (hc : cl[ci]? = some (C, T, NF)) (k : Nat) (hk : k < NF) (hlink : Cond.fieldLink own index ref (T k).2.1 (T k).2.2.1 ∈ Ts) (href : (T k).1 = ref) (hfv : fs[k]? = some v) (hd : decode cc pc = .ok (.getfield index, 3)) (kk : G p l e R s m args below meth c D cl A nL Q cells slots V (pc + 3) lo (v :: st)) : G p l e R s m args below meth c D cl A nL Q cells slots V (pc) lo (.ref a :: st) := fun ad w H locs ls hx0 hw hS hl => by
  obtain ⟨ha, he⟩ := hq ad w hx0
  subst ha
  subst href
  have hP : va_P D cl [(ad q, .inr (ci, fs))] H := fun k2 x hx => by
    have hz : k2 < 1 := (List.getElem?_eq_some_iff.mp hx).1
    rw [show k2 = 0 by omega] at hx
    cases hx
    exact (hw.1 q _ he).1
  exact va_get hC.1.1 hC.1.2.1 hC.1.2.2.2.2 hin hC.1.2.2.2.1 hC.2.1 hP 0 rfl hc k hk (hC.1.2.2.2.2 _ hlink) (fun _ h => h) hfv hd (kk ad w H locs ls hx0 hw hS hl)
theorem g_getN {a : Nat} {ref C host : String} {T : u_T} {NF ci index : Nat} {fs : List Value} {v : Value} (hC : g_C p s m args c D cl N A nL cc own Ts) (hin : ∀ x ∈ u_ws C T NF, x ∈ Ts) (q : Nat) (hq : ∀ ad w, V ad w → ad q = a ∧ w q = some (.inr (ci, fs))) (hc : cl[ci]? = some (C, T, NF)) (k : Nat) (hk : k < NF) (hlink : va_Nw (Cond.fieldLinkNest own index ref (T k).2.1 (T k).2.2.1 host) s) (href : (T k).1 = ref) (hfv : fs[k]? = some v) (hd : decode cc pc = .ok (.getfield index, 3)) (kk : G p l e R s m args below meth c D cl A nL Q cells slots V (pc + 3) lo (v :: st)) : G p l e R s m args below meth c D cl A nL Q cells slots V (pc) lo (.ref a :: st) := fun ad w H locs ls hx0 hw hS hl => by
  obtain ⟨ha, he⟩ := hq ad w hx0
  subst ha
  subst href
  have hP : va_P D cl [(ad q, .inr (ci, fs))] H := fun k2 x hx => by
    have hz : k2 < 1 := (List.getElem?_eq_some_iff.mp hx).1
    rw [show k2 = 0 by omega] at hx
    cases hx
    exact (hw.1 q _ he).1
  exact va_getN hC.1.1 hC.1.2.1 hC.1.2.2.2.2 hin hC.1.2.2.2.1 hC.2.1 hP 0 rfl hc k hk (va_Nw.use rfl hlink) (fun _ h => h) hfv hd (kk ad w H locs ls hx0 hw hS hl)
theorem g_put {a : Nat} {ref C : String} {T : u_T} {NF ci index : Nat} {fs : List Value} {v : Value} {ty : FieldType} (hC : g_C p s m args c D cl N A nL cc own Ts) (hin : ∀ x ∈ u_ws C T NF, x ∈ Ts) (ty0 : Nat → FieldType) (hty : ∀ k, k < NF → parseFieldDescriptor (T k).2.2.1 = some (ty0 k)) (hnm : ∀ a, a < NF → ∀ b, b < NF → a ≠ b → (T a).2.1 ≠ (T b).2.1) (q : Nat) (hq : ∀ ad w, V ad w → ad q = a ∧ w q = some (.inr (ci, fs))) (hc : cl[ci]? = some (C, T, NF)) (k : Nat) (hk : k < NF) (hlink : Cond.fieldLink own index ref (T k).2.1 (T k).2.2.1 ∈ Ts) (href : (T k).1 = ref) (hfin : (T k).2.2.2 = false) (hd0 : parseFieldDescriptor (T k).2.2.1 = some ty) (hn : narrow ty v = v) (hfit : fits ty v = true) (hl0 : k < fs.length) {V' : (Nat → Nat) → gW → Prop} (hV : ∀ ad w, V ad w → V' ad (va_up w q (some (.inr (ci, fs.set k v))))) (hd : decode cc pc = .ok (.putfield index, 3)) (kk : G p l e R s m args below meth c D cl A nL Q cells slots V' (pc + 3) lo (st)) : G p l e R s m args below meth c D cl A nL Q cells slots V (pc) lo (v :: .ref a :: st) := fun ad w H locs ls hx0 hw hS hl => by
  obtain ⟨ha, he⟩ := hq ad w hx0
  subst ha
  subst href
  have hts := hC.1.2.2.2.2
  have hap := va_apart (own := own) hts hin ty0 hty hnm hC.2.1 hc
  obtain ⟨r, h1, cell, q1, q2, q3, q4⟩ := (hw.1 q _ he).1
  have hr : r = (C, T, NF) := Option.some.inj (h1.symm.trans hc)
  subst hr
  obtain ⟨hSl, hfc, kC, hkC, hkind⟩ := hC.2.1.1 ci _ hc
  obtain ⟨cf, kf, fi, f, hi, hsl⟩ := hSl k hk
  have hlay := hts _ (hin _ (u_in_lay hk))
  unfold u_lay at hlay
  rw [if_neg (by rw [hfin]; decide)] at hlay
  have hst := (u_facts hfc hkC (u_lays hts hin hk) hi).1
  have h6 := u_store hfc hkC hkind hlay hi hd0 hn hfit
  refine W.putK hC.1.1 hC.1.2.1 (f := f) ⟨hC.1.2.2.2.1, hts _ hlink, ⟨_, _, _, hi⟩, hst⟩ (by rw [q2]; exact h6) q1 q3 (by rw [hsl]; exact k2_hasslot (q4 k hk)) rfl rfl hd fun H' e1 e2 e3 => ?_
  rw [hsl] at e1 ⊢
  exact kk ad _ H' _ ls (hV ad w hx0) (hw.put he ⟨_, hc, t_OB.to (V := updV (vp_V fs) k v) ⟨_, e1, q2, q3, t_set q4 hap hk v⟩ (fun j _ => vp_updV_set hl0 v j)⟩ e3) (hS.put e2 e3 (hw.1 q _ he).2) hl
theorem g_putF {a : Nat} {ref C : String} {T : u_T} {NF ci index : Nat} {fs : List Value} {v : Value} {ty : FieldType} (hC : g_C p s m args c D cl N A nL cc own Ts) (hin2 : meth.name = "<init>") (hin : ∀ x ∈ u_ws C T NF, x ∈ Ts) (ty0 : Nat → FieldType) (hty : ∀ k, k < NF → parseFieldDescriptor (T k).2.2.1 = some (ty0 k)) (hnm : ∀ a, a < NF → ∀ b, b < NF → a ≠ b → (T a).2.1 ≠ (T b).2.1) (q : Nat) (hq : ∀ ad w, V ad w → ad q = a ∧ w q = some (.inr (ci, fs))) (hc : cl[ci]? = some (C, T, NF)) (k : Nat) (hk : k < NF) (hlink : Cond.fieldLink own index ref (T k).2.1 (T k).2.2.1 ∈ Ts) (href : (T k).1 = ref) (hfin : (T k).2.2.2 = true) (hdecl : (T k).1 = own) (hd0 : parseFieldDescriptor (T k).2.2.1 = some ty) (hn : narrow ty v = v) (hfit : fits ty v = true) (hl0 : k < fs.length) {V' : (Nat → Nat) → gW → Prop} (hV : ∀ ad w, V ad w → V' ad (va_up w q (some (.inr (ci, fs.set k v))))) (hd : decode cc pc = .ok (.putfield index, 3)) (kk : G p l e R s m args below meth c D cl A nL Q cells slots V' (pc + 3) lo (st)) : G p l e R s m args below meth c D cl A nL Q cells slots V (pc) lo (v :: .ref a :: st) := fun ad w H locs ls hx0 hw hS hl => by
  obtain ⟨ha, he⟩ := hq ad w hx0
  subst ha
  subst href
  have hts := hC.1.2.2.2.2
  have hap := va_apart (own := own) hts hin ty0 hty hnm hC.2.1 hc
  obtain ⟨r, h1, cell, q1, q2, q3, q4⟩ := (hw.1 q _ he).1
  have hr : r = (C, T, NF) := Option.some.inj (h1.symm.trans hc)
  subst hr
  obtain ⟨hSl, hfc, kC, hkC, hkind⟩ := hC.2.1.1 ci _ hc
  obtain ⟨cf, kf, fi, f, hi, hsl⟩ := hSl k hk
  have hlay := hts _ (hin _ (u_in_lay hk))
  unfold u_lay at hlay
  rw [if_pos hfin] at hlay
  have hst := (u_facts hfc hkC (u_lays hts hin hk) hi).1
  have hcf : m.cls = cf := by
    obtain ⟨_, _, c', _, _, _, -, -, hf', -, -, -, hown2, -⟩ := Cond.laysFinal_spec hlay
    have e1 : c' = cf := by
      have := hi.symm.trans hf'
      simp at this
      exact this.1.symm
    rw [hdecl] at hown2
    rw [← e1]
    exact Option.some.inj (hC.1.2.2.2.1.symm.trans hown2)
  have h6 := u_fits hfc hkC hkind (Or.inr hlay) hi hd0 hn hfit
  refine W.putFinK hC.1.1 hC.1.2.1 hC.1.2.2.2.1 (hts _ hlink) hi hst hcf hin2 (by rw [q2]; exact h6) q1 q3 (by rw [hsl]; exact k2_hasslot (q4 k hk)) rfl rfl hd fun H' e1 e2 e3 => ?_
  rw [hsl] at e1 ⊢
  exact kk ad _ H' _ ls (hV ad w hx0) (hw.put he ⟨_, hc, t_OB.to (V := updV (vp_V fs) k v) ⟨_, e1, q2, q3, t_set q4 hap hk v⟩ (fun j _ => vp_updV_set hl0 v j)⟩ e3) (hS.put e2 e3 (hw.1 q _ he).2) hl
theorem g_ald {a n j : Nat} {f : Nat → Int32} (hC : g_C p s m args c D cl N A nL cc own Ts) (q : Nat) (hq : ∀ ad w, V ad w → ad q = a ∧ w q = some (.inl (.int, n, .inl f))) (hj : j < n) (hn : n < 2 ^ 31) (hd : decode cc pc = .ok (.iaload, 1)) (kk : G p l e R s m args below meth c D cl A nL Q cells slots V (pc + 1) lo (.int (f j) :: st)) : G p l e R s m args below meth c D cl A nL Q cells slots V (pc) lo (.int (nI j) :: .ref a :: st) := fun ad w H locs ls hx0 hw hS hl => by
  obtain ⟨ha, he⟩ := hq ad w hx0
  subst ha
  obtain ⟨cA, h1, h2, h3⟩ := (hw.1 q _ he).1
  have hin := vp_in_nI hj hn
  have hcl := nI_clamp (n := j) (by omega)
  refine W.iald (v := .int (f j)) hC.1.1 hC.1.2.1 h3 (h1 n (fun j => .int (f j))) (fun q => by cases q) (by show ¬ (nI j < 0 ∨ (arrV _ _ _).slots.size ≤ _); rw [arrV_size]; exact hin) (by show (arrV _ _ _).slots[_]? = _; rw [hcl, arrV_read _ _ hj]) rfl rfl hd (kk ad w H locs ls hx0 hw hS hl)
theorem g_zld {a n j : Nat} {f : Nat → Int32} (hC : g_C p s m args c D cl N A nL cc own Ts) (q : Nat) (hq : ∀ ad w, V ad w → ad q = a ∧ w q = some (.inl (.boolean, n, .inl f))) (hj : j < n) (hn : n < 2 ^ 31) (hd : decode cc pc = .ok (.baload, 1)) (kk : G p l e R s m args below meth c D cl A nL Q cells slots V (pc + 1) lo (.int (f j) :: st)) : G p l e R s m args below meth c D cl A nL Q cells slots V (pc) lo (.int (nI j) :: .ref a :: st) := fun ad w H locs ls hx0 hw hS hl => by
  obtain ⟨ha, he⟩ := hq ad w hx0
  subst ha
  obtain ⟨cA, h1, h2, h3⟩ := (hw.1 q _ he).1
  have hin := vp_in_nI hj hn
  have hcl := nI_clamp (n := j) (by omega)
  refine W.zald (v := .int (f j)) hC.1.1 hC.1.2.1 h3 (h1 n (fun j => .int (f j))) (fun q => by cases q) (by show ¬ (nI j < 0 ∨ (arrV _ _ _).slots.size ≤ _); rw [arrV_size]; exact hin) (by show (arrV _ _ _).slots[_]? = _; rw [hcl, arrV_read _ _ hj]) rfl rfl hd (kk ad w H locs ls hx0 hw hS hl)
theorem g_qld {a n j : Nat} {C : String} {f : Nat → Option Nat} (hC : g_C p s m args c D cl N A nL cc own Ts) (q : Nat) (hq : ∀ ad w, V ad w → ad q = a ∧ w q = some (.inl (.object C, n, .inr (.inr (.inr (.inr f)))))) (hj : j < n) (hn : n < 2 ^ 31) (hd : decode cc pc = .ok (.aaload, 1)) (kk : G p l e R s m args below meth c D cl A nL Q cells slots V (pc + 1) lo (va_rf (f j) :: st)) : G p l e R s m args below meth c D cl A nL Q cells slots V (pc) lo (.int (nI j) :: .ref a :: st) := fun ad w H locs ls hx0 hw hS hl => by
  obtain ⟨ha, he⟩ := hq ad w hx0
  subst ha
  obtain ⟨cA, h1, h2, h3⟩ := (hw.1 q _ he).1
  have hin := vp_in_nI hj hn
  have hcl := nI_clamp (n := j) (by omega)
  refine W.aald (v := va_rf (f j)) (ty := .object C) hC.1.1 hC.1.2.1 h3 (h1 n (fun j => va_rf (f j))) rfl (fun q => by cases q) (by show ¬ (nI j < 0 ∨ (arrV _ _ _).slots.size ≤ _); rw [arrV_size]; exact hin) (by show (arrV _ _ _).slots[_]? = _; rw [hcl, arrV_read _ _ hj]) rfl rfl hd (kk ad w H locs ls hx0 hw hS hl)
theorem g_len {a n : Nat} {f : Nat → Int32} (hC : g_C p s m args c D cl N A nL cc own Ts) (q : Nat) (hq : ∀ ad w, V ad w → ad q = a ∧ w q = some (.inl (.int, n, .inl f))) (hd : decode cc pc = .ok (.arraylength, 1)) (kk : G p l e R s m args below meth c D cl A nL Q cells slots V (pc + 1) lo (.int (nI n) :: st)) : G p l e R s m args below meth c D cl A nL Q cells slots V (pc) lo (.ref a :: st) := fun ad w H locs ls hx0 hw hS hl => by
  obtain ⟨ha, he⟩ := hq ad w hx0
  subst ha
  obtain ⟨cA, h1, h2, h3⟩ := (hw.1 q _ he).1
  exact W.alen (n := nI n) hC.1.1 hC.1.2.1 h3 (h1 n (fun j => .int (f j))) (by rw [vp_cell_i, arrV_size] <;> rfl) rfl rfl hd (kk ad w H locs ls hx0 hw hS hl)
theorem g_ast {a n j : Nat} {f : Nat → Int32} {x : Int32} (hC : g_C p s m args c D cl N A nL cc own Ts) (q : Nat) (hq : ∀ ad w, V ad w → ad q = a ∧ w q = some (.inl (.int, n, .inl f))) (hj : j < n) (hn : n < 2 ^ 31) {V' : (Nat → Nat) → gW → Prop} (hV : ∀ ad w, V ad w → V' ad (va_up w q (some (.inl (.int, n, .inl (va_up f j x)))))) (hd : decode cc pc = .ok (.iastore, 1)) (kk : G p l e R s m args below meth c D cl A nL Q cells slots V' (pc + 1) lo (st)) : G p l e R s m args below meth c D cl A nL Q cells slots V (pc) lo (.int x :: .int (nI j) :: .ref a :: st) := fun ad w H locs ls hx0 hw hS hl => by
  obtain ⟨ha, he⟩ := hq ad w hx0
  subst ha
  obtain ⟨cA, h1, h2, h3⟩ := (hw.1 q _ he).1
  have hin := vp_in_nI hj hn
  have hcl := nI_clamp (n := j) (by omega)
  refine W.iast hC.1.1 hC.1.2.1 h3 (h1 n (fun j => .int (f j))) (fun q => by cases q) (by show ¬ (nI j < 0 ∨ (arrV _ _ _).slots.size ≤ _); rw [arrV_size]; exact hin) rfl rfl hd fun H1 e1 z oq => ?_
  refine kk ad _ H1 _ ls (hV ad w hx0) (hw.put he ⟨cA, h1, h2, ?_⟩ oq) (hS.put z oq (hw.1 q _ he).2) hl
  rw [e1, vp_cell_i, vp_cell_i, arrV_store, hcl]
  congr 2
  funext i
  by_cases hi : i = j
  · subst hi
    simp [updV, va_up]
  · simp [updV, va_up, hi]
theorem g_zst {a n j : Nat} {f : Nat → Int32} {x : Int32} (hC : g_C p s m args c D cl N A nL cc own Ts) (q : Nat) (hq : ∀ ad w, V ad w → ad q = a ∧ w q = some (.inl (.boolean, n, .inl f))) (hj : j < n) (hn : n < 2 ^ 31) (hx : vp_nar .boolean x = x) {V' : (Nat → Nat) → gW → Prop} (hV : ∀ ad w, V ad w → V' ad (va_up w q (some (.inl (.boolean, n, .inl (va_up f j x)))))) (hd : decode cc pc = .ok (.bastore, 1)) (kk : G p l e R s m args below meth c D cl A nL Q cells slots V' (pc + 1) lo (st)) : G p l e R s m args below meth c D cl A nL Q cells slots V (pc) lo (.int x :: .int (nI j) :: .ref a :: st) := fun ad w H locs ls hx0 hw hS hl => by
  obtain ⟨ha, he⟩ := hq ad w hx0
  subst ha
  obtain ⟨cA, h1, h2, h3⟩ := (hw.1 q _ he).1
  have hin := vp_in_nI hj hn
  have hcl := nI_clamp (n := j) (by omega)
  refine W.zast hC.1.1 hC.1.2.1 h3 (h1 n (fun j => .int (f j))) (fun q => by cases q) (by show ¬ (nI j < 0 ∨ (arrV _ _ _).slots.size ≤ _); rw [arrV_size]; exact hin) rfl rfl hd fun H1 e1 z oq => ?_
  refine kk ad _ H1 _ ls (hV ad w hx0) (hw.put he ⟨cA, h1, h2, ?_⟩ oq) (hS.put z oq (hw.1 q _ he).2) hl
  rw [e1, vp_cell_i, vp_cell_i, arrV_store, hcl]
  congr 2
  funext i
  by_cases hi : i = j
  · subst hi
    have : narrow .boolean (.int x) = .int x := by
      unfold vp_nar at hx
      cases hb : narrow .boolean (.int x) <;> rw [hb] at hx <;> simp_all [narrow]
    simp [updV, va_up, this]
  · simp [updV, va_up, hi]
theorem g_qst {a n j v ci qk : Nat} {r : vw_C} {vs : List Value} {f : Nat → Option Nat} (hC : g_C p s m args c D cl N A nL cc own Ts) (q : Nat) (hq : ∀ ad w, V ad w → ad q = a ∧ w q = some (.inl (.object r.1, n, .inr (.inr (.inr (.inr f)))))) (hqk : ∀ ad w, V ad w → ad qk = v ∧ w qk = some (.inr (ci, vs))) (hc : cl[ci]? = some r) (hj : j < n) (hn : n < 2 ^ 31) {V' : (Nat → Nat) → gW → Prop} (hV : ∀ ad w, V ad w → V' ad (va_up w q (some (.inl (.object r.1, n, .inr (.inr (.inr (.inr (va_up f j (some v)))))))))) (hd : decode cc pc = .ok (.aastore, 1)) (kk : G p l e R s m args below meth c D cl A nL Q cells slots V' (pc + 1) lo (st)) : G p l e R s m args below meth c D cl A nL Q cells slots V (pc) lo (.ref v :: .int (nI j) :: .ref a :: st) := fun ad w H locs ls hx0 hw hS hl => by
  obtain ⟨ha, he⟩ := hq ad w hx0
  obtain ⟨ha2, hek⟩ := hqk ad w hx0
  subst ha
  subst ha2
  obtain ⟨cA, h1, ⟨kA, comp, k1, k2, k3, k4⟩, h3⟩ := (hw.1 q _ he).1
  obtain ⟨r', hr', cellV, g1, g2, g3, -⟩ := (hw.1 qk _ hek).1
  have hcls := (hC.2.1.1 ci r hc).2
  have hcomp : comp = D.1 ci := Option.some.inj (k3.symm.trans hcls.1)
  subst hcomp
  obtain ⟨kC, hkC, -⟩ := hcls.2
  have hin := vp_in_nI hj hn
  have hcl := nI_clamp (n := j) (by omega)
  refine W.aast hC.1.1 hC.1.2.1 h3 (fun q h => by cases h) (fun h => by cases h) k1 k2 rfl hkC ⟨nI_pos (by omega), by show _ < (arrV _ _ _).slots.size; rw [arrV_size, hcl]; exact hj⟩ g1 (fun q h => by rw [g3] at h; cases h) (by rw [g2]; exact hkC) (by rw [g2]; exact va_assign hcls) rfl rfl hd fun H1 e1 z oq => ?_
  refine kk ad _ H1 _ ls (hV ad w hx0) (hw.put he ⟨cA, h1, ⟨kA, D.1 ci, k1, k2, k3, k4⟩, ?_⟩ oq) (hS.put z oq (hw.1 q _ he).2) hl
  rw [e1, vp_cell_q, vp_cell_q, arrV_store, hcl]
  congr 2
  funext i
  by_cases hi : i = j
  · subst hi
    simp [updV, va_up, va_rf]
  · simp [updV, va_up, hi]
theorem g_new {C : String} {T : u_T} {NF ci index k : Nat} {fs : List Value} (hC : g_C p s m args c D cl N A nL cc own Ts) (hin : ∀ x ∈ u_ws C T NF, x ∈ Ts) (ty : Nat → FieldType) (hty : ∀ k, k < NF → parseFieldDescriptor (T k).2.2.1 = some (ty k)) (hcl : Cond.classLink own index C ∈ Ts) (hinst : Cond.instantiable C NF ∈ Ts) (hini : Cond.initialized C ∈ Ts) (hc : cl[ci]? = some (C, T, NF)) (hk : ∀ ad w, V ad w → w k = none) (hfs : ∀ j, j < NF → defaultValue (ty j) = vp_V fs j) (hcells : cells + 1 ≤ R.cells) (hslots : slots + NF ≤ R.slots) {V' : Nat → (Nat → Nat) → gW → Prop} (hV : ∀ z ad w, V ad w → V' z (va_up ad k z) (va_up w k (some (.inr (ci, fs))))) (hd : decode cc pc = .ok (.new index, 3)) (kk : ∀ z : Nat, G p l e R s m args below meth c D cl A nL Q (cells + 1) (slots + NF) (V' z) (pc + 3) lo (.ref z :: st)) : G p l e R s m args below meth c D cl A nL Q cells slots V (pc) lo (st) := fun ad w H locs ls hx0 hw hS hl => by
  have hts := hC.1.2.2.2.2
  have hKn := hC.2.1.1 ci _ hc
  refine W.newcK hC.1.1 hC.1.2.1 hC.1.2.2.2.1 (hts _ hcl) (hts _ hinst) (hts _ hini) rfl hd hcells hslots hKn.2.1 rfl fun H1 kC hkC e1 z1 o1 => ?_
  refine kk H.size _ _ H1 locs ls (hV H.size ad w hx0) (hw.new (hk ad w hx0) ⟨_, hc, (u_born ty hts hin hKn hkC e1 hty).to hfs⟩ o1 (hC.2.2.2 _ hS.1)) ⟨Nat.le_trans hS.1 (by omega), fun x h1 h2 => (o1 x (Nat.lt_of_lt_of_le h1 hS.1)).trans (hS.2.1 x h1 h2), hS.2.2⟩ hl
theorem g_newa {atype : ArrayType} {ty : FieldType} {n k : Nat} {a0 : vp_A} (hC : g_C p s m args c D cl N A nL cc own Ts) (harr : Cond.arrayClass (newarray.typeOf atype) ∈ Ts) (hty : newarray.typeOf atype = ty) (ha : ∀ cA : ClassId, vp_cell cA a0 = arrV cA n (fun _ => defaultValue ty)) (hk : ∀ ad w, V ad w → w k = none) (hn : n < 2 ^ 31) (hbytes : n * componentBytes ty ≤ 536870912) (hcells : cells + 1 ≤ R.cells) (hslots : slots + n ≤ R.slots) {V' : Nat → (Nat → Nat) → gW → Prop} (hV : ∀ z ad w, V ad w → V' z (va_up ad k z) (va_up w k (some (.inl (ty, a0))))) (hd : decode cc pc = .ok (.newarray atype, 2)) (kk : ∀ z : Nat, G p l e R s m args below meth c D cl A nL Q (cells + 1) (slots + n) (V' z) (pc + 2) lo (.ref z :: st)) : G p l e R s m args below meth c D cl A nL Q cells slots V (pc) lo (.int (nI n) :: st) := fun ad w H locs ls hx0 hw hS hl => by
  subst hty
  refine va_newaK hC.1.1 hC.1.2.1 (hC.1.2.2.2.2 _ harr) rfl hd rfl (nI_pos hn) (nI_clamp hn) hbytes hcells hslots rfl fun H1 cA e1 z1 o1 hAr hNm => ?_
  refine kk H.size _ _ H1 locs ls (hV H.size ad w hx0) (hw.new (hk ad w hx0) ⟨cA, hAr, by cases atype <;> exact hNm, by rw [ha]; exact e1⟩ o1 (hC.2.2.2 _ hS.1)) ⟨Nat.le_trans hS.1 (by omega), fun x h1 h2 => (o1 x (Nat.lt_of_lt_of_le h1 hS.1)).trans (hS.2.1 x h1 h2), hS.2.2⟩ hl
theorem g_newq {C : String} {index n k : Nat} (hC : g_C p s m args c D cl N A nL cc own Ts) (hclink : Cond.classLink own index C ∈ Ts) (hover : va_AO C s) (hk : ∀ ad w, V ad w → w k = none) (hn : n < 2 ^ 31) (hbytes : n * 4 ≤ 536870912) (hcells : cells + 1 ≤ R.cells) (hslots : slots + n ≤ R.slots) {V' : Nat → (Nat → Nat) → gW → Prop} (hV : ∀ z ad w, V ad w → V' z (va_up ad k z) (va_up w k (some (.inl (.object C, n, .inr (.inr (.inr (.inr (fun _ => none))))))))) (hd : decode cc pc = .ok (.anewarray index, 3)) (kk : ∀ z : Nat, G p l e R s m args below meth c D cl A nL Q (cells + 1) (slots + n) (V' z) (pc + 3) lo (.ref z :: st)) : G p l e R s m args below meth c D cl A nL Q cells slots V (pc) lo (.int (nI n) :: st) := fun ad w H locs ls hx0 hw hS hl => by
  have hcl := nI_clamp (n := n) hn
  refine W.anew hC.1.1 hC.1.2.1 hC.1.2.2.2.1 (hC.1.2.2.2.2 _ hclink) (va_AO.use hover) rfl hd rfl (nI_pos hn) (by rw [hcl]; exact hbytes) hcells (by rw [hcl]; exact hslots) fun cA kA comp f1 f2 f3 f4 => ?_
  generalize hH1 : H.push ({ cls := cA, slots := Array.replicate (nI n).toNatClampNeg .null, vm := .none } : Cell) = H1
  have z1 : H1.size = H.size + 1 := by rw [← hH1, Array.size_push]
  have e1 : H1[H.size]? = some (arrV cA n (fun _ => .null)) := by rw [← hH1, Array.getElem?_push_size, hcl, ← arrV_new]
  have o1 : ∀ q : Nat, q < H.size → H1[q]? = H[q]? := fun q hq => by rw [← hH1, Array.getElem?_push, if_neg (Nat.ne_of_lt hq)]
  have hAr : ArrOfT s cA (.object C) := fun N z => ⟨(fun k h => by cases h), kA, f2, comp, f3⟩
  rw [hcl]
  refine kk H.size _ _ H1 locs ls (hV H.size ad w hx0) (hw.new (hk ad w hx0) ⟨cA, hAr, ⟨kA, comp, f2, f3, f4, f1⟩, by rw [vp_cell_q]; exact e1⟩ o1 (hC.2.2.2 _ hS.1)) ⟨Nat.le_trans hS.1 (by omega), fun x h1 h2 => (o1 x (Nat.lt_of_lt_of_le h1 hS.1)).trans (hS.2.1 x h1 h2), hS.2.2⟩ hl
theorem g_mmax {index : Nat} {x y : Int32} (hC : g_C p s m args c D cl N A nL cc own Ts) (hlink : Cond.methodLink own index Lib.Math.max.name ∈ Ts) (hstat : Cond.static Lib.Math.max.name ∈ Ts) (hini : Cond.initialized "java/lang/Math" ∈ Ts) (hcode : Cond.code Lib.Math.max.name Lib.Math.max.code 2 (some .int) ∈ Ts) (hframes : 1 ≤ R.frames) (hlocals : (st.map fun v => v.category).sum + 13 ≤ R.locals) (hcc : cells ≤ R.cells) (hss : slots ≤ R.slots) (hd : decode cc pc = .ok (.invokestatic index, 3)) (kk : G p l e R s m args below meth c D cl A nL Q cells slots V (pc + 3) lo (.int (if x < y then y else x) :: st)) : G p l e R s m args below meth c D cl A nL Q cells slots V (pc) lo (.int y :: .int x :: st) := fun ad w H locs ls hx0 hw hS hl =>
  va_mmax hC.1.1 hC.1.2.1 (hC.1.2.2.1.trans hl.1.symm) hC.1.2.2.2.1 (hC.1.2.2.2.2 _ hlink) (hC.1.2.2.2.2 _ hstat) (hC.1.2.2.2.2 _ hini) (hC.1.2.2.2.2 _ hcode) hframes hlocals hcc hss hd (kk ad w H locs ls hx0 hw hS hl)
theorem g_mmin {index : Nat} {x y : Int32} (hC : g_C p s m args c D cl N A nL cc own Ts) (hlink : Cond.methodLink own index Lib.Math.min.name ∈ Ts) (hstat : Cond.static Lib.Math.min.name ∈ Ts) (hini : Cond.initialized "java/lang/Math" ∈ Ts) (hcode : Cond.code Lib.Math.min.name Lib.Math.min.code 2 (some .int) ∈ Ts) (hframes : 1 ≤ R.frames) (hlocals : (st.map fun v => v.category).sum + 13 ≤ R.locals) (hcc : cells ≤ R.cells) (hss : slots ≤ R.slots) (hd : decode cc pc = .ok (.invokestatic index, 3)) (kk : G p l e R s m args below meth c D cl A nL Q cells slots V (pc + 3) lo (.int (if y < x then y else x) :: st)) : G p l e R s m args below meth c D cl A nL Q cells slots V (pc) lo (.int y :: .int x :: st) := fun ad w H locs ls hx0 hw hS hl =>
  va_mmin hC.1.1 hC.1.2.1 (hC.1.2.2.1.trans hl.1.symm) hC.1.2.2.2.1 (hC.1.2.2.2.2 _ hlink) (hC.1.2.2.2.2 _ hstat) (hC.1.2.2.2.2 _ hini) (hC.1.2.2.2.2 _ hcode) hframes hlocals hcc hss hd (kk ad w H locs ls hx0 hw hS hl)
theorem g_objInit {idx a : Nat} (hC : g_C p s m args c D cl N A nL cc own Ts) (hlink : Cond.methodLink own idx objectInit ∈ Ts) (hin : Cond.instanceMethod objectInit ∈ Ts) (hcode : Cond.code objectInit ⟨#[0xb1]⟩ 1 none ∈ Ts) (hf : 1 ≤ R.frames) (hlo : (st.map fun v => v.category).sum + 12 ≤ R.locals) (hd : decode cc pc = .ok (.invokespecial idx, 3)) (kk : G p l e R s m args below meth c D cl A nL Q cells slots V (pc + 3) lo (st)) : G p l e R s m args below meth c D cl A nL Q cells slots V (pc) lo (.ref a :: st) := fun ad w H locs ls hx0 hw hS hl =>
  W.objInit hC.1.1 hC.1.2.1 hC.1.2.2.2.1 (hC.1.2.2.2.2 _ hlink) (hC.1.2.2.2.2 _ hin) (hC.1.2.2.2.2 _ hcode) rfl (hl.1.trans hC.1.2.2.1.symm) rfl hd hf (by show 2 * 0 + _ + 12 ≤ _; omega) (kk ad w H locs ls hx0 hw hS hl)
/-! contracts over worlds by number -/
def g_Pre (D : va_G) (cl : List vw_C) (N : State → Prop) (ad : Nat → Nat) (w : gW) (sz : Nat) : State → Prop := fun U => U.heap.size = sz ∧ va_K D cl [] U ∧ N U ∧ g_w D cl U (fun _ => True) ad w U.heap
def g_B (D : va_G) (cl : List vw_C) (A : Nat → Prop) (u : (Nat → Nat) × gW) (t : State) : Prop := g_w D cl t A u.1 u.2 t.heap
abbrev g_Qi (D : va_G) (cl : List vw_C) (A : Nat → Prop) (Post : Int32 → (Nat → Nat) → gW → Prop) : Array Value → State → Outcome → State → Prop := va_Qi (fun r (u : (Nat → Nat) × gW) => Post r u.1 u.2) (g_B D cl A) A
abbrev g_Ql (D : va_G) (cl : List vw_C) (A : Nat → Prop) (Post : Int64 → (Nat → Nat) → gW → Prop) : Array Value → State → Outcome → State → Prop := va_Ql (fun r (u : (Nat → Nat) × gW) => Post r u.1 u.2) (g_B D cl A) A
abbrev g_Qv (D : va_G) (cl : List vw_C) (A : Nat → Prop) (Post : (Nat → Nat) → gW → Prop) : Array Value → State → Outcome → State → Prop := va_Qv (fun (u : (Nat → Nat) × gW) => Post u.1 u.2) (g_B D cl A) A
abbrev g_Qq (D : va_G) (cl : List vw_C) (A : Nat → Prop) (Post : Option Nat → (Nat → Nat) → gW → Prop) : Array Value → State → Outcome → State → Prop := va_Qq (fun r (u : (Nat → Nat) × gW) => Post r u.1 u.2) (g_B D cl A) A
/-- a contract: Qc says what comes back, by the cells that may be written -/
def g_M (l : Launch) (y : MethodName) (ws : List Cond) (rm : Room) (D : va_G) (cl : List vw_C) (N : State → Prop) (av : List Value) (V : (Nat → Nat) → gW → Prop) (mc ms : Nat) (Qc : (Nat → Prop) → Array Value → State → Outcome → State → Prop) : Prop :=
  ∀ (ad : Nat → Nat) (w : gW) (sz : Nat), V ad w → Met l y ws rm (va_Pc av (g_Pre D cl N ad w sz)) (Qc (g_A ad w sz)) mc ms (g_A ad w sz)
def g_NOK (N : State → Prop) : Prop := (∀ u U : State, u.WarmedH U.vm → N u → N U) ∧ ∀ u U : State, u.vm = U.vm → N u → N U
theorem g_of {y : MethodName} {ws ws' : List Cond} {rm : Room} {av : List Value} {mc ms : Nat} {Qc : (Nat → Prop) → Array Value → State → Outcome → State → Prop} {ret : Option FieldType} (hy : plainName y.cls = true) (hw : ws = Cond.code y cc nL ret :: ws') (hlen : (lg_sl av).length ≤ nL)
    (body : ∀ (p : Program) (e : Env) (s : State) (m : MethodId) (below : List Frame) (meth : Method) (c : Code) (A : Nat → Prop), g_C p s m av.toArray c D cl N A nL cc y.cls ws → meth.sig.returnType = ret → meth.locks = false → meth.name = y.name → G p l e rm s m av.toArray below meth c D cl A nL (MQ below (Qc A) av.toArray s mc ms A) 0 0 V 0 (lv_args 0 av) []) : g_M l y ws rm D cl N av V mc ms Qc := by
  intro ad w sz hV
  refine Met.ofW (cc := cc) (maxL := nL) (ret := ret) hy hw ?_
  intro p e s m args below meth c s₁ B hml hv
  obtain ⟨rfl, hsz, hK, hN, hW⟩ := hv
  subst hsz
  have h := body p e s m below meth c (g_A ad w s.heap.size) ⟨⟨B.exec, B.bytes, hml, findClass_of_methodNamed B.named, atoms_spec (ws := ws) B.pre⟩, hK, hN, fun q h => Or.inr h⟩ B.returns B.notSynchronized (name_of_methodNamed B.named B.method).1
  rw [lg_entry_eq]
  exact h ad w s.heap [] _ hV hW.self va_S.rf (lv_entry av hlen)
theorem g_iret {mc ms : Nat} {v : Int32} {Post : Int32 → (Nat → Nat) → gW → Prop} (hC : g_C p s m args c D cl N A nL cc own Ts) (hr : meth.sig.returnType = some .int) (hlk : meth.locks = false) (hd : decode cc pc = .ok (.ireturn, 1)) (hmc : cells ≤ mc) (hms : slots ≤ ms) (hp : ∀ ad w, V ad w → Post v ad w) : G p l e R s m args below meth c D cl A nL (MQ below (g_Qi D cl A Post) args s mc ms A) cells slots V pc lo [.int v] := fun ad w H locs ls hx0 hw hS hl =>
  W.widen hmc hms (W.iret (v := v) hC.1.1 hC.1.2.1 hr (fun t ht hW => ⟨⟨v, (ad, w), rfl, hp ad w hx0, by show g_w D cl t A ad w t.heap; rw [ht]; exact hw.moved hW.alike (fun _ h => h)⟩, hS.F ht⟩) hS.2.2 hd hlk)
theorem g_zret {mc ms : Nat} {v : Int32} {Post : Int32 → (Nat → Nat) → gW → Prop} (hC : g_C p s m args c D cl N A nL cc own Ts) (hr : meth.sig.returnType = some .boolean) (hlk : meth.locks = false) (hn : narrow .boolean (.int v) = .int v) (hd : decode cc pc = .ok (.ireturn, 1)) (hmc : cells ≤ mc) (hms : slots ≤ ms) (hp : ∀ ad w, V ad w → Post v ad w) : G p l e R s m args below meth c D cl A nL (MQ below (g_Qi D cl A Post) args s mc ms A) cells slots V pc lo [.int v] := fun ad w H locs ls hx0 hw hS hl =>
  W.widen hmc hms (W.zret (v := v) hC.1.1 hC.1.2.1 hr hn (fun t ht hW => ⟨⟨v, (ad, w), rfl, hp ad w hx0, by show g_w D cl t A ad w t.heap; rw [ht]; exact hw.moved hW.alike (fun _ h => h)⟩, hS.F ht⟩) hS.2.2 hd hlk)
theorem g_lret {mc ms : Nat} {v : Int64} {Post : Int64 → (Nat → Nat) → gW → Prop} (hC : g_C p s m args c D cl N A nL cc own Ts) (hr : meth.sig.returnType = some .long) (hlk : meth.locks = false) (hd : decode cc pc = .ok (.lreturn, 1)) (hmc : cells ≤ mc) (hms : slots ≤ ms) (hp : ∀ ad w, V ad w → Post v ad w) : G p l e R s m args below meth c D cl A nL (MQ below (g_Ql D cl A Post) args s mc ms A) cells slots V pc lo [.long v] := fun ad w H locs ls hx0 hw hS hl =>
  W.widen hmc hms (W.lret (v := v) hC.1.1 hC.1.2.1 hr (fun t ht hW => ⟨⟨v, (ad, w), rfl, hp ad w hx0, by show g_w D cl t A ad w t.heap; rw [ht]; exact hw.moved hW.alike (fun _ h => h)⟩, hS.F ht⟩) hS.2.2 hd hlk)
theorem g_vret {mc ms : Nat} {Post : (Nat → Nat) → gW → Prop} (hC : g_C p s m args c D cl N A nL cc own Ts) (hr : meth.sig.returnType = none) (hlk : meth.locks = false) (hd : decode cc pc = .ok (.return_, 1)) (hmc : cells ≤ mc) (hms : slots ≤ ms) (hp : ∀ ad w, V ad w → Post ad w) : G p l e R s m args below meth c D cl A nL (MQ below (g_Qv D cl A Post) args s mc ms A) cells slots V pc lo [] := fun ad w H locs ls hx0 hw hS hl =>
  W.widen hmc hms (W.vret hC.1.1 hC.1.2.1 hr (fun t ht hW => ⟨⟨(ad, w), rfl, hp ad w hx0, by show g_w D cl t A ad w t.heap; rw [ht]; exact hw.moved hW.alike (fun _ h => h)⟩, hS.F ht⟩) hS.2.2 hd hlk)
theorem g_aret {mc ms : Nat} {r : Option Nat} {Cn : String} {Post : Option Nat → (Nat → Nat) → gW → Prop} (hC : g_C p s m args c D cl N A nL cc own Ts) (hr : meth.sig.returnType = some (.object Cn)) (hlk : meth.locks = false) (hd : decode cc pc = .ok (.areturn, 1)) (hmc : cells ≤ mc) (hms : slots ≤ ms) (hp : ∀ ad w, V ad w → Post r ad w) : G p l e R s m args below meth c D cl A nL (MQ below (g_Qq D cl A Post) args s mc ms A) cells slots V pc lo [va_rf r] := fun ad w H locs ls hx0 hw hS hl =>
  W.widen hmc hms (W.aret (v := va_rf r) hC.1.1 hC.1.2.1 hr (Or.inl ⟨_, rfl⟩) (va_rf_or r) (fun t ht hW => ⟨⟨r, (ad, w), rfl, hp ad w hx0, by show g_w D cl t A ad w t.heap; rw [ht]; exact hw.moved hW.alike (fun _ h => h)⟩, hS.F ht⟩) hS.2.2 hd hlk)
/-- a call's run, for whatever heap holds the world -/
def g_Run (p : Program) (l : Launch) (e : Env) (R : Room) (s : State) (m : MethodId) (args : Array Value) (below : List Frame) (meth : Method) (c : Code) (D : va_G) (cl : List vw_C) (A : Nat → Prop) (nL : Nat) (cells slots : Nat) (V : (Nat → Nat) → gW → Prop) (pc : Nat) (lo : List (Nat × Value)) (st0 st : List Value) (mc ms : Nat) (Qa : (Nat → Prop) → State → Outcome → State → Prop) : Prop :=
  ∀ (ad : Nat → Nat) (w : gW) (H : Heap) (locs : List Loc) (ls : Array Slot), V ad w → g_w D cl s A ad w H → va_S A s.heap H locs → lv_has ls nL lo → va_Run p l e R s m args below meth c H locs cells slots mc ms (F0 m pc ls st0) st (Qa (g_A ad w H.size)) (g_A ad w H.size)
theorem g_blind {av : List Value} (hNM : g_NOK N) {sz : Nat} : FrameBlind (va_Pc av (g_Pre D cl N ad w sz)) := fun a U g mk q => by
  obtain ⟨q0, q1, q2, q3, q4⟩ := q
  exact ⟨q0, q1, va_K.moved (u := U) (U := U.calling g mk a) (Vm.Alike.refl U.vm) q2, hNM.2 U _ rfl q3, g_w.moved (u := U) (U := U.calling g mk a) (Vm.Alike.refl U.vm) q4 (fun _ h => h)⟩
theorem g_pre (hC : g_C p s m args c D cl N A nL cc own Ts) (hNM : g_NOK N) {av : List Value} {H : Heap} (hw : g_w D cl s A ad w H) : ∀ U : State, U.heap = H → s.WarmedH U.vm → va_Pc av (g_Pre D cl N ad w H.size) av.toArray U := fun U hU hW =>
  ⟨rfl, by rw [hU], va_K.moved hW.alike hC.2.1, hNM.1 s U hW hC.2.2.1, by rw [hU]; exact hw.moved hW.alike (fun _ _ => trivial)⟩
theorem g_recv (hC : g_C p s m args c D cl N A nL cc own Ts) {H : Heap} (hw : g_w D cl s A ad w H) {q ci : Nat} {r : vw_C} {fs : List Value} (he : w q = some (.inr (ci, fs))) (hc : cl[ci]? = some r) : ∃ cell : Cell, H[ad q]? = some cell ∧ cell.vm.isStatics = false ∧ s.vm.findClass r.1 = some cell.cls := by
  obtain ⟨q', h1, cell, g1, g2, g3, -⟩ := (hw.1 q _ he).1
  exact ⟨cell, g1, by rw [g3]; rfl, by rw [g2]; exact (hC.2.1.1 ci r hc).2.1⟩
variable {y : MethodName} {bytes : ByteArray} {maxL mc ms n index : Nat} {ret : Option FieldType} {ws : List Cond} {rm : Room} {As st0 : List Value} {Qc : (Nat → Prop) → Array Value → State → Outcome → State → Prop}
theorem g_runV {b ci q : Nat} {r : vw_C} {fs : List Value} (hC : g_C p s m args c D cl N A nL cc own Ts) (hNM : g_NOK N) (hM : g_M l y ws rm D cl N (.ref b :: As) V mc ms Qc) (cw : CallW R s args own r.1 index y bytes maxL ret ws rm mc ms n) (hq : ∀ ad w, V ad w → ad q = b ∧ w q = some (.inr (ci, fs))) (hc : cl[ci]? = some r) (hn : As.length = n) (hst : st0 = As.reverse ++ .ref b :: st) (hcat : (st.map fun v => v.category).sum ≤ 8) (hd : decode cc pc = .ok (.invokevirtual index, 3)) (hf : cells + mc ≤ R.cells ∧ slots + ms ≤ R.slots) : g_Run p l e R s m args below meth c D cl A nL cells slots V pc lo st0 st mc ms (fun A1 => Qc A1 (Value.ref b :: As).toArray) := fun ad w H locs ls hx0 hw hS hl => by
  obtain ⟨hb, he⟩ := hq ad w hx0
  subst hb
  exact va_runV hC.1 (hM ad w H.size hx0) cw ⟨g_blind hNM, g_recv hC hw he hc, g_pre hC hNM hw⟩ rfl hn hl.1 hst (lv_room hcat) hd hf
theorem g_runS (hC : g_C p s m args c D cl N A nL cc own Ts) (hNM : g_NOK N) (hM : g_M l y ws rm D cl N As V mc ms Qc) (cw : CallB R s args own index y bytes maxL ret ws rm mc ms n ∧ (Cond.static y).before args s = true) (hn : As.length = n) (hst : st0 = As.reverse ++ st) (hcat : (st.map fun v => v.category).sum ≤ 8) (hd : decode cc pc = .ok (.invokestatic index, 3)) (hf : cells + mc ≤ R.cells ∧ slots + ms ≤ R.slots) : g_Run p l e R s m args below meth c D cl A nL cells slots V pc lo st0 st mc ms (fun A1 => Qc A1 As.toArray) := fun ad w H locs ls hx0 hw hS hl =>
  va_runS hC.1 (hM ad w H.size hx0) cw ⟨g_blind hNM, g_pre hC hNM hw⟩ rfl hn hl.1 hst (lv_room hcat) hd hf
theorem g_runI {b : Nat} (hC : g_C p s m args c D cl N A nL cc own Ts) (hNM : g_NOK N) (hM : g_M l y ws rm D cl N (.ref b :: As) V mc ms Qc) (cw : CallB R s args own index y bytes maxL none ws rm mc ms n ∧ y.name = "<init>" ∧ (Cond.instanceMethod y).before args s = true) (hn : As.length = n) (hst : st0 = As.reverse ++ .ref b :: st) (hcat : (st.map fun v => v.category).sum ≤ 8) (hd : decode cc pc = .ok (.invokespecial index, 3)) (hf : cells + mc ≤ R.cells ∧ slots + ms ≤ R.slots) : g_Run p l e R s m args below meth c D cl A nL cells slots V pc lo st0 st mc ms (fun A1 => Qc A1 (Value.ref b :: As).toArray) := fun ad w H locs ls hx0 hw hS hl =>
  va_runI hC.1 (hM ad w H.size hx0) cw ⟨g_blind hNM, g_pre hC hNM hw⟩ rfl hn hl.1 hst (lv_room hcat) hd hf
theorem g_runVN {host : String} {b ci q : Nat} {r : vw_C} {fs : List Value} (hC : g_C p s m args c D cl N A nL cc own Ts) (hNM : g_NOK N) (hM : g_M l y ws rm D cl N (.ref b :: As) V mc ms Qc) (cw : va_CN R s args own index y host bytes maxL ret ws rm mc ms n ∧ (Cond.instanceMethod y).before args s = true ∧ (Cond.selects r.1 y y).before args s = true) (hq : ∀ ad w, V ad w → ad q = b ∧ w q = some (.inr (ci, fs))) (hc : cl[ci]? = some r) (hn : As.length = n) (hst : st0 = As.reverse ++ .ref b :: st) (hcat : (st.map fun v => v.category).sum ≤ 8) (hd : decode cc pc = .ok (.invokevirtual index, 3)) (hf : cells + mc ≤ R.cells ∧ slots + ms ≤ R.slots) : g_Run p l e R s m args below meth c D cl A nL cells slots V pc lo st0 st mc ms (fun A1 => Qc A1 (Value.ref b :: As).toArray) := fun ad w H locs ls hx0 hw hS hl => by
  obtain ⟨hb, he⟩ := hq ad w hx0
  subst hb
  exact va_runVN hC.1 (hM ad w H.size hx0) cw ⟨g_blind hNM, g_recv hC hw he hc, g_pre hC hNM hw⟩ rfl hn hl.1 hst (lv_room hcat) hd hf
theorem g_runSN {host : String} (hC : g_C p s m args c D cl N A nL cc own Ts) (hNM : g_NOK N) (hM : g_M l y ws rm D cl N As V mc ms Qc) (cw : va_CN R s args own index y host bytes maxL ret ws rm mc ms n ∧ (Cond.static y).before args s = true ∧ True) (hn : As.length = n) (hst : st0 = As.reverse ++ st) (hcat : (st.map fun v => v.category).sum ≤ 8) (hd : decode cc pc = .ok (.invokestatic index, 3)) (hf : cells + mc ≤ R.cells ∧ slots + ms ≤ R.slots) : g_Run p l e R s m args below meth c D cl A nL cells slots V pc lo st0 st mc ms (fun A1 => Qc A1 As.toArray) := fun ad w H locs ls hx0 hw hS hl =>
  va_runSN hC.1 (hM ad w H.size hx0) cw ⟨g_blind hNM, g_pre hC hNM hw⟩ rfl hn hl.1 hst (lv_room hcat) hd hf
theorem g_back (hC : g_C p s m args c D cl N A nL cc own Ts) {H : Heap} {locs : List Loc} (hw : g_w D cl s A ad w H) (hS : va_S A s.heap H locs) : ∀ q, g_A ad w H.size q → A q := fun q h => by
  rcases h with ⟨k, e, hk, rfl⟩ | h
  · exact (hw.1 k e hk).2
  · exact hC.2.2.2 q (Nat.le_trans hS.1 h)
theorem g_calli {aa : Array Value} {Post : Int32 → (Nat → Nat) → gW → Prop} (hC : g_C p s m args c D cl N A nL cc own Ts) (hr : g_Run p l e R s m args below meth c D cl A nL cells slots V pc lo st0 st mc ms (fun A1 => g_Qi D cl A1 Post aa)) (kk : ∀ r : Int32, G p l e R s m args below meth c D cl A nL Q (cells + mc) (slots + ms) (Post r) (pc + 3) lo (.int r :: st)) : G p l e R s m args below meth c D cl A nL Q cells slots V (pc) lo (st0) := fun ad w H locs ls hx0 hw hS hl =>
  va_calli (hr ad w H locs ls hx0 hw hS hl) hS (fun q _ h => g_back hC hw hS q h) (g_back hC hw hS) (fun r u t H1 locs1 ht hvm hp hB hz hk hS1 => kk r u.1 u.2 H1 locs1 ls hp (by subst ht; exact g_w.moved hvm.symm hB (g_back hC hw hS)) hS1 hl)
theorem g_calll {aa : Array Value} {Post : Int64 → (Nat → Nat) → gW → Prop} (hC : g_C p s m args c D cl N A nL cc own Ts) (hr : g_Run p l e R s m args below meth c D cl A nL cells slots V pc lo st0 st mc ms (fun A1 => g_Ql D cl A1 Post aa)) (kk : ∀ r : Int64, G p l e R s m args below meth c D cl A nL Q (cells + mc) (slots + ms) (Post r) (pc + 3) lo (.long r :: st)) : G p l e R s m args below meth c D cl A nL Q cells slots V (pc) lo (st0) := fun ad w H locs ls hx0 hw hS hl =>
  va_calll (hr ad w H locs ls hx0 hw hS hl) hS (fun q _ h => g_back hC hw hS q h) (g_back hC hw hS) (fun r u t H1 locs1 ht hvm hp hB hz hk hS1 => kk r u.1 u.2 H1 locs1 ls hp (by subst ht; exact g_w.moved hvm.symm hB (g_back hC hw hS)) hS1 hl)
theorem g_callv {aa : Array Value} {Post : (Nat → Nat) → gW → Prop} (hC : g_C p s m args c D cl N A nL cc own Ts) (hr : g_Run p l e R s m args below meth c D cl A nL cells slots V pc lo st0 st mc ms (fun A1 => g_Qv D cl A1 Post aa)) (kk : G p l e R s m args below meth c D cl A nL Q (cells + mc) (slots + ms) Post (pc + 3) lo (st)) : G p l e R s m args below meth c D cl A nL Q cells slots V (pc) lo (st0) := fun ad w H locs ls hx0 hw hS hl =>
  va_callv (hr ad w H locs ls hx0 hw hS hl) hS (fun q _ h => g_back hC hw hS q h) (g_back hC hw hS) (fun u t H1 locs1 ht hvm hp hB hz hk hS1 => kk u.1 u.2 H1 locs1 ls hp (by subst ht; exact g_w.moved hvm.symm hB (g_back hC hw hS)) hS1 hl)
theorem g_callq {aa : Array Value} {Post : Option Nat → (Nat → Nat) → gW → Prop} (hC : g_C p s m args c D cl N A nL cc own Ts) (hr : g_Run p l e R s m args below meth c D cl A nL cells slots V pc lo st0 st mc ms (fun A1 => g_Qq D cl A1 Post aa)) (kk : ∀ r : Option Nat, G p l e R s m args below meth c D cl A nL Q (cells + mc) (slots + ms) (Post r) (pc + 3) lo (va_rf r :: st)) : G p l e R s m args below meth c D cl A nL Q cells slots V (pc) lo (st0) := fun ad w H locs ls hx0 hw hS hl =>
  va_callq (hr ad w H locs ls hx0 hw hS hl) hS (fun q _ h => g_back hC hw hS q h) (g_back hC hw hS) (fun r u t H1 locs1 ht hvm hp hB hz hk hS1 => kk r u.1 u.2 H1 locs1 ls hp (by subst ht; exact g_w.moved hvm.symm hB (g_back hC hw hS)) hS1 hl)
theorem g_widen {k n : Nat} (h1 : cells ≤ k) (h2 : slots ≤ n) (kk : G p l e R s m args below meth c D cl A nL Q k n V pc lo st) : G p l e R s m args below meth c D cl A nL Q cells slots V (pc) lo (st) := fun ad w H locs ls hx0 hw hS hl => W.widen h1 h2 (kk ad w H locs ls hx0 hw hS hl)
theorem g_V {V' : (Nat → Nat) → gW → Prop} (h : ∀ ad w, V ad w → V' ad w) (kk : G p l e R s m args below meth c D cl A nL Q cells slots V' pc lo st) : G p l e R s m args below meth c D cl A nL Q cells slots V (pc) lo (st) := fun ad w H locs ls hx0 hw hS hl => kk ad w H locs ls (h ad w hx0) hw hS hl
theorem g_ex {α : Type} {V' : α → (Nat → Nat) → gW → Prop} (kk : ∀ x, G p l e R s m args below meth c D cl A nL Q cells slots (V' x) pc lo st) : G p l e R s m args below meth c D cl A nL Q cells slots (fun ad w => ∃ x, V' x ad w) pc lo st := fun ad w H locs ls hx0 hw hS hl => by
  obtain ⟨x, hx⟩ := hx0
  exact kk x ad w H locs ls hx hw hS hl
theorem g_pure {P : Prop} (h : ∀ ad w, V ad w → P) (kk : P → G p l e R s m args below meth c D cl A nL Q cells slots V (pc) lo (st)) : G p l e R s m args below meth c D cl A nL Q cells slots V (pc) lo (st) := fun ad w H locs ls hx0 hw hS hl => kk (h ad w hx0) ad w H locs ls hx0 hw hS hl
theorem g_and {P : Prop} (kk : P → G p l e R s m args below meth c D cl A nL Q cells slots V (pc) lo (st)) : G p l e R s m args below meth c D cl A nL Q cells slots (fun ad w => P ∧ V ad w) pc lo st := fun ad w H locs ls hx0 hw hS hl => kk hx0.1 ad w H locs ls hx0.2 hw hS hl

end GG
end
section
theorem g_NOK_N : g_NOK g_N := g_N_ok
section TCW
variable {R : Room} {s : State} {args : Array Value} {own C : String} {index maxL mc ms : Nat} {y : MethodName} {bytes : ByteArray} {ret : Option FieldType} {c0 : Cond} {rm : Room}
theorem t_cwV (n : Nat) (hts : ∀ w ∈ c0 :: gT, w.before args s = true) (hl : Cond.methodLink own index y ∈ gT) (hi : Cond.instanceMethod y ∈ gT) (hs : Cond.selects C y y ∈ gT) (hini : Cond.initialized C ∈ gT) (hk : Cond.code y bytes maxL ret ∈ gT) (hrc : rm.cells = mc) (hrs : rm.slots = ms)
    (hd : y.cls = C ∧ y.cls ≠ "java/lang/invoke/MethodHandle" ∧ y.cls ≠ "java/lang/invoke/VarHandle" ∧ (parseMethodDescriptor y.desc).map (fun d => d.parameters.length) = some n) (hR : rm.frames + 1 ≤ R.frames ∧ 8 + (maxL + 11) + rm.locals ≤ R.locals) :
    CallW R s args own C index y bytes maxL ret (Cond.code y bytes maxL ret :: gT) rm mc ms n := by
  refine cwV n hts (fun w h => ?_) rfl hrc hrs hd hR
  unfold wsV at h
  rcases List.mem_append.mp h with h | h
  · simp only [List.mem_cons, List.not_mem_nil, or_false] at h
    rcases h with rfl | rfl | rfl | rfl
    · exact ⟨List.mem_cons_of_mem _ hl, good_of_word (List.mem_filter.mp hl).2⟩
    · exact ⟨List.mem_cons_of_mem _ hi, good_of_word (List.mem_filter.mp hi).2⟩
    · exact ⟨List.mem_cons_of_mem _ hs, good_of_word (List.mem_filter.mp hs).2⟩
    · exact ⟨List.mem_cons_of_mem _ hini, good_of_word (List.mem_filter.mp hini).2⟩
  · exact gT_good y bytes maxL ret (List.mem_cons_of_mem _ hk) (fun w h => List.mem_cons_of_mem _ h) w h
theorem t_cwS (n : Nat) (hts : ∀ w ∈ c0 :: gT, w.before args s = true) (hl : Cond.methodLink own index y ∈ gT) (hi : Cond.static y ∈ gT) (hini : Cond.initialized y.cls ∈ gT) (hk : Cond.code y bytes maxL ret ∈ gT) (hrc : rm.cells = mc) (hrs : rm.slots = ms)
    (hd : y.cls = C ∧ y.cls ≠ "java/lang/invoke/MethodHandle" ∧ y.cls ≠ "java/lang/invoke/VarHandle" ∧ (parseMethodDescriptor y.desc).map (fun d => d.parameters.length) = some n) (hR : rm.frames + 1 ≤ R.frames ∧ 8 + (maxL + 11) + rm.locals ≤ R.locals) :
    CallB R s args own index y bytes maxL ret (Cond.code y bytes maxL ret :: gT) rm mc ms n ∧ (Cond.static y).before args s = true := by
  refine va_cwS n hts (fun w h => ?_) rfl hrc hrs hd.2 hR
  unfold va_wsS at h
  rcases List.mem_append.mp h with h | h
  · simp only [List.mem_cons, List.not_mem_nil, or_false] at h
    rcases h with rfl | rfl | rfl
    · exact ⟨List.mem_cons_of_mem _ hl, good_of_word (List.mem_filter.mp hl).2⟩
    · exact ⟨List.mem_cons_of_mem _ hi, good_of_word (List.mem_filter.mp hi).2⟩
    · exact ⟨List.mem_cons_of_mem _ hini, good_of_word (List.mem_filter.mp hini).2⟩
  · exact gT_good y bytes maxL ret (List.mem_cons_of_mem _ hk) (fun w h => List.mem_cons_of_mem _ h) w h
theorem t_cwI (n : Nat) (hts : ∀ w ∈ c0 :: gT, w.before args s = true) (hl : Cond.methodLink own index y ∈ gT) (hi : Cond.instanceMethod y ∈ gT) (hini : Cond.initialized y.cls ∈ gT) (hk : Cond.code y bytes maxL none ∈ gT) (hrc : rm.cells = mc) (hrs : rm.slots = ms) (hy1 : y.name = "<init>")
    (hd : y.cls = C ∧ y.cls ≠ "java/lang/invoke/MethodHandle" ∧ y.cls ≠ "java/lang/invoke/VarHandle" ∧ (parseMethodDescriptor y.desc).map (fun d => d.parameters.length) = some n) (hR : rm.frames + 1 ≤ R.frames ∧ 8 + (maxL + 11) + rm.locals ≤ R.locals) :
    CallB R s args own index y bytes maxL none (Cond.code y bytes maxL none :: gT) rm mc ms n ∧ y.name = "<init>" ∧ (Cond.instanceMethod y).before args s = true :=
  cwI n hts (gT_good y bytes maxL none (List.mem_cons_of_mem _ hk) (fun w h => List.mem_cons_of_mem _ h)) rfl hrc hrs (hts _ (List.mem_cons_of_mem _ hini)) (hts _ (List.mem_cons_of_mem _ hl)) (hts _ (List.mem_cons_of_mem _ hi)) hy1 hd.2 hR
theorem t_cwN {host : String} (n : Nat) (hts : ∀ w ∈ c0 :: gT, w.before args s = true) (hl : va_Nw (.methodLinkNest own index y host) s) (hi : Cond.instanceMethod y ∈ gT) (hs : Cond.selects C y y ∈ gT) (hini : Cond.initialized y.cls ∈ gT) (hk : Cond.code y bytes maxL ret ∈ gT) (hrc : rm.cells = mc) (hrs : rm.slots = ms)
    (hd : y.cls = C ∧ y.cls ≠ "java/lang/invoke/MethodHandle" ∧ y.cls ≠ "java/lang/invoke/VarHandle" ∧ (parseMethodDescriptor y.desc).map (fun d => d.parameters.length) = some n) (hR : rm.frames + 1 ≤ R.frames ∧ 8 + (maxL + 11) + rm.locals ≤ R.locals) :
    va_CN R s args own index y host bytes maxL ret (Cond.code y bytes maxL ret :: gT) rm mc ms n ∧ (Cond.instanceMethod y).before args s = true ∧ (Cond.selects C y y).before args s = true :=
  ⟨va_cnB n hts (gT_good y bytes maxL ret (List.mem_cons_of_mem _ hk) (fun w h => List.mem_cons_of_mem _ h)) rfl hrc hrs hl (hts _ (List.mem_cons_of_mem _ hini)) hd.2 hR, hts _ (List.mem_cons_of_mem _ hi), hts _ (List.mem_cons_of_mem _ hs)⟩
end TCW
/-! The reference's world: the object is cell 200, its arrays 201 .. 214. -/
abbrev rCI : Nat := 4
def r_ty (k : Nat) : FieldType := if k = 2 ∨ k = 6 ∨ k = 12 then .boolean else .int
def r_ln (k : Nat) : Nat := match k with
  | 1 => 3
  | 2 => 18
  | 3 => 18
  | 4 => 18
  | 5 => 54
  | 6 => 54
  | 7 => 54
  | 8 => 9
  | 9 => 18
  | 10 => 3
  | 11 => 54
  | 12 => 54
  | 13 => 6174
  | _ => 3
theorem r_ln_lt (k : Nat) : r_ln k < 2 ^ 31 := by
  unfold r_ln
  split <;> decide
def r_en (k n : Nat) : Int32 := if k = 7 ∨ k = 9 then nI n - 1 else nI n
def r_arr (σ : rS) (k : Nat) : gE := .inl (r_ty k, r_ln k, .inl (fun j => r_en k (σ k j)))
def r_fs (ad : Nat → Nat) (S : Nat) : List Value := [.int (nI S), .ref (ad 201), .ref (ad 202), .ref (ad 203), .ref (ad 204), .ref (ad 205), .ref (ad 206), .ref (ad 207), .ref (ad 208), .ref (ad 209), .ref (ad 210), .ref (ad 211), .ref (ad 212), .ref (ad 213), .ref (ad 214)]
def r_bl (σ : rS) : Prop := ∀ k j, σ k j < 1000 ∧ ((k = 2 ∨ k = 6 ∨ k = 12) → σ k j < 2)
theorem r_lt {σ : rS} (h : r_bl σ) (k j : Nat) : σ k j < 2 ^ 31 := Nat.lt_of_lt_of_le (h k j).1 (by decide)
theorem r_lt1 {σ : rS} (h : r_bl σ) (k j : Nat) : σ k j < 1000 := (h k j).1
/-- the world w has the reference at σ, and is w0 below 200 -/
def RX (S : Nat) (σ : rS) (ad0 : Nat → Nat) (w0 : gW) : (Nat → Nat) → gW → Prop := fun ad w =>
  ad = ad0 ∧ (∀ q, q < 200 → w q = w0 q) ∧ w 200 = some (.inr (rCI, r_fs ad0 S)) ∧ (∀ k, 1 ≤ k → k ≤ 14 → w (200 + k) = some (r_arr σ k)) ∧ r_bl σ
def u2 (σ : rS) (k j x : Nat) : rS := fun a b => if a = k ∧ b = j then x else σ a b
theorem u2_self {σ : rS} {k j x : Nat} : u2 σ k j x k j = x := if_pos ⟨rfl, rfl⟩
theorem u2_ne {σ : rS} {k j x a : Nat} (h : a ≠ k) : u2 σ k j x a = σ a := by
  funext b
  exact if_neg (fun q => h q.1)
theorem u2_in {σ : rS} {k j x b : Nat} : u2 σ k j x k b = if b = j then x else σ k b := by
  unfold u2
  by_cases h : b = j
  · rw [if_pos ⟨rfl, h⟩, if_pos h]
  · rw [if_neg (fun q => h q.2), if_neg h]
theorem r_this {S : Nat} {σ : rS} {ad0 : Nat → Nat} {w0 : gW} : ∀ ad w, RX S σ ad0 w0 ad w → ad 200 = ad0 200 ∧ w 200 = some (.inr (rCI, r_fs ad0 S)) := fun ad w h => ⟨by rw [h.1], h.2.2.1⟩
theorem r_a {S : Nat} {σ : rS} {ad0 : Nat → Nat} {w0 : gW} (k : Nat) (h1 : 1 ≤ k) (h2 : k ≤ 14) : ∀ ad w, RX S σ ad0 w0 ad w → ad (200 + k) = ad0 (200 + k) ∧ w (200 + k) = some (r_arr σ k) := fun ad w h => ⟨by rw [h.1], h.2.2.2.1 k h1 h2⟩
theorem r_put {S : Nat} {σ : rS} {ad0 : Nat → Nat} {w0 : gW} {k j x : Nat} (h1 : 1 ≤ k) (h2 : k ≤ 14) (hx : x < 1000 ∧ ((k = 2 ∨ k = 6 ∨ k = 12) → x < 2)) {e : gE} (he : e = r_arr (u2 σ k j x) k) : ∀ ad w, RX S σ ad0 w0 ad w → RX S (u2 σ k j x) ad0 w0 ad (va_up w (200 + k) (some e)) := by
  intro ad w h
  obtain ⟨a, b, c, d, f⟩ := h
  refine ⟨a, fun q hq => ?_, ?_, fun k' h1' h2' => ?_, fun k' i => ?_⟩
  · rw [va_up_ne _ _ (by omega)]
    exact b q hq
  · rw [va_up_ne _ _ (by omega)]
    exact c
  · by_cases q : k' = k
    · subst q
      rw [va_up_self, he]
    · rw [va_up_ne _ _ (by omega), d k' h1' h2']
      unfold r_arr
      rw [u2_ne q]
  · unfold u2
    split
    · rename_i q
      rw [q.1]
      exact hx
    · exact f k' i
theorem r_bl_of {S : Nat} {σ : rS} {ad0 : Nat → Nat} {w0 : gW} : ∀ ad w, RX S σ ad0 w0 ad w → r_bl σ := fun ad w h => h.2.2.2.2
section RW
variable {p : Program} {l : Launch} {e : Env} {R : Room} {s : State} {m : MethodId} {args : Array Value} {below : List Frame} {meth : Method} {c : Code} {D : va_G} {cl : List vw_C} {N : State → Prop} {A : Nat → Prop} {nL : Nat} {Q : State → Prop} {cells slots : Nat} {pc : Nat} {lo : List (Nat × Value)} {st : List Value} {cc : ByteArray} {own : String} {Ts : List Cond} {S : Nat} {σ : rS} {ad0 : Nat → Nat} {w0 : gW}
theorem r_ld (k : Nat) {j : Nat} (hC : g_C p s m args c D cl N A nL cc own Ts) (h1 : 1 ≤ k) (h2 : k ≤ 14) (hty : r_ty k = .int) (hen : ∀ n, r_en k n = nI n) (hj : j < r_ln k) (hd : decode cc pc = .ok (.iaload, 1)) (kk : G p l e R s m args below meth c D cl A nL Q cells slots (RX S σ ad0 w0) (pc + 1) lo (.int (nI (σ k j)) :: st)) : G p l e R s m args below meth c D cl A nL Q cells slots (RX S σ ad0 w0) pc lo (.int (nI j) :: .ref (ad0 (200 + k)) :: st) := by
  refine g_ald (f := fun j => nI (σ k j)) hC (200 + k) (fun ad w h => ⟨by rw [h.1], ?_⟩) hj (r_ln_lt k) hd kk
  rw [h.2.2.2.1 k h1 h2]
  unfold r_arr
  rw [hty, show (fun j => r_en k (σ k j)) = fun j => nI (σ k j) from funext fun j => hen _]
theorem r_lde (k : Nat) {j : Nat} (hC : g_C p s m args c D cl N A nL cc own Ts) (h1 : 1 ≤ k) (h2 : k ≤ 14) (hty : r_ty k = .int) (hen : ∀ n, r_en k n = nI n - 1) (hj : j < r_ln k) (hd : decode cc pc = .ok (.iaload, 1)) (kk : G p l e R s m args below meth c D cl A nL Q cells slots (RX S σ ad0 w0) (pc + 1) lo (.int (nI (σ k j) - 1) :: st)) : G p l e R s m args below meth c D cl A nL Q cells slots (RX S σ ad0 w0) pc lo (.int (nI j) :: .ref (ad0 (200 + k)) :: st) := by
  refine g_ald (f := fun j => nI (σ k j) - 1) hC (200 + k) (fun ad w h => ⟨by rw [h.1], ?_⟩) hj (r_ln_lt k) hd kk
  rw [h.2.2.2.1 k h1 h2]
  unfold r_arr
  rw [hty, show (fun j => r_en k (σ k j)) = fun j => nI (σ k j) - 1 from funext fun j => hen _]
theorem r_zld (k : Nat) {j : Nat} (hC : g_C p s m args c D cl N A nL cc own Ts) (h1 : 1 ≤ k) (h2 : k ≤ 14) (hty : r_ty k = .boolean) (hen : ∀ n, r_en k n = nI n) (hj : j < r_ln k) (hd : decode cc pc = .ok (.baload, 1)) (kk : G p l e R s m args below meth c D cl A nL Q cells slots (RX S σ ad0 w0) (pc + 1) lo (.int (nI (σ k j)) :: st)) : G p l e R s m args below meth c D cl A nL Q cells slots (RX S σ ad0 w0) pc lo (.int (nI j) :: .ref (ad0 (200 + k)) :: st) := by
  refine g_zld (f := fun j => nI (σ k j)) hC (200 + k) (fun ad w h => ⟨by rw [h.1], ?_⟩) hj (r_ln_lt k) hd kk
  rw [h.2.2.2.1 k h1 h2]
  unfold r_arr
  rw [hty, show (fun j => r_en k (σ k j)) = fun j => nI (σ k j) from funext fun j => hen _]
theorem r_st (k : Nat) {j x : Nat} (hC : g_C p s m args c D cl N A nL cc own Ts) (h1 : 1 ≤ k) (h2 : k ≤ 14) (hty : r_ty k = .int) (hen : ∀ n, r_en k n = nI n) (hb : ¬ (k = 2 ∨ k = 6 ∨ k = 12)) (hx : x < 1000) (hj : j < r_ln k) (hd : decode cc pc = .ok (.iastore, 1)) (kk : G p l e R s m args below meth c D cl A nL Q cells slots (RX S (u2 σ k j x) ad0 w0) (pc + 1) lo st) : G p l e R s m args below meth c D cl A nL Q cells slots (RX S σ ad0 w0) pc lo (.int (nI x) :: .int (nI j) :: .ref (ad0 (200 + k)) :: st) := by
  refine g_ast (f := fun j => nI (σ k j)) hC (200 + k) (fun ad w h => ⟨by rw [h.1], ?_⟩) hj (r_ln_lt k) (r_put h1 h2 ⟨hx, fun q => absurd q hb⟩ ?_) hd kk
  · rw [h.2.2.2.1 k h1 h2]
    unfold r_arr
    rw [hty, show (fun j => r_en k (σ k j)) = fun j => nI (σ k j) from funext fun j => hen _]
  · unfold r_arr
    rw [hty]
    congr 4
    funext i
    rw [hen, u2_in]
    unfold va_up
    split <;> rfl
theorem r_ste (k : Nat) {j x : Nat} {v : Int32} (hC : g_C p s m args c D cl N A nL cc own Ts) (h1 : 1 ≤ k) (h2 : k ≤ 14) (hty : r_ty k = .int) (hen : ∀ n, r_en k n = nI n - 1) (hb : ¬ (k = 2 ∨ k = 6 ∨ k = 12)) (hv : v = nI x - 1) (hx : x < 1000) (hj : j < r_ln k) (hd : decode cc pc = .ok (.iastore, 1)) (kk : G p l e R s m args below meth c D cl A nL Q cells slots (RX S (u2 σ k j x) ad0 w0) (pc + 1) lo st) : G p l e R s m args below meth c D cl A nL Q cells slots (RX S σ ad0 w0) pc lo (.int v :: .int (nI j) :: .ref (ad0 (200 + k)) :: st) := by
  refine g_ast (f := fun j => nI (σ k j) - 1) hC (200 + k) (fun ad w h => ⟨by rw [h.1], ?_⟩) hj (r_ln_lt k) (r_put h1 h2 ⟨hx, fun q => absurd q hb⟩ ?_) hd kk
  · rw [h.2.2.2.1 k h1 h2]
    unfold r_arr
    rw [hty, show (fun j => r_en k (σ k j)) = fun j => nI (σ k j) - 1 from funext fun j => hen _]
  · unfold r_arr
    rw [hty]
    congr 4
    funext i
    rw [hen, u2_in]
    unfold va_up
    split
    · exact hv
    · rfl
theorem r_nar {x : Nat} (h : x < 2) : vp_nar .boolean (nI x) = nI x := by
  rcases (show x = 0 ∨ x = 1 by omega) with rfl | rfl <;> decide +kernel
theorem r_nar2 {x : Nat} (h : x < 2) : narrow .boolean (.int (nI x)) = .int (nI x) := by
  rcases (show x = 0 ∨ x = 1 by omega) with rfl | rfl <;> decide +kernel
theorem r_zst (k : Nat) {j x : Nat} (hC : g_C p s m args c D cl N A nL cc own Ts) (h1 : 1 ≤ k) (h2 : k ≤ 14) (hty : r_ty k = .boolean) (hen : ∀ n, r_en k n = nI n) (hx : x < 2) (hj : j < r_ln k) (hd : decode cc pc = .ok (.bastore, 1)) (kk : G p l e R s m args below meth c D cl A nL Q cells slots (RX S (u2 σ k j x) ad0 w0) (pc + 1) lo st) : G p l e R s m args below meth c D cl A nL Q cells slots (RX S σ ad0 w0) pc lo (.int (nI x) :: .int (nI j) :: .ref (ad0 (200 + k)) :: st) := by
  refine g_zst (f := fun j => nI (σ k j)) hC (200 + k) (fun ad w h => ⟨by rw [h.1], ?_⟩) hj (r_ln_lt k) (r_nar hx) (r_put h1 h2 ⟨by omega, fun _ => hx⟩ ?_) hd kk
  · rw [h.2.2.2.1 k h1 h2]
    unfold r_arr
    rw [hty, show (fun j => r_en k (σ k j)) = fun j => nI (σ k j) from funext fun j => hen _]
  · unfold r_arr
    rw [hty]
    congr 4
    funext i
    rw [hen, u2_in]
    unfold va_up
    split <;> rfl
theorem g_loop {ι : Type} {pc0 : Nat} (μ : ι → Nat) (I : ι → Prop) (V : ι → (Nat → Nat) → gW → Prop) (lo : ι → List (Nat × Value)) (hs : ∀ i, I i → (∀ j, I j → μ j < μ i → G p l e R s m args below meth c D cl A nL Q cells slots (V j) pc0 (lo j) []) → G p l e R s m args below meth c D cl A nL Q cells slots (V i) pc0 (lo i) []) (i0 : ι) (h0 : I i0) : G p l e R s m args below meth c D cl A nL Q cells slots (V i0) pc0 (lo i0) [] := by
  have key : ∀ (n : Nat) (i : ι), μ i = n → I i → G p l e R s m args below meth c D cl A nL Q cells slots (V i) pc0 (lo i) [] := by
    intro n
    induction n using Nat.strongRecOn with
    | ind n ih =>
      intro i hi hI
      exact hs i hI (fun j hj hlt => ih (μ j) (by omega) j rfl hj)
  exact key _ i0 rfl h0
end RW
def rk (n : Nat) : Room := { frames := n, cells := 0, slots := 0, locals := 64 * n + 20 }
end
section
/-! one and nought for true and false -/
noncomputable def pb (P : Prop) : Nat := by
  classical exact if P then 1 else 0
theorem pb_t {P : Prop} (h : P) : pb P = 1 := by
  unfold pb
  rw [if_pos h]
theorem pb_f {P : Prop} (h : ¬ P) : pb P = 0 := by
  unfold pb
  rw [if_neg h]
theorem pb_lt (P : Prop) : pb P < 2 := by
  unfold pb
  split <;> omega
theorem pb_le (P : Prop) : pb P < 2 ^ 31 := Nat.lt_of_lt_of_le (pb_lt P) (by decide)
theorem pb_0 {P : Prop} (h : pb P = 0) : ¬ P := fun q => by
  rw [pb_t q] at h
  cases h
theorem pb_1 {P : Prop} (h : pb P ≠ 0) : P := Classical.byContradiction fun q => h (pb_f q)
theorem pb_iff {P P' : Prop} (h : P ↔ P') : pb P = pb P' := by
  rw [show P = P' from propext h]
theorem nI_one {P : Prop} (h : P) : nI 1 = nI (pb P) := by rw [pb_t h]
theorem nI_zero {P : Prop} (h : ¬ P) : nI 0 = nI (pb P) := by rw [pb_f h]
def s_nw (σ : rS) (t : Nat) : Nat := if t < 3 then σ 14 t else 0
set_option maxRecDepth 100000 in
set_option maxHeartbeats 4000000 in
/-- isSite -/
theorem r_isSite (l : Launch) (D : va_G) (S : Nat) (σ : rS) (ad0 : Nat → Nat) (w0 : gW) (hS : S < 2 ^ 31) (x : Int32) : g_M l y_M_isSite w_M_isSite (rk 0) D gCl g_N [.ref (ad0 200), .int x] (RX S σ ad0 w0) 0 0 (fun A => g_Qi D gCl A (fun r ad w => r = nI (pb (∃ j, ix S x = some j)) ∧ RX S σ ad0 w0 ad w)) := by
  refine g_of (cc := c_M_isSite) (nL := 2) (ret := some .boolean) (by decide) rfl (Nat.le_of_ble_eq_true rfl) ?_
  intro pp ee ss mm bb me cc A hC hr hlk hnm
  refine g_los [0, 1] (lo' := [(0, .ref (ad0 200)), (1, .int x)]) rfl ?_
  refine g_pure r_bl_of (fun hb => ?_)
  refine g_iload_n (i := 1) hC d_M_isSite_0 rfl rfl ?_
  refine g_if_lt (tgt := 16) hC d_M_isSite_1 (by decide) (fun h1 => ?_) (fun h1 => ?_)
  · refine g_iconst (v := nI 0) hC d_M_isSite_16 (by decide) ?_
    refine g_zret hC hr hlk (r_nar2 (by decide)) d_M_isSite_17 (by decide) (by decide) (fun ad w hw => ?_)
    first
      | exact ⟨nI_zero (fun ⟨j, q⟩ => by rw [ix_neg h1] at q; cases q), hw⟩
      | exact ⟨nI_zero (fun ⟨j, q⟩ => by rw [ix_big hS h9] at q; cases q), hw⟩
      | (obtain ⟨j, -, -, q⟩ := ix_of hS h1 h9
         exact ⟨nI_one ⟨j, q⟩, hw⟩)
  · refine g_iload_n (i := 1) hC d_M_isSite_4 rfl rfl ?_
    refine g_aload_n (i := 0) hC d_M_isSite_5 rfl rfl (Or.inr ⟨_, rfl⟩) ?_
    refine g_get hC (fun x h => List.mem_cons_of_mem _ (in_M x h)) 200 r_this rfl 0 (by decide) (List.mem_cons_of_mem _ m_320) rfl rfl d_M_isSite_6 ?_
    refine g_icmp_ge (tgt := 16) hC d_M_isSite_9 (by decide) (fun h9 => ?_) (fun h9 => ?_)
    · refine g_iconst (v := nI 0) hC d_M_isSite_16 (by decide) ?_
      refine g_zret hC hr hlk (r_nar2 (by decide)) d_M_isSite_17 (by decide) (by decide) (fun ad w hw => ?_)
      first
        | exact ⟨nI_zero (fun ⟨j, q⟩ => by rw [ix_neg h1] at q; cases q), hw⟩
        | exact ⟨nI_zero (fun ⟨j, q⟩ => by rw [ix_big hS h9] at q; cases q), hw⟩
        | (obtain ⟨j, -, -, q⟩ := ix_of hS h1 h9
           exact ⟨nI_one ⟨j, q⟩, hw⟩)
    · refine g_iconst (v := nI 1) hC d_M_isSite_12 (by decide) ?_
      refine g_goto (tgt := 17) hC d_M_isSite_13 (by decide) ?_
      refine g_zret hC hr hlk (r_nar2 (by decide)) d_M_isSite_17 (by decide) (by decide) (fun ad w hw => ?_)
      first
        | exact ⟨nI_zero (fun ⟨j, q⟩ => by rw [ix_neg h1] at q; cases q), hw⟩
        | exact ⟨nI_zero (fun ⟨j, q⟩ => by rw [ix_big hS h9] at q; cases q), hw⟩
        | (obtain ⟨j, -, -, q⟩ := ix_of hS h1 h9
           exact ⟨nI_one ⟨j, q⟩, hw⟩)
set_option maxRecDepth 100000 in
set_option maxHeartbeats 4000000 in
theorem r_sites (l : Launch) (D : va_G) (S : Nat) (σ : rS) (ad0 : Nat → Nat) (w0 : gW)  : g_M l y_M_sites w_M_sites (rk 0) D gCl g_N [.ref (ad0 200)] (RX S σ ad0 w0) 0 0 (fun A => g_Qi D gCl A (fun r ad w => r = nI S ∧ RX S σ ad0 w0 ad w)) := by
  refine g_of (cc := c_M_sites) (nL := 1) (ret := some .int) (by decide) rfl (Nat.le_of_ble_eq_true rfl) ?_
  intro pp ee ss mm bb me cc A hC hr hlk hnm
  refine g_los [0] (lo' := [(0, .ref (ad0 200))]) rfl ?_
  refine g_pure r_bl_of (fun hb => ?_)
  refine g_aload_n (i := 0) hC d_M_sites_0 rfl rfl (Or.inr ⟨_, rfl⟩) ?_
  refine g_get hC (fun x h => List.mem_cons_of_mem _ (in_M x h)) 200 r_this rfl 0 (by decide) (List.mem_cons_of_mem _ m_320) rfl rfl d_M_sites_1 ?_
  refine g_iret hC hr hlk d_M_sites_4 (by decide) (by decide) (fun ad w hw => ?_)
  exact ⟨rfl, hw⟩
set_option maxRecDepth 100000 in
set_option maxHeartbeats 4000000 in
theorem r_has (l : Launch) (D : va_G) (S : Nat) (σ : rS) (ad0 : Nat → Nat) (w0 : gW) (o : Nat) (ho : o < 18) : g_M l y_M_has w_M_has (rk 0) D gCl g_N [.ref (ad0 200), .int (nI o)] (RX S σ ad0 w0) 0 0 (fun A => g_Qi D gCl A (fun r ad w => r = nI (pb (o % 6 < σ 14 (o / 6))) ∧ RX S σ ad0 w0 ad w)) := by
  refine g_of (cc := c_M_has) (nL := 2) (ret := some .boolean) (by decide) rfl (Nat.le_of_ble_eq_true rfl) ?_
  intro pp ee ss mm bb me cc A hC hr hlk hnm
  refine g_los [0, 1] (lo' := [(0, .ref (ad0 200)), (1, .int (nI o))]) rfl ?_
  refine g_pure r_bl_of (fun hb => ?_)
  refine g_iload_n (i := 1) hC d_M_has_0 rfl rfl ?_
  refine g_bipush (v := nI 6) hC d_M_has_1 (by decide) ?_
  refine g_iremN hC d_M_has_3 (by omega) (by omega) (by omega) ?_
  refine g_aload_n (i := 0) hC d_M_has_4 rfl rfl (Or.inr ⟨_, rfl⟩) ?_
  refine g_get hC (fun x h => List.mem_cons_of_mem _ (in_M x h)) 200 r_this rfl 14 (by decide) (List.mem_cons_of_mem _ m_334) rfl rfl d_M_has_5 ?_
  refine g_iload_n (i := 1) hC d_M_has_8 rfl rfl ?_
  refine g_bipush (v := nI 6) hC d_M_has_9 (by decide) ?_
  refine g_idivN hC d_M_has_11 (by omega) (by omega) (by omega) ?_
  refine r_ld 14 hC (by decide) (by decide) rfl (fun _ => rfl) (by simp only [r_ln]; omega) d_M_has_12 ?_
  refine g_icmp_geN (tgt := 20) hC d_M_has_13 (by decide) (by first | omega | exact r_lt hb _ _ | exact pb_le _) (by first | omega | exact r_lt hb _ _ | exact pb_le _) (fun h13 => ?_) (fun h13 => ?_)
  · refine g_iconst (v := nI 0) hC d_M_has_20 (by decide) ?_
    refine g_zret hC hr hlk (r_nar2 (by decide)) d_M_has_21 (by decide) (by decide) (fun ad w hw => ?_)
    first
      | exact ⟨nI_one h13, hw⟩
      | exact ⟨nI_zero (by omega), hw⟩
  · refine g_iconst (v := nI 1) hC d_M_has_16 (by decide) ?_
    refine g_goto (tgt := 21) hC d_M_has_17 (by decide) ?_
    refine g_zret hC hr hlk (r_nar2 (by decide)) d_M_has_21 (by decide) (by decide) (fun ad w hw => ?_)
    first
      | exact ⟨nI_one h13, hw⟩
      | exact ⟨nI_zero (by omega), hw⟩
set_option maxRecDepth 100000 in
set_option maxHeartbeats 4000000 in
theorem r_covers (l : Launch) (D : va_G) (S : Nat) (σ : rS) (ad0 : Nat → Nat) (w0 : gW) (o : Nat) (ho : o < 18) : g_M l y_M_covers w_M_covers (rk 0) D gCl g_N [.ref (ad0 200), .int (nI o)] (RX S σ ad0 w0) 0 0 (fun A => g_Qi D gCl A (fun r ad w => r = nI (pb (σ 5 (3 * o) ≤ σ 14 0 ∧ σ 5 (3 * o + 1) ≤ σ 14 1 ∧ σ 5 (3 * o + 2) ≤ σ 14 2)) ∧ RX S σ ad0 w0 ad w)) := by
  refine g_of (cc := c_M_covers) (nL := 2) (ret := some .boolean) (by decide) rfl (Nat.le_of_ble_eq_true rfl) ?_
  intro pp ee ss mm bb me cc A hC hr hlk hnm
  refine g_los [0, 1] (lo' := [(0, .ref (ad0 200)), (1, .int (nI o))]) rfl ?_
  refine g_pure r_bl_of (fun hb => ?_)
  refine g_aload_n (i := 0) hC d_M_covers_0 rfl rfl (Or.inr ⟨_, rfl⟩) ?_
  refine g_get hC (fun x h => List.mem_cons_of_mem _ (in_M x h)) 200 r_this rfl 5 (by decide) (List.mem_cons_of_mem _ m_325) rfl rfl d_M_covers_1 ?_
  refine g_iconst (v := nI 3) hC d_M_covers_4 (by decide) ?_
  refine g_iload_n (i := 1) hC d_M_covers_5 rfl rfl ?_
  refine g_imulN hC d_M_covers_6 ?_
  refine r_ld 5 hC (by decide) (by decide) rfl (fun _ => rfl) (by simp only [r_ln]; omega) d_M_covers_7 ?_
  refine g_aload_n (i := 0) hC d_M_covers_8 rfl rfl (Or.inr ⟨_, rfl⟩) ?_
  refine g_get hC (fun x h => List.mem_cons_of_mem _ (in_M x h)) 200 r_this rfl 14 (by decide) (List.mem_cons_of_mem _ m_334) rfl rfl d_M_covers_9 ?_
  refine g_iconst (v := nI 0) hC d_M_covers_12 (by decide) ?_
  refine r_ld 14 hC (by decide) (by decide) rfl (fun _ => rfl) (by simp only [r_ln]; omega) d_M_covers_13 ?_
  refine g_icmp_gtN (tgt := 59) hC d_M_covers_14 (by decide) (by first | omega | exact r_lt hb _ _ | exact pb_le _) (by first | omega | exact r_lt hb _ _ | exact pb_le _) (fun h14 => ?_) (fun h14 => ?_)
  · refine g_iconst (v := nI 0) hC d_M_covers_59 (by decide) ?_
    refine g_zret hC hr hlk (r_nar2 (by decide)) d_M_covers_60 (by decide) (by decide) (fun ad w hw => ?_)
    first
      | exact ⟨nI_one ⟨by omega, by omega, by omega⟩, hw⟩
      | exact ⟨nI_zero (by omega), hw⟩
  · refine g_aload_n (i := 0) hC d_M_covers_17 rfl rfl (Or.inr ⟨_, rfl⟩) ?_
    refine g_get hC (fun x h => List.mem_cons_of_mem _ (in_M x h)) 200 r_this rfl 5 (by decide) (List.mem_cons_of_mem _ m_325) rfl rfl d_M_covers_18 ?_
    refine g_iconst (v := nI 3) hC d_M_covers_21 (by decide) ?_
    refine g_iload_n (i := 1) hC d_M_covers_22 rfl rfl ?_
    refine g_imulN hC d_M_covers_23 ?_
    refine g_iconst (v := nI 1) hC d_M_covers_24 (by decide) ?_
    refine g_iaddN hC d_M_covers_25 ?_
    refine r_ld 5 hC (by decide) (by decide) rfl (fun _ => rfl) (by simp only [r_ln]; omega) d_M_covers_26 ?_
    refine g_aload_n (i := 0) hC d_M_covers_27 rfl rfl (Or.inr ⟨_, rfl⟩) ?_
    refine g_get hC (fun x h => List.mem_cons_of_mem _ (in_M x h)) 200 r_this rfl 14 (by decide) (List.mem_cons_of_mem _ m_334) rfl rfl d_M_covers_28 ?_
    refine g_iconst (v := nI 1) hC d_M_covers_31 (by decide) ?_
    refine r_ld 14 hC (by decide) (by decide) rfl (fun _ => rfl) (by simp only [r_ln]; omega) d_M_covers_32 ?_
    refine g_icmp_gtN (tgt := 59) hC d_M_covers_33 (by decide) (by first | omega | exact r_lt hb _ _ | exact pb_le _) (by first | omega | exact r_lt hb _ _ | exact pb_le _) (fun h33 => ?_) (fun h33 => ?_)
    · refine g_iconst (v := nI 0) hC d_M_covers_59 (by decide) ?_
      refine g_zret hC hr hlk (r_nar2 (by decide)) d_M_covers_60 (by decide) (by decide) (fun ad w hw => ?_)
      first
        | exact ⟨nI_one ⟨by omega, by omega, by omega⟩, hw⟩
        | exact ⟨nI_zero (by omega), hw⟩
    · refine g_aload_n (i := 0) hC d_M_covers_36 rfl rfl (Or.inr ⟨_, rfl⟩) ?_
      refine g_get hC (fun x h => List.mem_cons_of_mem _ (in_M x h)) 200 r_this rfl 5 (by decide) (List.mem_cons_of_mem _ m_325) rfl rfl d_M_covers_37 ?_
      refine g_iconst (v := nI 3) hC d_M_covers_40 (by decide) ?_
      refine g_iload_n (i := 1) hC d_M_covers_41 rfl rfl ?_
      refine g_imulN hC d_M_covers_42 ?_
      refine g_iconst (v := nI 2) hC d_M_covers_43 (by decide) ?_
      refine g_iaddN hC d_M_covers_44 ?_
      refine r_ld 5 hC (by decide) (by decide) rfl (fun _ => rfl) (by simp only [r_ln]; omega) d_M_covers_45 ?_
      refine g_aload_n (i := 0) hC d_M_covers_46 rfl rfl (Or.inr ⟨_, rfl⟩) ?_
      refine g_get hC (fun x h => List.mem_cons_of_mem _ (in_M x h)) 200 r_this rfl 14 (by decide) (List.mem_cons_of_mem _ m_334) rfl rfl d_M_covers_47 ?_
      refine g_iconst (v := nI 2) hC d_M_covers_50 (by decide) ?_
      refine r_ld 14 hC (by decide) (by decide) rfl (fun _ => rfl) (by simp only [r_ln]; omega) d_M_covers_51 ?_
      refine g_icmp_gtN (tgt := 59) hC d_M_covers_52 (by decide) (by first | omega | exact r_lt hb _ _ | exact pb_le _) (by first | omega | exact r_lt hb _ _ | exact pb_le _) (fun h52 => ?_) (fun h52 => ?_)
      · refine g_iconst (v := nI 0) hC d_M_covers_59 (by decide) ?_
        refine g_zret hC hr hlk (r_nar2 (by decide)) d_M_covers_60 (by decide) (by decide) (fun ad w hw => ?_)
        first
          | exact ⟨nI_one ⟨by omega, by omega, by omega⟩, hw⟩
          | exact ⟨nI_zero (by omega), hw⟩
      · refine g_iconst (v := nI 1) hC d_M_covers_55 (by decide) ?_
        refine g_goto (tgt := 60) hC d_M_covers_56 (by decide) ?_
        refine g_zret hC hr hlk (r_nar2 (by decide)) d_M_covers_60 (by decide) (by decide) (fun ad w hw => ?_)
        first
          | exact ⟨nI_one ⟨by omega, by omega, by omega⟩, hw⟩
          | exact ⟨nI_zero (by omega), hw⟩
set_option maxRecDepth 100000 in
set_option maxHeartbeats 4000000 in
theorem r_index (l : Launch) (D : va_G) (S : Nat) (σ : rS) (ad0 : Nat → Nat) (w0 : gW) (o : Nat) (ho : o < 18) : g_M l y_M_index w_M_index (rk 0) D gCl g_N [.ref (ad0 200), .int (nI o)] (RX S σ ad0 w0) 0 0 (fun A => g_Qi D gCl A (fun r ad w => r = nI (343 * o + σ 14 0 + 7 * σ 14 1 + 49 * σ 14 2) ∧ RX S σ ad0 w0 ad w)) := by
  refine g_of (cc := c_M_index) (nL := 2) (ret := some .int) (by decide) rfl (Nat.le_of_ble_eq_true rfl) ?_
  intro pp ee ss mm bb me cc A hC hr hlk hnm
  refine g_los [0, 1] (lo' := [(0, .ref (ad0 200)), (1, .int (nI o))]) rfl ?_
  refine g_pure r_bl_of (fun hb => ?_)
  refine g_sipush (v := nI 343) hC d_M_index_0 (by decide) ?_
  refine g_iload_n (i := 1) hC d_M_index_3 rfl rfl ?_
  refine g_imulN hC d_M_index_4 ?_
  refine g_aload_n (i := 0) hC d_M_index_5 rfl rfl (Or.inr ⟨_, rfl⟩) ?_
  refine g_get hC (fun x h => List.mem_cons_of_mem _ (in_M x h)) 200 r_this rfl 14 (by decide) (List.mem_cons_of_mem _ m_334) rfl rfl d_M_index_6 ?_
  refine g_iconst (v := nI 0) hC d_M_index_9 (by decide) ?_
  refine r_ld 14 hC (by decide) (by decide) rfl (fun _ => rfl) (by simp only [r_ln]; omega) d_M_index_10 ?_
  refine g_iaddN hC d_M_index_11 ?_
  refine g_bipush (v := nI 7) hC d_M_index_12 (by decide) ?_
  refine g_aload_n (i := 0) hC d_M_index_14 rfl rfl (Or.inr ⟨_, rfl⟩) ?_
  refine g_get hC (fun x h => List.mem_cons_of_mem _ (in_M x h)) 200 r_this rfl 14 (by decide) (List.mem_cons_of_mem _ m_334) rfl rfl d_M_index_15 ?_
  refine g_iconst (v := nI 1) hC d_M_index_18 (by decide) ?_
  refine r_ld 14 hC (by decide) (by decide) rfl (fun _ => rfl) (by simp only [r_ln]; omega) d_M_index_19 ?_
  refine g_imulN hC d_M_index_20 ?_
  refine g_iaddN hC d_M_index_21 ?_
  refine g_bipush (v := nI 49) hC d_M_index_22 (by decide) ?_
  refine g_aload_n (i := 0) hC d_M_index_24 rfl rfl (Or.inr ⟨_, rfl⟩) ?_
  refine g_get hC (fun x h => List.mem_cons_of_mem _ (in_M x h)) 200 r_this rfl 14 (by decide) (List.mem_cons_of_mem _ m_334) rfl rfl d_M_index_25 ?_
  refine g_iconst (v := nI 2) hC d_M_index_28 (by decide) ?_
  refine r_ld 14 hC (by decide) (by decide) rfl (fun _ => rfl) (by simp only [r_ln]; omega) d_M_index_29 ?_
  refine g_imulN hC d_M_index_30 ?_
  refine g_iaddN hC d_M_index_31 ?_
  refine g_iret hC hr hlk d_M_index_32 (by decide) (by decide) (fun ad w hw => ?_)
  exact ⟨rfl, hw⟩
set_option maxRecDepth 100000 in
set_option maxHeartbeats 4000000 in
theorem r_moved (l : Launch) (D : va_G) (S : Nat) (σ : rS) (ad0 : Nat → Nat) (w0 : gW) (x p y q : Nat) (hx : x < 18) (hp : p < 1000) (hy : y < 18) (hq : q < 1000) : g_M l y_M_moved w_M_moved (rk 0) D gCl g_N [.int (nI x), .int (nI p), .int (nI y), .int (nI q)] (RX S σ ad0 w0) 0 0 (fun A => g_Qi D gCl A (fun r ad w => r = nI (mmv 1 (x / 6) p 1 (y / 6) q) ∧ RX S σ ad0 w0 ad w)) := by
  refine g_of (cc := c_M_moved) (nL := 4) (ret := some .int) (by decide) rfl (Nat.le_of_ble_eq_true rfl) ?_
  intro pp ee ss mm bb me cc A hC hr hlk hnm
  refine g_los [0, 1, 2, 3] (lo' := [(0, .int (nI x)), (1, .int (nI p)), (2, .int (nI y)), (3, .int (nI q))]) rfl ?_
  refine g_pure r_bl_of (fun hb => ?_)
  refine g_iload_n (i := 1) hC d_M_moved_0 rfl rfl ?_
  refine g_iload_n (i := 3) hC d_M_moved_1 rfl rfl ?_
  refine g_icmp_ltN (tgt := 21) hC d_M_moved_2 (by decide) (by first | omega | exact r_lt hb _ _ | exact pb_le _) (by first | omega | exact r_lt hb _ _ | exact pb_le _) (fun h2 => ?_) (fun h2 => ?_)
  · refine g_iload_n (i := 1) hC d_M_moved_21 rfl rfl ?_
    refine g_goto (tgt := 28) hC d_M_moved_22 (by decide) ?_
    refine g_iret hC hr hlk d_M_moved_28 (by decide) (by decide) (fun ad w hw => ?_)
    first
      | exact ⟨congrArg nI (mmv_2 (by omega)).symm, hw⟩
      | exact ⟨congrArg nI (mmv_1 (by omega)).symm, hw⟩
  · refine g_iload_n (i := 1) hC d_M_moved_5 rfl rfl ?_
    refine g_iload_n (i := 3) hC d_M_moved_6 rfl rfl ?_
    refine g_icmp_neN (tgt := 25) hC d_M_moved_7 (by decide) (by first | omega | exact r_lt hb _ _ | exact pb_le _) (by first | omega | exact r_lt hb _ _ | exact pb_le _) (fun h7 => ?_) (fun h7 => ?_)
    · refine g_iload_n (i := 1) hC d_M_moved_25 rfl rfl ?_
      refine g_iconst (v := nI 1) hC d_M_moved_26 (by decide) ?_
      refine g_iaddN hC d_M_moved_27 ?_
      refine g_iret hC hr hlk d_M_moved_28 (by decide) (by decide) (fun ad w hw => ?_)
      first
        | exact ⟨congrArg nI (mmv_2 (by omega)).symm, hw⟩
        | exact ⟨congrArg nI (mmv_1 (by omega)).symm, hw⟩
    · refine g_iload_n (i := 0) hC d_M_moved_10 rfl rfl ?_
      refine g_bipush (v := nI 6) hC d_M_moved_11 (by decide) ?_
      refine g_idivN hC d_M_moved_13 (by omega) (by omega) (by omega) ?_
      refine g_iload_n (i := 2) hC d_M_moved_14 rfl rfl ?_
      refine g_bipush (v := nI 6) hC d_M_moved_15 (by decide) ?_
      refine g_idivN hC d_M_moved_17 (by omega) (by omega) (by omega) ?_
      refine g_icmp_geN (tgt := 25) hC d_M_moved_18 (by decide) (by first | omega | exact r_lt hb _ _ | exact pb_le _) (by first | omega | exact r_lt hb _ _ | exact pb_le _) (fun h18 => ?_) (fun h18 => ?_)
      · refine g_iload_n (i := 1) hC d_M_moved_25 rfl rfl ?_
        refine g_iconst (v := nI 1) hC d_M_moved_26 (by decide) ?_
        refine g_iaddN hC d_M_moved_27 ?_
        refine g_iret hC hr hlk d_M_moved_28 (by decide) (by decide) (fun ad w hw => ?_)
        first
          | exact ⟨congrArg nI (mmv_2 (by omega)).symm, hw⟩
          | exact ⟨congrArg nI (mmv_1 (by omega)).symm, hw⟩
      · refine g_iload_n (i := 1) hC d_M_moved_21 rfl rfl ?_
        refine g_goto (tgt := 28) hC d_M_moved_22 (by decide) ?_
        refine g_iret hC hr hlk d_M_moved_28 (by decide) (by decide) (fun ad w hw => ?_)
        first
          | exact ⟨congrArg nI (mmv_2 (by omega)).symm, hw⟩
          | exact ⟨congrArg nI (mmv_1 (by omega)).symm, hw⟩
end
section
set_option maxRecDepth 100000 in
set_option maxHeartbeats 4000000 in
theorem r_closed (l : Launch) (D : va_G) (S : Nat) (σ : rS) (ad0 : Nat → Nat) (w0 : gW)  : g_M l y_M_closed w_M_closed (rk 1) D gCl g_N [.ref (ad0 200)] (RX S σ ad0 w0) 0 0 (fun A => g_Qi D gCl A (fun r ad w => r = nI (pb (∀ o, o < 18 → o % 6 < σ 14 (o / 6) → o % 6 < σ 1 (o / 6) ∧ σ 5 (3 * o) ≤ σ 14 0 ∧ σ 5 (3 * o + 1) ≤ σ 14 1 ∧ σ 5 (3 * o + 2) ≤ σ 14 2)) ∧ RX S σ ad0 w0 ad w)) := by
  refine g_of (cc := c_M_closed) (nL := 3) (ret := some .boolean) (by decide) rfl (Nat.le_of_ble_eq_true rfl) ?_
  intro pp ee ss mm bb me cc A hC hr hlk hnm
  refine g_los [0] (lo' := [(0, .ref (ad0 200))]) rfl ?_
  refine g_pure r_bl_of (fun hb => ?_)
  refine g_iconst (v := nI 1) hC d_M_closed_0 (by decide) ?_
  refine g_istore_n (i := 1) (lo' := [(1, _), (0, _)]) hC d_M_closed_1 rfl (by decide) rfl ?_
  refine g_iconst (v := nI 0) hC d_M_closed_2 (by decide) ?_
  refine g_istore_n (i := 2) (lo' := [(2, _), (1, _), (0, _)]) hC d_M_closed_3 rfl (by decide) rfl ?_
  refine g_los [2, 1, 0] (lo' := [(0, _), (1, _), (2, _)]) rfl ?_
  refine g_loop (ι := Nat × Nat) (pc0 := 4) (fun ⟨i, g⟩ => 18 - i) (fun ⟨i, g⟩ => i ≤ 18 ∧ g = pb (∀ o, o < i → o % 6 < σ 14 (o / 6) → o % 6 < σ 1 (o / 6) ∧ σ 5 (3 * o) ≤ σ 14 0 ∧ σ 5 (3 * o + 1) ≤ σ 14 1 ∧ σ 5 (3 * o + 2) ≤ σ 14 2)) (fun ⟨i, g⟩ => RX S σ ad0 w0) (fun ⟨i, g⟩ => [(0, .ref (ad0 200)), (1, .int (nI g)), (2, .int (nI i))]) ?_ (0, 1) (⟨by omega, (pb_t (fun o ho => by omega)).symm⟩)
  rintro ⟨i, g⟩ hI ih
  dsimp only at hI ih ⊢
  refine g_iload_n (i := 2) hC d_M_closed_4 rfl rfl ?_
  refine g_bipush (v := nI 18) hC d_M_closed_5 (by decide) ?_
  refine g_icmp_geN (tgt := 58) hC d_M_closed_7 (by decide) (by first | omega | exact r_lt hb _ _ | exact pb_le _) (by first | omega | exact r_lt hb _ _ | exact pb_le _) (fun h7 => ?_) (fun h7 => ?_)
  · refine g_iload_n (i := 1) hC d_M_closed_58 rfl rfl ?_
    refine g_zret hC hr hlk (r_nar2 (by rw [hI.2]; exact pb_lt _)) d_M_closed_59 (by decide) (by decide) (fun ad w hw => ?_)
    obtain ⟨h1, rfl⟩ := hI
    have e : i = 18 := by omega
    subst e
    exact ⟨rfl, hw⟩
  · refine g_iload_n (i := 1) hC d_M_closed_10 rfl rfl ?_
    refine g_if_eqN (tgt := 50) hC d_M_closed_11 (by decide) (by rw [hI.2]; exact pb_le _) (fun h11 => ?_) (fun h11 => ?_)
    · have g11 := pb_0 ((hI.2).symm.trans h11)
      refine g_iconst (v := nI 0) hC d_M_closed_50 (by decide) ?_
      refine g_istore_n (i := 1) (lo' := [(1, _), (0, _), (2, _)]) hC d_M_closed_51 rfl (by decide) rfl ?_
      refine g_iinc (i := 2) (k := 2) (lo' := [(2, _), (1, _), (0, _)]) hC d_M_closed_52 rfl (nI_inc _) (by decide) rfl ?_
      refine g_goto (tgt := 4) hC d_M_closed_55 (by decide) ?_
      refine g_los [2, 1, 0] rfl ?_
      exact ih (i + 1, 0) ⟨by omega, (pb_f (fun h9 => g11 (fun o ho => h9 o (Nat.lt_succ_of_lt ho)))).symm⟩ (by dsimp only; omega)
    · have g11 := pb_1 (fun z => h11 ((hI.2).trans z))
      refine g_aload_n (i := 0) hC d_M_closed_14 rfl rfl (Or.inr ⟨_, rfl⟩) ?_
      refine g_iload_n (i := 2) hC d_M_closed_15 rfl rfl ?_
      refine g_calli hC (g_runV (q := 200) (As := [_]) (st := []) hC g_NOK_N (r_has l D S σ ad0 w0 i (by omega)) (t_cwV 1 hC.1.2.2.2.2 m_402 m_404 ms_15 m_6 k_M_has rfl rfl hd_M_has ⟨by decide, by decide⟩) r_this rfl rfl rfl (by decide) d_M_closed_16 ⟨by decide, by decide⟩) (fun r16 => ?_)
      refine g_and (fun e16 => ?_)
      subst e16
      refine g_if_eqN (tgt := 46) hC d_M_closed_19 (by decide) (by first | omega | exact r_lt hb _ _ | exact pb_le _) (fun h19 => ?_) (fun h19 => ?_)
      · have g19 := pb_0 h19
        refine g_iconst (v := nI 1) hC d_M_closed_46 (by decide) ?_
        refine g_goto (tgt := 51) hC d_M_closed_47 (by decide) ?_
        refine g_istore_n (i := 1) (lo' := [(1, _), (0, _), (2, _)]) hC d_M_closed_51 rfl (by decide) rfl ?_
        refine g_iinc (i := 2) (k := 2) (lo' := [(2, _), (1, _), (0, _)]) hC d_M_closed_52 rfl (nI_inc _) (by decide) rfl ?_
        refine g_goto (tgt := 4) hC d_M_closed_55 (by decide) ?_
        refine g_los [2, 1, 0] rfl ?_
        exact ih (i + 1, 1) ⟨by omega, (pb_t (lt_s g11 (fun h => absurd h g19))).symm⟩ (by dsimp only; omega)
      · have g19 := pb_1 h19
        refine g_iload_n (i := 2) hC d_M_closed_22 rfl rfl ?_
        refine g_bipush (v := nI 6) hC d_M_closed_23 (by decide) ?_
        refine g_iremN hC d_M_closed_25 (by omega) (by omega) (by omega) ?_
        refine g_aload_n (i := 0) hC d_M_closed_26 rfl rfl (Or.inr ⟨_, rfl⟩) ?_
        refine g_get hC (fun x h => List.mem_cons_of_mem _ (in_M x h)) 200 r_this rfl 1 (by decide) (List.mem_cons_of_mem _ m_321) rfl rfl d_M_closed_27 ?_
        refine g_iload_n (i := 2) hC d_M_closed_30 rfl rfl ?_
        refine g_bipush (v := nI 6) hC d_M_closed_31 (by decide) ?_
        refine g_idivN hC d_M_closed_33 (by omega) (by omega) (by omega) ?_
        refine r_ld 1 hC (by decide) (by decide) rfl (fun _ => rfl) (by simp only [r_ln]; omega) d_M_closed_34 ?_
        refine g_icmp_geN (tgt := 50) hC d_M_closed_35 (by decide) (by first | omega | exact r_lt hb _ _ | exact pb_le _) (by first | omega | exact r_lt hb _ _ | exact pb_le _) (fun h35 => ?_) (fun h35 => ?_)
        · refine g_iconst (v := nI 0) hC d_M_closed_50 (by decide) ?_
          refine g_istore_n (i := 1) (lo' := [(1, _), (0, _), (2, _)]) hC d_M_closed_51 rfl (by decide) rfl ?_
          refine g_iinc (i := 2) (k := 2) (lo' := [(2, _), (1, _), (0, _)]) hC d_M_closed_52 rfl (nI_inc _) (by decide) rfl ?_
          refine g_goto (tgt := 4) hC d_M_closed_55 (by decide) ?_
          refine g_los [2, 1, 0] rfl ?_
          exact ih (i + 1, 0) ⟨by omega, (pb_f (fun h9 => absurd (h9 i (Nat.lt_succ_self i) g19).1 (Nat.not_lt.mpr h35))).symm⟩ (by dsimp only; omega)
        · refine g_aload_n (i := 0) hC d_M_closed_38 rfl rfl (Or.inr ⟨_, rfl⟩) ?_
          refine g_iload_n (i := 2) hC d_M_closed_39 rfl rfl ?_
          refine g_calli hC (g_runV (q := 200) (As := [_]) (st := []) hC g_NOK_N (r_covers l D S σ ad0 w0 i (by omega)) (t_cwV 1 hC.1.2.2.2.2 m_406 m_408 ms_16 m_6 k_M_covers rfl rfl hd_M_covers ⟨by decide, by decide⟩) r_this rfl rfl rfl (by decide) d_M_closed_40 ⟨by decide, by decide⟩) (fun r40 => ?_)
          refine g_and (fun e40 => ?_)
          subst e40
          refine g_if_eqN (tgt := 50) hC d_M_closed_43 (by decide) (by first | omega | exact r_lt hb _ _ | exact pb_le _) (fun h43 => ?_) (fun h43 => ?_)
          · have g43 := pb_0 h43
            refine g_iconst (v := nI 0) hC d_M_closed_50 (by decide) ?_
            refine g_istore_n (i := 1) (lo' := [(1, _), (0, _), (2, _)]) hC d_M_closed_51 rfl (by decide) rfl ?_
            refine g_iinc (i := 2) (k := 2) (lo' := [(2, _), (1, _), (0, _)]) hC d_M_closed_52 rfl (nI_inc _) (by decide) rfl ?_
            refine g_goto (tgt := 4) hC d_M_closed_55 (by decide) ?_
            refine g_los [2, 1, 0] rfl ?_
            exact ih (i + 1, 0) ⟨by omega, (pb_f (fun h9 => g43 (h9 i (Nat.lt_succ_self i) g19).2)).symm⟩ (by dsimp only; omega)
          · have g43 := pb_1 h43
            refine g_iconst (v := nI 1) hC d_M_closed_46 (by decide) ?_
            refine g_goto (tgt := 51) hC d_M_closed_47 (by decide) ?_
            refine g_istore_n (i := 1) (lo' := [(1, _), (0, _), (2, _)]) hC d_M_closed_51 rfl (by decide) rfl ?_
            refine g_iinc (i := 2) (k := 2) (lo' := [(2, _), (1, _), (0, _)]) hC d_M_closed_52 rfl (nI_inc _) (by decide) rfl ?_
            refine g_goto (tgt := 4) hC d_M_closed_55 (by decide) ?_
            refine g_los [2, 1, 0] rfl ?_
            exact ih (i + 1, 1) ⟨by omega, (pb_t (lt_s g11 (fun _ => ⟨h35, g43⟩))).symm⟩ (by dsimp only; omega)
end
section
theorem nI_dec1 (a : Nat) : nI a + Int32.ofInt (-1) = nI a - 1 := by
  rw [Int32.sub_eq_add_neg]
  rfl
theorem nI_m1 : ((-1 : Int32)) = nI 0 - 1 := by decide +kernel
theorem nI_m1lt : nI 0 - 1 < 0 := by decide +kernel
theorem s_nw_lt {σ : rS} {t : Nat} (h : t < 3) : s_nw σ t = σ 14 t := if_pos h
theorem s_cx_lt {σ : rS} {o t : Nat} (h : t < 3) : s_cx σ o t = σ 5 (3 * o + t) := if_pos h
theorem s_vc_lt {σ : rS} {s t : Nat} (h : t < 3) : s_vc σ s t = σ 8 (3 * s + t) := if_pos h
theorem s_mk_lt {σ : rS} {t : Nat} (h : t < 3) : s_mk σ t = σ 1 t := if_pos h
theorem mh_nw {σ : rS} {o : Nat} (ho : o < 18) : mh (s_nw σ) o ↔ o % 6 < σ 14 (o / 6) := by
  unfold mh
  rw [s_nw_lt (by omega)]
theorem cand_iff {σ : rS} {x t : Nat} (ht : t < 3) : mcand (s_cx σ) x (s_nw σ) t ↔ σ 5 (3 * x + t) < σ 14 t ∧ ∀ o, o < 18 → o % 6 < σ 14 (o / 6) → σ 5 (3 * o + t) < σ 14 t := by
  unfold mcand mmx
  rw [s_nw_lt ht, s_cx_lt ht]
  constructor
  · rintro ⟨a, -, -, b⟩
    exact ⟨a, fun o ho h => by
      have := b o ho ((mh_nw ho).mpr h)
      rw [s_cx_lt ht] at this
      exact this⟩
  · rintro ⟨a, b⟩
    exact ⟨a, ht, by omega, fun o ho h => by
      rw [s_cx_lt ht]
      exact b o ho ((mh_nw ho).mp h)⟩
set_option maxRecDepth 100000 in
set_option maxHeartbeats 4000000 in
theorem r_last (l : Launch) (D : va_G) (S : Nat) (σ : rS) (ad0 : Nat → Nat) (w0 : gW) (x : Nat) (hx : x < 18) : g_M l y_M_last w_M_last (rk 1) D gCl g_N [.ref (ad0 200), .int (nI x)] (RX S σ ad0 w0) 0 0 (fun A => g_Qi D gCl A (fun r ad w => ((r = -1 ∧ ∀ t, t < 3 → ¬ mcand (s_cx σ) x (s_nw σ) t) ∨ ∃ t, t < 3 ∧ r = nI t ∧ mcand (s_cx σ) x (s_nw σ) t) ∧ RX S σ ad0 w0 ad w)) := by
  refine g_of (cc := c_M_last) (nL := 5) (ret := some .int) (by decide) rfl (Nat.le_of_ble_eq_true rfl) ?_
  intro pp ee ss mm bb me cc A hC hr hlk hnm
  refine g_los [0, 1] (lo' := [(0, .ref (ad0 200)), (1, .int (nI x))]) rfl ?_
  refine g_pure r_bl_of (fun hb => ?_)
  refine g_iconst (v := nI 3 - 1) hC d_M_last_0 (by decide +kernel) ?_
  refine g_istore_n (i := 2) (lo' := [(2, _), (0, _), (1, _)]) hC d_M_last_1 rfl (by decide) rfl ?_
  refine g_los [1, 2, 0] (lo' := [(0, _), (1, _), (2, _)]) rfl ?_
  refine g_loop (ι := Nat) (pc0 := 2) (fun i => i) (fun i => i ≤ 3 ∧ ∀ t, t < 3 → i ≤ t → ¬ mcand (s_cx σ) x (s_nw σ) t) (fun _ => RX S σ ad0 w0) (fun i => [(0, .ref (ad0 200)), (1, .int (nI x)), (2, .int (nI i - 1))]) ?_ 3 ⟨by omega, fun t h1 h2 => by omega⟩
  intro i hI ih
  try dsimp only at hI ih ⊢
  rcases i with _ | t
  · refine g_iload_n (i := 2) hC d_M_last_2 rfl rfl ?_
    refine g_if_lt (tgt := 98) hC d_M_last_3 (by decide) (fun h3 => ?_) (fun h3 => ?_)
    · refine g_iconst (v := -1) hC d_M_last_98 (by decide) ?_
      refine g_iret hC hr hlk d_M_last_99 (by decide) (by decide) (fun ad w hw => ?_)
      exact ⟨Or.inl ⟨rfl, fun t ht => hI.2 t ht (Nat.zero_le t)⟩, hw⟩
    · exact absurd nI_m1lt h3
  · rw [nI_pred]
    have ht : t < 3 := by omega
    refine g_iload_n (i := 2) hC d_M_last_2 rfl rfl ?_
    refine g_if_ltN (tgt := 98) hC d_M_last_3 (by decide) (by first | omega | exact r_lt hb _ _ | exact pb_le _) ?_
    refine g_aload_n (i := 0) hC d_M_last_6 rfl rfl (Or.inr ⟨_, rfl⟩) ?_
    refine g_get hC (fun x h => List.mem_cons_of_mem _ (in_M x h)) 200 r_this rfl 14 (by decide) (List.mem_cons_of_mem _ m_334) rfl rfl d_M_last_7 ?_
    refine g_iload_n (i := 2) hC d_M_last_10 rfl rfl ?_
    refine r_ld 14 hC (by decide) (by decide) rfl (fun _ => rfl) (by simp only [r_ln]; omega) d_M_last_11 ?_
    refine g_aload_n (i := 0) hC d_M_last_12 rfl rfl (Or.inr ⟨_, rfl⟩) ?_
    refine g_get hC (fun x h => List.mem_cons_of_mem _ (in_M x h)) 200 r_this rfl 5 (by decide) (List.mem_cons_of_mem _ m_325) rfl rfl d_M_last_13 ?_
    refine g_iconst (v := nI 3) hC d_M_last_16 (by decide) ?_
    refine g_iload_n (i := 1) hC d_M_last_17 rfl rfl ?_
    refine g_imulN hC d_M_last_18 ?_
    refine g_iload_n (i := 2) hC d_M_last_19 rfl rfl ?_
    refine g_iaddN hC d_M_last_20 ?_
    refine r_ld 5 hC (by decide) (by decide) rfl (fun _ => rfl) (by simp only [r_ln]; omega) d_M_last_21 ?_
    refine g_icmp_leN (tgt := 29) hC d_M_last_22 (by decide) (by first | omega | exact r_lt hb _ _ | exact pb_le _) (by first | omega | exact r_lt hb _ _ | exact pb_le _) (fun h22 => ?_) (fun h22 => ?_)
    · refine g_iconst (v := nI 0) hC d_M_last_29 (by decide) ?_
      refine g_istore_n (i := 3) (lo' := [(3, _), (0, _), (1, _), (2, _)]) hC d_M_last_30 rfl (by decide) rfl ?_
      refine g_iconst (v := nI 0) hC d_M_last_31 (by decide) ?_
      refine g_istore (i := 4) (lo' := [(4, _), (3, _), (0, _), (1, _), (2, _)]) hC d_M_last_32 (by decide) rfl ?_
      refine g_los [2, 3, 4, 1, 0] (lo' := [(0, _), (1, _), (2, _), (3, _), (4, _)]) rfl ?_
      refine g_loop (ι := Nat × Nat) (pc0 := 34) (fun ⟨i, g⟩ => 18 - i) (fun ⟨i, g⟩ => i ≤ 18 ∧ g = pb (σ 5 (3 * x + t) < σ 14 t ∧ ∀ o, o < i → o % 6 < σ 14 (o / 6) → σ 5 (3 * o + t) < σ 14 t)) (fun ⟨i, g⟩ => RX S σ ad0 w0) (fun ⟨i, g⟩ => [(0, .ref (ad0 200)), (1, .int (nI x)), (2, .int (nI t)), (3, .int (nI g)), (4, .int (nI i))]) ?_ (0, 0) (⟨by omega, (pb_f (fun h9 => absurd h9.1 (Nat.not_lt.mpr h22))).symm⟩)
      rintro ⟨i, g⟩ hJ ih2
      try dsimp only at hJ ih2 ⊢
      refine g_iload (i := 4) hC d_M_last_34 rfl ?_
      refine g_bipush (v := nI 18) hC d_M_last_36 (by decide) ?_
      refine g_icmp_geN (tgt := 86) hC d_M_last_38 (by decide) (by first | omega | exact r_lt hb _ _ | exact pb_le _) (by first | omega | exact r_lt hb _ _ | exact pb_le _) (fun h38 => ?_) (fun h38 => ?_)
      · refine g_iload_n (i := 3) hC d_M_last_86 rfl rfl ?_
        refine g_if_eqN (tgt := 92) hC d_M_last_87 (by decide) (by rw [hJ.2]; exact pb_le _) (fun h87 => ?_) (fun h87 => ?_)
        · have g87 := pb_0 ((hJ.2).symm.trans h87)
          refine g_iinc (i := 2) (k := 2) (lo' := [(2, _), (0, _), (1, _), (3, _), (4, _)]) hC d_M_last_92 rfl (nI_dec1 _) (by decide) rfl ?_
          refine g_goto (tgt := 2) hC d_M_last_95 (by decide) ?_
          refine g_los [1, 2, 0] rfl ?_
          refine ih t ⟨by omega, fun t' h1 h2 => ?_⟩ (Nat.lt_succ_self t)
          rcases (show t' = t ∨ t + 1 ≤ t' by omega) with rfl | q
          · intro hc
            exact (fun h => g87 ⟨h.1, fun o ho => h.2 o (by omega)⟩) ((cand_iff h1).mp hc)
          · exact hI.2 t' h1 q
        · have g87 := pb_1 (fun z => h87 ((hJ.2).trans z))
          refine g_iload_n (i := 2) hC d_M_last_90 rfl rfl ?_
          refine g_iret hC hr hlk d_M_last_91 (by decide) (by decide) (fun ad w hw => ?_)
          exact ⟨Or.inr ⟨t, ht, rfl, (cand_iff ht).mpr (by
            have e : i = 18 := by omega
            subst e
            exact g87)⟩, hw⟩
      · refine g_iload_n (i := 3) hC d_M_last_41 rfl rfl ?_
        refine g_if_eqN (tgt := 86) hC d_M_last_42 (by decide) (by rw [hJ.2]; exact pb_le _) (fun h42 => ?_) (fun h42 => ?_)
        · have g42 := pb_0 ((hJ.2).symm.trans h42)
          refine g_iload_n (i := 3) hC d_M_last_86 rfl rfl ?_
          refine g_if_eqN (tgt := 92) hC d_M_last_87 (by decide) (by rw [hJ.2]; exact pb_le _) (fun h87 => ?_) (fun h87 => ?_)
          · have g87 := pb_0 ((hJ.2).symm.trans h87)
            refine g_iinc (i := 2) (k := 2) (lo' := [(2, _), (0, _), (1, _), (3, _), (4, _)]) hC d_M_last_92 rfl (nI_dec1 _) (by decide) rfl ?_
            refine g_goto (tgt := 2) hC d_M_last_95 (by decide) ?_
            refine g_los [1, 2, 0] rfl ?_
            refine ih t ⟨by omega, fun t' h1 h2 => ?_⟩ (Nat.lt_succ_self t)
            rcases (show t' = t ∨ t + 1 ≤ t' by omega) with rfl | q
            · intro hc
              exact (fun h => g42 ⟨h.1, fun o ho => h.2 o (by omega)⟩) ((cand_iff h1).mp hc)
            · exact hI.2 t' h1 q
          · have g87 := pb_1 (fun z => h87 ((hJ.2).trans z))
            refine g_iload_n (i := 2) hC d_M_last_90 rfl rfl ?_
            refine g_iret hC hr hlk d_M_last_91 (by decide) (by decide) (fun ad w hw => ?_)
            exact absurd h42 h87
        · have g42 := pb_1 (fun z => h42 ((hJ.2).trans z))
          refine g_aload_n (i := 0) hC d_M_last_45 rfl rfl (Or.inr ⟨_, rfl⟩) ?_
          refine g_iload (i := 4) hC d_M_last_46 rfl ?_
          refine g_calli hC (g_runV (q := 200) (As := [_]) (st := []) hC g_NOK_N (r_has l D S σ ad0 w0 i (by omega)) (t_cwV 1 hC.1.2.2.2.2 m_402 m_404 ms_15 m_6 k_M_has rfl rfl hd_M_has ⟨by decide, by decide⟩) r_this rfl rfl rfl (by decide) d_M_last_48 ⟨by decide, by decide⟩) (fun r48 => ?_)
          refine g_and (fun e48 => ?_)
          subst e48
          refine g_if_eqN (tgt := 74) hC d_M_last_51 (by decide) (by first | omega | exact r_lt hb _ _ | exact pb_le _) (fun h51 => ?_) (fun h51 => ?_)
          · have g51 := pb_0 h51
            refine g_iconst (v := nI 1) hC d_M_last_74 (by decide) ?_
            refine g_goto (tgt := 79) hC d_M_last_75 (by decide) ?_
            refine g_istore_n (i := 3) (lo' := [(3, _), (0, _), (1, _), (2, _), (4, _)]) hC d_M_last_79 rfl (by decide) rfl ?_
            refine g_iinc (i := 4) (k := 4) (lo' := [(4, _), (3, _), (0, _), (1, _), (2, _)]) hC d_M_last_80 rfl (nI_inc _) (by decide) rfl ?_
            refine g_goto (tgt := 34) hC d_M_last_83 (by decide) ?_
            refine g_los [2, 3, 4, 1, 0] rfl ?_
            exact ih2 (i + 1, 1) ⟨by omega, (pb_t ⟨g42.1, lt_s g42.2 (fun h => absurd h g51)⟩).symm⟩ (by dsimp only; omega)
          · have g51 := pb_1 h51
            refine g_aload_n (i := 0) hC d_M_last_54 rfl rfl (Or.inr ⟨_, rfl⟩) ?_
            refine g_get hC (fun x h => List.mem_cons_of_mem _ (in_M x h)) 200 r_this rfl 5 (by decide) (List.mem_cons_of_mem _ m_325) rfl rfl d_M_last_55 ?_
            refine g_iconst (v := nI 3) hC d_M_last_58 (by decide) ?_
            refine g_iload (i := 4) hC d_M_last_59 rfl ?_
            refine g_imulN hC d_M_last_61 ?_
            refine g_iload_n (i := 2) hC d_M_last_62 rfl rfl ?_
            refine g_iaddN hC d_M_last_63 ?_
            refine r_ld 5 hC (by decide) (by decide) rfl (fun _ => rfl) (by simp only [r_ln]; omega) d_M_last_64 ?_
            refine g_aload_n (i := 0) hC d_M_last_65 rfl rfl (Or.inr ⟨_, rfl⟩) ?_
            refine g_get hC (fun x h => List.mem_cons_of_mem _ (in_M x h)) 200 r_this rfl 14 (by decide) (List.mem_cons_of_mem _ m_334) rfl rfl d_M_last_66 ?_
            refine g_iload_n (i := 2) hC d_M_last_69 rfl rfl ?_
            refine r_ld 14 hC (by decide) (by decide) rfl (fun _ => rfl) (by simp only [r_ln]; omega) d_M_last_70 ?_
            refine g_icmp_geN (tgt := 78) hC d_M_last_71 (by decide) (by first | omega | exact r_lt hb _ _ | exact pb_le _) (by first | omega | exact r_lt hb _ _ | exact pb_le _) (fun h71 => ?_) (fun h71 => ?_)
            · refine g_iconst (v := nI 0) hC d_M_last_78 (by decide) ?_
              refine g_istore_n (i := 3) (lo' := [(3, _), (0, _), (1, _), (2, _), (4, _)]) hC d_M_last_79 rfl (by decide) rfl ?_
              refine g_iinc (i := 4) (k := 4) (lo' := [(4, _), (3, _), (0, _), (1, _), (2, _)]) hC d_M_last_80 rfl (nI_inc _) (by decide) rfl ?_
              refine g_goto (tgt := 34) hC d_M_last_83 (by decide) ?_
              refine g_los [2, 3, 4, 1, 0] rfl ?_
              exact ih2 (i + 1, 0) ⟨by omega, (pb_f (fun h9 => absurd (h9.2 i (Nat.lt_succ_self i) g51) (Nat.not_lt.mpr h71))).symm⟩ (by dsimp only; omega)
            · refine g_iconst (v := nI 1) hC d_M_last_74 (by decide) ?_
              refine g_goto (tgt := 79) hC d_M_last_75 (by decide) ?_
              refine g_istore_n (i := 3) (lo' := [(3, _), (0, _), (1, _), (2, _), (4, _)]) hC d_M_last_79 rfl (by decide) rfl ?_
              refine g_iinc (i := 4) (k := 4) (lo' := [(4, _), (3, _), (0, _), (1, _), (2, _)]) hC d_M_last_80 rfl (nI_inc _) (by decide) rfl ?_
              refine g_goto (tgt := 34) hC d_M_last_83 (by decide) ?_
              refine g_los [2, 3, 4, 1, 0] rfl ?_
              exact ih2 (i + 1, 1) ⟨by omega, (pb_t ⟨g42.1, lt_s g42.2 (fun _ => h71)⟩).symm⟩ (by dsimp only; omega)
    · refine g_iconst (v := nI 1) hC d_M_last_25 (by decide) ?_
      refine g_goto (tgt := 30) hC d_M_last_26 (by decide) ?_
      refine g_istore_n (i := 3) (lo' := [(3, _), (0, _), (1, _), (2, _)]) hC d_M_last_30 rfl (by decide) rfl ?_
      refine g_iconst (v := nI 0) hC d_M_last_31 (by decide) ?_
      refine g_istore (i := 4) (lo' := [(4, _), (3, _), (0, _), (1, _), (2, _)]) hC d_M_last_32 (by decide) rfl ?_
      refine g_los [2, 3, 4, 1, 0] (lo' := [(0, _), (1, _), (2, _), (3, _), (4, _)]) rfl ?_
      refine g_loop (ι := Nat × Nat) (pc0 := 34) (fun ⟨i, g⟩ => 18 - i) (fun ⟨i, g⟩ => i ≤ 18 ∧ g = pb (σ 5 (3 * x + t) < σ 14 t ∧ ∀ o, o < i → o % 6 < σ 14 (o / 6) → σ 5 (3 * o + t) < σ 14 t)) (fun ⟨i, g⟩ => RX S σ ad0 w0) (fun ⟨i, g⟩ => [(0, .ref (ad0 200)), (1, .int (nI x)), (2, .int (nI t)), (3, .int (nI g)), (4, .int (nI i))]) ?_ (0, 1) (⟨by omega, (pb_t ⟨h22, fun o ho => absurd ho (Nat.not_lt_zero o)⟩).symm⟩)
      rintro ⟨i, g⟩ hJ ih2
      try dsimp only at hJ ih2 ⊢
      refine g_iload (i := 4) hC d_M_last_34 rfl ?_
      refine g_bipush (v := nI 18) hC d_M_last_36 (by decide) ?_
      refine g_icmp_geN (tgt := 86) hC d_M_last_38 (by decide) (by first | omega | exact r_lt hb _ _ | exact pb_le _) (by first | omega | exact r_lt hb _ _ | exact pb_le _) (fun h38 => ?_) (fun h38 => ?_)
      · refine g_iload_n (i := 3) hC d_M_last_86 rfl rfl ?_
        refine g_if_eqN (tgt := 92) hC d_M_last_87 (by decide) (by rw [hJ.2]; exact pb_le _) (fun h87 => ?_) (fun h87 => ?_)
        · have g87 := pb_0 ((hJ.2).symm.trans h87)
          refine g_iinc (i := 2) (k := 2) (lo' := [(2, _), (0, _), (1, _), (3, _), (4, _)]) hC d_M_last_92 rfl (nI_dec1 _) (by decide) rfl ?_
          refine g_goto (tgt := 2) hC d_M_last_95 (by decide) ?_
          refine g_los [1, 2, 0] rfl ?_
          refine ih t ⟨by omega, fun t' h1 h2 => ?_⟩ (Nat.lt_succ_self t)
          rcases (show t' = t ∨ t + 1 ≤ t' by omega) with rfl | q
          · intro hc
            exact (fun h => g87 ⟨h.1, fun o ho => h.2 o (by omega)⟩) ((cand_iff h1).mp hc)
          · exact hI.2 t' h1 q
        · have g87 := pb_1 (fun z => h87 ((hJ.2).trans z))
          refine g_iload_n (i := 2) hC d_M_last_90 rfl rfl ?_
          refine g_iret hC hr hlk d_M_last_91 (by decide) (by decide) (fun ad w hw => ?_)
          exact ⟨Or.inr ⟨t, ht, rfl, (cand_iff ht).mpr (by
            have e : i = 18 := by omega
            subst e
            exact g87)⟩, hw⟩
      · refine g_iload_n (i := 3) hC d_M_last_41 rfl rfl ?_
        refine g_if_eqN (tgt := 86) hC d_M_last_42 (by decide) (by rw [hJ.2]; exact pb_le _) (fun h42 => ?_) (fun h42 => ?_)
        · have g42 := pb_0 ((hJ.2).symm.trans h42)
          refine g_iload_n (i := 3) hC d_M_last_86 rfl rfl ?_
          refine g_if_eqN (tgt := 92) hC d_M_last_87 (by decide) (by rw [hJ.2]; exact pb_le _) (fun h87 => ?_) (fun h87 => ?_)
          · have g87 := pb_0 ((hJ.2).symm.trans h87)
            refine g_iinc (i := 2) (k := 2) (lo' := [(2, _), (0, _), (1, _), (3, _), (4, _)]) hC d_M_last_92 rfl (nI_dec1 _) (by decide) rfl ?_
            refine g_goto (tgt := 2) hC d_M_last_95 (by decide) ?_
            refine g_los [1, 2, 0] rfl ?_
            refine ih t ⟨by omega, fun t' h1 h2 => ?_⟩ (Nat.lt_succ_self t)
            rcases (show t' = t ∨ t + 1 ≤ t' by omega) with rfl | q
            · intro hc
              exact (fun h => g42 ⟨h.1, fun o ho => h.2 o (by omega)⟩) ((cand_iff h1).mp hc)
            · exact hI.2 t' h1 q
          · have g87 := pb_1 (fun z => h87 ((hJ.2).trans z))
            refine g_iload_n (i := 2) hC d_M_last_90 rfl rfl ?_
            refine g_iret hC hr hlk d_M_last_91 (by decide) (by decide) (fun ad w hw => ?_)
            exact absurd h42 h87
        · have g42 := pb_1 (fun z => h42 ((hJ.2).trans z))
          refine g_aload_n (i := 0) hC d_M_last_45 rfl rfl (Or.inr ⟨_, rfl⟩) ?_
          refine g_iload (i := 4) hC d_M_last_46 rfl ?_
          refine g_calli hC (g_runV (q := 200) (As := [_]) (st := []) hC g_NOK_N (r_has l D S σ ad0 w0 i (by omega)) (t_cwV 1 hC.1.2.2.2.2 m_402 m_404 ms_15 m_6 k_M_has rfl rfl hd_M_has ⟨by decide, by decide⟩) r_this rfl rfl rfl (by decide) d_M_last_48 ⟨by decide, by decide⟩) (fun r48 => ?_)
          refine g_and (fun e48 => ?_)
          subst e48
          refine g_if_eqN (tgt := 74) hC d_M_last_51 (by decide) (by first | omega | exact r_lt hb _ _ | exact pb_le _) (fun h51 => ?_) (fun h51 => ?_)
          · have g51 := pb_0 h51
            refine g_iconst (v := nI 1) hC d_M_last_74 (by decide) ?_
            refine g_goto (tgt := 79) hC d_M_last_75 (by decide) ?_
            refine g_istore_n (i := 3) (lo' := [(3, _), (0, _), (1, _), (2, _), (4, _)]) hC d_M_last_79 rfl (by decide) rfl ?_
            refine g_iinc (i := 4) (k := 4) (lo' := [(4, _), (3, _), (0, _), (1, _), (2, _)]) hC d_M_last_80 rfl (nI_inc _) (by decide) rfl ?_
            refine g_goto (tgt := 34) hC d_M_last_83 (by decide) ?_
            refine g_los [2, 3, 4, 1, 0] rfl ?_
            exact ih2 (i + 1, 1) ⟨by omega, (pb_t ⟨g42.1, lt_s g42.2 (fun h => absurd h g51)⟩).symm⟩ (by dsimp only; omega)
          · have g51 := pb_1 h51
            refine g_aload_n (i := 0) hC d_M_last_54 rfl rfl (Or.inr ⟨_, rfl⟩) ?_
            refine g_get hC (fun x h => List.mem_cons_of_mem _ (in_M x h)) 200 r_this rfl 5 (by decide) (List.mem_cons_of_mem _ m_325) rfl rfl d_M_last_55 ?_
            refine g_iconst (v := nI 3) hC d_M_last_58 (by decide) ?_
            refine g_iload (i := 4) hC d_M_last_59 rfl ?_
            refine g_imulN hC d_M_last_61 ?_
            refine g_iload_n (i := 2) hC d_M_last_62 rfl rfl ?_
            refine g_iaddN hC d_M_last_63 ?_
            refine r_ld 5 hC (by decide) (by decide) rfl (fun _ => rfl) (by simp only [r_ln]; omega) d_M_last_64 ?_
            refine g_aload_n (i := 0) hC d_M_last_65 rfl rfl (Or.inr ⟨_, rfl⟩) ?_
            refine g_get hC (fun x h => List.mem_cons_of_mem _ (in_M x h)) 200 r_this rfl 14 (by decide) (List.mem_cons_of_mem _ m_334) rfl rfl d_M_last_66 ?_
            refine g_iload_n (i := 2) hC d_M_last_69 rfl rfl ?_
            refine r_ld 14 hC (by decide) (by decide) rfl (fun _ => rfl) (by simp only [r_ln]; omega) d_M_last_70 ?_
            refine g_icmp_geN (tgt := 78) hC d_M_last_71 (by decide) (by first | omega | exact r_lt hb _ _ | exact pb_le _) (by first | omega | exact r_lt hb _ _ | exact pb_le _) (fun h71 => ?_) (fun h71 => ?_)
            · refine g_iconst (v := nI 0) hC d_M_last_78 (by decide) ?_
              refine g_istore_n (i := 3) (lo' := [(3, _), (0, _), (1, _), (2, _), (4, _)]) hC d_M_last_79 rfl (by decide) rfl ?_
              refine g_iinc (i := 4) (k := 4) (lo' := [(4, _), (3, _), (0, _), (1, _), (2, _)]) hC d_M_last_80 rfl (nI_inc _) (by decide) rfl ?_
              refine g_goto (tgt := 34) hC d_M_last_83 (by decide) ?_
              refine g_los [2, 3, 4, 1, 0] rfl ?_
              exact ih2 (i + 1, 0) ⟨by omega, (pb_f (fun h9 => absurd (h9.2 i (Nat.lt_succ_self i) g51) (Nat.not_lt.mpr h71))).symm⟩ (by dsimp only; omega)
            · refine g_iconst (v := nI 1) hC d_M_last_74 (by decide) ?_
              refine g_goto (tgt := 79) hC d_M_last_75 (by decide) ?_
              refine g_istore_n (i := 3) (lo' := [(3, _), (0, _), (1, _), (2, _), (4, _)]) hC d_M_last_79 rfl (by decide) rfl ?_
              refine g_iinc (i := 4) (k := 4) (lo' := [(4, _), (3, _), (0, _), (1, _), (2, _)]) hC d_M_last_80 rfl (nI_inc _) (by decide) rfl ?_
              refine g_goto (tgt := 34) hC d_M_last_83 (by decide) ?_
              refine g_los [2, 3, 4, 1, 0] rfl ?_
              exact ih2 (i + 1, 1) ⟨by omega, (pb_t ⟨g42.1, lt_s g42.2 (fun _ => h71)⟩).symm⟩ (by dsimp only; omega)
end
section
def mvi (v : Nat → Nat) : Nat := v 0 + 7 * v 1 + 49 * v 2
theorem u2_u2 {σ : rS} {k j a b : Nat} (h : b = σ k j) : u2 (u2 σ k j a) k j b = σ := by
  funext k' j'
  unfold u2
  split
  · rename_i q
    rw [q.1, q.2, h]
  · rfl
theorem mvi_nw {σ : rS} : mvi (s_nw σ) = σ 14 0 + 7 * σ 14 1 + 49 * σ 14 2 := rfl
theorem mvi_dn {σ : rS} {t : Nat} (ht : t < 3) : u2 σ 14 t (σ 14 t - 1) 14 0 + 7 * u2 σ 14 t (σ 14 t - 1) 14 1 + 49 * u2 σ 14 t (σ 14 t - 1) 14 2 = mvi (md (s_nw σ) t) := by
  unfold mvi md
  rw [u2_in, u2_in, u2_in, s_nw_lt (t := 0) (by omega), s_nw_lt (t := 1) (by omega), s_nw_lt (t := 2) (by omega)]
  rcases (show t = 0 ∨ t = 1 ∨ t = 2 by omega) with rfl | rfl | rfl <;> simp
theorem mvi_le {v : Nat → Nat} (h : ∀ t, v t ≤ 6) : mvi v ≤ 342 := by
  unfold mvi
  have := h 0
  have := h 1
  have := h 2
  omega
/-- what settle(x) finds in its row of places -/
def SOK (σ : rS) (x : Nat) (v : Nat → Nat) : Prop := ∀ t, t < 3 → mcand (s_cx σ) x v t → σ 13 (343 * x + mvi (md v t)) = s_pl σ x (md v t) ∧ (σ 2 (mtop v t) ≠ 0 → σ 13 (343 * mtop v t + mvi (md v t)) = s_pl σ (mtop v t) (md v t))
set_option maxRecDepth 100000 in
set_option maxHeartbeats 4000000 in
theorem r_settle (l : Launch) (D : va_G) (S : Nat) (σ : rS) (ad0 : Nat → Nat) (w0 : gW) (x : Nat) (hx : x < 18) (hi : σ 2 x ≠ 0) (h6 : ∀ t, s_nw σ t ≤ 6) (hH : MH (s_mk σ) (s_cx σ)) (hM : MC (s_mk σ) (s_cx σ) (s_nw σ)) (hX : MX (s_mk σ) (s_cx σ) x (s_nw σ)) (hP : SOK σ x (s_nw σ)) (hB : s_pl σ x (s_nw σ) < 1000) : g_M l y_M_settle w_M_settle (rk 2) D gCl g_N [.ref (ad0 200), .int (nI x)] (RX S σ ad0 w0) 0 0 (fun A => g_Qv D gCl A (fun ad w => RX S (u2 σ 13 (343 * x + mvi (s_nw σ)) (s_pl σ x (s_nw σ))) ad0 w0 ad w)) := by
  refine g_of (cc := c_M_settle) (nL := 5) (ret := none) (by decide) rfl (Nat.le_of_ble_eq_true rfl) ?_
  intro pp ee ss mm bb me cc A hC hr hlk hnm
  refine g_los [0, 1] (lo' := [(0, .ref (ad0 200)), (1, .int (nI x))]) rfl ?_
  refine g_pure r_bl_of (fun hb => ?_)
  refine g_aload_n (i := 0) hC d_M_settle_0 rfl rfl (Or.inr ⟨_, rfl⟩) ?_
  refine g_iload_n (i := 1) hC d_M_settle_1 rfl rfl ?_
  refine g_calli hC (g_runV (q := 200) (As := [_]) (st := []) hC g_NOK_N (r_last l D S σ ad0 w0 x hx) (t_cwV 1 hC.1.2.2.2.2 m_414 m_416 ms_18 m_6 k_M_last rfl rfl hd_M_last ⟨by decide, by decide⟩) r_this rfl rfl rfl (Nat.le_of_ble_eq_true rfl) d_M_settle_2 ⟨by decide, by decide⟩) (fun r2 => ?_)
  refine g_and (fun e2 => ?_)
  rcases e2 with ⟨rfl, hn⟩ | ⟨t, ht, rfl, hc⟩
  · have hval : σ 3 x = s_pl σ x (s_nw σ) := (mplace_none (mf_not hn)).symm
    refine g_istore_n (i := 2) (lo' := [(2, _), (0, _), (1, _)]) hC d_M_settle_5 rfl (by decide) rfl ?_
    refine g_aload_n (i := 0) hC d_M_settle_6 rfl rfl (Or.inr ⟨_, rfl⟩) ?_
    refine g_get hC (fun x h => List.mem_cons_of_mem _ (in_M x h)) 200 r_this rfl 3 (by decide) (List.mem_cons_of_mem _ m_323) rfl rfl d_M_settle_7 ?_
    refine g_iload_n (i := 1) hC d_M_settle_10 rfl rfl ?_
    refine r_ld 3 hC (by decide) (by decide) rfl (fun _ => rfl) (by simp only [r_ln]; omega) d_M_settle_11 ?_
    refine g_istore_n (i := 3) (lo' := [(3, _), (2, _), (0, _), (1, _)]) hC d_M_settle_12 rfl (by decide) rfl ?_
    refine g_iload_n (i := 2) hC d_M_settle_13 rfl rfl ?_
    refine g_if_lt (tgt := 103) hC d_M_settle_14 (by decide) (fun h14 => ?_) (fun h14 => ?_)
    · refine g_aload_n (i := 0) hC d_M_settle_103 rfl rfl (Or.inr ⟨_, rfl⟩) ?_
      refine g_get hC (fun x h => List.mem_cons_of_mem _ (in_M x h)) 200 r_this rfl 13 (by decide) (List.mem_cons_of_mem _ m_333) rfl rfl d_M_settle_104 ?_
      refine g_aload_n (i := 0) hC d_M_settle_107 rfl rfl (Or.inr ⟨_, rfl⟩) ?_
      refine g_iload_n (i := 1) hC d_M_settle_108 rfl rfl ?_
      refine g_calli hC (g_runV (q := 200) (As := [_]) (st := [_]) hC g_NOK_N (r_index l D S σ ad0 w0 x hx) (t_cwV 1 hC.1.2.2.2.2 m_418 m_420 ms_19 m_6 k_M_index rfl rfl hd_M_index ⟨by decide, by decide⟩) r_this rfl rfl rfl (Nat.le_of_ble_eq_true rfl) d_M_settle_109 ⟨by decide, by decide⟩) (fun r109 => ?_)
      refine g_and (fun e109 => ?_)
      rw [Nat.add_assoc, Nat.add_assoc, ← Nat.add_assoc (σ 14 0), ← mvi_nw] at e109
      subst e109
      refine g_iload_n (i := 3) hC d_M_settle_112 rfl rfl ?_
      refine r_st 13 hC (by decide) (by decide) rfl (fun _ => rfl) (by decide) (by rw [hval]; exact hB) (by have := mvi_le h6; simp only [r_ln]; omega) d_M_settle_113 ?_
      refine g_vret hC hr hlk d_M_settle_114 (by decide) (by decide) (fun ad w hw => ?_)
      rw [← hval]
      exact hw
    · exact absurd (by decide +kernel) h14
  · have h60 := h6 0
    have h61 := h6 1
    have h62 := h6 2
    rw [s_nw_lt (by omega)] at h60 h61 h62
    have h6t := h6 t
    rw [s_nw_lt ht] at h6t
    have hpos := hc.2.2.1
    rw [s_nw_lt ht] at hpos
    have hye : 6 * t + σ 14 t - 1 = mtop (s_nw σ) t := by
      unfold mtop
      rw [s_nw_lt ht]
      omega
    have hyd : (6 * t + σ 14 t - 1) / 6 = t := by omega
    obtain ⟨hP1, hP2⟩ := hP t ht hc
    have hvi := mvi_le (v := md (s_nw σ) t) (fun j => by
      have := h6 j
      unfold md
      split <;> omega)
    have hpl : s_pl σ x (s_nw σ) = mmv (σ 2 x) (x / 6) (s_pl σ x (md (s_nw σ) t)) (σ 2 (mtop (s_nw σ) t)) t (s_pl σ (mtop (s_nw σ) t) (md (s_nw σ) t)) := mplace_any (ins := σ 2) (pos := σ 3) hH _ (s_nw σ) x t rfl hM hX hc
    rw [← hye] at hP2 hpl
    have hx1 : σ 2 x = 1 := by
      have := (hb 2 x).2 (by decide)
      omega
    refine g_istore_n (i := 2) (lo' := [(2, _), (0, _), (1, _)]) hC d_M_settle_5 rfl (by decide) rfl ?_
    refine g_aload_n (i := 0) hC d_M_settle_6 rfl rfl (Or.inr ⟨_, rfl⟩) ?_
    refine g_get hC (fun x h => List.mem_cons_of_mem _ (in_M x h)) 200 r_this rfl 3 (by decide) (List.mem_cons_of_mem _ m_323) rfl rfl d_M_settle_7 ?_
    refine g_iload_n (i := 1) hC d_M_settle_10 rfl rfl ?_
    refine r_ld 3 hC (by decide) (by decide) rfl (fun _ => rfl) (by simp only [r_ln]; omega) d_M_settle_11 ?_
    refine g_istore_n (i := 3) (lo' := [(3, _), (2, _), (0, _), (1, _)]) hC d_M_settle_12 rfl (by decide) rfl ?_
    refine g_iload_n (i := 2) hC d_M_settle_13 rfl rfl ?_
    refine g_if_ltN (tgt := 103) hC d_M_settle_14 (by decide) (by first | omega | exact r_lt hb _ _ | exact pb_le _) ?_
    refine g_bipush (v := nI 6) hC d_M_settle_17 (by decide) ?_
    refine g_iload_n (i := 2) hC d_M_settle_19 rfl rfl ?_
    refine g_imulN hC d_M_settle_20 ?_
    refine g_aload_n (i := 0) hC d_M_settle_21 rfl rfl (Or.inr ⟨_, rfl⟩) ?_
    refine g_get hC (fun x h => List.mem_cons_of_mem _ (in_M x h)) 200 r_this rfl 14 (by decide) (List.mem_cons_of_mem _ m_334) rfl rfl d_M_settle_22 ?_
    refine g_iload_n (i := 2) hC d_M_settle_25 rfl rfl ?_
    refine r_ld 14 hC (by decide) (by decide) rfl (fun _ => rfl) (by simp only [r_ln]; omega) d_M_settle_26 ?_
    refine g_iaddN hC d_M_settle_27 ?_
    refine g_iconst (v := nI 1) hC d_M_settle_28 (by decide) ?_
    refine g_isubN hC d_M_settle_29 (by omega) ?_
    refine g_istore (i := 4) (lo' := [(4, _), (3, _), (2, _), (0, _), (1, _)]) hC d_M_settle_30 (by decide) rfl ?_
    refine g_aload_n (i := 0) hC d_M_settle_32 rfl rfl (Or.inr ⟨_, rfl⟩) ?_
    refine g_get hC (fun x h => List.mem_cons_of_mem _ (in_M x h)) 200 r_this rfl 14 (by decide) (List.mem_cons_of_mem _ m_334) rfl rfl d_M_settle_33 ?_
    refine g_iload_n (i := 2) hC d_M_settle_36 rfl rfl ?_
    refine g_dup2 hC d_M_settle_37 rfl rfl ?_
    refine r_ld 14 hC (by decide) (by decide) rfl (fun _ => rfl) (by simp only [r_ln]; omega) d_M_settle_38 ?_
    refine g_iconst (v := nI 1) hC d_M_settle_39 (by decide) ?_
    refine g_isubN hC d_M_settle_40 (by omega) ?_
    refine r_st 14 hC (by decide) (by decide) rfl (fun _ => rfl) (by decide) (by omega) (by simp only [r_ln]; omega) d_M_settle_41 ?_
    refine g_pure r_bl_of (fun hb1 => ?_)
    refine g_aload_n (i := 0) hC d_M_settle_42 rfl rfl (Or.inr ⟨_, rfl⟩) ?_
    refine g_get hC (fun x h => List.mem_cons_of_mem _ (in_M x h)) 200 r_this rfl 2 (by decide) (List.mem_cons_of_mem _ m_322) rfl rfl d_M_settle_43 ?_
    refine g_iload (i := 4) hC d_M_settle_46 rfl ?_
    refine r_zld 2 hC (by decide) (by decide) rfl (fun _ => rfl) (by simp only [r_ln]; omega) d_M_settle_48 ?_
    rw [u2_ne (a := 2) (by decide)]
    refine g_if_eqN (tgt := 82) hC d_M_settle_49 (by decide) (by first | omega | exact r_lt hb _ _ | exact pb_le _) (fun h49 => ?_) (fun h49 => ?_)
    · refine g_aload_n (i := 0) hC d_M_settle_82 rfl rfl (Or.inr ⟨_, rfl⟩) ?_
      refine g_get hC (fun x h => List.mem_cons_of_mem _ (in_M x h)) 200 r_this rfl 13 (by decide) (List.mem_cons_of_mem _ m_333) rfl rfl d_M_settle_83 ?_
      refine g_aload_n (i := 0) hC d_M_settle_86 rfl rfl (Or.inr ⟨_, rfl⟩) ?_
      refine g_iload_n (i := 1) hC d_M_settle_87 rfl rfl ?_
      refine g_calli hC (g_runV (q := 200) (As := [_]) (st := [_]) hC g_NOK_N (r_index l D S (u2 σ 14 t (σ 14 t - 1)) ad0 w0 x hx) (t_cwV 1 hC.1.2.2.2.2 m_418 m_420 ms_19 m_6 k_M_index rfl rfl hd_M_index ⟨by decide, by decide⟩) r_this rfl rfl rfl (Nat.le_of_ble_eq_true rfl) d_M_settle_88 ⟨by decide, by decide⟩) (fun r88 => ?_)
      refine g_and (fun e => ?_)
      rw [Nat.add_assoc, Nat.add_assoc, ← Nat.add_assoc (u2 σ 14 t (σ 14 t - 1) 14 0), mvi_dn ht] at e
      subst e
      refine r_ld 13 hC (by decide) (by decide) rfl (fun _ => rfl) (by simp only [r_ln]; omega) d_M_settle_91 ?_
      rw [u2_ne (a := 13) (by decide), hP1]
      have hval : s_pl σ x (md (s_nw σ) t) = s_pl σ x (s_nw σ) := by
        rw [hpl, mmv_0 h49]
      refine g_istore_n (i := 3) (lo' := [(3, _), (4, _), (2, _), (0, _), (1, _)]) hC d_M_settle_92 rfl (by decide) rfl ?_
      refine g_aload_n (i := 0) hC d_M_settle_93 rfl rfl (Or.inr ⟨_, rfl⟩) ?_
      refine g_get hC (fun x h => List.mem_cons_of_mem _ (in_M x h)) 200 r_this rfl 14 (by decide) (List.mem_cons_of_mem _ m_334) rfl rfl d_M_settle_94 ?_
      refine g_iload_n (i := 2) hC d_M_settle_97 rfl rfl ?_
      refine g_dup2 hC d_M_settle_98 rfl rfl ?_
      refine r_ld 14 hC (by decide) (by decide) rfl (fun _ => rfl) (by simp only [r_ln]; omega) d_M_settle_99 ?_
      refine g_iconst (v := nI 1) hC d_M_settle_100 (by decide) ?_
      refine g_iaddN hC d_M_settle_101 ?_
      refine r_st 14 hC (by decide) (by decide) rfl (fun _ => rfl) (by decide) (by rw [u2_self]; omega) (by simp only [r_ln]; omega) d_M_settle_102 ?_
      have e93 : u2 (u2 σ 14 t (σ 14 t - 1)) 14 t (u2 σ 14 t (σ 14 t - 1) 14 t + 1) = σ := u2_u2 (by rw [u2_self]; omega)
      rw [e93]
      refine g_aload_n (i := 0) hC d_M_settle_103 rfl rfl (Or.inr ⟨_, rfl⟩) ?_
      refine g_get hC (fun x h => List.mem_cons_of_mem _ (in_M x h)) 200 r_this rfl 13 (by decide) (List.mem_cons_of_mem _ m_333) rfl rfl d_M_settle_104 ?_
      refine g_aload_n (i := 0) hC d_M_settle_107 rfl rfl (Or.inr ⟨_, rfl⟩) ?_
      refine g_iload_n (i := 1) hC d_M_settle_108 rfl rfl ?_
      refine g_calli hC (g_runV (q := 200) (As := [_]) (st := [_]) hC g_NOK_N (r_index l D S σ ad0 w0 x hx) (t_cwV 1 hC.1.2.2.2.2 m_418 m_420 ms_19 m_6 k_M_index rfl rfl hd_M_index ⟨by decide, by decide⟩) r_this rfl rfl rfl (Nat.le_of_ble_eq_true rfl) d_M_settle_109 ⟨by decide, by decide⟩) (fun r109 => ?_)
      refine g_and (fun e109 => ?_)
      rw [Nat.add_assoc, Nat.add_assoc, ← Nat.add_assoc (σ 14 0), ← mvi_nw] at e109
      subst e109
      refine g_iload_n (i := 3) hC d_M_settle_112 rfl rfl ?_
      refine r_st 13 hC (by decide) (by decide) rfl (fun _ => rfl) (by decide) (by rw [hval]; exact hB) (by have := mvi_le h6; simp only [r_ln]; omega) d_M_settle_113 ?_
      refine g_vret hC hr hlk d_M_settle_114 (by decide) (by decide) (fun ad w hw => ?_)
      rw [← hval]
      exact hw
    · refine g_iload_n (i := 1) hC d_M_settle_52 rfl rfl ?_
      refine g_aload_n (i := 0) hC d_M_settle_53 rfl rfl (Or.inr ⟨_, rfl⟩) ?_
      refine g_get hC (fun x h => List.mem_cons_of_mem _ (in_M x h)) 200 r_this rfl 13 (by decide) (List.mem_cons_of_mem _ m_333) rfl rfl d_M_settle_54 ?_
      refine g_aload_n (i := 0) hC d_M_settle_57 rfl rfl (Or.inr ⟨_, rfl⟩) ?_
      refine g_iload_n (i := 1) hC d_M_settle_58 rfl rfl ?_
      refine g_calli hC (g_runV (q := 200) (As := [_]) (st := [_, _]) hC g_NOK_N (r_index l D S (u2 σ 14 t (σ 14 t - 1)) ad0 w0 x hx) (t_cwV 1 hC.1.2.2.2.2 m_418 m_420 ms_19 m_6 k_M_index rfl rfl hd_M_index ⟨by decide, by decide⟩) r_this rfl rfl rfl (Nat.le_of_ble_eq_true rfl) d_M_settle_59 ⟨by decide, by decide⟩) (fun r59 => ?_)
      refine g_and (fun e => ?_)
      rw [Nat.add_assoc, Nat.add_assoc, ← Nat.add_assoc (u2 σ 14 t (σ 14 t - 1) 14 0), mvi_dn ht] at e
      subst e
      refine r_ld 13 hC (by decide) (by decide) rfl (fun _ => rfl) (by simp only [r_ln]; omega) d_M_settle_62 ?_
      rw [u2_ne (a := 13) (by decide), hP1]
      refine g_iload (i := 4) hC d_M_settle_63 rfl ?_
      refine g_aload_n (i := 0) hC d_M_settle_65 rfl rfl (Or.inr ⟨_, rfl⟩) ?_
      refine g_get hC (fun x h => List.mem_cons_of_mem _ (in_M x h)) 200 r_this rfl 13 (by decide) (List.mem_cons_of_mem _ m_333) rfl rfl d_M_settle_66 ?_
      refine g_aload_n (i := 0) hC d_M_settle_69 rfl rfl (Or.inr ⟨_, rfl⟩) ?_
      refine g_iload (i := 4) hC d_M_settle_70 rfl ?_
      refine g_calli hC (g_runV (q := 200) (As := [_]) (st := [_, _, _, _]) hC g_NOK_N (r_index l D S (u2 σ 14 t (σ 14 t - 1)) ad0 w0 (6 * t + σ 14 t - 1) (by omega)) (t_cwV 1 hC.1.2.2.2.2 m_418 m_420 ms_19 m_6 k_M_index rfl rfl hd_M_index ⟨by decide, by decide⟩) r_this rfl rfl rfl (Nat.le_of_ble_eq_true rfl) d_M_settle_72 ⟨by decide, by decide⟩) (fun r72 => ?_)
      refine g_and (fun e => ?_)
      rw [Nat.add_assoc, Nat.add_assoc, ← Nat.add_assoc (u2 σ 14 t (σ 14 t - 1) 14 0), mvi_dn ht] at e
      subst e
      refine r_ld 13 hC (by decide) (by decide) rfl (fun _ => rfl) (by simp only [r_ln]; omega) d_M_settle_75 ?_
      rw [u2_ne (a := 13) (by decide), hP2 h49]
      refine g_calli hC (g_runS (As := [_, _, _, _]) (st := []) hC g_NOK_N (r_moved l D S (u2 σ 14 t (σ 14 t - 1)) ad0 w0 x (s_pl σ x (md (s_nw σ) t)) (6 * t + σ 14 t - 1) (s_pl σ (6 * t + σ 14 t - 1) (md (s_nw σ) t)) hx (hP1 ▸ r_lt1 hb _ _) (by omega) (hP2 h49 ▸ r_lt1 hb _ _)) (t_cwS 4 hC.1.2.2.2.2 m_422 m_423 m_6 k_M_moved rfl rfl hd_M_moved ⟨by decide, by decide⟩) rfl rfl (Nat.le_of_ble_eq_true rfl) d_M_settle_76 ⟨by decide, by decide⟩) (fun r76 => ?_)
      refine g_and (fun e76 => ?_)
      subst e76
      refine g_goto (tgt := 92) hC d_M_settle_79 (by decide) ?_
      have hval : mmv 1 (x / 6) (s_pl σ x (md (s_nw σ) t)) 1 ((6 * t + σ 14 t - 1) / 6) (s_pl σ (6 * t + σ 14 t - 1) (md (s_nw σ) t)) = s_pl σ x (s_nw σ) := by
        rw [hpl, hx1, hyd]
        have := (hb 2 (6 * t + σ 14 t - 1)).2 (by decide)
        rw [show σ 2 (6 * t + σ 14 t - 1) = 1 by omega]
      refine g_istore_n (i := 3) (lo' := [(3, _), (4, _), (2, _), (0, _), (1, _)]) hC d_M_settle_92 rfl (by decide) rfl ?_
      refine g_aload_n (i := 0) hC d_M_settle_93 rfl rfl (Or.inr ⟨_, rfl⟩) ?_
      refine g_get hC (fun x h => List.mem_cons_of_mem _ (in_M x h)) 200 r_this rfl 14 (by decide) (List.mem_cons_of_mem _ m_334) rfl rfl d_M_settle_94 ?_
      refine g_iload_n (i := 2) hC d_M_settle_97 rfl rfl ?_
      refine g_dup2 hC d_M_settle_98 rfl rfl ?_
      refine r_ld 14 hC (by decide) (by decide) rfl (fun _ => rfl) (by simp only [r_ln]; omega) d_M_settle_99 ?_
      refine g_iconst (v := nI 1) hC d_M_settle_100 (by decide) ?_
      refine g_iaddN hC d_M_settle_101 ?_
      refine r_st 14 hC (by decide) (by decide) rfl (fun _ => rfl) (by decide) (by rw [u2_self]; omega) (by simp only [r_ln]; omega) d_M_settle_102 ?_
      have e93 : u2 (u2 σ 14 t (σ 14 t - 1)) 14 t (u2 σ 14 t (σ 14 t - 1) 14 t + 1) = σ := u2_u2 (by rw [u2_self]; omega)
      rw [e93]
      refine g_aload_n (i := 0) hC d_M_settle_103 rfl rfl (Or.inr ⟨_, rfl⟩) ?_
      refine g_get hC (fun x h => List.mem_cons_of_mem _ (in_M x h)) 200 r_this rfl 13 (by decide) (List.mem_cons_of_mem _ m_333) rfl rfl d_M_settle_104 ?_
      refine g_aload_n (i := 0) hC d_M_settle_107 rfl rfl (Or.inr ⟨_, rfl⟩) ?_
      refine g_iload_n (i := 1) hC d_M_settle_108 rfl rfl ?_
      refine g_calli hC (g_runV (q := 200) (As := [_]) (st := [_]) hC g_NOK_N (r_index l D S σ ad0 w0 x hx) (t_cwV 1 hC.1.2.2.2.2 m_418 m_420 ms_19 m_6 k_M_index rfl rfl hd_M_index ⟨by decide, by decide⟩) r_this rfl rfl rfl (Nat.le_of_ble_eq_true rfl) d_M_settle_109 ⟨by decide, by decide⟩) (fun r109 => ?_)
      refine g_and (fun e109 => ?_)
      rw [Nat.add_assoc, Nat.add_assoc, ← Nat.add_assoc (σ 14 0), ← mvi_nw] at e109
      subst e109
      refine g_iload_n (i := 3) hC d_M_settle_112 rfl rfl ?_
      refine r_st 13 hC (by decide) (by decide) rfl (fun _ => rfl) (by decide) (by rw [hval]; exact hB) (by have := mvi_le h6; simp only [r_ln]; omega) d_M_settle_113 ?_
      refine g_vret hC hr hlk d_M_settle_114 (by decide) (by decide) (fun ad w hw => ?_)
      rw [← hval]
      exact hw
end
section
/-- the same but for the scratch rows -/
def E12 (σ σ' : rS) : Prop := ∀ k, k ≠ 13 → k ≠ 14 → σ' k = σ k
theorem E12.cx {σ σ' : rS} (h : E12 σ σ') : s_cx σ' = s_cx σ := by
  funext o t
  unfold s_cx
  rw [h 5 (by omega) (by omega)]
theorem E12.mk {σ σ' : rS} (h : E12 σ σ') : s_mk σ' = s_mk σ := by
  funext t
  unfold s_mk
  rw [h 1 (by omega) (by omega)]
theorem E12.vc {σ σ' : rS} (h : E12 σ σ') : s_vc σ' = s_vc σ := by
  funext o t
  unfold s_vc
  rw [h 8 (by omega) (by omega)]
theorem E12.pl {σ σ' : rS} (h : E12 σ σ') : s_pl σ' = s_pl σ := by
  funext o v
  unfold s_pl
  rw [h.cx, h 2 (by omega) (by omega), h 3 (by omega) (by omega)]
theorem E12.row {σ σ' : rS} (h : E12 σ σ') : s_row σ' = s_row σ := by
  funext v
  unfold s_row
  rw [h.cx, h 2 (by omega) (by omega), h 3 (by omega) (by omega)]
theorem E12.refl (σ : rS) : E12 σ σ := fun _ _ _ => rfl
theorem E12.trans {σ σ' σ2 : rS} (h : E12 σ σ') (h' : E12 σ' σ2) : E12 σ σ2 := fun k h1 h2 => (h' k h1 h2).trans (h k h1 h2)
theorem E12.u2 {σ σ' : rS} (h : E12 σ σ') {k j x : Nat} (hk : k = 13 ∨ k = 14) : E12 σ (u2 σ' k j x) := fun k' h1 h2 => (u2_ne (by omega)).trans (h k' h1 h2)
/-! vectors by their numbers -/
def cdx (A B : Nat) (u : Nat → Nat) : Nat := u 0 + A * (u 1 + B * u 2)
theorem cdx_dig {A B : Nat} {u : Nat → Nat} (h0 : u 0 < A) (h1 : u 1 < B) : cdx A B u % A = u 0 ∧ cdx A B u / A % B = u 1 ∧ cdx A B u / A / B = u 2 := by
  unfold cdx
  have hA : 0 < A := by omega
  have hB : 0 < B := by omega
  have e : (u 0 + A * (u 1 + B * u 2)) / A = u 1 + B * u 2 := by
    rw [Nat.add_mul_div_left _ _ hA, Nat.div_eq_of_lt h0, Nat.zero_add]
  refine ⟨?_, ?_, ?_⟩
  · rw [Nat.add_mul_mod_self_left, Nat.mod_eq_of_lt h0]
  · rw [e, Nat.add_mul_mod_self_left, Nat.mod_eq_of_lt h1]
  · rw [e, Nat.add_mul_div_left _ _ hB, Nat.div_eq_of_lt h1, Nat.zero_add]
theorem cdx_lt {A B C : Nat} {u : Nat → Nat} (h0 : u 0 < A) (h1 : u 1 < B) (h2 : u 2 < C) : cdx A B u < A * B * C := by
  unfold cdx
  have e1 : u 1 + B * u 2 + 1 ≤ B * C := by
    have : B * (u 2 + 1) ≤ B * C := Nat.mul_le_mul_left B h2
    rw [Nat.mul_add] at this
    omega
  have e2 : A * (u 1 + B * u 2 + 1) ≤ A * (B * C) := Nat.mul_le_mul_left A e1
  rw [Nat.mul_add, ← Nat.mul_assoc A B C] at e2
  omega
/-- the digits of w -/
def dgw (A B w : Nat) : Nat → Nat := fun t => if t = 0 then w % A else if t = 1 then w / A % B else if t = 2 then w / A / B else 0
theorem dgw_cdx {A B w : Nat} : cdx A B (dgw A B w) = w := by
  show w % A + A * (w / A % B + B * (w / A / B)) = w
  rw [Nat.mod_add_div (w / A) B, Nat.mod_add_div w A]
theorem dgw_of {A B w : Nat} {u : Nat → Nat} (h0 : u 0 < A) (h1 : u 1 < B) (h3 : ∀ t, 3 ≤ t → u t = 0) (hw : cdx A B u = w) : u = dgw A B w := by
  obtain ⟨a, b, c⟩ := cdx_dig h0 h1
  rw [hw] at a b c
  funext t
  unfold dgw
  by_cases t0 : t = 0
  · rw [if_pos t0, t0, a]
  · rw [if_neg t0]
    by_cases t1 : t = 1
    · rw [if_pos t1, t1, b]
    · rw [if_neg t1]
      by_cases t2 : t = 2
      · rw [if_pos t2, t2, c]
      · rw [if_neg t2, h3 t (by omega)]
theorem dgw_lt {A B C w : Nat} (hA : 0 < A) (hB : 0 < B) (hw : w < A * B * C) : dgw A B w 0 < A ∧ dgw A B w 1 < B ∧ dgw A B w 2 < C := by
  refine ⟨Nat.mod_lt _ hA, Nat.mod_lt _ hB, ?_⟩
  show w / A / B < C
  rw [Nat.mul_assoc] at hw
  exact Nat.div_lt_of_lt_mul (Nat.div_lt_of_lt_mul hw)
theorem cdx_md {A B : Nat} {u : Nat → Nat} {t : Nat} (hA : 0 < A) (hB : 0 < B) (ht : t < 3) (h0 : 0 < u t) : cdx A B (md u t) < cdx A B u := by
  unfold cdx
  rcases (show t = 0 ∨ t = 1 ∨ t = 2 by omega) with rfl | rfl | rfl
  · rw [md_self, md_ne (by omega), md_ne (by omega)]
    omega
  · rw [md_self, md_ne (by omega), md_ne (by omega)]
    have : A * (u 1 - 1 + B * u 2) < A * (u 1 + B * u 2) := Nat.mul_lt_mul_of_pos_left (by omega) hA
    omega
  · rw [md_self, md_ne (by omega), md_ne (by omega)]
    have h1 : B * (u 2 - 1) < B * u 2 := Nat.mul_lt_mul_of_pos_left (by omega) hB
    have : A * (u 1 + B * (u 2 - 1)) < A * (u 1 + B * u 2) := Nat.mul_lt_mul_of_pos_left (by omega) hA
    omega
theorem mvi_inj {u v : Nat → Nat} (hu : ∀ t, u t ≤ 6) (hv : ∀ t, v t ≤ 6) (hu3 : ∀ t, 3 ≤ t → u t = 0) (hv3 : ∀ t, 3 ≤ t → v t = 0) {o o' : Nat} (h : 343 * o + mvi u = 343 * o' + mvi v) : o = o' ∧ u = v := by
  have a0 := hu 0
  have a1 := hu 1
  have a2 := hu 2
  have b0 := hv 0
  have b1 := hv 1
  have b2 := hv 2
  unfold mvi at h
  have e : o = o' ∧ u 0 = v 0 ∧ u 1 = v 1 ∧ u 2 = v 2 := by omega
  refine ⟨e.1, funext fun t => ?_⟩
  by_cases h3 : t < 3
  · rcases (show t = 0 ∨ t = 1 ∨ t = 2 by omega) with rfl | rfl | rfl
    · exact e.2.1
    · exact e.2.2.1
    · exact e.2.2.2
  · rw [hu3 t (by omega), hv3 t (by omega)]
/-- a pair whose place the row must hold, once it has been settled -/
def PK (σ : rS) (x : Nat) (vv : Nat → Nat) (o : Nat) (u : Nat → Nat) : Prop := o < 18 ∧ (o = x ∨ mh vv o) ∧ σ 2 o ≠ 0 ∧ (∀ t, u t ≤ vv t) ∧ MC (s_mk σ) (s_cx σ) u ∧ MX (s_mk σ) (s_cx σ) o u
/-- the row of places is right for all vectors before w, and at w for operations below i -/
def PD (σ σ' : rS) (x : Nat) (vv : Nat → Nat) (A B w i : Nat) : Prop := ∀ o u, PK σ x vv o u → cdx A B u < w ∨ (u = dgw A B w ∧ o < i) → σ' 13 (343 * o + mvi u) = s_pl σ o u
theorem PD.put {σ σ' : rS} {x : Nat} {vv : Nat → Nat} {A B w i : Nat} (hv6 : ∀ t, vv t ≤ 6) (hv3 : ∀ t, 3 ≤ t → vv t = 0) (hd : ∀ t, dgw A B w t ≤ vv t) (h : PD σ σ' x vv A B w i) : PD σ (u2 σ' 13 (343 * i + mvi (dgw A B w)) (s_pl σ i (dgw A B w))) x vv A B w (i + 1) := by
  have key : ∀ u : Nat → Nat, (∀ t, u t ≤ vv t) → (∀ t, u t ≤ 6) ∧ ∀ t, 3 ≤ t → u t = 0 := fun u hu => ⟨fun t => Nat.le_trans (hu t) (hv6 t), fun t ht => by
    have := hu t
    rw [hv3 t ht] at this
    omega⟩
  intro o u hk hc
  rw [u2_in]
  by_cases q : 343 * o + mvi u = 343 * i + mvi (dgw A B w)
  · rw [if_pos q]
    obtain ⟨e1, e2⟩ := mvi_inj (key u hk.2.2.2.1).1 (key _ hd).1 (key u hk.2.2.2.1).2 (key _ hd).2 q
    rw [e1, e2]
  · rw [if_neg q]
    refine h o u hk ?_
    rcases hc with hc | ⟨hc, ho⟩
    · exact Or.inl hc
    · refine Or.inr ⟨hc, ?_⟩
      apply Nat.lt_of_le_of_ne (by omega)
      intro e
      exact q (by rw [e, hc])
theorem PD.skip {σ σ' : rS} {x : Nat} {vv : Nat → Nat} {A B w i : Nat} (h : PD σ σ' x vv A B w i) (hn : ¬ PK σ x vv i (dgw A B w)) : PD σ σ' x vv A B w (i + 1) := by
  intro o u hk hc
  refine h o u hk ?_
  rcases hc with hc | ⟨hc, ho⟩
  · exact Or.inl hc
  · refine Or.inr ⟨hc, ?_⟩
    apply Nat.lt_of_le_of_ne (by omega)
    intro e
    exact hn (by rw [← e, ← hc]; exact hk)
theorem PD.next {σ σ' : rS} {x : Nat} {vv : Nat → Nat} {A B w i : Nat} (hA : A = vv 0 + 1) (hB : B = vv 1 + 1) (hv3 : ∀ t, 3 ≤ t → vv t = 0) (h : PD σ σ' x vv A B w i) (hi : i = 18 ∨ ¬ MC (s_mk σ) (s_cx σ) (dgw A B w)) : PD σ σ' x vv A B (w + 1) 0 := by
  intro o u hk hc
  refine h o u hk ?_
  rcases hc with hc | ⟨-, ho⟩
  · by_cases q : cdx A B u < w
    · exact Or.inl q
    · have h0 := hk.2.2.2.1 0
      have h1 := hk.2.2.2.1 1
      have e := dgw_of (A := A) (B := B) (u := u) (w := w) (by omega) (by omega) (fun t ht => by
        have := hk.2.2.2.1 t
        rw [hv3 t ht] at this
        omega) (by omega)
      rcases hi with rfl | hi
      · exact Or.inr ⟨e, hk.1⟩
      · exact absurd (e ▸ hk.2.2.2.2.1) hi
  · omega
theorem nw3 {σ : rS} {a b c : Nat} : s_nw (u2 (u2 (u2 σ 14 0 a) 14 1 b) 14 2 c) = fun t => if t = 0 then a else if t = 1 then b else if t = 2 then c else 0 := by
  funext t
  unfold s_nw
  by_cases h : t < 3
  · rw [if_pos h, u2_in, u2_in, u2_in]
    rcases (show t = 0 ∨ t = 1 ∨ t = 2 by omega) with rfl | rfl | rfl <;> simp
  · rw [if_neg h, if_neg (by omega), if_neg (by omega), if_neg (by omega)]
/-- what closed() says -/
theorem closed_iff {σ : rS} (hm : ∀ t, s_nw σ t ≤ s_mk σ t) : (∀ o, o < 18 → o % 6 < σ 14 (o / 6) → o % 6 < σ 1 (o / 6) ∧ σ 5 (3 * o) ≤ σ 14 0 ∧ σ 5 (3 * o + 1) ≤ σ 14 1 ∧ σ 5 (3 * o + 2) ≤ σ 14 2) ↔ MC (s_mk σ) (s_cx σ) (s_nw σ) := by
  constructor
  · intro h
    refine ⟨hm, fun o ho t => ?_⟩
    have ho3 : o / 6 < 3 := by
      unfold mh s_nw at ho
      by_cases q : o / 6 < 3
      · exact q
      · rw [if_neg q] at ho
        omega
    obtain ⟨-, a, b, c⟩ := h o (by omega) ((mh_nw (by omega)).mp ho)
    by_cases ht : t < 3
    · rw [s_nw_lt ht, s_cx_lt ht]
      rcases (show t = 0 ∨ t = 1 ∨ t = 2 by omega) with rfl | rfl | rfl
      · exact a
      · exact b
      · exact c
    · unfold s_cx
      rw [if_neg ht]
      exact Nat.zero_le _
  · intro h o ho hh
    have hh' := (mh_nw ho).mpr hh
    have e := h.2 o hh'
    have e0 := e 0
    have e1 := e 1
    have e2 := e 2
    rw [s_nw_lt (by omega), s_cx_lt (by omega)] at e0 e1 e2
    have em := hm (o / 6)
    rw [s_nw_lt (by omega), s_mk_lt (by omega)] at em
    exact ⟨by omega, e0, e1, e2⟩
theorem covers_iff {σ : rS} {o : Nat} : (σ 5 (3 * o) ≤ σ 14 0 ∧ σ 5 (3 * o + 1) ≤ σ 14 1 ∧ σ 5 (3 * o + 2) ≤ σ 14 2) ↔ ∀ t, s_cx σ o t ≤ s_nw σ t := by
  constructor
  · rintro ⟨a, b, c⟩ t
    by_cases ht : t < 3
    · rw [s_nw_lt ht, s_cx_lt ht]
      rcases (show t = 0 ∨ t = 1 ∨ t = 2 by omega) with rfl | rfl | rfl
      · exact a
      · exact b
      · exact c
    · unfold s_cx
      rw [if_neg ht]
      exact Nat.zero_le _
  · intro h
    have e0 := h 0
    have e1 := h 1
    have e2 := h 2
    rw [s_nw_lt (by omega), s_cx_lt (by omega)] at e0 e1 e2
    exact ⟨e0, e1, e2⟩
end
section
theorem SOK_of {σ τ : rS} {x : Nat} {vv : Nat → Nat} {A B k i : Nat} (hE : E12 σ τ) (hH : MH (s_mk σ) (s_cx σ)) (hA : 0 < A) (hB : 0 < B) (hv6 : ∀ t, vv t ≤ 6) (hd : ∀ t, dgw A B k t ≤ vv t) (hM : MC (s_mk σ) (s_cx σ) (dgw A B k)) (hX : MX (s_mk σ) (s_cx σ) i (dgw A B k)) (hk : i = x ∨ mh vv i) (hi : σ 2 i ≠ 0) (h18 : i < 18) (hPD : PD σ τ x vv A B k i) : SOK τ i (dgw A B k) := by
  intro t ht hc
  rw [hE.cx] at hc
  rw [hE.pl, hE 2 (by omega) (by omega)]
  have hcd : cdx A B (md (dgw A B k) t) < k := by
    have := cdx_md (u := dgw A B k) hA hB ht hc.2.2.1
    rw [dgw_cdx] at this
    exact this
  have hle : ∀ j, md (dgw A B k) t j ≤ vv j := fun j => by
    have := hd j
    unfold md
    split <;> omega
  refine ⟨hPD i _ ⟨h18, hk, hi, hle, hM.dn hH hc.2, hX.dn hc⟩ (Or.inl hcd), fun hy => ?_⟩
  have hh := mh_top hc.2.2.1 (hM.le6 hH t)
  exact hPD _ _ ⟨hM.lt18 hH hh, Or.inr (Nat.lt_of_lt_of_le hh (hd _)), hy, hle, hM.dn hH hc.2, MX.top hH hM hc.2⟩ (Or.inl hcd)
theorem s_nw_eq {τ τ' : rS} (h : τ' 14 = τ 14) : s_nw τ' = s_nw τ := by
  funext t
  unfold s_nw
  rw [h]
set_option maxRecDepth 100000 in
set_option maxHeartbeats 4000000 in
theorem r_placeFor (l : Launch) (D : va_G) (S : Nat) (σ : rS) (ad0 : Nat → Nat) (w0 : gW) (x site : Nat) (hs : site < 3) (hi : σ 2 x ≠ 0) (hH : MH (s_mk σ) (s_cx σ)) (hM : MC (s_mk σ) (s_cx σ) (s_vc σ site)) (hX : MX (s_mk σ) (s_cx σ) x (s_vc σ site)) (hBB : ∀ o u, MC (s_mk σ) (s_cx σ) u → MX (s_mk σ) (s_cx σ) o u → s_pl σ o u < 1000) : g_M l y_M_placeFor w_M_placeFor (rk 3) D gCl g_N [.ref (ad0 200), .int (nI x), .int (nI site)] (RX S σ ad0 w0) 0 0 (fun A => g_Qi D gCl A (fun r ad w => ∃ σ', (E12 σ σ' ∧ r = nI (s_pl σ x (s_vc σ site))) ∧ RX S σ' ad0 w0 ad w)) := by
  have hA0 : σ 8 (3 * site) ≤ 6 := hM.le6 hH 0
  have hB0 : σ 8 (3 * site + 1) ≤ 6 := hM.le6 hH 1
  have hC0 : σ 8 (3 * site + 2) ≤ 6 := hM.le6 hH 2
  have hPR : (σ 8 (3 * site) + 1) * (σ 8 (3 * site + 1) + 1) * (σ 8 (3 * site + 2) + 1) ≤ 343 := Nat.mul_le_mul (Nat.mul_le_mul (show (σ 8 (3 * site) + 1) ≤ 7 by omega) (show (σ 8 (3 * site + 1) + 1) ≤ 7 by omega)) (show (σ 8 (3 * site + 2) + 1) ≤ 7 by omega)
  have hv6 : ∀ t, s_vc σ site t ≤ 6 := fun t => hM.le6 hH t
  have hv3 : ∀ t, 3 ≤ t → s_vc σ site t = 0 := fun t ht => if_neg (by omega)
  have hx18 : x < 18 := by
    have := hX.1
    unfold mh at this
    by_cases q : 3 ≤ x / 6
    · rw [hH.2.1 _ q] at this
      omega
    · omega
  refine g_of (cc := c_M_placeFor) (nL := 10) (ret := some .int) (by decide) rfl (Nat.le_of_ble_eq_true rfl) ?_
  intro pp ee ss mm bb me cc A hC hr hlk hnm
  refine g_los [0, 1, 2] (lo' := [(0, .ref (ad0 200)), (1, .int (nI x)), (2, .int (nI site))]) rfl ?_
  refine g_pure r_bl_of (fun hb => ?_)
  refine g_aload_n (i := 0) hC d_M_placeFor_0 rfl rfl (Or.inr ⟨_, rfl⟩) ?_
  refine g_get hC (fun x h => List.mem_cons_of_mem _ (in_M x h)) 200 r_this rfl 8 (by decide) (List.mem_cons_of_mem _ m_328) rfl rfl d_M_placeFor_1 ?_
  refine g_iconst (v := nI 3) hC d_M_placeFor_4 (by decide) ?_
  refine g_iload_n (i := 2) hC d_M_placeFor_5 rfl rfl ?_
  refine g_imulN hC d_M_placeFor_6 ?_
  refine r_ld 8 hC (by decide) (by decide) rfl (fun _ => rfl) (by simp only [r_ln]; omega) d_M_placeFor_7 ?_
  refine g_istore_n (i := 3) (lo' := [(3, _), (0, _), (1, _), (2, _)]) hC d_M_placeFor_8 rfl (by decide) rfl ?_
  refine g_aload_n (i := 0) hC d_M_placeFor_9 rfl rfl (Or.inr ⟨_, rfl⟩) ?_
  refine g_get hC (fun x h => List.mem_cons_of_mem _ (in_M x h)) 200 r_this rfl 8 (by decide) (List.mem_cons_of_mem _ m_328) rfl rfl d_M_placeFor_10 ?_
  refine g_iconst (v := nI 3) hC d_M_placeFor_13 (by decide) ?_
  refine g_iload_n (i := 2) hC d_M_placeFor_14 rfl rfl ?_
  refine g_imulN hC d_M_placeFor_15 ?_
  refine g_iconst (v := nI 1) hC d_M_placeFor_16 (by decide) ?_
  refine g_iaddN hC d_M_placeFor_17 ?_
  refine r_ld 8 hC (by decide) (by decide) rfl (fun _ => rfl) (by simp only [r_ln]; omega) d_M_placeFor_18 ?_
  refine g_istore (i := 4) (lo' := [(4, _), (3, _), (0, _), (1, _), (2, _)]) hC d_M_placeFor_19 (by decide) rfl ?_
  refine g_aload_n (i := 0) hC d_M_placeFor_21 rfl rfl (Or.inr ⟨_, rfl⟩) ?_
  refine g_get hC (fun x h => List.mem_cons_of_mem _ (in_M x h)) 200 r_this rfl 8 (by decide) (List.mem_cons_of_mem _ m_328) rfl rfl d_M_placeFor_22 ?_
  refine g_iconst (v := nI 3) hC d_M_placeFor_25 (by decide) ?_
  refine g_iload_n (i := 2) hC d_M_placeFor_26 rfl rfl ?_
  refine g_imulN hC d_M_placeFor_27 ?_
  refine g_iconst (v := nI 2) hC d_M_placeFor_28 (by decide) ?_
  refine g_iaddN hC d_M_placeFor_29 ?_
  refine r_ld 8 hC (by decide) (by decide) rfl (fun _ => rfl) (by simp only [r_ln]; omega) d_M_placeFor_30 ?_
  refine g_istore (i := 5) (lo' := [(5, _), (4, _), (3, _), (0, _), (1, _), (2, _)]) hC d_M_placeFor_31 (by decide) rfl ?_
  refine g_iconst (v := nI 0) hC d_M_placeFor_33 (by decide) ?_
  refine g_istore (i := 6) (lo' := [(6, _), (5, _), (4, _), (3, _), (0, _), (1, _), (2, _)]) hC d_M_placeFor_34 (by decide) rfl ?_
  refine g_los [4, 5, 6, 3, 2, 1, 0] (lo' := [(0, _), (1, _), (2, _), (3, _), (4, _), (5, _), (6, _)]) rfl ?_
  refine g_loop (ι := Nat × rS) (pc0 := 36) (fun ⟨k, τ⟩ => (σ 8 (3 * site) + 1) * (σ 8 (3 * site + 1) + 1) * (σ 8 (3 * site + 2) + 1) - k) (fun ⟨k, τ⟩ => k ≤ (σ 8 (3 * site) + 1) * (σ 8 (3 * site + 1) + 1) * (σ 8 (3 * site + 2) + 1) ∧ E12 σ τ ∧ PD σ τ x (s_vc σ site) (σ 8 (3 * site) + 1) (σ 8 (3 * site + 1) + 1) k 0) (fun ⟨k, τ⟩ => RX S τ ad0 w0) (fun ⟨k, τ⟩ => [(0, .ref (ad0 200)), (1, .int (nI x)), (2, .int (nI site)), (3, .int (nI (σ 8 (3 * site)))), (4, .int (nI (σ 8 (3 * site + 1)))), (5, .int (nI (σ 8 (3 * site + 2)))), (6, .int (nI k))]) ?_ (0, σ) (⟨Nat.zero_le _, E12.refl σ, fun o u _ h => by omega⟩)
  rintro ⟨k, τ⟩ hI ih
  try dsimp only at hI ih ⊢
  refine g_pure r_bl_of (fun hb => ?_)
  refine g_iload (i := 6) hC d_M_placeFor_36 rfl ?_
  refine g_iload_n (i := 3) hC d_M_placeFor_38 rfl rfl ?_
  refine g_iconst (v := nI 1) hC d_M_placeFor_39 (by decide) ?_
  refine g_iaddN hC d_M_placeFor_40 ?_
  refine g_iload (i := 4) hC d_M_placeFor_41 rfl ?_
  refine g_iconst (v := nI 1) hC d_M_placeFor_43 (by decide) ?_
  refine g_iaddN hC d_M_placeFor_44 ?_
  refine g_imulN hC d_M_placeFor_45 ?_
  refine g_iload (i := 5) hC d_M_placeFor_46 rfl ?_
  refine g_iconst (v := nI 1) hC d_M_placeFor_48 (by decide) ?_
  refine g_iaddN hC d_M_placeFor_49 ?_
  refine g_imulN hC d_M_placeFor_50 ?_
  refine g_icmp_geN (tgt := 207) hC d_M_placeFor_51 (by decide) (by omega) (by omega) (fun h51 => ?_) (fun h51 => ?_)
  · refine g_aload_n (i := 0) hC d_M_placeFor_207 rfl rfl (Or.inr ⟨_, rfl⟩) ?_
    refine g_get hC (fun x h => List.mem_cons_of_mem _ (in_M x h)) 200 r_this rfl 14 (by decide) (List.mem_cons_of_mem _ m_334) rfl rfl d_M_placeFor_208 ?_
    refine g_iconst (v := nI 0) hC d_M_placeFor_211 (by decide) ?_
    refine g_iload_n (i := 3) hC d_M_placeFor_212 rfl rfl ?_
    refine r_st 14 hC (by decide) (by decide) rfl (fun _ => rfl) (by decide) (by omega) (by simp only [r_ln]; omega) d_M_placeFor_213 ?_
    refine g_aload_n (i := 0) hC d_M_placeFor_214 rfl rfl (Or.inr ⟨_, rfl⟩) ?_
    refine g_get hC (fun x h => List.mem_cons_of_mem _ (in_M x h)) 200 r_this rfl 14 (by decide) (List.mem_cons_of_mem _ m_334) rfl rfl d_M_placeFor_215 ?_
    refine g_iconst (v := nI 1) hC d_M_placeFor_218 (by decide) ?_
    refine g_iload (i := 4) hC d_M_placeFor_219 rfl ?_
    refine r_st 14 hC (by decide) (by decide) rfl (fun _ => rfl) (by decide) (by omega) (by simp only [r_ln]; omega) d_M_placeFor_221 ?_
    refine g_aload_n (i := 0) hC d_M_placeFor_222 rfl rfl (Or.inr ⟨_, rfl⟩) ?_
    refine g_get hC (fun x h => List.mem_cons_of_mem _ (in_M x h)) 200 r_this rfl 14 (by decide) (List.mem_cons_of_mem _ m_334) rfl rfl d_M_placeFor_223 ?_
    refine g_iconst (v := nI 2) hC d_M_placeFor_226 (by decide) ?_
    refine g_iload (i := 5) hC d_M_placeFor_227 rfl ?_
    refine r_st 14 hC (by decide) (by decide) rfl (fun _ => rfl) (by decide) (by omega) (by simp only [r_ln]; omega) d_M_placeFor_229 ?_
    refine g_aload_n (i := 0) hC d_M_placeFor_230 rfl rfl (Or.inr ⟨_, rfl⟩) ?_
    refine g_get hC (fun x h => List.mem_cons_of_mem _ (in_M x h)) 200 r_this rfl 13 (by decide) (List.mem_cons_of_mem _ m_333) rfl rfl d_M_placeFor_231 ?_
    refine g_aload_n (i := 0) hC d_M_placeFor_234 rfl rfl (Or.inr ⟨_, rfl⟩) ?_
    refine g_iload_n (i := 1) hC d_M_placeFor_235 rfl rfl ?_
    refine g_calli hC (g_runV (q := 200) (As := [_]) (st := [_]) hC g_NOK_N (r_index l D S (u2 (u2 (u2 τ 14 0 (σ 8 (3 * site))) 14 1 (σ 8 (3 * site + 1))) 14 2 (σ 8 (3 * site + 2))) ad0 w0 x hx18) (t_cwV 1 hC.1.2.2.2.2 m_418 m_420 ms_19 m_6 k_M_index rfl rfl hd_M_index ⟨by decide, by decide⟩) r_this rfl rfl rfl (Nat.le_of_ble_eq_true rfl) d_M_placeFor_236 ⟨by decide, by decide⟩) (fun r236 => ?_)
    refine g_and (fun e236 => ?_)
    have e3 : 343 * x + (u2 (u2 (u2 τ 14 0 (σ 8 (3 * site))) 14 1 (σ 8 (3 * site + 1))) 14 2 (σ 8 (3 * site + 2))) 14 0 + 7 * (u2 (u2 (u2 τ 14 0 (σ 8 (3 * site))) 14 1 (σ 8 (3 * site + 1))) 14 2 (σ 8 (3 * site + 2))) 14 1 + 49 * (u2 (u2 (u2 τ 14 0 (σ 8 (3 * site))) 14 1 (σ 8 (3 * site + 1))) 14 2 (σ 8 (3 * site + 2))) 14 2 = 343 * x + mvi (s_vc σ site) := by
      have e4 : mvi (s_nw (u2 (u2 (u2 τ 14 0 (σ 8 (3 * site))) 14 1 (σ 8 (3 * site + 1))) 14 2 (σ 8 (3 * site + 2)))) = mvi (s_vc σ site) := by
        rw [nw3]
        rfl
      rw [mvi_nw] at e4
      omega
    rw [e3] at e236
    subst e236
    refine r_ld 13 hC (by decide) (by decide) rfl (fun _ => rfl) (by have := mvi_le hv6; simp only [r_ln]; omega) d_M_placeFor_239 ?_
    refine g_iret hC hr hlk d_M_placeFor_240 (by decide) (by decide) (fun ad w hw => ?_)
    refine ⟨_, ⟨((hI.2.1.u2 (Or.inr rfl)).u2 (Or.inr rfl)).u2 (Or.inr rfl), ?_⟩, hw⟩
    have hpd := hI.2.2 x (s_vc σ site) ⟨hx18, Or.inl rfl, hi, fun _ => Nat.le_refl _, hM, hX⟩ (Or.inl (Nat.lt_of_lt_of_le (cdx_lt (C := (σ 8 (3 * site + 2) + 1)) (show s_vc σ site 0 < (σ 8 (3 * site) + 1) from Nat.lt_succ_self _) (show s_vc σ site 1 < (σ 8 (3 * site + 1) + 1) from Nat.lt_succ_self _) (show s_vc σ site 2 < (σ 8 (3 * site + 2) + 1) from Nat.lt_succ_self _)) h51))
    rw [u2_ne (by omega), u2_ne (by omega), u2_ne (by omega), hpd]
  · refine g_aload_n (i := 0) hC d_M_placeFor_54 rfl rfl (Or.inr ⟨_, rfl⟩) ?_
    refine g_get hC (fun x h => List.mem_cons_of_mem _ (in_M x h)) 200 r_this rfl 14 (by decide) (List.mem_cons_of_mem _ m_334) rfl rfl d_M_placeFor_55 ?_
    refine g_iconst (v := nI 0) hC d_M_placeFor_58 (by decide) ?_
    refine g_iload (i := 6) hC d_M_placeFor_59 rfl ?_
    refine g_iload_n (i := 3) hC d_M_placeFor_61 rfl rfl ?_
    refine g_iconst (v := nI 1) hC d_M_placeFor_62 (by decide) ?_
    refine g_iaddN hC d_M_placeFor_63 ?_
    refine g_iremN hC d_M_placeFor_64 (by omega) (by omega) (by omega) ?_
    refine r_st 14 hC (by decide) (by decide) rfl (fun _ => rfl) (by decide) (by have := Nat.mod_lt k (show 0 < (σ 8 (3 * site) + 1) by omega); omega) (by simp only [r_ln]; omega) d_M_placeFor_65 ?_
    refine g_aload_n (i := 0) hC d_M_placeFor_66 rfl rfl (Or.inr ⟨_, rfl⟩) ?_
    refine g_get hC (fun x h => List.mem_cons_of_mem _ (in_M x h)) 200 r_this rfl 14 (by decide) (List.mem_cons_of_mem _ m_334) rfl rfl d_M_placeFor_67 ?_
    refine g_iconst (v := nI 1) hC d_M_placeFor_70 (by decide) ?_
    refine g_iload (i := 6) hC d_M_placeFor_71 rfl ?_
    refine g_iload_n (i := 3) hC d_M_placeFor_73 rfl rfl ?_
    refine g_iconst (v := nI 1) hC d_M_placeFor_74 (by decide) ?_
    refine g_iaddN hC d_M_placeFor_75 ?_
    refine g_idivN hC d_M_placeFor_76 (by omega) (by omega) (by omega) ?_
    refine g_iload (i := 4) hC d_M_placeFor_77 rfl ?_
    refine g_iconst (v := nI 1) hC d_M_placeFor_79 (by decide) ?_
    refine g_iaddN hC d_M_placeFor_80 ?_
    refine g_iremN hC d_M_placeFor_81 (by have := Nat.div_le_self k (σ 8 (3 * site) + 1); omega) (by omega) (by omega) ?_
    refine r_st 14 hC (by decide) (by decide) rfl (fun _ => rfl) (by decide) (by have := Nat.mod_lt (k / (σ 8 (3 * site) + 1)) (show 0 < (σ 8 (3 * site + 1) + 1) by omega); omega) (by simp only [r_ln]; omega) d_M_placeFor_82 ?_
    refine g_aload_n (i := 0) hC d_M_placeFor_83 rfl rfl (Or.inr ⟨_, rfl⟩) ?_
    refine g_get hC (fun x h => List.mem_cons_of_mem _ (in_M x h)) 200 r_this rfl 14 (by decide) (List.mem_cons_of_mem _ m_334) rfl rfl d_M_placeFor_84 ?_
    refine g_iconst (v := nI 2) hC d_M_placeFor_87 (by decide) ?_
    refine g_iload (i := 6) hC d_M_placeFor_88 rfl ?_
    refine g_iload_n (i := 3) hC d_M_placeFor_90 rfl rfl ?_
    refine g_iconst (v := nI 1) hC d_M_placeFor_91 (by decide) ?_
    refine g_iaddN hC d_M_placeFor_92 ?_
    refine g_idivN hC d_M_placeFor_93 (by omega) (by omega) (by omega) ?_
    refine g_iload (i := 4) hC d_M_placeFor_94 rfl ?_
    refine g_iconst (v := nI 1) hC d_M_placeFor_96 (by decide) ?_
    refine g_iaddN hC d_M_placeFor_97 ?_
    refine g_idivN hC d_M_placeFor_98 (by have := Nat.div_le_self k (σ 8 (3 * site) + 1); omega) (by omega) (by omega) ?_
    refine r_st 14 hC (by decide) (by decide) rfl (fun _ => rfl) (by decide) (by have := Nat.div_le_self k (σ 8 (3 * site) + 1); have := Nat.div_le_self (k / (σ 8 (3 * site) + 1)) (σ 8 (3 * site + 1) + 1); omega) (by simp only [r_ln]; omega) d_M_placeFor_99 ?_
    have dl := dgw_lt (A := (σ 8 (3 * site) + 1)) (B := (σ 8 (3 * site + 1) + 1)) (C := (σ 8 (3 * site + 2) + 1)) (by omega) (by omega) h51
    have hdle : ∀ t, dgw (σ 8 (3 * site) + 1) (σ 8 (3 * site + 1) + 1) k t ≤ s_vc σ site t := fun t => by
      by_cases q0 : t = 0
      · rw [q0]; exact Nat.le_of_lt_succ dl.1
      · by_cases q1 : t = 1
        · rw [q1]; exact Nat.le_of_lt_succ dl.2.1
        · by_cases q2 : t = 2
          · rw [q2]; exact Nat.le_of_lt_succ dl.2.2
          · unfold dgw
            rw [if_neg q0, if_neg q1, if_neg q2]
            exact Nat.zero_le _
    generalize hτ : u2 (u2 (u2 τ 14 0 (k % (σ 8 (3 * site) + 1))) 14 1 (k / (σ 8 (3 * site) + 1) % (σ 8 (3 * site + 1) + 1))) 14 2 (k / (σ 8 (3 * site) + 1) / (σ 8 (3 * site + 1) + 1)) = τ1
    have hnw : s_nw τ1 = dgw (σ 8 (3 * site) + 1) (σ 8 (3 * site + 1) + 1) k := by
      rw [← hτ, nw3]
      rfl
    have hE1 : E12 σ τ1 := by
      rw [← hτ]
      exact ((hI.2.1.u2 (Or.inr rfl)).u2 (Or.inr rfl)).u2 (Or.inr rfl)
    have h13 : τ1 13 = τ 13 := by
      rw [← hτ, u2_ne (by omega), u2_ne (by omega), u2_ne (by omega)]
    have hPD : PD σ τ1 x (s_vc σ site) (σ 8 (3 * site) + 1) (σ 8 (3 * site + 1) + 1) k 0 := fun o u h1 h2 => by
      rw [h13]
      exact hI.2.2 o u h1 h2
    refine g_pure r_bl_of (fun hb1 => ?_)
    refine g_aload_n (i := 0) hC d_M_placeFor_100 rfl rfl (Or.inr ⟨_, rfl⟩) ?_
    refine g_calli hC (g_runV (q := 200) (As := []) (st := []) hC g_NOK_N (r_closed l D S τ1 ad0 w0) (t_cwV 0 hC.1.2.2.2.2 m_398 m_400 ms_14 m_6 k_M_closed rfl rfl hd_M_closed ⟨by decide, by decide⟩) r_this rfl rfl rfl (Nat.le_of_ble_eq_true rfl) d_M_placeFor_101 ⟨by decide, by decide⟩) (fun r101 => ?_)
    refine g_and (fun e101 => ?_)
    rw [pb_iff (closed_iff (fun t => by rw [hnw, hE1.mk]; exact Nat.le_trans (hdle t) (hM.1 t))), hE1.mk, hE1.cx, hnw] at e101
    subst e101
    refine g_istore (i := 7) (lo' := [(7, _), (0, _), (1, _), (2, _), (3, _), (4, _), (5, _), (6, _)]) hC d_M_placeFor_104 (by decide) rfl ?_
    refine g_iconst (v := nI 0) hC d_M_placeFor_106 (by decide) ?_
    refine g_istore (i := 8) (lo' := [(8, _), (7, _), (0, _), (1, _), (2, _), (3, _), (4, _), (5, _), (6, _)]) hC d_M_placeFor_107 (by decide) rfl ?_
    refine g_los [2, 3, 4, 5, 6, 7, 8, 1, 0] (lo' := [(0, _), (1, _), (2, _), (3, _), (4, _), (5, _), (6, _), (7, _), (8, _)]) rfl ?_
    refine g_loop (ι := Nat × rS) (pc0 := 109) (fun ⟨i, τ2⟩ => 18 - i) (fun ⟨i, τ2⟩ => i ≤ 18 ∧ E12 σ τ2 ∧ τ2 14 = τ1 14 ∧ PD σ τ2 x (s_vc σ site) (σ 8 (3 * site) + 1) (σ 8 (3 * site + 1) + 1) k i) (fun ⟨i, τ2⟩ => RX S τ2 ad0 w0) (fun ⟨i, τ2⟩ => [(0, .ref (ad0 200)), (1, .int (nI x)), (2, .int (nI site)), (3, .int (nI (σ 8 (3 * site)))), (4, .int (nI (σ 8 (3 * site + 1)))), (5, .int (nI (σ 8 (3 * site + 2)))), (6, .int (nI k)), (7, .int (nI (pb (MC (s_mk σ) (s_cx σ) (dgw (σ 8 (3 * site) + 1) (σ 8 (3 * site + 1) + 1) k))))), (8, .int (nI i))]) ?_ (0, τ1) (⟨Nat.zero_le _, hE1, rfl, hPD⟩)
    rintro ⟨i, τ2⟩ hJ ih2
    try dsimp only at hJ ih2 ⊢
    refine g_pure r_bl_of (fun hb2 => ?_)
    have hnw2 : s_nw τ2 = dgw (σ 8 (3 * site) + 1) (σ 8 (3 * site + 1) + 1) k := (s_nw_eq hJ.2.2.1).trans hnw
    refine g_iload (i := 8) hC d_M_placeFor_109 rfl ?_
    refine g_bipush (v := nI 18) hC d_M_placeFor_111 (by decide) ?_
    refine g_icmp_geN (tgt := 201) hC d_M_placeFor_113 (by decide) (by first | omega | exact r_lt hb _ _ | exact pb_le _) (by first | omega | exact r_lt hb _ _ | exact pb_le _) (fun h113 => ?_) (fun h113 => ?_)
    · refine g_iinc (i := 6) (k := 6) (lo' := [(6, _), (0, _), (1, _), (2, _), (3, _), (4, _), (5, _), (7, _), (8, _)]) hC d_M_placeFor_201 rfl (nI_inc _) (by decide) rfl ?_
      refine g_goto (tgt := 36) hC d_M_placeFor_204 (by decide) ?_
      refine g_los [1, 2, 3, 4, 5, 6, 0] rfl ?_
      exact ih (k + 1, τ2) ⟨by omega, hJ.2.1, hJ.2.2.2.next rfl rfl hv3 (Or.inl (by omega))⟩ (by dsimp only; omega)
    · refine g_iload (i := 7) hC d_M_placeFor_116 rfl ?_
      refine g_if_eqN (tgt := 201) hC d_M_placeFor_118 (by decide) (pb_le _) (fun h118 => ?_) (fun h118 => ?_)
      · have g118 := pb_0 h118
        refine g_iinc (i := 6) (k := 6) (lo' := [(6, _), (0, _), (1, _), (2, _), (3, _), (4, _), (5, _), (7, _), (8, _)]) hC d_M_placeFor_201 rfl (nI_inc _) (by decide) rfl ?_
        refine g_goto (tgt := 36) hC d_M_placeFor_204 (by decide) ?_
        refine g_los [1, 2, 3, 4, 5, 6, 0] rfl ?_
        exact ih (k + 1, τ2) ⟨by omega, hJ.2.1, hJ.2.2.2.next rfl rfl hv3 (Or.inr g118)⟩ (by dsimp only; omega)
      · have g118 := pb_1 h118
        refine g_iload (i := 8) hC d_M_placeFor_121 rfl ?_
        refine g_iload_n (i := 1) hC d_M_placeFor_123 rfl rfl ?_
        refine g_icmp_eqN (tgt := 149) hC d_M_placeFor_124 (by decide) (by first | omega | exact r_lt hb _ _ | exact pb_le _) (by first | omega | exact r_lt hb _ _ | exact pb_le _) (fun h124 => ?_) (fun h124 => ?_)
        · refine g_iconst (v := nI 1) hC d_M_placeFor_149 (by decide) ?_
          refine g_goto (tgt := 154) hC d_M_placeFor_150 (by decide) ?_
          refine g_istore (i := 9) (lo' := [(9, _), (0, _), (1, _), (2, _), (3, _), (4, _), (5, _), (6, _), (7, _), (8, _)]) hC d_M_placeFor_154 (by decide) rfl ?_
          refine g_iload (i := 9) hC d_M_placeFor_156 rfl ?_
          refine g_if_eqN (tgt := 195) hC d_M_placeFor_158 (by decide) (by decide) (fun h158 => ?_) (fun h158 => ?_)
          · exact absurd h158 (by decide)
          · refine g_aload_n (i := 0) hC d_M_placeFor_161 rfl rfl (Or.inr ⟨_, rfl⟩) ?_
            refine g_get hC (fun x h => List.mem_cons_of_mem _ (in_M x h)) 200 r_this rfl 2 (by decide) (List.mem_cons_of_mem _ m_322) rfl rfl d_M_placeFor_162 ?_
            refine g_iload (i := 8) hC d_M_placeFor_165 rfl ?_
            refine r_zld 2 hC (by decide) (by decide) rfl (fun _ => rfl) (by simp only [r_ln]; omega) d_M_placeFor_167 ?_
            rw [hJ.2.1 2 (by omega) (by omega)]
            refine g_if_eqN (tgt := 195) hC d_M_placeFor_168 (by decide) (by have := r_lt hb2 2 i; rw [hJ.2.1 2 (by omega) (by omega)] at this; exact this) (fun h168 => ?_) (fun h168 => ?_)
            · refine g_iinc (i := 8) (k := 9) (lo' := [(8, _), (9, _), (0, _), (1, _), (2, _), (3, _), (4, _), (5, _), (6, _), (7, _)]) hC d_M_placeFor_195 rfl (nI_inc _) (by decide) rfl ?_
              refine g_goto (tgt := 109) hC d_M_placeFor_198 (by decide) ?_
              refine g_los [2, 3, 4, 5, 6, 7, 8, 9, 0] rfl ?_
              exact ih2 (i + 1, τ2) ⟨by omega, hJ.2.1, hJ.2.2.1, hJ.2.2.2.skip (fun h => h.2.2.1 h168)⟩ (by dsimp only; omega)
            · refine g_aload_n (i := 0) hC d_M_placeFor_171 rfl rfl (Or.inr ⟨_, rfl⟩) ?_
              refine g_iload (i := 8) hC d_M_placeFor_172 rfl ?_
              refine g_calli hC (g_runV (q := 200) (As := [_]) (st := []) hC g_NOK_N (r_has l D S τ2 ad0 w0 i (by omega)) (t_cwV 1 hC.1.2.2.2.2 m_402 m_404 ms_15 m_6 k_M_has rfl rfl hd_M_has ⟨by decide, by decide⟩) r_this rfl rfl rfl (Nat.le_of_ble_eq_true rfl) d_M_placeFor_174 ⟨by decide, by decide⟩) (fun r174 => ?_)
              refine g_and (fun e174 => ?_)
              rw [pb_iff (mh_nw (by omega)).symm, hnw2] at e174
              subst e174
              refine g_if_neN (tgt := 195) hC d_M_placeFor_177 (by decide) (pb_le _) (fun h177 => ?_) (fun h177 => ?_)
              · have g177 := pb_1 h177
                refine g_iinc (i := 8) (k := 9) (lo' := [(8, _), (9, _), (0, _), (1, _), (2, _), (3, _), (4, _), (5, _), (6, _), (7, _)]) hC d_M_placeFor_195 rfl (nI_inc _) (by decide) rfl ?_
                refine g_goto (tgt := 109) hC d_M_placeFor_198 (by decide) ?_
                refine g_los [2, 3, 4, 5, 6, 7, 8, 9, 0] rfl ?_
                exact ih2 (i + 1, τ2) ⟨by omega, hJ.2.1, hJ.2.2.1, hJ.2.2.2.skip (fun h => h.2.2.2.2.2.2.1 (by unfold mh; exact g177))⟩ (by dsimp only; omega)
              · have g177 := pb_0 h177
                refine g_aload_n (i := 0) hC d_M_placeFor_180 rfl rfl (Or.inr ⟨_, rfl⟩) ?_
                refine g_iload (i := 8) hC d_M_placeFor_181 rfl ?_
                refine g_calli hC (g_runV (q := 200) (As := [_]) (st := []) hC g_NOK_N (r_covers l D S τ2 ad0 w0 i (by omega)) (t_cwV 1 hC.1.2.2.2.2 m_406 m_408 ms_16 m_6 k_M_covers rfl rfl hd_M_covers ⟨by decide, by decide⟩) r_this rfl rfl rfl (Nat.le_of_ble_eq_true rfl) d_M_placeFor_183 ⟨by decide, by decide⟩) (fun r183 => ?_)
                refine g_and (fun e183 => ?_)
                rw [pb_iff covers_iff, hnw2, hJ.2.1.cx] at e183
                subst e183
                refine g_if_eqN (tgt := 195) hC d_M_placeFor_186 (by decide) (pb_le _) (fun h186 => ?_) (fun h186 => ?_)
                · have g186 := pb_0 h186
                  refine g_iinc (i := 8) (k := 9) (lo' := [(8, _), (9, _), (0, _), (1, _), (2, _), (3, _), (4, _), (5, _), (6, _), (7, _)]) hC d_M_placeFor_195 rfl (nI_inc _) (by decide) rfl ?_
                  refine g_goto (tgt := 109) hC d_M_placeFor_198 (by decide) ?_
                  refine g_los [2, 3, 4, 5, 6, 7, 8, 9, 0] rfl ?_
                  exact ih2 (i + 1, τ2) ⟨by omega, hJ.2.1, hJ.2.2.1, hJ.2.2.2.skip (fun h => g186 h.2.2.2.2.2.2.2)⟩ (by dsimp only; omega)
                · have g186 := pb_1 h186
                  have hkn : i = x ∨ mh (s_vc σ site) i := Or.inl h124
                  have h18 : i < 18 := by omega
                  have hXi : MX (s_mk σ) (s_cx σ) i (dgw (σ 8 (3 * site) + 1) (σ 8 (3 * site + 1) + 1) k) := ⟨by rw [h124]; exact hX.1, g177, g186⟩
                  refine g_aload_n (i := 0) hC d_M_placeFor_189 rfl rfl (Or.inr ⟨_, rfl⟩) ?_
                  refine g_iload (i := 8) hC d_M_placeFor_190 rfl ?_
                  refine g_callv hC (g_runV (q := 200) (As := [_]) (st := []) hC g_NOK_N (r_settle l D S τ2 ad0 w0 i h18 (by rw [hJ.2.1 2 (by omega) (by omega)]; exact h168) (by rw [hnw2]; exact fun t => Nat.le_trans (hdle t) (hv6 t)) (by rw [hJ.2.1.mk, hJ.2.1.cx]; exact hH) (by rw [hJ.2.1.mk, hJ.2.1.cx, hnw2]; exact g118) (by rw [hJ.2.1.mk, hJ.2.1.cx, hnw2]; exact hXi) (by rw [hnw2]; exact SOK_of hJ.2.1 hH (by omega) (by omega) hv6 hdle g118 hXi hkn h168 h18 hJ.2.2.2) (by rw [hJ.2.1.pl, hnw2]; exact hBB _ _ g118 hXi)) (t_cwV 1 hC.1.2.2.2.2 m_410 m_412 ms_17 m_6 k_M_settle rfl rfl hd_M_settle ⟨by decide, by decide⟩) r_this rfl rfl rfl (Nat.le_of_ble_eq_true rfl) d_M_placeFor_192 ⟨by decide, by decide⟩) ?_
                  refine g_iinc (i := 8) (k := 9) (lo' := [(8, _), (9, _), (0, _), (1, _), (2, _), (3, _), (4, _), (5, _), (6, _), (7, _)]) hC d_M_placeFor_195 rfl (nI_inc _) (by decide) rfl ?_
                  refine g_goto (tgt := 109) hC d_M_placeFor_198 (by decide) ?_
                  refine g_los [2, 3, 4, 5, 6, 7, 8, 9, 0] rfl ?_
                  rw [hnw2, hJ.2.1.pl]
                  have h14' : u2 τ2 13 (343 * i + mvi (dgw (σ 8 (3 * site) + 1) (σ 8 (3 * site + 1) + 1) k)) (s_pl σ i (dgw (σ 8 (3 * site) + 1) (σ 8 (3 * site + 1) + 1) k)) 14 = τ1 14 := by
                    rw [u2_ne (by omega)]
                    exact hJ.2.2.1
                  exact ih2 (i + 1, u2 τ2 13 (343 * i + mvi (dgw (σ 8 (3 * site) + 1) (σ 8 (3 * site + 1) + 1) k)) (s_pl σ i (dgw (σ 8 (3 * site) + 1) (σ 8 (3 * site + 1) + 1) k))) ⟨by omega, hJ.2.1.u2 (Or.inl rfl), h14', hJ.2.2.2.put hv6 hv3 hdle⟩ (by dsimp only; omega)
        · refine g_iload (i := 8) hC d_M_placeFor_127 rfl ?_
          refine g_bipush (v := nI 6) hC d_M_placeFor_129 (by decide) ?_
          refine g_iremN hC d_M_placeFor_131 (by omega) (by omega) (by omega) ?_
          refine g_aload_n (i := 0) hC d_M_placeFor_132 rfl rfl (Or.inr ⟨_, rfl⟩) ?_
          refine g_get hC (fun x h => List.mem_cons_of_mem _ (in_M x h)) 200 r_this rfl 8 (by decide) (List.mem_cons_of_mem _ m_328) rfl rfl d_M_placeFor_133 ?_
          refine g_iconst (v := nI 3) hC d_M_placeFor_136 (by decide) ?_
          refine g_iload_n (i := 2) hC d_M_placeFor_137 rfl rfl ?_
          refine g_imulN hC d_M_placeFor_138 ?_
          refine g_iload (i := 8) hC d_M_placeFor_139 rfl ?_
          refine g_bipush (v := nI 6) hC d_M_placeFor_141 (by decide) ?_
          refine g_idivN hC d_M_placeFor_143 (by omega) (by omega) (by omega) ?_
          refine g_iaddN hC d_M_placeFor_144 ?_
          refine r_ld 8 hC (by decide) (by decide) rfl (fun _ => rfl) (by simp only [r_ln]; omega) d_M_placeFor_145 ?_
          rw [hJ.2.1 8 (by omega) (by omega)]
          refine g_icmp_geN (tgt := 153) hC d_M_placeFor_146 (by decide) (by omega) (by have := hv6 (i / 6); rw [s_vc_lt (by omega)] at this; omega) (fun h146 => ?_) (fun h146 => ?_)
          · refine g_iconst (v := nI 0) hC d_M_placeFor_153 (by decide) ?_
            refine g_istore (i := 9) (lo' := [(9, _), (0, _), (1, _), (2, _), (3, _), (4, _), (5, _), (6, _), (7, _), (8, _)]) hC d_M_placeFor_154 (by decide) rfl ?_
            refine g_iload (i := 9) hC d_M_placeFor_156 rfl ?_
            refine g_if_eqN (tgt := 195) hC d_M_placeFor_158 (by decide) (by decide) (fun h158 => ?_) (fun h158 => ?_)
            · refine g_iinc (i := 8) (k := 9) (lo' := [(8, _), (9, _), (0, _), (1, _), (2, _), (3, _), (4, _), (5, _), (6, _), (7, _)]) hC d_M_placeFor_195 rfl (nI_inc _) (by decide) rfl ?_
              refine g_goto (tgt := 109) hC d_M_placeFor_198 (by decide) ?_
              refine g_los [2, 3, 4, 5, 6, 7, 8, 9, 0] rfl ?_
              exact ih2 (i + 1, τ2) ⟨by omega, hJ.2.1, hJ.2.2.1, hJ.2.2.2.skip (fun h => h.2.1.elim h124 (fun q => absurd q (by unfold mh; rw [s_vc_lt (by omega)]; omega)))⟩ (by dsimp only; omega)
            · exact absurd rfl h158
          · refine g_iconst (v := nI 1) hC d_M_placeFor_149 (by decide) ?_
            refine g_goto (tgt := 154) hC d_M_placeFor_150 (by decide) ?_
            refine g_istore (i := 9) (lo' := [(9, _), (0, _), (1, _), (2, _), (3, _), (4, _), (5, _), (6, _), (7, _), (8, _)]) hC d_M_placeFor_154 (by decide) rfl ?_
            refine g_iload (i := 9) hC d_M_placeFor_156 rfl ?_
            refine g_if_eqN (tgt := 195) hC d_M_placeFor_158 (by decide) (by decide) (fun h158 => ?_) (fun h158 => ?_)
            · exact absurd h158 (by decide)
            · refine g_aload_n (i := 0) hC d_M_placeFor_161 rfl rfl (Or.inr ⟨_, rfl⟩) ?_
              refine g_get hC (fun x h => List.mem_cons_of_mem _ (in_M x h)) 200 r_this rfl 2 (by decide) (List.mem_cons_of_mem _ m_322) rfl rfl d_M_placeFor_162 ?_
              refine g_iload (i := 8) hC d_M_placeFor_165 rfl ?_
              refine r_zld 2 hC (by decide) (by decide) rfl (fun _ => rfl) (by simp only [r_ln]; omega) d_M_placeFor_167 ?_
              rw [hJ.2.1 2 (by omega) (by omega)]
              refine g_if_eqN (tgt := 195) hC d_M_placeFor_168 (by decide) (by have := r_lt hb2 2 i; rw [hJ.2.1 2 (by omega) (by omega)] at this; exact this) (fun h168 => ?_) (fun h168 => ?_)
              · refine g_iinc (i := 8) (k := 9) (lo' := [(8, _), (9, _), (0, _), (1, _), (2, _), (3, _), (4, _), (5, _), (6, _), (7, _)]) hC d_M_placeFor_195 rfl (nI_inc _) (by decide) rfl ?_
                refine g_goto (tgt := 109) hC d_M_placeFor_198 (by decide) ?_
                refine g_los [2, 3, 4, 5, 6, 7, 8, 9, 0] rfl ?_
                exact ih2 (i + 1, τ2) ⟨by omega, hJ.2.1, hJ.2.2.1, hJ.2.2.2.skip (fun h => h.2.2.1 h168)⟩ (by dsimp only; omega)
              · refine g_aload_n (i := 0) hC d_M_placeFor_171 rfl rfl (Or.inr ⟨_, rfl⟩) ?_
                refine g_iload (i := 8) hC d_M_placeFor_172 rfl ?_
                refine g_calli hC (g_runV (q := 200) (As := [_]) (st := []) hC g_NOK_N (r_has l D S τ2 ad0 w0 i (by omega)) (t_cwV 1 hC.1.2.2.2.2 m_402 m_404 ms_15 m_6 k_M_has rfl rfl hd_M_has ⟨by decide, by decide⟩) r_this rfl rfl rfl (Nat.le_of_ble_eq_true rfl) d_M_placeFor_174 ⟨by decide, by decide⟩) (fun r174 => ?_)
                refine g_and (fun e174 => ?_)
                rw [pb_iff (mh_nw (by omega)).symm, hnw2] at e174
                subst e174
                refine g_if_neN (tgt := 195) hC d_M_placeFor_177 (by decide) (pb_le _) (fun h177 => ?_) (fun h177 => ?_)
                · have g177 := pb_1 h177
                  refine g_iinc (i := 8) (k := 9) (lo' := [(8, _), (9, _), (0, _), (1, _), (2, _), (3, _), (4, _), (5, _), (6, _), (7, _)]) hC d_M_placeFor_195 rfl (nI_inc _) (by decide) rfl ?_
                  refine g_goto (tgt := 109) hC d_M_placeFor_198 (by decide) ?_
                  refine g_los [2, 3, 4, 5, 6, 7, 8, 9, 0] rfl ?_
                  exact ih2 (i + 1, τ2) ⟨by omega, hJ.2.1, hJ.2.2.1, hJ.2.2.2.skip (fun h => h.2.2.2.2.2.2.1 (by unfold mh; exact g177))⟩ (by dsimp only; omega)
                · have g177 := pb_0 h177
                  refine g_aload_n (i := 0) hC d_M_placeFor_180 rfl rfl (Or.inr ⟨_, rfl⟩) ?_
                  refine g_iload (i := 8) hC d_M_placeFor_181 rfl ?_
                  refine g_calli hC (g_runV (q := 200) (As := [_]) (st := []) hC g_NOK_N (r_covers l D S τ2 ad0 w0 i (by omega)) (t_cwV 1 hC.1.2.2.2.2 m_406 m_408 ms_16 m_6 k_M_covers rfl rfl hd_M_covers ⟨by decide, by decide⟩) r_this rfl rfl rfl (Nat.le_of_ble_eq_true rfl) d_M_placeFor_183 ⟨by decide, by decide⟩) (fun r183 => ?_)
                  refine g_and (fun e183 => ?_)
                  rw [pb_iff covers_iff, hnw2, hJ.2.1.cx] at e183
                  subst e183
                  refine g_if_eqN (tgt := 195) hC d_M_placeFor_186 (by decide) (pb_le _) (fun h186 => ?_) (fun h186 => ?_)
                  · have g186 := pb_0 h186
                    refine g_iinc (i := 8) (k := 9) (lo' := [(8, _), (9, _), (0, _), (1, _), (2, _), (3, _), (4, _), (5, _), (6, _), (7, _)]) hC d_M_placeFor_195 rfl (nI_inc _) (by decide) rfl ?_
                    refine g_goto (tgt := 109) hC d_M_placeFor_198 (by decide) ?_
                    refine g_los [2, 3, 4, 5, 6, 7, 8, 9, 0] rfl ?_
                    exact ih2 (i + 1, τ2) ⟨by omega, hJ.2.1, hJ.2.2.1, hJ.2.2.2.skip (fun h => g186 h.2.2.2.2.2.2.2)⟩ (by dsimp only; omega)
                  · have g186 := pb_1 h186
                    have hkn : i = x ∨ mh (s_vc σ site) i := Or.inr (by unfold mh; rw [s_vc_lt (by omega)]; exact h146)
                    have h18 : i < 18 := by omega
                    have hXi : MX (s_mk σ) (s_cx σ) i (dgw (σ 8 (3 * site) + 1) (σ 8 (3 * site + 1) + 1) k) := ⟨hM.made (hkn.elim (fun q => absurd q h124) id), g177, g186⟩
                    refine g_aload_n (i := 0) hC d_M_placeFor_189 rfl rfl (Or.inr ⟨_, rfl⟩) ?_
                    refine g_iload (i := 8) hC d_M_placeFor_190 rfl ?_
                    refine g_callv hC (g_runV (q := 200) (As := [_]) (st := []) hC g_NOK_N (r_settle l D S τ2 ad0 w0 i h18 (by rw [hJ.2.1 2 (by omega) (by omega)]; exact h168) (by rw [hnw2]; exact fun t => Nat.le_trans (hdle t) (hv6 t)) (by rw [hJ.2.1.mk, hJ.2.1.cx]; exact hH) (by rw [hJ.2.1.mk, hJ.2.1.cx, hnw2]; exact g118) (by rw [hJ.2.1.mk, hJ.2.1.cx, hnw2]; exact hXi) (by rw [hnw2]; exact SOK_of hJ.2.1 hH (by omega) (by omega) hv6 hdle g118 hXi hkn h168 h18 hJ.2.2.2) (by rw [hJ.2.1.pl, hnw2]; exact hBB _ _ g118 hXi)) (t_cwV 1 hC.1.2.2.2.2 m_410 m_412 ms_17 m_6 k_M_settle rfl rfl hd_M_settle ⟨by decide, by decide⟩) r_this rfl rfl rfl (Nat.le_of_ble_eq_true rfl) d_M_placeFor_192 ⟨by decide, by decide⟩) ?_
                    refine g_iinc (i := 8) (k := 9) (lo' := [(8, _), (9, _), (0, _), (1, _), (2, _), (3, _), (4, _), (5, _), (6, _), (7, _)]) hC d_M_placeFor_195 rfl (nI_inc _) (by decide) rfl ?_
                    refine g_goto (tgt := 109) hC d_M_placeFor_198 (by decide) ?_
                    refine g_los [2, 3, 4, 5, 6, 7, 8, 9, 0] rfl ?_
                    rw [hnw2, hJ.2.1.pl]
                    have h14' : u2 τ2 13 (343 * i + mvi (dgw (σ 8 (3 * site) + 1) (σ 8 (3 * site + 1) + 1) k)) (s_pl σ i (dgw (σ 8 (3 * site) + 1) (σ 8 (3 * site + 1) + 1) k)) 14 = τ1 14 := by
                      rw [u2_ne (by omega)]
                      exact hJ.2.2.1
                    exact ih2 (i + 1, u2 τ2 13 (343 * i + mvi (dgw (σ 8 (3 * site) + 1) (σ 8 (3 * site + 1) + 1) k)) (s_pl σ i (dgw (σ 8 (3 * site) + 1) (σ 8 (3 * site + 1) + 1) k))) ⟨by omega, hJ.2.1.u2 (Or.inl rfl), h14', hJ.2.2.2.put hv6 hv3 hdle⟩ (by dsimp only; omega)
end
section
set_option maxRecDepth 100000 in
set_option maxHeartbeats 4000000 in
theorem r_find (l : Launch) (D : va_G) (S : Nat) (σ : rS) (ad0 : Nat → Nat) (w0 : gW) (site q0 z : Nat) (hs : site < 3) (hc : σ 10 site ≤ 18) (hq : q0 < σ 10 site) (hz : σ 11 (18 * site + q0) = z) (hu : ∀ i, i < σ 10 site → σ 11 (18 * site + i) = z → i = q0) : g_M l y_M_find w_M_find (rk 0) D gCl g_N [.ref (ad0 200), .int (nI site), .int (nI z)] (RX S σ ad0 w0) 0 0 (fun A => g_Qi D gCl A (fun r ad w => r = nI q0 ∧ RX S σ ad0 w0 ad w)) := by
  refine g_of (cc := c_M_find) (nL := 5) (ret := some .int) (by decide) rfl (Nat.le_of_ble_eq_true rfl) ?_
  intro pp ee ss mm bb me cc A hC hr hlk hnm
  refine g_los [0, 1, 2] (lo' := [(0, .ref (ad0 200)), (1, .int (nI site)), (2, .int (nI z))]) rfl ?_
  refine g_pure r_bl_of (fun hb => ?_)
  refine g_iconst (v := -1) hC d_M_find_0 (by decide) ?_
  refine g_istore_n (i := 3) (lo' := [(3, _), (0, _), (1, _), (2, _)]) hC d_M_find_1 rfl (by decide) rfl ?_
  refine g_iconst (v := nI 0) hC d_M_find_2 (by decide) ?_
  refine g_istore (i := 4) (lo' := [(4, _), (3, _), (0, _), (1, _), (2, _)]) hC d_M_find_3 (by decide) rfl ?_
  refine g_los [2, 3, 4, 1, 0] (lo' := [(0, _), (1, _), (2, _), (3, _), (4, _)]) rfl ?_
  refine g_loop (ι := Nat × Int32) (pc0 := 5) (fun ⟨i, v⟩ => 18 - i) (fun ⟨i, v⟩ => i ≤ σ 10 site ∧ (q0 < i → v = nI q0)) (fun ⟨i, v⟩ => RX S σ ad0 w0) (fun ⟨i, v⟩ => [(0, .ref (ad0 200)), (1, .int (nI site)), (2, .int (nI z)), (3, .int v), (4, .int (nI i))]) ?_ (0, -1) (⟨Nat.zero_le _, fun q => absurd q (Nat.not_lt_zero _)⟩)
  rintro ⟨i, v⟩ hI ih
  try dsimp only at hI ih ⊢
  refine g_iload (i := 4) hC d_M_find_5 rfl ?_
  refine g_aload_n (i := 0) hC d_M_find_7 rfl rfl (Or.inr ⟨_, rfl⟩) ?_
  refine g_get hC (fun x h => List.mem_cons_of_mem _ (in_M x h)) 200 r_this rfl 10 (by decide) (List.mem_cons_of_mem _ m_330) rfl rfl d_M_find_8 ?_
  refine g_iload_n (i := 1) hC d_M_find_11 rfl rfl ?_
  refine r_ld 10 hC (by decide) (by decide) rfl (fun _ => rfl) (by simp only [r_ln]; omega) d_M_find_12 ?_
  refine g_icmp_geN (tgt := 45) hC d_M_find_13 (by decide) (by first | omega | exact r_lt hb _ _ | exact pb_le _) (by first | omega | exact r_lt hb _ _ | exact pb_le _) (fun h13 => ?_) (fun h13 => ?_)
  · refine g_iload_n (i := 3) hC d_M_find_45 rfl rfl ?_
    refine g_iret hC hr hlk d_M_find_46 (by decide) (by decide) (fun ad w hw => ?_)
    exact ⟨hI.2 (by omega), hw⟩
  · refine g_aload_n (i := 0) hC d_M_find_16 rfl rfl (Or.inr ⟨_, rfl⟩) ?_
    refine g_get hC (fun x h => List.mem_cons_of_mem _ (in_M x h)) 200 r_this rfl 11 (by decide) (List.mem_cons_of_mem _ m_331) rfl rfl d_M_find_17 ?_
    refine g_bipush (v := nI 18) hC d_M_find_20 (by decide) ?_
    refine g_iload_n (i := 1) hC d_M_find_22 rfl rfl ?_
    refine g_imulN hC d_M_find_23 ?_
    refine g_iload (i := 4) hC d_M_find_24 rfl ?_
    refine g_iaddN hC d_M_find_26 ?_
    refine r_ld 11 hC (by decide) (by decide) rfl (fun _ => rfl) (by simp only [r_ln]; omega) d_M_find_27 ?_
    refine g_iload_n (i := 2) hC d_M_find_28 rfl rfl ?_
    refine g_icmp_neN (tgt := 37) hC d_M_find_29 (by decide) (r_lt hb _ _) (by rw [← hz]; exact r_lt hb _ _) (fun h29 => ?_) (fun h29 => ?_)
    · refine g_iload_n (i := 3) hC d_M_find_37 rfl rfl ?_
      refine g_istore_n (i := 3) (lo' := [(3, _), (0, _), (1, _), (2, _), (4, _)]) hC d_M_find_38 rfl (by decide) rfl ?_
      refine g_iinc (i := 4) (k := 4) (lo' := [(4, _), (3, _), (0, _), (1, _), (2, _)]) hC d_M_find_39 rfl (nI_inc _) (by decide) rfl ?_
      refine g_goto (tgt := 5) hC d_M_find_42 (by decide) ?_
      refine g_los [2, 3, 4, 1, 0] rfl ?_
      exact ih (i + 1, v) ⟨by omega, fun q => hI.2 (by
        rcases (show q0 = i ∨ q0 < i by omega) with rfl | q1
        · exact absurd hz h29
        · exact q1)⟩ (by dsimp only; omega)
    · refine g_iload (i := 4) hC d_M_find_32 rfl ?_
      refine g_goto (tgt := 38) hC d_M_find_34 (by decide) ?_
      refine g_istore_n (i := 3) (lo' := [(3, _), (0, _), (1, _), (2, _), (4, _)]) hC d_M_find_38 rfl (by decide) rfl ?_
      refine g_iinc (i := 4) (k := 4) (lo' := [(4, _), (3, _), (0, _), (1, _), (2, _)]) hC d_M_find_39 rfl (nI_inc _) (by decide) rfl ?_
      refine g_goto (tgt := 5) hC d_M_find_42 (by decide) ?_
      refine g_los [2, 3, 4, 1, 0] rfl ?_
      exact ih (i + 1, nI i) ⟨by omega, fun q => by rw [hu i (by omega) h29]⟩ (by dsimp only; omega)
/-- the cells above i moved up by one -/
def shS (σ : rS) (s i c : Nat) : rS := fun k j => if (k = 11 ∨ k = 12) ∧ 18 * s + i < j ∧ j ≤ 18 * s + c then σ k (j - 1) else σ k j
theorem shS_ne {σ : rS} {s i c k : Nat} (h : ¬ (k = 11 ∨ k = 12)) : shS σ s i c k = σ k := by
  funext j
  exact if_neg (fun q => h q.1)
theorem shS_lo {σ : rS} {s i c k j : Nat} (h : j ≤ 18 * s + i) : shS σ s i c k j = σ k j := if_neg (by omega)
theorem shS_0 {σ : rS} {s c : Nat} : shS σ s c c = σ := by
  funext k j
  exact if_neg (by omega)
theorem shS_s {σ : rS} {s i c a b : Nat} (h0 : 0 < i) (hc : i ≤ c) (ha : a = σ 11 (18 * s + i - 1)) (hb : b = σ 12 (18 * s + i - 1)) : u2 (u2 (shS σ s i c) 11 (18 * s + i) a) 12 (18 * s + i) b = shS σ s (i - 1) c := by
  funext k j
  unfold u2 shS
  by_cases h12 : k = 12 ∧ j = 18 * s + i
  · rw [if_pos h12, if_pos (by omega), h12.1, h12.2, hb]
  · rw [if_neg h12]
    by_cases h11 : k = 11 ∧ j = 18 * s + i
    · rw [if_pos h11, if_pos (by omega), h11.1, h11.2, ha]
    · rw [if_neg h11]
      by_cases q : (k = 11 ∨ k = 12) ∧ 18 * s + i < j ∧ j ≤ 18 * s + c
      · rw [if_pos q, if_pos (by omega)]
      · rw [if_neg q, if_neg (by omega)]
theorem ex_ins {σ τ : rS} {s o p a b : Nat} (hE : E12 σ τ) (hi : σ 2 o ≠ 0) (hp : p ≤ σ 10 s) (ha : a = σ 10 s + 1) (hb : b = σ 8 (3 * s + o / 6) + 1) : E12 (exS σ s o p) (u2 (u2 (u2 (u2 (shS (u2 τ 7 (18 * s + o) (p + 1)) s p (σ 10 s)) 11 (18 * s + p) o) 12 (18 * s + p) 1) 10 s a) 8 (3 * s + o / 6) b) := by
  intro k h13 h14
  have e := hE k h13 h14
  funext j
  by_cases k8 : k = 8
  · subst k8
    rw [u2_in, u2_ne (by omega), u2_ne (by omega), u2_ne (by omega), shS_ne (by omega), u2_ne (by omega), e, exS_8, hb]
    split
    · rename_i q
      rw [q]
    · rfl
  rw [u2_ne k8]
  by_cases k10 : k = 10
  · subst k10
    rw [u2_in, u2_ne (by omega), u2_ne (by omega), shS_ne (by omega), u2_ne (by omega), e, exS_10, ha]
    by_cases q : j = s
    · rw [if_pos q, if_pos ⟨hi, q⟩, q]
    · rw [if_neg q, if_neg (fun z => q z.2)]
  rw [u2_ne k10]
  by_cases k12 : k = 12
  · subst k12
    rw [u2_in, u2_ne (by omega), exS_12, if_pos hi]
    unfold shS
    rw [u2_ne (by omega), e]
    by_cases q : j = 18 * s + p
    · rw [if_pos q, if_pos (by omega), if_pos q]
    · rw [if_neg q]
      by_cases z : 18 * s + p < j ∧ j ≤ 18 * s + σ 10 s
      · rw [if_pos ⟨Or.inr rfl, z⟩, if_pos (by omega), if_neg q]
      · rw [if_neg (fun y => z y.2), if_neg (by omega)]
  rw [u2_ne k12]
  by_cases k11 : k = 11
  · subst k11
    rw [u2_in, exS_11]
    unfold shS
    rw [u2_ne (by omega), e]
    by_cases q : j = 18 * s + p
    · rw [if_pos q, if_pos ⟨hi, by omega, by omega⟩, if_pos q]
    · rw [if_neg q]
      by_cases z : 18 * s + p < j ∧ j ≤ 18 * s + σ 10 s
      · rw [if_pos ⟨Or.inl rfl, z⟩, if_pos (c := σ 2 o ≠ 0 ∧ 18 * s + p ≤ j ∧ j ≤ 18 * s + σ 10 s) ⟨hi, by omega, z.2⟩, if_neg q]
      · rw [if_neg (fun y => z y.2), if_neg (by omega)]
  rw [u2_ne k11, shS_ne (by omega)]
  by_cases k7 : k = 7
  · subst k7
    rw [u2_in, e, exS_7]
  rw [u2_ne k7, e]
  unfold exS
  rw [if_neg (by omega), if_neg (by omega), if_pos hi, if_neg (by omega), if_neg (by omega), if_neg (by omega)]
theorem ex_era {σ τ : rS} {s o p b : Nat} (hE : E12 σ τ) (hi : σ 2 o = 0) (hb : b = σ 8 (3 * s + o / 6) + 1) : E12 (exS σ s o p) (u2 (u2 (u2 τ 7 (18 * s + o) (p + 1)) 12 (18 * s + p) 0) 8 (3 * s + o / 6) b) := by
  intro k h13 h14
  have e := hE k h13 h14
  funext j
  by_cases k8 : k = 8
  · subst k8
    rw [u2_in, u2_ne (by omega), u2_ne (by omega), e, exS_8, hb]
    split
    · rename_i q
      rw [q]
    · rfl
  rw [u2_ne k8]
  by_cases k12 : k = 12
  · subst k12
    rw [u2_in, u2_ne (by omega), e, exS_12, if_neg (c := σ 2 o ≠ 0) (fun z => z hi)]
  rw [u2_ne k12]
  by_cases k7 : k = 7
  · subst k7
    rw [u2_in, e, exS_7]
  rw [u2_ne k7, e]
  unfold exS
  rw [if_neg (by omega), if_neg (by omega), if_neg (fun z => z hi), if_neg (by omega)]
theorem pl_bound {S : Nat} {σ : rS} (h : IH S σ) : ∀ o u, MC (s_mk σ) (s_cx σ) u → MX (s_mk σ) (s_cx σ) o u → s_pl σ o u < 1000 := fun o u hM hX => by
  have := mplace_in h.2.2.1 (fun o => if σ 2 o = 0 then 1 else 0) (fun o ho => (h.2.2.2 o ho).1) _ _ _ rfl hM hX
  have := mcnt_18 (σ 2) u
  unfold s_pl
  omega
set_option maxRecDepth 100000 in
set_option maxHeartbeats 4000000 in
theorem r_execute (l : Launch) (D : va_G) (S : Nat) (σ : rS) (ad0 : Nat → Nat) (w0 : gW) (site o : Nat) (hs : site < 3) (hIH : IH S σ) (hIW : IW σ site) (hR : RDY σ site o) : g_M l y_M_execute w_M_execute (rk 4) D gCl g_N [.ref (ad0 200), .int (nI site), .int (nI o)] (RX S σ ad0 w0) 0 0 (fun A => g_Qv D gCl A (fun ad w => ∃ σ', E12 (exS σ site o (s_pl σ o (s_vc σ site))) σ' ∧ RX S σ' ad0 w0 ad w)) := by
  have ho := hIH.lt18 hR.1
  have hX : MX (s_mk σ) (s_cx σ) o (s_vc σ site) := MX.ready hR.1 hR.2.1 hR.2.2.1
  obtain ⟨hpin, hc18⟩ := hR.in hIH hIW
  have hcnt : σ 10 site ≤ 18 := INV.in18 (S := S) hIW
  have hv8 : σ 8 (3 * site + o / 6) ≤ 6 := by
    have := hIW.1.le6 hIH.2.2.1 (o / 6)
    rw [s_vc_lt (by omega)] at this
    exact this
  refine g_of (cc := c_M_execute) (nL := 6) (ret := none) (by decide) rfl (Nat.le_of_ble_eq_true rfl) ?_
  intro pp ee ss mm bb me cc A hC hr hlk hnm
  refine g_los [0, 1, 2] (lo' := [(0, .ref (ad0 200)), (1, .int (nI site)), (2, .int (nI o))]) rfl ?_
  refine g_pure r_bl_of (fun hb => ?_)
  refine g_aload_n (i := 0) hC d_M_execute_0 rfl rfl (Or.inr ⟨_, rfl⟩) ?_
  refine g_get hC (fun x h => List.mem_cons_of_mem _ (in_M x h)) 200 r_this rfl 2 (by decide) (List.mem_cons_of_mem _ m_322) rfl rfl d_M_execute_1 ?_
  refine g_iload_n (i := 2) hC d_M_execute_4 rfl rfl ?_
  refine r_zld 2 hC (by decide) (by decide) rfl (fun _ => rfl) (by simp only [r_ln]; omega) d_M_execute_5 ?_
  refine g_if_eqN (tgt := 18) hC d_M_execute_6 (by decide) (r_lt hb _ _) (fun h6 => ?_) (fun h6 => ?_)
  · have hpin : s_pl σ o (s_vc σ site) < σ 10 site := by
      rw [if_pos h6] at hpin
      omega
    obtain ⟨h4e, h9e⟩ := (hIH.2.2.2 o hR.1).2.1 h6
    have hrow : s_row σ (s_vc σ site) (s_pl σ o (s_vc σ site)) = s_row σ (s_cx σ o) (σ 3 o) := mrow_erase (tg := fun _ => s_row σ (s_cx σ o) (σ 3 o)) hIH.2.2.1 h6 rfl (fun t ht => if_neg (by omega)) _ _ rfl hIW.1 hX
    have hcell := (hIW.2.2.1 _ hpin).1
    rw [hrow] at hcell
    refine g_aload_n (i := 0) hC d_M_execute_18 rfl rfl (Or.inr ⟨_, rfl⟩) ?_
    refine g_iload_n (i := 1) hC d_M_execute_19 rfl rfl ?_
    refine g_aload_n (i := 0) hC d_M_execute_20 rfl rfl (Or.inr ⟨_, rfl⟩) ?_
    refine g_get hC (fun x h => List.mem_cons_of_mem _ (in_M x h)) 200 r_this rfl 9 (by decide) (List.mem_cons_of_mem _ m_329) rfl rfl d_M_execute_21 ?_
    refine g_iload_n (i := 2) hC d_M_execute_24 rfl rfl ?_
    refine r_lde 9 hC (by decide) (by decide) rfl (fun _ => rfl) (by simp only [r_ln]; omega) d_M_execute_25 ?_
    rw [show nI (σ 9 o) - 1 = nI (s_row σ (s_cx σ o) (σ 3 o)) by rw [h9e, Nat.add_comm, nI_pred]]
    refine g_calli hC (g_runV (q := 200) (As := [_, _]) (st := []) hC g_NOK_N (r_find l D S σ ad0 w0 site (s_pl σ o (s_vc σ site)) (s_row σ (s_cx σ o) (σ 3 o)) hs hcnt hpin hcell (fun i hi q => hIW.2.2.2.1 i _ hi hpin (q.trans hcell.symm))) (t_cwV 2 hC.1.2.2.2.2 m_425 m_427 ms_20 m_6 k_M_find rfl rfl hd_M_find ⟨by decide, by decide⟩) r_this rfl rfl rfl (Nat.le_of_ble_eq_true rfl) d_M_execute_26 ⟨by decide, by decide⟩) (fun r26 => ?_)
    refine g_and (fun e26 => ?_)
    subst e26
    refine g_istore_n (i := 3) (lo' := [(3, _), (0, _), (1, _), (2, _)]) hC d_M_execute_29 rfl (by decide) rfl ?_
    have hE : E12 σ σ := E12.refl σ
    refine g_aload_n (i := 0) hC d_M_execute_30 rfl rfl (Or.inr ⟨_, rfl⟩) ?_
    refine g_get hC (fun x h => List.mem_cons_of_mem _ (in_M x h)) 200 r_this rfl 7 (by decide) (List.mem_cons_of_mem _ m_327) rfl rfl d_M_execute_31 ?_
    refine g_bipush (v := nI 18) hC d_M_execute_34 (by decide) ?_
    refine g_iload_n (i := 1) hC d_M_execute_36 rfl rfl ?_
    refine g_imulN hC d_M_execute_37 ?_
    refine g_iload_n (i := 2) hC d_M_execute_38 rfl rfl ?_
    refine g_iaddN hC d_M_execute_39 ?_
    refine g_iload_n (i := 3) hC d_M_execute_40 rfl rfl ?_
    refine r_ste 7 hC (by decide) (by decide) rfl (fun _ => rfl) (by decide) (nI_pred _).symm (by omega) (by simp only [r_ln]; omega) d_M_execute_41 ?_
    refine g_pure r_bl_of (fun hb1 => ?_)
    refine g_bipush (v := nI 18) hC d_M_execute_42 (by decide) ?_
    refine g_iload_n (i := 1) hC d_M_execute_44 rfl rfl ?_
    refine g_imulN hC d_M_execute_45 ?_
    refine g_istore (i := 4) (lo' := [(4, _), (3, _), (0, _), (1, _), (2, _)]) hC d_M_execute_46 (by decide) rfl ?_
    refine g_aload_n (i := 0) hC d_M_execute_48 rfl rfl (Or.inr ⟨_, rfl⟩) ?_
    refine g_get hC (fun x h => List.mem_cons_of_mem _ (in_M x h)) 200 r_this rfl 2 (by decide) (List.mem_cons_of_mem _ m_322) rfl rfl d_M_execute_49 ?_
    refine g_iload_n (i := 2) hC d_M_execute_52 rfl rfl ?_
    refine r_zld 2 hC (by decide) (by decide) rfl (fun _ => rfl) (by simp only [r_ln]; omega) d_M_execute_53 ?_
    rw [u2_ne (a := 2) (by omega)]
    refine g_if_eqN (tgt := 154) hC d_M_execute_54 (by decide) (r_lt hb _ _) (fun h54 => ?_) (fun h54 => ?_)
    · refine g_aload_n (i := 0) hC d_M_execute_154 rfl rfl (Or.inr ⟨_, rfl⟩) ?_
      refine g_get hC (fun x h => List.mem_cons_of_mem _ (in_M x h)) 200 r_this rfl 12 (by decide) (List.mem_cons_of_mem _ m_332) rfl rfl d_M_execute_155 ?_
      refine g_iload (i := 4) hC d_M_execute_158 rfl ?_
      refine g_iload_n (i := 3) hC d_M_execute_160 rfl rfl ?_
      refine g_iaddN hC d_M_execute_161 ?_
      refine g_iconst (v := nI 0) hC d_M_execute_162 (by decide) ?_
      refine r_zst 12 hC (by decide) (by decide) rfl (fun _ => rfl) (by decide) (by simp only [r_ln]; omega) d_M_execute_163 ?_
      refine g_aload_n (i := 0) hC d_M_execute_164 rfl rfl (Or.inr ⟨_, rfl⟩) ?_
      refine g_get hC (fun x h => List.mem_cons_of_mem _ (in_M x h)) 200 r_this rfl 8 (by decide) (List.mem_cons_of_mem _ m_328) rfl rfl d_M_execute_165 ?_
      refine g_iconst (v := nI 3) hC d_M_execute_168 (by decide) ?_
      refine g_iload_n (i := 1) hC d_M_execute_169 rfl rfl ?_
      refine g_imulN hC d_M_execute_170 ?_
      refine g_iload_n (i := 2) hC d_M_execute_171 rfl rfl ?_
      refine g_bipush (v := nI 6) hC d_M_execute_172 (by decide) ?_
      refine g_idivN hC d_M_execute_174 (by omega) (by omega) (by omega) ?_
      refine g_iaddN hC d_M_execute_175 ?_
      refine g_dup2 hC d_M_execute_176 rfl rfl ?_
      refine r_ld 8 hC (by decide) (by decide) rfl (fun _ => rfl) (by simp only [r_ln]; omega) d_M_execute_177 ?_
      rw [u2_ne (a := 8) (by omega), u2_ne (a := 8) (by omega)]
      refine g_iconst (v := nI 1) hC d_M_execute_178 (by decide) ?_
      refine g_iaddN hC d_M_execute_179 ?_
      refine r_st 8 hC (by decide) (by decide) rfl (fun _ => rfl) (by decide) (by omega) (by simp only [r_ln]; omega) d_M_execute_180 ?_
      refine g_vret hC hr hlk d_M_execute_181 (by decide) (by decide) (fun ad w hw => ?_)
      exact ⟨_, ex_era hE h6 rfl, hw⟩
    · exact absurd h6 h54
  · have hpin : s_pl σ o (s_vc σ site) ≤ σ 10 site := by
      rw [if_neg h6] at hpin
      omega
    have hc18 := hc18 h6
    refine g_aload_n (i := 0) hC d_M_execute_9 rfl rfl (Or.inr ⟨_, rfl⟩) ?_
    refine g_iload_n (i := 2) hC d_M_execute_10 rfl rfl ?_
    refine g_iload_n (i := 1) hC d_M_execute_11 rfl rfl ?_
    refine g_calli hC (g_runV (q := 200) (As := [_, _]) (st := []) hC g_NOK_N (r_placeFor l D S σ ad0 w0 o site hs h6 hIH.2.2.1 hIW.1 hX (pl_bound hIH)) (t_cwV 2 hC.1.2.2.2.2 m_394 m_396 ms_13 m_6 k_M_placeFor rfl rfl hd_M_placeFor ⟨by decide, by decide⟩) r_this rfl rfl rfl (Nat.le_of_ble_eq_true rfl) d_M_execute_12 ⟨by decide, by decide⟩) (fun r12 => ?_)
    refine g_ex (fun τ => g_and (fun e12 => ?_))
    obtain ⟨hE, rfl⟩ := e12
    refine g_goto (tgt := 29) hC d_M_execute_15 (by decide) ?_
    refine g_istore_n (i := 3) (lo' := [(3, _), (0, _), (1, _), (2, _)]) hC d_M_execute_29 rfl (by decide) rfl ?_
    refine g_aload_n (i := 0) hC d_M_execute_30 rfl rfl (Or.inr ⟨_, rfl⟩) ?_
    refine g_get hC (fun x h => List.mem_cons_of_mem _ (in_M x h)) 200 r_this rfl 7 (by decide) (List.mem_cons_of_mem _ m_327) rfl rfl d_M_execute_31 ?_
    refine g_bipush (v := nI 18) hC d_M_execute_34 (by decide) ?_
    refine g_iload_n (i := 1) hC d_M_execute_36 rfl rfl ?_
    refine g_imulN hC d_M_execute_37 ?_
    refine g_iload_n (i := 2) hC d_M_execute_38 rfl rfl ?_
    refine g_iaddN hC d_M_execute_39 ?_
    refine g_iload_n (i := 3) hC d_M_execute_40 rfl rfl ?_
    refine r_ste 7 hC (by decide) (by decide) rfl (fun _ => rfl) (by decide) (nI_pred _).symm (by omega) (by simp only [r_ln]; omega) d_M_execute_41 ?_
    refine g_pure r_bl_of (fun hb1 => ?_)
    refine g_bipush (v := nI 18) hC d_M_execute_42 (by decide) ?_
    refine g_iload_n (i := 1) hC d_M_execute_44 rfl rfl ?_
    refine g_imulN hC d_M_execute_45 ?_
    refine g_istore (i := 4) (lo' := [(4, _), (3, _), (0, _), (1, _), (2, _)]) hC d_M_execute_46 (by decide) rfl ?_
    refine g_aload_n (i := 0) hC d_M_execute_48 rfl rfl (Or.inr ⟨_, rfl⟩) ?_
    refine g_get hC (fun x h => List.mem_cons_of_mem _ (in_M x h)) 200 r_this rfl 2 (by decide) (List.mem_cons_of_mem _ m_322) rfl rfl d_M_execute_49 ?_
    refine g_iload_n (i := 2) hC d_M_execute_52 rfl rfl ?_
    refine r_zld 2 hC (by decide) (by decide) rfl (fun _ => rfl) (by simp only [r_ln]; omega) d_M_execute_53 ?_
    rw [u2_ne (a := 2) (by omega), hE 2 (by omega) (by omega)]
    refine g_if_eqN (tgt := 154) hC d_M_execute_54 (by decide) (r_lt hb _ _) (fun h54 => ?_) (fun h54 => ?_)
    · exact absurd h54 h6
    · refine g_aload_n (i := 0) hC d_M_execute_57 rfl rfl (Or.inr ⟨_, rfl⟩) ?_
      refine g_get hC (fun x h => List.mem_cons_of_mem _ (in_M x h)) 200 r_this rfl 10 (by decide) (List.mem_cons_of_mem _ m_330) rfl rfl d_M_execute_58 ?_
      refine g_iload_n (i := 1) hC d_M_execute_61 rfl rfl ?_
      refine r_ld 10 hC (by decide) (by decide) rfl (fun _ => rfl) (by simp only [r_ln]; omega) d_M_execute_62 ?_
      rw [u2_ne (a := 10) (by omega), hE 10 (by omega) (by omega)]
      refine g_istore (i := 5) (lo' := [(5, _), (4, _), (3, _), (0, _), (1, _), (2, _)]) hC d_M_execute_63 (by decide) rfl ?_
      rw [show RX S (u2 τ 7 (18 * site + o) (s_pl σ o (s_vc σ site) + 1)) ad0 w0 = RX S (shS (u2 τ 7 (18 * site + o) (s_pl σ o (s_vc σ site) + 1)) site (σ 10 site) (σ 10 site)) ad0 w0 by rw [shS_0]]
      refine g_los [3, 4, 5, 2, 1, 0] (lo' := [(0, _), (1, _), (2, _), (3, _), (4, _), (5, _)]) rfl ?_
      refine g_loop (ι := Nat) (pc0 := 65) (fun i => i) (fun i => s_pl σ o (s_vc σ site) ≤ i ∧ i ≤ σ 10 site) (fun i => RX S (shS (u2 τ 7 (18 * site + o) (s_pl σ o (s_vc σ site) + 1)) site i (σ 10 site)) ad0 w0) (fun i => [(0, .ref (ad0 200)), (1, .int (nI site)), (2, .int (nI o)), (3, .int (nI (s_pl σ o (s_vc σ site)))), (4, .int (nI (18 * site))), (5, .int (nI i))]) ?_ (σ 10 site) (⟨hpin, Nat.le_refl _⟩)
      rintro i hI ih
      try dsimp only at hI ih ⊢
      refine g_pure r_bl_of (fun hb2 => ?_)
      refine g_iload (i := 5) hC d_M_execute_65 rfl ?_
      refine g_iload_n (i := 3) hC d_M_execute_67 rfl rfl ?_
      refine g_icmp_leN (tgt := 121) hC d_M_execute_68 (by decide) (by first | omega | exact r_lt hb _ _ | exact pb_le _) (by first | omega | exact r_lt hb _ _ | exact pb_le _) (fun h68 => ?_) (fun h68 => ?_)
      · have e68 : i = s_pl σ o (s_vc σ site) := by omega
        subst e68
        refine g_aload_n (i := 0) hC d_M_execute_121 rfl rfl (Or.inr ⟨_, rfl⟩) ?_
        refine g_get hC (fun x h => List.mem_cons_of_mem _ (in_M x h)) 200 r_this rfl 11 (by decide) (List.mem_cons_of_mem _ m_331) rfl rfl d_M_execute_122 ?_
        refine g_iload (i := 4) hC d_M_execute_125 rfl ?_
        refine g_iload_n (i := 3) hC d_M_execute_127 rfl rfl ?_
        refine g_iaddN hC d_M_execute_128 ?_
        refine g_iload_n (i := 2) hC d_M_execute_129 rfl rfl ?_
        refine r_st 11 hC (by decide) (by decide) rfl (fun _ => rfl) (by decide) (by omega) (by simp only [r_ln]; omega) d_M_execute_130 ?_
        refine g_aload_n (i := 0) hC d_M_execute_131 rfl rfl (Or.inr ⟨_, rfl⟩) ?_
        refine g_get hC (fun x h => List.mem_cons_of_mem _ (in_M x h)) 200 r_this rfl 12 (by decide) (List.mem_cons_of_mem _ m_332) rfl rfl d_M_execute_132 ?_
        refine g_iload (i := 4) hC d_M_execute_135 rfl ?_
        refine g_iload_n (i := 3) hC d_M_execute_137 rfl rfl ?_
        refine g_iaddN hC d_M_execute_138 ?_
        refine g_iconst (v := nI 1) hC d_M_execute_139 (by decide) ?_
        refine r_zst 12 hC (by decide) (by decide) rfl (fun _ => rfl) (by decide) (by simp only [r_ln]; omega) d_M_execute_140 ?_
        refine g_aload_n (i := 0) hC d_M_execute_141 rfl rfl (Or.inr ⟨_, rfl⟩) ?_
        refine g_get hC (fun x h => List.mem_cons_of_mem _ (in_M x h)) 200 r_this rfl 10 (by decide) (List.mem_cons_of_mem _ m_330) rfl rfl d_M_execute_142 ?_
        refine g_iload_n (i := 1) hC d_M_execute_145 rfl rfl ?_
        refine g_dup2 hC d_M_execute_146 rfl rfl ?_
        refine r_ld 10 hC (by decide) (by decide) rfl (fun _ => rfl) (by simp only [r_ln]; omega) d_M_execute_147 ?_
        rw [u2_ne (a := 10) (by omega), u2_ne (a := 10) (by omega), shS_ne (k := 10) (by omega), u2_ne (a := 10) (by omega), hE 10 (by omega) (by omega)]
        refine g_iconst (v := nI 1) hC d_M_execute_148 (by decide) ?_
        refine g_iaddN hC d_M_execute_149 ?_
        refine r_st 10 hC (by decide) (by decide) rfl (fun _ => rfl) (by decide) (by omega) (by simp only [r_ln]; omega) d_M_execute_150 ?_
        refine g_goto (tgt := 164) hC d_M_execute_151 (by decide) ?_
        refine g_aload_n (i := 0) hC d_M_execute_164 rfl rfl (Or.inr ⟨_, rfl⟩) ?_
        refine g_get hC (fun x h => List.mem_cons_of_mem _ (in_M x h)) 200 r_this rfl 8 (by decide) (List.mem_cons_of_mem _ m_328) rfl rfl d_M_execute_165 ?_
        refine g_iconst (v := nI 3) hC d_M_execute_168 (by decide) ?_
        refine g_iload_n (i := 1) hC d_M_execute_169 rfl rfl ?_
        refine g_imulN hC d_M_execute_170 ?_
        refine g_iload_n (i := 2) hC d_M_execute_171 rfl rfl ?_
        refine g_bipush (v := nI 6) hC d_M_execute_172 (by decide) ?_
        refine g_idivN hC d_M_execute_174 (by omega) (by omega) (by omega) ?_
        refine g_iaddN hC d_M_execute_175 ?_
        refine g_dup2 hC d_M_execute_176 rfl rfl ?_
        refine r_ld 8 hC (by decide) (by decide) rfl (fun _ => rfl) (by simp only [r_ln]; omega) d_M_execute_177 ?_
        rw [u2_ne (a := 8) (by omega), u2_ne (a := 8) (by omega), u2_ne (a := 8) (by omega), shS_ne (k := 8) (by omega), u2_ne (a := 8) (by omega), hE 8 (by omega) (by omega)]
        refine g_iconst (v := nI 1) hC d_M_execute_178 (by decide) ?_
        refine g_iaddN hC d_M_execute_179 ?_
        refine r_st 8 hC (by decide) (by decide) rfl (fun _ => rfl) (by decide) (by omega) (by simp only [r_ln]; omega) d_M_execute_180 ?_
        refine g_vret hC hr hlk d_M_execute_181 (by decide) (by decide) (fun ad w hw => ?_)
        exact ⟨_, ex_ins hE h6 hpin rfl rfl, hw⟩
      · refine g_aload_n (i := 0) hC d_M_execute_71 rfl rfl (Or.inr ⟨_, rfl⟩) ?_
        refine g_get hC (fun x h => List.mem_cons_of_mem _ (in_M x h)) 200 r_this rfl 11 (by decide) (List.mem_cons_of_mem _ m_331) rfl rfl d_M_execute_72 ?_
        refine g_iload (i := 4) hC d_M_execute_75 rfl ?_
        refine g_iload (i := 5) hC d_M_execute_77 rfl ?_
        refine g_iaddN hC d_M_execute_79 ?_
        refine g_aload_n (i := 0) hC d_M_execute_80 rfl rfl (Or.inr ⟨_, rfl⟩) ?_
        refine g_get hC (fun x h => List.mem_cons_of_mem _ (in_M x h)) 200 r_this rfl 11 (by decide) (List.mem_cons_of_mem _ m_331) rfl rfl d_M_execute_81 ?_
        refine g_iload (i := 4) hC d_M_execute_84 rfl ?_
        refine g_iload (i := 5) hC d_M_execute_86 rfl ?_
        refine g_iaddN hC d_M_execute_88 ?_
        refine g_iconst (v := nI 1) hC d_M_execute_89 (by decide) ?_
        refine g_isubN hC d_M_execute_90 (by omega) ?_
        refine r_ld 11 hC (by decide) (by decide) rfl (fun _ => rfl) (by simp only [r_ln]; omega) d_M_execute_91 ?_
        refine r_st 11 hC (by decide) (by decide) rfl (fun _ => rfl) (by decide) (r_lt1 hb2 _ _) (by simp only [r_ln]; omega) d_M_execute_92 ?_
        refine g_aload_n (i := 0) hC d_M_execute_93 rfl rfl (Or.inr ⟨_, rfl⟩) ?_
        refine g_get hC (fun x h => List.mem_cons_of_mem _ (in_M x h)) 200 r_this rfl 12 (by decide) (List.mem_cons_of_mem _ m_332) rfl rfl d_M_execute_94 ?_
        refine g_iload (i := 4) hC d_M_execute_97 rfl ?_
        refine g_iload (i := 5) hC d_M_execute_99 rfl ?_
        refine g_iaddN hC d_M_execute_101 ?_
        refine g_aload_n (i := 0) hC d_M_execute_102 rfl rfl (Or.inr ⟨_, rfl⟩) ?_
        refine g_get hC (fun x h => List.mem_cons_of_mem _ (in_M x h)) 200 r_this rfl 12 (by decide) (List.mem_cons_of_mem _ m_332) rfl rfl d_M_execute_103 ?_
        refine g_iload (i := 4) hC d_M_execute_106 rfl ?_
        refine g_iload (i := 5) hC d_M_execute_108 rfl ?_
        refine g_iaddN hC d_M_execute_110 ?_
        refine g_iconst (v := nI 1) hC d_M_execute_111 (by decide) ?_
        refine g_isubN hC d_M_execute_112 (by omega) ?_
        refine r_zld 12 hC (by decide) (by decide) rfl (fun _ => rfl) (by simp only [r_ln]; omega) d_M_execute_113 ?_
        refine r_zst 12 hC (by decide) (by decide) rfl (fun _ => rfl) (by rw [u2_ne (by omega)]; exact (hb2 12 _).2 (by decide)) (by simp only [r_ln]; omega) d_M_execute_114 ?_
        refine g_iinc (i := 5) (k := 5) (lo' := [(5, _), (0, _), (1, _), (2, _), (3, _), (4, _)]) hC d_M_execute_115 rfl (nI_dec (by omega)) (by decide) rfl ?_
        refine g_goto (tgt := 65) hC d_M_execute_118 (by decide) ?_
        refine g_los [1, 2, 3, 4, 5, 0] rfl ?_
        rw [shS_s (by omega) hI.2 (shS_lo (by omega)) (by rw [u2_ne (by omega)]; exact shS_lo (by omega))]
        exact ih (i - 1) ⟨by omega, by omega⟩ (by omega)
end
section
theorem E12.ih {S : Nat} {σ σ' : rS} (h : E12 σ σ') (hI : IH S σ) : IH S σ' := by
  unfold IH
  rw [h.mk, h.cx, h.row, h 1 (by omega) (by omega), h 2 (by omega) (by omega), h 3 (by omega) (by omega), h 4 (by omega) (by omega), h 9 (by omega) (by omega)]
  exact hI
theorem E12.iw {σ σ' : rS} {s : Nat} (h : E12 σ σ') (hI : IW σ s) : IW σ' s := by
  unfold IW
  rw [h.mk, h.cx, h.row, h.vc, h 2 (by omega) (by omega), h 6 (by omega) (by omega), h 7 (by omega) (by omega), h 10 (by omega) (by omega), h 11 (by omega) (by omega)]
  exact hI
theorem E12.rdy {σ σ' : rS} {s o : Nat} (h : E12 σ σ') (hI : RDY σ s o) : RDY σ' s o := by
  unfold RDY
  rw [h.mk, h.cx, h.vc, h 6 (by omega) (by omega)]
  exact hI
theorem E12.wt {σ σ' : rS} (h : E12 σ σ') (s o : Nat) : WT σ' s o ↔ WT σ s o := by
  unfold WT
  rw [h.cx, h.vc, h 6 (by omega) (by omega), h 7 (by omega) (by omega)]
theorem E12.ex {σ σ' : rS} (h : E12 σ σ') (s o p : Nat) : E12 (exS σ s o p) (exS σ' s o p) := by
  intro k h1 h2
  funext j
  unfold exS
  rw [h 2 (by omega) (by omega), h 8 (by omega) (by omega), h 10 (by omega) (by omega), h 11 (by omega) (by omega), h 12 (by omega) (by omega), h k h1 h2]
theorem E12.inv {S : Nat} {σ σ' : rS} (h : E12 σ σ') (hI : INV S σ) : INV S σ' := ⟨h.ih hI.1, fun s hs => ⟨h.iw (hI.2 s hs).1, by rw [h.vc, h.mk]; exact (hI.2 s hs).2⟩⟩
theorem E12.symm {σ σ' : rS} (h : E12 σ σ') : E12 σ' σ := fun k h1 h2 => (h k h1 h2).symm
def RQ (σ : rS) (s o n : Nat) : Prop := σ 8 (3 * s + o / 6) = o % 6 ∧ ∀ t, t < n → t = o / 6 ∨ σ 5 (3 * o + t) ≤ σ 8 (3 * s + t)
theorem WT_iff {σ : rS} {s o : Nat} (ho : o < 18) : WT σ s o ↔ σ 6 (18 * s + o) ≠ 0 ∧ σ 7 (18 * s + o) = 0 ∧ RQ σ s o 3 := by
  unfold WT RQ
  rw [s_vc_lt (by omega)]
  constructor
  · rintro ⟨a, b, c, d⟩
    refine ⟨a, b, c, fun t ht => ?_⟩
    by_cases q : t = o / 6
    · exact Or.inl q
    · have := d t ht q
      rw [s_vc_lt ht, s_cx_lt ht] at this
      exact Or.inr this
  · rintro ⟨a, b, c, d⟩
    refine ⟨a, b, c, fun t ht q => ?_⟩
    rw [s_vc_lt ht, s_cx_lt ht]
    exact (d t ht).elim (fun z => absurd z q) id
theorem en_ge {a : Nat} (ha : a < 2 ^ 31) : 0 ≤ nI a - 1 ↔ a ≠ 0 := by
  constructor
  · intro h e
    subst e
    exact absurd h (by decide +kernel)
  · intro h
    rw [show a = (a - 1) + 1 by omega, nI_pred]
    exact nI_pos' (by omega)
/-- the lowest of those from i on that wait and are ready -/
def NXi (σ : rS) (s i : Nat) (r : Option Nat) : Prop := match r with
  | none => ∀ o, i ≤ o → o < 18 → ¬ WT σ s o
  | some o => i ≤ o ∧ o < 18 ∧ WT σ s o ∧ ∀ o', i ≤ o' → o' < o → ¬ WT σ s o'
def ovI (r : Option Nat) : Int32 := match r with
  | none => -1
  | some o => nI o
theorem NXi_0 {σ : rS} {s : Nat} {r : Option Nat} (h : NXi σ s 0 r) : NX σ s r := by
  cases r with
  | none => exact fun o ho => h o (Nat.zero_le _) ho
  | some o => exact ⟨h.2.1, h.2.2.1, fun o' ho' => h.2.2.2 o' (Nat.zero_le _) ho'⟩
theorem NXi_y {σ : rS} {s i : Nat} {r : Option Nat} (hi : i < 18) (hw : WT σ s i) : NXi σ s i (some i) := ⟨Nat.le_refl _, hi, hw, fun o' h1 h2 => by omega⟩
theorem NXi_n {σ : rS} {s i : Nat} {r : Option Nat} (h : NXi σ s (i + 1) r) (hw : ¬ WT σ s i) : NXi σ s i r := by
  cases r with
  | none =>
    intro o h1 h2
    rcases (show o = i ∨ i + 1 ≤ o by omega) with rfl | q
    · exact hw
    · exact h o q h2
  | some o =>
    obtain ⟨a, b, c, d⟩ := h
    refine ⟨by omega, b, c, fun o' h1 h2 => ?_⟩
    rcases (show o' = i ∨ i + 1 ≤ o' by omega) with rfl | q
    · exact hw
    · exact d o' q h2
set_option maxRecDepth 100000 in
set_option maxHeartbeats 4000000 in
theorem r_ready (l : Launch) (D : va_G) (S : Nat) (σ : rS) (ad0 : Nat → Nat) (w0 : gW) (site o : Nat) (hs : site < 3) (ho : o < 18) : g_M l y_M_ready w_M_ready (rk 0) D gCl g_N [.ref (ad0 200), .int (nI site), .int (nI o)] (RX S σ ad0 w0) 0 0 (fun A => g_Qi D gCl A (fun r ad w => r = nI (pb (RQ σ site o 3)) ∧ RX S σ ad0 w0 ad w)) := by
  refine g_of (cc := c_M_ready) (nL := 5) (ret := some .boolean) (by decide) rfl (Nat.le_of_ble_eq_true rfl) ?_
  intro pp ee ss mm bb me cc A hC hr hlk hnm
  refine g_los [0, 1, 2] (lo' := [(0, .ref (ad0 200)), (1, .int (nI site)), (2, .int (nI o))]) rfl ?_
  refine g_pure r_bl_of (fun hb => ?_)
  refine g_aload_n (i := 0) hC d_M_ready_0 rfl rfl (Or.inr ⟨_, rfl⟩) ?_
  refine g_get hC (fun x h => List.mem_cons_of_mem _ (in_M x h)) 200 r_this rfl 8 (by decide) (List.mem_cons_of_mem _ m_328) rfl rfl d_M_ready_1 ?_
  refine g_iconst (v := nI 3) hC d_M_ready_4 (by decide) ?_
  refine g_iload_n (i := 1) hC d_M_ready_5 rfl rfl ?_
  refine g_imulN hC d_M_ready_6 ?_
  refine g_iload_n (i := 2) hC d_M_ready_7 rfl rfl ?_
  refine g_bipush (v := nI 6) hC d_M_ready_8 (by decide) ?_
  refine g_idivN hC d_M_ready_10 (by omega) (by omega) (by omega) ?_
  refine g_iaddN hC d_M_ready_11 ?_
  refine r_ld 8 hC (by decide) (by decide) rfl (fun _ => rfl) (by simp only [r_ln]; omega) d_M_ready_12 ?_
  refine g_iload_n (i := 2) hC d_M_ready_13 rfl rfl ?_
  refine g_bipush (v := nI 6) hC d_M_ready_14 (by decide) ?_
  refine g_iremN hC d_M_ready_16 (by omega) (by omega) (by omega) ?_
  refine g_icmp_neN (tgt := 24) hC d_M_ready_17 (by decide) (by first | omega | exact r_lt hb _ _ | exact pb_le _) (by first | omega | exact r_lt hb _ _ | exact pb_le _) (fun h17 => ?_) (fun h17 => ?_)
  · refine g_iconst (v := nI 0) hC d_M_ready_24 (by decide) ?_
    refine g_istore_n (i := 3) (lo' := [(3, _), (0, _), (1, _), (2, _)]) hC d_M_ready_25 rfl (by decide) rfl ?_
    refine g_iconst (v := nI 0) hC d_M_ready_26 (by decide) ?_
    refine g_istore (i := 4) (lo' := [(4, _), (3, _), (0, _), (1, _), (2, _)]) hC d_M_ready_27 (by decide) rfl ?_
    refine g_los [2, 3, 4, 1, 0] (lo' := [(0, _), (1, _), (2, _), (3, _), (4, _)]) rfl ?_
    refine g_loop (ι := Nat × Nat) (pc0 := 29) (fun ⟨t, g⟩ => 3 - t) (fun ⟨t, g⟩ => t ≤ 3 ∧ g = pb (RQ σ site o t)) (fun ⟨t, g⟩ => RX S σ ad0 w0) (fun ⟨t, g⟩ => [(0, .ref (ad0 200)), (1, .int (nI site)), (2, .int (nI o)), (3, .int (nI g)), (4, .int (nI t))]) ?_ (0, 0) (⟨by omega, (pb_f (fun h9 => h17 h9.1)).symm⟩)
    rintro ⟨t, g⟩ hI ih
    try dsimp only at hI ih ⊢
    refine g_iload (i := 4) hC d_M_ready_29 rfl ?_
    refine g_iconst (v := nI 3) hC d_M_ready_31 (by decide) ?_
    refine g_icmp_geN (tgt := 85) hC d_M_ready_32 (by decide) (by first | omega | exact r_lt hb _ _ | exact pb_le _) (by first | omega | exact r_lt hb _ _ | exact pb_le _) (fun h32 => ?_) (fun h32 => ?_)
    · refine g_iload_n (i := 3) hC d_M_ready_85 rfl rfl ?_
      refine g_zret hC hr hlk (r_nar2 (by rw [hI.2]; exact pb_lt _)) d_M_ready_86 (by decide) (by decide) (fun ad w hw => ?_)
      have e : t = 3 := by omega
      subst e
      exact ⟨by rw [hI.2], hw⟩
    · refine g_iload_n (i := 3) hC d_M_ready_35 rfl rfl ?_
      refine g_if_eqN (tgt := 77) hC d_M_ready_36 (by decide) (by rw [hI.2]; exact pb_le _) (fun h36 => ?_) (fun h36 => ?_)
      · have g36 := pb_0 ((hI.2).symm.trans h36)
        refine g_iconst (v := nI 0) hC d_M_ready_77 (by decide) ?_
        refine g_istore_n (i := 3) (lo' := [(3, _), (0, _), (1, _), (2, _), (4, _)]) hC d_M_ready_78 rfl (by decide) rfl ?_
        refine g_iinc (i := 4) (k := 4) (lo' := [(4, _), (3, _), (0, _), (1, _), (2, _)]) hC d_M_ready_79 rfl (nI_inc _) (by decide) rfl ?_
        refine g_goto (tgt := 29) hC d_M_ready_82 (by decide) ?_
        refine g_los [2, 3, 4, 1, 0] rfl ?_
        exact ih (t + 1, 0) ⟨by omega, (pb_f (fun h9 => g36 ⟨h9.1, fun u hu => h9.2 u (Nat.lt_succ_of_lt hu)⟩)).symm⟩ (by first | omega | (dsimp only; omega))
      · have g36 := pb_1 (fun z => h36 ((hI.2).trans z))
        refine g_iload (i := 4) hC d_M_ready_39 rfl ?_
        refine g_iload_n (i := 2) hC d_M_ready_41 rfl rfl ?_
        refine g_bipush (v := nI 6) hC d_M_ready_42 (by decide) ?_
        refine g_idivN hC d_M_ready_44 (by omega) (by omega) (by omega) ?_
        refine g_icmp_eqN (tgt := 73) hC d_M_ready_45 (by decide) (by first | omega | exact r_lt hb _ _ | exact pb_le _) (by first | omega | exact r_lt hb _ _ | exact pb_le _) (fun h45 => ?_) (fun h45 => ?_)
        · refine g_iconst (v := nI 1) hC d_M_ready_73 (by decide) ?_
          refine g_goto (tgt := 78) hC d_M_ready_74 (by decide) ?_
          refine g_istore_n (i := 3) (lo' := [(3, _), (0, _), (1, _), (2, _), (4, _)]) hC d_M_ready_78 rfl (by decide) rfl ?_
          refine g_iinc (i := 4) (k := 4) (lo' := [(4, _), (3, _), (0, _), (1, _), (2, _)]) hC d_M_ready_79 rfl (nI_inc _) (by decide) rfl ?_
          refine g_goto (tgt := 29) hC d_M_ready_82 (by decide) ?_
          refine g_los [2, 3, 4, 1, 0] rfl ?_
          exact ih (t + 1, 1) ⟨by omega, (pb_t ⟨g36.1, lt_s g36.2 (Or.inl h45)⟩).symm⟩ (by first | omega | (dsimp only; omega))
        · refine g_aload_n (i := 0) hC d_M_ready_48 rfl rfl (Or.inr ⟨_, rfl⟩) ?_
          refine g_get hC (fun x h => List.mem_cons_of_mem _ (in_M x h)) 200 r_this rfl 8 (by decide) (List.mem_cons_of_mem _ m_328) rfl rfl d_M_ready_49 ?_
          refine g_iconst (v := nI 3) hC d_M_ready_52 (by decide) ?_
          refine g_iload_n (i := 1) hC d_M_ready_53 rfl rfl ?_
          refine g_imulN hC d_M_ready_54 ?_
          refine g_iload (i := 4) hC d_M_ready_55 rfl ?_
          refine g_iaddN hC d_M_ready_57 ?_
          refine r_ld 8 hC (by decide) (by decide) rfl (fun _ => rfl) (by simp only [r_ln]; omega) d_M_ready_58 ?_
          refine g_aload_n (i := 0) hC d_M_ready_59 rfl rfl (Or.inr ⟨_, rfl⟩) ?_
          refine g_get hC (fun x h => List.mem_cons_of_mem _ (in_M x h)) 200 r_this rfl 5 (by decide) (List.mem_cons_of_mem _ m_325) rfl rfl d_M_ready_60 ?_
          refine g_iconst (v := nI 3) hC d_M_ready_63 (by decide) ?_
          refine g_iload_n (i := 2) hC d_M_ready_64 rfl rfl ?_
          refine g_imulN hC d_M_ready_65 ?_
          refine g_iload (i := 4) hC d_M_ready_66 rfl ?_
          refine g_iaddN hC d_M_ready_68 ?_
          refine r_ld 5 hC (by decide) (by decide) rfl (fun _ => rfl) (by simp only [r_ln]; omega) d_M_ready_69 ?_
          refine g_icmp_ltN (tgt := 77) hC d_M_ready_70 (by decide) (by first | omega | exact r_lt hb _ _ | exact pb_le _) (by first | omega | exact r_lt hb _ _ | exact pb_le _) (fun h70 => ?_) (fun h70 => ?_)
          · refine g_iconst (v := nI 0) hC d_M_ready_77 (by decide) ?_
            refine g_istore_n (i := 3) (lo' := [(3, _), (0, _), (1, _), (2, _), (4, _)]) hC d_M_ready_78 rfl (by decide) rfl ?_
            refine g_iinc (i := 4) (k := 4) (lo' := [(4, _), (3, _), (0, _), (1, _), (2, _)]) hC d_M_ready_79 rfl (nI_inc _) (by decide) rfl ?_
            refine g_goto (tgt := 29) hC d_M_ready_82 (by decide) ?_
            refine g_los [2, 3, 4, 1, 0] rfl ?_
            exact ih (t + 1, 0) ⟨by omega, (pb_f (fun h9 => (h9.2 t (Nat.lt_succ_self t)).elim h45 (fun q => absurd q (Nat.not_le.mpr h70)))).symm⟩ (by first | omega | (dsimp only; omega))
          · refine g_iconst (v := nI 1) hC d_M_ready_73 (by decide) ?_
            refine g_goto (tgt := 78) hC d_M_ready_74 (by decide) ?_
            refine g_istore_n (i := 3) (lo' := [(3, _), (0, _), (1, _), (2, _), (4, _)]) hC d_M_ready_78 rfl (by decide) rfl ?_
            refine g_iinc (i := 4) (k := 4) (lo' := [(4, _), (3, _), (0, _), (1, _), (2, _)]) hC d_M_ready_79 rfl (nI_inc _) (by decide) rfl ?_
            refine g_goto (tgt := 29) hC d_M_ready_82 (by decide) ?_
            refine g_los [2, 3, 4, 1, 0] rfl ?_
            exact ih (t + 1, 1) ⟨by omega, (pb_t ⟨g36.1, lt_s g36.2 (Or.inr h70)⟩).symm⟩ (by first | omega | (dsimp only; omega))
  · refine g_iconst (v := nI 1) hC d_M_ready_20 (by decide) ?_
    refine g_goto (tgt := 25) hC d_M_ready_21 (by decide) ?_
    refine g_istore_n (i := 3) (lo' := [(3, _), (0, _), (1, _), (2, _)]) hC d_M_ready_25 rfl (by decide) rfl ?_
    refine g_iconst (v := nI 0) hC d_M_ready_26 (by decide) ?_
    refine g_istore (i := 4) (lo' := [(4, _), (3, _), (0, _), (1, _), (2, _)]) hC d_M_ready_27 (by decide) rfl ?_
    refine g_los [2, 3, 4, 1, 0] (lo' := [(0, _), (1, _), (2, _), (3, _), (4, _)]) rfl ?_
    refine g_loop (ι := Nat × Nat) (pc0 := 29) (fun ⟨t, g⟩ => 3 - t) (fun ⟨t, g⟩ => t ≤ 3 ∧ g = pb (RQ σ site o t)) (fun ⟨t, g⟩ => RX S σ ad0 w0) (fun ⟨t, g⟩ => [(0, .ref (ad0 200)), (1, .int (nI site)), (2, .int (nI o)), (3, .int (nI g)), (4, .int (nI t))]) ?_ (0, 1) (⟨by omega, (pb_t ⟨h17, fun u hu => absurd hu (Nat.not_lt_zero u)⟩).symm⟩)
    rintro ⟨t, g⟩ hI ih
    try dsimp only at hI ih ⊢
    refine g_iload (i := 4) hC d_M_ready_29 rfl ?_
    refine g_iconst (v := nI 3) hC d_M_ready_31 (by decide) ?_
    refine g_icmp_geN (tgt := 85) hC d_M_ready_32 (by decide) (by first | omega | exact r_lt hb _ _ | exact pb_le _) (by first | omega | exact r_lt hb _ _ | exact pb_le _) (fun h32 => ?_) (fun h32 => ?_)
    · refine g_iload_n (i := 3) hC d_M_ready_85 rfl rfl ?_
      refine g_zret hC hr hlk (r_nar2 (by rw [hI.2]; exact pb_lt _)) d_M_ready_86 (by decide) (by decide) (fun ad w hw => ?_)
      have e : t = 3 := by omega
      subst e
      exact ⟨by rw [hI.2], hw⟩
    · refine g_iload_n (i := 3) hC d_M_ready_35 rfl rfl ?_
      refine g_if_eqN (tgt := 77) hC d_M_ready_36 (by decide) (by rw [hI.2]; exact pb_le _) (fun h36 => ?_) (fun h36 => ?_)
      · have g36 := pb_0 ((hI.2).symm.trans h36)
        refine g_iconst (v := nI 0) hC d_M_ready_77 (by decide) ?_
        refine g_istore_n (i := 3) (lo' := [(3, _), (0, _), (1, _), (2, _), (4, _)]) hC d_M_ready_78 rfl (by decide) rfl ?_
        refine g_iinc (i := 4) (k := 4) (lo' := [(4, _), (3, _), (0, _), (1, _), (2, _)]) hC d_M_ready_79 rfl (nI_inc _) (by decide) rfl ?_
        refine g_goto (tgt := 29) hC d_M_ready_82 (by decide) ?_
        refine g_los [2, 3, 4, 1, 0] rfl ?_
        exact ih (t + 1, 0) ⟨by omega, (pb_f (fun h9 => g36 ⟨h9.1, fun u hu => h9.2 u (Nat.lt_succ_of_lt hu)⟩)).symm⟩ (by first | omega | (dsimp only; omega))
      · have g36 := pb_1 (fun z => h36 ((hI.2).trans z))
        refine g_iload (i := 4) hC d_M_ready_39 rfl ?_
        refine g_iload_n (i := 2) hC d_M_ready_41 rfl rfl ?_
        refine g_bipush (v := nI 6) hC d_M_ready_42 (by decide) ?_
        refine g_idivN hC d_M_ready_44 (by omega) (by omega) (by omega) ?_
        refine g_icmp_eqN (tgt := 73) hC d_M_ready_45 (by decide) (by first | omega | exact r_lt hb _ _ | exact pb_le _) (by first | omega | exact r_lt hb _ _ | exact pb_le _) (fun h45 => ?_) (fun h45 => ?_)
        · refine g_iconst (v := nI 1) hC d_M_ready_73 (by decide) ?_
          refine g_goto (tgt := 78) hC d_M_ready_74 (by decide) ?_
          refine g_istore_n (i := 3) (lo' := [(3, _), (0, _), (1, _), (2, _), (4, _)]) hC d_M_ready_78 rfl (by decide) rfl ?_
          refine g_iinc (i := 4) (k := 4) (lo' := [(4, _), (3, _), (0, _), (1, _), (2, _)]) hC d_M_ready_79 rfl (nI_inc _) (by decide) rfl ?_
          refine g_goto (tgt := 29) hC d_M_ready_82 (by decide) ?_
          refine g_los [2, 3, 4, 1, 0] rfl ?_
          exact ih (t + 1, 1) ⟨by omega, (pb_t ⟨g36.1, lt_s g36.2 (Or.inl h45)⟩).symm⟩ (by first | omega | (dsimp only; omega))
        · refine g_aload_n (i := 0) hC d_M_ready_48 rfl rfl (Or.inr ⟨_, rfl⟩) ?_
          refine g_get hC (fun x h => List.mem_cons_of_mem _ (in_M x h)) 200 r_this rfl 8 (by decide) (List.mem_cons_of_mem _ m_328) rfl rfl d_M_ready_49 ?_
          refine g_iconst (v := nI 3) hC d_M_ready_52 (by decide) ?_
          refine g_iload_n (i := 1) hC d_M_ready_53 rfl rfl ?_
          refine g_imulN hC d_M_ready_54 ?_
          refine g_iload (i := 4) hC d_M_ready_55 rfl ?_
          refine g_iaddN hC d_M_ready_57 ?_
          refine r_ld 8 hC (by decide) (by decide) rfl (fun _ => rfl) (by simp only [r_ln]; omega) d_M_ready_58 ?_
          refine g_aload_n (i := 0) hC d_M_ready_59 rfl rfl (Or.inr ⟨_, rfl⟩) ?_
          refine g_get hC (fun x h => List.mem_cons_of_mem _ (in_M x h)) 200 r_this rfl 5 (by decide) (List.mem_cons_of_mem _ m_325) rfl rfl d_M_ready_60 ?_
          refine g_iconst (v := nI 3) hC d_M_ready_63 (by decide) ?_
          refine g_iload_n (i := 2) hC d_M_ready_64 rfl rfl ?_
          refine g_imulN hC d_M_ready_65 ?_
          refine g_iload (i := 4) hC d_M_ready_66 rfl ?_
          refine g_iaddN hC d_M_ready_68 ?_
          refine r_ld 5 hC (by decide) (by decide) rfl (fun _ => rfl) (by simp only [r_ln]; omega) d_M_ready_69 ?_
          refine g_icmp_ltN (tgt := 77) hC d_M_ready_70 (by decide) (by first | omega | exact r_lt hb _ _ | exact pb_le _) (by first | omega | exact r_lt hb _ _ | exact pb_le _) (fun h70 => ?_) (fun h70 => ?_)
          · refine g_iconst (v := nI 0) hC d_M_ready_77 (by decide) ?_
            refine g_istore_n (i := 3) (lo' := [(3, _), (0, _), (1, _), (2, _), (4, _)]) hC d_M_ready_78 rfl (by decide) rfl ?_
            refine g_iinc (i := 4) (k := 4) (lo' := [(4, _), (3, _), (0, _), (1, _), (2, _)]) hC d_M_ready_79 rfl (nI_inc _) (by decide) rfl ?_
            refine g_goto (tgt := 29) hC d_M_ready_82 (by decide) ?_
            refine g_los [2, 3, 4, 1, 0] rfl ?_
            exact ih (t + 1, 0) ⟨by omega, (pb_f (fun h9 => (h9.2 t (Nat.lt_succ_self t)).elim h45 (fun q => absurd q (Nat.not_le.mpr h70)))).symm⟩ (by first | omega | (dsimp only; omega))
          · refine g_iconst (v := nI 1) hC d_M_ready_73 (by decide) ?_
            refine g_goto (tgt := 78) hC d_M_ready_74 (by decide) ?_
            refine g_istore_n (i := 3) (lo' := [(3, _), (0, _), (1, _), (2, _), (4, _)]) hC d_M_ready_78 rfl (by decide) rfl ?_
            refine g_iinc (i := 4) (k := 4) (lo' := [(4, _), (3, _), (0, _), (1, _), (2, _)]) hC d_M_ready_79 rfl (nI_inc _) (by decide) rfl ?_
            refine g_goto (tgt := 29) hC d_M_ready_82 (by decide) ?_
            refine g_los [2, 3, 4, 1, 0] rfl ?_
            exact ih (t + 1, 1) ⟨by omega, (pb_t ⟨g36.1, lt_s g36.2 (Or.inr h70)⟩).symm⟩ (by first | omega | (dsimp only; omega))
set_option maxRecDepth 100000 in
set_option maxHeartbeats 4000000 in
theorem r_work (l : Launch) (D : va_G) (S : Nat) (σ : rS) (ad0 : Nat → Nat) (w0 : gW) (site : Nat) (hS3 : S ≤ 3) (hsS : site < S) (hInv : INV S σ) : g_M l y_M_work w_M_work (rk 5) D gCl g_N [.ref (ad0 200), .int (nI site)] (RX S σ ad0 w0) 0 0 (fun A => g_Qi D gCl A (fun r ad w => ∃ (n : Nat) (σs σ' : rS), ((WK site n σ σs ∧ INV S σs) ∧ E12 σs σ' ∧ r = nI n ∧ n ≤ 18) ∧ RX S σ' ad0 w0 ad w)) := by
  refine g_of (cc := c_M_work) (nL := 7) (ret := some .int) (by decide) rfl (Nat.le_of_ble_eq_true rfl) ?_
  intro pp ee ss mm bb me cc A hC hr hlk hnm
  refine g_los [0, 1] (lo' := [(0, .ref (ad0 200)), (1, .int (nI site))]) rfl ?_
  refine g_pure r_bl_of (fun hb => ?_)
  refine g_iconst (v := nI 0) hC d_M_work_0 (by decide) ?_
  refine g_istore_n (i := 2) (lo' := [(2, _), (0, _), (1, _)]) hC d_M_work_1 rfl (by decide) rfl ?_
  refine g_iconst (v := nI 1) hC d_M_work_2 (by decide) ?_
  refine g_istore_n (i := 3) (lo' := [(3, _), (2, _), (0, _), (1, _)]) hC d_M_work_3 rfl (by decide) rfl ?_
  refine g_los [2, 3, 1, 0] (lo' := [(0, _), (1, _), (2, _), (3, _)]) rfl ?_
  refine g_loop (ι := (Nat × Nat) × rS × rS) (pc0 := 4) (fun ⟨⟨n, m⟩, τs, τ⟩ => 2 * s_left τs site + m) (fun ⟨⟨n, m⟩, τs, τ⟩ => m < 2 ∧ INV S τs ∧ E12 τs τ ∧ (∀ n' σ'', WK site n' τs σ'' → WK site (n + n') σ σ'') ∧ (m = 0 → NX τs site none) ∧ n + s_left τs site ≤ 18) (fun ⟨⟨n, m⟩, τs, τ⟩ => RX S τ ad0 w0) (fun ⟨⟨n, m⟩, τs, τ⟩ => [(0, .ref (ad0 200)), (1, .int (nI site)), (2, .int (nI n)), (3, .int (nI m))]) ?_ ((0, 1), σ, σ) (⟨by first | omega | (dsimp only; omega), hInv, E12.refl σ, fun n' σ'' h => by rw [Nat.zero_add]; exact h, fun q => absurd q (by first | omega | (dsimp only; omega)), by have := s_left_18 σ site; omega⟩)
  rintro ⟨⟨n, m⟩, τs, τ⟩ hI ih
  try dsimp only at hI ih ⊢
  refine g_pure r_bl_of (fun hb => ?_)
  refine g_iload_n (i := 3) hC d_M_work_4 rfl rfl ?_
  refine g_if_eqN (tgt := 115) hC d_M_work_5 (by decide) (by omega) (fun h5 => ?_) (fun h5 => ?_)
  · refine g_iload_n (i := 2) hC d_M_work_115 rfl rfl ?_
    refine g_iret hC hr hlk d_M_work_116 (by decide) (by decide) (fun ad w hw => ?_)
    exact ⟨n, τs, τ, ⟨⟨hI.2.2.2.1 0 τs ⟨rfl, hI.2.2.2.2.1 h5⟩, hI.2.1⟩, hI.2.2.1, rfl, by omega⟩, hw⟩
  · refine g_iconst (v := -1) hC d_M_work_8 (by decide) ?_
    refine g_istore (i := 4) (lo' := [(4, _), (0, _), (1, _), (2, _), (3, _)]) hC d_M_work_9 (by decide) rfl ?_
    refine g_bipush (v := nI 18 - 1) hC d_M_work_11 (by decide +kernel) ?_
    refine g_istore (i := 5) (lo' := [(5, _), (4, _), (0, _), (1, _), (2, _), (3, _)]) hC d_M_work_13 (by decide) rfl ?_
    refine g_los [2, 3, 4, 5, 1, 0] (lo' := [(0, _), (1, _), (2, _), (3, _), (4, _), (5, _)]) rfl ?_
    refine g_loop (ι := Nat × Option Nat) (pc0 := 15) (fun ⟨i, r⟩ => i) (fun ⟨i, r⟩ => i ≤ 18 ∧ NXi τ site i r) (fun _ => RX S τ ad0 w0) (fun ⟨i, r⟩ => [(0, .ref (ad0 200)), (1, .int (nI site)), (2, .int (nI n)), (3, .int (nI m)), (4, .int (ovI r)), (5, .int (nI i - 1))]) ?_ (18, none) ⟨Nat.le_refl _, fun o h1 h2 => by omega⟩
    rintro ⟨i, r⟩ hJ ih2
    try dsimp only at hJ ih2 ⊢
    rcases i with _ | t
    · refine g_iload (i := 5) hC d_M_work_15 rfl ?_
      refine g_if_lt (tgt := 87) hC d_M_work_17 (by decide) (fun h17 => ?_) (fun h17 => ?_)
      · rcases r with _ | o
        · have hnx : NX τs site none := fun o ho q => NXi_0 hJ.2 o ho ((hI.2.2.1.wt site o).mpr q)
          refine g_iload (i := 4) hC d_M_work_87 rfl ?_
          refine g_if_lt (tgt := 96) hC d_M_work_89 (by decide) (fun h89 => ?_) (fun h89 => ?_)
          · refine g_iconst (v := nI 0) hC d_M_work_96 (by decide) ?_
            refine g_istore_n (i := 3) (lo' := [(3, _), (0, _), (1, _), (2, _), (4, _), (5, _)]) hC d_M_work_97 rfl (by decide) rfl ?_
            refine g_iload_n (i := 3) hC d_M_work_98 rfl rfl ?_
            refine g_if_eqN (tgt := 112) hC d_M_work_99 (by decide) (by decide) (fun h99 => ?_) (fun h99 => ?_)
            · refine g_goto (tgt := 4) hC d_M_work_112 (by decide) ?_
              refine g_los [1, 2, 3, 0] rfl ?_
              exact ih ((n, 0), τs, τ) ⟨by first | omega | (dsimp only; omega), hI.2.1, hI.2.2.1, hI.2.2.2.1, fun _ => hnx, hI.2.2.2.2.2⟩ (by first | omega | (dsimp only; omega))
            · exact absurd rfl h99
          · exact absurd (by decide +kernel) h89
        · have hnx0 := NXi_0 hJ.2
          have hnx : NX τs site (some o) := ⟨hnx0.1, (hI.2.2.1.wt site o).mp hnx0.2.1, fun o' h' q => hnx0.2.2 o' h' ((hI.2.2.1.wt site o').mpr q)⟩
          have ho := hnx.1
          have hrd := WT.rdy hI.2.1 hsS ho hnx.2.1
          have hlf := s_left_ex (p := s_pl τs o (s_vc τs site)) ho hnx.2.1.2.1
          refine g_iload (i := 4) hC d_M_work_87 rfl ?_
          refine g_if_ltN (tgt := 96) hC d_M_work_89 (by decide) (by first | omega | exact r_lt hb _ _ | exact pb_le _) ?_
          refine g_iconst (v := nI 1) hC d_M_work_92 (by decide) ?_
          refine g_goto (tgt := 97) hC d_M_work_93 (by decide) ?_
          refine g_istore_n (i := 3) (lo' := [(3, _), (0, _), (1, _), (2, _), (4, _), (5, _)]) hC d_M_work_97 rfl (by decide) rfl ?_
          refine g_iload_n (i := 3) hC d_M_work_98 rfl rfl ?_
          refine g_if_eqN (tgt := 112) hC d_M_work_99 (by decide) (by decide) (fun h99 => ?_) (fun h99 => ?_)
          · exact absurd h99 (by decide)
          · refine g_aload_n (i := 0) hC d_M_work_102 rfl rfl (Or.inr ⟨_, rfl⟩) ?_
            refine g_iload_n (i := 1) hC d_M_work_103 rfl rfl ?_
            refine g_iload (i := 4) hC d_M_work_104 rfl ?_
            refine g_callv hC (g_runV (q := 200) (As := [_, _]) (st := []) hC g_NOK_N (r_execute l D S τ ad0 w0 site o (by omega) (hI.2.2.1.ih hI.2.1.1) (hI.2.2.1.iw (hI.2.1.2 site hsS).1) (hI.2.2.1.rdy hrd.1)) (t_cwV 2 hC.1.2.2.2.2 m_390 m_392 ms_12 m_6 k_M_execute rfl rfl hd_M_execute ⟨by decide, by decide⟩) r_this rfl rfl rfl (Nat.le_of_ble_eq_true rfl) d_M_work_106 ⟨by decide, by decide⟩) ?_
            refine g_ex (fun τ' => g_and (fun e106 => ?_))
            have hEE : E12 (exS τs site o (s_pl τs o (s_vc τs site))) τ' := by
              rw [hI.2.2.1.pl, hI.2.2.1.vc] at e106
              exact (hI.2.2.1.ex site o _).trans e106
            refine g_iinc (i := 2) (k := 3) (lo' := [(2, _), (3, _), (0, _), (1, _), (4, _), (5, _)]) hC d_M_work_109 rfl (nI_inc _) (by decide) rfl ?_
            refine g_goto (tgt := 4) hC d_M_work_112 (by decide) ?_
            refine g_los [2, 3, 0, 1] rfl ?_
            exact ih ((n + 1, 1), exS τs site o (s_pl τs o (s_vc τs site)), τ') ⟨by first | omega | (dsimp only; omega), exS_INV hI.2.1 hsS hrd.1 hrd.2, hEE, fun n' σ'' h => (show n + 1 + n' = n + (n' + 1) by omega) ▸ hI.2.2.2.1 (n' + 1) σ'' ⟨o, hnx, h⟩, fun q => absurd q (by first | omega | (dsimp only; omega)), by first | omega | (dsimp only; omega)⟩ (by first | omega | (dsimp only; omega))
      · exact absurd nI_m1lt h17
    · rw [nI_pred]
      have ht : t < 18 := by omega
      refine g_iload (i := 5) hC d_M_work_15 rfl ?_
      refine g_if_ltN (tgt := 87) hC d_M_work_17 (by decide) (by first | omega | exact r_lt hb _ _ | exact pb_le _) ?_
      refine g_aload_n (i := 0) hC d_M_work_20 rfl rfl (Or.inr ⟨_, rfl⟩) ?_
      refine g_get hC (fun x h => List.mem_cons_of_mem _ (in_M x h)) 200 r_this rfl 6 (by decide) (List.mem_cons_of_mem _ m_326) rfl rfl d_M_work_21 ?_
      refine g_bipush (v := nI 18) hC d_M_work_24 (by decide) ?_
      refine g_iload_n (i := 1) hC d_M_work_26 rfl rfl ?_
      refine g_imulN hC d_M_work_27 ?_
      refine g_iload (i := 5) hC d_M_work_28 rfl ?_
      refine g_iaddN hC d_M_work_30 ?_
      refine r_zld 6 hC (by decide) (by decide) rfl (fun _ => rfl) (by simp only [r_ln]; omega) d_M_work_31 ?_
      refine g_if_eqN (tgt := 54) hC d_M_work_32 (by decide) (r_lt hb _ _) (fun h32 => ?_) (fun h32 => ?_)
      · refine g_iconst (v := nI 0) hC d_M_work_54 (by decide) ?_
        refine g_istore (i := 6) (lo' := [(6, _), (0, _), (1, _), (2, _), (3, _), (4, _), (5, _)]) hC d_M_work_55 (by decide) rfl ?_
        refine g_iload (i := 6) hC d_M_work_57 rfl ?_
        refine g_if_eqN (tgt := 77) hC d_M_work_59 (by decide) (by decide) (fun h59 => ?_) (fun h59 => ?_)
        · refine g_iload (i := 4) hC d_M_work_77 rfl ?_
          refine g_istore (i := 4) (lo' := [(4, _), (6, _), (0, _), (1, _), (2, _), (3, _), (5, _)]) hC d_M_work_79 (by decide) rfl ?_
          refine g_iinc (i := 5) (k := 6) (lo' := [(5, _), (4, _), (6, _), (0, _), (1, _), (2, _), (3, _)]) hC d_M_work_81 rfl (nI_dec1 _) (by decide) rfl ?_
          refine g_goto (tgt := 15) hC d_M_work_84 (by decide) ?_
          refine g_los [3, 4, 5, 6, 1, 0] rfl ?_
          exact ih2 (t, r) ⟨by omega, NXi_n hJ.2 (fun q => ((WT_iff ht).mp q).1 h32)⟩ (by first | omega | (dsimp only; omega))
        · exact absurd rfl h59
      · refine g_aload_n (i := 0) hC d_M_work_35 rfl rfl (Or.inr ⟨_, rfl⟩) ?_
        refine g_get hC (fun x h => List.mem_cons_of_mem _ (in_M x h)) 200 r_this rfl 7 (by decide) (List.mem_cons_of_mem _ m_327) rfl rfl d_M_work_36 ?_
        refine g_bipush (v := nI 18) hC d_M_work_39 (by decide) ?_
        refine g_iload_n (i := 1) hC d_M_work_41 rfl rfl ?_
        refine g_imulN hC d_M_work_42 ?_
        refine g_iload (i := 5) hC d_M_work_43 rfl ?_
        refine g_iaddN hC d_M_work_45 ?_
        refine r_lde 7 hC (by decide) (by decide) rfl (fun _ => rfl) (by simp only [r_ln]; omega) d_M_work_46 ?_
        refine g_if_ge (tgt := 54) hC d_M_work_47 (by decide) (fun h47 => ?_) (fun h47 => ?_)
        · refine g_iconst (v := nI 0) hC d_M_work_54 (by decide) ?_
          refine g_istore (i := 6) (lo' := [(6, _), (0, _), (1, _), (2, _), (3, _), (4, _), (5, _)]) hC d_M_work_55 (by decide) rfl ?_
          refine g_iload (i := 6) hC d_M_work_57 rfl ?_
          refine g_if_eqN (tgt := 77) hC d_M_work_59 (by decide) (by decide) (fun h59 => ?_) (fun h59 => ?_)
          · refine g_iload (i := 4) hC d_M_work_77 rfl ?_
            refine g_istore (i := 4) (lo' := [(4, _), (6, _), (0, _), (1, _), (2, _), (3, _), (5, _)]) hC d_M_work_79 (by decide) rfl ?_
            refine g_iinc (i := 5) (k := 6) (lo' := [(5, _), (4, _), (6, _), (0, _), (1, _), (2, _), (3, _)]) hC d_M_work_81 rfl (nI_dec1 _) (by decide) rfl ?_
            refine g_goto (tgt := 15) hC d_M_work_84 (by decide) ?_
            refine g_los [3, 4, 5, 6, 1, 0] rfl ?_
            exact ih2 (t, r) ⟨by omega, NXi_n hJ.2 (fun q => (en_ge (r_lt hb _ _)).mp h47 ((WT_iff ht).mp q).2.1)⟩ (by first | omega | (dsimp only; omega))
          · exact absurd rfl h59
        · refine g_iconst (v := nI 1) hC d_M_work_50 (by decide) ?_
          refine g_goto (tgt := 55) hC d_M_work_51 (by decide) ?_
          refine g_istore (i := 6) (lo' := [(6, _), (0, _), (1, _), (2, _), (3, _), (4, _), (5, _)]) hC d_M_work_55 (by decide) rfl ?_
          refine g_iload (i := 6) hC d_M_work_57 rfl ?_
          refine g_if_eqN (tgt := 77) hC d_M_work_59 (by decide) (by decide) (fun h59 => ?_) (fun h59 => ?_)
          · exact absurd h59 (by decide)
          · refine g_aload_n (i := 0) hC d_M_work_62 rfl rfl (Or.inr ⟨_, rfl⟩) ?_
            refine g_iload_n (i := 1) hC d_M_work_63 rfl rfl ?_
            refine g_iload (i := 5) hC d_M_work_64 rfl ?_
            refine g_calli hC (g_runV (q := 200) (As := [_, _]) (st := []) hC g_NOK_N (r_ready l D S τ ad0 w0 site t (by omega) ht) (t_cwV 2 hC.1.2.2.2.2 m_445 m_447 ms_23 m_6 k_M_ready rfl rfl hd_M_ready ⟨by decide, by decide⟩) r_this rfl rfl rfl (Nat.le_of_ble_eq_true rfl) d_M_work_66 ⟨by decide, by decide⟩) (fun r66 => ?_)
            refine g_and (fun e66 => ?_)
            subst e66
            refine g_if_eqN (tgt := 77) hC d_M_work_69 (by decide) (pb_le _) (fun h69 => ?_) (fun h69 => ?_)
            · have g69 := pb_0 h69
              refine g_iload (i := 4) hC d_M_work_77 rfl ?_
              refine g_istore (i := 4) (lo' := [(4, _), (6, _), (0, _), (1, _), (2, _), (3, _), (5, _)]) hC d_M_work_79 (by decide) rfl ?_
              refine g_iinc (i := 5) (k := 6) (lo' := [(5, _), (4, _), (6, _), (0, _), (1, _), (2, _), (3, _)]) hC d_M_work_81 rfl (nI_dec1 _) (by decide) rfl ?_
              refine g_goto (tgt := 15) hC d_M_work_84 (by decide) ?_
              refine g_los [3, 4, 5, 6, 1, 0] rfl ?_
              exact ih2 (t, r) ⟨by omega, NXi_n hJ.2 (fun q => g69 ((WT_iff ht).mp q).2.2)⟩ (by first | omega | (dsimp only; omega))
            · have g69 := pb_1 h69
              refine g_iload (i := 5) hC d_M_work_72 rfl ?_
              refine g_goto (tgt := 79) hC d_M_work_74 (by decide) ?_
              refine g_istore (i := 4) (lo' := [(4, _), (6, _), (0, _), (1, _), (2, _), (3, _), (5, _)]) hC d_M_work_79 (by decide) rfl ?_
              refine g_iinc (i := 5) (k := 6) (lo' := [(5, _), (4, _), (6, _), (0, _), (1, _), (2, _), (3, _)]) hC d_M_work_81 rfl (nI_dec1 _) (by decide) rfl ?_
              refine g_goto (tgt := 15) hC d_M_work_84 (by decide) ?_
              refine g_los [3, 4, 5, 6, 1, 0] rfl ?_
              exact ih2 (t, some t) ⟨by omega, NXi_y (r := r) ht ((WT_iff ht).mpr ⟨h32, Classical.byContradiction (fun z => h47 ((en_ge (r_lt hb _ _)).mpr z)), g69⟩)⟩ (by first | omega | (dsimp only; omega))
end
section
/-- how many of the first i cells of s are visible -/
def s_vis (σ : rS) (s : Nat) (i : Nat) : Nat := msum (fun j => if σ 12 (18 * s + j) = 0 then 0 else 1) i
theorem s_vis_y {σ : rS} {s i : Nat} (h : σ 12 (18 * s + i) ≠ 0) : s_vis σ s (i + 1) = s_vis σ s i + 1 := by
  unfold s_vis
  simp only [msum]
  rw [if_neg h]
theorem s_vis_n {σ : rS} {s i : Nat} (h : σ 12 (18 * s + i) = 0) : s_vis σ s (i + 1) = s_vis σ s i := by
  unfold s_vis
  simp only [msum]
  rw [if_pos h, Nat.add_zero]
theorem s_vis_le {σ : rS} {s i : Nat} : s_vis σ s i ≤ i := by
  have := msum_bound (f := fun j => if σ 12 (18 * s + j) = 0 then 0 else 1) (c := 1) (n := i) (fun j _ => by split <;> omega)
  unfold s_vis
  omega
theorem s_vis_mono {σ : rS} {s i : Nat} : ∀ j, i ≤ j → s_vis σ s i ≤ s_vis σ s j
  | 0, h => by
    rw [show i = 0 by omega]
    exact Nat.le_refl _
  | j + 1, h => by
    rcases (show i = j + 1 ∨ i ≤ j by omega) with rfl | q
    · exact Nat.le_refl _
    · have := s_vis_mono (σ := σ) (s := s) (i := i) j q
      by_cases z : σ 12 (18 * s + j) = 0
      · rw [s_vis_n z]; exact this
      · rw [s_vis_y z]; omega
/-- k is the cell that is the i-th visible one, or behind all -/
def CO (σ : rS) (s i k : Nat) : Prop := (k < σ 10 s ∧ σ 12 (18 * s + k) ≠ 0 ∧ s_vis σ s k = i) ∨ (k = σ 10 s ∧ ∀ j, j < σ 10 s → σ 12 (18 * s + j) ≠ 0 → s_vis σ s j ≠ i)
theorem CO_eq {σ : rS} {s i k k' : Nat} (h : CO σ s i k) (h' : CO σ s i k') : k = k' := by
  rcases h with ⟨a, b, c⟩ | ⟨a, b⟩ <;> rcases h' with ⟨a', b', c'⟩ | ⟨a', b'⟩
  · rcases Nat.lt_trichotomy k k' with q | q | q
    · have := s_vis_mono (σ := σ) (s := s) (i := k + 1) k' q
      rw [s_vis_y b] at this
      omega
    · exact q
    · have := s_vis_mono (σ := σ) (s := s) (i := k' + 1) k q
      rw [s_vis_y b'] at this
      omega
  · exact absurd c (b' k a b)
  · exact absurd c' (b k' a' b')
  · omega
theorem CO_lt {σ : rS} {s i k : Nat} (h : CO σ s i k) (hi : i < s_vis σ s (σ 10 s)) : k < σ 10 s := by
  rcases h with ⟨a, -, -⟩ | ⟨a, b⟩
  · exact a
  · exfalso
    have key : ∀ n, n ≤ σ 10 s → s_vis σ s n ≤ i := by
      intro n
      induction n with
      | zero => intro _; exact Nat.zero_le _
      | succ n ih =>
        intro hn
        have h1 := ih (by omega)
        by_cases z : σ 12 (18 * s + n) = 0
        · rw [s_vis_n z]; exact h1
        · rw [s_vis_y z]
          have := b n (by omega) z
          omega
    have := key _ (Nat.le_refl _)
    omega
theorem CO_le {σ : rS} {s i k : Nat} (h : CO σ s i k) : k ≤ σ 10 s := by
  rcases h with ⟨a, -, -⟩ | ⟨a, -⟩ <;> omega
set_option maxRecDepth 100000 in
set_option maxHeartbeats 4000000 in
theorem r_cellOf (l : Launch) (D : va_G) (S : Nat) (σ : rS) (ad0 : Nat → Nat) (w0 : gW) (site i0 : Nat) (hs : site < 3) (hc : σ 10 site ≤ 18) (hi0 : i0 < 2 ^ 31) : g_M l y_M_cellOf w_M_cellOf (rk 0) D gCl g_N [.ref (ad0 200), .int (nI site), .int (nI i0)] (RX S σ ad0 w0) 0 0 (fun A => g_Qi D gCl A (fun r ad w => ∃ k, (CO σ site i0 k ∧ r = nI k) ∧ RX S σ ad0 w0 ad w)) := by
  refine g_of (cc := c_M_cellOf) (nL := 5) (ret := some .int) (by decide) rfl (Nat.le_of_ble_eq_true rfl) ?_
  intro pp ee ss mm bb me cc A hC hr hlk hnm
  refine g_los [0, 1, 2] (lo' := [(0, .ref (ad0 200)), (1, .int (nI site)), (2, .int (nI i0))]) rfl ?_
  refine g_pure r_bl_of (fun hb => ?_)
  refine g_iconst (v := nI 0) hC d_M_cellOf_0 (by decide) ?_
  refine g_istore_n (i := 3) (lo' := [(3, _), (0, _), (1, _), (2, _)]) hC d_M_cellOf_1 rfl (by decide) rfl ?_
  refine g_iconst (v := nI 0) hC d_M_cellOf_2 (by decide) ?_
  refine g_istore (i := 4) (lo' := [(4, _), (3, _), (0, _), (1, _), (2, _)]) hC d_M_cellOf_3 (by decide) rfl ?_
  refine g_los [2, 3, 4, 1, 0] (lo' := [(0, _), (1, _), (2, _), (3, _), (4, _)]) rfl ?_
  refine g_loop (ι := Nat × Nat) (pc0 := 5) (fun ⟨i, v⟩ => 18 - i) (fun ⟨i, v⟩ => i ≤ σ 10 site ∧ v = s_vis σ site i ∧ ∀ j, j < i → σ 12 (18 * site + j) ≠ 0 → s_vis σ site j ≠ i0) (fun ⟨i, v⟩ => RX S σ ad0 w0) (fun ⟨i, v⟩ => [(0, .ref (ad0 200)), (1, .int (nI site)), (2, .int (nI i0)), (3, .int (nI v)), (4, .int (nI i))]) ?_ (0, 0) (⟨Nat.zero_le _, rfl, fun j hj => absurd hj (Nat.not_lt_zero j)⟩)
  rintro ⟨i, v⟩ hI ih
  try dsimp only at hI ih ⊢
  refine g_iload (i := 4) hC d_M_cellOf_5 rfl ?_
  refine g_aload_n (i := 0) hC d_M_cellOf_7 rfl rfl (Or.inr ⟨_, rfl⟩) ?_
  refine g_get hC (fun x h => List.mem_cons_of_mem _ (in_M x h)) 200 r_this rfl 10 (by decide) (List.mem_cons_of_mem _ m_330) rfl rfl d_M_cellOf_8 ?_
  refine g_iload_n (i := 1) hC d_M_cellOf_11 rfl rfl ?_
  refine r_ld 10 hC (by decide) (by decide) rfl (fun _ => rfl) (by simp only [r_ln]; omega) d_M_cellOf_12 ?_
  refine g_icmp_geN (tgt := 48) hC d_M_cellOf_13 (by decide) (by first | omega | exact r_lt hb _ _ | exact pb_le _) (by first | omega | exact r_lt hb _ _ | exact pb_le _) (fun h13 => ?_) (fun h13 => ?_)
  · refine g_aload_n (i := 0) hC d_M_cellOf_48 rfl rfl (Or.inr ⟨_, rfl⟩) ?_
    refine g_get hC (fun x h => List.mem_cons_of_mem _ (in_M x h)) 200 r_this rfl 10 (by decide) (List.mem_cons_of_mem _ m_330) rfl rfl d_M_cellOf_49 ?_
    refine g_iload_n (i := 1) hC d_M_cellOf_52 rfl rfl ?_
    refine r_ld 10 hC (by decide) (by decide) rfl (fun _ => rfl) (by simp only [r_ln]; omega) d_M_cellOf_53 ?_
    refine g_iret hC hr hlk d_M_cellOf_54 (by decide) (by decide) (fun ad w hw => ?_)
    exact ⟨_, ⟨Or.inr ⟨rfl, fun j hj => hI.2.2 j (by omega)⟩, rfl⟩, hw⟩
  · refine g_aload_n (i := 0) hC d_M_cellOf_16 rfl rfl (Or.inr ⟨_, rfl⟩) ?_
    refine g_get hC (fun x h => List.mem_cons_of_mem _ (in_M x h)) 200 r_this rfl 12 (by decide) (List.mem_cons_of_mem _ m_332) rfl rfl d_M_cellOf_17 ?_
    refine g_bipush (v := nI 18) hC d_M_cellOf_20 (by decide) ?_
    refine g_iload_n (i := 1) hC d_M_cellOf_22 rfl rfl ?_
    refine g_imulN hC d_M_cellOf_23 ?_
    refine g_iload (i := 4) hC d_M_cellOf_24 rfl ?_
    refine g_iaddN hC d_M_cellOf_26 ?_
    refine r_zld 12 hC (by decide) (by decide) rfl (fun _ => rfl) (by simp only [r_ln]; omega) d_M_cellOf_27 ?_
    refine g_if_eqN (tgt := 42) hC d_M_cellOf_28 (by decide) (by first | omega | exact r_lt hb _ _ | exact pb_le _) (fun h28 => ?_) (fun h28 => ?_)
    · refine g_iinc (i := 4) (k := 4) (lo' := [(4, _), (0, _), (1, _), (2, _), (3, _)]) hC d_M_cellOf_42 rfl (nI_inc _) (by decide) rfl ?_
      refine g_goto (tgt := 5) hC d_M_cellOf_45 (by decide) ?_
      refine g_los [1, 2, 3, 4, 0] rfl ?_
      exact ih (i + 1, v) ⟨by omega, by rw [s_vis_n h28]; exact hI.2.1, lt_s hI.2.2 (fun q => absurd h28 q)⟩ (by first | omega | (dsimp only; omega))
    · refine g_iload_n (i := 3) hC d_M_cellOf_31 rfl rfl ?_
      refine g_iload_n (i := 2) hC d_M_cellOf_32 rfl rfl ?_
      refine g_icmp_neN (tgt := 39) hC d_M_cellOf_33 (by decide) (by have := s_vis_le (σ := σ) (s := site) (i := i); omega) (by omega) (fun h33 => ?_) (fun h33 => ?_)
      · refine g_iinc (i := 3) (k := 3) (lo' := [(3, _), (0, _), (1, _), (2, _), (4, _)]) hC d_M_cellOf_39 rfl (nI_inc _) (by decide) rfl ?_
        refine g_iinc (i := 4) (k := 4) (lo' := [(4, _), (3, _), (0, _), (1, _), (2, _)]) hC d_M_cellOf_42 rfl (nI_inc _) (by decide) rfl ?_
        refine g_goto (tgt := 5) hC d_M_cellOf_45 (by decide) ?_
        refine g_los [2, 3, 4, 1, 0] rfl ?_
        exact ih (i + 1, v + 1) ⟨by omega, by rw [s_vis_y h28, ← hI.2.1], lt_s hI.2.2 (fun _ => by rw [← hI.2.1]; exact h33)⟩ (by first | omega | (dsimp only; omega))
      · refine g_iload (i := 4) hC d_M_cellOf_36 rfl ?_
        refine g_iret hC hr hlk d_M_cellOf_38 (by decide) (by decide) (fun ad w hw => ?_)
        exact ⟨i, ⟨Or.inl ⟨h13, h28, by rw [← hI.2.1]; exact h33⟩, rfl⟩, hw⟩
def q_len (S : Nat) (σ : rS) (x : Int32) : Int32 := match ix S x with
  | none => -1
  | some s => nI (s_vis σ s (σ 10 s))
theorem ix_no {S : Nat} {x : Int32} (h : ¬ ∃ j, ix S x = some j) : ix S x = none := by
  cases e : ix S x with
  | none => rfl
  | some j => exact absurd ⟨j, e⟩ h
set_option maxRecDepth 100000 in
set_option maxHeartbeats 4000000 in
theorem r_length (l : Launch) (D : va_G) (S : Nat) (σ : rS) (ad0 : Nat → Nat) (w0 : gW) (hS3 : S ≤ 3) (hc : ∀ s, s < S → σ 10 s ≤ 18) (x : Int32) : g_M l y_M_length w_M_length (rk 1) D gCl g_N [.ref (ad0 200), .int x] (RX S σ ad0 w0) 0 0 (fun A => g_Qi D gCl A (fun r ad w => r = q_len S σ x ∧ RX S σ ad0 w0 ad w)) := by
  refine g_of (cc := c_M_length) (nL := 4) (ret := some .int) (by decide) rfl (Nat.le_of_ble_eq_true rfl) ?_
  intro pp ee ss mm bb me cc A hC hr hlk hnm
  refine g_los [0, 1] (lo' := [(0, .ref (ad0 200)), (1, .int x)]) rfl ?_
  refine g_pure r_bl_of (fun hb => ?_)
  refine g_aload_n (i := 0) hC d_M_length_0 rfl rfl (Or.inr ⟨_, rfl⟩) ?_
  refine g_iload_n (i := 1) hC d_M_length_1 rfl rfl ?_
  refine g_calli hC (g_runV (q := 200) (As := [_]) (st := []) hC g_NOK_N (r_isSite l D S σ ad0 w0 (by omega) x) (t_cwV 1 hC.1.2.2.2.2 m_374 m_376 ms_9 m_6 k_M_isSite rfl rfl hd_M_isSite ⟨by decide, by decide⟩) r_this rfl rfl rfl (Nat.le_of_ble_eq_true rfl) d_M_length_2 ⟨by decide, by decide⟩) (fun r2 => ?_)
  refine g_and (fun e2 => ?_)
  subst e2
  refine g_if_neN (tgt := 10) hC d_M_length_5 (by decide) (pb_le _) (fun h5 => ?_) (fun h5 => ?_)
  · have g5 := pb_1 h5
    obtain ⟨s, hxs⟩ := g5
    obtain ⟨hsS, rfl⟩ := ix_some (by omega) hxs
    have hcs := hc s hsS
    refine g_iconst (v := nI 0) hC d_M_length_10 (by decide) ?_
    refine g_istore_n (i := 2) (lo' := [(2, _), (0, _), (1, _)]) hC d_M_length_11 rfl (by decide) rfl ?_
    refine g_iconst (v := nI 0) hC d_M_length_12 (by decide) ?_
    refine g_istore_n (i := 3) (lo' := [(3, _), (2, _), (0, _), (1, _)]) hC d_M_length_13 rfl (by decide) rfl ?_
    refine g_los [2, 3, 1, 0] (lo' := [(0, _), (1, _), (2, _), (3, _)]) rfl ?_
    refine g_loop (ι := Nat × Nat) (pc0 := 14) (fun ⟨i, v⟩ => 18 - i) (fun ⟨i, v⟩ => i ≤ σ 10 s ∧ v = s_vis σ s i) (fun ⟨i, v⟩ => RX S σ ad0 w0) (fun ⟨i, v⟩ => [(0, .ref (ad0 200)), (1, .int (nI s)), (2, .int (nI v)), (3, .int (nI i))]) ?_ (0, 0) (⟨Nat.zero_le _, rfl⟩)
    rintro ⟨i, v⟩ hI ih
    try dsimp only at hI ih ⊢
    refine g_iload_n (i := 3) hC d_M_length_14 rfl rfl ?_
    refine g_aload_n (i := 0) hC d_M_length_15 rfl rfl (Or.inr ⟨_, rfl⟩) ?_
    refine g_get hC (fun x h => List.mem_cons_of_mem _ (in_M x h)) 200 r_this rfl 10 (by decide) (List.mem_cons_of_mem _ m_330) rfl rfl d_M_length_16 ?_
    refine g_iload_n (i := 1) hC d_M_length_19 rfl rfl ?_
    refine r_ld 10 hC (by decide) (by decide) rfl (fun _ => rfl) (by simp only [r_ln]; omega) d_M_length_20 ?_
    refine g_icmp_geN (tgt := 52) hC d_M_length_21 (by decide) (by first | omega | exact r_lt hb _ _ | exact pb_le _) (by first | omega | exact r_lt hb _ _ | exact pb_le _) (fun h21 => ?_) (fun h21 => ?_)
    · refine g_iload_n (i := 2) hC d_M_length_52 rfl rfl ?_
      refine g_iret hC hr hlk d_M_length_53 (by decide) (by decide) (fun ad w hw => ?_)
      exact ⟨by unfold q_len; rw [hxs]; show nI v = nI (s_vis σ s (σ 10 s)); rw [hI.2, show i = σ 10 s by omega], hw⟩
    · refine g_aload_n (i := 0) hC d_M_length_24 rfl rfl (Or.inr ⟨_, rfl⟩) ?_
      refine g_get hC (fun x h => List.mem_cons_of_mem _ (in_M x h)) 200 r_this rfl 12 (by decide) (List.mem_cons_of_mem _ m_332) rfl rfl d_M_length_25 ?_
      refine g_bipush (v := nI 18) hC d_M_length_28 (by decide) ?_
      refine g_iload_n (i := 1) hC d_M_length_30 rfl rfl ?_
      refine g_imulN hC d_M_length_31 ?_
      refine g_iload_n (i := 3) hC d_M_length_32 rfl rfl ?_
      refine g_iaddN hC d_M_length_33 ?_
      refine r_zld 12 hC (by decide) (by decide) rfl (fun _ => rfl) (by simp only [r_ln]; omega) d_M_length_34 ?_
      refine g_if_eqN (tgt := 44) hC d_M_length_35 (by decide) (by first | omega | exact r_lt hb _ _ | exact pb_le _) (fun h35 => ?_) (fun h35 => ?_)
      · refine g_iload_n (i := 2) hC d_M_length_44 rfl rfl ?_
        refine g_istore_n (i := 2) (lo' := [(2, _), (0, _), (1, _), (3, _)]) hC d_M_length_45 rfl (by decide) rfl ?_
        refine g_iinc (i := 3) (k := 3) (lo' := [(3, _), (2, _), (0, _), (1, _)]) hC d_M_length_46 rfl (nI_inc _) (by decide) rfl ?_
        refine g_goto (tgt := 14) hC d_M_length_49 (by decide) ?_
        refine g_los [2, 3, 1, 0] rfl ?_
        exact ih (i + 1, v) ⟨by omega, by rw [s_vis_n h35]; exact hI.2⟩ (by first | omega | (dsimp only; omega))
      · refine g_iload_n (i := 2) hC d_M_length_38 rfl rfl ?_
        refine g_iconst (v := nI 1) hC d_M_length_39 (by decide) ?_
        refine g_iaddN hC d_M_length_40 ?_
        refine g_goto (tgt := 45) hC d_M_length_41 (by decide) ?_
        refine g_istore_n (i := 2) (lo' := [(2, _), (0, _), (1, _), (3, _)]) hC d_M_length_45 rfl (by decide) rfl ?_
        refine g_iinc (i := 3) (k := 3) (lo' := [(3, _), (2, _), (0, _), (1, _)]) hC d_M_length_46 rfl (nI_inc _) (by decide) rfl ?_
        refine g_goto (tgt := 14) hC d_M_length_49 (by decide) ?_
        refine g_los [2, 3, 1, 0] rfl ?_
        exact ih (i + 1, v + 1) ⟨by omega, by rw [s_vis_y h35, ← hI.2]⟩ (by first | omega | (dsimp only; omega))
  · have g5 := pb_0 h5
    refine g_iconst (v := -1) hC d_M_length_8 (by decide) ?_
    refine g_iret hC hr hlk d_M_length_9 (by decide) (by decide) (fun ad w hw => ?_)
    exact ⟨by unfold q_len; rw [ix_no g5], hw⟩
/-- the vector is copied into the new operation's context, n of its numbers so far -/
def cpS (σ : rS) (o s n : Nat) : rS := fun k j => if k = 5 ∧ 3 * o ≤ j ∧ j < 3 * o + n then σ 8 (3 * s + (j - 3 * o)) else σ k j
theorem cpS_ne {σ : rS} {o s n k : Nat} (h : k ≠ 5) : cpS σ o s n k = σ k := by
  funext j
  exact if_neg (fun q => h q.1)
theorem cpS_0 {σ : rS} {o s : Nat} : cpS σ o s 0 = σ := by
  funext k j
  exact if_neg (by omega)
theorem cpS_s {σ : rS} {o s n a : Nat} (ha : a = σ 8 (3 * s + n)) : u2 (cpS σ o s n) 5 (3 * o + n) a = cpS σ o s (n + 1) := by
  funext k j
  unfold u2 cpS
  by_cases q : k = 5 ∧ j = 3 * o + n
  · rw [if_pos q, if_pos (by omega), ha, q.2, show 3 * o + n - 3 * o = n by omega]
  · rw [if_neg q]
    by_cases z : k = 5 ∧ 3 * o ≤ j ∧ j < 3 * o + n
    · rw [if_pos z, if_pos (by omega)]
    · rw [if_neg z, if_neg (by omega)]
theorem ad_eq {σ : rS} {s b p c z a : Nat} (hz : z = if b = 0 then σ 11 (18 * s + p) + 1 else 0) (ha : a = σ 1 s + 1) : u2 (u2 (cpS (u2 (u2 (u2 (u2 σ 2 (6 * s + σ 1 s) b) 3 (6 * s + σ 1 s) p) 4 (6 * s + σ 1 s) c) 9 (6 * s + σ 1 s) z) (6 * s + σ 1 s) s 3) 1 s a) 6 (18 * s + (6 * s + σ 1 s)) 1 = adS σ s b p c := by
  funext k j
  by_cases k6 : k = 6
  · subst k6
    rw [u2_in, u2_ne (by omega), cpS_ne (by omega), u2_ne (by omega), u2_ne (by omega), u2_ne (by omega), u2_ne (by omega), adS_6]
  rw [u2_ne k6]
  by_cases k1 : k = 1
  · subst k1
    rw [u2_in, cpS_ne (by omega), u2_ne (by omega), u2_ne (by omega), u2_ne (by omega), u2_ne (by omega), adS_1, ha]
    by_cases q : j = s
    · rw [if_pos q, if_pos q, q]
    · rw [if_neg q, if_neg q]
  rw [u2_ne k1]
  by_cases k5 : k = 5
  · subst k5
    unfold cpS
    rw [u2_ne (by omega), u2_ne (by omega), u2_ne (by omega), u2_ne (by omega), u2_ne (by omega), u2_ne (by omega), u2_ne (by omega), u2_ne (by omega), adS_5]
    by_cases q : 3 * (6 * s + σ 1 s) ≤ j ∧ j < 3 * (6 * s + σ 1 s) + 3
    · rw [if_pos ⟨rfl, q⟩, if_pos q]
    · rw [if_neg (fun y => q y.2), if_neg q]
  rw [cpS_ne k5]
  by_cases k9 : k = 9
  · subst k9
    rw [u2_in, u2_ne (by omega), u2_ne (by omega), u2_ne (by omega), adS_9, hz]
  rw [u2_ne k9]
  by_cases k4 : k = 4
  · subst k4
    rw [u2_in, u2_ne (by omega), u2_ne (by omega), adS_4]
  rw [u2_ne k4]
  by_cases k3 : k = 3
  · subst k3
    rw [u2_in, u2_ne (by omega), adS_3]
  rw [u2_ne k3]
  by_cases k2 : k = 2
  · subst k2
    rw [u2_in, adS_2]
  rw [u2_ne k2]
  unfold adS
  rw [if_neg (by omega), if_neg (by omega), if_neg (by omega), if_neg (by omega), if_neg (by omega), if_neg (by omega), if_neg (by omega)]
set_option maxRecDepth 100000 in
set_option maxHeartbeats 4000000 in
theorem r_make (l : Launch) (D : va_G) (S : Nat) (σ : rS) (ad0 : Nat → Nat) (w0 : gW) (s b q c : Nat) (hS3 : S ≤ 3) (hsS : s < S) (hInv : INV S σ) (h6 : σ 1 s < 6) (hbc : b = 0 ∧ c = 0 ∧ q < σ 10 s ∨ b = 1 ∧ 1 ≤ c ∧ c ≤ 255 ∧ q ≤ σ 10 s) : g_M l y_M_make w_M_make (rk 5) D gCl g_N [.ref (ad0 200), .int (nI s), .int (nI b), .int (nI q), .int (nI c)] (RX S σ ad0 w0) 0 0 (fun A => g_Qi D gCl A (fun r ad w => ∃ σ', (E12 (mkS σ s b q c) σ' ∧ r = nI (σ 1 s)) ∧ RX S σ' ad0 w0 ad w)) := by
  have hcnt : σ 10 s ≤ 18 := INV.in18 (S := S) (hInv.2 s hsS).1
  have hb11 : q < σ 10 s → σ 11 (18 * s + q) < 18 := fun z => hInv.1.lt18 ((hInv.2 s hsS).1.1.made ((hInv.2 s hsS).1.2.2.1 q z).2.1)
  refine g_of (cc := c_M_make) (nL := 7) (ret := some .int) (by decide) rfl (Nat.le_of_ble_eq_true rfl) ?_
  intro pp ee ss mm bb me cc A hC hr hlk hnm
  refine g_los [0, 1, 2, 3, 4] (lo' := [(0, .ref (ad0 200)), (1, .int (nI s)), (2, .int (nI b)), (3, .int (nI q)), (4, .int (nI c))]) rfl ?_
  refine g_pure r_bl_of (fun hb => ?_)
  refine g_bipush (v := nI 6) hC d_M_make_0 (by decide) ?_
  refine g_iload_n (i := 1) hC d_M_make_2 rfl rfl ?_
  refine g_imulN hC d_M_make_3 ?_
  refine g_aload_n (i := 0) hC d_M_make_4 rfl rfl (Or.inr ⟨_, rfl⟩) ?_
  refine g_get hC (fun x h => List.mem_cons_of_mem _ (in_M x h)) 200 r_this rfl 1 (by decide) (List.mem_cons_of_mem _ m_321) rfl rfl d_M_make_5 ?_
  refine g_iload_n (i := 1) hC d_M_make_8 rfl rfl ?_
  refine r_ld 1 hC (by decide) (by decide) rfl (fun _ => rfl) (by simp only [r_ln]; omega) d_M_make_9 ?_
  refine g_iaddN hC d_M_make_10 ?_
  refine g_istore (i := 5) (lo' := [(5, _), (0, _), (1, _), (2, _), (3, _), (4, _)]) hC d_M_make_11 (by decide) rfl ?_
  refine g_aload_n (i := 0) hC d_M_make_13 rfl rfl (Or.inr ⟨_, rfl⟩) ?_
  refine g_get hC (fun x h => List.mem_cons_of_mem _ (in_M x h)) 200 r_this rfl 2 (by decide) (List.mem_cons_of_mem _ m_322) rfl rfl d_M_make_14 ?_
  refine g_iload (i := 5) hC d_M_make_17 rfl ?_
  refine g_iload_n (i := 2) hC d_M_make_19 rfl rfl ?_
  refine r_zst 2 hC (by decide) (by decide) rfl (fun _ => rfl) (by omega) (by simp only [r_ln]; omega) d_M_make_20 ?_
  refine g_aload_n (i := 0) hC d_M_make_21 rfl rfl (Or.inr ⟨_, rfl⟩) ?_
  refine g_get hC (fun x h => List.mem_cons_of_mem _ (in_M x h)) 200 r_this rfl 3 (by decide) (List.mem_cons_of_mem _ m_323) rfl rfl d_M_make_22 ?_
  refine g_iload (i := 5) hC d_M_make_25 rfl ?_
  refine g_iload_n (i := 3) hC d_M_make_27 rfl rfl ?_
  refine r_st 3 hC (by decide) (by decide) rfl (fun _ => rfl) (by decide) (by omega) (by simp only [r_ln]; omega) d_M_make_28 ?_
  refine g_aload_n (i := 0) hC d_M_make_29 rfl rfl (Or.inr ⟨_, rfl⟩) ?_
  refine g_get hC (fun x h => List.mem_cons_of_mem _ (in_M x h)) 200 r_this rfl 4 (by decide) (List.mem_cons_of_mem _ m_324) rfl rfl d_M_make_30 ?_
  refine g_iload (i := 5) hC d_M_make_33 rfl ?_
  refine g_iload (i := 4) hC d_M_make_35 rfl ?_
  refine r_st 4 hC (by decide) (by decide) rfl (fun _ => rfl) (by decide) (by omega) (by simp only [r_ln]; omega) d_M_make_37 ?_
  refine g_aload_n (i := 0) hC d_M_make_38 rfl rfl (Or.inr ⟨_, rfl⟩) ?_
  refine g_get hC (fun x h => List.mem_cons_of_mem _ (in_M x h)) 200 r_this rfl 9 (by decide) (List.mem_cons_of_mem _ m_329) rfl rfl d_M_make_39 ?_
  refine g_iload (i := 5) hC d_M_make_42 rfl ?_
  refine g_iload_n (i := 2) hC d_M_make_44 rfl rfl ?_
  refine g_if_eqN (tgt := 52) hC d_M_make_45 (by decide) (by omega) (fun h45 => ?_) (fun h45 => ?_)
  · refine g_aload_n (i := 0) hC d_M_make_52 rfl rfl (Or.inr ⟨_, rfl⟩) ?_
    refine g_get hC (fun x h => List.mem_cons_of_mem _ (in_M x h)) 200 r_this rfl 11 (by decide) (List.mem_cons_of_mem _ m_331) rfl rfl d_M_make_53 ?_
    refine g_bipush (v := nI 18) hC d_M_make_56 (by decide) ?_
    refine g_iload_n (i := 1) hC d_M_make_58 rfl rfl ?_
    refine g_imulN hC d_M_make_59 ?_
    refine g_iload_n (i := 3) hC d_M_make_60 rfl rfl ?_
    refine g_iaddN hC d_M_make_61 ?_
    refine r_ld 11 hC (by decide) (by decide) rfl (fun _ => rfl) (by simp only [r_ln]; omega) d_M_make_62 ?_
    rw [u2_ne (a := 11) (by omega), u2_ne (a := 11) (by omega), u2_ne (a := 11) (by omega)]
    refine r_ste 9 hC (by decide) (by decide) rfl (fun _ => rfl) (by decide) (nI_pred _).symm (by have := hb11 (by omega); omega) (by simp only [r_ln]; omega) d_M_make_63 ?_
    refine g_iconst (v := nI 0) hC d_M_make_64 (by decide) ?_
    refine g_istore (i := 6) (lo' := [(6, _), (5, _), (0, _), (1, _), (2, _), (3, _), (4, _)]) hC d_M_make_65 (by decide) rfl ?_
    rw [show RX S (u2 (u2 (u2 (u2 σ 2 (6 * s + σ 1 s) b) 3 (6 * s + σ 1 s) q) 4 (6 * s + σ 1 s) c) 9 (6 * s + σ 1 s) (σ 11 (18 * s + q) + 1)) ad0 w0 = RX S (cpS (u2 (u2 (u2 (u2 σ 2 (6 * s + σ 1 s) b) 3 (6 * s + σ 1 s) q) 4 (6 * s + σ 1 s) c) 9 (6 * s + σ 1 s) (σ 11 (18 * s + q) + 1)) (6 * s + σ 1 s) s 0) ad0 w0 by rw [cpS_0]]
    refine g_los [2, 3, 4, 5, 6, 1, 0] (lo' := [(0, _), (1, _), (2, _), (3, _), (4, _), (5, _), (6, _)]) rfl ?_
    refine g_loop (ι := Nat) (pc0 := 67) (fun t => 3 - t) (fun t => t ≤ 3) (fun t => RX S (cpS (u2 (u2 (u2 (u2 σ 2 (6 * s + σ 1 s) b) 3 (6 * s + σ 1 s) q) 4 (6 * s + σ 1 s) c) 9 (6 * s + σ 1 s) (σ 11 (18 * s + q) + 1)) (6 * s + σ 1 s) s t) ad0 w0) (fun t => [(0, .ref (ad0 200)), (1, .int (nI s)), (2, .int (nI b)), (3, .int (nI q)), (4, .int (nI c)), (5, .int (nI (6 * s + σ 1 s))), (6, .int (nI t))]) ?_ 0 (Nat.zero_le _)
    rintro t hI ih
    try dsimp only at hI ih ⊢
    refine g_pure r_bl_of (fun hb2 => ?_)
    refine g_iload (i := 6) hC d_M_make_67 rfl ?_
    refine g_iconst (v := nI 3) hC d_M_make_69 (by decide) ?_
    refine g_icmp_geN (tgt := 102) hC d_M_make_70 (by decide) (by first | omega | exact r_lt hb _ _ | exact pb_le _) (by first | omega | exact r_lt hb _ _ | exact pb_le _) (fun h70 => ?_) (fun h70 => ?_)
    · refine g_aload_n (i := 0) hC d_M_make_102 rfl rfl (Or.inr ⟨_, rfl⟩) ?_
      refine g_get hC (fun x h => List.mem_cons_of_mem _ (in_M x h)) 200 r_this rfl 1 (by decide) (List.mem_cons_of_mem _ m_321) rfl rfl d_M_make_103 ?_
      refine g_iload_n (i := 1) hC d_M_make_106 rfl rfl ?_
      refine g_dup2 hC d_M_make_107 rfl rfl ?_
      refine r_ld 1 hC (by decide) (by decide) rfl (fun _ => rfl) (by simp only [r_ln]; omega) d_M_make_108 ?_
      rw [cpS_ne (k := 1) (by omega), u2_ne (a := 1) (by omega), u2_ne (a := 1) (by omega), u2_ne (a := 1) (by omega), u2_ne (a := 1) (by omega)]
      refine g_iconst (v := nI 1) hC d_M_make_109 (by decide) ?_
      refine g_iaddN hC d_M_make_110 ?_
      refine r_st 1 hC (by decide) (by decide) rfl (fun _ => rfl) (by decide) (by omega) (by simp only [r_ln]; omega) d_M_make_111 ?_
      refine g_aload_n (i := 0) hC d_M_make_112 rfl rfl (Or.inr ⟨_, rfl⟩) ?_
      refine g_get hC (fun x h => List.mem_cons_of_mem _ (in_M x h)) 200 r_this rfl 6 (by decide) (List.mem_cons_of_mem _ m_326) rfl rfl d_M_make_113 ?_
      refine g_bipush (v := nI 18) hC d_M_make_116 (by decide) ?_
      refine g_iload_n (i := 1) hC d_M_make_118 rfl rfl ?_
      refine g_imulN hC d_M_make_119 ?_
      refine g_iload (i := 5) hC d_M_make_120 rfl ?_
      refine g_iaddN hC d_M_make_122 ?_
      refine g_iconst (v := nI 1) hC d_M_make_123 (by decide) ?_
      refine r_zst 6 hC (by decide) (by decide) rfl (fun _ => rfl) (by decide) (by simp only [r_ln]; omega) d_M_make_124 ?_
      have ead := ad_eq (σ := σ) (s := s) (b := b) (p := q) (c := c) (z := σ 11 (18 * s + q) + 1) (a := σ 1 s + 1) (by rw [if_pos h45]) rfl
      rw [show t = 3 by omega, ead]
      obtain ⟨hinv, hrd, hpl, hih, hiw⟩ := mkS_INV hInv hsS h6 hbc
      refine g_aload_n (i := 0) hC d_M_make_125 rfl rfl (Or.inr ⟨_, rfl⟩) ?_
      refine g_iload_n (i := 1) hC d_M_make_126 rfl rfl ?_
      refine g_iload (i := 5) hC d_M_make_127 rfl ?_
      refine g_callv hC (g_runV (q := 200) (As := [_, _]) (st := []) hC g_NOK_N (r_execute l D S (adS σ s b q c) ad0 w0 s (6 * s + σ 1 s) (by omega) hih hiw hrd) (t_cwV 2 hC.1.2.2.2.2 m_390 m_392 ms_12 m_6 k_M_execute rfl rfl hd_M_execute ⟨by decide, by decide⟩) r_this rfl rfl rfl (Nat.le_of_ble_eq_true rfl) d_M_make_129 ⟨by decide, by decide⟩) ?_
      refine g_ex (fun σ2 => g_and (fun e129 => ?_))
      have hE : E12 (mkS σ s b q c) σ2 := by
        rw [adS_vc, hpl] at e129
        exact e129
      refine g_aload_n (i := 0) hC d_M_make_132 rfl rfl (Or.inr ⟨_, rfl⟩) ?_
      refine g_get hC (fun x h => List.mem_cons_of_mem _ (in_M x h)) 200 r_this rfl 1 (by decide) (List.mem_cons_of_mem _ m_321) rfl rfl d_M_make_133 ?_
      refine g_iload_n (i := 1) hC d_M_make_136 rfl rfl ?_
      refine r_ld 1 hC (by decide) (by decide) rfl (fun _ => rfl) (by simp only [r_ln]; omega) d_M_make_137 ?_
      have e1 : σ2 1 s = σ 1 s + 1 := by
        rw [hE 1 (by omega) (by omega)]
        unfold mkS
        rw [exS_lo (by omega), adS_1, if_pos rfl]
      rw [e1]
      refine g_iconst (v := nI 1) hC d_M_make_138 (by decide) ?_
      refine g_isubN hC d_M_make_139 (by omega) ?_
      refine g_iret hC hr hlk d_M_make_140 (by decide) (by decide) (fun ad w hw => ?_)
      exact ⟨_, ⟨hE, by rw [Nat.add_sub_cancel]⟩, hw⟩
    · refine g_aload_n (i := 0) hC d_M_make_73 rfl rfl (Or.inr ⟨_, rfl⟩) ?_
      refine g_get hC (fun x h => List.mem_cons_of_mem _ (in_M x h)) 200 r_this rfl 5 (by decide) (List.mem_cons_of_mem _ m_325) rfl rfl d_M_make_74 ?_
      refine g_iconst (v := nI 3) hC d_M_make_77 (by decide) ?_
      refine g_iload (i := 5) hC d_M_make_78 rfl ?_
      refine g_imulN hC d_M_make_80 ?_
      refine g_iload (i := 6) hC d_M_make_81 rfl ?_
      refine g_iaddN hC d_M_make_83 ?_
      refine g_aload_n (i := 0) hC d_M_make_84 rfl rfl (Or.inr ⟨_, rfl⟩) ?_
      refine g_get hC (fun x h => List.mem_cons_of_mem _ (in_M x h)) 200 r_this rfl 8 (by decide) (List.mem_cons_of_mem _ m_328) rfl rfl d_M_make_85 ?_
      refine g_iconst (v := nI 3) hC d_M_make_88 (by decide) ?_
      refine g_iload_n (i := 1) hC d_M_make_89 rfl rfl ?_
      refine g_imulN hC d_M_make_90 ?_
      refine g_iload (i := 6) hC d_M_make_91 rfl ?_
      refine g_iaddN hC d_M_make_93 ?_
      refine r_ld 8 hC (by decide) (by decide) rfl (fun _ => rfl) (by simp only [r_ln]; omega) d_M_make_94 ?_
      refine r_st 5 hC (by decide) (by decide) rfl (fun _ => rfl) (by decide) (r_lt1 hb2 _ _) (by simp only [r_ln]; omega) d_M_make_95 ?_
      refine g_iinc (i := 6) (k := 6) (lo' := [(6, _), (0, _), (1, _), (2, _), (3, _), (4, _), (5, _)]) hC d_M_make_96 rfl (nI_inc _) (by decide) rfl ?_
      refine g_goto (tgt := 67) hC d_M_make_99 (by decide) ?_
      refine g_los [1, 2, 3, 4, 5, 6, 0] rfl ?_
      rw [cpS_s (by rw [cpS_ne (by omega)])]
      exact ih (t + 1) (by omega) (by omega)
  · refine g_iconst (v := -1) hC d_M_make_48 (by decide) ?_
    refine g_goto (tgt := 63) hC d_M_make_49 (by decide) ?_
    refine r_ste 9 hC (by decide) (by decide) rfl (fun _ => rfl) (by decide) nI_m1 (by omega) (by simp only [r_ln]; omega) d_M_make_63 ?_
    refine g_iconst (v := nI 0) hC d_M_make_64 (by decide) ?_
    refine g_istore (i := 6) (lo' := [(6, _), (5, _), (0, _), (1, _), (2, _), (3, _), (4, _)]) hC d_M_make_65 (by decide) rfl ?_
    rw [show RX S (u2 (u2 (u2 (u2 σ 2 (6 * s + σ 1 s) b) 3 (6 * s + σ 1 s) q) 4 (6 * s + σ 1 s) c) 9 (6 * s + σ 1 s) 0) ad0 w0 = RX S (cpS (u2 (u2 (u2 (u2 σ 2 (6 * s + σ 1 s) b) 3 (6 * s + σ 1 s) q) 4 (6 * s + σ 1 s) c) 9 (6 * s + σ 1 s) 0) (6 * s + σ 1 s) s 0) ad0 w0 by rw [cpS_0]]
    refine g_los [2, 3, 4, 5, 6, 1, 0] (lo' := [(0, _), (1, _), (2, _), (3, _), (4, _), (5, _), (6, _)]) rfl ?_
    refine g_loop (ι := Nat) (pc0 := 67) (fun t => 3 - t) (fun t => t ≤ 3) (fun t => RX S (cpS (u2 (u2 (u2 (u2 σ 2 (6 * s + σ 1 s) b) 3 (6 * s + σ 1 s) q) 4 (6 * s + σ 1 s) c) 9 (6 * s + σ 1 s) 0) (6 * s + σ 1 s) s t) ad0 w0) (fun t => [(0, .ref (ad0 200)), (1, .int (nI s)), (2, .int (nI b)), (3, .int (nI q)), (4, .int (nI c)), (5, .int (nI (6 * s + σ 1 s))), (6, .int (nI t))]) ?_ 0 (Nat.zero_le _)
    rintro t hI ih
    try dsimp only at hI ih ⊢
    refine g_pure r_bl_of (fun hb2 => ?_)
    refine g_iload (i := 6) hC d_M_make_67 rfl ?_
    refine g_iconst (v := nI 3) hC d_M_make_69 (by decide) ?_
    refine g_icmp_geN (tgt := 102) hC d_M_make_70 (by decide) (by first | omega | exact r_lt hb _ _ | exact pb_le _) (by first | omega | exact r_lt hb _ _ | exact pb_le _) (fun h70 => ?_) (fun h70 => ?_)
    · refine g_aload_n (i := 0) hC d_M_make_102 rfl rfl (Or.inr ⟨_, rfl⟩) ?_
      refine g_get hC (fun x h => List.mem_cons_of_mem _ (in_M x h)) 200 r_this rfl 1 (by decide) (List.mem_cons_of_mem _ m_321) rfl rfl d_M_make_103 ?_
      refine g_iload_n (i := 1) hC d_M_make_106 rfl rfl ?_
      refine g_dup2 hC d_M_make_107 rfl rfl ?_
      refine r_ld 1 hC (by decide) (by decide) rfl (fun _ => rfl) (by simp only [r_ln]; omega) d_M_make_108 ?_
      rw [cpS_ne (k := 1) (by omega), u2_ne (a := 1) (by omega), u2_ne (a := 1) (by omega), u2_ne (a := 1) (by omega), u2_ne (a := 1) (by omega)]
      refine g_iconst (v := nI 1) hC d_M_make_109 (by decide) ?_
      refine g_iaddN hC d_M_make_110 ?_
      refine r_st 1 hC (by decide) (by decide) rfl (fun _ => rfl) (by decide) (by omega) (by simp only [r_ln]; omega) d_M_make_111 ?_
      refine g_aload_n (i := 0) hC d_M_make_112 rfl rfl (Or.inr ⟨_, rfl⟩) ?_
      refine g_get hC (fun x h => List.mem_cons_of_mem _ (in_M x h)) 200 r_this rfl 6 (by decide) (List.mem_cons_of_mem _ m_326) rfl rfl d_M_make_113 ?_
      refine g_bipush (v := nI 18) hC d_M_make_116 (by decide) ?_
      refine g_iload_n (i := 1) hC d_M_make_118 rfl rfl ?_
      refine g_imulN hC d_M_make_119 ?_
      refine g_iload (i := 5) hC d_M_make_120 rfl ?_
      refine g_iaddN hC d_M_make_122 ?_
      refine g_iconst (v := nI 1) hC d_M_make_123 (by decide) ?_
      refine r_zst 6 hC (by decide) (by decide) rfl (fun _ => rfl) (by decide) (by simp only [r_ln]; omega) d_M_make_124 ?_
      have ead := ad_eq (σ := σ) (s := s) (b := b) (p := q) (c := c) (z := 0) (a := σ 1 s + 1) (by rw [if_neg h45]) rfl
      rw [show t = 3 by omega, ead]
      obtain ⟨hinv, hrd, hpl, hih, hiw⟩ := mkS_INV hInv hsS h6 hbc
      refine g_aload_n (i := 0) hC d_M_make_125 rfl rfl (Or.inr ⟨_, rfl⟩) ?_
      refine g_iload_n (i := 1) hC d_M_make_126 rfl rfl ?_
      refine g_iload (i := 5) hC d_M_make_127 rfl ?_
      refine g_callv hC (g_runV (q := 200) (As := [_, _]) (st := []) hC g_NOK_N (r_execute l D S (adS σ s b q c) ad0 w0 s (6 * s + σ 1 s) (by omega) hih hiw hrd) (t_cwV 2 hC.1.2.2.2.2 m_390 m_392 ms_12 m_6 k_M_execute rfl rfl hd_M_execute ⟨by decide, by decide⟩) r_this rfl rfl rfl (Nat.le_of_ble_eq_true rfl) d_M_make_129 ⟨by decide, by decide⟩) ?_
      refine g_ex (fun σ2 => g_and (fun e129 => ?_))
      have hE : E12 (mkS σ s b q c) σ2 := by
        rw [adS_vc, hpl] at e129
        exact e129
      refine g_aload_n (i := 0) hC d_M_make_132 rfl rfl (Or.inr ⟨_, rfl⟩) ?_
      refine g_get hC (fun x h => List.mem_cons_of_mem _ (in_M x h)) 200 r_this rfl 1 (by decide) (List.mem_cons_of_mem _ m_321) rfl rfl d_M_make_133 ?_
      refine g_iload_n (i := 1) hC d_M_make_136 rfl rfl ?_
      refine r_ld 1 hC (by decide) (by decide) rfl (fun _ => rfl) (by simp only [r_ln]; omega) d_M_make_137 ?_
      have e1 : σ2 1 s = σ 1 s + 1 := by
        rw [hE 1 (by omega) (by omega)]
        unfold mkS
        rw [exS_lo (by omega), adS_1, if_pos rfl]
      rw [e1]
      refine g_iconst (v := nI 1) hC d_M_make_138 (by decide) ?_
      refine g_isubN hC d_M_make_139 (by omega) ?_
      refine g_iret hC hr hlk d_M_make_140 (by decide) (by decide) (fun ad w hw => ?_)
      exact ⟨_, ⟨hE, by rw [Nat.add_sub_cancel]⟩, hw⟩
    · refine g_aload_n (i := 0) hC d_M_make_73 rfl rfl (Or.inr ⟨_, rfl⟩) ?_
      refine g_get hC (fun x h => List.mem_cons_of_mem _ (in_M x h)) 200 r_this rfl 5 (by decide) (List.mem_cons_of_mem _ m_325) rfl rfl d_M_make_74 ?_
      refine g_iconst (v := nI 3) hC d_M_make_77 (by decide) ?_
      refine g_iload (i := 5) hC d_M_make_78 rfl ?_
      refine g_imulN hC d_M_make_80 ?_
      refine g_iload (i := 6) hC d_M_make_81 rfl ?_
      refine g_iaddN hC d_M_make_83 ?_
      refine g_aload_n (i := 0) hC d_M_make_84 rfl rfl (Or.inr ⟨_, rfl⟩) ?_
      refine g_get hC (fun x h => List.mem_cons_of_mem _ (in_M x h)) 200 r_this rfl 8 (by decide) (List.mem_cons_of_mem _ m_328) rfl rfl d_M_make_85 ?_
      refine g_iconst (v := nI 3) hC d_M_make_88 (by decide) ?_
      refine g_iload_n (i := 1) hC d_M_make_89 rfl rfl ?_
      refine g_imulN hC d_M_make_90 ?_
      refine g_iload (i := 6) hC d_M_make_91 rfl ?_
      refine g_iaddN hC d_M_make_93 ?_
      refine r_ld 8 hC (by decide) (by decide) rfl (fun _ => rfl) (by simp only [r_ln]; omega) d_M_make_94 ?_
      refine r_st 5 hC (by decide) (by decide) rfl (fun _ => rfl) (by decide) (r_lt1 hb2 _ _) (by simp only [r_ln]; omega) d_M_make_95 ?_
      refine g_iinc (i := 6) (k := 6) (lo' := [(6, _), (0, _), (1, _), (2, _), (3, _), (4, _), (5, _)]) hC d_M_make_96 rfl (nI_inc _) (by decide) rfl ?_
      refine g_goto (tgt := 67) hC d_M_make_99 (by decide) ?_
      refine g_los [1, 2, 3, 4, 5, 6, 0] rfl ?_
      rw [cpS_s (by rw [cpS_ne (by omega)])]
      exact ih (t + 1) (by omega) (by omega)
end
section
theorem nI_inj {a b : Nat} (h : nI a = nI b) (ha : a < 2 ^ 31) (hb : b < 2 ^ 31) : a = b := (nI_eq ha hb).mp h
def InsOK (S : Nat) (σ : rS) (x i c : Int32) (s i' c' : Nat) : Prop := x = nI s ∧ s < S ∧ i = nI i' ∧ i' ≤ s_vis σ s (σ 10 s) ∧ c = nI c' ∧ 1 ≤ c' ∧ c' ≤ 255 ∧ σ 1 s < 6
def SpIns (S : Nat) (σ : rS) (x i c : Int32) (r : Int32) (σs : rS) : Prop := (∃ s i' c' k, InsOK S σ x i c s i' c' ∧ CO σ s i' k ∧ r = nI (σ 1 s) ∧ σs = mkS σ s 1 k c') ∨ ((¬ ∃ s i' c', InsOK S σ x i c s i' c') ∧ r = -1 ∧ σs = σ)
def EraOK (S : Nat) (σ : rS) (x i : Int32) (s i' : Nat) : Prop := x = nI s ∧ s < S ∧ i = nI i' ∧ i' < s_vis σ s (σ 10 s) ∧ σ 1 s < 6
def SpEra (S : Nat) (σ : rS) (x i : Int32) (r : Int32) (σs : rS) : Prop := (∃ s i' k, EraOK S σ x i s i' ∧ CO σ s i' k ∧ r = nI (σ 1 s) ∧ σs = mkS σ s 0 k 0) ∨ ((¬ ∃ s i', EraOK S σ x i s i') ∧ r = -1 ∧ σs = σ)
theorem INV.c18 {S : Nat} {σ : rS} (h : INV S σ) : ∀ s, s < S → σ 10 s ≤ 18 := fun s hs => INV.in18 (S := S) (h.2 s hs).1
theorem INV.S3 {S : Nat} {σ : rS} (h : INV S σ) : S ≤ 3 := by
  have := h.1.1
  omega
theorem INV.m6 {S : Nat} {σ : rS} (h : INV S σ) {s : Nat} (hs : s < S) : σ 1 s ≤ 6 := by
  have := h.1.2.2.1.1 s
  have := h.S3
  rw [s_mk_lt (by omega)] at *
  omega
theorem q_len_s {S s : Nat} {σ : rS} (h : ix S (nI s) = some s) : q_len S σ (nI s) = nI (s_vis σ s (σ 10 s)) := by
  unfold q_len
  rw [h]
set_option maxRecDepth 100000 in
set_option maxHeartbeats 4000000 in
theorem r_insert (l : Launch) (D : va_G) (S : Nat) (σ : rS) (ad0 : Nat → Nat) (w0 : gW) (hInv : INV S σ) (x i c : Int32) : g_M l y_M_insert w_M_insert (rk 6) D gCl g_N [.ref (ad0 200), .int x, .int i, .int c] (RX S σ ad0 w0) 0 0 (fun A => g_Qi D gCl A (fun r ad w => ∃ σs σ', (SpIns S σ x i c r σs ∧ E12 σs σ') ∧ RX S σ' ad0 w0 ad w)) := by
  have hS3 := hInv.S3
  have hc := hInv.c18
  refine g_of (cc := c_M_insert) (nL := 5) (ret := some .int) (by decide) rfl (Nat.le_of_ble_eq_true rfl) ?_
  intro pp ee ss mm bb me cc A hC hr hlk hnm
  refine g_los [0, 1, 2, 3] (lo' := [(0, .ref (ad0 200)), (1, .int x), (2, .int i), (3, .int c)]) rfl ?_
  refine g_pure r_bl_of (fun hb => ?_)
  refine g_aload_n (i := 0) hC d_M_insert_0 rfl rfl (Or.inr ⟨_, rfl⟩) ?_
  refine g_iload_n (i := 1) hC d_M_insert_1 rfl rfl ?_
  refine g_calli hC (g_runV (q := 200) (As := [_]) (st := []) hC g_NOK_N (r_isSite l D S σ ad0 w0 (by omega) x) (t_cwV 1 hC.1.2.2.2.2 m_374 m_376 ms_9 m_6 k_M_isSite rfl rfl hd_M_isSite ⟨by decide, by decide⟩) r_this rfl rfl rfl (Nat.le_of_ble_eq_true rfl) d_M_insert_2 ⟨by decide, by decide⟩) (fun r2 => ?_)
  refine g_and (fun e2 => ?_)
  subst e2
  refine g_if_eqN (tgt := 44) hC d_M_insert_5 (by decide) (pb_le _) (fun h5 => ?_) (fun h5 => ?_)
  · have g5 := pb_0 h5
    refine g_iconst (v := -1) hC d_M_insert_44 (by decide) ?_
    refine g_iret hC hr hlk d_M_insert_45 (by decide) (by decide) (fun ad w hw => ?_)
    exact ⟨σ, σ, ⟨Or.inr ⟨fun ⟨s', i', c', h⟩ => g5 ⟨s', by rw [h.1]; exact ix_nI (by omega) h.2.1⟩, rfl, rfl⟩, E12.refl σ⟩, hw⟩
  · have g5 := pb_1 h5
    obtain ⟨s, hxs⟩ := g5
    obtain ⟨hsS, rfl⟩ := ix_some (by omega) hxs
    refine g_iload_n (i := 2) hC d_M_insert_8 rfl rfl ?_
    refine g_if_lt (tgt := 44) hC d_M_insert_9 (by decide) (fun h9 => ?_) (fun h9 => ?_)
    · refine g_iconst (v := -1) hC d_M_insert_44 (by decide) ?_
      refine g_iret hC hr hlk d_M_insert_45 (by decide) (by decide) (fun ad w hw => ?_)
      exact ⟨σ, σ, ⟨Or.inr ⟨fun ⟨s', i', c', h⟩ => absurd h9 (by have hb1 := h.2.2.2.1; have hb2 := s_vis_le (σ := σ) (s := s') (i := σ 10 s'); have hb3 := hc s' h.2.1; rw [h.2.2.1]; exact nI_pos (by omega)), rfl, rfl⟩, E12.refl σ⟩, hw⟩
    · refine g_iload_n (i := 2) hC d_M_insert_12 rfl rfl ?_
      refine g_aload_n (i := 0) hC d_M_insert_13 rfl rfl (Or.inr ⟨_, rfl⟩) ?_
      refine g_iload_n (i := 1) hC d_M_insert_14 rfl rfl ?_
      refine g_calli hC (g_runV (q := 200) (As := [_]) (st := [_]) hC g_NOK_N (r_length l D S σ ad0 w0 hS3 hc (nI s)) (t_cwV 1 hC.1.2.2.2.2 m_378 m_379 m_380 m_6 k_M_length rfl rfl hd_M_length ⟨by decide, by decide⟩) r_this rfl rfl rfl (Nat.le_of_ble_eq_true rfl) d_M_insert_15 ⟨by decide, by decide⟩) (fun r15 => ?_)
      refine g_and (fun e15 => ?_)
      rw [q_len_s hxs] at e15
      subst e15
      refine g_icmp_gt (tgt := 44) hC d_M_insert_18 (by decide) (fun h18 => ?_) (fun h18 => ?_)
      · refine g_iconst (v := -1) hC d_M_insert_44 (by decide) ?_
        refine g_iret hC hr hlk d_M_insert_45 (by decide) (by decide) (fun ad w hw => ?_)
        exact ⟨σ, σ, ⟨Or.inr ⟨fun ⟨s', i', c', h⟩ => by
          have hb1 := h.2.2.2.1
          have hb2 := s_vis_le (σ := σ) (s := s') (i := σ 10 s')
          have hb3 := hc s' h.2.1
          have e := nI_inj h.1 (by omega) (by have := h.2.1; omega)
          subst e
          rw [h.2.2.1] at h18
          have := (nI_ltI (by omega) (by omega)).mp h18
          omega, rfl, rfl⟩, E12.refl σ⟩, hw⟩
      · refine g_iload_n (i := 3) hC d_M_insert_21 rfl rfl ?_
        refine g_iconst (v := nI 1) hC d_M_insert_22 (by decide) ?_
        refine g_icmp_lt (tgt := 44) hC d_M_insert_23 (by decide) (fun h23 => ?_) (fun h23 => ?_)
        · refine g_iconst (v := -1) hC d_M_insert_44 (by decide) ?_
          refine g_iret hC hr hlk d_M_insert_45 (by decide) (by decide) (fun ad w hw => ?_)
          exact ⟨σ, σ, ⟨Or.inr ⟨fun ⟨s', i', c', h⟩ => by
            have a := h.2.2.2.2
            rw [a.1] at h23
            have := (nI_ltI (by omega) (by omega)).mp h23
            omega, rfl, rfl⟩, E12.refl σ⟩, hw⟩
        · refine g_iload_n (i := 3) hC d_M_insert_26 rfl rfl ?_
          refine g_sipush (v := nI 255) hC d_M_insert_27 (by decide) ?_
          refine g_icmp_gt (tgt := 44) hC d_M_insert_30 (by decide) (fun h30 => ?_) (fun h30 => ?_)
          · refine g_iconst (v := -1) hC d_M_insert_44 (by decide) ?_
            refine g_iret hC hr hlk d_M_insert_45 (by decide) (by decide) (fun ad w hw => ?_)
            exact ⟨σ, σ, ⟨Or.inr ⟨fun ⟨s', i', c', h⟩ => by
              have a := h.2.2.2.2
              rw [a.1] at h30
              have := (nI_ltI (by omega) (by omega)).mp h30
              omega, rfl, rfl⟩, E12.refl σ⟩, hw⟩
          · obtain ⟨i', hi31, rfl⟩ := nI_of h9
            have hvl := s_vis_le (σ := σ) (s := s) (i := σ 10 s)
            have hcs := hc s hsS
            have hil : i' ≤ s_vis σ s (σ 10 s) := Nat.le_of_not_lt (fun z => h18 ((nI_ltI (by omega) (by omega)).mpr z))
            obtain ⟨c', hc31, rfl⟩ := nI_of (x := c) (fun z => h23 (Int32.lt_trans z (by decide +kernel)))
            have hc1 : 1 ≤ c' := Nat.le_of_not_lt (fun z => h23 ((nI_ltI (by omega) (by omega)).mpr z))
            have hc2 : c' ≤ 255 := Nat.le_of_not_lt (fun z => h30 ((nI_ltI (by omega) (by omega)).mpr z))
            refine g_aload_n (i := 0) hC d_M_insert_33 rfl rfl (Or.inr ⟨_, rfl⟩) ?_
            refine g_get hC (fun x h => List.mem_cons_of_mem _ (in_M x h)) 200 r_this rfl 1 (by decide) (List.mem_cons_of_mem _ m_321) rfl rfl d_M_insert_34 ?_
            refine g_iload_n (i := 1) hC d_M_insert_37 rfl rfl ?_
            refine r_ld 1 hC (by decide) (by decide) rfl (fun _ => rfl) (by simp only [r_ln]; omega) d_M_insert_38 ?_
            refine g_bipush (v := nI 6) hC d_M_insert_39 (by decide) ?_
            refine g_icmp_neN (tgt := 46) hC d_M_insert_41 (by decide) (r_lt hb _ _) (by omega) (fun h41 => ?_) (fun h41 => ?_)
            · have hm6 : σ 1 s < 6 := by
                have := hInv.m6 hsS
                omega
              refine g_aload_n (i := 0) hC d_M_insert_46 rfl rfl (Or.inr ⟨_, rfl⟩) ?_
              refine g_iload_n (i := 1) hC d_M_insert_47 rfl rfl ?_
              refine g_iload_n (i := 2) hC d_M_insert_48 rfl rfl ?_
              refine g_calli hC (g_runV (q := 200) (As := [_, _]) (st := []) hC g_NOK_N (r_cellOf l D S σ ad0 w0 s i' (by omega) hcs (by omega)) (t_cwV 2 hC.1.2.2.2.2 m_382 m_384 ms_10 m_6 k_M_cellOf rfl rfl hd_M_cellOf ⟨by decide, by decide⟩) r_this rfl rfl rfl (Nat.le_of_ble_eq_true rfl) d_M_insert_49 ⟨by decide, by decide⟩) (fun r49 => ?_)
              refine g_ex (fun k => g_and (fun e49 => ?_))
              obtain ⟨hco, rfl⟩ := e49
              refine g_istore (i := 4) (lo' := [(4, _), (0, _), (1, _), (2, _), (3, _)]) hC d_M_insert_52 (by decide) rfl ?_
              refine g_aload_n (i := 0) hC d_M_insert_54 rfl rfl (Or.inr ⟨_, rfl⟩) ?_
              refine g_iload_n (i := 1) hC d_M_insert_55 rfl rfl ?_
              refine g_iconst (v := nI 1) hC d_M_insert_56 (by decide) ?_
              refine g_iload (i := 4) hC d_M_insert_57 rfl ?_
              refine g_iload_n (i := 3) hC d_M_insert_59 rfl rfl ?_
              refine g_calli hC (g_runV (q := 200) (As := [_, _, _, _]) (st := []) hC g_NOK_N (r_make l D S σ ad0 w0 s 1 k c' hS3 hsS hInv hm6 (Or.inr ⟨rfl, hc1, hc2, CO_le hco⟩)) (t_cwV 4 hC.1.2.2.2.2 m_386 m_388 ms_11 m_6 k_M_make rfl rfl hd_M_make ⟨by decide, by decide⟩) r_this rfl rfl rfl (Nat.le_of_ble_eq_true rfl) d_M_insert_60 ⟨by decide, by decide⟩) (fun r60 => ?_)
              refine g_ex (fun σ2 => g_and (fun e60 => ?_))
              obtain ⟨hE, hr2⟩ := e60
              refine g_iret hC hr hlk d_M_insert_63 (by decide) (by decide) (fun ad w hw => ?_)
              exact ⟨_, σ2, ⟨Or.inl ⟨s, i', c', k, ⟨rfl, hsS, rfl, hil, rfl, hc1, hc2, hm6⟩, hco, hr2, rfl⟩, hE⟩, hw⟩
            · refine g_iconst (v := -1) hC d_M_insert_44 (by decide) ?_
              refine g_iret hC hr hlk d_M_insert_45 (by decide) (by decide) (fun ad w hw => ?_)
              exact ⟨σ, σ, ⟨Or.inr ⟨fun ⟨s', i', c', h⟩ => by
                have e := nI_inj h.1 (by omega) (by have := h.2.1; omega)
                subst e
                have := h.2.2.2.2.2.2.2
                omega, rfl, rfl⟩, E12.refl σ⟩, hw⟩
set_option maxRecDepth 100000 in
set_option maxHeartbeats 4000000 in
theorem r_erase (l : Launch) (D : va_G) (S : Nat) (σ : rS) (ad0 : Nat → Nat) (w0 : gW) (hInv : INV S σ) (x i : Int32) : g_M l y_M_erase w_M_erase (rk 6) D gCl g_N [.ref (ad0 200), .int x, .int i] (RX S σ ad0 w0) 0 0 (fun A => g_Qi D gCl A (fun r ad w => ∃ σs σ', (SpEra S σ x i r σs ∧ E12 σs σ') ∧ RX S σ' ad0 w0 ad w)) := by
  have hS3 := hInv.S3
  have hc := hInv.c18
  refine g_of (cc := c_M_erase) (nL := 4) (ret := some .int) (by decide) rfl (Nat.le_of_ble_eq_true rfl) ?_
  intro pp ee ss mm bb me cc A hC hr hlk hnm
  refine g_los [0, 1, 2] (lo' := [(0, .ref (ad0 200)), (1, .int x), (2, .int i)]) rfl ?_
  refine g_pure r_bl_of (fun hb => ?_)
  refine g_aload_n (i := 0) hC d_M_erase_0 rfl rfl (Or.inr ⟨_, rfl⟩) ?_
  refine g_iload_n (i := 1) hC d_M_erase_1 rfl rfl ?_
  refine g_calli hC (g_runV (q := 200) (As := [_]) (st := []) hC g_NOK_N (r_isSite l D S σ ad0 w0 (by omega) x) (t_cwV 1 hC.1.2.2.2.2 m_374 m_376 ms_9 m_6 k_M_isSite rfl rfl hd_M_isSite ⟨by decide, by decide⟩) r_this rfl rfl rfl (Nat.le_of_ble_eq_true rfl) d_M_erase_2 ⟨by decide, by decide⟩) (fun r2 => ?_)
  refine g_and (fun e2 => ?_)
  subst e2
  refine g_if_eqN (tgt := 32) hC d_M_erase_5 (by decide) (pb_le _) (fun h5 => ?_) (fun h5 => ?_)
  · have g5 := pb_0 h5
    refine g_iconst (v := -1) hC d_M_erase_32 (by decide) ?_
    refine g_iret hC hr hlk d_M_erase_33 (by decide) (by decide) (fun ad w hw => ?_)
    exact ⟨σ, σ, ⟨Or.inr ⟨fun ⟨s', i', h⟩ => g5 ⟨s', by rw [h.1]; exact ix_nI (by omega) h.2.1⟩, rfl, rfl⟩, E12.refl σ⟩, hw⟩
  · have g5 := pb_1 h5
    obtain ⟨s, hxs⟩ := g5
    obtain ⟨hsS, rfl⟩ := ix_some (by omega) hxs
    refine g_iload_n (i := 2) hC d_M_erase_8 rfl rfl ?_
    refine g_if_lt (tgt := 32) hC d_M_erase_9 (by decide) (fun h9 => ?_) (fun h9 => ?_)
    · refine g_iconst (v := -1) hC d_M_erase_32 (by decide) ?_
      refine g_iret hC hr hlk d_M_erase_33 (by decide) (by decide) (fun ad w hw => ?_)
      exact ⟨σ, σ, ⟨Or.inr ⟨fun ⟨s', i', h⟩ => absurd h9 (by have hb1 := h.2.2.2.1; have hb2 := s_vis_le (σ := σ) (s := s') (i := σ 10 s'); have hb3 := hc s' h.2.1; rw [h.2.2.1]; exact nI_pos (by omega)), rfl, rfl⟩, E12.refl σ⟩, hw⟩
    · refine g_iload_n (i := 2) hC d_M_erase_12 rfl rfl ?_
      refine g_aload_n (i := 0) hC d_M_erase_13 rfl rfl (Or.inr ⟨_, rfl⟩) ?_
      refine g_iload_n (i := 1) hC d_M_erase_14 rfl rfl ?_
      refine g_calli hC (g_runV (q := 200) (As := [_]) (st := [_]) hC g_NOK_N (r_length l D S σ ad0 w0 hS3 hc (nI s)) (t_cwV 1 hC.1.2.2.2.2 m_378 m_379 m_380 m_6 k_M_length rfl rfl hd_M_length ⟨by decide, by decide⟩) r_this rfl rfl rfl (Nat.le_of_ble_eq_true rfl) d_M_erase_15 ⟨by decide, by decide⟩) (fun r15 => ?_)
      refine g_and (fun e15 => ?_)
      rw [q_len_s hxs] at e15
      subst e15
      refine g_icmp_ge (tgt := 32) hC d_M_erase_18 (by decide) (fun h18 => ?_) (fun h18 => ?_)
      · refine g_iconst (v := -1) hC d_M_erase_32 (by decide) ?_
        refine g_iret hC hr hlk d_M_erase_33 (by decide) (by decide) (fun ad w hw => ?_)
        exact ⟨σ, σ, ⟨Or.inr ⟨fun ⟨s', i', h⟩ => by
          have hb1 := h.2.2.2.1
          have hb2 := s_vis_le (σ := σ) (s := s') (i := σ 10 s')
          have hb3 := hc s' h.2.1
          have e := nI_inj h.1 (by omega) (by have := h.2.1; omega)
          subst e
          rw [h.2.2.1] at h18
          have := (nI_leI (by omega) (by omega)).mp h18
          omega, rfl, rfl⟩, E12.refl σ⟩, hw⟩
      · obtain ⟨i', hi31, rfl⟩ := nI_of h9
        have hvl := s_vis_le (σ := σ) (s := s) (i := σ 10 s)
        have hcs := hc s hsS
        have hil : i' < s_vis σ s (σ 10 s) := Nat.lt_of_not_le (fun z => h18 ((nI_leI (by omega) (by omega)).mpr z))
        refine g_aload_n (i := 0) hC d_M_erase_21 rfl rfl (Or.inr ⟨_, rfl⟩) ?_
        refine g_get hC (fun x h => List.mem_cons_of_mem _ (in_M x h)) 200 r_this rfl 1 (by decide) (List.mem_cons_of_mem _ m_321) rfl rfl d_M_erase_22 ?_
        refine g_iload_n (i := 1) hC d_M_erase_25 rfl rfl ?_
        refine r_ld 1 hC (by decide) (by decide) rfl (fun _ => rfl) (by simp only [r_ln]; omega) d_M_erase_26 ?_
        refine g_bipush (v := nI 6) hC d_M_erase_27 (by decide) ?_
        refine g_icmp_neN (tgt := 34) hC d_M_erase_29 (by decide) (r_lt hb _ _) (by omega) (fun h29 => ?_) (fun h29 => ?_)
        · have hm6 : σ 1 s < 6 := by
            have := hInv.m6 hsS
            omega
          refine g_aload_n (i := 0) hC d_M_erase_34 rfl rfl (Or.inr ⟨_, rfl⟩) ?_
          refine g_iload_n (i := 1) hC d_M_erase_35 rfl rfl ?_
          refine g_iload_n (i := 2) hC d_M_erase_36 rfl rfl ?_
          refine g_calli hC (g_runV (q := 200) (As := [_, _]) (st := []) hC g_NOK_N (r_cellOf l D S σ ad0 w0 s i' (by omega) hcs (by omega)) (t_cwV 2 hC.1.2.2.2.2 m_382 m_384 ms_10 m_6 k_M_cellOf rfl rfl hd_M_cellOf ⟨by decide, by decide⟩) r_this rfl rfl rfl (Nat.le_of_ble_eq_true rfl) d_M_erase_37 ⟨by decide, by decide⟩) (fun r37 => ?_)
          refine g_ex (fun k => g_and (fun e37 => ?_))
          obtain ⟨hco, rfl⟩ := e37
          refine g_istore_n (i := 3) (lo' := [(3, _), (0, _), (1, _), (2, _)]) hC d_M_erase_40 rfl (by decide) rfl ?_
          refine g_aload_n (i := 0) hC d_M_erase_41 rfl rfl (Or.inr ⟨_, rfl⟩) ?_
          refine g_iload_n (i := 1) hC d_M_erase_42 rfl rfl ?_
          refine g_iconst (v := nI 0) hC d_M_erase_43 (by decide) ?_
          refine g_iload_n (i := 3) hC d_M_erase_44 rfl rfl ?_
          refine g_iconst (v := nI 0) hC d_M_erase_45 (by decide) ?_
          refine g_calli hC (g_runV (q := 200) (As := [_, _, _, _]) (st := []) hC g_NOK_N (r_make l D S σ ad0 w0 s 0 k 0 hS3 hsS hInv hm6 (Or.inl ⟨rfl, rfl, CO_lt hco hil⟩)) (t_cwV 4 hC.1.2.2.2.2 m_386 m_388 ms_11 m_6 k_M_make rfl rfl hd_M_make ⟨by decide, by decide⟩) r_this rfl rfl rfl (Nat.le_of_ble_eq_true rfl) d_M_erase_46 ⟨by decide, by decide⟩) (fun r46 => ?_)
          refine g_ex (fun σ2 => g_and (fun e46 => ?_))
          obtain ⟨hE, hr2⟩ := e46
          refine g_iret hC hr hlk d_M_erase_49 (by decide) (by decide) (fun ad w hw => ?_)
          exact ⟨_, σ2, ⟨Or.inl ⟨s, i', k, ⟨rfl, hsS, rfl, hil, hm6⟩, hco, hr2, rfl⟩, hE⟩, hw⟩
        · refine g_iconst (v := -1) hC d_M_erase_32 (by decide) ?_
          refine g_iret hC hr hlk d_M_erase_33 (by decide) (by decide) (fun ad w hw => ?_)
          exact ⟨σ, σ, ⟨Or.inr ⟨fun ⟨s', i', h⟩ => by
            have e := nI_inj h.1 (by omega) (by have := h.2.1; omega)
            subst e
            have := h.2.2.2.2
            omega, rfl, rfl⟩, E12.refl σ⟩, hw⟩
end
section
/-- x, y are the site and the number of an operation that was made -/
def MD (S : Nat) (σ : rS) (x y : Int32) (s k : Nat) : Prop := x = nI s ∧ s < S ∧ y = nI k ∧ k < σ 1 s
theorem MD.opn {S : Nat} {σ : rS} (h : INV S σ) {x y : Int32} {s k : Nat} (hm : MD S σ x y s k) : mh (s_mk σ) (6 * s + k) ∧ 6 * s + k < 18 ∧ (6 * s + k) / 6 = s ∧ (6 * s + k) % 6 = k ∧ k < 6 := by
  have h6 := h.m6 hm.2.1
  have h3 := h.S3
  obtain ⟨-, a, -, b⟩ := hm
  have e1 : (6 * s + k) / 6 = s := by omega
  have e2 : (6 * s + k) % 6 = k := by omega
  refine ⟨?_, by omega, e1, e2, by omega⟩
  unfold mh
  rw [e1, e2, s_mk_lt (by omega)]
  exact b
def DlOK (S : Nat) (σ : rS) (t f y : Int32) (s s' k : Nat) : Prop := t = nI s ∧ s < S ∧ MD S σ f y s' k ∧ s ≠ s' ∧ σ 6 (18 * s + (6 * s' + k)) = 0
def SpDl (S : Nat) (σ : rS) (t f y : Int32) (r : Int32) (σs : rS) : Prop := (∃ s s' k n, DlOK S σ t f y s s' k ∧ WK s n (arS σ s (6 * s' + k)) σs ∧ r = nI n) ∨ ((¬ ∃ s s' k, DlOK S σ t f y s s' k) ∧ r = -1 ∧ σs = σ)
theorem ar_eq {σ : rS} {s a b : Nat} : u2 σ 6 (18 * s + a + b) 1 = arS σ s (a + b) := by
  funext k j
  unfold u2 arS
  rw [Nat.add_assoc]
set_option maxRecDepth 100000 in
set_option maxHeartbeats 4000000 in
theorem r_isMade (l : Launch) (D : va_G) (S : Nat) (σ : rS) (ad0 : Nat → Nat) (w0 : gW) (hInv : INV S σ) (x y : Int32) : g_M l y_M_isMade w_M_isMade (rk 1) D gCl g_N [.ref (ad0 200), .int x, .int y] (RX S σ ad0 w0) 0 0 (fun A => g_Qi D gCl A (fun r ad w => r = nI (pb (∃ s k, MD S σ x y s k)) ∧ RX S σ ad0 w0 ad w)) := by
  have hS3 := hInv.S3
  refine g_of (cc := c_M_isMade) (nL := 3) (ret := some .boolean) (by decide) rfl (Nat.le_of_ble_eq_true rfl) ?_
  intro pp ee ss mm bb me cc A hC hr hlk hnm
  refine g_los [0, 1, 2] (lo' := [(0, .ref (ad0 200)), (1, .int x), (2, .int y)]) rfl ?_
  refine g_pure r_bl_of (fun hb => ?_)
  refine g_aload_n (i := 0) hC d_M_isMade_0 rfl rfl (Or.inr ⟨_, rfl⟩) ?_
  refine g_iload_n (i := 1) hC d_M_isMade_1 rfl rfl ?_
  refine g_calli hC (g_runV (q := 200) (As := [_]) (st := []) hC g_NOK_N (r_isSite l D S σ ad0 w0 (by omega) (x)) (t_cwV 1 hC.1.2.2.2.2 m_374 m_376 ms_9 m_6 k_M_isSite rfl rfl hd_M_isSite ⟨by decide, by decide⟩) r_this rfl rfl rfl (Nat.le_of_ble_eq_true rfl) d_M_isMade_2 ⟨by decide, by decide⟩) (fun r2 => ?_)
  refine g_and (fun e => ?_)
  subst e
  refine g_if_eqN (tgt := 26) hC d_M_isMade_5 (by decide) (pb_le _) (fun h5 => ?_) (fun h5 => ?_)
  · have g5 := pb_0 h5
    refine g_iconst (v := nI 0) hC d_M_isMade_26 (by decide) ?_
    refine g_zret hC hr hlk (r_nar2 (by decide)) d_M_isMade_27 (by decide) (by decide) (fun ad w hw => ?_)
    exact ⟨nI_zero (fun ⟨s', k, h⟩ => g5 ⟨s', by rw [h.1]; exact ix_nI (by omega) h.2.1⟩), hw⟩
  · have g5 := pb_1 h5
    obtain ⟨s, hxs⟩ := g5
    obtain ⟨hsS, rfl⟩ := ix_some (by omega) hxs
    refine g_iload_n (i := 2) hC d_M_isMade_8 rfl rfl ?_
    refine g_if_lt (tgt := 26) hC d_M_isMade_9 (by decide) (fun h9 => ?_) (fun h9 => ?_)
    · refine g_iconst (v := nI 0) hC d_M_isMade_26 (by decide) ?_
      refine g_zret hC hr hlk (r_nar2 (by decide)) d_M_isMade_27 (by decide) (by decide) (fun ad w hw => ?_)
      exact ⟨nI_zero (fun ⟨s', k, h⟩ => absurd h9 (by have := hInv.m6 h.2.1; have := h.2.2.2; rw [h.2.2.1]; exact nI_pos (by omega))), hw⟩
    · refine g_iload_n (i := 2) hC d_M_isMade_12 rfl rfl ?_
      refine g_aload_n (i := 0) hC d_M_isMade_13 rfl rfl (Or.inr ⟨_, rfl⟩) ?_
      refine g_get hC (fun x h => List.mem_cons_of_mem _ (in_M x h)) 200 r_this rfl 1 (by decide) (List.mem_cons_of_mem _ m_321) rfl rfl d_M_isMade_14 ?_
      refine g_iload_n (i := 1) hC d_M_isMade_17 rfl rfl ?_
      refine r_ld 1 hC (by decide) (by decide) rfl (fun _ => rfl) (by simp only [r_ln]; omega) d_M_isMade_18 ?_
      refine g_icmp_ge (tgt := 26) hC d_M_isMade_19 (by decide) (fun h19 => ?_) (fun h19 => ?_)
      · refine g_iconst (v := nI 0) hC d_M_isMade_26 (by decide) ?_
        refine g_zret hC hr hlk (r_nar2 (by decide)) d_M_isMade_27 (by decide) (by decide) (fun ad w hw => ?_)
        exact ⟨nI_zero (fun ⟨s', k, h⟩ => by
          have e := nI_inj h.1 (by omega) (by have := h.2.1; omega)
          subst e
          have h6 := hInv.m6 hsS
          have h7 := h.2.2.2
          rw [h.2.2.1] at h19
          have := (nI_leI (by omega) (by omega)).mp h19
          omega), hw⟩
      · refine g_iconst (v := nI 1) hC d_M_isMade_22 (by decide) ?_
        refine g_goto (tgt := 27) hC d_M_isMade_23 (by decide) ?_
        refine g_zret hC hr hlk (r_nar2 (by decide)) d_M_isMade_27 (by decide) (by decide) (fun ad w hw => ?_)
        obtain ⟨k, hk, rfl⟩ := nI_of h9
        have h6 := hInv.m6 hsS
        exact ⟨nI_one ⟨s, k, rfl, hsS, rfl, Nat.lt_of_not_le (fun z => h19 ((nI_leI (by omega) (by omega)).mpr z))⟩, hw⟩
set_option maxRecDepth 100000 in
set_option maxHeartbeats 4000000 in
theorem r_deliver (l : Launch) (D : va_G) (S : Nat) (σ : rS) (ad0 : Nat → Nat) (w0 : gW) (hInv : INV S σ) (t f y : Int32) : g_M l y_M_deliver w_M_deliver (rk 6) D gCl g_N [.ref (ad0 200), .int t, .int f, .int y] (RX S σ ad0 w0) 0 0 (fun A => g_Qi D gCl A (fun r ad w => ∃ σs σ', ((SpDl S σ t f y r σs ∧ INV S σs) ∧ E12 σs σ') ∧ RX S σ' ad0 w0 ad w)) := by
  have hS3 := hInv.S3
  refine g_of (cc := c_M_deliver) (nL := 4) (ret := some .int) (by decide) rfl (Nat.le_of_ble_eq_true rfl) ?_
  intro pp ee ss mm bb me cc A hC hr hlk hnm
  refine g_los [0, 1, 2, 3] (lo' := [(0, .ref (ad0 200)), (1, .int t), (2, .int f), (3, .int y)]) rfl ?_
  refine g_pure r_bl_of (fun hb => ?_)
  refine g_aload_n (i := 0) hC d_M_deliver_0 rfl rfl (Or.inr ⟨_, rfl⟩) ?_
  refine g_iload_n (i := 1) hC d_M_deliver_1 rfl rfl ?_
  refine g_calli hC (g_runV (q := 200) (As := [_]) (st := []) hC g_NOK_N (r_isSite l D S σ ad0 w0 (by omega) (t)) (t_cwV 1 hC.1.2.2.2.2 m_374 m_376 ms_9 m_6 k_M_isSite rfl rfl hd_M_isSite ⟨by decide, by decide⟩) r_this rfl rfl rfl (Nat.le_of_ble_eq_true rfl) d_M_deliver_2 ⟨by decide, by decide⟩) (fun r2 => ?_)
  refine g_and (fun e => ?_)
  subst e
  refine g_if_eqN (tgt := 41) hC d_M_deliver_5 (by decide) (pb_le _) (fun h5 => ?_) (fun h5 => ?_)
  · have g5 := pb_0 h5
    refine g_iconst (v := -1) hC d_M_deliver_41 (by decide) ?_
    refine g_iret hC hr hlk d_M_deliver_42 (by decide) (by decide) (fun ad w hw => ?_)
    exact ⟨σ, σ, ⟨⟨Or.inr ⟨fun ⟨s1, s2, k2, h⟩ => g5 ⟨s1, by rw [h.1]; exact ix_nI (by omega) h.2.1⟩, rfl, rfl⟩, hInv⟩, E12.refl σ⟩, hw⟩
  · have g5 := pb_1 h5
    obtain ⟨s, hxs⟩ := g5
    obtain ⟨hsS, rfl⟩ := ix_some (by omega) hxs
    refine g_iload_n (i := 1) hC d_M_deliver_8 rfl rfl ?_
    refine g_iload_n (i := 2) hC d_M_deliver_9 rfl rfl ?_
    refine g_icmp_eq (tgt := 41) hC d_M_deliver_10 (by decide) (fun h10 => ?_) (fun h10 => ?_)
    · refine g_iconst (v := -1) hC d_M_deliver_41 (by decide) ?_
      refine g_iret hC hr hlk d_M_deliver_42 (by decide) (by decide) (fun ad w hw => ?_)
      exact ⟨σ, σ, ⟨⟨Or.inr ⟨fun ⟨s1, s2, k2, h⟩ => by
        have e := nI_inj h.1 (by omega) (by have := h.2.1; omega)
        have e2 := nI_inj (h10.trans h.2.2.1.1) (by omega) (by have := h.2.2.1.2.1; omega)
        exact h.2.2.2.1 (e.symm.trans e2), rfl, rfl⟩, hInv⟩, E12.refl σ⟩, hw⟩
    · refine g_aload_n (i := 0) hC d_M_deliver_13 rfl rfl (Or.inr ⟨_, rfl⟩) ?_
      refine g_iload_n (i := 2) hC d_M_deliver_14 rfl rfl ?_
      refine g_iload_n (i := 3) hC d_M_deliver_15 rfl rfl ?_
      refine g_calli hC (g_runV (q := 200) (As := [_, _]) (st := []) hC g_NOK_N (r_isMade l D S σ ad0 w0 hInv f y) (t_cwV 2 hC.1.2.2.2.2 m_437 m_439 ms_21 m_6 k_M_isMade rfl rfl hd_M_isMade ⟨by decide, by decide⟩) r_this rfl rfl rfl (Nat.le_of_ble_eq_true rfl) d_M_deliver_16 ⟨by decide, by decide⟩) (fun r16 => ?_)
      refine g_and (fun e => ?_)
      subst e
      refine g_if_eqN (tgt := 41) hC d_M_deliver_19 (by decide) (pb_le _) (fun h19 => ?_) (fun h19 => ?_)
      · have g19 := pb_0 h19
        refine g_iconst (v := -1) hC d_M_deliver_41 (by decide) ?_
        refine g_iret hC hr hlk d_M_deliver_42 (by decide) (by decide) (fun ad w hw => ?_)
        exact ⟨σ, σ, ⟨⟨Or.inr ⟨fun ⟨s1, s2, k2, h⟩ => g19 ⟨s2, k2, h.2.2.1⟩, rfl, rfl⟩, hInv⟩, E12.refl σ⟩, hw⟩
      · have g19 := pb_1 h19
        obtain ⟨s', k, hmd⟩ := g19
        obtain ⟨rfl, hs', rfl, hk⟩ := id hmd
        obtain ⟨hmh, ho18, hod, hom, hk6⟩ := MD.opn hInv hmd
        have hne : s ≠ s' := fun e => h10 (by rw [e])
        refine g_aload_n (i := 0) hC d_M_deliver_22 rfl rfl (Or.inr ⟨_, rfl⟩) ?_
        refine g_get hC (fun x h => List.mem_cons_of_mem _ (in_M x h)) 200 r_this rfl 6 (by decide) (List.mem_cons_of_mem _ m_326) rfl rfl d_M_deliver_23 ?_
        refine g_bipush (v := nI 18) hC d_M_deliver_26 (by decide) ?_
        refine g_iload_n (i := 1) hC d_M_deliver_28 rfl rfl ?_
        refine g_imulN hC d_M_deliver_29 ?_
        refine g_bipush (v := nI 6) hC d_M_deliver_30 (by decide) ?_
        refine g_iload_n (i := 2) hC d_M_deliver_32 rfl rfl ?_
        refine g_imulN hC d_M_deliver_33 ?_
        refine g_iaddN hC d_M_deliver_34 ?_
        refine g_iload_n (i := 3) hC d_M_deliver_35 rfl rfl ?_
        refine g_iaddN hC d_M_deliver_36 ?_
        refine r_zld 6 hC (by decide) (by decide) rfl (fun _ => rfl) (by simp only [r_ln]; omega) d_M_deliver_37 ?_
        refine g_if_eqN (tgt := 43) hC d_M_deliver_38 (by decide) (r_lt hb _ _) (fun h38 => ?_) (fun h38 => ?_)
        · refine g_aload_n (i := 0) hC d_M_deliver_43 rfl rfl (Or.inr ⟨_, rfl⟩) ?_
          refine g_get hC (fun x h => List.mem_cons_of_mem _ (in_M x h)) 200 r_this rfl 6 (by decide) (List.mem_cons_of_mem _ m_326) rfl rfl d_M_deliver_44 ?_
          refine g_bipush (v := nI 18) hC d_M_deliver_47 (by decide) ?_
          refine g_iload_n (i := 1) hC d_M_deliver_49 rfl rfl ?_
          refine g_imulN hC d_M_deliver_50 ?_
          refine g_bipush (v := nI 6) hC d_M_deliver_51 (by decide) ?_
          refine g_iload_n (i := 2) hC d_M_deliver_53 rfl rfl ?_
          refine g_imulN hC d_M_deliver_54 ?_
          refine g_iaddN hC d_M_deliver_55 ?_
          refine g_iload_n (i := 3) hC d_M_deliver_56 rfl rfl ?_
          refine g_iaddN hC d_M_deliver_57 ?_
          refine g_iconst (v := nI 1) hC d_M_deliver_58 (by decide) ?_
          refine r_zst 6 hC (by decide) (by decide) rfl (fun _ => rfl) (by decide) (by simp only [r_ln]; omega) d_M_deliver_59 ?_
          rw [ar_eq]
          refine g_aload_n (i := 0) hC d_M_deliver_60 rfl rfl (Or.inr ⟨_, rfl⟩) ?_
          refine g_iload_n (i := 1) hC d_M_deliver_61 rfl rfl ?_
          refine g_calli hC (g_runV (q := 200) (As := [_]) (st := []) hC g_NOK_N (r_work l D S (arS σ s (6 * s' + k)) ad0 w0 s hS3 hsS (arS_INV hInv hmh)) (t_cwV 1 hC.1.2.2.2.2 m_441 m_443 ms_22 m_6 k_M_work rfl rfl hd_M_work ⟨by decide, by decide⟩) r_this rfl rfl rfl (Nat.le_of_ble_eq_true rfl) d_M_deliver_62 ⟨by decide, by decide⟩) (fun r62 => ?_)
          refine g_ex (fun n => g_ex (fun σs => g_ex (fun σ2 => g_and (fun e62 => ?_))))
          obtain ⟨hwk, hE, hr2, hn18⟩ := e62
          refine g_iret hC hr hlk d_M_deliver_65 (by decide) (by decide) (fun ad w hw => ?_)
          exact ⟨σs, σ2, ⟨⟨Or.inl ⟨s, s', k, n, ⟨rfl, hsS, hmd, hne, by rw [← Nat.add_assoc]; exact h38⟩, hwk.1, hr2⟩, hwk.2⟩, hE⟩, hw⟩
        · refine g_iconst (v := -1) hC d_M_deliver_41 (by decide) ?_
          refine g_iret hC hr hlk d_M_deliver_42 (by decide) (by decide) (fun ad w hw => ?_)
          exact ⟨σ, σ, ⟨⟨Or.inr ⟨fun ⟨s1, s2, k2, h⟩ => by
            have e := nI_inj h.1 (by omega) (by have := h.2.1; omega)
            have e2 := nI_inj h.2.2.1.1 (by omega) (by have := h.2.2.1.2.1; omega)
            subst e
            subst e2
            have hk6 := (MD.opn hInv h.2.2.1).2.2.2.2
            have e3 := nI_inj h.2.2.1.2.2.1 (by omega) (by omega)
            subst e3
            have := h.2.2.2.2
            rw [← Nat.add_assoc] at this
            exact h38 this, rfl, rfl⟩, hInv⟩, E12.refl σ⟩, hw⟩
/-- the code of operation o -/
def cdv (σ : rS) (o : Nat) : Nat := o / 6 + 4 * (o % 6) + (if σ 2 o = 0 then 0 else 64) + 128 * σ 3 o + 8192 * σ 4 o + 2097152 * σ 5 (3 * o) + 33554432 * σ 5 (3 * o + 1) + 536870912 * σ 5 (3 * o + 2)
def SpCd (S : Nat) (σ : rS) (x y : Int32) (r : Int64) : Prop := (∃ s k, MD S σ x y s k ∧ r = lN (cdv σ (6 * s + k))) ∨ ((¬ ∃ s k, MD S σ x y s k) ∧ r = -1)
def q_ex (S : Nat) (σ : rS) (x y : Int32) : Int32 := match ix S x, ix S y with
  | some s, some t => nI (σ 8 (3 * s + t))
  | _, _ => -1
def s_wt (σ : rS) (s i : Nat) : Nat := msum (fun o => if σ 6 (18 * s + o) ≠ 0 ∧ σ 7 (18 * s + o) = 0 then 1 else 0) i
def q_wt (S : Nat) (σ : rS) (x : Int32) : Int32 := match ix S x with
  | some s => nI (s_wt σ s 18)
  | none => -1
def SpPl (S : Nat) (σ : rS) (x y z : Int32) (r : Int32) : Prop := (∃ s t k, x = nI s ∧ s < S ∧ MD S σ y z t k ∧ r = nI (σ 7 (18 * s + (6 * t + k))) - 1) ∨ ((¬ ∃ s t k, x = nI s ∧ s < S ∧ MD S σ y z t k) ∧ r = -1)
def SpAt (S : Nat) (σ : rS) (x i : Int32) (r : Int32) : Prop := (∃ s i' k, (x = nI s ∧ s < S ∧ i = nI i' ∧ i' < s_vis σ s (σ 10 s)) ∧ CO σ s i' k ∧ r = nI (σ 4 (σ 11 (18 * s + k)))) ∨ ((¬ ∃ s i', x = nI s ∧ s < S ∧ i = nI i' ∧ i' < s_vis σ s (σ 10 s)) ∧ r = -1)
def q_cs (S : Nat) (σ : rS) (x : Int32) : Int32 := match ix S x with
  | some s => nI (σ 10 s)
  | none => -1
def s_sg (σ : rS) (s i : Nat) : Int32 := if σ 12 (18 * s + i) = 0 then -nI (σ 4 (σ 11 (18 * s + i))) else nI (σ 4 (σ 11 (18 * s + i)))
def SpCe (S : Nat) (σ : rS) (x i : Int32) (r : Int32) : Prop := (∃ s i', (x = nI s ∧ s < S ∧ i = nI i' ∧ i' < σ 10 s) ∧ r = s_sg σ s i') ∨ ((¬ ∃ s i', x = nI s ∧ s < S ∧ i = nI i' ∧ i' < σ 10 s) ∧ r = 0)
set_option maxRecDepth 100000 in
set_option maxHeartbeats 4000000 in
theorem r_executed (l : Launch) (D : va_G) (S : Nat) (σ : rS) (ad0 : Nat → Nat) (w0 : gW) (hS3 : S ≤ 3) (x y : Int32) : g_M l y_M_executed w_M_executed (rk 1) D gCl g_N [.ref (ad0 200), .int x, .int y] (RX S σ ad0 w0) 0 0 (fun A => g_Qi D gCl A (fun r ad w => r = q_ex S σ x y ∧ RX S σ ad0 w0 ad w)) := by
  refine g_of (cc := c_M_executed) (nL := 3) (ret := some .int) (by decide) rfl (Nat.le_of_ble_eq_true rfl) ?_
  intro pp ee ss mm bb me cc A hC hr hlk hnm
  refine g_los [0, 1, 2] (lo' := [(0, .ref (ad0 200)), (1, .int x), (2, .int y)]) rfl ?_
  refine g_pure r_bl_of (fun hb => ?_)
  refine g_aload_n (i := 0) hC d_M_executed_0 rfl rfl (Or.inr ⟨_, rfl⟩) ?_
  refine g_iload_n (i := 1) hC d_M_executed_1 rfl rfl ?_
  refine g_calli hC (g_runV (q := 200) (As := [_]) (st := []) hC g_NOK_N (r_isSite l D S σ ad0 w0 (by omega) (x)) (t_cwV 1 hC.1.2.2.2.2 m_374 m_376 ms_9 m_6 k_M_isSite rfl rfl hd_M_isSite ⟨by decide, by decide⟩) r_this rfl rfl rfl (Nat.le_of_ble_eq_true rfl) d_M_executed_2 ⟨by decide, by decide⟩) (fun r2 => ?_)
  refine g_and (fun e => ?_)
  subst e
  refine g_if_eqN (tgt := 29) hC d_M_executed_5 (by decide) (pb_le _) (fun h5 => ?_) (fun h5 => ?_)
  · have g5 := pb_0 h5
    refine g_iconst (v := -1) hC d_M_executed_29 (by decide) ?_
    refine g_iret hC hr hlk d_M_executed_30 (by decide) (by decide) (fun ad w hw => ?_)
    exact ⟨by unfold q_ex; rw [ix_no g5], hw⟩
  · have g5 := pb_1 h5
    obtain ⟨s, hxs⟩ := g5
    obtain ⟨hsS, rfl⟩ := ix_some (by omega) hxs
    refine g_aload_n (i := 0) hC d_M_executed_8 rfl rfl (Or.inr ⟨_, rfl⟩) ?_
    refine g_iload_n (i := 2) hC d_M_executed_9 rfl rfl ?_
    refine g_calli hC (g_runV (q := 200) (As := [_]) (st := []) hC g_NOK_N (r_isSite l D S σ ad0 w0 (by omega) (y)) (t_cwV 1 hC.1.2.2.2.2 m_374 m_376 ms_9 m_6 k_M_isSite rfl rfl hd_M_isSite ⟨by decide, by decide⟩) r_this rfl rfl rfl (Nat.le_of_ble_eq_true rfl) d_M_executed_10 ⟨by decide, by decide⟩) (fun r10 => ?_)
    refine g_and (fun e => ?_)
    subst e
    refine g_if_eqN (tgt := 29) hC d_M_executed_13 (by decide) (pb_le _) (fun h13 => ?_) (fun h13 => ?_)
    · have g13 := pb_0 h13
      refine g_iconst (v := -1) hC d_M_executed_29 (by decide) ?_
      refine g_iret hC hr hlk d_M_executed_30 (by decide) (by decide) (fun ad w hw => ?_)
      exact ⟨by unfold q_ex; rw [hxs, ix_no g13], hw⟩
    · have g13 := pb_1 h13
      obtain ⟨t, hys⟩ := g13
      obtain ⟨htS, rfl⟩ := ix_some (by omega) hys
      refine g_aload_n (i := 0) hC d_M_executed_16 rfl rfl (Or.inr ⟨_, rfl⟩) ?_
      refine g_get hC (fun x h => List.mem_cons_of_mem _ (in_M x h)) 200 r_this rfl 8 (by decide) (List.mem_cons_of_mem _ m_328) rfl rfl d_M_executed_17 ?_
      refine g_iconst (v := nI 3) hC d_M_executed_20 (by decide) ?_
      refine g_iload_n (i := 1) hC d_M_executed_21 rfl rfl ?_
      refine g_imulN hC d_M_executed_22 ?_
      refine g_iload_n (i := 2) hC d_M_executed_23 rfl rfl ?_
      refine g_iaddN hC d_M_executed_24 ?_
      refine r_ld 8 hC (by decide) (by decide) rfl (fun _ => rfl) (by simp only [r_ln]; omega) d_M_executed_25 ?_
      refine g_goto (tgt := 30) hC d_M_executed_26 (by decide) ?_
      refine g_iret hC hr hlk d_M_executed_30 (by decide) (by decide) (fun ad w hw => ?_)
      exact ⟨by unfold q_ex; rw [hxs, hys], hw⟩
set_option maxRecDepth 100000 in
set_option maxHeartbeats 4000000 in
theorem r_waiting (l : Launch) (D : va_G) (S : Nat) (σ : rS) (ad0 : Nat → Nat) (w0 : gW) (hS3 : S ≤ 3) (x : Int32) : g_M l y_M_waiting w_M_waiting (rk 1) D gCl g_N [.ref (ad0 200), .int x] (RX S σ ad0 w0) 0 0 (fun A => g_Qi D gCl A (fun r ad w => r = q_wt S σ x ∧ RX S σ ad0 w0 ad w)) := by
  refine g_of (cc := c_M_waiting) (nL := 4) (ret := some .int) (by decide) rfl (Nat.le_of_ble_eq_true rfl) ?_
  intro pp ee ss mm bb me cc A hC hr hlk hnm
  refine g_los [0, 1] (lo' := [(0, .ref (ad0 200)), (1, .int x)]) rfl ?_
  refine g_pure r_bl_of (fun hb => ?_)
  refine g_aload_n (i := 0) hC d_M_waiting_0 rfl rfl (Or.inr ⟨_, rfl⟩) ?_
  refine g_iload_n (i := 1) hC d_M_waiting_1 rfl rfl ?_
  refine g_calli hC (g_runV (q := 200) (As := [_]) (st := []) hC g_NOK_N (r_isSite l D S σ ad0 w0 (by omega) (x)) (t_cwV 1 hC.1.2.2.2.2 m_374 m_376 ms_9 m_6 k_M_isSite rfl rfl hd_M_isSite ⟨by decide, by decide⟩) r_this rfl rfl rfl (Nat.le_of_ble_eq_true rfl) d_M_waiting_2 ⟨by decide, by decide⟩) (fun r2 => ?_)
  refine g_and (fun e => ?_)
  subst e
  refine g_if_neN (tgt := 10) hC d_M_waiting_5 (by decide) (pb_le _) (fun h5 => ?_) (fun h5 => ?_)
  · have g5 := pb_1 h5
    obtain ⟨s, hxs⟩ := g5
    obtain ⟨hsS, rfl⟩ := ix_some (by omega) hxs
    refine g_iconst (v := nI 0) hC d_M_waiting_10 (by decide) ?_
    refine g_istore_n (i := 2) (lo' := [(2, _), (0, _), (1, _)]) hC d_M_waiting_11 rfl (by decide) rfl ?_
    refine g_iconst (v := nI 0) hC d_M_waiting_12 (by decide) ?_
    refine g_istore_n (i := 3) (lo' := [(3, _), (2, _), (0, _), (1, _)]) hC d_M_waiting_13 rfl (by decide) rfl ?_
    refine g_los [2, 3, 1, 0] (lo' := [(0, _), (1, _), (2, _), (3, _)]) rfl ?_
    refine g_loop (ι := Nat × Nat) (pc0 := 14) (fun ⟨i, v⟩ => 18 - i) (fun ⟨i, v⟩ => i ≤ 18 ∧ v = s_wt σ s i) (fun ⟨i, v⟩ => RX S σ ad0 w0) (fun ⟨i, v⟩ => [(0, .ref (ad0 200)), (1, .int (nI s)), (2, .int (nI v)), (3, .int (nI i))]) ?_ (0, 0) (⟨Nat.zero_le _, rfl⟩)
    rintro ⟨i, v⟩ hI ih
    try dsimp only at hI ih ⊢
    refine g_iload_n (i := 3) hC d_M_waiting_14 rfl rfl ?_
    refine g_bipush (v := nI 18) hC d_M_waiting_15 (by decide) ?_
    refine g_icmp_geN (tgt := 62) hC d_M_waiting_17 (by decide) (by first | omega | exact r_lt hb _ _ | exact pb_le _) (by first | omega | exact r_lt hb _ _ | exact pb_le _) (fun h17 => ?_) (fun h17 => ?_)
    · refine g_iload_n (i := 2) hC d_M_waiting_62 rfl rfl ?_
      refine g_iret hC hr hlk d_M_waiting_63 (by decide) (by decide) (fun ad w hw => ?_)
      exact ⟨by unfold q_wt; rw [hxs]; show nI v = nI (s_wt σ s 18); rw [hI.2, show i = 18 by omega], hw⟩
    · refine g_aload_n (i := 0) hC d_M_waiting_20 rfl rfl (Or.inr ⟨_, rfl⟩) ?_
      refine g_get hC (fun x h => List.mem_cons_of_mem _ (in_M x h)) 200 r_this rfl 6 (by decide) (List.mem_cons_of_mem _ m_326) rfl rfl d_M_waiting_21 ?_
      refine g_bipush (v := nI 18) hC d_M_waiting_24 (by decide) ?_
      refine g_iload_n (i := 1) hC d_M_waiting_26 rfl rfl ?_
      refine g_imulN hC d_M_waiting_27 ?_
      refine g_iload_n (i := 3) hC d_M_waiting_28 rfl rfl ?_
      refine g_iaddN hC d_M_waiting_29 ?_
      refine r_zld 6 hC (by decide) (by decide) rfl (fun _ => rfl) (by simp only [r_ln]; omega) d_M_waiting_30 ?_
      refine g_if_eqN (tgt := 54) hC d_M_waiting_31 (by decide) (r_lt hb _ _) (fun h31 => ?_) (fun h31 => ?_)
      · refine g_iload_n (i := 2) hC d_M_waiting_54 rfl rfl ?_
        refine g_istore_n (i := 2) (lo' := [(2, _), (0, _), (1, _), (3, _)]) hC d_M_waiting_55 rfl (by decide) rfl ?_
        refine g_iinc (i := 3) (k := 3) (lo' := [(3, _), (2, _), (0, _), (1, _)]) hC d_M_waiting_56 rfl (nI_inc _) (by decide) rfl ?_
        refine g_goto (tgt := 14) hC d_M_waiting_59 (by decide) ?_
        refine g_los [2, 3, 1, 0] rfl ?_
        exact ih (i + 1, v) ⟨by omega, by unfold s_wt; simp only [msum]; rw [if_neg (fun q => q.1 h31), Nat.add_zero]; exact hI.2⟩ (by first | omega | (dsimp only; omega))
      · refine g_aload_n (i := 0) hC d_M_waiting_34 rfl rfl (Or.inr ⟨_, rfl⟩) ?_
        refine g_get hC (fun x h => List.mem_cons_of_mem _ (in_M x h)) 200 r_this rfl 7 (by decide) (List.mem_cons_of_mem _ m_327) rfl rfl d_M_waiting_35 ?_
        refine g_bipush (v := nI 18) hC d_M_waiting_38 (by decide) ?_
        refine g_iload_n (i := 1) hC d_M_waiting_40 rfl rfl ?_
        refine g_imulN hC d_M_waiting_41 ?_
        refine g_iload_n (i := 3) hC d_M_waiting_42 rfl rfl ?_
        refine g_iaddN hC d_M_waiting_43 ?_
        refine r_lde 7 hC (by decide) (by decide) rfl (fun _ => rfl) (by simp only [r_ln]; omega) d_M_waiting_44 ?_
        refine g_if_ge (tgt := 54) hC d_M_waiting_45 (by decide) (fun h45 => ?_) (fun h45 => ?_)
        · refine g_iload_n (i := 2) hC d_M_waiting_54 rfl rfl ?_
          refine g_istore_n (i := 2) (lo' := [(2, _), (0, _), (1, _), (3, _)]) hC d_M_waiting_55 rfl (by decide) rfl ?_
          refine g_iinc (i := 3) (k := 3) (lo' := [(3, _), (2, _), (0, _), (1, _)]) hC d_M_waiting_56 rfl (nI_inc _) (by decide) rfl ?_
          refine g_goto (tgt := 14) hC d_M_waiting_59 (by decide) ?_
          refine g_los [2, 3, 1, 0] rfl ?_
          exact ih (i + 1, v) ⟨by omega, by unfold s_wt; simp only [msum]; rw [if_neg (fun q => (en_ge (r_lt hb _ _)).mp h45 q.2), Nat.add_zero]; exact hI.2⟩ (by first | omega | (dsimp only; omega))
        · refine g_iload_n (i := 2) hC d_M_waiting_48 rfl rfl ?_
          refine g_iconst (v := nI 1) hC d_M_waiting_49 (by decide) ?_
          refine g_iaddN hC d_M_waiting_50 ?_
          refine g_goto (tgt := 55) hC d_M_waiting_51 (by decide) ?_
          refine g_istore_n (i := 2) (lo' := [(2, _), (0, _), (1, _), (3, _)]) hC d_M_waiting_55 rfl (by decide) rfl ?_
          refine g_iinc (i := 3) (k := 3) (lo' := [(3, _), (2, _), (0, _), (1, _)]) hC d_M_waiting_56 rfl (nI_inc _) (by decide) rfl ?_
          refine g_goto (tgt := 14) hC d_M_waiting_59 (by decide) ?_
          refine g_los [2, 3, 1, 0] rfl ?_
          exact ih (i + 1, v + 1) ⟨by omega, by unfold s_wt; simp only [msum]; rw [if_pos ⟨h31, Classical.byContradiction (fun z => h45 ((en_ge (r_lt hb _ _)).mpr z))⟩, hI.2]; rfl⟩ (by first | omega | (dsimp only; omega))
  · have g5 := pb_0 h5
    refine g_iconst (v := -1) hC d_M_waiting_8 (by decide) ?_
    refine g_iret hC hr hlk d_M_waiting_9 (by decide) (by decide) (fun ad w hw => ?_)
    exact ⟨by unfold q_wt; rw [ix_no g5], hw⟩
set_option maxRecDepth 100000 in
set_option maxHeartbeats 4000000 in
theorem r_place (l : Launch) (D : va_G) (S : Nat) (σ : rS) (ad0 : Nat → Nat) (w0 : gW) (hInv : INV S σ) (x y z : Int32) : g_M l y_M_place w_M_place (rk 2) D gCl g_N [.ref (ad0 200), .int x, .int y, .int z] (RX S σ ad0 w0) 0 0 (fun A => g_Qi D gCl A (fun r ad w => SpPl S σ x y z r ∧ RX S σ ad0 w0 ad w)) := by
  have hS3 := hInv.S3
  refine g_of (cc := c_M_place) (nL := 4) (ret := some .int) (by decide) rfl (Nat.le_of_ble_eq_true rfl) ?_
  intro pp ee ss mm bb me cc A hC hr hlk hnm
  refine g_los [0, 1, 2, 3] (lo' := [(0, .ref (ad0 200)), (1, .int x), (2, .int y), (3, .int z)]) rfl ?_
  refine g_pure r_bl_of (fun hb => ?_)
  refine g_aload_n (i := 0) hC d_M_place_0 rfl rfl (Or.inr ⟨_, rfl⟩) ?_
  refine g_iload_n (i := 1) hC d_M_place_1 rfl rfl ?_
  refine g_calli hC (g_runV (q := 200) (As := [_]) (st := []) hC g_NOK_N (r_isSite l D S σ ad0 w0 (by omega) (x)) (t_cwV 1 hC.1.2.2.2.2 m_374 m_376 ms_9 m_6 k_M_isSite rfl rfl hd_M_isSite ⟨by decide, by decide⟩) r_this rfl rfl rfl (Nat.le_of_ble_eq_true rfl) d_M_place_2 ⟨by decide, by decide⟩) (fun r2 => ?_)
  refine g_and (fun e => ?_)
  subst e
  refine g_if_eqN (tgt := 36) hC d_M_place_5 (by decide) (pb_le _) (fun h5 => ?_) (fun h5 => ?_)
  · have g5 := pb_0 h5
    refine g_iconst (v := -1) hC d_M_place_36 (by decide) ?_
    refine g_iret hC hr hlk d_M_place_37 (by decide) (by decide) (fun ad w hw => ?_)
    exact ⟨Or.inr ⟨fun ⟨s1, t1, k1, h⟩ => g5 ⟨s1, by rw [h.1]; exact ix_nI (by omega) h.2.1⟩, rfl⟩, hw⟩
  · have g5 := pb_1 h5
    obtain ⟨s, hxs⟩ := g5
    obtain ⟨hsS, rfl⟩ := ix_some (by omega) hxs
    refine g_aload_n (i := 0) hC d_M_place_8 rfl rfl (Or.inr ⟨_, rfl⟩) ?_
    refine g_iload_n (i := 2) hC d_M_place_9 rfl rfl ?_
    refine g_iload_n (i := 3) hC d_M_place_10 rfl rfl ?_
    refine g_calli hC (g_runV (q := 200) (As := [_, _]) (st := []) hC g_NOK_N (r_isMade l D S σ ad0 w0 hInv y z) (t_cwV 2 hC.1.2.2.2.2 m_437 m_439 ms_21 m_6 k_M_isMade rfl rfl hd_M_isMade ⟨by decide, by decide⟩) r_this rfl rfl rfl (Nat.le_of_ble_eq_true rfl) d_M_place_11 ⟨by decide, by decide⟩) (fun r11 => ?_)
    refine g_and (fun e => ?_)
    subst e
    refine g_if_eqN (tgt := 36) hC d_M_place_14 (by decide) (pb_le _) (fun h14 => ?_) (fun h14 => ?_)
    · have g14 := pb_0 h14
      refine g_iconst (v := -1) hC d_M_place_36 (by decide) ?_
      refine g_iret hC hr hlk d_M_place_37 (by decide) (by decide) (fun ad w hw => ?_)
      exact ⟨Or.inr ⟨fun ⟨s1, t1, k1, h⟩ => g14 ⟨t1, k1, h.2.2⟩, rfl⟩, hw⟩
    · have g14 := pb_1 h14
      obtain ⟨t, k, hmd⟩ := g14
      obtain ⟨rfl, hs', rfl, hk⟩ := id hmd
      obtain ⟨hmh, ho18, hod, hom, hk6⟩ := MD.opn hInv hmd
      refine g_aload_n (i := 0) hC d_M_place_17 rfl rfl (Or.inr ⟨_, rfl⟩) ?_
      refine g_get hC (fun x h => List.mem_cons_of_mem _ (in_M x h)) 200 r_this rfl 7 (by decide) (List.mem_cons_of_mem _ m_327) rfl rfl d_M_place_18 ?_
      refine g_bipush (v := nI 18) hC d_M_place_21 (by decide) ?_
      refine g_iload_n (i := 1) hC d_M_place_23 rfl rfl ?_
      refine g_imulN hC d_M_place_24 ?_
      refine g_bipush (v := nI 6) hC d_M_place_25 (by decide) ?_
      refine g_iload_n (i := 2) hC d_M_place_27 rfl rfl ?_
      refine g_imulN hC d_M_place_28 ?_
      refine g_iaddN hC d_M_place_29 ?_
      refine g_iload_n (i := 3) hC d_M_place_30 rfl rfl ?_
      refine g_iaddN hC d_M_place_31 ?_
      refine r_lde 7 hC (by decide) (by decide) rfl (fun _ => rfl) (by simp only [r_ln]; omega) d_M_place_32 ?_
      refine g_goto (tgt := 37) hC d_M_place_33 (by decide) ?_
      refine g_iret hC hr hlk d_M_place_37 (by decide) (by decide) (fun ad w hw => ?_)
      exact ⟨Or.inl ⟨s, t, k, rfl, hsS, hmd, by rw [← Nat.add_assoc]⟩, hw⟩
set_option maxRecDepth 100000 in
set_option maxHeartbeats 4000000 in
theorem r_at (l : Launch) (D : va_G) (S : Nat) (σ : rS) (ad0 : Nat → Nat) (w0 : gW) (hInv : INV S σ) (x i : Int32) : g_M l y_M_at w_M_at (rk 2) D gCl g_N [.ref (ad0 200), .int x, .int i] (RX S σ ad0 w0) 0 0 (fun A => g_Qi D gCl A (fun r ad w => SpAt S σ x i r ∧ RX S σ ad0 w0 ad w)) := by
  have hS3 := hInv.S3
  have hc := hInv.c18
  refine g_of (cc := c_M_at) (nL := 4) (ret := some .int) (by decide) rfl (Nat.le_of_ble_eq_true rfl) ?_
  intro pp ee ss mm bb me cc A hC hr hlk hnm
  refine g_los [0, 1, 2] (lo' := [(0, .ref (ad0 200)), (1, .int x), (2, .int i)]) rfl ?_
  refine g_pure r_bl_of (fun hb => ?_)
  refine g_aload_n (i := 0) hC d_M_at_0 rfl rfl (Or.inr ⟨_, rfl⟩) ?_
  refine g_iload_n (i := 1) hC d_M_at_1 rfl rfl ?_
  refine g_calli hC (g_runV (q := 200) (As := [_]) (st := []) hC g_NOK_N (r_isSite l D S σ ad0 w0 (by omega) (x)) (t_cwV 1 hC.1.2.2.2.2 m_374 m_376 ms_9 m_6 k_M_isSite rfl rfl hd_M_isSite ⟨by decide, by decide⟩) r_this rfl rfl rfl (Nat.le_of_ble_eq_true rfl) d_M_at_2 ⟨by decide, by decide⟩) (fun r2 => ?_)
  refine g_and (fun e => ?_)
  subst e
  refine g_if_eqN (tgt := 21) hC d_M_at_5 (by decide) (pb_le _) (fun h5 => ?_) (fun h5 => ?_)
  · have g5 := pb_0 h5
    refine g_iconst (v := -1) hC d_M_at_21 (by decide) ?_
    refine g_iret hC hr hlk d_M_at_22 (by decide) (by decide) (fun ad w hw => ?_)
    exact ⟨Or.inr ⟨fun ⟨s1, i1, h⟩ => g5 ⟨s1, by rw [h.1]; exact ix_nI (by omega) h.2.1⟩, rfl⟩, hw⟩
  · have g5 := pb_1 h5
    obtain ⟨s, hxs⟩ := g5
    obtain ⟨hsS, rfl⟩ := ix_some (by omega) hxs
    refine g_iload_n (i := 2) hC d_M_at_8 rfl rfl ?_
    refine g_if_lt (tgt := 21) hC d_M_at_9 (by decide) (fun h9 => ?_) (fun h9 => ?_)
    · refine g_iconst (v := -1) hC d_M_at_21 (by decide) ?_
      refine g_iret hC hr hlk d_M_at_22 (by decide) (by decide) (fun ad w hw => ?_)
      exact ⟨Or.inr ⟨fun ⟨s1, i1, h⟩ => absurd h9 (by have hb1 := h.2.2.2; have hb2 := s_vis_le (σ := σ) (s := s1) (i := σ 10 s1); have hb3 := hc s1 h.2.1; rw [h.2.2.1]; exact nI_pos (by omega)), rfl⟩, hw⟩
    · refine g_iload_n (i := 2) hC d_M_at_12 rfl rfl ?_
      refine g_aload_n (i := 0) hC d_M_at_13 rfl rfl (Or.inr ⟨_, rfl⟩) ?_
      refine g_iload_n (i := 1) hC d_M_at_14 rfl rfl ?_
      refine g_calli hC (g_runV (q := 200) (As := [_]) (st := [_]) hC g_NOK_N (r_length l D S σ ad0 w0 hS3 hc (nI s)) (t_cwV 1 hC.1.2.2.2.2 m_378 m_379 m_380 m_6 k_M_length rfl rfl hd_M_length ⟨by decide, by decide⟩) r_this rfl rfl rfl (Nat.le_of_ble_eq_true rfl) d_M_at_15 ⟨by decide, by decide⟩) (fun r15 => ?_)
      refine g_and (fun e15 => ?_)
      rw [q_len_s hxs] at e15
      subst e15
      refine g_icmp_lt (tgt := 23) hC d_M_at_18 (by decide) (fun h18 => ?_) (fun h18 => ?_)
      · obtain ⟨i', hi31, rfl⟩ := nI_of h9
        have hvl := s_vis_le (σ := σ) (s := s) (i := σ 10 s)
        have hcs := hc s hsS
        have hil : i' < s_vis σ s (σ 10 s) := (nI_ltI (by omega) (by omega)).mp h18
        refine g_aload_n (i := 0) hC d_M_at_23 rfl rfl (Or.inr ⟨_, rfl⟩) ?_
        refine g_iload_n (i := 1) hC d_M_at_24 rfl rfl ?_
        refine g_iload_n (i := 2) hC d_M_at_25 rfl rfl ?_
        refine g_calli hC (g_runV (q := 200) (As := [_, _]) (st := []) hC g_NOK_N (r_cellOf l D S σ ad0 w0 s i' (by omega) hcs (by omega)) (t_cwV 2 hC.1.2.2.2.2 m_382 m_384 ms_10 m_6 k_M_cellOf rfl rfl hd_M_cellOf ⟨by decide, by decide⟩) r_this rfl rfl rfl (Nat.le_of_ble_eq_true rfl) d_M_at_26 ⟨by decide, by decide⟩) (fun r26 => ?_)
        refine g_ex (fun k => g_and (fun e26 => ?_))
        obtain ⟨hco, rfl⟩ := e26
        refine g_istore_n (i := 3) (lo' := [(3, _), (0, _), (1, _), (2, _)]) hC d_M_at_29 rfl (by decide) rfl ?_
        have hkl := CO_lt hco hil
        have hce := hInv.1.lt18 ((hInv.2 s hsS).1.1.made ((hInv.2 s hsS).1.2.2.1 k hkl).2.1)
        refine g_aload_n (i := 0) hC d_M_at_30 rfl rfl (Or.inr ⟨_, rfl⟩) ?_
        refine g_get hC (fun x h => List.mem_cons_of_mem _ (in_M x h)) 200 r_this rfl 4 (by decide) (List.mem_cons_of_mem _ m_324) rfl rfl d_M_at_31 ?_
        refine g_aload_n (i := 0) hC d_M_at_34 rfl rfl (Or.inr ⟨_, rfl⟩) ?_
        refine g_get hC (fun x h => List.mem_cons_of_mem _ (in_M x h)) 200 r_this rfl 11 (by decide) (List.mem_cons_of_mem _ m_331) rfl rfl d_M_at_35 ?_
        refine g_bipush (v := nI 18) hC d_M_at_38 (by decide) ?_
        refine g_iload_n (i := 1) hC d_M_at_40 rfl rfl ?_
        refine g_imulN hC d_M_at_41 ?_
        refine g_iload_n (i := 3) hC d_M_at_42 rfl rfl ?_
        refine g_iaddN hC d_M_at_43 ?_
        refine r_ld 11 hC (by decide) (by decide) rfl (fun _ => rfl) (by simp only [r_ln]; omega) d_M_at_44 ?_
        refine r_ld 4 hC (by decide) (by decide) rfl (fun _ => rfl) (by simp only [r_ln]; omega) d_M_at_45 ?_
        refine g_iret hC hr hlk d_M_at_46 (by decide) (by decide) (fun ad w hw => ?_)
        exact ⟨Or.inl ⟨s, i', k, ⟨rfl, hsS, rfl, hil⟩, hco, rfl⟩, hw⟩
      · refine g_iconst (v := -1) hC d_M_at_21 (by decide) ?_
        refine g_iret hC hr hlk d_M_at_22 (by decide) (by decide) (fun ad w hw => ?_)
        exact ⟨Or.inr ⟨fun ⟨s1, i1, h⟩ => by
          have hb1 := h.2.2.2
          have hb2 := s_vis_le (σ := σ) (s := s1) (i := σ 10 s1)
          have hb3 := hc s1 h.2.1
          have e := nI_inj h.1 (by omega) (by have := h.2.1; omega)
          subst e
          rw [h.2.2.1] at h18
          exact h18 ((nI_ltI (by omega) (by omega)).mpr hb1), rfl⟩, hw⟩
set_option maxRecDepth 100000 in
set_option maxHeartbeats 4000000 in
theorem r_cells (l : Launch) (D : va_G) (S : Nat) (σ : rS) (ad0 : Nat → Nat) (w0 : gW) (hS3 : S ≤ 3) (x : Int32) : g_M l y_M_cells w_M_cells (rk 1) D gCl g_N [.ref (ad0 200), .int x] (RX S σ ad0 w0) 0 0 (fun A => g_Qi D gCl A (fun r ad w => r = q_cs S σ x ∧ RX S σ ad0 w0 ad w)) := by
  refine g_of (cc := c_M_cells) (nL := 2) (ret := some .int) (by decide) rfl (Nat.le_of_ble_eq_true rfl) ?_
  intro pp ee ss mm bb me cc A hC hr hlk hnm
  refine g_los [0, 1] (lo' := [(0, .ref (ad0 200)), (1, .int x)]) rfl ?_
  refine g_pure r_bl_of (fun hb => ?_)
  refine g_aload_n (i := 0) hC d_M_cells_0 rfl rfl (Or.inr ⟨_, rfl⟩) ?_
  refine g_iload_n (i := 1) hC d_M_cells_1 rfl rfl ?_
  refine g_calli hC (g_runV (q := 200) (As := [_]) (st := []) hC g_NOK_N (r_isSite l D S σ ad0 w0 (by omega) (x)) (t_cwV 1 hC.1.2.2.2.2 m_374 m_376 ms_9 m_6 k_M_isSite rfl rfl hd_M_isSite ⟨by decide, by decide⟩) r_this rfl rfl rfl (Nat.le_of_ble_eq_true rfl) d_M_cells_2 ⟨by decide, by decide⟩) (fun r2 => ?_)
  refine g_and (fun e => ?_)
  subst e
  refine g_if_eqN (tgt := 17) hC d_M_cells_5 (by decide) (pb_le _) (fun h5 => ?_) (fun h5 => ?_)
  · have g5 := pb_0 h5
    refine g_iconst (v := -1) hC d_M_cells_17 (by decide) ?_
    refine g_iret hC hr hlk d_M_cells_18 (by decide) (by decide) (fun ad w hw => ?_)
    exact ⟨by unfold q_cs; rw [ix_no g5], hw⟩
  · have g5 := pb_1 h5
    obtain ⟨s, hxs⟩ := g5
    obtain ⟨hsS, rfl⟩ := ix_some (by omega) hxs
    refine g_aload_n (i := 0) hC d_M_cells_8 rfl rfl (Or.inr ⟨_, rfl⟩) ?_
    refine g_get hC (fun x h => List.mem_cons_of_mem _ (in_M x h)) 200 r_this rfl 10 (by decide) (List.mem_cons_of_mem _ m_330) rfl rfl d_M_cells_9 ?_
    refine g_iload_n (i := 1) hC d_M_cells_12 rfl rfl ?_
    refine r_ld 10 hC (by decide) (by decide) rfl (fun _ => rfl) (by simp only [r_ln]; omega) d_M_cells_13 ?_
    refine g_goto (tgt := 18) hC d_M_cells_14 (by decide) ?_
    refine g_iret hC hr hlk d_M_cells_18 (by decide) (by decide) (fun ad w hw => ?_)
    exact ⟨by unfold q_cs; rw [hxs], hw⟩
set_option maxRecDepth 100000 in
set_option maxHeartbeats 4000000 in
theorem r_cell (l : Launch) (D : va_G) (S : Nat) (σ : rS) (ad0 : Nat → Nat) (w0 : gW) (hInv : INV S σ) (x i : Int32) : g_M l y_M_cell w_M_cell (rk 1) D gCl g_N [.ref (ad0 200), .int x, .int i] (RX S σ ad0 w0) 0 0 (fun A => g_Qi D gCl A (fun r ad w => SpCe S σ x i r ∧ RX S σ ad0 w0 ad w)) := by
  have hS3 := hInv.S3
  have hc := hInv.c18
  refine g_of (cc := c_M_cell) (nL := 4) (ret := some .int) (by decide) rfl (Nat.le_of_ble_eq_true rfl) ?_
  intro pp ee ss mm bb me cc A hC hr hlk hnm
  refine g_los [0, 1, 2] (lo' := [(0, .ref (ad0 200)), (1, .int x), (2, .int i)]) rfl ?_
  refine g_pure r_bl_of (fun hb => ?_)
  refine g_aload_n (i := 0) hC d_M_cell_0 rfl rfl (Or.inr ⟨_, rfl⟩) ?_
  refine g_iload_n (i := 1) hC d_M_cell_1 rfl rfl ?_
  refine g_calli hC (g_runV (q := 200) (As := [_]) (st := []) hC g_NOK_N (r_isSite l D S σ ad0 w0 (by omega) (x)) (t_cwV 1 hC.1.2.2.2.2 m_374 m_376 ms_9 m_6 k_M_isSite rfl rfl hd_M_isSite ⟨by decide, by decide⟩) r_this rfl rfl rfl (Nat.le_of_ble_eq_true rfl) d_M_cell_2 ⟨by decide, by decide⟩) (fun r2 => ?_)
  refine g_and (fun e => ?_)
  subst e
  refine g_if_eqN (tgt := 22) hC d_M_cell_5 (by decide) (pb_le _) (fun h5 => ?_) (fun h5 => ?_)
  · have g5 := pb_0 h5
    refine g_iconst (v := nI 0) hC d_M_cell_22 (by decide) ?_
    refine g_iret hC hr hlk d_M_cell_23 (by decide) (by decide) (fun ad w hw => ?_)
    exact ⟨Or.inr ⟨fun ⟨s1, i1, h⟩ => g5 ⟨s1, by rw [h.1]; exact ix_nI (by omega) h.2.1⟩, rfl⟩, hw⟩
  · have g5 := pb_1 h5
    obtain ⟨s, hxs⟩ := g5
    obtain ⟨hsS, rfl⟩ := ix_some (by omega) hxs
    refine g_iload_n (i := 2) hC d_M_cell_8 rfl rfl ?_
    refine g_if_lt (tgt := 22) hC d_M_cell_9 (by decide) (fun h9 => ?_) (fun h9 => ?_)
    · refine g_iconst (v := nI 0) hC d_M_cell_22 (by decide) ?_
      refine g_iret hC hr hlk d_M_cell_23 (by decide) (by decide) (fun ad w hw => ?_)
      exact ⟨Or.inr ⟨fun ⟨s1, i1, h⟩ => absurd h9 (by have hb1 := h.2.2.2; have hb3 := hc s1 h.2.1; rw [h.2.2.1]; exact nI_pos (by omega)), rfl⟩, hw⟩
    · refine g_iload_n (i := 2) hC d_M_cell_12 rfl rfl ?_
      refine g_aload_n (i := 0) hC d_M_cell_13 rfl rfl (Or.inr ⟨_, rfl⟩) ?_
      refine g_get hC (fun x h => List.mem_cons_of_mem _ (in_M x h)) 200 r_this rfl 10 (by decide) (List.mem_cons_of_mem _ m_330) rfl rfl d_M_cell_14 ?_
      refine g_iload_n (i := 1) hC d_M_cell_17 rfl rfl ?_
      refine r_ld 10 hC (by decide) (by decide) rfl (fun _ => rfl) (by simp only [r_ln]; omega) d_M_cell_18 ?_
      refine g_icmp_lt (tgt := 24) hC d_M_cell_19 (by decide) (fun h19 => ?_) (fun h19 => ?_)
      · obtain ⟨i', hi31, rfl⟩ := nI_of h9
        have hcs := hc s hsS
        have hil : i' < σ 10 s := (nI_ltI (by omega) (by omega)).mp h19
        have hce := hInv.1.lt18 ((hInv.2 s hsS).1.1.made ((hInv.2 s hsS).1.2.2.1 i' hil).2.1)
        refine g_aload_n (i := 0) hC d_M_cell_24 rfl rfl (Or.inr ⟨_, rfl⟩) ?_
        refine g_get hC (fun x h => List.mem_cons_of_mem _ (in_M x h)) 200 r_this rfl 4 (by decide) (List.mem_cons_of_mem _ m_324) rfl rfl d_M_cell_25 ?_
        refine g_aload_n (i := 0) hC d_M_cell_28 rfl rfl (Or.inr ⟨_, rfl⟩) ?_
        refine g_get hC (fun x h => List.mem_cons_of_mem _ (in_M x h)) 200 r_this rfl 11 (by decide) (List.mem_cons_of_mem _ m_331) rfl rfl d_M_cell_29 ?_
        refine g_bipush (v := nI 18) hC d_M_cell_32 (by decide) ?_
        refine g_iload_n (i := 1) hC d_M_cell_34 rfl rfl ?_
        refine g_imulN hC d_M_cell_35 ?_
        refine g_iload_n (i := 2) hC d_M_cell_36 rfl rfl ?_
        refine g_iaddN hC d_M_cell_37 ?_
        refine r_ld 11 hC (by decide) (by decide) rfl (fun _ => rfl) (by simp only [r_ln]; omega) d_M_cell_38 ?_
        refine r_ld 4 hC (by decide) (by decide) rfl (fun _ => rfl) (by simp only [r_ln]; omega) d_M_cell_39 ?_
        refine g_istore_n (i := 3) (lo' := [(3, _), (0, _), (1, _), (2, _)]) hC d_M_cell_40 rfl (by decide) rfl ?_
        refine g_aload_n (i := 0) hC d_M_cell_41 rfl rfl (Or.inr ⟨_, rfl⟩) ?_
        refine g_get hC (fun x h => List.mem_cons_of_mem _ (in_M x h)) 200 r_this rfl 12 (by decide) (List.mem_cons_of_mem _ m_332) rfl rfl d_M_cell_42 ?_
        refine g_bipush (v := nI 18) hC d_M_cell_45 (by decide) ?_
        refine g_iload_n (i := 1) hC d_M_cell_47 rfl rfl ?_
        refine g_imulN hC d_M_cell_48 ?_
        refine g_iload_n (i := 2) hC d_M_cell_49 rfl rfl ?_
        refine g_iaddN hC d_M_cell_50 ?_
        refine r_zld 12 hC (by decide) (by decide) rfl (fun _ => rfl) (by simp only [r_ln]; omega) d_M_cell_51 ?_
        refine g_if_eqN (tgt := 59) hC d_M_cell_52 (by decide) (r_lt hb _ _) (fun h52 => ?_) (fun h52 => ?_)
        · refine g_iload_n (i := 3) hC d_M_cell_59 rfl rfl ?_
          refine g_ineg hC d_M_cell_60 ?_
          refine g_iret hC hr hlk d_M_cell_61 (by decide) (by decide) (fun ad w hw => ?_)
          exact ⟨Or.inl ⟨s, i', ⟨rfl, hsS, rfl, hil⟩, by unfold s_sg; rw [if_pos h52]⟩, hw⟩
        · refine g_iload_n (i := 3) hC d_M_cell_55 rfl rfl ?_
          refine g_goto (tgt := 61) hC d_M_cell_56 (by decide) ?_
          refine g_iret hC hr hlk d_M_cell_61 (by decide) (by decide) (fun ad w hw => ?_)
          exact ⟨Or.inl ⟨s, i', ⟨rfl, hsS, rfl, hil⟩, by unfold s_sg; rw [if_neg h52]⟩, hw⟩
      · refine g_iconst (v := nI 0) hC d_M_cell_22 (by decide) ?_
        refine g_iret hC hr hlk d_M_cell_23 (by decide) (by decide) (fun ad w hw => ?_)
        exact ⟨Or.inr ⟨fun ⟨s1, i1, h⟩ => by
          have hb1 := h.2.2.2
          have hb3 := hc s1 h.2.1
          have e := nI_inj h.1 (by omega) (by have := h.2.1; omega)
          subst e
          rw [h.2.2.1] at h19
          exact h19 ((nI_ltI (by omega) (by omega)).mpr hb1), rfl⟩, hw⟩
end
section
theorem lg_cmp_0 {x y : Int64} : lg_cmp x y = 0 ↔ x = y := by
  unfold lg_cmp
  split
  · rename_i h
    constructor
    · intro q
      exact absurd q (by decide)
    · intro q
      subst q
      exact (Int64.lt_irrefl h).elim
  · split
    · rename_i h
      exact ⟨fun _ => h, fun _ => rfl⟩
    · rename_i h
      constructor
      · intro q
        exact absurd q (by decide)
      · intro q
        exact absurd q h
theorem md_iff {S : Nat} {σ : rS} (hInv : INV S σ) {i : Nat} (hi : i < 18) : (∃ s k, MD S σ (nI (i / 6)) (nI (i % 6)) s k) ↔ mh (s_mk σ) i := by
  constructor
  · rintro ⟨s, k, h⟩
    have hk := (MD.opn hInv h)
    have h3 := hInv.S3
    have e1 := nI_inj h.1 (by omega) (by have := h.2.1; omega)
    have e2 := nI_inj h.2.2.1 (by omega) (by omega)
    have := hk.1
    rw [← e1, ← e2, show 6 * (i / 6) + i % 6 = i by omega] at this
    exact this
  · intro h
    refine ⟨i / 6, i % 6, rfl, ?_, rfl, ?_⟩
    · apply Nat.lt_of_not_le
      intro q
      have e := hInv.1.2.1 (i / 6) q
      unfold mh at h
      rw [s_mk_lt (by omega), e] at h
      omega
    · unfold mh at h
      rw [s_mk_lt (by omega)] at h
      exact h
theorem MD.at_ {S : Nat} {σ : rS} (hInv : INV S σ) {i s k : Nat} (hi : i < 18) (h : MD S σ (nI (i / 6)) (nI (i % 6)) s k) : s = i / 6 ∧ k = i % 6 := by
  have hk := (MD.opn hInv h)
  have h3 := hInv.S3
  exact ⟨(nI_inj h.1 (by omega) (by have := h.2.1; omega)).symm, (nI_inj h.2.2.1 (by omega) (by omega)).symm⟩
def SpAr (S : Nat) (σ : rS) (t : Int32) (c : Int64) (r : Int32) (σs : rS) : Prop := (∃ o, (o < 18 ∧ mh (s_mk σ) o ∧ c = lN (cdv σ o)) ∧ SpDl S σ t (nI (o / 6)) (nI (o % 6)) r σs) ∨ ((¬ ∃ o, o < 18 ∧ mh (s_mk σ) o ∧ c = lN (cdv σ o)) ∧ r = -1 ∧ σs = σ)
theorem E12.ar {σ σ' : rS} (h : E12 σ σ') (s o : Nat) : E12 (arS σ s o) (arS σ' s o) := by
  intro k h1 h2
  funext j
  unfold arS
  rw [h k h1 h2]
theorem WK.e12 {s : Nat} : ∀ {n : Nat} {σ τ τ1 : rS}, E12 σ τ → WK s n τ τ1 → ∃ σ1, WK s n σ σ1 ∧ E12 σ1 τ1
  | 0, σ, τ, τ1, h, hw => ⟨σ, ⟨rfl, fun o ho q => hw.2 o ho ((h.wt s o).mpr q)⟩, by rw [hw.1]; exact h⟩
  | n + 1, σ, τ, τ1, h, hw => by
    obtain ⟨o, ho, hw⟩ := hw
    rw [h.pl, h.vc] at hw
    obtain ⟨σ1, a, b⟩ := WK.e12 (h.ex s o _) hw
    exact ⟨σ1, ⟨o, ⟨ho.1, (h.wt s o).mp ho.2.1, fun o' q z => ho.2.2 o' q ((h.wt s o').mpr z)⟩, a⟩, b⟩
/-- sync, operation by operation: what has come of it behind operations below i -/
def SYC (s s' i : Nat) (τ : rS) : Prop := τ 7 (18 * s' + i) ≠ 0 ∧ i / 6 ≠ s ∧ τ 6 (18 * s + i) = 0
def SYR (s s' : Nat) : Nat → rS → Nat → rS → Prop
  | 0, σ, n, τ => n = 0 ∧ τ = σ
  | i + 1, σ, n, τ => ∃ n0 τ0, SYR s s' i σ n0 τ0 ∧ ((SYC s s' i τ0 ∧ ∃ m, WK s m (arS τ0 s i) τ ∧ n = n0 + m) ∨ (¬ SYC s s' i τ0 ∧ τ = τ0 ∧ n = n0))
theorem SYR_eq {s s' : Nat} : ∀ {i : Nat} {σ τ τ' : rS} {n n' : Nat}, SYR s s' i σ n τ → SYR s s' i σ n' τ' → n = n' ∧ τ = τ'
  | 0, σ, τ, τ', n, n', h, h' => ⟨h.1.trans h'.1.symm, h.2.trans h'.2.symm⟩
  | i + 1, σ, τ, τ', n, n', h, h' => by
    obtain ⟨n0, τ0, a, b⟩ := h
    obtain ⟨n1, τ1, a', b'⟩ := h'
    obtain ⟨e1, e2⟩ := SYR_eq a a'
    subst e1
    subst e2
    rcases b with ⟨c, m, d, e⟩ | ⟨c, d, e⟩ <;> rcases b' with ⟨c', m', d', e'⟩ | ⟨c', d', e'⟩
    · obtain ⟨f1, f2⟩ := WK_eq d d'
      subst f1
      exact ⟨e.trans e'.symm, f2⟩
    · exact absurd c c'
    · exact absurd c' c
    · exact ⟨e.trans e'.symm, d.trans d'.symm⟩
def SyOK (S : Nat) (t f : Int32) (s s' : Nat) : Prop := t = nI s ∧ s < S ∧ f = nI s' ∧ s' < S ∧ s ≠ s'
def SpSy (S : Nat) (σ : rS) (t f : Int32) (r : Int32) (σs : rS) : Prop := (∃ s s' n, SyOK S t f s s' ∧ SYR s s' 18 σ n σs ∧ r = nI n) ∨ ((¬ ∃ s s', SyOK S t f s s') ∧ r = -1 ∧ σs = σ)
theorem en_lt {a : Nat} (ha : a < 2 ^ 31) : nI a - 1 < 0 ↔ a = 0 := by
  constructor
  · intro h
    apply Classical.byContradiction
    intro e
    rw [show a = (a - 1) + 1 by omega, nI_pred] at h
    exact absurd h (nI_pos (by omega))
  · intro e
    subst e
    decide +kernel
/-- what s knows of how many operations of t were executed at j -/
def s_kn (σ : rS) (s t j : Nat) : Nat := if j = s then σ 8 (3 * s + t) else if σ 8 (3 * s + j) = 0 then 0 else σ 5 (3 * (6 * j + σ 8 (3 * s + j) - 1) + t) + (if t = j then 1 else 0)
def s_st (σ : rS) (s t : Nat) : Nat → Nat
  | 0 => 100
  | j + 1 => if s_kn σ s t j < s_st σ s t j then s_kn σ s t j else s_st σ s t j
def q_st (S : Nat) (σ : rS) (x y : Int32) : Int32 := match ix S x, ix S y with
  | some s, some t => nI (s_st σ s t S)
  | _, _ => -1
set_option maxRecDepth 100000 in
set_option maxHeartbeats 4000000 in
theorem r_code (l : Launch) (D : va_G) (S : Nat) (σ : rS) (ad0 : Nat → Nat) (w0 : gW) (hInv : INV S σ) (x y : Int32) : g_M l y_M_code w_M_code (rk 2) D gCl g_N [.ref (ad0 200), .int x, .int y] (RX S σ ad0 w0) 0 0 (fun A => g_Ql D gCl A (fun r ad w => SpCd S σ x y r ∧ RX S σ ad0 w0 ad w)) := by
  have hS3 := hInv.S3
  refine g_of (cc := c_M_code) (nL := 6) (ret := some .long) (by decide) rfl (Nat.le_of_ble_eq_true rfl) ?_
  intro pp ee ss mm bb me cc A hC hr hlk hnm
  refine g_los [0, 1, 2] (lo' := [(0, .ref (ad0 200)), (1, .int x), (2, .int y)]) rfl ?_
  refine g_pure r_bl_of (fun hb => ?_)
  refine g_aload_n (i := 0) hC d_M_code_0 rfl rfl (Or.inr ⟨_, rfl⟩) ?_
  refine g_iload_n (i := 1) hC d_M_code_1 rfl rfl ?_
  refine g_iload_n (i := 2) hC d_M_code_2 rfl rfl ?_
  refine g_calli hC (g_runV (q := 200) (As := [_, _]) (st := []) hC g_NOK_N (r_isMade l D S σ ad0 w0 hInv x y) (t_cwV 2 hC.1.2.2.2.2 m_437 m_439 ms_21 m_6 k_M_isMade rfl rfl hd_M_isMade ⟨by decide, by decide⟩) r_this rfl rfl rfl (Nat.le_of_ble_eq_true rfl) d_M_code_3 ⟨by decide, by decide⟩) (fun r3 => ?_)
  refine g_and (fun e => ?_)
  subst e
  refine g_if_neN (tgt := 13) hC d_M_code_6 (by decide) (pb_le _) (fun h6 => ?_) (fun h6 => ?_)
  · have g6 := pb_1 h6
    obtain ⟨s, k, hmd⟩ := g6
    obtain ⟨rfl, hs', rfl, hk⟩ := id hmd
    obtain ⟨hmh, ho18, hod, hom, hk6⟩ := MD.opn hInv hmd
    refine g_bipush (v := nI 6) hC d_M_code_13 (by decide) ?_
    refine g_iload_n (i := 1) hC d_M_code_15 rfl rfl ?_
    refine g_imulN hC d_M_code_16 ?_
    refine g_iload_n (i := 2) hC d_M_code_17 rfl rfl ?_
    refine g_iaddN hC d_M_code_18 ?_
    refine g_istore_n (i := 3) (lo' := [(3, _), (0, _), (1, _), (2, _)]) hC d_M_code_19 rfl (by decide) rfl ?_
    refine g_iload_n (i := 1) hC d_M_code_20 rfl rfl ?_
    refine g_i2l hC d_M_code_21 (nI_l (by first | omega | exact r_lt hb _ _)) ?_
    refine g_ldc2 (v := 4) hC d_M_code_22 (List.mem_cons_of_mem _ m_458) ?_
    refine g_eql (show (4 : Int64) = lN 4 by decide +kernel) ?_
    refine g_iload_n (i := 2) hC d_M_code_25 rfl rfl ?_
    refine g_i2l hC d_M_code_26 (nI_l (by first | omega | exact r_lt hb _ _)) ?_
    refine g_lmul hC d_M_code_27 ?_
    refine g_eql (lN_mul _ _) ?_
    refine g_ladd hC d_M_code_28 ?_
    refine g_eql (lN_add _ _) ?_
    refine g_aload_n (i := 0) hC d_M_code_29 rfl rfl (Or.inr ⟨_, rfl⟩) ?_
    refine g_get hC (fun x h => List.mem_cons_of_mem _ (in_M x h)) 200 r_this rfl 2 (by decide) (List.mem_cons_of_mem _ m_322) rfl rfl d_M_code_30 ?_
    refine g_iload_n (i := 3) hC d_M_code_33 rfl rfl ?_
    refine r_zld 2 hC (by decide) (by decide) rfl (fun _ => rfl) (by simp only [r_ln]; omega) d_M_code_34 ?_
    refine g_if_eqN (tgt := 44) hC d_M_code_35 (by decide) (r_lt hb _ _) (fun h35 => ?_) (fun h35 => ?_)
    · refine g_lconst (v := lN 0) hC d_M_code_44 (by decide +kernel) ?_
      refine g_ladd hC d_M_code_45 ?_
      refine g_eql (lN_add _ _) ?_
      refine g_ldc2 (v := 128) hC d_M_code_46 (List.mem_cons_of_mem _ m_460) ?_
      refine g_eql (show (128 : Int64) = lN 128 by decide +kernel) ?_
      refine g_aload_n (i := 0) hC d_M_code_49 rfl rfl (Or.inr ⟨_, rfl⟩) ?_
      refine g_get hC (fun x h => List.mem_cons_of_mem _ (in_M x h)) 200 r_this rfl 3 (by decide) (List.mem_cons_of_mem _ m_323) rfl rfl d_M_code_50 ?_
      refine g_iload_n (i := 3) hC d_M_code_53 rfl rfl ?_
      refine r_ld 3 hC (by decide) (by decide) rfl (fun _ => rfl) (by simp only [r_ln]; omega) d_M_code_54 ?_
      refine g_i2l hC d_M_code_55 (nI_l (by first | omega | exact r_lt hb _ _)) ?_
      refine g_lmul hC d_M_code_56 ?_
      refine g_eql (lN_mul _ _) ?_
      refine g_ladd hC d_M_code_57 ?_
      refine g_eql (lN_add _ _) ?_
      refine g_ldc2 (v := 8192) hC d_M_code_58 (List.mem_cons_of_mem _ m_461) ?_
      refine g_eql (show (8192 : Int64) = lN 8192 by decide +kernel) ?_
      refine g_aload_n (i := 0) hC d_M_code_61 rfl rfl (Or.inr ⟨_, rfl⟩) ?_
      refine g_get hC (fun x h => List.mem_cons_of_mem _ (in_M x h)) 200 r_this rfl 4 (by decide) (List.mem_cons_of_mem _ m_324) rfl rfl d_M_code_62 ?_
      refine g_iload_n (i := 3) hC d_M_code_65 rfl rfl ?_
      refine r_ld 4 hC (by decide) (by decide) rfl (fun _ => rfl) (by simp only [r_ln]; omega) d_M_code_66 ?_
      refine g_i2l hC d_M_code_67 (nI_l (by first | omega | exact r_lt hb _ _)) ?_
      refine g_lmul hC d_M_code_68 ?_
      refine g_eql (lN_mul _ _) ?_
      refine g_ladd hC d_M_code_69 ?_
      refine g_eql (lN_add _ _) ?_
      refine g_lstore (i := 4) (lo' := [(4, _), (3, _), (0, _), (1, _), (2, _)]) hC d_M_code_70 (by decide) rfl ?_
      refine g_lload (i := 4) hC d_M_code_72 rfl ?_
      refine g_ldc2 (v := 2097152) hC d_M_code_74 (List.mem_cons_of_mem _ m_462) ?_
      refine g_eql (show (2097152 : Int64) = lN 2097152 by decide +kernel) ?_
      refine g_aload_n (i := 0) hC d_M_code_77 rfl rfl (Or.inr ⟨_, rfl⟩) ?_
      refine g_get hC (fun x h => List.mem_cons_of_mem _ (in_M x h)) 200 r_this rfl 5 (by decide) (List.mem_cons_of_mem _ m_325) rfl rfl d_M_code_78 ?_
      refine g_iconst (v := nI 3) hC d_M_code_81 (by decide) ?_
      refine g_iload_n (i := 3) hC d_M_code_82 rfl rfl ?_
      refine g_imulN hC d_M_code_83 ?_
      refine r_ld 5 hC (by decide) (by decide) rfl (fun _ => rfl) (by simp only [r_ln]; omega) d_M_code_84 ?_
      refine g_i2l hC d_M_code_85 (nI_l (by first | omega | exact r_lt hb _ _)) ?_
      refine g_lmul hC d_M_code_86 ?_
      refine g_eql (lN_mul _ _) ?_
      refine g_ladd hC d_M_code_87 ?_
      refine g_eql (lN_add _ _) ?_
      refine g_ldc2 (v := 33554432) hC d_M_code_88 (List.mem_cons_of_mem _ m_463) ?_
      refine g_eql (show (33554432 : Int64) = lN 33554432 by decide +kernel) ?_
      refine g_aload_n (i := 0) hC d_M_code_91 rfl rfl (Or.inr ⟨_, rfl⟩) ?_
      refine g_get hC (fun x h => List.mem_cons_of_mem _ (in_M x h)) 200 r_this rfl 5 (by decide) (List.mem_cons_of_mem _ m_325) rfl rfl d_M_code_92 ?_
      refine g_iconst (v := nI 3) hC d_M_code_95 (by decide) ?_
      refine g_iload_n (i := 3) hC d_M_code_96 rfl rfl ?_
      refine g_imulN hC d_M_code_97 ?_
      refine g_iconst (v := nI 1) hC d_M_code_98 (by decide) ?_
      refine g_iaddN hC d_M_code_99 ?_
      refine r_ld 5 hC (by decide) (by decide) rfl (fun _ => rfl) (by simp only [r_ln]; omega) d_M_code_100 ?_
      refine g_i2l hC d_M_code_101 (nI_l (by first | omega | exact r_lt hb _ _)) ?_
      refine g_lmul hC d_M_code_102 ?_
      refine g_eql (lN_mul _ _) ?_
      refine g_ladd hC d_M_code_103 ?_
      refine g_eql (lN_add _ _) ?_
      refine g_ldc2 (v := 536870912) hC d_M_code_104 (List.mem_cons_of_mem _ m_464) ?_
      refine g_eql (show (536870912 : Int64) = lN 536870912 by decide +kernel) ?_
      refine g_aload_n (i := 0) hC d_M_code_107 rfl rfl (Or.inr ⟨_, rfl⟩) ?_
      refine g_get hC (fun x h => List.mem_cons_of_mem _ (in_M x h)) 200 r_this rfl 5 (by decide) (List.mem_cons_of_mem _ m_325) rfl rfl d_M_code_108 ?_
      refine g_iconst (v := nI 3) hC d_M_code_111 (by decide) ?_
      refine g_iload_n (i := 3) hC d_M_code_112 rfl rfl ?_
      refine g_imulN hC d_M_code_113 ?_
      refine g_iconst (v := nI 2) hC d_M_code_114 (by decide) ?_
      refine g_iaddN hC d_M_code_115 ?_
      refine r_ld 5 hC (by decide) (by decide) rfl (fun _ => rfl) (by simp only [r_ln]; omega) d_M_code_116 ?_
      refine g_i2l hC d_M_code_117 (nI_l (by first | omega | exact r_lt hb _ _)) ?_
      refine g_lmul hC d_M_code_118 ?_
      refine g_eql (lN_mul _ _) ?_
      refine g_ladd hC d_M_code_119 ?_
      refine g_eql (lN_add _ _) ?_
      refine g_lret hC hr hlk d_M_code_120 (by decide) (by decide) (fun ad w hw => ?_)
      refine ⟨Or.inl ⟨s, k, hmd, ?_⟩, hw⟩
      unfold cdv
      rw [hod, hom, if_pos h35]
    · refine g_ldc2 (v := 64) hC d_M_code_38 (List.mem_cons_of_mem _ m_459) ?_
      refine g_eql (show (64 : Int64) = lN 64 by decide +kernel) ?_
      refine g_goto (tgt := 45) hC d_M_code_41 (by decide) ?_
      refine g_ladd hC d_M_code_45 ?_
      refine g_eql (lN_add _ _) ?_
      refine g_ldc2 (v := 128) hC d_M_code_46 (List.mem_cons_of_mem _ m_460) ?_
      refine g_eql (show (128 : Int64) = lN 128 by decide +kernel) ?_
      refine g_aload_n (i := 0) hC d_M_code_49 rfl rfl (Or.inr ⟨_, rfl⟩) ?_
      refine g_get hC (fun x h => List.mem_cons_of_mem _ (in_M x h)) 200 r_this rfl 3 (by decide) (List.mem_cons_of_mem _ m_323) rfl rfl d_M_code_50 ?_
      refine g_iload_n (i := 3) hC d_M_code_53 rfl rfl ?_
      refine r_ld 3 hC (by decide) (by decide) rfl (fun _ => rfl) (by simp only [r_ln]; omega) d_M_code_54 ?_
      refine g_i2l hC d_M_code_55 (nI_l (by first | omega | exact r_lt hb _ _)) ?_
      refine g_lmul hC d_M_code_56 ?_
      refine g_eql (lN_mul _ _) ?_
      refine g_ladd hC d_M_code_57 ?_
      refine g_eql (lN_add _ _) ?_
      refine g_ldc2 (v := 8192) hC d_M_code_58 (List.mem_cons_of_mem _ m_461) ?_
      refine g_eql (show (8192 : Int64) = lN 8192 by decide +kernel) ?_
      refine g_aload_n (i := 0) hC d_M_code_61 rfl rfl (Or.inr ⟨_, rfl⟩) ?_
      refine g_get hC (fun x h => List.mem_cons_of_mem _ (in_M x h)) 200 r_this rfl 4 (by decide) (List.mem_cons_of_mem _ m_324) rfl rfl d_M_code_62 ?_
      refine g_iload_n (i := 3) hC d_M_code_65 rfl rfl ?_
      refine r_ld 4 hC (by decide) (by decide) rfl (fun _ => rfl) (by simp only [r_ln]; omega) d_M_code_66 ?_
      refine g_i2l hC d_M_code_67 (nI_l (by first | omega | exact r_lt hb _ _)) ?_
      refine g_lmul hC d_M_code_68 ?_
      refine g_eql (lN_mul _ _) ?_
      refine g_ladd hC d_M_code_69 ?_
      refine g_eql (lN_add _ _) ?_
      refine g_lstore (i := 4) (lo' := [(4, _), (3, _), (0, _), (1, _), (2, _)]) hC d_M_code_70 (by decide) rfl ?_
      refine g_lload (i := 4) hC d_M_code_72 rfl ?_
      refine g_ldc2 (v := 2097152) hC d_M_code_74 (List.mem_cons_of_mem _ m_462) ?_
      refine g_eql (show (2097152 : Int64) = lN 2097152 by decide +kernel) ?_
      refine g_aload_n (i := 0) hC d_M_code_77 rfl rfl (Or.inr ⟨_, rfl⟩) ?_
      refine g_get hC (fun x h => List.mem_cons_of_mem _ (in_M x h)) 200 r_this rfl 5 (by decide) (List.mem_cons_of_mem _ m_325) rfl rfl d_M_code_78 ?_
      refine g_iconst (v := nI 3) hC d_M_code_81 (by decide) ?_
      refine g_iload_n (i := 3) hC d_M_code_82 rfl rfl ?_
      refine g_imulN hC d_M_code_83 ?_
      refine r_ld 5 hC (by decide) (by decide) rfl (fun _ => rfl) (by simp only [r_ln]; omega) d_M_code_84 ?_
      refine g_i2l hC d_M_code_85 (nI_l (by first | omega | exact r_lt hb _ _)) ?_
      refine g_lmul hC d_M_code_86 ?_
      refine g_eql (lN_mul _ _) ?_
      refine g_ladd hC d_M_code_87 ?_
      refine g_eql (lN_add _ _) ?_
      refine g_ldc2 (v := 33554432) hC d_M_code_88 (List.mem_cons_of_mem _ m_463) ?_
      refine g_eql (show (33554432 : Int64) = lN 33554432 by decide +kernel) ?_
      refine g_aload_n (i := 0) hC d_M_code_91 rfl rfl (Or.inr ⟨_, rfl⟩) ?_
      refine g_get hC (fun x h => List.mem_cons_of_mem _ (in_M x h)) 200 r_this rfl 5 (by decide) (List.mem_cons_of_mem _ m_325) rfl rfl d_M_code_92 ?_
      refine g_iconst (v := nI 3) hC d_M_code_95 (by decide) ?_
      refine g_iload_n (i := 3) hC d_M_code_96 rfl rfl ?_
      refine g_imulN hC d_M_code_97 ?_
      refine g_iconst (v := nI 1) hC d_M_code_98 (by decide) ?_
      refine g_iaddN hC d_M_code_99 ?_
      refine r_ld 5 hC (by decide) (by decide) rfl (fun _ => rfl) (by simp only [r_ln]; omega) d_M_code_100 ?_
      refine g_i2l hC d_M_code_101 (nI_l (by first | omega | exact r_lt hb _ _)) ?_
      refine g_lmul hC d_M_code_102 ?_
      refine g_eql (lN_mul _ _) ?_
      refine g_ladd hC d_M_code_103 ?_
      refine g_eql (lN_add _ _) ?_
      refine g_ldc2 (v := 536870912) hC d_M_code_104 (List.mem_cons_of_mem _ m_464) ?_
      refine g_eql (show (536870912 : Int64) = lN 536870912 by decide +kernel) ?_
      refine g_aload_n (i := 0) hC d_M_code_107 rfl rfl (Or.inr ⟨_, rfl⟩) ?_
      refine g_get hC (fun x h => List.mem_cons_of_mem _ (in_M x h)) 200 r_this rfl 5 (by decide) (List.mem_cons_of_mem _ m_325) rfl rfl d_M_code_108 ?_
      refine g_iconst (v := nI 3) hC d_M_code_111 (by decide) ?_
      refine g_iload_n (i := 3) hC d_M_code_112 rfl rfl ?_
      refine g_imulN hC d_M_code_113 ?_
      refine g_iconst (v := nI 2) hC d_M_code_114 (by decide) ?_
      refine g_iaddN hC d_M_code_115 ?_
      refine r_ld 5 hC (by decide) (by decide) rfl (fun _ => rfl) (by simp only [r_ln]; omega) d_M_code_116 ?_
      refine g_i2l hC d_M_code_117 (nI_l (by first | omega | exact r_lt hb _ _)) ?_
      refine g_lmul hC d_M_code_118 ?_
      refine g_eql (lN_mul _ _) ?_
      refine g_ladd hC d_M_code_119 ?_
      refine g_eql (lN_add _ _) ?_
      refine g_lret hC hr hlk d_M_code_120 (by decide) (by decide) (fun ad w hw => ?_)
      refine ⟨Or.inl ⟨s, k, hmd, ?_⟩, hw⟩
      unfold cdv
      rw [hod, hom, if_neg h35]
  · have g6 := pb_0 h6
    refine g_ldc2 (v := -1) hC d_M_code_9 (List.mem_cons_of_mem _ m_457) ?_
    refine g_lret hC hr hlk d_M_code_12 (by decide) (by decide) (fun ad w hw => ?_)
    exact ⟨Or.inr ⟨g6, rfl⟩, hw⟩
set_option maxRecDepth 100000 in
set_option maxHeartbeats 4000000 in
theorem r_arrive (l : Launch) (D : va_G) (S : Nat) (σ : rS) (ad0 : Nat → Nat) (w0 : gW) (hInv : INV S σ) (t : Int32) (cd : Int64) : g_M l y_M_arrive w_M_arrive (rk 7) D gCl g_N [.ref (ad0 200), .int t, .long cd] (RX S σ ad0 w0) 0 0 (fun A => g_Qi D gCl A (fun r ad w => ∃ σs σ', ((SpAr S σ t cd r σs ∧ INV S σs) ∧ E12 σs σ') ∧ RX S σ' ad0 w0 ad w)) := by
  have hS3 := hInv.S3
  refine g_of (cc := c_M_arrive) (nL := 5) (ret := some .int) (by decide) rfl (Nat.le_of_ble_eq_true rfl) ?_
  intro pp ee ss mm bb me cc A hC hr hlk hnm
  refine g_los [0, 1, 2] (lo' := [(0, .ref (ad0 200)), (1, .int t), (2, .long cd)]) rfl ?_
  refine g_pure r_bl_of (fun hb => ?_)
  refine g_iconst (v := nI 0) hC d_M_arrive_0 (by decide) ?_
  refine g_istore (i := 4) (lo' := [(4, _), (0, _), (1, _), (2, _)]) hC d_M_arrive_1 (by decide) rfl ?_
  refine g_los [1, 2, 3, 0] (lo' := [(0, _), (1, _), (2, _), (4, _)]) rfl ?_
  refine g_loop (ι := Nat) (pc0 := 3) (fun i => 18 - i) (fun i => i ≤ 18 ∧ ∀ o, o < i → ¬ (mh (s_mk σ) o ∧ cd = lN (cdv σ o))) (fun i => RX S σ ad0 w0) (fun i => [(0, .ref (ad0 200)), (1, .int t), (2, .long cd), (4, .int (nI i))]) ?_ 0 (⟨Nat.zero_le _, fun o ho => absurd ho (Nat.not_lt_zero o)⟩)
  rintro i hI ih
  try dsimp only at hI ih ⊢
  refine g_iload (i := 4) hC d_M_arrive_3 rfl ?_
  refine g_bipush (v := nI 18) hC d_M_arrive_5 (by decide) ?_
  refine g_icmp_geN (tgt := 68) hC d_M_arrive_7 (by decide) (by first | omega | exact r_lt hb _ _ | exact pb_le _) (by first | omega | exact r_lt hb _ _ | exact pb_le _) (fun h7 => ?_) (fun h7 => ?_)
  · refine g_iconst (v := -1) hC d_M_arrive_68 (by decide) ?_
    refine g_iret hC hr hlk d_M_arrive_69 (by decide) (by decide) (fun ad w hw => ?_)
    exact ⟨σ, σ, ⟨⟨Or.inr ⟨fun ⟨o, h⟩ => hI.2 o (by have := h.1; omega) h.2, rfl, rfl⟩, hInv⟩, E12.refl σ⟩, hw⟩
  · refine g_aload_n (i := 0) hC d_M_arrive_10 rfl rfl (Or.inr ⟨_, rfl⟩) ?_
    refine g_iload (i := 4) hC d_M_arrive_11 rfl ?_
    refine g_bipush (v := nI 6) hC d_M_arrive_13 (by decide) ?_
    refine g_idivN hC d_M_arrive_15 (by omega) (by omega) (by omega) ?_
    refine g_iload (i := 4) hC d_M_arrive_16 rfl ?_
    refine g_bipush (v := nI 6) hC d_M_arrive_18 (by decide) ?_
    refine g_iremN hC d_M_arrive_20 (by omega) (by omega) (by omega) ?_
    refine g_calli hC (g_runV (q := 200) (As := [_, _]) (st := []) hC g_NOK_N (r_isMade l D S σ ad0 w0 hInv (nI (i / 6)) (nI (i % 6))) (t_cwV 2 hC.1.2.2.2.2 m_437 m_439 ms_21 m_6 k_M_isMade rfl rfl hd_M_isMade ⟨by decide, by decide⟩) r_this rfl rfl rfl (Nat.le_of_ble_eq_true rfl) d_M_arrive_21 ⟨by decide, by decide⟩) (fun r21 => ?_)
    refine g_and (fun e => ?_)
    rw [pb_iff (md_iff hInv (by omega))] at e
    subst e
    refine g_if_eqN (tgt := 62) hC d_M_arrive_24 (by decide) (pb_le _) (fun h24 => ?_) (fun h24 => ?_)
    · have g24 := pb_0 h24
      refine g_iinc (i := 4) (k := 3) (lo' := [(4, _), (0, _), (1, _), (2, _)]) hC d_M_arrive_62 rfl (nI_inc _) (by decide) rfl ?_
      refine g_goto (tgt := 3) hC d_M_arrive_65 (by decide) ?_
      refine g_los [1, 2, 3, 0] rfl ?_
      exact ih (i + 1) ⟨by omega, lt_s hI.2 (fun q => g24 q.1)⟩ (by first | omega | (dsimp only; omega))
    · have g24 := pb_1 h24
      refine g_aload_n (i := 0) hC d_M_arrive_27 rfl rfl (Or.inr ⟨_, rfl⟩) ?_
      refine g_iload (i := 4) hC d_M_arrive_28 rfl ?_
      refine g_bipush (v := nI 6) hC d_M_arrive_30 (by decide) ?_
      refine g_idivN hC d_M_arrive_32 (by omega) (by omega) (by omega) ?_
      refine g_iload (i := 4) hC d_M_arrive_33 rfl ?_
      refine g_bipush (v := nI 6) hC d_M_arrive_35 (by decide) ?_
      refine g_iremN hC d_M_arrive_37 (by omega) (by omega) (by omega) ?_
      refine g_calll hC (g_runV (q := 200) (As := [_, _]) (st := []) hC g_NOK_N (r_code l D S σ ad0 w0 hInv (nI (i / 6)) (nI (i % 6))) (t_cwV 2 hC.1.2.2.2.2 m_453 m_454 m_455 m_6 k_M_code rfl rfl hd_M_code ⟨by decide, by decide⟩) r_this rfl rfl rfl (Nat.le_of_ble_eq_true rfl) d_M_arrive_38 ⟨by decide, by decide⟩) (fun r38 => ?_)
      refine g_and (fun e38 => ?_)
      have e39 : r38 = lN (cdv σ i) := by
        rcases e38 with ⟨s, k, h, e⟩ | ⟨h, -⟩
        · obtain ⟨rfl, rfl⟩ := MD.at_ hInv (by omega) h
          rw [e, show 6 * (i / 6) + i % 6 = i by omega]
        · exact absurd ((md_iff hInv (by omega)).mpr g24) h
      subst e39
      refine g_lload_n (i := 2) hC d_M_arrive_41 rfl rfl ?_
      refine g_lcmp hC d_M_arrive_42 ?_
      refine g_if_ne (tgt := 62) hC d_M_arrive_43 (by decide) (fun h43 => ?_) (fun h43 => ?_)
      · refine g_iinc (i := 4) (k := 3) (lo' := [(4, _), (0, _), (1, _), (2, _)]) hC d_M_arrive_62 rfl (nI_inc _) (by decide) rfl ?_
        refine g_goto (tgt := 3) hC d_M_arrive_65 (by decide) ?_
        refine g_los [1, 2, 3, 0] rfl ?_
        exact ih (i + 1) ⟨by omega, lt_s hI.2 (fun q => h43 (lg_cmp_0.mpr q.2.symm))⟩ (by first | omega | (dsimp only; omega))
      · refine g_aload_n (i := 0) hC d_M_arrive_46 rfl rfl (Or.inr ⟨_, rfl⟩) ?_
        refine g_iload_n (i := 1) hC d_M_arrive_47 rfl rfl ?_
        refine g_iload (i := 4) hC d_M_arrive_48 rfl ?_
        refine g_bipush (v := nI 6) hC d_M_arrive_50 (by decide) ?_
        refine g_idivN hC d_M_arrive_52 (by omega) (by omega) (by omega) ?_
        refine g_iload (i := 4) hC d_M_arrive_53 rfl ?_
        refine g_bipush (v := nI 6) hC d_M_arrive_55 (by decide) ?_
        refine g_iremN hC d_M_arrive_57 (by omega) (by omega) (by omega) ?_
        refine g_calli hC (g_runV (q := 200) (As := [_, _, _]) (st := []) hC g_NOK_N (r_deliver l D S σ ad0 w0 hInv t (nI (i / 6)) (nI (i % 6))) (t_cwV 3 hC.1.2.2.2.2 m_465 m_434 m_435 m_6 k_M_deliver rfl rfl hd_M_deliver ⟨by decide, by decide⟩) r_this rfl rfl rfl (Nat.le_of_ble_eq_true rfl) d_M_arrive_58 ⟨by decide, by decide⟩) (fun r58 => ?_)
        refine g_iret hC hr hlk d_M_arrive_61 (by decide) (by decide) (fun ad w hw => ?_)
        obtain ⟨σs, σ2, ⟨⟨a, b⟩, c⟩, d⟩ := hw
        exact ⟨σs, σ2, ⟨⟨Or.inl ⟨i, ⟨by omega, g24, (lg_cmp_0.mp h43).symm⟩, a⟩, b⟩, c⟩, d⟩
set_option maxRecDepth 100000 in
set_option maxHeartbeats 4000000 in
theorem r_sync (l : Launch) (D : va_G) (S : Nat) (σ : rS) (ad0 : Nat → Nat) (w0 : gW) (hInv : INV S σ) (t f : Int32) : g_M l y_M_sync w_M_sync (rk 7) D gCl g_N [.ref (ad0 200), .int t, .int f] (RX S σ ad0 w0) 0 0 (fun A => g_Qi D gCl A (fun r ad w => ∃ σs σ', ((SpSy S σ t f r σs ∧ INV S σs) ∧ E12 σs σ') ∧ RX S σ' ad0 w0 ad w)) := by
  have hS3 := hInv.S3
  refine g_of (cc := c_M_sync) (nL := 5) (ret := some .int) (by decide) rfl (Nat.le_of_ble_eq_true rfl) ?_
  intro pp ee ss mm bb me cc A hC hr hlk hnm
  refine g_los [0, 1, 2] (lo' := [(0, .ref (ad0 200)), (1, .int t), (2, .int f)]) rfl ?_
  refine g_pure r_bl_of (fun hb => ?_)
  refine g_aload_n (i := 0) hC d_M_sync_0 rfl rfl (Or.inr ⟨_, rfl⟩) ?_
  refine g_iload_n (i := 1) hC d_M_sync_1 rfl rfl ?_
  refine g_calli hC (g_runV (q := 200) (As := [_]) (st := []) hC g_NOK_N (r_isSite l D S σ ad0 w0 (by omega) (t)) (t_cwV 1 hC.1.2.2.2.2 m_374 m_376 ms_9 m_6 k_M_isSite rfl rfl hd_M_isSite ⟨by decide, by decide⟩) r_this rfl rfl rfl (Nat.le_of_ble_eq_true rfl) d_M_sync_2 ⟨by decide, by decide⟩) (fun r2 => ?_)
  refine g_and (fun e => ?_)
  subst e
  refine g_if_eqN (tgt := 21) hC d_M_sync_5 (by decide) (pb_le _) (fun h5 => ?_) (fun h5 => ?_)
  · have g5 := pb_0 h5
    refine g_iconst (v := -1) hC d_M_sync_21 (by decide) ?_
    refine g_iret hC hr hlk d_M_sync_22 (by decide) (by decide) (fun ad w hw => ?_)
    exact ⟨σ, σ, ⟨⟨Or.inr ⟨fun ⟨s1, s2, h⟩ => g5 ⟨s1, by rw [h.1]; exact ix_nI (by omega) h.2.1⟩, rfl, rfl⟩, hInv⟩, E12.refl σ⟩, hw⟩
  · have g5 := pb_1 h5
    obtain ⟨s, hxs⟩ := g5
    obtain ⟨hsS, rfl⟩ := ix_some (by omega) hxs
    refine g_aload_n (i := 0) hC d_M_sync_8 rfl rfl (Or.inr ⟨_, rfl⟩) ?_
    refine g_iload_n (i := 2) hC d_M_sync_9 rfl rfl ?_
    refine g_calli hC (g_runV (q := 200) (As := [_]) (st := []) hC g_NOK_N (r_isSite l D S σ ad0 w0 (by omega) (f)) (t_cwV 1 hC.1.2.2.2.2 m_374 m_376 ms_9 m_6 k_M_isSite rfl rfl hd_M_isSite ⟨by decide, by decide⟩) r_this rfl rfl rfl (Nat.le_of_ble_eq_true rfl) d_M_sync_10 ⟨by decide, by decide⟩) (fun r10 => ?_)
    refine g_and (fun e => ?_)
    subst e
    refine g_if_eqN (tgt := 21) hC d_M_sync_13 (by decide) (pb_le _) (fun h13 => ?_) (fun h13 => ?_)
    · have g13 := pb_0 h13
      refine g_iconst (v := -1) hC d_M_sync_21 (by decide) ?_
      refine g_iret hC hr hlk d_M_sync_22 (by decide) (by decide) (fun ad w hw => ?_)
      exact ⟨σ, σ, ⟨⟨Or.inr ⟨fun ⟨s1, s2, h⟩ => g13 ⟨s2, by rw [h.2.2.1]; exact ix_nI (by omega) h.2.2.2.1⟩, rfl, rfl⟩, hInv⟩, E12.refl σ⟩, hw⟩
    · have g13 := pb_1 h13
      obtain ⟨s', hxs'⟩ := g13
      obtain ⟨hs'S, rfl⟩ := ix_some (by omega) hxs'
      refine g_iload_n (i := 1) hC d_M_sync_16 rfl rfl ?_
      refine g_iload_n (i := 2) hC d_M_sync_17 rfl rfl ?_
      refine g_icmp_neN (tgt := 23) hC d_M_sync_18 (by decide) (by omega) (by omega) (fun h18 => ?_) (fun h18 => ?_)
      · refine g_iconst (v := nI 0) hC d_M_sync_23 (by decide) ?_
        refine g_istore_n (i := 3) (lo' := [(3, _), (0, _), (1, _), (2, _)]) hC d_M_sync_24 rfl (by decide) rfl ?_
        refine g_iconst (v := nI 0) hC d_M_sync_25 (by decide) ?_
        refine g_istore (i := 4) (lo' := [(4, _), (3, _), (0, _), (1, _), (2, _)]) hC d_M_sync_26 (by decide) rfl ?_
        refine g_los [2, 3, 4, 1, 0] (lo' := [(0, _), (1, _), (2, _), (3, _), (4, _)]) rfl ?_
        refine g_loop (ι := (Nat × Nat) × rS × rS) (pc0 := 28) (fun ⟨⟨i, n⟩, τs, τ⟩ => 18 - i) (fun ⟨⟨i, n⟩, τs, τ⟩ => i ≤ 18 ∧ SYR s s' i σ n τs ∧ INV S τs ∧ E12 τs τ) (fun ⟨⟨i, n⟩, τs, τ⟩ => RX S τ ad0 w0) (fun ⟨⟨i, n⟩, τs, τ⟩ => [(0, .ref (ad0 200)), (1, .int (nI s)), (2, .int (nI s')), (3, .int (nI n)), (4, .int (nI i))]) ?_ ((0, 0), σ, σ) (⟨Nat.zero_le _, ⟨rfl, rfl⟩, hInv, E12.refl σ⟩)
        rintro ⟨⟨i, n⟩, τs, τ⟩ hI ih
        try dsimp only at hI ih ⊢
        refine g_pure r_bl_of (fun hb => ?_)
        refine g_iload (i := 4) hC d_M_sync_28 rfl ?_
        refine g_bipush (v := nI 18) hC d_M_sync_30 (by decide) ?_
        refine g_icmp_geN (tgt := 98) hC d_M_sync_32 (by decide) (by first | omega | exact r_lt hb _ _ | exact pb_le _) (by first | omega | exact r_lt hb _ _ | exact pb_le _) (fun h32 => ?_) (fun h32 => ?_)
        · refine g_iload_n (i := 3) hC d_M_sync_98 rfl rfl ?_
          refine g_iret hC hr hlk d_M_sync_99 (by decide) (by decide) (fun ad w hw => ?_)
          exact ⟨τs, τ, ⟨⟨Or.inl ⟨s, s', n, ⟨rfl, hsS, rfl, hs'S, h18⟩, (show i = 18 by omega) ▸ hI.2.1, rfl⟩, hI.2.2.1⟩, hI.2.2.2⟩, hw⟩
        · refine g_aload_n (i := 0) hC d_M_sync_35 rfl rfl (Or.inr ⟨_, rfl⟩) ?_
          refine g_get hC (fun x h => List.mem_cons_of_mem _ (in_M x h)) 200 r_this rfl 7 (by decide) (List.mem_cons_of_mem _ m_327) rfl rfl d_M_sync_36 ?_
          refine g_bipush (v := nI 18) hC d_M_sync_39 (by decide) ?_
          refine g_iload_n (i := 2) hC d_M_sync_41 rfl rfl ?_
          refine g_imulN hC d_M_sync_42 ?_
          refine g_iload (i := 4) hC d_M_sync_43 rfl ?_
          refine g_iaddN hC d_M_sync_45 ?_
          refine r_lde 7 hC (by decide) (by decide) rfl (fun _ => rfl) (by simp only [r_ln]; omega) d_M_sync_46 ?_
          refine g_if_lt (tgt := 92) hC d_M_sync_47 (by decide) (fun h47 => ?_) (fun h47 => ?_)
          · refine g_iinc (i := 4) (k := 4) (lo' := [(4, _), (0, _), (1, _), (2, _), (3, _)]) hC d_M_sync_92 rfl (nI_inc _) (by decide) rfl ?_
            refine g_goto (tgt := 28) hC d_M_sync_95 (by decide) ?_
            refine g_los [1, 2, 3, 4, 0] rfl ?_
            exact ih ((i + 1, n), τs, τ) ⟨by first | omega | (dsimp only; omega), ⟨n, τs, hI.2.1, Or.inr ⟨fun q => q.1 (by rw [← hI.2.2.2 7 (by omega) (by omega)]; exact (en_lt (r_lt hb _ _)).mp h47), rfl, rfl⟩⟩, hI.2.2⟩ (by first | omega | (dsimp only; omega))
          · refine g_iload (i := 4) hC d_M_sync_50 rfl ?_
            refine g_bipush (v := nI 6) hC d_M_sync_52 (by decide) ?_
            refine g_idivN hC d_M_sync_54 (by omega) (by omega) (by omega) ?_
            refine g_iload_n (i := 1) hC d_M_sync_55 rfl rfl ?_
            refine g_icmp_eqN (tgt := 92) hC d_M_sync_56 (by decide) (by omega) (by omega) (fun h56 => ?_) (fun h56 => ?_)
            · refine g_iinc (i := 4) (k := 4) (lo' := [(4, _), (0, _), (1, _), (2, _), (3, _)]) hC d_M_sync_92 rfl (nI_inc _) (by decide) rfl ?_
              refine g_goto (tgt := 28) hC d_M_sync_95 (by decide) ?_
              refine g_los [1, 2, 3, 4, 0] rfl ?_
              exact ih ((i + 1, n), τs, τ) ⟨by first | omega | (dsimp only; omega), ⟨n, τs, hI.2.1, Or.inr ⟨fun q => q.2.1 h56, rfl, rfl⟩⟩, hI.2.2⟩ (by first | omega | (dsimp only; omega))
            · refine g_aload_n (i := 0) hC d_M_sync_59 rfl rfl (Or.inr ⟨_, rfl⟩) ?_
              refine g_get hC (fun x h => List.mem_cons_of_mem _ (in_M x h)) 200 r_this rfl 6 (by decide) (List.mem_cons_of_mem _ m_326) rfl rfl d_M_sync_60 ?_
              refine g_bipush (v := nI 18) hC d_M_sync_63 (by decide) ?_
              refine g_iload_n (i := 1) hC d_M_sync_65 rfl rfl ?_
              refine g_imulN hC d_M_sync_66 ?_
              refine g_iload (i := 4) hC d_M_sync_67 rfl ?_
              refine g_iaddN hC d_M_sync_69 ?_
              refine r_zld 6 hC (by decide) (by decide) rfl (fun _ => rfl) (by simp only [r_ln]; omega) d_M_sync_70 ?_
              refine g_if_neN (tgt := 92) hC d_M_sync_71 (by decide) (r_lt hb _ _) (fun h71 => ?_) (fun h71 => ?_)
              · refine g_iinc (i := 4) (k := 4) (lo' := [(4, _), (0, _), (1, _), (2, _), (3, _)]) hC d_M_sync_92 rfl (nI_inc _) (by decide) rfl ?_
                refine g_goto (tgt := 28) hC d_M_sync_95 (by decide) ?_
                refine g_los [1, 2, 3, 4, 0] rfl ?_
                exact ih ((i + 1, n), τs, τ) ⟨by first | omega | (dsimp only; omega), ⟨n, τs, hI.2.1, Or.inr ⟨fun q => h71 (by rw [hI.2.2.2 6 (by omega) (by omega)]; exact q.2.2), rfl, rfl⟩⟩, hI.2.2⟩ (by first | omega | (dsimp only; omega))
              · have hsc : SYC s s' i τs := ⟨fun q => h47 ((en_lt (r_lt hb _ _)).mpr (by rw [hI.2.2.2 7 (by omega) (by omega)]; exact q)), h56, by rw [← hI.2.2.2 6 (by omega) (by omega)]; exact h71⟩
                have hi18 : i < 18 := by omega
                have hmi : mh (s_mk τs) i := (hI.2.2.1.2 s' hs'S).1.1.made (((hI.2.2.1.2 s' hs'S).1.2.2.2.2 i hi18).1.mp hsc.1)
                refine g_iload_n (i := 3) hC d_M_sync_74 rfl rfl ?_
                refine g_aload_n (i := 0) hC d_M_sync_75 rfl rfl (Or.inr ⟨_, rfl⟩) ?_
                refine g_iload_n (i := 1) hC d_M_sync_76 rfl rfl ?_
                refine g_iload (i := 4) hC d_M_sync_77 rfl ?_
                refine g_bipush (v := nI 6) hC d_M_sync_79 (by decide) ?_
                refine g_idivN hC d_M_sync_81 (by omega) (by omega) (by omega) ?_
                refine g_iload (i := 4) hC d_M_sync_82 rfl ?_
                refine g_bipush (v := nI 6) hC d_M_sync_84 (by decide) ?_
                refine g_iremN hC d_M_sync_86 (by omega) (by omega) (by omega) ?_
                refine g_calli hC (g_runV (q := 200) (As := [_, _, _]) (st := [_]) hC g_NOK_N (r_deliver l D S τ ad0 w0 (hI.2.2.2.inv hI.2.2.1) (nI s) (nI (i / 6)) (nI (i % 6))) (t_cwV 3 hC.1.2.2.2.2 m_465 m_434 m_435 m_6 k_M_deliver rfl rfl hd_M_deliver ⟨by decide, by decide⟩) r_this rfl rfl rfl (Nat.le_of_ble_eq_true rfl) d_M_sync_87 ⟨by decide, by decide⟩) (fun r87 => ?_)
                refine g_ex (fun σs => g_ex (fun σ2 => g_and (fun e87 => ?_)))
                obtain ⟨⟨hsp, hi2⟩, hE2⟩ := e87
                have hIt := hI.2.2.2.inv hI.2.2.1
                have hmt : mh (s_mk τ) i := by
                  rw [hI.2.2.2.mk]
                  exact hmi
                obtain ⟨m, hw0, rfl⟩ : ∃ m, WK s m (arS τ s i) σs ∧ r87 = nI m := by
                  rcases hsp with ⟨s1, s2, k2, n1, h, hwk, e⟩ | ⟨h, -, -⟩
                  · obtain ⟨e2, e3⟩ := MD.at_ hIt hi18 h.2.2.1
                    have e1 := nI_inj h.1 (by omega) (by have := h.2.1; omega)
                    subst e1
                    rw [e2, e3, show 6 * (i / 6) + i % 6 = i by omega] at hwk
                    exact ⟨n1, hwk, e⟩
                  · obtain ⟨s2, k2, hm⟩ := (md_iff hIt hi18).mpr hmt
                    obtain ⟨e2, e3⟩ := MD.at_ hIt hi18 hm
                    exact absurd ⟨s, s2, k2, rfl, hsS, hm, by rw [e2]; exact fun q => h56 q.symm, by rw [e2, e3, show 6 * (i / 6) + i % 6 = i by omega]; exact h71⟩ h
                obtain ⟨σ1, hw1, hE3⟩ := WK.e12 (hI.2.2.2.ar s i) hw0
                have hi1 : INV S σ1 := WK.inv hsS (arS_INV hI.2.2.1 hmi) hw1
                have hE1 := hE3.trans hE2
                refine g_iaddN hC d_M_sync_90 ?_
                refine g_istore_n (i := 3) (lo' := [(3, _), (0, _), (1, _), (2, _), (4, _)]) hC d_M_sync_91 rfl (by decide) rfl ?_
                refine g_iinc (i := 4) (k := 4) (lo' := [(4, _), (3, _), (0, _), (1, _), (2, _)]) hC d_M_sync_92 rfl (nI_inc _) (by decide) rfl ?_
                refine g_goto (tgt := 28) hC d_M_sync_95 (by decide) ?_
                refine g_los [2, 3, 4, 1, 0] rfl ?_
                exact ih ((i + 1, n + m), σ1, σ2) ⟨by first | omega | (dsimp only; omega), ⟨n, τs, hI.2.1, Or.inl ⟨hsc, m, hw1, rfl⟩⟩, hi1, hE1⟩ (by first | omega | (dsimp only; omega))
      · refine g_iconst (v := -1) hC d_M_sync_21 (by decide) ?_
        refine g_iret hC hr hlk d_M_sync_22 (by decide) (by decide) (fun ad w hw => ?_)
        exact ⟨σ, σ, ⟨⟨Or.inr ⟨fun ⟨s1, s2, h⟩ => h.2.2.2.2 (by
          have e1 := nI_inj h.1 (by omega) (by have := h.2.1; omega)
          have e2 := nI_inj h.2.2.1 (by omega) (by have := h.2.2.2.1; omega)
          rw [← e1, ← e2]
          exact h18), rfl, rfl⟩, hInv⟩, E12.refl σ⟩, hw⟩
set_option maxRecDepth 100000 in
set_option maxHeartbeats 4000000 in
theorem r_stable (l : Launch) (D : va_G) (S : Nat) (σ : rS) (ad0 : Nat → Nat) (w0 : gW) (hInv : INV S σ) (x y : Int32) : g_M l y_M_stable w_M_stable (rk 1) D gCl g_N [.ref (ad0 200), .int x, .int y] (RX S σ ad0 w0) 0 0 (fun A => g_Qi D gCl A (fun r ad w => r = q_st S σ x y ∧ RX S σ ad0 w0 ad w)) := by
  have hS3 := hInv.S3
  refine g_of (cc := c_M_stable) (nL := 7) (ret := some .int) (by decide) rfl (Nat.le_of_ble_eq_true rfl) ?_
  intro pp ee ss mm bb me cc A hC hr hlk hnm
  refine g_los [0, 1, 2] (lo' := [(0, .ref (ad0 200)), (1, .int x), (2, .int y)]) rfl ?_
  refine g_pure r_bl_of (fun hb => ?_)
  refine g_aload_n (i := 0) hC d_M_stable_0 rfl rfl (Or.inr ⟨_, rfl⟩) ?_
  refine g_iload_n (i := 1) hC d_M_stable_1 rfl rfl ?_
  refine g_calli hC (g_runV (q := 200) (As := [_]) (st := []) hC g_NOK_N (r_isSite l D S σ ad0 w0 (by omega) (x)) (t_cwV 1 hC.1.2.2.2.2 m_374 m_376 ms_9 m_6 k_M_isSite rfl rfl hd_M_isSite ⟨by decide, by decide⟩) r_this rfl rfl rfl (Nat.le_of_ble_eq_true rfl) d_M_stable_2 ⟨by decide, by decide⟩) (fun r2 => ?_)
  refine g_and (fun e => ?_)
  subst e
  refine g_if_eqN (tgt := 16) hC d_M_stable_5 (by decide) (pb_le _) (fun h5 => ?_) (fun h5 => ?_)
  · have g5 := pb_0 h5
    refine g_iconst (v := -1) hC d_M_stable_16 (by decide) ?_
    refine g_iret hC hr hlk d_M_stable_17 (by decide) (by decide) (fun ad w hw => ?_)
    exact ⟨by unfold q_st; rw [ix_no g5], hw⟩
  · have g5 := pb_1 h5
    obtain ⟨s, hxs⟩ := g5
    obtain ⟨hsS, rfl⟩ := ix_some (by omega) hxs
    refine g_aload_n (i := 0) hC d_M_stable_8 rfl rfl (Or.inr ⟨_, rfl⟩) ?_
    refine g_iload_n (i := 2) hC d_M_stable_9 rfl rfl ?_
    refine g_calli hC (g_runV (q := 200) (As := [_]) (st := []) hC g_NOK_N (r_isSite l D S σ ad0 w0 (by omega) (y)) (t_cwV 1 hC.1.2.2.2.2 m_374 m_376 ms_9 m_6 k_M_isSite rfl rfl hd_M_isSite ⟨by decide, by decide⟩) r_this rfl rfl rfl (Nat.le_of_ble_eq_true rfl) d_M_stable_10 ⟨by decide, by decide⟩) (fun r10 => ?_)
    refine g_and (fun e => ?_)
    subst e
    refine g_if_neN (tgt := 18) hC d_M_stable_13 (by decide) (pb_le _) (fun h13 => ?_) (fun h13 => ?_)
    · have g13 := pb_1 h13
      obtain ⟨t, hys⟩ := g13
      obtain ⟨htS, rfl⟩ := ix_some (by omega) hys
      refine g_bipush (v := nI 100) hC d_M_stable_18 (by decide) ?_
      refine g_istore_n (i := 3) (lo' := [(3, _), (0, _), (1, _), (2, _)]) hC d_M_stable_20 rfl (by decide) rfl ?_
      refine g_iconst (v := nI 0) hC d_M_stable_21 (by decide) ?_
      refine g_istore (i := 4) (lo' := [(4, _), (3, _), (0, _), (1, _), (2, _)]) hC d_M_stable_22 (by decide) rfl ?_
      refine g_los [2, 3, 4, 1, 0] (lo' := [(0, _), (1, _), (2, _), (3, _), (4, _)]) rfl ?_
      refine g_loop (ι := Nat × Nat) (pc0 := 24) (fun ⟨j, v⟩ => 3 - j) (fun ⟨j, v⟩ => j ≤ S ∧ v = s_st σ s t j ∧ v < 2000) (fun ⟨j, v⟩ => RX S σ ad0 w0) (fun ⟨j, v⟩ => [(0, .ref (ad0 200)), (1, .int (nI s)), (2, .int (nI t)), (3, .int (nI v)), (4, .int (nI j))]) ?_ (0, 100) (⟨Nat.zero_le _, rfl, by omega⟩)
      rintro ⟨j, v⟩ hI ih
      try dsimp only at hI ih ⊢
      refine g_iload (i := 4) hC d_M_stable_24 rfl ?_
      refine g_aload_n (i := 0) hC d_M_stable_26 rfl rfl (Or.inr ⟨_, rfl⟩) ?_
      refine g_get hC (fun x h => List.mem_cons_of_mem _ (in_M x h)) 200 r_this rfl 0 (by decide) (List.mem_cons_of_mem _ m_320) rfl rfl d_M_stable_27 ?_
      refine g_icmp_geN (tgt := 127) hC d_M_stable_30 (by decide) (by first | omega | exact r_lt hb _ _ | exact pb_le _) (by first | omega | exact r_lt hb _ _ | exact pb_le _) (fun h30 => ?_) (fun h30 => ?_)
      · refine g_iload_n (i := 3) hC d_M_stable_127 rfl rfl ?_
        refine g_iret hC hr hlk d_M_stable_128 (by decide) (by decide) (fun ad w hw => ?_)
        exact ⟨by unfold q_st; rw [hxs, hys]; show nI v = nI (s_st σ s t S); rw [hI.2.1, show j = S by omega], hw⟩
      · refine g_aload_n (i := 0) hC d_M_stable_33 rfl rfl (Or.inr ⟨_, rfl⟩) ?_
        refine g_get hC (fun x h => List.mem_cons_of_mem _ (in_M x h)) 200 r_this rfl 8 (by decide) (List.mem_cons_of_mem _ m_328) rfl rfl d_M_stable_34 ?_
        refine g_iconst (v := nI 3) hC d_M_stable_37 (by decide) ?_
        refine g_iload_n (i := 1) hC d_M_stable_38 rfl rfl ?_
        refine g_imulN hC d_M_stable_39 ?_
        refine g_iload (i := 4) hC d_M_stable_40 rfl ?_
        refine g_iaddN hC d_M_stable_42 ?_
        refine r_ld 8 hC (by decide) (by decide) rfl (fun _ => rfl) (by simp only [r_ln]; omega) d_M_stable_43 ?_
        refine g_istore (i := 5) (lo' := [(5, _), (0, _), (1, _), (2, _), (3, _), (4, _)]) hC d_M_stable_44 (by decide) rfl ?_
        have hv8 : σ 8 (3 * s + j) ≤ 6 := by
          have := (hInv.2 s hsS).1.1.le6 hInv.1.2.2.1 j
          rw [s_vc_lt (by omega)] at this
          exact this
        refine g_iconst (v := nI 0) hC d_M_stable_46 (by decide) ?_
        refine g_istore (i := 6) (lo' := [(6, _), (5, _), (0, _), (1, _), (2, _), (3, _), (4, _)]) hC d_M_stable_47 (by decide) rfl ?_
        refine g_iload (i := 4) hC d_M_stable_49 rfl ?_
        refine g_iload_n (i := 1) hC d_M_stable_51 rfl rfl ?_
        refine g_icmp_neN (tgt := 70) hC d_M_stable_52 (by decide) (by omega) (by omega) (fun h52 => ?_) (fun h52 => ?_)
        · refine g_iload (i := 5) hC d_M_stable_70 rfl ?_
          refine g_if_leN (tgt := 108) hC d_M_stable_72 (by decide) (by omega) (fun h72 => ?_) (fun h72 => ?_)
          · refine g_iload (i := 6) hC d_M_stable_108 rfl ?_
            refine g_iload_n (i := 3) hC d_M_stable_110 rfl rfl ?_
            refine g_icmp_geN (tgt := 119) hC d_M_stable_111 (by decide) (by first | omega | exact r_lt hb _ _ | (have := r_lt1 hb 5 (3 * (6 * j + σ 8 (3 * s + j) - 1) + t); omega)) (by omega) (fun h111 => ?_) (fun h111 => ?_)
            · refine g_iload_n (i := 3) hC d_M_stable_119 rfl rfl ?_
              refine g_istore_n (i := 3) (lo' := [(3, _), (6, _), (5, _), (0, _), (1, _), (2, _), (4, _)]) hC d_M_stable_120 rfl (by decide) rfl ?_
              refine g_iinc (i := 4) (k := 6) (lo' := [(4, _), (3, _), (6, _), (5, _), (0, _), (1, _), (2, _)]) hC d_M_stable_121 rfl (nI_inc _) (by decide) rfl ?_
              refine g_goto (tgt := 24) hC d_M_stable_124 (by decide) ?_
              refine g_los [4, 5, 6, 1, 0] rfl ?_
              have hkn : s_kn σ s t j = 0 := by
                unfold s_kn
                rw [if_neg h52, if_pos h72]
              exact ih (j + 1, v) ⟨by omega, by simp only [s_st]; rw [hkn, ← hI.2.1]; first | rw [if_pos (by omega)] | rw [if_neg (by omega)], by first | omega | exact r_lt1 hb _ _ | (have := hv8; omega) | (have := r_lt1 hb 5 (3 * (6 * j + σ 8 (3 * s + j) - 1) + t); omega)⟩ (by first | omega | (dsimp only; omega))
            · refine g_iload (i := 6) hC d_M_stable_114 rfl ?_
              refine g_goto (tgt := 120) hC d_M_stable_116 (by decide) ?_
              refine g_istore_n (i := 3) (lo' := [(3, _), (6, _), (5, _), (0, _), (1, _), (2, _), (4, _)]) hC d_M_stable_120 rfl (by decide) rfl ?_
              refine g_iinc (i := 4) (k := 6) (lo' := [(4, _), (3, _), (6, _), (5, _), (0, _), (1, _), (2, _)]) hC d_M_stable_121 rfl (nI_inc _) (by decide) rfl ?_
              refine g_goto (tgt := 24) hC d_M_stable_124 (by decide) ?_
              refine g_los [4, 5, 6, 1, 0] rfl ?_
              have hkn : s_kn σ s t j = 0 := by
                unfold s_kn
                rw [if_neg h52, if_pos h72]
              exact ih (j + 1, (0)) ⟨by omega, by simp only [s_st]; rw [hkn, ← hI.2.1]; first | rw [if_pos (by omega)] | rw [if_neg (by omega)], by first | omega | exact r_lt1 hb _ _ | (have := hv8; omega) | (have := r_lt1 hb 5 (3 * (6 * j + σ 8 (3 * s + j) - 1) + t); omega)⟩ (by first | omega | (dsimp only; omega))
          · refine g_aload_n (i := 0) hC d_M_stable_75 rfl rfl (Or.inr ⟨_, rfl⟩) ?_
            refine g_get hC (fun x h => List.mem_cons_of_mem _ (in_M x h)) 200 r_this rfl 5 (by decide) (List.mem_cons_of_mem _ m_325) rfl rfl d_M_stable_76 ?_
            refine g_iconst (v := nI 3) hC d_M_stable_79 (by decide) ?_
            refine g_bipush (v := nI 6) hC d_M_stable_80 (by decide) ?_
            refine g_iload (i := 4) hC d_M_stable_82 rfl ?_
            refine g_imulN hC d_M_stable_84 ?_
            refine g_iload (i := 5) hC d_M_stable_85 rfl ?_
            refine g_iaddN hC d_M_stable_87 ?_
            refine g_iconst (v := nI 1) hC d_M_stable_88 (by decide) ?_
            refine g_isubN hC d_M_stable_89 (by omega) ?_
            refine g_imulN hC d_M_stable_90 ?_
            refine g_iload_n (i := 2) hC d_M_stable_91 rfl rfl ?_
            refine g_iaddN hC d_M_stable_92 ?_
            refine r_ld 5 hC (by decide) (by decide) rfl (fun _ => rfl) (by simp only [r_ln]; omega) d_M_stable_93 ?_
            refine g_iload_n (i := 2) hC d_M_stable_94 rfl rfl ?_
            refine g_iload (i := 4) hC d_M_stable_95 rfl ?_
            refine g_icmp_neN (tgt := 104) hC d_M_stable_97 (by decide) (by omega) (by omega) (fun h97 => ?_) (fun h97 => ?_)
            · refine g_iconst (v := nI 0) hC d_M_stable_104 (by decide) ?_
              refine g_iaddN hC d_M_stable_105 ?_
              refine g_istore (i := 6) (lo' := [(6, _), (5, _), (0, _), (1, _), (2, _), (3, _), (4, _)]) hC d_M_stable_106 (by decide) rfl ?_
              refine g_iload (i := 6) hC d_M_stable_108 rfl ?_
              refine g_iload_n (i := 3) hC d_M_stable_110 rfl rfl ?_
              refine g_icmp_geN (tgt := 119) hC d_M_stable_111 (by decide) (by first | omega | exact r_lt hb _ _ | (have := r_lt1 hb 5 (3 * (6 * j + σ 8 (3 * s + j) - 1) + t); omega)) (by omega) (fun h111 => ?_) (fun h111 => ?_)
              · refine g_iload_n (i := 3) hC d_M_stable_119 rfl rfl ?_
                refine g_istore_n (i := 3) (lo' := [(3, _), (6, _), (5, _), (0, _), (1, _), (2, _), (4, _)]) hC d_M_stable_120 rfl (by decide) rfl ?_
                refine g_iinc (i := 4) (k := 6) (lo' := [(4, _), (3, _), (6, _), (5, _), (0, _), (1, _), (2, _)]) hC d_M_stable_121 rfl (nI_inc _) (by decide) rfl ?_
                refine g_goto (tgt := 24) hC d_M_stable_124 (by decide) ?_
                refine g_los [4, 5, 6, 1, 0] rfl ?_
                have hkn : s_kn σ s t j = σ 5 (3 * (6 * j + σ 8 (3 * s + j) - 1) + t) + 0 := by
                  unfold s_kn
                  rw [if_neg h52, if_neg (show ¬ σ 8 (3 * s + j) = 0 by omega), if_neg h97]
                exact ih (j + 1, v) ⟨by omega, by simp only [s_st]; rw [hkn, ← hI.2.1]; first | rw [if_pos (by omega)] | rw [if_neg (by omega)], by first | omega | exact r_lt1 hb _ _ | (have := hv8; omega) | (have := r_lt1 hb 5 (3 * (6 * j + σ 8 (3 * s + j) - 1) + t); omega)⟩ (by first | omega | (dsimp only; omega))
              · refine g_iload (i := 6) hC d_M_stable_114 rfl ?_
                refine g_goto (tgt := 120) hC d_M_stable_116 (by decide) ?_
                refine g_istore_n (i := 3) (lo' := [(3, _), (6, _), (5, _), (0, _), (1, _), (2, _), (4, _)]) hC d_M_stable_120 rfl (by decide) rfl ?_
                refine g_iinc (i := 4) (k := 6) (lo' := [(4, _), (3, _), (6, _), (5, _), (0, _), (1, _), (2, _)]) hC d_M_stable_121 rfl (nI_inc _) (by decide) rfl ?_
                refine g_goto (tgt := 24) hC d_M_stable_124 (by decide) ?_
                refine g_los [4, 5, 6, 1, 0] rfl ?_
                have hkn : s_kn σ s t j = σ 5 (3 * (6 * j + σ 8 (3 * s + j) - 1) + t) + 0 := by
                  unfold s_kn
                  rw [if_neg h52, if_neg (show ¬ σ 8 (3 * s + j) = 0 by omega), if_neg h97]
                exact ih (j + 1, (σ 5 (3 * (6 * j + σ 8 (3 * s + j) - 1) + t) + 0)) ⟨by omega, by simp only [s_st]; rw [hkn, ← hI.2.1]; first | rw [if_pos (by omega)] | rw [if_neg (by omega)], by first | omega | exact r_lt1 hb _ _ | (have := hv8; omega) | (have := r_lt1 hb 5 (3 * (6 * j + σ 8 (3 * s + j) - 1) + t); omega)⟩ (by first | omega | (dsimp only; omega))
            · refine g_iconst (v := nI 1) hC d_M_stable_100 (by decide) ?_
              refine g_goto (tgt := 105) hC d_M_stable_101 (by decide) ?_
              refine g_iaddN hC d_M_stable_105 ?_
              refine g_istore (i := 6) (lo' := [(6, _), (5, _), (0, _), (1, _), (2, _), (3, _), (4, _)]) hC d_M_stable_106 (by decide) rfl ?_
              refine g_iload (i := 6) hC d_M_stable_108 rfl ?_
              refine g_iload_n (i := 3) hC d_M_stable_110 rfl rfl ?_
              refine g_icmp_geN (tgt := 119) hC d_M_stable_111 (by decide) (by first | omega | exact r_lt hb _ _ | (have := r_lt1 hb 5 (3 * (6 * j + σ 8 (3 * s + j) - 1) + t); omega)) (by omega) (fun h111 => ?_) (fun h111 => ?_)
              · refine g_iload_n (i := 3) hC d_M_stable_119 rfl rfl ?_
                refine g_istore_n (i := 3) (lo' := [(3, _), (6, _), (5, _), (0, _), (1, _), (2, _), (4, _)]) hC d_M_stable_120 rfl (by decide) rfl ?_
                refine g_iinc (i := 4) (k := 6) (lo' := [(4, _), (3, _), (6, _), (5, _), (0, _), (1, _), (2, _)]) hC d_M_stable_121 rfl (nI_inc _) (by decide) rfl ?_
                refine g_goto (tgt := 24) hC d_M_stable_124 (by decide) ?_
                refine g_los [4, 5, 6, 1, 0] rfl ?_
                have hkn : s_kn σ s t j = σ 5 (3 * (6 * j + σ 8 (3 * s + j) - 1) + t) + 1 := by
                  unfold s_kn
                  rw [if_neg h52, if_neg (show ¬ σ 8 (3 * s + j) = 0 by omega), if_pos h97]
                exact ih (j + 1, v) ⟨by omega, by simp only [s_st]; rw [hkn, ← hI.2.1]; first | rw [if_pos (by omega)] | rw [if_neg (by omega)], by first | omega | exact r_lt1 hb _ _ | (have := hv8; omega) | (have := r_lt1 hb 5 (3 * (6 * j + σ 8 (3 * s + j) - 1) + t); omega)⟩ (by first | omega | (dsimp only; omega))
              · refine g_iload (i := 6) hC d_M_stable_114 rfl ?_
                refine g_goto (tgt := 120) hC d_M_stable_116 (by decide) ?_
                refine g_istore_n (i := 3) (lo' := [(3, _), (6, _), (5, _), (0, _), (1, _), (2, _), (4, _)]) hC d_M_stable_120 rfl (by decide) rfl ?_
                refine g_iinc (i := 4) (k := 6) (lo' := [(4, _), (3, _), (6, _), (5, _), (0, _), (1, _), (2, _)]) hC d_M_stable_121 rfl (nI_inc _) (by decide) rfl ?_
                refine g_goto (tgt := 24) hC d_M_stable_124 (by decide) ?_
                refine g_los [4, 5, 6, 1, 0] rfl ?_
                have hkn : s_kn σ s t j = σ 5 (3 * (6 * j + σ 8 (3 * s + j) - 1) + t) + 1 := by
                  unfold s_kn
                  rw [if_neg h52, if_neg (show ¬ σ 8 (3 * s + j) = 0 by omega), if_pos h97]
                exact ih (j + 1, (σ 5 (3 * (6 * j + σ 8 (3 * s + j) - 1) + t) + 1)) ⟨by omega, by simp only [s_st]; rw [hkn, ← hI.2.1]; first | rw [if_pos (by omega)] | rw [if_neg (by omega)], by first | omega | exact r_lt1 hb _ _ | (have := hv8; omega) | (have := r_lt1 hb 5 (3 * (6 * j + σ 8 (3 * s + j) - 1) + t); omega)⟩ (by first | omega | (dsimp only; omega))
        · refine g_aload_n (i := 0) hC d_M_stable_55 rfl rfl (Or.inr ⟨_, rfl⟩) ?_
          refine g_get hC (fun x h => List.mem_cons_of_mem _ (in_M x h)) 200 r_this rfl 8 (by decide) (List.mem_cons_of_mem _ m_328) rfl rfl d_M_stable_56 ?_
          refine g_iconst (v := nI 3) hC d_M_stable_59 (by decide) ?_
          refine g_iload_n (i := 1) hC d_M_stable_60 rfl rfl ?_
          refine g_imulN hC d_M_stable_61 ?_
          refine g_iload_n (i := 2) hC d_M_stable_62 rfl rfl ?_
          refine g_iaddN hC d_M_stable_63 ?_
          refine r_ld 8 hC (by decide) (by decide) rfl (fun _ => rfl) (by simp only [r_ln]; omega) d_M_stable_64 ?_
          refine g_istore (i := 6) (lo' := [(6, _), (5, _), (0, _), (1, _), (2, _), (3, _), (4, _)]) hC d_M_stable_65 (by decide) rfl ?_
          refine g_goto (tgt := 108) hC d_M_stable_67 (by decide) ?_
          refine g_iload (i := 6) hC d_M_stable_108 rfl ?_
          refine g_iload_n (i := 3) hC d_M_stable_110 rfl rfl ?_
          refine g_icmp_geN (tgt := 119) hC d_M_stable_111 (by decide) (by first | omega | exact r_lt hb _ _ | (have := r_lt1 hb 5 (3 * (6 * j + σ 8 (3 * s + j) - 1) + t); omega)) (by omega) (fun h111 => ?_) (fun h111 => ?_)
          · refine g_iload_n (i := 3) hC d_M_stable_119 rfl rfl ?_
            refine g_istore_n (i := 3) (lo' := [(3, _), (6, _), (5, _), (0, _), (1, _), (2, _), (4, _)]) hC d_M_stable_120 rfl (by decide) rfl ?_
            refine g_iinc (i := 4) (k := 6) (lo' := [(4, _), (3, _), (6, _), (5, _), (0, _), (1, _), (2, _)]) hC d_M_stable_121 rfl (nI_inc _) (by decide) rfl ?_
            refine g_goto (tgt := 24) hC d_M_stable_124 (by decide) ?_
            refine g_los [4, 5, 6, 1, 0] rfl ?_
            have hkn : s_kn σ s t j = σ 8 (3 * s + t) := by
              unfold s_kn
              rw [if_pos h52]
            exact ih (j + 1, v) ⟨by omega, by simp only [s_st]; rw [hkn, ← hI.2.1]; first | rw [if_pos (by omega)] | rw [if_neg (by omega)], by first | omega | exact r_lt1 hb _ _ | (have := hv8; omega) | (have := r_lt1 hb 5 (3 * (6 * j + σ 8 (3 * s + j) - 1) + t); omega)⟩ (by first | omega | (dsimp only; omega))
          · refine g_iload (i := 6) hC d_M_stable_114 rfl ?_
            refine g_goto (tgt := 120) hC d_M_stable_116 (by decide) ?_
            refine g_istore_n (i := 3) (lo' := [(3, _), (6, _), (5, _), (0, _), (1, _), (2, _), (4, _)]) hC d_M_stable_120 rfl (by decide) rfl ?_
            refine g_iinc (i := 4) (k := 6) (lo' := [(4, _), (3, _), (6, _), (5, _), (0, _), (1, _), (2, _)]) hC d_M_stable_121 rfl (nI_inc _) (by decide) rfl ?_
            refine g_goto (tgt := 24) hC d_M_stable_124 (by decide) ?_
            refine g_los [4, 5, 6, 1, 0] rfl ?_
            have hkn : s_kn σ s t j = σ 8 (3 * s + t) := by
              unfold s_kn
              rw [if_pos h52]
            exact ih (j + 1, (σ 8 (3 * s + t))) ⟨by omega, by simp only [s_st]; rw [hkn, ← hI.2.1]; first | rw [if_pos (by omega)] | rw [if_neg (by omega)], by first | omega | exact r_lt1 hb _ _ | (have := hv8; omega) | (have := r_lt1 hb 5 (3 * (6 * j + σ 8 (3 * s + j) - 1) + t); omega)⟩ (by first | omega | (dsimp only; omega))
    · have g13 := pb_0 h13
      refine g_iconst (v := -1) hC d_M_stable_16 (by decide) ?_
      refine g_iret hC hr hlk d_M_stable_17 (by decide) (by decide) (fun ad w hw => ?_)
      exact ⟨by unfold q_st; rw [hxs, ix_no g13], hw⟩
end
section
/-! The class's world: 0 the object, 1 its history, 2 the row of operations, 3 the row of known places, 4 the row of copies; copy s: 10 + 4s, its rows behind it; operation o: 100 + o. What they hold is ρ: kind 10s: rowLength, vector, arrivedCount, executedOfOthers; 10s + 1: row (2c + 1: c visible, 2c: invisible); 10s + 2: arrived; 10s + 3: places + 1; 40: in the row of operations; 41: made at all; 50: known places + 1; 60 + o: character, position, context, site, number. -/
def sI (n : Nat) : Int32 := if n % 2 = 1 then nI (n / 2) else -nI (n / 2)
def evv (v : Nat → Nat) : Nat := v 0 + 8 * v 1 + 64 * v 2
def p8 (S : Nat) : Nat := if S = 2 then 64 else 512
def cw_cp (ad : Nat → Nat) (ρ : rS) (s : Nat) : List Value := [.int (nI s), .ref (ad (11 + 4 * s)), .int (nI (ρ (10 * s) 0)), .int (nI (ρ (10 * s) 1)), .ref (ad (12 + 4 * s)), .int (nI (ρ (10 * s) 2)), .int (nI (ρ (10 * s) 3)), .ref (ad (13 + 4 * s))]
def cw_op (ρ : rS) (o : Nat) : List Value := [.int (nI (ρ (60 + o) 3)), .int (nI (ρ (60 + o) 4)), .int (nI (ρ (60 + o) 0)), .int (nI (ρ (60 + o) 1)), .int (nI (ρ (60 + o) 2))]
def cw_md (ad : Nat → Nat) (ρ : rS) (o : Nat) : Option Nat := if ρ 40 o = 0 then none else some (ad (100 + o))
def cw_row (ρ : rS) (s : Nat) : gE := .inl (.int, 18, .inl (fun j => sI (ρ (10 * s + 1) j)))
def cw_arr (ρ : rS) (s : Nat) : gE := .inl (.boolean, 18, .inl (fun j => nI (ρ (10 * s + 2) j)))
def cw_plc (ρ : rS) (s : Nat) : gE := .inl (.int, 18, .inl (fun j => nI (ρ (10 * s + 3) j) - 1))
def cw_kn (ρ : rS) (S : Nat) : gE := .inl (.int, S * p8 S, .inl (fun j => nI (ρ 50 j) - 1))
def cw_made (ad : Nat → Nat) (ρ : rS) (S : Nat) : gE := .inl (.object "TombstoneSites$Operation", 6 * S, .inr (.inr (.inr (.inr (cw_md ad ρ)))))
def cw_cps (ad : Nat → Nat) (S : Nat) : gE := .inl (.object "TombstoneSites$Copy", S, .inr (.inr (.inr (.inr (fun s => some (ad (10 + 4 * s)))))))
def c_bl (ρ : rS) : Prop := ∀ k j, ρ k j < 1000 ∧ ((k = 2 ∨ k = 12 ∨ k = 22) → ρ k j < 2)
theorem c_lt {ρ : rS} (h : c_bl ρ) (k j : Nat) : ρ k j < 2 ^ 31 := Nat.lt_of_lt_of_le (h k j).1 (by decide)
theorem c_lt1 {ρ : rS} (h : c_bl ρ) (k j : Nat) : ρ k j < 1000 := (h k j).1
/-- cell number q of the class's world, as ρ has it -/
def cw_at (S : Nat) (ρ : rS) (ad : Nat → Nat) (w : gW) : Prop :=
  w 0 = some (.inr (3, [.int (nI S), .ref (ad 1), .ref (ad 4)])) ∧ w 1 = some (.inr (1, [.int (nI S), .ref (ad 2), .ref (ad 3)])) ∧ w 2 = some (cw_made ad ρ S) ∧ w 3 = some (cw_kn ρ S) ∧ w 4 = some (cw_cps ad S) ∧
  (∀ s, s < S → w (10 + 4 * s) = some (.inr (0, cw_cp ad ρ s)) ∧ w (11 + 4 * s) = some (cw_row ρ s) ∧ w (12 + 4 * s) = some (cw_arr ρ s) ∧ w (13 + 4 * s) = some (cw_plc ρ s)) ∧
  ∀ o, o < 18 → (ρ 41 o ≠ 0 → w (100 + o) = some (.inr (2, cw_op ρ o))) ∧ (ρ 41 o = 0 → w (100 + o) = none)
def CW (S : Nat) (ρ : rS) (ad0 : Nat → Nat) (w0 : gW) : (Nat → Nat) → gW → Prop := fun ad w =>
  ad = ad0 ∧ (∀ q, 200 ≤ q → w q = w0 q) ∧ cw_at S ρ ad0 w ∧ c_bl ρ ∧ (S = 2 ∨ S = 3)
theorem cw_bl {S : Nat} {ρ : rS} {ad0 : Nat → Nat} {w0 : gW} : ∀ ad w, CW S ρ ad0 w0 ad w → c_bl ρ ∧ (S = 2 ∨ S = 3) := fun ad w h => h.2.2.2
theorem cw_ts {S : Nat} {ρ : rS} {ad0 : Nat → Nat} {w0 : gW} : ∀ ad w, CW S ρ ad0 w0 ad w → ad 0 = ad0 0 ∧ w 0 = some (.inr (3, [.int (nI S), .ref (ad0 1), .ref (ad0 4)])) := fun ad w h => ⟨by rw [h.1], h.2.2.1.1⟩
theorem cw_hi {S : Nat} {ρ : rS} {ad0 : Nat → Nat} {w0 : gW} : ∀ ad w, CW S ρ ad0 w0 ad w → ad 1 = ad0 1 ∧ w 1 = some (.inr (1, [.int (nI S), .ref (ad0 2), .ref (ad0 3)])) := fun ad w h => ⟨by rw [h.1], h.2.2.1.2.1⟩
theorem cw_co {S : Nat} {ρ : rS} {ad0 : Nat → Nat} {w0 : gW} {s : Nat} (hs : s < S) : ∀ ad w, CW S ρ ad0 w0 ad w → ad (10 + 4 * s) = ad0 (10 + 4 * s) ∧ w (10 + 4 * s) = some (.inr (0, cw_cp ad0 ρ s)) := fun ad w h => ⟨by rw [h.1], (h.2.2.1.2.2.2.2.2.1 s hs).1⟩
theorem cw_o {S : Nat} {ρ : rS} {ad0 : Nat → Nat} {w0 : gW} {o : Nat} (ho : o < 18) (h4 : ρ 41 o ≠ 0) : ∀ ad w, CW S ρ ad0 w0 ad w → ad (100 + o) = ad0 (100 + o) ∧ w (100 + o) = some (.inr (2, cw_op ρ o)) := fun ad w h => ⟨by rw [h.1], (h.2.2.1.2.2.2.2.2.2 o ho).1 h4⟩
/-- one cell changes, and ρ at one place -/
theorem cw_up {S : Nat} {ρ : rS} {ad0 : Nat → Nat} {w0 : gW} {q k j x : Nat} {e : gE} (hx : x < 1000 ∧ ((k = 2 ∨ k = 12 ∨ k = 22) → x < 2)) (hq : q < 200) (h41 : k ≠ 41)
    (h0 : q ≠ 0) (h1 : q ≠ 1) (h2 : cw_made ad0 (u2 ρ k j x) S = if q = 2 then e else cw_made ad0 ρ S) (h3 : cw_kn (u2 ρ k j x) S = if q = 3 then e else cw_kn ρ S) (h4 : q ≠ 4)
    (h5 : ∀ s, s < S → (.inr (0, cw_cp ad0 (u2 ρ k j x) s) : gE) = (if q = 10 + 4 * s then e else .inr (0, cw_cp ad0 ρ s)) ∧ cw_row (u2 ρ k j x) s = (if q = 11 + 4 * s then e else cw_row ρ s) ∧ cw_arr (u2 ρ k j x) s = (if q = 12 + 4 * s then e else cw_arr ρ s) ∧ cw_plc (u2 ρ k j x) s = (if q = 13 + 4 * s then e else cw_plc ρ s))
    (h6 : ∀ o, o < 18 → ((.inr (2, cw_op (u2 ρ k j x) o) : gE) = if q = 100 + o then e else .inr (2, cw_op ρ o)) ∧ (q = 100 + o → ρ 41 o ≠ 0)) :
    ∀ ad w, CW S ρ ad0 w0 ad w → CW S (u2 ρ k j x) ad0 w0 ad (va_up w q (some e)) := by
  intro ad w h
  obtain ⟨a, b, ⟨c0, c1, c2, c3, c4, c5, c6⟩, d, f⟩ := h
  have key : ∀ (q' : Nat) (e' e2 : gE), w q' = some e' → e2 = (if q = q' then e else e') → va_up w q (some e) q' = some e2 := by
    intro q' e' e2 h he
    by_cases z : q = q'
    · subst z
      rw [va_up_self, he, if_pos rfl]
    · rw [va_up_ne _ _ (fun y => z y.symm), h, he, if_neg z]
  refine ⟨a, fun q' hq' => ?_, ⟨?_, ?_, key 2 _ _ c2 h2, key 3 _ _ c3 h3, ?_, fun s hs => ?_, fun o ho => ?_⟩, fun k' j' => ?_, f⟩
  · rw [va_up_ne _ _ (by omega)]
    exact b q' hq'
  · rw [va_up_ne _ _ (fun y => h0 y.symm)]
    exact c0
  · rw [va_up_ne _ _ (fun y => h1 y.symm)]
    exact c1
  · rw [va_up_ne _ _ (fun y => h4 y.symm)]
    exact c4
  · obtain ⟨g1, g2, g3, g4⟩ := c5 s hs
    obtain ⟨e1, e2, e3, e4⟩ := h5 s hs
    exact ⟨key _ _ _ g1 e1, key _ _ _ g2 e2, key _ _ _ g3 e3, key _ _ _ g4 e4⟩
  · obtain ⟨g1, g2⟩ := c6 o ho
    obtain ⟨e1, e2⟩ := h6 o ho
    rw [u2_ne (fun y => h41 y.symm)]
    refine ⟨fun z => key _ _ _ (g1 z) e1, fun z => ?_⟩
    rw [va_up_ne _ _ (fun y => e2 y.symm z)]
    exact g2 z
  · unfold u2
    split
    · rename_i z
      rw [z.1]
      exact hx
    · exact d k' j'
theorem cwf_made {ad : Nat → Nat} {ρ : rS} {S k j x : Nat} (h : k ≠ 40) : cw_made ad (u2 ρ k j x) S = cw_made ad ρ S := by
  unfold cw_made
  congr 7
  funext o
  unfold cw_md
  rw [u2_ne (fun y => h y.symm)]
theorem cwf_kn {ρ : rS} {S k j x : Nat} (h : k ≠ 50) : cw_kn (u2 ρ k j x) S = cw_kn ρ S := by
  unfold cw_kn
  rw [u2_ne (fun y => h y.symm)]
theorem cwf_cp {ad : Nat → Nat} {ρ : rS} {s k j x : Nat} (h : k ≠ 10 * s) : cw_cp ad (u2 ρ k j x) s = cw_cp ad ρ s := by
  unfold cw_cp
  rw [u2_ne (fun y => h y.symm)]
theorem cwf_row {ρ : rS} {s k j x : Nat} (h : k ≠ 10 * s + 1) : cw_row (u2 ρ k j x) s = cw_row ρ s := by
  unfold cw_row
  rw [u2_ne (fun y => h y.symm)]
theorem cwf_arr {ρ : rS} {s k j x : Nat} (h : k ≠ 10 * s + 2) : cw_arr (u2 ρ k j x) s = cw_arr ρ s := by
  unfold cw_arr
  rw [u2_ne (fun y => h y.symm)]
theorem cwf_plc {ρ : rS} {s k j x : Nat} (h : k ≠ 10 * s + 3) : cw_plc (u2 ρ k j x) s = cw_plc ρ s := by
  unfold cw_plc
  rw [u2_ne (fun y => h y.symm)]
theorem cwf_op {ρ : rS} {o k j x : Nat} (h : k ≠ 60 + o) : cw_op (u2 ρ k j x) o = cw_op ρ o := by
  unfold cw_op
  rw [u2_ne (fun y => h y.symm)]
theorem cwe_i {f : Nat → Nat} {g : Nat → Int32} {j x : Nat} (en : Nat → Int32) (hg : g = fun i => en (f i)) : va_up g j (en x) = fun i => en (va_up f j x i) := by
  subst hg
  funext i
  unfold va_up
  split <;> rfl
theorem u2_fun {ρ : rS} {k j x : Nat} : u2 ρ k j x k = va_up (ρ k) j x := by
  funext i
  rw [u2_in]
  rfl
/-- a row of copy s, or a field of it, or the known places: which cell changes -/
theorem cw_uprow {S : Nat} {ρ : rS} {ad0 : Nat → Nat} {w0 : gW} {s j x : Nat} (hS : S ≤ 3) (hs : s < S) (hx : x < 1000) : ∀ ad w, CW S ρ ad0 w0 ad w → CW S (u2 ρ (10 * s + 1) j x) ad0 w0 ad (va_up w (11 + 4 * s) (some (.inl (.int, 18, .inl (va_up (fun j => sI (ρ (10 * s + 1) j)) j (sI x)))))) := by
  refine cw_up ⟨hx, fun z => by omega⟩ (by omega) (by omega) (by omega) (by omega) ?_ ?_ (by omega) (fun s' hs' => ⟨?_, ?_, ?_, ?_⟩) (fun o ho => ⟨?_, fun z => by omega⟩)
  · rw [if_neg (by omega), cwf_made (by omega)]
  · rw [if_neg (by omega), cwf_kn (by omega)]
  · rw [if_neg (by omega), cwf_cp (by omega)]
  · by_cases e : s' = s
    · subst e
      rw [if_pos rfl]
      unfold cw_row
      rw [u2_fun, cwe_i sI rfl]
    · rw [if_neg (by omega), cwf_row (by omega)]
  · rw [if_neg (by omega), cwf_arr (by omega)]
  · rw [if_neg (by omega), cwf_plc (by omega)]
  · rw [if_neg (by omega), cwf_op (by omega)]
theorem cw_upplc {S : Nat} {ρ : rS} {ad0 : Nat → Nat} {w0 : gW} {s j x : Nat} (hS : S ≤ 3) (hs : s < S) (hx : x < 1000) : ∀ ad w, CW S ρ ad0 w0 ad w → CW S (u2 ρ (10 * s + 3) j x) ad0 w0 ad (va_up w (13 + 4 * s) (some (.inl (.int, 18, .inl (va_up (fun j => nI (ρ (10 * s + 3) j) - 1) j (nI x - 1)))))) := by
  refine cw_up ⟨hx, fun z => by omega⟩ (by omega) (by omega) (by omega) (by omega) ?_ ?_ (by omega) (fun s' hs' => ⟨?_, ?_, ?_, ?_⟩) (fun o ho => ⟨?_, fun z => by omega⟩)
  · rw [if_neg (by omega), cwf_made (by omega)]
  · rw [if_neg (by omega), cwf_kn (by omega)]
  · rw [if_neg (by omega), cwf_cp (by omega)]
  · rw [if_neg (by omega), cwf_row (by omega)]
  · rw [if_neg (by omega), cwf_arr (by omega)]
  · by_cases e : s' = s
    · subst e
      rw [if_pos rfl]
      unfold cw_plc
      rw [u2_fun, cwe_i (fun n => nI n - 1) rfl]
    · rw [if_neg (by omega), cwf_plc (by omega)]
  · rw [if_neg (by omega), cwf_op (by omega)]
theorem cw_uparr {S : Nat} {ρ : rS} {ad0 : Nat → Nat} {w0 : gW} {s j x : Nat} (hS : S ≤ 3) (hs : s < S) (hx : x < 2) : ∀ ad w, CW S ρ ad0 w0 ad w → CW S (u2 ρ (10 * s + 2) j x) ad0 w0 ad (va_up w (12 + 4 * s) (some (.inl (.boolean, 18, .inl (va_up (fun j => nI (ρ (10 * s + 2) j)) j (nI x)))))) := by
  refine cw_up ⟨by omega, fun z => hx⟩ (by omega) (by omega) (by omega) (by omega) ?_ ?_ (by omega) (fun s' hs' => ⟨?_, ?_, ?_, ?_⟩) (fun o ho => ⟨?_, fun z => by omega⟩)
  · rw [if_neg (by omega), cwf_made (by omega)]
  · rw [if_neg (by omega), cwf_kn (by omega)]
  · rw [if_neg (by omega), cwf_cp (by omega)]
  · rw [if_neg (by omega), cwf_row (by omega)]
  · by_cases e : s' = s
    · subst e
      rw [if_pos rfl]
      unfold cw_arr
      rw [u2_fun, cwe_i nI rfl]
    · rw [if_neg (by omega), cwf_arr (by omega)]
  · rw [if_neg (by omega), cwf_plc (by omega)]
  · rw [if_neg (by omega), cwf_op (by omega)]
theorem cw_upkn {S : Nat} {ρ : rS} {ad0 : Nat → Nat} {w0 : gW} {j x : Nat} (hS : S ≤ 3) (hx : x < 1000) : ∀ ad w, CW S ρ ad0 w0 ad w → CW S (u2 ρ 50 j x) ad0 w0 ad (va_up w 3 (some (.inl (.int, S * p8 S, .inl (va_up (fun j => nI (ρ 50 j) - 1) j (nI x - 1)))))) := by
  refine cw_up ⟨hx, fun z => by omega⟩ (by omega) (by omega) (by omega) (by omega) ?_ ?_ (by omega) (fun s' hs' => ⟨?_, ?_, ?_, ?_⟩) (fun o ho => ⟨?_, fun z => by omega⟩)
  · rw [if_neg (by omega), cwf_made (by omega)]
  · rw [if_pos rfl]
    unfold cw_kn
    rw [u2_fun, cwe_i (fun n => nI n - 1) rfl]
  · rw [if_neg (by omega), cwf_cp (by omega)]
  · rw [if_neg (by omega), cwf_row (by omega)]
  · rw [if_neg (by omega), cwf_arr (by omega)]
  · rw [if_neg (by omega), cwf_plc (by omega)]
  · rw [if_neg (by omega), cwf_op (by omega)]
theorem cw_upmade {S : Nat} {ρ : rS} {ad0 : Nat → Nat} {w0 : gW} {j : Nat} (hS : S ≤ 3) : ∀ ad w, CW S ρ ad0 w0 ad w → CW S (u2 ρ 40 j 1) ad0 w0 ad (va_up w 2 (some (.inl (.object "TombstoneSites$Operation", 6 * S, .inr (.inr (.inr (.inr (va_up (cw_md ad0 ρ) j (some (ad0 (100 + j))))))))))) := by
  refine cw_up ⟨by omega, fun z => by omega⟩ (by omega) (by omega) (by omega) (by omega) ?_ ?_ (by omega) (fun s' hs' => ⟨?_, ?_, ?_, ?_⟩) (fun o ho => ⟨?_, fun z => by omega⟩)
  · rw [if_pos rfl]
    unfold cw_made
    congr 7
    funext i
    unfold cw_md va_up
    rw [u2_in]
    by_cases e : i = j
    · rw [if_pos e, if_pos e, if_neg (by decide), e]
    · rw [if_neg e, if_neg e]
  · rw [if_neg (by omega), cwf_kn (by omega)]
  · rw [if_neg (by omega), cwf_cp (by omega)]
  · rw [if_neg (by omega), cwf_row (by omega)]
  · rw [if_neg (by omega), cwf_arr (by omega)]
  · rw [if_neg (by omega), cwf_plc (by omega)]
  · rw [if_neg (by omega), cwf_op (by omega)]

theorem cw_upf0 {S : Nat} {ρ : rS} {ad0 : Nat → Nat} {w0 : gW} {s x : Nat} (hS : S ≤ 3) (hs : s < S) (hx : x < 1000) : ∀ ad w, CW S ρ ad0 w0 ad w → CW S (u2 ρ (10 * s) 0 x) ad0 w0 ad (va_up w (10 + 4 * s) (some (.inr (0, (cw_cp ad0 ρ s).set 2 (.int (nI x)))))) := by
  refine cw_up ⟨hx, fun z => by omega⟩ (by omega) (by omega) (by omega) (by omega) ?_ ?_ (by omega) (fun s' hs' => ⟨?_, ?_, ?_, ?_⟩) (fun o ho => ⟨?_, fun z => by omega⟩)
  · rw [if_neg (by omega), cwf_made (by omega)]
  · rw [if_neg (by omega), cwf_kn (by omega)]
  · by_cases e : s' = s
    · subst e
      rw [if_pos rfl]
      unfold cw_cp
      rw [u2_in, u2_in, u2_in, u2_in]
      rfl
    · rw [if_neg (by omega), cwf_cp (by omega)]
  · rw [if_neg (by omega), cwf_row (by omega)]
  · rw [if_neg (by omega), cwf_arr (by omega)]
  · rw [if_neg (by omega), cwf_plc (by omega)]
  · rw [if_neg (by omega), cwf_op (by omega)]
theorem cw_upf1 {S : Nat} {ρ : rS} {ad0 : Nat → Nat} {w0 : gW} {s x : Nat} (hS : S ≤ 3) (hs : s < S) (hx : x < 1000) : ∀ ad w, CW S ρ ad0 w0 ad w → CW S (u2 ρ (10 * s) 1 x) ad0 w0 ad (va_up w (10 + 4 * s) (some (.inr (0, (cw_cp ad0 ρ s).set 3 (.int (nI x)))))) := by
  refine cw_up ⟨hx, fun z => by omega⟩ (by omega) (by omega) (by omega) (by omega) ?_ ?_ (by omega) (fun s' hs' => ⟨?_, ?_, ?_, ?_⟩) (fun o ho => ⟨?_, fun z => by omega⟩)
  · rw [if_neg (by omega), cwf_made (by omega)]
  · rw [if_neg (by omega), cwf_kn (by omega)]
  · by_cases e : s' = s
    · subst e
      rw [if_pos rfl]
      unfold cw_cp
      rw [u2_in, u2_in, u2_in, u2_in]
      rfl
    · rw [if_neg (by omega), cwf_cp (by omega)]
  · rw [if_neg (by omega), cwf_row (by omega)]
  · rw [if_neg (by omega), cwf_arr (by omega)]
  · rw [if_neg (by omega), cwf_plc (by omega)]
  · rw [if_neg (by omega), cwf_op (by omega)]
theorem cw_upf2 {S : Nat} {ρ : rS} {ad0 : Nat → Nat} {w0 : gW} {s x : Nat} (hS : S ≤ 3) (hs : s < S) (hx : x < 1000) : ∀ ad w, CW S ρ ad0 w0 ad w → CW S (u2 ρ (10 * s) 2 x) ad0 w0 ad (va_up w (10 + 4 * s) (some (.inr (0, (cw_cp ad0 ρ s).set 5 (.int (nI x)))))) := by
  refine cw_up ⟨hx, fun z => by omega⟩ (by omega) (by omega) (by omega) (by omega) ?_ ?_ (by omega) (fun s' hs' => ⟨?_, ?_, ?_, ?_⟩) (fun o ho => ⟨?_, fun z => by omega⟩)
  · rw [if_neg (by omega), cwf_made (by omega)]
  · rw [if_neg (by omega), cwf_kn (by omega)]
  · by_cases e : s' = s
    · subst e
      rw [if_pos rfl]
      unfold cw_cp
      rw [u2_in, u2_in, u2_in, u2_in]
      rfl
    · rw [if_neg (by omega), cwf_cp (by omega)]
  · rw [if_neg (by omega), cwf_row (by omega)]
  · rw [if_neg (by omega), cwf_arr (by omega)]
  · rw [if_neg (by omega), cwf_plc (by omega)]
  · rw [if_neg (by omega), cwf_op (by omega)]
theorem cw_upf3 {S : Nat} {ρ : rS} {ad0 : Nat → Nat} {w0 : gW} {s x : Nat} (hS : S ≤ 3) (hs : s < S) (hx : x < 1000) : ∀ ad w, CW S ρ ad0 w0 ad w → CW S (u2 ρ (10 * s) 3 x) ad0 w0 ad (va_up w (10 + 4 * s) (some (.inr (0, (cw_cp ad0 ρ s).set 6 (.int (nI x)))))) := by
  refine cw_up ⟨hx, fun z => by omega⟩ (by omega) (by omega) (by omega) (by omega) ?_ ?_ (by omega) (fun s' hs' => ⟨?_, ?_, ?_, ?_⟩) (fun o ho => ⟨?_, fun z => by omega⟩)
  · rw [if_neg (by omega), cwf_made (by omega)]
  · rw [if_neg (by omega), cwf_kn (by omega)]
  · by_cases e : s' = s
    · subst e
      rw [if_pos rfl]
      unfold cw_cp
      rw [u2_in, u2_in, u2_in, u2_in]
      rfl
    · rw [if_neg (by omega), cwf_cp (by omega)]
  · rw [if_neg (by omega), cwf_row (by omega)]
  · rw [if_neg (by omega), cwf_arr (by omega)]
  · rw [if_neg (by omega), cwf_plc (by omega)]
  · rw [if_neg (by omega), cwf_op (by omega)]
theorem cw_upo0 {S : Nat} {ρ : rS} {ad0 : Nat → Nat} {w0 : gW} {o x : Nat} (hS : S ≤ 3) (ho : o < 18) (h4 : ρ 41 o ≠ 0) (hx : x < 1000) : ∀ ad w, CW S ρ ad0 w0 ad w → CW S (u2 ρ (60 + o) 0 x) ad0 w0 ad (va_up w (100 + o) (some (.inr (2, (cw_op ρ o).set 2 (.int (nI x)))))) := by
  refine cw_up ⟨hx, fun z => by omega⟩ (by omega) (by omega) (by omega) (by omega) ?_ ?_ (by omega) (fun s' hs' => ⟨?_, ?_, ?_, ?_⟩) (fun o' ho' => ⟨?_, fun z => by rw [show o' = o by omega]; exact h4⟩)
  · rw [if_neg (by omega), cwf_made (by omega)]
  · rw [if_neg (by omega), cwf_kn (by omega)]
  · rw [if_neg (by omega), cwf_cp (by omega)]
  · rw [if_neg (by omega), cwf_row (by omega)]
  · rw [if_neg (by omega), cwf_arr (by omega)]
  · rw [if_neg (by omega), cwf_plc (by omega)]
  · by_cases e : o' = o
    · subst e
      rw [if_pos rfl]
      unfold cw_op
      rw [u2_in, u2_in, u2_in, u2_in, u2_in]
      rfl
    · rw [if_neg (by omega), cwf_op (by omega)]
theorem cw_upo1 {S : Nat} {ρ : rS} {ad0 : Nat → Nat} {w0 : gW} {o x : Nat} (hS : S ≤ 3) (ho : o < 18) (h4 : ρ 41 o ≠ 0) (hx : x < 1000) : ∀ ad w, CW S ρ ad0 w0 ad w → CW S (u2 ρ (60 + o) 1 x) ad0 w0 ad (va_up w (100 + o) (some (.inr (2, (cw_op ρ o).set 3 (.int (nI x)))))) := by
  refine cw_up ⟨hx, fun z => by omega⟩ (by omega) (by omega) (by omega) (by omega) ?_ ?_ (by omega) (fun s' hs' => ⟨?_, ?_, ?_, ?_⟩) (fun o' ho' => ⟨?_, fun z => by rw [show o' = o by omega]; exact h4⟩)
  · rw [if_neg (by omega), cwf_made (by omega)]
  · rw [if_neg (by omega), cwf_kn (by omega)]
  · rw [if_neg (by omega), cwf_cp (by omega)]
  · rw [if_neg (by omega), cwf_row (by omega)]
  · rw [if_neg (by omega), cwf_arr (by omega)]
  · rw [if_neg (by omega), cwf_plc (by omega)]
  · by_cases e : o' = o
    · subst e
      rw [if_pos rfl]
      unfold cw_op
      rw [u2_in, u2_in, u2_in, u2_in, u2_in]
      rfl
    · rw [if_neg (by omega), cwf_op (by omega)]
theorem cw_upo2 {S : Nat} {ρ : rS} {ad0 : Nat → Nat} {w0 : gW} {o x : Nat} (hS : S ≤ 3) (ho : o < 18) (h4 : ρ 41 o ≠ 0) (hx : x < 1000) : ∀ ad w, CW S ρ ad0 w0 ad w → CW S (u2 ρ (60 + o) 2 x) ad0 w0 ad (va_up w (100 + o) (some (.inr (2, (cw_op ρ o).set 4 (.int (nI x)))))) := by
  refine cw_up ⟨hx, fun z => by omega⟩ (by omega) (by omega) (by omega) (by omega) ?_ ?_ (by omega) (fun s' hs' => ⟨?_, ?_, ?_, ?_⟩) (fun o' ho' => ⟨?_, fun z => by rw [show o' = o by omega]; exact h4⟩)
  · rw [if_neg (by omega), cwf_made (by omega)]
  · rw [if_neg (by omega), cwf_kn (by omega)]
  · rw [if_neg (by omega), cwf_cp (by omega)]
  · rw [if_neg (by omega), cwf_row (by omega)]
  · rw [if_neg (by omega), cwf_arr (by omega)]
  · rw [if_neg (by omega), cwf_plc (by omega)]
  · by_cases e : o' = o
    · subst e
      rw [if_pos rfl]
      unfold cw_op
      rw [u2_in, u2_in, u2_in, u2_in, u2_in]
      rfl
    · rw [if_neg (by omega), cwf_op (by omega)]
theorem cw_upo3 {S : Nat} {ρ : rS} {ad0 : Nat → Nat} {w0 : gW} {o x : Nat} (hS : S ≤ 3) (ho : o < 18) (h4 : ρ 41 o ≠ 0) (hx : x < 1000) : ∀ ad w, CW S ρ ad0 w0 ad w → CW S (u2 ρ (60 + o) 3 x) ad0 w0 ad (va_up w (100 + o) (some (.inr (2, (cw_op ρ o).set 0 (.int (nI x)))))) := by
  refine cw_up ⟨hx, fun z => by omega⟩ (by omega) (by omega) (by omega) (by omega) ?_ ?_ (by omega) (fun s' hs' => ⟨?_, ?_, ?_, ?_⟩) (fun o' ho' => ⟨?_, fun z => by rw [show o' = o by omega]; exact h4⟩)
  · rw [if_neg (by omega), cwf_made (by omega)]
  · rw [if_neg (by omega), cwf_kn (by omega)]
  · rw [if_neg (by omega), cwf_cp (by omega)]
  · rw [if_neg (by omega), cwf_row (by omega)]
  · rw [if_neg (by omega), cwf_arr (by omega)]
  · rw [if_neg (by omega), cwf_plc (by omega)]
  · by_cases e : o' = o
    · subst e
      rw [if_pos rfl]
      unfold cw_op
      rw [u2_in, u2_in, u2_in, u2_in, u2_in]
      rfl
    · rw [if_neg (by omega), cwf_op (by omega)]
theorem cw_upo4 {S : Nat} {ρ : rS} {ad0 : Nat → Nat} {w0 : gW} {o x : Nat} (hS : S ≤ 3) (ho : o < 18) (h4 : ρ 41 o ≠ 0) (hx : x < 1000) : ∀ ad w, CW S ρ ad0 w0 ad w → CW S (u2 ρ (60 + o) 4 x) ad0 w0 ad (va_up w (100 + o) (some (.inr (2, (cw_op ρ o).set 1 (.int (nI x)))))) := by
  refine cw_up ⟨hx, fun z => by omega⟩ (by omega) (by omega) (by omega) (by omega) ?_ ?_ (by omega) (fun s' hs' => ⟨?_, ?_, ?_, ?_⟩) (fun o' ho' => ⟨?_, fun z => by rw [show o' = o by omega]; exact h4⟩)
  · rw [if_neg (by omega), cwf_made (by omega)]
  · rw [if_neg (by omega), cwf_kn (by omega)]
  · rw [if_neg (by omega), cwf_cp (by omega)]
  · rw [if_neg (by omega), cwf_row (by omega)]
  · rw [if_neg (by omega), cwf_arr (by omega)]
  · rw [if_neg (by omega), cwf_plc (by omega)]
  · by_cases e : o' = o
    · subst e
      rw [if_pos rfl]
      unfold cw_op
      rw [u2_in, u2_in, u2_in, u2_in, u2_in]
      rfl
    · rw [if_neg (by omega), cwf_op (by omega)]
section CWR
variable {p : Program} {l : Launch} {e : Env} {R : Room} {s : State} {m : MethodId} {args : Array Value} {below : List Frame} {meth : Method} {c : Code} {D : va_G} {cl : List vw_C} {N : State → Prop} {A : Nat → Prop} {nL : Nat} {Q : State → Prop} {cells slots : Nat} {pc : Nat} {lo : List (Nat × Value)} {st : List Value} {cc : ByteArray} {own : String} {Ts : List Cond} {S : Nat} {ρ : rS} {ad0 : Nat → Nat} {w0 : gW}
theorem cl_row {si j : Nat} (hC : g_C p s m args c D cl N A nL cc own Ts) (hs : si < S) (hj : j < 18) (hd : decode cc pc = .ok (.iaload, 1)) (kk : G p l e R s m args below meth c D cl A nL Q cells slots (CW S ρ ad0 w0) (pc + 1) lo (.int (sI (ρ (10 * si + 1) j)) :: st)) : G p l e R s m args below meth c D cl A nL Q cells slots (CW S ρ ad0 w0) (pc) lo (.int (nI j) :: .ref (ad0 (11 + 4 * si)) :: st) := g_ald (f := fun j => sI (ρ (10 * si + 1) j)) hC (11 + 4 * si) (fun ad w h => ⟨by rw [h.1], (h.2.2.1.2.2.2.2.2.1 si hs).2.1⟩) hj (by decide) hd kk
theorem cl_plc {si j : Nat} (hC : g_C p s m args c D cl N A nL cc own Ts) (hs : si < S) (hj : j < 18) (hd : decode cc pc = .ok (.iaload, 1)) (kk : G p l e R s m args below meth c D cl A nL Q cells slots (CW S ρ ad0 w0) (pc + 1) lo (.int (nI (ρ (10 * si + 3) j) - 1) :: st)) : G p l e R s m args below meth c D cl A nL Q cells slots (CW S ρ ad0 w0) (pc) lo (.int (nI j) :: .ref (ad0 (13 + 4 * si)) :: st) := g_ald (f := fun j => nI (ρ (10 * si + 3) j) - 1) hC (13 + 4 * si) (fun ad w h => ⟨by rw [h.1], (h.2.2.1.2.2.2.2.2.1 si hs).2.2.2⟩) hj (by decide) hd kk
theorem cl_arr {si j : Nat} (hC : g_C p s m args c D cl N A nL cc own Ts) (hs : si < S) (hj : j < 18) (hd : decode cc pc = .ok (.baload, 1)) (kk : G p l e R s m args below meth c D cl A nL Q cells slots (CW S ρ ad0 w0) (pc + 1) lo (.int (nI (ρ (10 * si + 2) j)) :: st)) : G p l e R s m args below meth c D cl A nL Q cells slots (CW S ρ ad0 w0) (pc) lo (.int (nI j) :: .ref (ad0 (12 + 4 * si)) :: st) := g_zld (f := fun j => nI (ρ (10 * si + 2) j)) hC (12 + 4 * si) (fun ad w h => ⟨by rw [h.1], (h.2.2.1.2.2.2.2.2.1 si hs).2.2.1⟩) hj (by decide) hd kk
theorem p8_le {S : Nat} : p8 S ≤ 512 := by
  unfold p8
  split <;> omega
theorem kn_lt {S : Nat} (h : S = 2 ∨ S = 3) : S * p8 S < 2 ^ 31 := by
  rcases h with rfl | rfl <;> decide
theorem cl_kn {j : Nat} (hC : g_C p s m args c D cl N A nL cc own Ts) (hS : S = 2 ∨ S = 3) (hj : j < S * p8 S) (hd : decode cc pc = .ok (.iaload, 1)) (kk : G p l e R s m args below meth c D cl A nL Q cells slots (CW S ρ ad0 w0) (pc + 1) lo (.int (nI (ρ 50 j) - 1) :: st)) : G p l e R s m args below meth c D cl A nL Q cells slots (CW S ρ ad0 w0) (pc) lo (.int (nI j) :: .ref (ad0 3) :: st) := g_ald (f := fun j => nI (ρ 50 j) - 1) hC 3 (fun ad w h => ⟨by rw [h.1], h.2.2.1.2.2.2.1⟩) hj (kn_lt hS) hd kk
theorem cl_made {j : Nat} (hC : g_C p s m args c D cl N A nL cc own Ts) (hS : S ≤ 3) (hj : j < 6 * S) (hd : decode cc pc = .ok (.aaload, 1)) (kk : G p l e R s m args below meth c D cl A nL Q cells slots (CW S ρ ad0 w0) (pc + 1) lo (va_rf (cw_md ad0 ρ j) :: st)) : G p l e R s m args below meth c D cl A nL Q cells slots (CW S ρ ad0 w0) (pc) lo (.int (nI j) :: .ref (ad0 2) :: st) := g_qld (f := cw_md ad0 ρ) hC 2 (fun ad w h => ⟨by rw [h.1], h.2.2.1.2.2.1⟩) hj (by omega) hd kk
theorem cl_cps {j : Nat} (hC : g_C p s m args c D cl N A nL cc own Ts) (hS : S ≤ 3) (hj : j < S) (hd : decode cc pc = .ok (.aaload, 1)) (kk : G p l e R s m args below meth c D cl A nL Q cells slots (CW S ρ ad0 w0) (pc + 1) lo (.ref (ad0 (10 + 4 * j)) :: st)) : G p l e R s m args below meth c D cl A nL Q cells slots (CW S ρ ad0 w0) (pc) lo (.int (nI j) :: .ref (ad0 4) :: st) := g_qld (f := fun s => some (ad0 (10 + 4 * s))) hC 4 (fun ad w h => ⟨by rw [h.1], h.2.2.1.2.2.2.2.1⟩) hj (by omega) hd kk
theorem cs_row {si j x : Nat} {v : Int32} (hC : g_C p s m args c D cl N A nL cc own Ts) (hS : S ≤ 3) (hs : si < S) (hj : j < 18) (hx : x < 1000) (hv : v = sI x) (hd : decode cc pc = .ok (.iastore, 1)) (kk : G p l e R s m args below meth c D cl A nL Q cells slots (CW S (u2 ρ (10 * si + 1) j x) ad0 w0) (pc + 1) lo (st)) : G p l e R s m args below meth c D cl A nL Q cells slots (CW S ρ ad0 w0) (pc) lo (.int v :: .int (nI j) :: .ref (ad0 (11 + 4 * si)) :: st) := by
  subst hv
  exact g_ast (f := fun j => sI (ρ (10 * si + 1) j)) hC (11 + 4 * si) (fun ad w h => ⟨by rw [h.1], (h.2.2.1.2.2.2.2.2.1 si hs).2.1⟩) hj (by decide) (cw_uprow hS hs hx) hd kk
theorem cs_plc {si j x : Nat} {v : Int32} (hC : g_C p s m args c D cl N A nL cc own Ts) (hS : S ≤ 3) (hs : si < S) (hj : j < 18) (hx : x < 1000) (hv : v = nI x - 1) (hd : decode cc pc = .ok (.iastore, 1)) (kk : G p l e R s m args below meth c D cl A nL Q cells slots (CW S (u2 ρ (10 * si + 3) j x) ad0 w0) (pc + 1) lo (st)) : G p l e R s m args below meth c D cl A nL Q cells slots (CW S ρ ad0 w0) (pc) lo (.int v :: .int (nI j) :: .ref (ad0 (13 + 4 * si)) :: st) := by
  subst hv
  exact g_ast (f := fun j => nI (ρ (10 * si + 3) j) - 1) hC (13 + 4 * si) (fun ad w h => ⟨by rw [h.1], (h.2.2.1.2.2.2.2.2.1 si hs).2.2.2⟩) hj (by decide) (cw_upplc hS hs hx) hd kk
theorem cs_arr {si j x : Nat} (hC : g_C p s m args c D cl N A nL cc own Ts) (hS : S ≤ 3) (hs : si < S) (hj : j < 18) (hx : x < 2) (hd : decode cc pc = .ok (.bastore, 1)) (kk : G p l e R s m args below meth c D cl A nL Q cells slots (CW S (u2 ρ (10 * si + 2) j x) ad0 w0) (pc + 1) lo (st)) : G p l e R s m args below meth c D cl A nL Q cells slots (CW S ρ ad0 w0) (pc) lo (.int (nI x) :: .int (nI j) :: .ref (ad0 (12 + 4 * si)) :: st) := g_zst (f := fun j => nI (ρ (10 * si + 2) j)) hC (12 + 4 * si) (fun ad w h => ⟨by rw [h.1], (h.2.2.1.2.2.2.2.2.1 si hs).2.2.1⟩) hj (by decide) (r_nar hx) (cw_uparr hS hs hx) hd kk
theorem cs_kn {j x : Nat} {v : Int32} (hC : g_C p s m args c D cl N A nL cc own Ts) (hS : S = 2 ∨ S = 3) (hj : j < S * p8 S) (hx : x < 1000) (hv : v = nI x - 1) (hd : decode cc pc = .ok (.iastore, 1)) (kk : G p l e R s m args below meth c D cl A nL Q cells slots (CW S (u2 ρ 50 j x) ad0 w0) (pc + 1) lo (st)) : G p l e R s m args below meth c D cl A nL Q cells slots (CW S ρ ad0 w0) (pc) lo (.int v :: .int (nI j) :: .ref (ad0 3) :: st) := by
  subst hv
  exact g_ast (f := fun j => nI (ρ 50 j) - 1) hC 3 (fun ad w h => ⟨by rw [h.1], h.2.2.1.2.2.2.1⟩) hj (kn_lt hS) (cw_upkn (by omega) hx) hd kk
theorem cs_made {j : Nat} (hC : g_C p s m args c D cl N A nL cc own Ts) (hcl : cl[2]? = some (R_O, F_O, 5)) (hS : S ≤ 3) (hj : j < 6 * S) (h4 : ρ 41 j ≠ 0) (hd : decode cc pc = .ok (.aastore, 1)) (kk : G p l e R s m args below meth c D cl A nL Q cells slots (CW S (u2 ρ 40 j 1) ad0 w0) (pc + 1) lo (st)) : G p l e R s m args below meth c D cl A nL Q cells slots (CW S ρ ad0 w0) (pc) lo (.ref (ad0 (100 + j)) :: .int (nI j) :: .ref (ad0 2) :: st) := g_qst (r := (R_O, F_O, 5)) (f := cw_md ad0 ρ) hC 2 (fun ad w h => ⟨by rw [h.1], h.2.2.1.2.2.1⟩) (cw_o (by omega) h4) hcl hj (by omega) (cw_upmade hS) hd kk
end CWR
def rkc (n c t : Nat) : Room := { frames := n, cells := c, slots := t, locals := 64 * n + 20 }
end
section
section NUL
variable {p : Program} {l : Launch} {e : Env} {R : Room} {s : State} {m : MethodId} {args : Array Value} {below : List Frame} {meth : Method} {c : Code} {D : va_G} {cl : List vw_C} {N : State → Prop} {A : Nat → Prop} {nL : Nat} {Q : State → Prop} {cells slots : Nat} {V : (Nat → Nat) → gW → Prop} {pc : Nat} {lo : List (Nat × Value)} {st : List Value} {cc : ByteArray} {own : String} {Ts : List Cond}
theorem g_ifnullR (hC : g_C p s m args c D cl N A nL cc own Ts) {a : Nat} {off : Int} (hd : decode cc pc = .ok (.ifnull off, 3)) (k : G p l e R s m args below meth c D cl A nL Q cells slots V (pc + 3) lo (st)) : G p l e R s m args below meth c D cl A nL Q cells slots V (pc) lo (.ref a :: st) := fun ad w H locs ls hx0 hw hS hl => lv_ifnull hC.1.1 hC.1.2.1 hd (k ad w H locs ls hx0 hw hS hl)
theorem g_ifnonnullR (hC : g_C p s m args c D cl N A nL cc own Ts) {a : Nat} {off : Int} {tgt : Nat} (hd : decode cc pc = .ok (.ifnonnull off, 3)) (ht : (pc : Int) + off = (tgt : Int)) (k : G p l e R s m args below meth c D cl A nL Q cells slots V (tgt) lo (st)) : G p l e R s m args below meth c D cl A nL Q cells slots V (pc) lo (.ref a :: st) := fun ad w H locs ls hx0 hw hS hl => lv_ifnonnull hC.1.1 hC.1.2.1 hd ht (k ad w H locs ls hx0 hw hS hl)
theorem g_ifnullZ (hC : g_C p s m args c D cl N A nL cc own Ts) {off : Int} {tgt : Nat} (hd : decode cc pc = .ok (.ifnull off, 3)) (ht : (pc : Int) + off = (tgt : Int)) (k : G p l e R s m args below meth c D cl A nL Q cells slots V (tgt) lo (st)) : G p l e R s m args below meth c D cl A nL Q cells slots V (pc) lo (.null :: st) := fun ad w H locs ls hx0 hw hS hl => lv_ifnullN hC.1.1 hC.1.2.1 hd ht (k ad w H locs ls hx0 hw hS hl)
theorem g_ifnonnullZ (hC : g_C p s m args c D cl N A nL cc own Ts) {off : Int} (hd : decode cc pc = .ok (.ifnonnull off, 3)) (k : G p l e R s m args below meth c D cl A nL Q cells slots V (pc + 3) lo (st)) : G p l e R s m args below meth c D cl A nL Q cells slots V (pc) lo (.null :: st) := fun ad w H locs ls hx0 hw hS hl => lv_ifnonnullN hC.1.1 hC.1.2.1 hd (k ad w H locs ls hx0 hw hS hl)
end NUL
theorem shr3 {a t : Nat} (ha : a < 2 ^ 31) (ht : t < 3) : nI a >>> (nI (3 * t) &&& 31) = nI (a / 8 ^ t) := by
  rcases (show t = 0 ∨ t = 1 ∨ t = 2 by omega) with rfl | rfl | rfl
  · exact pk_shrN ha _ 0 (by decide +kernel)
  · exact pk_shrN ha _ 3 (by decide +kernel)
  · exact pk_shrN ha _ 6 (by decide +kernel)
theorem and7 {a : Nat} (ha : a < 2 ^ 31) : nI a &&& nI 7 = nI (a % 8) := pk_andN (by omega) 3 (by decide +kernel)
theorem shl3 {t : Nat} (ht : t < 3) : nI 1 <<< (nI (3 * t) &&& 31) = nI (8 ^ t) := by
  rcases (show t = 0 ∨ t = 1 ∨ t = 2 by omega) with rfl | rfl | rfl <;> decide +kernel
theorem evv_dig {v : Nat → Nat} {t : Nat} (h : ∀ t, v t ≤ 6) (ht : t < 3) : evv v / 8 ^ t % 8 = v t := by
  have h0 := h 0
  have h1 := h 1
  have h2 := h 2
  unfold evv
  rcases (show t = 0 ∨ t = 1 ∨ t = 2 by omega) with rfl | rfl | rfl
  · rw [Nat.pow_zero]; omega
  · rw [Nat.pow_one]; omega
  · rw [show (8 : Nat) ^ 2 = 64 from rfl]; omega
theorem evv_lt {v : Nat → Nat} (h : ∀ t, v t ≤ 6) : evv v ≤ 438 := by
  have h0 := h 0
  have h1 := h 1
  have h2 := h 2
  unfold evv
  omega
theorem evv_inj {u v : Nat → Nat} (hu : ∀ t, u t ≤ 6) (hv : ∀ t, v t ≤ 6) (hu3 : ∀ t, 3 ≤ t → u t = 0) (hv3 : ∀ t, 3 ≤ t → v t = 0) (h : evv u = evv v) : u = v := by
  funext t
  by_cases ht : t < 3
  · rw [← evv_dig hu ht, ← evv_dig hv ht, h]
  · rw [hu3 t (by omega), hv3 t (by omega)]
theorem evv_mu {v : Nat → Nat} {t : Nat} (ht : t < 3) : evv (mu v t) = evv v + 8 ^ t := by
  unfold evv
  rcases (show t = 0 ∨ t = 1 ∨ t = 2 by omega) with rfl | rfl | rfl
  · rw [mu_self, mu_ne (by omega), mu_ne (by omega), Nat.pow_zero]; omega
  · rw [mu_self, mu_ne (by omega), mu_ne (by omega), Nat.pow_one]; omega
  · rw [mu_self, mu_ne (by omega), mu_ne (by omega), show (8 : Nat) ^ 2 = 64 from rfl]; omega
theorem evv_md {v : Nat → Nat} {t : Nat} (ht : t < 3) (h0 : 0 < v t) : evv (md v t) + 8 ^ t = evv v := by
  unfold evv
  rcases (show t = 0 ∨ t = 1 ∨ t = 2 by omega) with rfl | rfl | rfl
  · rw [md_self, md_ne (by omega), md_ne (by omega), Nat.pow_zero]; omega
  · rw [md_self, md_ne (by omega), md_ne (by omega), Nat.pow_one]; omega
  · rw [md_self, md_ne (by omega), md_ne (by omega), show (8 : Nat) ^ 2 = 64 from rfl]; omega
set_option maxRecDepth 100000 in
set_option maxHeartbeats 4000000 in
theorem v_count (l : Launch) (D : va_G) (V : (Nat → Nat) → gW → Prop) (v : Nat → Nat) (t : Nat) (hv : ∀ t, v t ≤ 6) (ht : t < 3) : g_M l y_V_count w_V_count (rk 0) D gCl g_N [.int (nI (evv v)), .int (nI t)] (V) 0 0 (fun A => g_Qi D gCl A (fun r ad w => r = nI (v t) ∧ V ad w)) := by
  refine g_of (cc := c_V_count) (nL := 2) (ret := some .int) (by decide) rfl (Nat.le_of_ble_eq_true rfl) ?_
  intro pp ee ss mm bb me cc A hC hr hlk hnm
  refine g_los [0, 1] (lo' := [(0, .int (nI (evv v))), (1, .int (nI t))]) rfl ?_
  refine g_iload_n (i := 0) hC d_V_count_0 rfl rfl ?_
  refine g_iconst (v := nI 3) hC d_V_count_1 (by decide) ?_
  refine g_iload_n (i := 1) hC d_V_count_2 rfl rfl ?_
  refine g_imulN hC d_V_count_3 ?_
  refine g_ishr hC d_V_count_4 ?_
  refine g_eqi (shr3 (by have := evv_lt hv; omega) ht) ?_
  refine g_bipush (v := nI 7) hC d_V_count_5 (by decide) ?_
  refine g_iand hC d_V_count_7 ?_
  refine g_eqi (and7 (by have := evv_lt hv; have := Nat.div_le_self (evv v) (8 ^ t); omega)) ?_
  refine g_iret hC hr hlk d_V_count_8 (by decide) (by decide) (fun ad w hw => ?_)
  exact ⟨by rw [evv_dig hv ht], hw⟩
set_option maxRecDepth 100000 in
set_option maxHeartbeats 4000000 in
theorem v_more (l : Launch) (D : va_G) (V : (Nat → Nat) → gW → Prop) (v : Nat → Nat) (t : Nat) (ht : t < 3) : g_M l y_V_withOneMore w_V_withOneMore (rk 0) D gCl g_N [.int (nI (evv v)), .int (nI t)] (V) 0 0 (fun A => g_Qi D gCl A (fun r ad w => r = nI (evv (mu v t)) ∧ V ad w)) := by
  refine g_of (cc := c_V_withOneMore) (nL := 2) (ret := some .int) (by decide) rfl (Nat.le_of_ble_eq_true rfl) ?_
  intro pp ee ss mm bb me cc A hC hr hlk hnm
  refine g_los [0, 1] (lo' := [(0, .int (nI (evv v))), (1, .int (nI t))]) rfl ?_
  refine g_iload_n (i := 0) hC d_V_withOneMore_0 rfl rfl ?_
  refine g_iconst (v := nI 1) hC d_V_withOneMore_1 (by decide) ?_
  refine g_iconst (v := nI 3) hC d_V_withOneMore_2 (by decide) ?_
  refine g_iload_n (i := 1) hC d_V_withOneMore_3 rfl rfl ?_
  refine g_imulN hC d_V_withOneMore_4 ?_
  refine g_ishl hC d_V_withOneMore_5 ?_
  refine g_eqi (shl3 ht) ?_
  refine g_iaddN hC d_V_withOneMore_6 ?_
  refine g_iret hC hr hlk d_V_withOneMore_7 (by decide) (by decide) (fun ad w hw => ?_)
  exact ⟨by rw [evv_mu ht], hw⟩
set_option maxRecDepth 100000 in
set_option maxHeartbeats 4000000 in
theorem v_less (l : Launch) (D : va_G) (V : (Nat → Nat) → gW → Prop) (v : Nat → Nat) (t : Nat) (ht : t < 3) (h0 : 0 < v t) : g_M l y_V_withOneLess w_V_withOneLess (rk 0) D gCl g_N [.int (nI (evv v)), .int (nI t)] (V) 0 0 (fun A => g_Qi D gCl A (fun r ad w => r = nI (evv (md v t)) ∧ V ad w)) := by
  refine g_of (cc := c_V_withOneLess) (nL := 2) (ret := some .int) (by decide) rfl (Nat.le_of_ble_eq_true rfl) ?_
  intro pp ee ss mm bb me cc A hC hr hlk hnm
  refine g_los [0, 1] (lo' := [(0, .int (nI (evv v))), (1, .int (nI t))]) rfl ?_
  refine g_iload_n (i := 0) hC d_V_withOneLess_0 rfl rfl ?_
  refine g_iconst (v := nI 1) hC d_V_withOneLess_1 (by decide) ?_
  refine g_iconst (v := nI 3) hC d_V_withOneLess_2 (by decide) ?_
  refine g_iload_n (i := 1) hC d_V_withOneLess_3 rfl rfl ?_
  refine g_imulN hC d_V_withOneLess_4 ?_
  refine g_ishl hC d_V_withOneLess_5 ?_
  refine g_eqi (shl3 ht) ?_
  refine g_isubN hC d_V_withOneLess_6 (by have := evv_md ht h0; omega) ?_
  refine g_iret hC hr hlk d_V_withOneLess_7 (by decide) (by decide) (fun ad w hw => ?_)
  exact ⟨by have := evv_md ht h0; rw [← this, Nat.add_sub_cancel], hw⟩
set_option maxRecDepth 100000 in
set_option maxHeartbeats 4000000 in
theorem v_many (l : Launch) (D : va_G) (V : (Nat → Nat) → gW → Prop) (S : Nat) (hS : S = 2 ∨ S = 3) : g_M l y_V_howMany w_V_howMany (rk 0) D gCl g_N [.int (nI S)] (V) 0 0 (fun A => g_Qi D gCl A (fun r ad w => r = nI (p8 S) ∧ V ad w)) := by
  refine g_of (cc := c_V_howMany) (nL := 1) (ret := some .int) (by decide) rfl (Nat.le_of_ble_eq_true rfl) ?_
  intro pp ee ss mm bb me cc A hC hr hlk hnm
  refine g_los [0] (lo' := [(0, .int (nI S))]) rfl ?_
  refine g_iconst (v := nI 1) hC d_V_howMany_0 (by decide) ?_
  refine g_iconst (v := nI 3) hC d_V_howMany_1 (by decide) ?_
  refine g_iload_n (i := 0) hC d_V_howMany_2 rfl rfl ?_
  refine g_imulN hC d_V_howMany_3 ?_
  refine g_ishl hC d_V_howMany_4 ?_
  refine g_eqi (show nI 1 <<< (nI (3 * S) &&& 31) = nI (p8 S) by rcases hS with rfl | rfl <;> decide +kernel) ?_
  refine g_iret hC hr hlk d_V_howMany_5 (by decide) (by decide) (fun ad w hw => ?_)
  exact ⟨rfl, hw⟩
set_option maxRecDepth 100000 in
set_option maxHeartbeats 4000000 in
theorem v_covers (l : Launch) (D : va_G) (V : (Nat → Nat) → gW → Prop) (v c : Nat → Nat) (hv : ∀ t, v t ≤ 6) (hc : ∀ t, c t ≤ 6) : g_M l y_V_covers w_V_covers (rk 1) D gCl g_N [.int (nI (evv v)), .int (nI (evv c))] (V) 0 0 (fun A => g_Qi D gCl A (fun r ad w => r = nI (pb (∀ t, t < 3 → c t ≤ v t)) ∧ V ad w)) := by
  refine g_of (cc := c_V_covers) (nL := 3) (ret := some .boolean) (by decide) rfl (Nat.le_of_ble_eq_true rfl) ?_
  intro pp ee ss mm bb me cc A hC hr hlk hnm
  refine g_los [0, 1] (lo' := [(0, .int (nI (evv v))), (1, .int (nI (evv c)))]) rfl ?_
  refine g_iconst (v := nI 0) hC d_V_covers_0 (by decide) ?_
  refine g_istore_n (i := 2) (lo' := [(2, _), (0, _), (1, _)]) hC d_V_covers_1 rfl (by decide) rfl ?_
  refine g_los [1, 2, 0] (lo' := [(0, _), (1, _), (2, _)]) rfl ?_
  refine g_loop (ι := Nat) (pc0 := 2) (fun t => 3 - t) (fun t => t ≤ 3 ∧ ∀ t', t' < t → c t' ≤ v t') (fun t => V) (fun t => [(0, .int (nI (evv v))), (1, .int (nI (evv c))), (2, .int (nI t))]) ?_ 0 (⟨Nat.zero_le _, fun t' ht' => absurd ht' (Nat.not_lt_zero _)⟩)
  rintro t hI ih
  try dsimp only at hI ih ⊢
  refine g_iload_n (i := 2) hC d_V_covers_2 rfl rfl ?_
  refine g_iconst (v := nI 3) hC d_V_covers_3 (by decide) ?_
  refine g_icmp_geN (tgt := 28) hC d_V_covers_4 (by decide) (by first | omega | exact c_lt hb _ _ | exact pb_le _) (by first | omega | exact c_lt hb _ _ | exact pb_le _) (fun h4 => ?_) (fun h4 => ?_)
  · refine g_iconst (v := nI 1) hC d_V_covers_28 (by decide) ?_
    refine g_zret hC hr hlk (r_nar2 (by decide)) d_V_covers_29 (by decide) (by decide) (fun ad w hw => ?_)
    exact ⟨nI_one (fun t' ht' => hI.2 t' (by omega)), hw⟩
  · refine g_iload_n (i := 0) hC d_V_covers_7 rfl rfl ?_
    refine g_iload_n (i := 2) hC d_V_covers_8 rfl rfl ?_
    refine g_calli hC (g_runS (As := [_, _]) (st := []) hC g_NOK_N (v_count l D V v t hv (by omega)) (t_cwS 2 hC.1.2.2.2.2 m_212 m_123 m_3 k_V_count rfl rfl hd_V_count ⟨by decide, by decide⟩) rfl rfl (Nat.le_of_ble_eq_true rfl) d_V_covers_9 ⟨by decide, by decide⟩) (fun r9 => ?_)
    refine g_and (fun e => ?_)
    subst e
    refine g_iload_n (i := 1) hC d_V_covers_12 rfl rfl ?_
    refine g_iload_n (i := 2) hC d_V_covers_13 rfl rfl ?_
    refine g_calli hC (g_runS (As := [_, _]) (st := [_]) hC g_NOK_N (v_count l D V c t hc (by omega)) (t_cwS 2 hC.1.2.2.2.2 m_212 m_123 m_3 k_V_count rfl rfl hd_V_count ⟨by decide, by decide⟩) rfl rfl (Nat.le_of_ble_eq_true rfl) d_V_covers_14 ⟨by decide, by decide⟩) (fun r14 => ?_)
    refine g_and (fun e => ?_)
    subst e
    refine g_icmp_geN (tgt := 22) hC d_V_covers_17 (by decide) (by have := hv t; omega) (by have := hc t; omega) (fun h17 => ?_) (fun h17 => ?_)
    · refine g_iinc (i := 2) (k := 2) (lo' := [(2, _), (0, _), (1, _)]) hC d_V_covers_22 rfl (nI_inc _) (by decide) rfl ?_
      refine g_goto (tgt := 2) hC d_V_covers_25 (by decide) ?_
      refine g_los [1, 2, 0] rfl ?_
      exact ih (t + 1) ⟨by omega, lt_s hI.2 (by omega)⟩ (by omega)
    · refine g_iconst (v := nI 0) hC d_V_covers_20 (by decide) ?_
      refine g_zret hC hr hlk (r_nar2 (by decide)) d_V_covers_21 (by decide) (by decide) (fun ad w hw => ?_)
      exact ⟨nI_zero (fun q => by have := q t (by omega); omega), hw⟩
set_option maxRecDepth 100000 in
set_option maxHeartbeats 4000000 in
theorem o_isInsert (l : Launch) (D : va_G) (S : Nat) (ρ : rS) (ad0 : Nat → Nat) (w0 : gW) (o : Nat) (ho : o < 18) (hal : ρ 41 o ≠ 0) : g_M l y_O_isInsert w_O_isInsert (rk 0) D gCl g_N [.ref (ad0 (100 + o))] (CW S ρ ad0 w0) 0 0 (fun A => g_Qi D gCl A (fun r ad w => r = nI (pb (ρ (60 + o) 0 ≠ 0)) ∧ CW S ρ ad0 w0 ad w)) := by
  refine g_of (cc := c_O_isInsert) (nL := 1) (ret := some .boolean) (by decide) rfl (Nat.le_of_ble_eq_true rfl) ?_
  intro pp ee ss mm bb me cc A hC hr hlk hnm
  refine g_los [0] (lo' := [(0, .ref (ad0 (100 + o)))]) rfl ?_
  refine g_pure cw_bl (fun hbS => ?_)
  obtain ⟨hb, hSS⟩ := hbS
  refine g_aload_n (i := 0) hC d_O_isInsert_0 rfl rfl (Or.inr ⟨_, rfl⟩) ?_
  refine g_get hC (fun x h => List.mem_cons_of_mem _ (in_O x h)) (100 + o) (cw_o ho hal) rfl 2 (by decide) (List.mem_cons_of_mem _ m_137) rfl rfl d_O_isInsert_1 ?_
  refine g_if_eqN (tgt := 11) hC d_O_isInsert_4 (by decide) (c_lt hb _ _) (fun h4a => ?_) (fun h4a => ?_)
  · refine g_iconst (v := nI 0) hC d_O_isInsert_11 (by decide) ?_
    refine g_zret hC hr hlk (r_nar2 (by decide)) d_O_isInsert_12 (by decide) (by decide) (fun ad w hw => ?_)
    exact ⟨nI_zero (fun q => q h4a), hw⟩
  · refine g_iconst (v := nI 1) hC d_O_isInsert_7 (by decide) ?_
    refine g_goto (tgt := 12) hC d_O_isInsert_8 (by decide) ?_
    refine g_zret hC hr hlk (r_nar2 (by decide)) d_O_isInsert_12 (by decide) (by decide) (fun ad w hw => ?_)
    exact ⟨nI_one h4a, hw⟩
set_option maxRecDepth 100000 in
set_option maxHeartbeats 4000000 in
theorem o_index (l : Launch) (D : va_G) (S : Nat) (ρ : rS) (ad0 : Nat → Nat) (w0 : gW) (o : Nat) (ho : o < 18) (hal : ρ 41 o ≠ 0) (hsi : ρ (60 + o) 3 = o / 6) (hnu : ρ (60 + o) 4 = o % 6) : g_M l y_O_index w_O_index (rk 0) D gCl g_N [.ref (ad0 (100 + o))] (CW S ρ ad0 w0) 0 0 (fun A => g_Qi D gCl A (fun r ad w => r = nI o ∧ CW S ρ ad0 w0 ad w)) := by
  refine g_of (cc := c_O_index) (nL := 1) (ret := some .int) (by decide) rfl (Nat.le_of_ble_eq_true rfl) ?_
  intro pp ee ss mm bb me cc A hC hr hlk hnm
  refine g_los [0] (lo' := [(0, .ref (ad0 (100 + o)))]) rfl ?_
  refine g_pure cw_bl (fun hbS => ?_)
  obtain ⟨hb, hSS⟩ := hbS
  refine g_aload_n (i := 0) hC d_O_index_0 rfl rfl (Or.inr ⟨_, rfl⟩) ?_
  refine g_get hC (fun x h => List.mem_cons_of_mem _ (in_O x h)) (100 + o) (cw_o ho hal) rfl 0 (by decide) (List.mem_cons_of_mem _ m_131) rfl rfl d_O_index_1 ?_
  refine g_bipush (v := nI 6) hC d_O_index_4 (by decide) ?_
  refine g_imulN hC d_O_index_6 ?_
  refine g_aload_n (i := 0) hC d_O_index_7 rfl rfl (Or.inr ⟨_, rfl⟩) ?_
  refine g_get hC (fun x h => List.mem_cons_of_mem _ (in_O x h)) (100 + o) (cw_o ho hal) rfl 1 (by decide) (List.mem_cons_of_mem _ m_135) rfl rfl d_O_index_8 ?_
  refine g_iaddN hC d_O_index_11 ?_
  refine g_iret hC hr hlk d_O_index_12 (by decide) (by decide) (fun ad w hw => ?_)
  exact ⟨by rw [hsi, hnu, show o / 6 * 6 + o % 6 = o by omega], hw⟩
set_option maxRecDepth 100000 in
set_option maxHeartbeats 4000000 in
theorem o_movedPast (l : Launch) (D : va_G) (S : Nat) (ρ : rS) (ad0 : Nat → Nat) (w0 : gW) (o y p q : Nat) (ho : o < 18) (hal : ρ 41 o ≠ 0) (hy : y < 18) (hyal : ρ 41 y ≠ 0) (hsi : ρ (60 + o) 3 = o / 6) (hysi : ρ (60 + y) 3 = y / 6) (hp : p < 1000) (hq : q < 1000) : g_M l y_O_movedPast w_O_movedPast (rk 1) D gCl g_N [.ref (ad0 (100 + o)), .int (nI p), .ref (ad0 (100 + y)), .int (nI q)] (CW S ρ ad0 w0) 0 0 (fun A => g_Qi D gCl A (fun r ad w => r = nI (mmv (ρ (60 + o) 0) (o / 6) p (ρ (60 + y) 0) (y / 6) q) ∧ CW S ρ ad0 w0 ad w)) := by
  refine g_of (cc := c_O_movedPast) (nL := 4) (ret := some .int) (by decide) rfl (Nat.le_of_ble_eq_true rfl) ?_
  intro pp ee ss mm bb me cc A hC hr hlk hnm
  refine g_los [0, 1, 2, 3] (lo' := [(0, .ref (ad0 (100 + o))), (1, .int (nI p)), (2, .ref (ad0 (100 + y))), (3, .int (nI q))]) rfl ?_
  refine g_pure cw_bl (fun hbS => ?_)
  obtain ⟨hb, hSS⟩ := hbS
  refine g_aload_n (i := 2) hC d_O_movedPast_0 rfl rfl (Or.inr ⟨_, rfl⟩) ?_
  refine g_calli hC (g_runV (q := (100 + y)) (As := []) (st := []) hC g_NOK_N (o_isInsert l D S ρ ad0 w0 y hy hyal) (t_cwV 0 hC.1.2.2.2.2 m_242 m_168 m_169 m_7 k_O_isInsert rfl rfl hd_O_isInsert ⟨by decide, by decide⟩) (cw_o hy hyal) rfl rfl rfl (Nat.le_of_ble_eq_true rfl) d_O_movedPast_1 ⟨by decide, by decide⟩) (fun r1 => ?_)
  refine g_and (fun e => ?_)
  subst e
  refine g_if_eqN (tgt := 12) hC d_O_movedPast_4 (by decide) (pb_le _) (fun h4 => ?_) (fun h4 => ?_)
  · have g4 := pb_0 h4
    refine g_iload_n (i := 1) hC d_O_movedPast_12 rfl rfl ?_
    refine g_iret hC hr hlk d_O_movedPast_13 (by decide) (by decide) (fun ad w hw => ?_)
    exact ⟨congrArg nI (mmv_0 (Decidable.not_not.mp g4)).symm, hw⟩
  · have g4 := pb_1 h4
    refine g_iload_n (i := 1) hC d_O_movedPast_7 rfl rfl ?_
    refine g_iload_n (i := 3) hC d_O_movedPast_8 rfl rfl ?_
    refine g_icmp_geN (tgt := 14) hC d_O_movedPast_9 (by decide) (by first | omega | exact c_lt hb _ _ | exact pb_le _) (by first | omega | exact c_lt hb _ _ | exact pb_le _) (fun h9 => ?_) (fun h9 => ?_)
    · refine g_iload_n (i := 1) hC d_O_movedPast_14 rfl rfl ?_
      refine g_iload_n (i := 3) hC d_O_movedPast_15 rfl rfl ?_
      refine g_icmp_neN (tgt := 41) hC d_O_movedPast_16 (by decide) (by first | omega | exact c_lt hb _ _ | exact pb_le _) (by first | omega | exact c_lt hb _ _ | exact pb_le _) (fun h16 => ?_) (fun h16 => ?_)
      · refine g_iload_n (i := 1) hC d_O_movedPast_41 rfl rfl ?_
        refine g_iconst (v := nI 1) hC d_O_movedPast_42 (by decide) ?_
        refine g_iaddN hC d_O_movedPast_43 ?_
        refine g_iret hC hr hlk d_O_movedPast_44 (by decide) (by decide) (fun ad w hw => ?_)
        exact ⟨congrArg nI (mmv_1 ⟨g4, by omega, Or.inl h16⟩).symm, hw⟩
      · refine g_aload_n (i := 0) hC d_O_movedPast_19 rfl rfl (Or.inr ⟨_, rfl⟩) ?_
        refine g_calli hC (g_runV (q := (100 + o)) (As := []) (st := []) hC g_NOK_N (o_isInsert l D S ρ ad0 w0 o ho hal) (t_cwV 0 hC.1.2.2.2.2 m_242 m_168 m_169 m_7 k_O_isInsert rfl rfl hd_O_isInsert ⟨by decide, by decide⟩) (cw_o ho hal) rfl rfl rfl (Nat.le_of_ble_eq_true rfl) d_O_movedPast_20 ⟨by decide, by decide⟩) (fun r20 => ?_)
        refine g_and (fun e => ?_)
        subst e
        refine g_if_eqN (tgt := 41) hC d_O_movedPast_23 (by decide) (pb_le _) (fun h23 => ?_) (fun h23 => ?_)
        · have g23 := pb_0 h23
          refine g_iload_n (i := 1) hC d_O_movedPast_41 rfl rfl ?_
          refine g_iconst (v := nI 1) hC d_O_movedPast_42 (by decide) ?_
          refine g_iaddN hC d_O_movedPast_43 ?_
          refine g_iret hC hr hlk d_O_movedPast_44 (by decide) (by decide) (fun ad w hw => ?_)
          exact ⟨congrArg nI (mmv_1 ⟨g4, by omega, Or.inr (Or.inl (Decidable.not_not.mp g23))⟩).symm, hw⟩
        · have g23 := pb_1 h23
          refine g_aload_n (i := 0) hC d_O_movedPast_26 rfl rfl (Or.inr ⟨_, rfl⟩) ?_
          refine g_get hC (fun x h => List.mem_cons_of_mem _ (in_O x h)) (100 + o) (cw_o ho hal) rfl 0 (by decide) (List.mem_cons_of_mem _ m_131) rfl rfl d_O_movedPast_27 ?_
          refine g_aload_n (i := 2) hC d_O_movedPast_30 rfl rfl (Or.inr ⟨_, rfl⟩) ?_
          refine g_get hC (fun x h => List.mem_cons_of_mem _ (in_O x h)) (100 + y) (cw_o hy hyal) rfl 0 (by decide) (List.mem_cons_of_mem _ m_131) rfl rfl d_O_movedPast_31 ?_
          rw [hsi, hysi]
          refine g_icmp_geN (tgt := 41) hC d_O_movedPast_34 (by decide) (by omega) (by omega) (fun h34 => ?_) (fun h34 => ?_)
          · refine g_iload_n (i := 1) hC d_O_movedPast_41 rfl rfl ?_
            refine g_iconst (v := nI 1) hC d_O_movedPast_42 (by decide) ?_
            refine g_iaddN hC d_O_movedPast_43 ?_
            refine g_iret hC hr hlk d_O_movedPast_44 (by decide) (by decide) (fun ad w hw => ?_)
            exact ⟨congrArg nI (mmv_1 ⟨g4, by omega, Or.inr (Or.inr (by omega))⟩).symm, hw⟩
          · refine g_iload_n (i := 1) hC d_O_movedPast_37 rfl rfl ?_
            refine g_goto (tgt := 44) hC d_O_movedPast_38 (by decide) ?_
            refine g_iret hC hr hlk d_O_movedPast_44 (by decide) (by decide) (fun ad w hw => ?_)
            exact ⟨congrArg nI (mmv_2 (Or.inr ⟨h16, g23, by omega⟩)).symm, hw⟩
    · refine g_iload_n (i := 1) hC d_O_movedPast_12 rfl rfl ?_
      refine g_iret hC hr hlk d_O_movedPast_13 (by decide) (by decide) (fun ad w hw => ?_)
      exact ⟨congrArg nI (mmv_2 (Or.inl h9)).symm, hw⟩
end
section
theorem wb_tb (n : Nat) : (lN n).toBitVec = BitVec.ofNat 64 n := rfl
theorem wb_inj {a b : Int64} (h : a.toBitVec = b.toBitVec) : a = b := Int64.toBitVec_inj.mp h
theorem wb_c : ∀ k, k < 64 → ((nI k).toInt64 &&& 63) = lN k := by decide +kernel
theorem wb_sm : ∀ k, k < 64 → (BitVec.ofNat 64 k).smod 64 = BitVec.ofNat 64 k := by decide +kernel
theorem wb_lt2 {a b : Nat} (h : a < b) : 2 ^ a < 2 ^ b := Nat.pow_lt_pow_right (by decide) h
theorem wb_shl (n : Nat) {k : Nat} (hk : k < 64) : lN n <<< ((nI k).toInt64 &&& 63) = lN (n * 2 ^ k) := by
  rw [wb_c k hk]
  apply wb_inj
  rw [Int64.toBitVec_shiftLeft, wb_tb, wb_tb, wb_tb, wb_sm k hk]
  apply BitVec.eq_of_toNat_eq
  rw [BitVec.shiftLeft_eq', BitVec.toNat_shiftLeft, BitVec.toNat_ofNat, BitVec.toNat_ofNat, BitVec.toNat_ofNat, Nat.mod_eq_of_lt (show k < 2 ^ 64 by omega), Nat.shiftLeft_eq, Nat.mul_mod, Nat.mod_mod, ← Nat.mul_mod]
theorem wb_and {a b : Nat} (ha : a < 2 ^ 64) (hb : b < 2 ^ 64) : lN a &&& lN b = lN (a &&& b) := by
  apply wb_inj
  rw [Int64.toBitVec_and, wb_tb, wb_tb, wb_tb]
  apply BitVec.eq_of_toNat_eq
  rw [BitVec.toNat_and, BitVec.toNat_ofNat, BitVec.toNat_ofNat, BitVec.toNat_ofNat, Nat.mod_eq_of_lt ha, Nat.mod_eq_of_lt hb, Nat.mod_eq_of_lt (Nat.and_lt_two_pow _ hb)]
theorem wb_mask {n k : Nat} (hn : n < 2 ^ 64) (hk : k < 64) : lN n &&& lN (2 ^ k - 1) = lN (n % 2 ^ k) := by
  rw [wb_and hn (by have := wb_lt2 hk; omega), Nat.and_two_pow_sub_one_eq_mod]
theorem pf_lI {a : Nat} (h : a < 2 ^ 63) : (lN a).toInt = (a : Int) := lg_ofNat_toInt h
theorem pf_shr {a d : Nat} {D : Int64} (hD : (D.toBitVec.smod 64).toNat = d) (h : a < 2 ^ 62) : lN a >>> D = lN (a / 2 ^ d) := by
  have hd : a / 2 ^ d ≤ a := Nat.div_le_self _ _
  apply Int64.toInt_inj.mp
  have e : (lN a >>> D).toInt = (lN a).toInt >>> d := by
    rw [← hD]
    exact BitVec.toInt_sshiftRight ..
  rw [e, Int.shiftRight_eq_div_pow, pf_lI (by omega), pf_lI (by omega)]
  rfl
/-- the class's operations are the state's -/
def OPS (S : Nat) (σ ρ : rS) : Prop := ∀ o, o < 18 → (ρ 40 o ≠ 0 ↔ mh (s_mk σ) o) ∧ (mh (s_mk σ) o → ρ 41 o ≠ 0 ∧ ρ (60 + o) 3 = o / 6 ∧ ρ (60 + o) 4 = o % 6 ∧ ρ (60 + o) 0 = σ 4 o ∧ ρ (60 + o) 1 = σ 3 o ∧ ρ (60 + o) 2 = evv (s_cx σ o))
theorem INV.cx6 {S : Nat} {σ : rS} (h : INV S σ) {o : Nat} (ho : mh (s_mk σ) o) : ∀ t, s_cx σ o t ≤ 6 := fun t => Nat.le_trans ((h.1.2.2.1.2.2 o ho).2.1 t) (h.1.2.2.1.1 t)
theorem INV.chr {S : Nat} {σ : rS} (h : INV S σ) {o : Nat} (ho : mh (s_mk σ) o) : σ 4 o = 0 ↔ σ 2 o = 0 := by
  have := (h.1.2.2.2 o ho).2
  constructor
  · intro q
    apply Classical.byContradiction
    intro z
    have := (this.2 z).2.1
    omega
  · intro q
    exact (this.1 q).1
theorem mmv_flag {a a' b b' s p t q : Nat} (ha : a = 0 ↔ a' = 0) (hb : b = 0 ↔ b' = 0) : mmv a s p b t q = mmv a' s p b' t q := by
  unfold mmv
  by_cases h : b ≠ 0 ∧ q ≤ p ∧ (p ≠ q ∨ a = 0 ∨ t ≤ s)
  · rw [if_pos h, if_pos (by omega)]
  · rw [if_neg h, if_neg (by omega)]
set_option maxRecDepth 100000 in
set_option maxHeartbeats 4000000 in
theorem o_toCode (l : Launch) (D : va_G) (S : Nat) (ρ : rS) (ad0 : Nat → Nat) (w0 : gW) (o : Nat) (cv : Nat → Nat) (ho : o < 18) (hal : ρ 41 o ≠ 0) (hsi : ρ (60 + o) 3 = o / 6) (hnu : ρ (60 + o) 4 = o % 6) (hcx : ρ (60 + o) 2 = evv cv) (hcv : ∀ t, cv t ≤ 6) : g_M l y_O_toCode w_O_toCode (rk 1) D gCl g_N [.ref (ad0 (100 + o))] (CW S ρ ad0 w0) 0 0 (fun A => g_Ql D gCl A (fun r ad w => r = lN (o / 6 + 4 * (o % 6) + (if ρ (60 + o) 0 = 0 then 0 else 64) + (ρ (60 + o) 1 * 2 ^ 7 + ρ (60 + o) 0 * 2 ^ 13) + cv 0 * 2 ^ 21 + cv 1 * 2 ^ 25 + cv 2 * 2 ^ 29) ∧ CW S ρ ad0 w0 ad w)) := by
  refine g_of (cc := c_O_toCode) (nL := 3) (ret := some .long) (by decide) rfl (Nat.le_of_ble_eq_true rfl) ?_
  intro pp ee ss mm bb me cc A hC hr hlk hnm
  refine g_los [0] (lo' := [(0, .ref (ad0 (100 + o)))]) rfl ?_
  refine g_pure cw_bl (fun hbS => ?_)
  obtain ⟨hb, hSS⟩ := hbS
  refine g_aload_n (i := 0) hC d_O_toCode_0 rfl rfl (Or.inr ⟨_, rfl⟩) ?_
  refine g_get hC (fun x h => List.mem_cons_of_mem _ (in_O x h)) (100 + o) (cw_o ho hal) rfl 0 (by decide) (List.mem_cons_of_mem _ m_131) rfl rfl d_O_toCode_1 ?_
  refine g_iconst (v := nI 4) hC d_O_toCode_4 (by decide) ?_
  refine g_aload_n (i := 0) hC d_O_toCode_5 rfl rfl (Or.inr ⟨_, rfl⟩) ?_
  refine g_get hC (fun x h => List.mem_cons_of_mem _ (in_O x h)) (100 + o) (cw_o ho hal) rfl 1 (by decide) (List.mem_cons_of_mem _ m_135) rfl rfl d_O_toCode_6 ?_
  refine g_imulN hC d_O_toCode_9 ?_
  refine g_iaddN hC d_O_toCode_10 ?_
  refine g_aload_n (i := 0) hC d_O_toCode_11 rfl rfl (Or.inr ⟨_, rfl⟩) ?_
  refine g_calli hC (g_runV (q := (100 + o)) (As := []) (st := [_]) hC g_NOK_N (o_isInsert l D S ρ ad0 w0 o ho hal) (t_cwV 0 hC.1.2.2.2.2 m_242 m_168 m_169 m_7 k_O_isInsert rfl rfl hd_O_isInsert ⟨by decide, by decide⟩) (cw_o ho hal) rfl rfl rfl (Nat.le_of_ble_eq_true rfl) d_O_toCode_12 ⟨by decide, by decide⟩) (fun r12 => ?_)
  refine g_and (fun e => ?_)
  subst e
  refine g_if_eqN (tgt := 23) hC d_O_toCode_15 (by decide) (pb_le _) (fun h15 => ?_) (fun h15 => ?_)
  · have g15 := pb_0 h15
    refine g_iconst (v := nI 0) hC d_O_toCode_23 (by decide) ?_
    refine g_iaddN hC d_O_toCode_24 ?_
    have hsi' := hsi
    rw [hsi, hnu]
    refine g_i2l hC d_O_toCode_25 (nI_l (by first | omega | exact c_lt hb _ _ | (have := hcv 0; omega) | (have := hcv 1; omega) | (have := hcv 2; omega))) ?_
    refine g_lstore_n (i := 1) (lo' := [(1, _), (0, _)]) hC d_O_toCode_26 rfl (by decide) rfl ?_
    refine g_lload_n (i := 1) hC d_O_toCode_27 rfl rfl ?_
    refine g_aload_n (i := 0) hC d_O_toCode_28 rfl rfl (Or.inr ⟨_, rfl⟩) ?_
    refine g_get hC (fun x h => List.mem_cons_of_mem _ (in_O x h)) (100 + o) (cw_o ho hal) rfl 3 (by decide) (List.mem_cons_of_mem _ m_139) rfl rfl d_O_toCode_29 ?_
    refine g_i2l hC d_O_toCode_32 (nI_l (by first | omega | exact c_lt hb _ _ | (have := hcv 0; omega) | (have := hcv 1; omega) | (have := hcv 2; omega))) ?_
    refine g_bipush (v := nI 7) hC d_O_toCode_33 (by decide) ?_
    refine g_lshl hC d_O_toCode_35 (wb_shl _ (by decide)) ?_
    refine g_aload_n (i := 0) hC d_O_toCode_36 rfl rfl (Or.inr ⟨_, rfl⟩) ?_
    refine g_get hC (fun x h => List.mem_cons_of_mem _ (in_O x h)) (100 + o) (cw_o ho hal) rfl 2 (by decide) (List.mem_cons_of_mem _ m_137) rfl rfl d_O_toCode_37 ?_
    refine g_i2l hC d_O_toCode_40 (nI_l (by first | omega | exact c_lt hb _ _ | (have := hcv 0; omega) | (have := hcv 1; omega) | (have := hcv 2; omega))) ?_
    refine g_bipush (v := nI 13) hC d_O_toCode_41 (by decide) ?_
    refine g_lshl hC d_O_toCode_43 (wb_shl _ (by decide)) ?_
    refine g_ladd hC d_O_toCode_44 ?_
    refine g_eql (lN_add _ _) ?_
    refine g_ladd hC d_O_toCode_45 ?_
    refine g_eql (lN_add _ _) ?_
    refine g_lstore_n (i := 1) (lo' := [(1, _), (0, _)]) hC d_O_toCode_46 rfl (by decide) rfl ?_
    refine g_lload_n (i := 1) hC d_O_toCode_47 rfl rfl ?_
    refine g_aload_n (i := 0) hC d_O_toCode_48 rfl rfl (Or.inr ⟨_, rfl⟩) ?_
    refine g_get hC (fun x h => List.mem_cons_of_mem _ (in_O x h)) (100 + o) (cw_o ho hal) rfl 4 (by decide) (List.mem_cons_of_mem _ m_141) rfl rfl d_O_toCode_49 ?_
    rw [hcx]
    refine g_iconst (v := nI 0) hC d_O_toCode_52 (by decide) ?_
    refine g_calli hC (g_runS (As := [_, _]) (st := [_]) hC g_NOK_N (v_count l D (CW S ρ ad0 w0) cv 0 hcv (by decide)) (t_cwS 2 hC.1.2.2.2.2 m_257 m_123 m_3 k_V_count rfl rfl hd_V_count ⟨by decide, by decide⟩) rfl rfl (Nat.le_of_ble_eq_true rfl) d_O_toCode_53 ⟨by decide, by decide⟩) (fun r53 => ?_)
    refine g_and (fun e => ?_)
    subst e
    refine g_i2l hC d_O_toCode_56 (nI_l (by first | omega | exact c_lt hb _ _ | (have := hcv 0; omega) | (have := hcv 1; omega) | (have := hcv 2; omega))) ?_
    refine g_bipush (v := nI 21) hC d_O_toCode_57 (by decide) ?_
    refine g_lshl hC d_O_toCode_59 (wb_shl _ (by decide)) ?_
    refine g_ladd hC d_O_toCode_60 ?_
    refine g_eql (lN_add _ _) ?_
    refine g_lstore_n (i := 1) (lo' := [(1, _), (0, _)]) hC d_O_toCode_61 rfl (by decide) rfl ?_
    refine g_lload_n (i := 1) hC d_O_toCode_62 rfl rfl ?_
    refine g_aload_n (i := 0) hC d_O_toCode_63 rfl rfl (Or.inr ⟨_, rfl⟩) ?_
    refine g_get hC (fun x h => List.mem_cons_of_mem _ (in_O x h)) (100 + o) (cw_o ho hal) rfl 4 (by decide) (List.mem_cons_of_mem _ m_141) rfl rfl d_O_toCode_64 ?_
    rw [hcx]
    refine g_iconst (v := nI 1) hC d_O_toCode_67 (by decide) ?_
    refine g_calli hC (g_runS (As := [_, _]) (st := [_]) hC g_NOK_N (v_count l D (CW S ρ ad0 w0) cv 1 hcv (by decide)) (t_cwS 2 hC.1.2.2.2.2 m_257 m_123 m_3 k_V_count rfl rfl hd_V_count ⟨by decide, by decide⟩) rfl rfl (Nat.le_of_ble_eq_true rfl) d_O_toCode_68 ⟨by decide, by decide⟩) (fun r68 => ?_)
    refine g_and (fun e => ?_)
    subst e
    refine g_i2l hC d_O_toCode_71 (nI_l (by first | omega | exact c_lt hb _ _ | (have := hcv 0; omega) | (have := hcv 1; omega) | (have := hcv 2; omega))) ?_
    refine g_bipush (v := nI 25) hC d_O_toCode_72 (by decide) ?_
    refine g_lshl hC d_O_toCode_74 (wb_shl _ (by decide)) ?_
    refine g_ladd hC d_O_toCode_75 ?_
    refine g_eql (lN_add _ _) ?_
    refine g_lstore_n (i := 1) (lo' := [(1, _), (0, _)]) hC d_O_toCode_76 rfl (by decide) rfl ?_
    refine g_lload_n (i := 1) hC d_O_toCode_77 rfl rfl ?_
    refine g_aload_n (i := 0) hC d_O_toCode_78 rfl rfl (Or.inr ⟨_, rfl⟩) ?_
    refine g_get hC (fun x h => List.mem_cons_of_mem _ (in_O x h)) (100 + o) (cw_o ho hal) rfl 4 (by decide) (List.mem_cons_of_mem _ m_141) rfl rfl d_O_toCode_79 ?_
    rw [hcx]
    refine g_iconst (v := nI 2) hC d_O_toCode_82 (by decide) ?_
    refine g_calli hC (g_runS (As := [_, _]) (st := [_]) hC g_NOK_N (v_count l D (CW S ρ ad0 w0) cv 2 hcv (by decide)) (t_cwS 2 hC.1.2.2.2.2 m_257 m_123 m_3 k_V_count rfl rfl hd_V_count ⟨by decide, by decide⟩) rfl rfl (Nat.le_of_ble_eq_true rfl) d_O_toCode_83 ⟨by decide, by decide⟩) (fun r83 => ?_)
    refine g_and (fun e => ?_)
    subst e
    refine g_i2l hC d_O_toCode_86 (nI_l (by first | omega | exact c_lt hb _ _ | (have := hcv 0; omega) | (have := hcv 1; omega) | (have := hcv 2; omega))) ?_
    refine g_bipush (v := nI 29) hC d_O_toCode_87 (by decide) ?_
    refine g_lshl hC d_O_toCode_89 (wb_shl _ (by decide)) ?_
    refine g_ladd hC d_O_toCode_90 ?_
    refine g_eql (lN_add _ _) ?_
    refine g_lstore_n (i := 1) (lo' := [(1, _), (0, _)]) hC d_O_toCode_91 rfl (by decide) rfl ?_
    refine g_lload_n (i := 1) hC d_O_toCode_92 rfl rfl ?_
    refine g_lret hC hr hlk d_O_toCode_93 (by decide) (by decide) (fun ad w hw => ?_)
    exact ⟨by rw [if_pos (Decidable.not_not.mp g15)], hw⟩
  · have g15 := pb_1 h15
    refine g_bipush (v := nI 64) hC d_O_toCode_18 (by decide) ?_
    refine g_goto (tgt := 24) hC d_O_toCode_20 (by decide) ?_
    refine g_iaddN hC d_O_toCode_24 ?_
    have hsi' := hsi
    rw [hsi, hnu]
    refine g_i2l hC d_O_toCode_25 (nI_l (by first | omega | exact c_lt hb _ _ | (have := hcv 0; omega) | (have := hcv 1; omega) | (have := hcv 2; omega))) ?_
    refine g_lstore_n (i := 1) (lo' := [(1, _), (0, _)]) hC d_O_toCode_26 rfl (by decide) rfl ?_
    refine g_lload_n (i := 1) hC d_O_toCode_27 rfl rfl ?_
    refine g_aload_n (i := 0) hC d_O_toCode_28 rfl rfl (Or.inr ⟨_, rfl⟩) ?_
    refine g_get hC (fun x h => List.mem_cons_of_mem _ (in_O x h)) (100 + o) (cw_o ho hal) rfl 3 (by decide) (List.mem_cons_of_mem _ m_139) rfl rfl d_O_toCode_29 ?_
    refine g_i2l hC d_O_toCode_32 (nI_l (by first | omega | exact c_lt hb _ _ | (have := hcv 0; omega) | (have := hcv 1; omega) | (have := hcv 2; omega))) ?_
    refine g_bipush (v := nI 7) hC d_O_toCode_33 (by decide) ?_
    refine g_lshl hC d_O_toCode_35 (wb_shl _ (by decide)) ?_
    refine g_aload_n (i := 0) hC d_O_toCode_36 rfl rfl (Or.inr ⟨_, rfl⟩) ?_
    refine g_get hC (fun x h => List.mem_cons_of_mem _ (in_O x h)) (100 + o) (cw_o ho hal) rfl 2 (by decide) (List.mem_cons_of_mem _ m_137) rfl rfl d_O_toCode_37 ?_
    refine g_i2l hC d_O_toCode_40 (nI_l (by first | omega | exact c_lt hb _ _ | (have := hcv 0; omega) | (have := hcv 1; omega) | (have := hcv 2; omega))) ?_
    refine g_bipush (v := nI 13) hC d_O_toCode_41 (by decide) ?_
    refine g_lshl hC d_O_toCode_43 (wb_shl _ (by decide)) ?_
    refine g_ladd hC d_O_toCode_44 ?_
    refine g_eql (lN_add _ _) ?_
    refine g_ladd hC d_O_toCode_45 ?_
    refine g_eql (lN_add _ _) ?_
    refine g_lstore_n (i := 1) (lo' := [(1, _), (0, _)]) hC d_O_toCode_46 rfl (by decide) rfl ?_
    refine g_lload_n (i := 1) hC d_O_toCode_47 rfl rfl ?_
    refine g_aload_n (i := 0) hC d_O_toCode_48 rfl rfl (Or.inr ⟨_, rfl⟩) ?_
    refine g_get hC (fun x h => List.mem_cons_of_mem _ (in_O x h)) (100 + o) (cw_o ho hal) rfl 4 (by decide) (List.mem_cons_of_mem _ m_141) rfl rfl d_O_toCode_49 ?_
    rw [hcx]
    refine g_iconst (v := nI 0) hC d_O_toCode_52 (by decide) ?_
    refine g_calli hC (g_runS (As := [_, _]) (st := [_]) hC g_NOK_N (v_count l D (CW S ρ ad0 w0) cv 0 hcv (by decide)) (t_cwS 2 hC.1.2.2.2.2 m_257 m_123 m_3 k_V_count rfl rfl hd_V_count ⟨by decide, by decide⟩) rfl rfl (Nat.le_of_ble_eq_true rfl) d_O_toCode_53 ⟨by decide, by decide⟩) (fun r53 => ?_)
    refine g_and (fun e => ?_)
    subst e
    refine g_i2l hC d_O_toCode_56 (nI_l (by first | omega | exact c_lt hb _ _ | (have := hcv 0; omega) | (have := hcv 1; omega) | (have := hcv 2; omega))) ?_
    refine g_bipush (v := nI 21) hC d_O_toCode_57 (by decide) ?_
    refine g_lshl hC d_O_toCode_59 (wb_shl _ (by decide)) ?_
    refine g_ladd hC d_O_toCode_60 ?_
    refine g_eql (lN_add _ _) ?_
    refine g_lstore_n (i := 1) (lo' := [(1, _), (0, _)]) hC d_O_toCode_61 rfl (by decide) rfl ?_
    refine g_lload_n (i := 1) hC d_O_toCode_62 rfl rfl ?_
    refine g_aload_n (i := 0) hC d_O_toCode_63 rfl rfl (Or.inr ⟨_, rfl⟩) ?_
    refine g_get hC (fun x h => List.mem_cons_of_mem _ (in_O x h)) (100 + o) (cw_o ho hal) rfl 4 (by decide) (List.mem_cons_of_mem _ m_141) rfl rfl d_O_toCode_64 ?_
    rw [hcx]
    refine g_iconst (v := nI 1) hC d_O_toCode_67 (by decide) ?_
    refine g_calli hC (g_runS (As := [_, _]) (st := [_]) hC g_NOK_N (v_count l D (CW S ρ ad0 w0) cv 1 hcv (by decide)) (t_cwS 2 hC.1.2.2.2.2 m_257 m_123 m_3 k_V_count rfl rfl hd_V_count ⟨by decide, by decide⟩) rfl rfl (Nat.le_of_ble_eq_true rfl) d_O_toCode_68 ⟨by decide, by decide⟩) (fun r68 => ?_)
    refine g_and (fun e => ?_)
    subst e
    refine g_i2l hC d_O_toCode_71 (nI_l (by first | omega | exact c_lt hb _ _ | (have := hcv 0; omega) | (have := hcv 1; omega) | (have := hcv 2; omega))) ?_
    refine g_bipush (v := nI 25) hC d_O_toCode_72 (by decide) ?_
    refine g_lshl hC d_O_toCode_74 (wb_shl _ (by decide)) ?_
    refine g_ladd hC d_O_toCode_75 ?_
    refine g_eql (lN_add _ _) ?_
    refine g_lstore_n (i := 1) (lo' := [(1, _), (0, _)]) hC d_O_toCode_76 rfl (by decide) rfl ?_
    refine g_lload_n (i := 1) hC d_O_toCode_77 rfl rfl ?_
    refine g_aload_n (i := 0) hC d_O_toCode_78 rfl rfl (Or.inr ⟨_, rfl⟩) ?_
    refine g_get hC (fun x h => List.mem_cons_of_mem _ (in_O x h)) (100 + o) (cw_o ho hal) rfl 4 (by decide) (List.mem_cons_of_mem _ m_141) rfl rfl d_O_toCode_79 ?_
    rw [hcx]
    refine g_iconst (v := nI 2) hC d_O_toCode_82 (by decide) ?_
    refine g_calli hC (g_runS (As := [_, _]) (st := [_]) hC g_NOK_N (v_count l D (CW S ρ ad0 w0) cv 2 hcv (by decide)) (t_cwS 2 hC.1.2.2.2.2 m_257 m_123 m_3 k_V_count rfl rfl hd_V_count ⟨by decide, by decide⟩) rfl rfl (Nat.le_of_ble_eq_true rfl) d_O_toCode_83 ⟨by decide, by decide⟩) (fun r83 => ?_)
    refine g_and (fun e => ?_)
    subst e
    refine g_i2l hC d_O_toCode_86 (nI_l (by first | omega | exact c_lt hb _ _ | (have := hcv 0; omega) | (have := hcv 1; omega) | (have := hcv 2; omega))) ?_
    refine g_bipush (v := nI 29) hC d_O_toCode_87 (by decide) ?_
    refine g_lshl hC d_O_toCode_89 (wb_shl _ (by decide)) ?_
    refine g_ladd hC d_O_toCode_90 ?_
    refine g_eql (lN_add _ _) ?_
    refine g_lstore_n (i := 1) (lo' := [(1, _), (0, _)]) hC d_O_toCode_91 rfl (by decide) rfl ?_
    refine g_lload_n (i := 1) hC d_O_toCode_92 rfl rfl ?_
    refine g_lret hC hr hlk d_O_toCode_93 (by decide) (by decide) (fun ad w hw => ?_)
    exact ⟨by rw [if_neg g15], hw⟩
theorem cdv_eq {S : Nat} {σ ρ : rS} (hInv : INV S σ) (hO : OPS S σ ρ) {o : Nat} (ho : mh (s_mk σ) o) : o / 6 + 4 * (o % 6) + (if ρ (60 + o) 0 = 0 then 0 else 64) + (ρ (60 + o) 1 * 2 ^ 7 + ρ (60 + o) 0 * 2 ^ 13) + s_cx σ o 0 * 2 ^ 21 + s_cx σ o 1 * 2 ^ 25 + s_cx σ o 2 * 2 ^ 29 = cdv σ o := by
  obtain ⟨-, a, b, c, d, e⟩ := (hO o (hInv.1.lt18 ho)).2 ho
  have hc := hInv.chr ho
  unfold cdv
  rw [c, d, s_cx_lt (by omega), s_cx_lt (by omega), s_cx_lt (by omega)]
  by_cases q : σ 2 o = 0
  · rw [if_pos q, if_pos (hc.mpr q)]
    simp only [Nat.reducePow, Nat.add_zero]
    omega
  · rw [if_neg q, if_neg (fun z => q (hc.mp z))]
    simp only [Nat.reducePow, Nat.add_zero]
    omega
theorem cdv_site {σ : rS} {o : Nat} (ho : o < 18) : cdv σ o % 4 = o / 6 ∧ cdv σ o / 4 % 16 = o % 6 := by
  have key : ∃ K, cdv σ o = o / 6 + 4 * (o % 6 + 16 * K) := by
    unfold cdv
    by_cases q : σ 2 o = 0
    · rw [if_pos q]
      exact ⟨2 * σ 3 o + 128 * σ 4 o + 32768 * σ 5 (3 * o) + 524288 * σ 5 (3 * o + 1) + 8388608 * σ 5 (3 * o + 2), by omega⟩
    · rw [if_neg q]
      exact ⟨1 + 2 * σ 3 o + 128 * σ 4 o + 32768 * σ 5 (3 * o) + 524288 * σ 5 (3 * o + 1) + 8388608 * σ 5 (3 * o + 2), by omega⟩
  obtain ⟨K, hK⟩ := key
  rw [hK]
  constructor
  · rw [Nat.add_mul_mod_self_left, Nat.mod_eq_of_lt (by omega)]
  · rw [Nat.add_mul_div_left _ _ (by decide), Nat.div_eq_of_lt (by omega), Nat.zero_add, Nat.add_mul_mod_self_left, Nat.mod_eq_of_lt (by omega)]
set_option maxRecDepth 100000 in
set_option maxHeartbeats 4000000 in
theorem h_find (l : Launch) (D : va_G) (S : Nat) (σ ρ : rS) (ad0 : Nat → Nat) (w0 : gW) (hInv : INV S σ) (hO : OPS S σ ρ) (x y : Int32) : g_M l y_H_find w_H_find (rk 0) D gCl g_N [.ref (ad0 1), .int x, .int y] (CW S ρ ad0 w0) 0 0 (fun A => g_Qq D gCl A (fun r ad w => ((∃ s k, MD S σ x y s k ∧ r = some (ad0 (100 + (6 * s + k)))) ∨ ((¬ ∃ s k, MD S σ x y s k) ∧ r = none)) ∧ CW S ρ ad0 w0 ad w)) := by
  refine g_of (cc := c_H_find) (nL := 3) (ret := some (.object "TombstoneSites$Operation")) (by decide) rfl (Nat.le_of_ble_eq_true rfl) ?_
  intro pp ee ss mm bb me cc A hC hr hlk hnm
  refine g_los [0, 1, 2] (lo' := [(0, .ref (ad0 1)), (1, .int x), (2, .int y)]) rfl ?_
  refine g_pure cw_bl (fun hbS => ?_)
  obtain ⟨hb, hSS⟩ := hbS
  refine g_iload_n (i := 1) hC d_H_find_0 rfl rfl ?_
  refine g_if_lt (tgt := 22) hC d_H_find_1 (by decide) (fun h1 => ?_) (fun h1 => ?_)
  · refine g_null hC d_H_find_22 ?_
    refine g_aret (r := none) hC hr hlk d_H_find_23 (by decide) (by decide) (fun ad w hw => ?_)
    exact ⟨Or.inr ⟨fun ⟨s1, k1, h⟩ => absurd h1 (by have := h.2.1; rw [h.1]; exact nI_pos (by omega)), rfl⟩, hw⟩
  · refine g_iload_n (i := 1) hC d_H_find_4 rfl rfl ?_
    refine g_aload_n (i := 0) hC d_H_find_5 rfl rfl (Or.inr ⟨_, rfl⟩) ?_
    refine g_get hC (fun x h => List.mem_cons_of_mem _ (in_H x h)) 1 cw_hi rfl 0 (by decide) (List.mem_cons_of_mem _ m_31) rfl rfl d_H_find_6 ?_
    refine g_icmp_ge (tgt := 22) hC d_H_find_9 (by decide) (fun h9 => ?_) (fun h9 => ?_)
    · refine g_null hC d_H_find_22 ?_
      refine g_aret (r := none) hC hr hlk d_H_find_23 (by decide) (by decide) (fun ad w hw => ?_)
      exact ⟨Or.inr ⟨fun ⟨s1, k1, h⟩ => by
        have := h.2.1
        rw [h.1] at h9
        have := (nI_leI (by omega) (by omega)).mp h9
        omega, rfl⟩, hw⟩
    · obtain ⟨s, hsS, rfl, hxs⟩ := ix_of (by omega) h1 h9
      refine g_iload_n (i := 2) hC d_H_find_12 rfl rfl ?_
      refine g_if_lt (tgt := 22) hC d_H_find_13 (by decide) (fun h13 => ?_) (fun h13 => ?_)
      · refine g_null hC d_H_find_22 ?_
        refine g_aret (r := none) hC hr hlk d_H_find_23 (by decide) (by decide) (fun ad w hw => ?_)
        exact ⟨Or.inr ⟨fun ⟨s1, k1, h⟩ => absurd h13 (by have := (MD.opn hInv h).2.2.2.2; rw [h.2.2.1]; exact nI_pos (by omega)), rfl⟩, hw⟩
      · refine g_iload_n (i := 2) hC d_H_find_16 rfl rfl ?_
        refine g_bipush (v := nI 6) hC d_H_find_17 (by decide) ?_
        refine g_icmp_lt (tgt := 24) hC d_H_find_19 (by decide) (fun h19 => ?_) (fun h19 => ?_)
        · obtain ⟨k, hk31, rfl⟩ := nI_of h13
          have hk6 : k < 6 := (nI_ltI (by omega) (by omega)).mp h19
          refine g_aload_n (i := 0) hC d_H_find_24 rfl rfl (Or.inr ⟨_, rfl⟩) ?_
          refine g_get hC (fun x h => List.mem_cons_of_mem _ (in_H x h)) 1 cw_hi rfl 1 (by decide) (List.mem_cons_of_mem _ m_32) rfl rfl d_H_find_25 ?_
          refine g_iload_n (i := 1) hC d_H_find_28 rfl rfl ?_
          refine g_bipush (v := nI 6) hC d_H_find_29 (by decide) ?_
          refine g_imulN hC d_H_find_31 ?_
          refine g_iload_n (i := 2) hC d_H_find_32 rfl rfl ?_
          refine g_iaddN hC d_H_find_33 ?_
          refine cl_made hC (by omega) (by omega) d_H_find_34 ?_
          refine g_aret (r := cw_md ad0 ρ (s * 6 + k)) hC hr hlk d_H_find_35 (by decide) (by decide) (fun ad w hw => ?_)
          refine ⟨?_, hw⟩
          unfold cw_md
          by_cases q : mh (s_mk σ) (6 * s + k)
          · have hm : k < σ 1 s := by
              unfold mh at q
              rw [show (6 * s + k) / 6 = s by omega, show (6 * s + k) % 6 = k by omega, s_mk_lt (by omega)] at q
              exact q
            refine Or.inl ⟨s, k, ⟨rfl, hsS, rfl, hm⟩, ?_⟩
            rw [show s * 6 + k = 6 * s + k by omega, if_neg ((hO _ (by omega)).1.mpr q)]
          · refine Or.inr ⟨fun ⟨s1, k1, h⟩ => q ?_, ?_⟩
            · have e1 := nI_inj h.1 (by omega) (by have := h.2.1; omega)
              have hk := MD.opn hInv h
              have e2 := nI_inj h.2.2.1 (by omega) (by omega)
              rw [e1, e2]
              exact hk.1
            · rw [show s * 6 + k = 6 * s + k by omega, if_pos (Decidable.not_not.mp (fun z => q ((hO _ (by omega)).1.mp z)))]
        · refine g_null hC d_H_find_22 ?_
          refine g_aret (r := none) hC hr hlk d_H_find_23 (by decide) (by decide) (fun ad w hw => ?_)
          exact ⟨Or.inr ⟨fun ⟨s1, k1, h⟩ => by
            have := (MD.opn hInv h).2.2.2.2
            rw [h.2.2.1] at h19
            exact h19 ((nI_ltI (by omega) (by omega)).mpr (by omega)), rfl⟩, hw⟩
set_option maxRecDepth 100000 in
set_option maxHeartbeats 4000000 in
theorem h_last (l : Launch) (D : va_G) (S : Nat) (σ ρ : rS) (ad0 : Nat → Nat) (w0 : gW) (hInv : INV S σ) (hO : OPS S σ ρ) (v : Nat → Nat) (t : Nat) (hv : ∀ t, v t ≤ s_mk σ t) (ht : t < S) : g_M l y_H_last w_H_last (rk 1) D gCl g_N [.ref (ad0 1), .int (nI (evv v)), .int (nI t)] (CW S ρ ad0 w0) 0 0 (fun A => g_Qq D gCl A (fun r ad w => r = (if v t = 0 then none else some (ad0 (100 + mtop v t))) ∧ CW S ρ ad0 w0 ad w)) := by
  have hS3 := hInv.S3
  refine g_of (cc := c_H_last) (nL := 3) (ret := some (.object "TombstoneSites$Operation")) (by decide) rfl (Nat.le_of_ble_eq_true rfl) ?_
  intro pp ee ss mm bb me cc A hC hr hlk hnm
  refine g_los [0, 1, 2] (lo' := [(0, .ref (ad0 1)), (1, .int (nI (evv v))), (2, .int (nI t))]) rfl ?_
  refine g_pure cw_bl (fun hbS => ?_)
  obtain ⟨hb, hSS⟩ := hbS
  refine g_aload_n (i := 0) hC d_H_last_0 rfl rfl (Or.inr ⟨_, rfl⟩) ?_
  refine g_iload_n (i := 2) hC d_H_last_1 rfl rfl ?_
  refine g_iload_n (i := 1) hC d_H_last_2 rfl rfl ?_
  refine g_iload_n (i := 2) hC d_H_last_3 rfl rfl ?_
  refine g_calli hC (g_runS (As := [_, _]) (st := [_, _]) hC g_NOK_N (v_count l D (CW S ρ ad0 w0) v t (fun j => Nat.le_trans (hv j) (hInv.1.2.2.1.1 j)) (by omega)) (t_cwS 2 hC.1.2.2.2.2 m_225 m_123 m_3 k_V_count rfl rfl hd_V_count ⟨by decide, by decide⟩) rfl rfl (Nat.le_of_ble_eq_true rfl) d_H_last_4 ⟨by decide, by decide⟩) (fun r4 => ?_)
  refine g_and (fun e => ?_)
  subst e
  refine g_iconst (v := nI 1) hC d_H_last_7 (by decide) ?_
  refine g_isub hC d_H_last_8 ?_
  refine g_callq hC (g_runV (q := 1) (As := [_, _]) (st := []) hC g_NOK_N (h_find l D S σ ρ ad0 w0 hInv hO (nI t) (nI (v t) - nI 1)) (t_cwV 2 hC.1.2.2.2.2 m_226 m_193 m_194 m_2 k_H_find rfl rfl hd_H_find ⟨by decide, by decide⟩) cw_hi rfl rfl rfl (Nat.le_of_ble_eq_true rfl) d_H_last_9 ⟨by decide, by decide⟩) (fun r9 => ?_)
  refine g_and (fun e9 => ?_)
  have hvt := hv t
  rw [s_mk_lt (by omega)] at hvt
  have h6 := hInv.m6 ht
  have e10 : r9 = (if v t = 0 then none else some (ad0 (100 + mtop v t))) := by
    by_cases q : v t = 0
    · rw [if_pos q]
      rcases e9 with ⟨s1, k1, h, e⟩ | ⟨-, e⟩
      · exfalso
        have hk := MD.opn hInv h
        have e3 := h.2.2.1
        rw [q] at e3
        have : nI 0 - nI 1 < 0 := by decide +kernel
        rw [e3] at this
        exact absurd this (nI_pos (by omega))
      · exact e
    · rw [if_neg q]
      have e3 : nI (v t) - nI 1 = nI (v t - 1) := pk_sub (by omega)
      rw [e3] at e9
      rcases e9 with ⟨s1, k1, h, e⟩ | ⟨h, -⟩
      · have hk := MD.opn hInv h
        have f1 := nI_inj h.1 (by omega) (by have := h.2.1; omega)
        have f2 := nI_inj h.2.2.1 (by omega) (by omega)
        rw [e, ← f1, ← f2]
        rfl
      · exact absurd ⟨t, v t - 1, rfl, ht, rfl, by omega⟩ h
  subst e10
  refine g_aret (r := (if v t = 0 then none else some (ad0 (100 + mtop v t)))) hC hr hlk d_H_last_12 (by decide) (by decide) (fun ad w hw => ?_)
  exact ⟨rfl, hw⟩
theorem OPS.al {S : Nat} {σ ρ : rS} (hInv : INV S σ) (hO : OPS S σ ρ) {o : Nat} (ho : mh (s_mk σ) o) : o < 18 ∧ ρ 41 o ≠ 0 ∧ ρ (60 + o) 3 = o / 6 ∧ ρ (60 + o) 4 = o % 6 ∧ ρ (60 + o) 0 = σ 4 o ∧ ρ (60 + o) 1 = σ 3 o ∧ ρ (60 + o) 2 = evv (s_cx σ o) := ⟨hInv.1.lt18 ho, (hO o (hInv.1.lt18 ho)).2 ho⟩
set_option maxRecDepth 100000 in
set_option maxHeartbeats 4000000 in
theorem h_isIn (l : Launch) (D : va_G) (S : Nat) (σ ρ : rS) (ad0 : Nat → Nat) (w0 : gW) (hInv : INV S σ) (hO : OPS S σ ρ) (y : Nat) (c : Nat → Nat) (hym : mh (s_mk σ) y) (hc : ∀ t, c t ≤ 6) : g_M l y_H_isIn w_H_isIn (rk 1) D gCl g_N [.ref (ad0 (100 + y)), .int (nI (evv c))] (CW S ρ ad0 w0) 0 0 (fun A => g_Qi D gCl A (fun r ad w => r = nI (pb (mh c y)) ∧ CW S ρ ad0 w0 ad w)) := by
  obtain ⟨hy, hyal, hysi, hynu, -, -, -⟩ := hO.al hInv hym
  refine g_of (cc := c_H_isIn) (nL := 2) (ret := some .boolean) (by decide) rfl (Nat.le_of_ble_eq_true rfl) ?_
  intro pp ee ss mm bb me cc A hC hr hlk hnm
  refine g_los [0, 1] (lo' := [(0, .ref (ad0 (100 + y))), (1, .int (nI (evv c)))]) rfl ?_
  refine g_pure cw_bl (fun hbS => ?_)
  obtain ⟨hb, hSS⟩ := hbS
  refine g_iload_n (i := 1) hC d_H_isIn_0 rfl rfl ?_
  refine g_aload_n (i := 0) hC d_H_isIn_1 rfl rfl (Or.inr ⟨_, rfl⟩) ?_
  refine g_getN (host := R_T) hC (fun x h => List.mem_cons_of_mem _ (in_O x h)) (100 + y) (cw_o hy hyal) rfl 0 (by decide) (hC.2.2.1.1 _ mn_133) rfl rfl d_H_isIn_2 ?_
  rw [hysi]
  refine g_calli hC (g_runS (As := [_, _]) (st := []) hC g_NOK_N (v_count l D (CW S ρ ad0 w0) c (y / 6) hc (by omega)) (t_cwS 2 hC.1.2.2.2.2 m_225 m_123 m_3 k_V_count rfl rfl hd_V_count ⟨by decide, by decide⟩) rfl rfl (Nat.le_of_ble_eq_true rfl) d_H_isIn_5 ⟨by decide, by decide⟩) (fun r5 => ?_)
  refine g_and (fun e => ?_)
  subst e
  refine g_aload_n (i := 0) hC d_H_isIn_8 rfl rfl (Or.inr ⟨_, rfl⟩) ?_
  refine g_getN (host := R_T) hC (fun x h => List.mem_cons_of_mem _ (in_O x h)) (100 + y) (cw_o hy hyal) rfl 1 (by decide) (hC.2.2.1.1 _ mn_136) rfl rfl d_H_isIn_9 ?_
  rw [hynu]
  refine g_icmp_leN (tgt := 19) hC d_H_isIn_12 (by decide) (by have := hc (y / 6); omega) (by omega) (fun h12 => ?_) (fun h12 => ?_)
  · refine g_iconst (v := nI 0) hC d_H_isIn_19 (by decide) ?_
    refine g_zret hC hr hlk (r_nar2 (by decide)) d_H_isIn_20 (by decide) (by decide) (fun ad w hw => ?_)
    exact ⟨nI_zero (by unfold mh; omega), hw⟩
  · refine g_iconst (v := nI 1) hC d_H_isIn_15 (by decide) ?_
    refine g_goto (tgt := 20) hC d_H_isIn_16 (by decide) ?_
    refine g_zret hC hr hlk (r_nar2 (by decide)) d_H_isIn_20 (by decide) (by decide) (fun ad w hw => ?_)
    exact ⟨nI_one (by unfold mh; omega), hw⟩
set_option maxRecDepth 100000 in
set_option maxHeartbeats 4000000 in
theorem h_isAny (l : Launch) (D : va_G) (S : Nat) (σ ρ : rS) (ad0 : Nat → Nat) (w0 : gW) (hInv : INV S σ) (hO : OPS S σ ρ) (y : Nat) (v : Nat → Nat) (hym : mh (s_mk σ) y) (hv : ∀ t, v t ≤ s_mk σ t) : g_M l y_H_isInContextOfAny w_H_isInContextOfAny (rk 2) D gCl g_N [.ref (ad0 1), .ref (ad0 (100 + y)), .int (nI (evv v))] (CW S ρ ad0 w0) 0 0 (fun A => g_Qi D gCl A (fun r ad w => r = nI (pb (∃ s, s < S ∧ 0 < v s ∧ mh (s_cx σ (mtop v s)) y)) ∧ CW S ρ ad0 w0 ad w)) := by
  have hS3 := hInv.S3
  have hInv_top : ∀ v : Nat → Nat, (∀ t, v t ≤ s_mk σ t) → ∀ s, 0 < v s → mh (s_mk σ) (mtop v s) := fun v hv s h0 => Nat.lt_of_lt_of_le (mh_top h0 (Nat.le_trans (hv s) (hInv.1.2.2.1.1 s))) (hv _)
  obtain ⟨hy, hyal, -, -, -, -, -⟩ := hO.al hInv hym
  refine g_of (cc := c_H_isInContextOfAny) (nL := 5) (ret := some .boolean) (by decide) rfl (Nat.le_of_ble_eq_true rfl) ?_
  intro pp ee ss mm bb me cc A hC hr hlk hnm
  refine g_los [0, 1, 2] (lo' := [(0, .ref (ad0 1)), (1, .ref (ad0 (100 + y))), (2, .int (nI (evv v)))]) rfl ?_
  refine g_pure cw_bl (fun hbS => ?_)
  obtain ⟨hb, hSS⟩ := hbS
  refine g_iconst (v := nI 0) hC d_H_isInContextOfAny_0 (by decide) ?_
  refine g_istore_n (i := 3) (lo' := [(3, _), (0, _), (1, _), (2, _)]) hC d_H_isInContextOfAny_1 rfl (by decide) rfl ?_
  refine g_los [1, 2, 3, 0] (lo' := [(0, _), (1, _), (2, _), (3, _)]) rfl ?_
  refine g_loop (ι := Nat) (pc0 := 2) (fun s => 3 - s) (fun s => s ≤ S ∧ ∀ s', s' < s → ¬ (0 < v s' ∧ mh (s_cx σ (mtop v s')) y)) (fun s => CW S ρ ad0 w0) (fun s => [(0, .ref (ad0 1)), (1, .ref (ad0 (100 + y))), (2, .int (nI (evv v))), (3, .int (nI s))]) ?_ 0 (⟨Nat.zero_le _, fun s' h => absurd h (Nat.not_lt_zero _)⟩)
  rintro s hI ih
  try dsimp only at hI ih ⊢
  refine g_iload_n (i := 3) hC d_H_isInContextOfAny_2 rfl rfl ?_
  refine g_aload_n (i := 0) hC d_H_isInContextOfAny_3 rfl rfl (Or.inr ⟨_, rfl⟩) ?_
  refine g_get hC (fun x h => List.mem_cons_of_mem _ (in_H x h)) 1 cw_hi rfl 0 (by decide) (List.mem_cons_of_mem _ m_31) rfl rfl d_H_isInContextOfAny_4 ?_
  refine g_icmp_geN (tgt := 43) hC d_H_isInContextOfAny_7 (by decide) (by first | omega | exact c_lt hb _ _ | exact pb_le _) (by first | omega | exact c_lt hb _ _ | exact pb_le _) (fun h7 => ?_) (fun h7 => ?_)
  · refine g_iconst (v := nI 0) hC d_H_isInContextOfAny_43 (by decide) ?_
    refine g_zret hC hr hlk (r_nar2 (by decide)) d_H_isInContextOfAny_44 (by decide) (by decide) (fun ad w hw => ?_)
    exact ⟨nI_zero (fun ⟨s1, h⟩ => hI.2 s1 (by have := h.1; omega) h.2), hw⟩
  · refine g_aload_n (i := 0) hC d_H_isInContextOfAny_10 rfl rfl (Or.inr ⟨_, rfl⟩) ?_
    refine g_iload_n (i := 2) hC d_H_isInContextOfAny_11 rfl rfl ?_
    refine g_iload_n (i := 3) hC d_H_isInContextOfAny_12 rfl rfl ?_
    refine g_callq hC (g_runV (q := 1) (As := [_, _]) (st := []) hC g_NOK_N (h_last l D S σ ρ ad0 w0 hInv hO v s hv (by omega)) (t_cwV 2 hC.1.2.2.2.2 m_221 m_222 m_223 m_2 k_H_last rfl rfl hd_H_last ⟨by decide, by decide⟩) cw_hi rfl rfl rfl (Nat.le_of_ble_eq_true rfl) d_H_isInContextOfAny_13 ⟨by decide, by decide⟩) (fun r13 => ?_)
    refine g_and (fun e => ?_)
    subst e
    by_cases hv0 : 0 < v s
    · have htm := hInv_top v hv s hv0
      obtain ⟨htl, htal, -, -, -, -, htcx⟩ := hO.al hInv htm
      rw [show va_rf (if v s = 0 then none else some (ad0 (100 + mtop v s))) = .ref (ad0 (100 + mtop v s)) by rw [if_neg (by omega)]; rfl]
      refine g_astore (i := 4) (lo' := [(4, _), (0, _), (1, _), (2, _), (3, _)]) hC d_H_isInContextOfAny_16 (Or.inr ⟨_, rfl⟩) (by decide) rfl ?_
      refine g_aload (i := 4) hC d_H_isInContextOfAny_18 rfl (Or.inr ⟨_, rfl⟩) ?_
      refine g_ifnullR hC d_H_isInContextOfAny_20 ?_
      refine g_aload_n (i := 1) hC d_H_isInContextOfAny_23 rfl rfl (Or.inr ⟨_, rfl⟩) ?_
      refine g_aload (i := 4) hC d_H_isInContextOfAny_24 rfl (Or.inr ⟨_, rfl⟩) ?_
      refine g_getN (host := R_T) hC (fun x h => List.mem_cons_of_mem _ (in_O x h)) (100 + mtop v s) (cw_o htl htal) rfl 4 (by decide) (hC.2.2.1.1 _ mn_142) rfl rfl d_H_isInContextOfAny_26 ?_
      rw [htcx]
      refine g_calli hC (g_runS (As := [_, _]) (st := []) hC g_NOK_N (h_isIn l D S σ ρ ad0 w0 hInv hO y (s_cx σ (mtop v s)) hym (hInv.cx6 htm)) (t_cwS 2 hC.1.2.2.2.2 m_227 m_228 m_2 k_H_isIn rfl rfl hd_H_isIn ⟨by decide, by decide⟩) rfl rfl (Nat.le_of_ble_eq_true rfl) d_H_isInContextOfAny_29 ⟨by decide, by decide⟩) (fun r29 => ?_)
      refine g_and (fun e => ?_)
      subst e
      refine g_if_eqN (tgt := 37) hC d_H_isInContextOfAny_32 (by decide) (pb_le _) (fun h32 => ?_) (fun h32 => ?_)
      · have g32 := pb_0 h32
        refine g_iinc (i := 3) (k := 4) (lo' := [(3, _), (4, _), (0, _), (1, _), (2, _)]) hC d_H_isInContextOfAny_37 rfl (nI_inc _) (by decide) rfl ?_
        refine g_goto (tgt := 2) hC d_H_isInContextOfAny_40 (by decide) ?_
        refine g_los [2, 3, 4, 0] rfl ?_
        exact ih (s + 1) ⟨by omega, lt_s hI.2 (fun q => g32 q.2)⟩ (by omega)
      · have g32 := pb_1 h32
        refine g_iconst (v := nI 1) hC d_H_isInContextOfAny_35 (by decide) ?_
        refine g_zret hC hr hlk (r_nar2 (by decide)) d_H_isInContextOfAny_36 (by decide) (by decide) (fun ad w hw => ?_)
        exact ⟨nI_one ⟨s, by omega, hv0, g32⟩, hw⟩
    · rw [show va_rf (if v s = 0 then none else some (ad0 (100 + mtop v s))) = .null by rw [if_pos (by omega)]; rfl]
      refine g_astore (i := 4) (lo' := [(4, _), (0, _), (1, _), (2, _), (3, _)]) hC d_H_isInContextOfAny_16 (Or.inl rfl) (by decide) rfl ?_
      refine g_aload (i := 4) hC d_H_isInContextOfAny_18 rfl (Or.inl rfl) ?_
      refine g_ifnullZ (tgt := 37) hC d_H_isInContextOfAny_20 (by decide) ?_
      refine g_iinc (i := 3) (k := 4) (lo' := [(3, _), (4, _), (0, _), (1, _), (2, _)]) hC d_H_isInContextOfAny_37 rfl (nI_inc _) (by decide) rfl ?_
      refine g_goto (tgt := 2) hC d_H_isInContextOfAny_40 (by decide) ?_
      refine g_los [2, 3, 4, 0] rfl ?_
      exact ih (s + 1) ⟨by omega, lt_s hI.2 (fun q => by omega)⟩ (by omega)
end
section
def r_of (ad0 : Nat → Nat) (v : Nat → Nat) (r : Option Nat) : Option Nat := match r with
  | none => none
  | some t => some (ad0 (100 + mtop v t))
theorem INV.mkS0 {S : Nat} {σ : rS} (h : INV S σ) {t : Nat} (ht : S ≤ t) : s_mk σ t = 0 := by
  unfold s_mk
  split
  · exact h.1.2.1 t ht
  · rfl
set_option maxRecDepth 100000 in
set_option maxHeartbeats 4000000 in
theorem h_latest (l : Launch) (D : va_G) (S : Nat) (σ ρ : rS) (ad0 : Nat → Nat) (w0 : gW) (hInv : INV S σ) (hO : OPS S σ ρ) (x : Nat) (v : Nat → Nat) (hxm : mh (s_mk σ) x) (hM : MC (s_mk σ) (s_cx σ) v) : g_M l y_H_latestUnknownTo w_H_latestUnknownTo (rk 3) D gCl g_N [.ref (ad0 1), .ref (ad0 (100 + x)), .int (nI (evv v))] (CW S ρ ad0 w0) 0 0 (fun A => g_Qq D gCl A (fun r ad w => r = r_of ad0 v (mf (mcand (s_cx σ) x v)) ∧ CW S ρ ad0 w0 ad w)) := by
  have hS3 := hInv.S3
  have hInv_top : ∀ v : Nat → Nat, (∀ t, v t ≤ s_mk σ t) → ∀ s, 0 < v s → mh (s_mk σ) (mtop v s) := fun v hv s h0 => Nat.lt_of_lt_of_le (mh_top h0 (Nat.le_trans (hv s) (hInv.1.2.2.1.1 s))) (hv _)
  obtain ⟨hx, hxal, -, -, -, -, hxcx⟩ := hO.al hInv hxm
  refine g_of (cc := c_H_latestUnknownTo) (nL := 5) (ret := some (.object "TombstoneSites$Operation")) (by decide) rfl (Nat.le_of_ble_eq_true rfl) ?_
  intro pp ee ss mm bb me cc A hC hr hlk hnm
  refine g_los [0, 1, 2] (lo' := [(0, .ref (ad0 1)), (1, .ref (ad0 (100 + x))), (2, .int (nI (evv v)))]) rfl ?_
  refine g_pure cw_bl (fun hbS => ?_)
  obtain ⟨hb, hSS⟩ := hbS
  refine g_iconst (v := nI 0) hC d_H_latestUnknownTo_0 (by decide) ?_
  refine g_istore_n (i := 3) (lo' := [(3, _), (0, _), (1, _), (2, _)]) hC d_H_latestUnknownTo_1 rfl (by decide) rfl ?_
  refine g_los [1, 2, 3, 0] (lo' := [(0, _), (1, _), (2, _), (3, _)]) rfl ?_
  refine g_loop (ι := Nat) (pc0 := 2) (fun t => 3 - t) (fun t => t ≤ S ∧ ∀ t', t' < t → ¬ mcand (s_cx σ) x v t') (fun t => CW S ρ ad0 w0) (fun t => [(0, .ref (ad0 1)), (1, .ref (ad0 (100 + x))), (2, .int (nI (evv v))), (3, .int (nI t))]) ?_ 0 (⟨Nat.zero_le _, fun s' h => absurd h (Nat.not_lt_zero _)⟩)
  rintro t hI ih
  try dsimp only at hI ih ⊢
  refine g_iload_n (i := 3) hC d_H_latestUnknownTo_2 rfl rfl ?_
  refine g_aload_n (i := 0) hC d_H_latestUnknownTo_3 rfl rfl (Or.inr ⟨_, rfl⟩) ?_
  refine g_get hC (fun x h => List.mem_cons_of_mem _ (in_H x h)) 1 cw_hi rfl 0 (by decide) (List.mem_cons_of_mem _ m_31) rfl rfl d_H_latestUnknownTo_4 ?_
  refine g_icmp_geN (tgt := 54) hC d_H_latestUnknownTo_7 (by decide) (by first | omega | exact c_lt hb _ _ | exact pb_le _) (by first | omega | exact c_lt hb _ _ | exact pb_le _) (fun h7 => ?_) (fun h7 => ?_)
  · refine g_null hC d_H_latestUnknownTo_54 ?_
    refine g_aret (r := none) hC hr hlk d_H_latestUnknownTo_55 (by decide) (by decide) (fun ad w hw => ?_)
    exact ⟨by rw [mf_not (fun j hj => (by
      by_cases q : j < S
      · exact hI.2 j (by omega)
      · intro z
        have := hM.1 j
        rw [hInv.mkS0 (by omega)] at this
        have := z.2.2.1
        omega))]; rfl, hw⟩
  · refine g_aload_n (i := 0) hC d_H_latestUnknownTo_10 rfl rfl (Or.inr ⟨_, rfl⟩) ?_
    refine g_iload_n (i := 2) hC d_H_latestUnknownTo_11 rfl rfl ?_
    refine g_iload_n (i := 3) hC d_H_latestUnknownTo_12 rfl rfl ?_
    refine g_callq hC (g_runV (q := 1) (As := [_, _]) (st := []) hC g_NOK_N (h_last l D S σ ρ ad0 w0 hInv hO v t hM.1 (by omega)) (t_cwV 2 hC.1.2.2.2.2 m_221 m_222 m_223 m_2 k_H_last rfl rfl hd_H_last ⟨by decide, by decide⟩) cw_hi rfl rfl rfl (Nat.le_of_ble_eq_true rfl) d_H_latestUnknownTo_13 ⟨by decide, by decide⟩) (fun r13 => ?_)
    refine g_and (fun e => ?_)
    subst e
    by_cases hv0 : 0 < v t
    · have htm := hInv_top v hM.1 t hv0
      obtain ⟨htl, htal, -, -, -, -, htcx⟩ := hO.al hInv htm
      have htd := mtop_d (hM.le6 hInv.1.2.2.1 t)
      rw [show va_rf (if v t = 0 then none else some (ad0 (100 + mtop v t))) = .ref (ad0 (100 + mtop v t)) by rw [if_neg (by omega)]; rfl]
      refine g_astore (i := 4) (lo' := [(4, _), (0, _), (1, _), (2, _), (3, _)]) hC d_H_latestUnknownTo_16 (Or.inr ⟨_, rfl⟩) (by decide) rfl ?_
      refine g_aload (i := 4) hC d_H_latestUnknownTo_18 rfl (Or.inr ⟨_, rfl⟩) ?_
      refine g_ifnullR hC d_H_latestUnknownTo_20 ?_
      refine g_aload (i := 4) hC d_H_latestUnknownTo_23 rfl (Or.inr ⟨_, rfl⟩) ?_
      refine g_aload_n (i := 1) hC d_H_latestUnknownTo_25 rfl rfl (Or.inr ⟨_, rfl⟩) ?_
      refine g_getN (host := R_T) hC (fun x h => List.mem_cons_of_mem _ (in_O x h)) (100 + x) (cw_o hx hxal) rfl 4 (by decide) (hC.2.2.1.1 _ mn_142) rfl rfl d_H_latestUnknownTo_26 ?_
      rw [hxcx]
      refine g_calli hC (g_runS (As := [_, _]) (st := []) hC g_NOK_N (h_isIn l D S σ ρ ad0 w0 hInv hO (mtop v t) (s_cx σ x) htm (hInv.cx6 hxm)) (t_cwS 2 hC.1.2.2.2.2 m_227 m_228 m_2 k_H_isIn rfl rfl hd_H_isIn ⟨by decide, by decide⟩) rfl rfl (Nat.le_of_ble_eq_true rfl) d_H_latestUnknownTo_29 ⟨by decide, by decide⟩) (fun r29 => ?_)
      refine g_and (fun e => ?_)
      subst e
      refine g_if_neN (tgt := 48) hC d_H_latestUnknownTo_32 (by decide) (pb_le _) (fun h32 => ?_) (fun h32 => ?_)
      · have g32 := pb_1 h32
        refine g_iinc (i := 3) (k := 4) (lo' := [(3, _), (4, _), (0, _), (1, _), (2, _)]) hC d_H_latestUnknownTo_48 rfl (nI_inc _) (by decide) rfl ?_
        refine g_goto (tgt := 2) hC d_H_latestUnknownTo_51 (by decide) ?_
        refine g_los [2, 3, 4, 0] rfl ?_
        exact ih (t + 1) ⟨by omega, lt_s hI.2 (fun q => by have := q.1; unfold mh at g32; rw [htd.1, htd.2] at g32; omega)⟩ (by omega)
      · have g32 := pb_0 h32
        refine g_aload_n (i := 0) hC d_H_latestUnknownTo_35 rfl rfl (Or.inr ⟨_, rfl⟩) ?_
        refine g_aload (i := 4) hC d_H_latestUnknownTo_36 rfl (Or.inr ⟨_, rfl⟩) ?_
        refine g_iload_n (i := 2) hC d_H_latestUnknownTo_38 rfl rfl ?_
        refine g_calli hC (g_runV (q := 1) (As := [_, _]) (st := []) hC g_NOK_N (h_isAny l D S σ ρ ad0 w0 hInv hO (mtop v t) v htm hM.1) (t_cwV 2 hC.1.2.2.2.2 m_230 m_232 ms_8 m_2 k_H_isInContextOfAny rfl rfl hd_H_isInContextOfAny ⟨by decide, by decide⟩) cw_hi rfl rfl rfl (Nat.le_of_ble_eq_true rfl) d_H_latestUnknownTo_39 ⟨by decide, by decide⟩) (fun r39 => ?_)
        refine g_and (fun e => ?_)
        subst e
        refine g_if_neN (tgt := 48) hC d_H_latestUnknownTo_42 (by decide) (pb_le _) (fun h42 => ?_) (fun h42 => ?_)
        · have g42 := pb_1 h42
          refine g_iinc (i := 3) (k := 4) (lo' := [(3, _), (4, _), (0, _), (1, _), (2, _)]) hC d_H_latestUnknownTo_48 rfl (nI_inc _) (by decide) rfl ?_
          refine g_goto (tgt := 2) hC d_H_latestUnknownTo_51 (by decide) ?_
          refine g_los [2, 3, 4, 0] rfl ?_
          exact ih (t + 1) ⟨by omega, lt_s hI.2 (fun q => by
            obtain ⟨s1, h1, h2, h3⟩ := g42
            have h18 := hM.lt18 hInv.1.2.2.1 (mh_top h2 (hM.le6 hInv.1.2.2.1 s1))
            have := q.2.2.2 _ h18 (mh_top h2 (hM.le6 hInv.1.2.2.1 s1))
            unfold mh at h3
            rw [htd.1, htd.2] at h3
            omega)⟩ (by omega)
        · have g42 := pb_0 h42
          refine g_aload (i := 4) hC d_H_latestUnknownTo_45 rfl (Or.inr ⟨_, rfl⟩) ?_
          refine g_aret (r := some (ad0 (100 + mtop v t))) hC hr hlk d_H_latestUnknownTo_47 (by decide) (by decide) (fun ad w hw => ?_)
          have hc : mcand (s_cx σ) x v t := by
            have a1 : s_cx σ x t < v t := by
              unfold mh at g32
              rw [htd.1, htd.2] at g32
              omega
            refine ⟨a1, mmx_tops hInv.1.2.2.1 hM (by omega) hv0 (fun s1 hs1 h1 => ?_)⟩
            apply Classical.byContradiction
            intro q
            refine g42 ⟨s1, ?_, h1, ?_⟩
            · apply Nat.lt_of_not_le
              intro z
              have := hM.1 s1
              rw [hInv.mkS0 z] at this
              omega
            · unfold mh
              rw [htd.1, htd.2]
              omega
          exact ⟨by rw [mf_is (by omega) hc (fun j hj => hI.2 j hj)]; rfl, hw⟩
    · rw [show va_rf (if v t = 0 then none else some (ad0 (100 + mtop v t))) = .null by rw [if_pos (by omega)]; rfl]
      refine g_astore (i := 4) (lo' := [(4, _), (0, _), (1, _), (2, _), (3, _)]) hC d_H_latestUnknownTo_16 (Or.inl rfl) (by decide) rfl ?_
      refine g_aload (i := 4) hC d_H_latestUnknownTo_18 rfl (Or.inl rfl) ?_
      refine g_ifnullZ (tgt := 48) hC d_H_latestUnknownTo_20 (by decide) ?_
      refine g_iinc (i := 3) (k := 4) (lo' := [(3, _), (4, _), (0, _), (1, _), (2, _)]) hC d_H_latestUnknownTo_48 rfl (nI_inc _) (by decide) rfl ?_
      refine g_goto (tgt := 2) hC d_H_latestUnknownTo_51 (by decide) ?_
      refine g_los [2, 3, 4, 0] rfl ?_
      exact ih (t + 1) ⟨by omega, lt_s hI.2 (fun q => by have := q.2.2.1; omega)⟩ (by omega)
def PV (σ : rS) (x : Nat) (v : Nat → Nat) : Prop := mh (s_mk σ) x ∧ MC (s_mk σ) (s_cx σ) v ∧ MX (s_mk σ) (s_cx σ) x v
/-- what the row of known places says is right -/
def MEM (S : Nat) (σ ρ : rS) : Prop := ∀ j, ρ 50 j ≠ 0 → ∃ x v, PV σ x v ∧ j = x / 6 * p8 S + evv v ∧ ρ 50 j = s_pl σ x v + 1
def KN (ρ ρ' : rS) : Prop := ∀ k, k ≠ 50 → ρ' k = ρ k
theorem KN.ops {S : Nat} {σ ρ ρ' : rS} (h : KN ρ ρ') (hO : OPS S σ ρ) : OPS S σ ρ' := by
  intro o ho
  rw [h 40 (by omega), h 41 (by omega), h (60 + o) (by omega)]
  exact hO o ho
theorem KN.trans {ρ ρ' ρ2 : rS} (h : KN ρ ρ') (h' : KN ρ' ρ2) : KN ρ ρ2 := fun k hk => (h' k hk).trans (h k hk)
theorem PV.key {S : Nat} {σ : rS} (hInv : INV S σ) {x : Nat} {v : Nat → Nat} (h : PV σ x v) : x / 6 < S ∧ evv v < p8 S ∧ (∀ t, v t ≤ 6) ∧ (∀ t, 3 ≤ t → v t = 0) ∧ x = 6 * (x / 6) + v (x / 6) := by
  obtain ⟨a, b, c⟩ := h
  have h6 : ∀ t, v t ≤ 6 := fun t => b.le6 hInv.1.2.2.1 t
  have h3 : ∀ t, 3 ≤ t → v t = 0 := fun t ht => by
    have := b.1 t
    rw [hInv.1.2.2.1.2.1 t ht] at this
    omega
  have hx : x / 6 < S := by
    apply Nat.lt_of_not_le
    intro q
    unfold mh at a
    rw [hInv.mkS0 q] at a
    omega
  refine ⟨hx, ?_, h6, h3, ?_⟩
  · have a0 := h6 0
    have a1 := h6 1
    have a2 := h6 2
    unfold evv p8
    rcases hInv.1.1 with e | e
    · rw [if_pos e]
      have := b.1 2
      rw [hInv.mkS0 (by omega)] at this
      omega
    · rw [if_neg (by omega)]
      omega
  · have e1 := (hInv.1.2.2.1.2.2 x a).1
    have e2 := c.2.2 (x / 6)
    have e3 := c.2.1
    unfold mh at e3
    omega
theorem PV.inj {S : Nat} {σ : rS} (hInv : INV S σ) {x y : Nat} {u v : Nat → Nat} (h : PV σ x u) (h' : PV σ y v) (e : x / 6 * p8 S + evv u = y / 6 * p8 S + evv v) : x = y ∧ u = v := by
  obtain ⟨a1, a2, a3, a4, a5⟩ := h.key hInv
  obtain ⟨b1, b2, b3, b4, b5⟩ := h'.key hInv
  have hd : x / 6 = y / 6 ∧ evv u = evv v := by
    unfold p8 at *
    rcases hInv.1.1 with q | q
    · rw [if_pos q] at *
      omega
    · rw [if_neg (by omega)] at *
      omega
  have hv := evv_inj a3 b3 a4 b4 hd.2
  refine ⟨?_, hv⟩
  rw [a5, b5, hd.1, hv]
theorem MEM.put {S : Nat} {σ ρ : rS} (h : MEM S σ ρ) {x : Nat} {v : Nat → Nat} (hp : PV σ x v) : MEM S σ (u2 ρ 50 (x / 6 * p8 S + evv v) (s_pl σ x v + 1)) := by
  intro j hj
  rw [u2_in] at hj ⊢
  by_cases q : j = x / 6 * p8 S + evv v
  · rw [if_pos q]
    exact ⟨x, v, hp, q, rfl⟩
  · rw [if_neg q] at hj ⊢
    exact h j hj
theorem nI_m1e {a : Nat} (ha : a < 2 ^ 31) : nI a - 1 = -1 ↔ a = 0 := by
  constructor
  · intro h
    apply Classical.byContradiction
    intro e
    have := (en_lt ha).mp (by rw [h]; decide +kernel)
    exact e this
  · intro e
    subst e
    decide +kernel
theorem pl_bound18 {S : Nat} {σ : rS} (hInv : INV S σ) {x : Nat} {v : Nat → Nat} (h : PV σ x v) : s_pl σ x v ≤ 18 := by
  have := mplace_in hInv.1.2.2.1 (fun o => if σ 2 o = 0 then 1 else 0) (fun o ho => (hInv.1.2.2.2 o ho).1) _ _ _ rfl h.2.1 h.2.2
  have := mcnt_18 (σ 2) v
  unfold s_pl
  omega
set_option maxRecDepth 100000 in
set_option maxHeartbeats 4000000 in
theorem h_placeFor_step (l : Launch) (D : va_G) (S : Nat) (σ ρ : rS) (ad0 : Nat → Nat) (w0 : gW) (hInv : INV S σ) (hO : OPS S σ ρ) (d x : Nat) (v : Nat → Nat) (hMe : MEM S σ ρ) (hp : PV σ x v) (hz : msz v < d + 1) (hd18 : d + 1 ≤ 18) (ihp : ∀ (ρ : rS) (x : Nat) (v : Nat → Nat), OPS S σ ρ → MEM S σ ρ → PV σ x v → msz v < d → d ≤ 18 → g_M l y_H_placeFor w_H_placeFor (rk (4 + d)) D gCl g_N [.ref (ad0 1), .ref (ad0 (100 + x)), .int (nI (evv v)), .int (nI d)] (CW S ρ ad0 w0) 0 0 (fun A => g_Qi D gCl A (fun r ad w => ∃ ρ', (MEM S σ ρ' ∧ KN ρ ρ' ∧ r = nI (s_pl σ x v)) ∧ CW S ρ' ad0 w0 ad w))) : g_M l y_H_placeFor w_H_placeFor (rk (4 + (d + 1))) D gCl g_N [.ref (ad0 1), .ref (ad0 (100 + x)), .int (nI (evv v)), .int (nI (d + 1))] (CW S ρ ad0 w0) 0 0 (fun A => g_Qi D gCl A (fun r ad w => ∃ ρ', (MEM S σ ρ' ∧ KN ρ ρ' ∧ r = nI (s_pl σ x v)) ∧ CW S ρ' ad0 w0 ad w)) := by
  have hS3 := hInv.S3
  have hInv_top : ∀ v : Nat → Nat, (∀ t, v t ≤ s_mk σ t) → ∀ s, 0 < v s → mh (s_mk σ) (mtop v s) := fun v hv s h0 => Nat.lt_of_lt_of_le (mh_top h0 (Nat.le_trans (hv s) (hInv.1.2.2.1.1 s))) (hv _)
  obtain ⟨hx, hxal, hxsi, -, hxch, hxpo, hxcx⟩ := hO.al hInv hp.1
  obtain ⟨hxS, hvp, hv6, hv3, -⟩ := hp.key hInv
  have hkl : (x / 6 * p8 S + evv v) < S * p8 S := by
    have : (x / 6 + 1) * p8 S ≤ S * p8 S := Nat.mul_le_mul_right _ hxS
    rw [Nat.succ_mul] at this
    omega
  refine g_of (cc := c_H_placeFor) (nL := 9) (ret := some .int) (by decide) rfl (Nat.le_of_ble_eq_true rfl) ?_
  intro pp ee ss mm bb me cc A hC hr hlk hnm
  refine g_los [0, 1, 2, 3] (lo' := [(0, .ref (ad0 1)), (1, .ref (ad0 (100 + x))), (2, .int (nI (evv v))), (3, .int (nI (d + 1)))]) rfl ?_
  refine g_pure cw_bl (fun hbS => ?_)
  obtain ⟨hb, hSS⟩ := hbS
  refine g_iload_n (i := 2) hC d_H_placeFor_0 rfl rfl ?_
  refine g_aload_n (i := 1) hC d_H_placeFor_1 rfl rfl (Or.inr ⟨_, rfl⟩) ?_
  refine g_getN (host := R_T) hC (fun x h => List.mem_cons_of_mem _ (in_O x h)) (100 + x) (cw_o hx hxal) rfl 4 (by decide) (hC.2.2.1.1 _ mn_142) rfl rfl d_H_placeFor_2 ?_
  rw [hxcx]
  refine g_icmp_eqN (tgt := 12) hC d_H_placeFor_5 (by decide) (by have := evv_lt hv6; omega) (by have := evv_lt (hInv.cx6 hp.1); omega) (fun h5 => ?_) (fun h5 => ?_)
  · refine g_aload_n (i := 1) hC d_H_placeFor_12 rfl rfl (Or.inr ⟨_, rfl⟩) ?_
    refine g_getN (host := R_T) hC (fun x h => List.mem_cons_of_mem _ (in_O x h)) (100 + x) (cw_o hx hxal) rfl 3 (by decide) (hC.2.2.1.1 _ mn_140) rfl rfl d_H_placeFor_13 ?_
    refine g_iret hC hr hlk d_H_placeFor_16 (by decide) (by decide) (fun ad w hw => ?_)
    refine ⟨ρ, ⟨hMe, fun _ _ => rfl, ?_⟩, hw⟩
    have e : v = s_cx σ x := evv_inj hv6 (hInv.cx6 hp.1) (hp.key hInv).2.2.2.1 (fun t ht => if_neg (by omega)) h5
    show nI (ρ (60 + x) 1) = nI (mplace (σ 2) (σ 3) (s_cx σ) x v)
    rw [hxpo, mplace_own (fun t _ => by rw [e])]
  · refine g_iload_n (i := 3) hC d_H_placeFor_8 rfl rfl ?_
    refine g_if_gtN (tgt := 17) hC d_H_placeFor_9 (by decide) (by omega) (fun h9 => ?_) (fun h9 => ?_)
    · refine g_aload_n (i := 1) hC d_H_placeFor_17 rfl rfl (Or.inr ⟨_, rfl⟩) ?_
      refine g_getN (host := R_T) hC (fun x h => List.mem_cons_of_mem _ (in_O x h)) (100 + x) (cw_o hx hxal) rfl 0 (by decide) (hC.2.2.1.1 _ mn_133) rfl rfl d_H_placeFor_18 ?_
      refine g_aload_n (i := 0) hC d_H_placeFor_21 rfl rfl (Or.inr ⟨_, rfl⟩) ?_
      refine g_get hC (fun x h => List.mem_cons_of_mem _ (in_H x h)) 1 cw_hi rfl 0 (by decide) (List.mem_cons_of_mem _ m_31) rfl rfl d_H_placeFor_22 ?_
      refine g_calli hC (g_runS (As := [_]) (st := [_]) hC g_NOK_N (v_many l D (CW S ρ ad0 w0) S hSS) (t_cwS 1 hC.1.2.2.2.2 m_25 m_26 m_3 k_V_howMany rfl rfl hd_V_howMany ⟨by simp [rk] <;> omega, by simp [rk] <;> omega⟩) rfl rfl (Nat.le_of_ble_eq_true rfl) d_H_placeFor_25 ⟨by simp [rk], by simp [rk]⟩) (fun r25 => ?_)
      refine g_and (fun e => ?_)
      subst e
      rw [hxsi]
      refine g_imulN hC d_H_placeFor_28 ?_
      refine g_iload_n (i := 2) hC d_H_placeFor_29 rfl rfl ?_
      refine g_iaddN hC d_H_placeFor_30 ?_
      refine g_istore (i := 4) (lo' := [(4, _), (0, _), (1, _), (2, _), (3, _)]) hC d_H_placeFor_31 (by decide) rfl ?_
      refine g_aload_n (i := 0) hC d_H_placeFor_33 rfl rfl (Or.inr ⟨_, rfl⟩) ?_
      refine g_get hC (fun x h => List.mem_cons_of_mem _ (in_H x h)) 1 cw_hi rfl 2 (by decide) (List.mem_cons_of_mem _ m_33) rfl rfl d_H_placeFor_34 ?_
      refine g_iload (i := 4) hC d_H_placeFor_37 rfl ?_
      refine cl_kn hC hSS hkl d_H_placeFor_39 ?_
      refine g_iconst (v := -1) hC d_H_placeFor_40 (by decide) ?_
      refine g_icmp_eq (tgt := 52) hC d_H_placeFor_41 (by decide) (fun h41 => ?_) (fun h41 => ?_)
      · refine g_aload_n (i := 0) hC d_H_placeFor_52 rfl rfl (Or.inr ⟨_, rfl⟩) ?_
        refine g_aload_n (i := 1) hC d_H_placeFor_53 rfl rfl (Or.inr ⟨_, rfl⟩) ?_
        refine g_iload_n (i := 2) hC d_H_placeFor_54 rfl rfl ?_
        refine g_callq hC (g_runV (q := 1) (As := [_, _]) (st := []) hC g_NOK_N (h_latest l D S σ ρ ad0 w0 hInv hO x v hp.1 hp.2.1) (t_cwV 2 hC.1.2.2.2.2 m_217 m_219 ms_7 m_2 k_H_latestUnknownTo rfl rfl hd_H_latestUnknownTo ⟨by simp [rk] <;> omega, by simp [rk] <;> omega⟩) cw_hi rfl rfl rfl (Nat.le_of_ble_eq_true rfl) d_H_placeFor_55 ⟨by simp [rk], by simp [rk]⟩) (fun r55 => ?_)
        refine g_and (fun e => ?_)
        subst e
        rcases hmf : mf (mcand (s_cx σ) x v) with _ | t
        · rw [show va_rf (r_of ad0 v none) = .null from rfl]
          refine g_astore (i := 5) (lo' := [(5, _), (4, _), (0, _), (1, _), (2, _), (3, _)]) hC d_H_placeFor_58 (Or.inl rfl) (by decide) rfl ?_
          refine g_aload (i := 5) hC d_H_placeFor_60 rfl (Or.inl rfl) ?_
          refine g_ifnonnullZ hC d_H_placeFor_62 ?_
          refine g_aload_n (i := 1) hC d_H_placeFor_65 rfl rfl (Or.inr ⟨_, rfl⟩) ?_
          refine g_getN (host := R_T) hC (fun x h => List.mem_cons_of_mem _ (in_O x h)) (100 + x) (cw_o hx hxal) rfl 3 (by decide) (hC.2.2.1.1 _ mn_140) rfl rfl d_H_placeFor_66 ?_
          refine g_iret hC hr hlk d_H_placeFor_69 (by decide) (by decide) (fun ad w hw => ?_)
          refine ⟨ρ, ⟨hMe, fun _ _ => rfl, ?_⟩, hw⟩
          show nI (ρ (60 + x) 1) = nI (mplace (σ 2) (σ 3) (s_cx σ) x v)
          rw [hxpo, mplace_none hmf]
        · rw [show va_rf (r_of ad0 v (some t)) = .ref (ad0 (100 + mtop v t)) from rfl]
          have hc := mf_some hmf
          have hv0 := hc.2.2.1
          have htm := hInv_top v hp.2.1.1 t hv0
          obtain ⟨htl, htal, htsi, -, htch, -, -⟩ := hO.al hInv htm
          have htd := mtop_d (hv6 t)
          have hzz := msz_md hc.2.1 hv0
          have hp1 : PV σ x (md v t) := ⟨hp.1, hp.2.1.dn hInv.1.2.2.1 hc.2, hp.2.2.dn hc⟩
          have hp2 : PV σ (mtop v t) (md v t) := ⟨htm, hp.2.1.dn hInv.1.2.2.1 hc.2, MX.top hInv.1.2.2.1 hp.2.1 hc.2⟩
          refine g_astore (i := 5) (lo' := [(5, _), (4, _), (0, _), (1, _), (2, _), (3, _)]) hC d_H_placeFor_58 (Or.inr ⟨_, rfl⟩) (by decide) rfl ?_
          refine g_aload (i := 5) hC d_H_placeFor_60 rfl (Or.inr ⟨_, rfl⟩) ?_
          refine g_ifnonnullR (tgt := 70) hC d_H_placeFor_62 (by decide) ?_
          refine g_iload_n (i := 2) hC d_H_placeFor_70 rfl rfl ?_
          refine g_aload (i := 5) hC d_H_placeFor_71 rfl (Or.inr ⟨_, rfl⟩) ?_
          refine g_getN (host := R_T) hC (fun x h => List.mem_cons_of_mem _ (in_O x h)) (100 + mtop v t) (cw_o htl htal) rfl 0 (by decide) (hC.2.2.1.1 _ mn_133) rfl rfl d_H_placeFor_73 ?_
          rw [htsi, htd.1]
          refine g_calli hC (g_runS (As := [_, _]) (st := []) hC g_NOK_N (v_less l D (CW S ρ ad0 w0) v t hc.2.1 hv0) (t_cwS 2 hC.1.2.2.2.2 m_234 m_235 m_3 k_V_withOneLess rfl rfl hd_V_withOneLess ⟨by simp [rk] <;> omega, by simp [rk] <;> omega⟩) rfl rfl (Nat.le_of_ble_eq_true rfl) d_H_placeFor_76 ⟨by simp [rk], by simp [rk]⟩) (fun r76 => ?_)
          refine g_and (fun e => ?_)
          subst e
          refine g_istore (i := 6) (lo' := [(6, _), (5, _), (4, _), (0, _), (1, _), (2, _), (3, _)]) hC d_H_placeFor_79 (by decide) rfl ?_
          refine g_aload_n (i := 0) hC d_H_placeFor_81 rfl rfl (Or.inr ⟨_, rfl⟩) ?_
          refine g_aload_n (i := 1) hC d_H_placeFor_82 rfl rfl (Or.inr ⟨_, rfl⟩) ?_
          refine g_iload (i := 6) hC d_H_placeFor_83 rfl ?_
          refine g_iload_n (i := 3) hC d_H_placeFor_85 rfl rfl ?_
          refine g_iconst (v := nI 1) hC d_H_placeFor_86 (by decide) ?_
          refine g_isubN hC d_H_placeFor_87 (by omega) ?_
          rw [Nat.add_sub_cancel]
          refine g_calli hC (g_runV (q := 1) (As := [_, _, _]) (st := []) hC g_NOK_N (ihp ρ x (md v t) hO hMe hp1 (by omega) (by omega)) (t_cwV 3 hC.1.2.2.2.2 m_237 m_215 ms_6 m_2 k_H_placeFor rfl rfl hd_H_placeFor ⟨by simp [rk] <;> omega, by simp [rk] <;> omega⟩) cw_hi rfl rfl rfl (Nat.le_of_ble_eq_true rfl) d_H_placeFor_88 ⟨by simp [rk], by simp [rk]⟩) (fun r88 => ?_)
          refine g_ex (fun ρ1 => g_and (fun e => ?_))
          obtain ⟨hM1, hK1, rfl⟩ := e
          refine g_istore (i := 7) (lo' := [(7, _), (6, _), (5, _), (4, _), (0, _), (1, _), (2, _), (3, _)]) hC d_H_placeFor_91 (by decide) rfl ?_
          refine g_aload_n (i := 0) hC d_H_placeFor_93 rfl rfl (Or.inr ⟨_, rfl⟩) ?_
          refine g_aload (i := 5) hC d_H_placeFor_94 rfl (Or.inr ⟨_, rfl⟩) ?_
          refine g_iload (i := 6) hC d_H_placeFor_96 rfl ?_
          refine g_iload_n (i := 3) hC d_H_placeFor_98 rfl rfl ?_
          refine g_iconst (v := nI 1) hC d_H_placeFor_99 (by decide) ?_
          refine g_isubN hC d_H_placeFor_100 (by omega) ?_
          rw [Nat.add_sub_cancel]
          refine g_calli hC (g_runV (q := 1) (As := [_, _, _]) (st := []) hC g_NOK_N (ihp ρ1 (mtop v t) (md v t) (hK1.ops hO) hM1 hp2 (by omega) (by omega)) (t_cwV 3 hC.1.2.2.2.2 m_237 m_215 ms_6 m_2 k_H_placeFor rfl rfl hd_H_placeFor ⟨by simp [rk] <;> omega, by simp [rk] <;> omega⟩) cw_hi rfl rfl rfl (Nat.le_of_ble_eq_true rfl) d_H_placeFor_101 ⟨by simp [rk], by simp [rk]⟩) (fun r101 => ?_)
          refine g_ex (fun ρ2 => g_and (fun e => ?_))
          obtain ⟨hM2, hKb, rfl⟩ := e
          refine g_istore (i := 8) (lo' := [(8, _), (7, _), (6, _), (5, _), (4, _), (0, _), (1, _), (2, _), (3, _)]) hC d_H_placeFor_104 (by decide) rfl ?_
          have hK2 := hK1.trans hKb
          have hval : mmv (ρ2 (60 + x) 0) (x / 6) (s_pl σ x (md v t)) (ρ2 (60 + mtop v t) 0) (mtop v t / 6) (s_pl σ (mtop v t) (md v t)) = s_pl σ x v := by
            rw [hK2 (60 + x) (by omega), hK2 (60 + mtop v t) (by omega), hxch, htch, htd.1, mmv_flag (hInv.chr hp.1) (hInv.chr htm)]
            exact (mplace_some hmf).symm
          have hxa2 : ρ2 41 x ≠ 0 := by
            rw [hK2 41 (by omega)]
            exact hxal
          have hta2 : ρ2 41 (mtop v t) ≠ 0 := by
            rw [hK2 41 (by omega)]
            exact htal
          refine g_pure cw_bl (fun hbS2 => ?_)
          obtain ⟨hb2, -⟩ := hbS2
          refine g_aload_n (i := 0) hC d_H_placeFor_106 rfl rfl (Or.inr ⟨_, rfl⟩) ?_
          refine g_get hC (fun x h => List.mem_cons_of_mem _ (in_H x h)) 1 cw_hi rfl 2 (by decide) (List.mem_cons_of_mem _ m_33) rfl rfl d_H_placeFor_107 ?_
          refine g_iload (i := 4) hC d_H_placeFor_110 rfl ?_
          refine g_aload_n (i := 1) hC d_H_placeFor_112 rfl rfl (Or.inr ⟨_, rfl⟩) ?_
          refine g_iload (i := 7) hC d_H_placeFor_113 rfl ?_
          refine g_aload (i := 5) hC d_H_placeFor_115 rfl (Or.inr ⟨_, rfl⟩) ?_
          refine g_iload (i := 8) hC d_H_placeFor_117 rfl ?_
          refine g_calli hC (g_runV (q := (100 + x)) (As := [_, _, _]) (st := [_, _]) hC g_NOK_N (o_movedPast l D S ρ2 ad0 w0 x (mtop v t) (s_pl σ x (md v t)) (s_pl σ (mtop v t) (md v t)) hx hxa2 htl hta2 (by rw [hK2 (60 + x) (by omega)]; exact hxsi) (by rw [hK2 (60 + mtop v t) (by omega)]; exact htsi) (by have := pl_bound18 hInv hp1; omega) (by have := pl_bound18 hInv hp2; omega)) (t_cwV 3 hC.1.2.2.2.2 m_238 m_239 m_240 m_7 k_O_movedPast rfl rfl hd_O_movedPast ⟨by simp [rk] <;> omega, by simp [rk] <;> omega⟩) (cw_o hx hxa2) rfl rfl rfl (Nat.le_of_ble_eq_true rfl) d_H_placeFor_119 ⟨by simp [rk], by simp [rk]⟩) (fun r119 => ?_)
          refine g_and (fun e => ?_)
          subst e
          refine cs_kn (x := (s_pl σ x v + 1)) hC hSS hkl (by have := pl_bound18 hInv hp; omega) (by rw [hval, nI_pred]) d_H_placeFor_122 ?_
          refine g_aload_n (i := 0) hC d_H_placeFor_123 rfl rfl (Or.inr ⟨_, rfl⟩) ?_
          refine g_get hC (fun x h => List.mem_cons_of_mem _ (in_H x h)) 1 cw_hi rfl 2 (by decide) (List.mem_cons_of_mem _ m_33) rfl rfl d_H_placeFor_124 ?_
          refine g_iload (i := 4) hC d_H_placeFor_127 rfl ?_
          refine cl_kn hC hSS hkl d_H_placeFor_129 ?_
          refine g_iret hC hr hlk d_H_placeFor_130 (by decide) (by decide) (fun ad w hw => ?_)
          refine ⟨_, ⟨hM2.put hp, fun k hk => ?_, ?_⟩, hw⟩
          · rw [u2_ne hk]
            exact hK2 k hk
          · rw [u2_self, nI_pred]
      · refine g_aload_n (i := 0) hC d_H_placeFor_44 rfl rfl (Or.inr ⟨_, rfl⟩) ?_
        refine g_get hC (fun x h => List.mem_cons_of_mem _ (in_H x h)) 1 cw_hi rfl 2 (by decide) (List.mem_cons_of_mem _ m_33) rfl rfl d_H_placeFor_45 ?_
        refine g_iload (i := 4) hC d_H_placeFor_48 rfl ?_
        refine cl_kn hC hSS hkl d_H_placeFor_50 ?_
        refine g_iret hC hr hlk d_H_placeFor_51 (by decide) (by decide) (fun ad w hw => ?_)
        refine ⟨ρ, ⟨hMe, fun _ _ => rfl, ?_⟩, hw⟩
        obtain ⟨x1, v1, hp1, e1, e2⟩ := hMe _ (fun z => h41 ((nI_m1e (c_lt hb _ _)).mpr z))
        obtain ⟨f1, f2⟩ := hp.inj hInv hp1 e1
        subst f1
        subst f2
        rw [e2, nI_pred]
    · exact absurd h9 (by omega)
theorem h_placeFor (l : Launch) (D : va_G) (S : Nat) (σ : rS) (ad0 : Nat → Nat) (w0 : gW) (hInv : INV S σ) : ∀ (d : Nat) (ρ : rS) (x : Nat) (v : Nat → Nat), OPS S σ ρ → MEM S σ ρ → PV σ x v → msz v < d → d ≤ 18 → g_M l y_H_placeFor w_H_placeFor (rk (4 + d)) D gCl g_N [.ref (ad0 1), .ref (ad0 (100 + x)), .int (nI (evv v)), .int (nI d)] (CW S ρ ad0 w0) 0 0 (fun A => g_Qi D gCl A (fun r ad w => ∃ ρ', (MEM S σ ρ' ∧ KN ρ ρ' ∧ r = nI (s_pl σ x v)) ∧ CW S ρ' ad0 w0 ad w)) := by
  intro d
  induction d with
  | zero => intro ρ x v _ _ _ h _; exact absurd h (Nat.not_lt_zero _)
  | succ d ih => intro ρ x v hO hMe hp hz h18; exact h_placeFor_step l D S σ ρ ad0 w0 hInv hO d x v hMe hp hz h18 ih
end
section
theorem sI_pos {n : Nat} (hn : n < 1000) : sI n ≤ 0 ↔ ¬ (n % 2 = 1 ∧ n / 2 ≠ 0) := by
  unfold sI
  by_cases h : n % 2 = 1
  · rw [if_pos h]
    constructor
    · intro q z
      exact absurd q (nI_nle (by omega) (by omega))
    · intro q
      rw [show n / 2 = 0 by omega]
      decide +kernel
  · rw [if_neg h]
    constructor
    · intro _ z
      exact h z.1
    · intro _
      rw [Int32.le_iff_toInt_le, sb_negT (by omega), Int32.toInt_zero]
      omega
/-- the class's row of site s is the state's -/
def ROW (σ ρ : rS) (s : Nat) : Prop := ρ (10 * s) 0 = σ 10 s ∧ σ 10 s ≤ 18 ∧ ∀ i, i < σ 10 s → 1 ≤ σ 4 (σ 11 (18 * s + i)) ∧ ρ (10 * s + 1) i = 2 * σ 4 (σ 11 (18 * s + i)) + (if σ 12 (18 * s + i) = 0 then 0 else 1)
theorem ROW.vis {σ ρ : rS} {s : Nat} (h : ROW σ ρ s) {i : Nat} (hi : i < σ 10 s) : (ρ (10 * s + 1) i % 2 = 1 ∧ ρ (10 * s + 1) i / 2 ≠ 0) ↔ σ 12 (18 * s + i) ≠ 0 := by
  obtain ⟨a, b⟩ := h.2.2 i hi
  rw [b]
  split <;> omega
set_option maxRecDepth 100000 in
set_option maxHeartbeats 4000000 in
theorem k_vis (l : Launch) (D : va_G) (S : Nat) (σ ρ : rS) (ad0 : Nat → Nat) (w0 : gW) (s : Nat) (hs : s < S) (hR : ROW σ ρ s)  : g_M l y_K_visibleCount w_K_visibleCount (rk 0) D gCl g_N [.ref (ad0 (10 + 4 * s))] (CW S ρ ad0 w0) 0 0 (fun A => g_Qi D gCl A (fun r ad w => r = nI (s_vis σ s (σ 10 s)) ∧ CW S ρ ad0 w0 ad w)) := by
  have h18c := hR.2.1
  refine g_of (cc := c_K_visibleCount) (nL := 3) (ret := some .int) (by decide) rfl (Nat.le_of_ble_eq_true rfl) ?_
  intro pp ee ss mm bb me cc A hC hr hlk hnm
  refine g_los [0] (lo' := [(0, .ref (ad0 (10 + 4 * s)))]) rfl ?_
  refine g_pure cw_bl (fun hbS => ?_)
  obtain ⟨hb, hSS⟩ := hbS
  refine g_iconst (v := nI 0) hC d_K_visibleCount_0 (by decide) ?_
  refine g_istore_n (i := 1) (lo' := [(1, _), (0, _)]) hC d_K_visibleCount_1 rfl (by decide) rfl ?_
  refine g_iconst (v := nI 0) hC d_K_visibleCount_2 (by decide) ?_
  refine g_istore_n (i := 2) (lo' := [(2, _), (1, _), (0, _)]) hC d_K_visibleCount_3 rfl (by decide) rfl ?_
  refine g_los [2, 1, 0] (lo' := [(0, _), (1, _), (2, _)]) rfl ?_
  refine g_loop (ι := Nat × Nat) (pc0 := 4) (fun ⟨i, v⟩ => 18 - i) (fun ⟨i, v⟩ => i ≤ σ 10 s ∧ v = s_vis σ s i) (fun ⟨i, v⟩ => CW S ρ ad0 w0) (fun ⟨i, v⟩ => [(0, .ref (ad0 (10 + 4 * s))), (1, .int (nI v)), (2, .int (nI i))]) ?_ (0, 0) (⟨Nat.zero_le _, rfl⟩)
  rintro ⟨i, v⟩ hI ih
  try dsimp only at hI ih ⊢
  refine g_iload_n (i := 2) hC d_K_visibleCount_4 rfl rfl ?_
  refine g_aload_n (i := 0) hC d_K_visibleCount_5 rfl rfl (Or.inr ⟨_, rfl⟩) ?_
  refine g_get hC (fun x h => List.mem_cons_of_mem _ (in_K x h)) (10 + 4 * s) (cw_co hs) rfl 2 (by decide) (List.mem_cons_of_mem _ m_54) rfl rfl d_K_visibleCount_6 ?_
  rw [hR.1]
  refine g_icmp_geN (tgt := 30) hC d_K_visibleCount_9 (by decide) (by have := hR.2.1; omega) (by have := hR.2.1; omega) (fun h9 => ?_) (fun h9 => ?_)
  · refine g_iload_n (i := 1) hC d_K_visibleCount_30 rfl rfl ?_
    refine g_iret hC hr hlk d_K_visibleCount_31 (by decide) (by decide) (fun ad w hw => ?_)
    exact ⟨by rw [hI.2, show i = σ 10 s by omega], hw⟩
  · refine g_aload_n (i := 0) hC d_K_visibleCount_12 rfl rfl (Or.inr ⟨_, rfl⟩) ?_
    refine g_get hC (fun x h => List.mem_cons_of_mem _ (in_K x h)) (10 + 4 * s) (cw_co hs) rfl 1 (by decide) (List.mem_cons_of_mem _ m_52) rfl rfl d_K_visibleCount_13 ?_
    refine g_iload_n (i := 2) hC d_K_visibleCount_16 rfl rfl ?_
    refine cl_row (si := s) hC hs (by have := hR.2.1; omega) d_K_visibleCount_17 ?_
    refine g_if_le (tgt := 24) hC d_K_visibleCount_18 (by decide) (fun h18 => ?_) (fun h18 => ?_)
    · refine g_iinc (i := 2) (k := 2) (lo' := [(2, _), (0, _), (1, _)]) hC d_K_visibleCount_24 rfl (nI_inc _) (by decide) rfl ?_
      refine g_goto (tgt := 4) hC d_K_visibleCount_27 (by decide) ?_
      refine g_los [1, 2, 0] rfl ?_
      exact ih (i + 1, v) ⟨by omega, by rw [s_vis_n (Decidable.not_not.mp (fun z => (sI_pos (c_lt1 hb _ _)).mp h18 ((hR.vis (by omega)).mpr z)))]; exact hI.2⟩ (by first | omega | (dsimp only; omega))
    · refine g_iinc (i := 1) (k := 1) (lo' := [(1, _), (0, _), (2, _)]) hC d_K_visibleCount_21 rfl (nI_inc _) (by decide) rfl ?_
      refine g_iinc (i := 2) (k := 2) (lo' := [(2, _), (1, _), (0, _)]) hC d_K_visibleCount_24 rfl (nI_inc _) (by decide) rfl ?_
      refine g_goto (tgt := 4) hC d_K_visibleCount_27 (by decide) ?_
      refine g_los [2, 1, 0] rfl ?_
      exact ih (i + 1, v + 1) ⟨by omega, by rw [s_vis_y ((hR.vis (by omega)).mp (Decidable.not_not.mp (fun z => h18 ((sI_pos (c_lt1 hb _ _)).mpr z)))), ← hI.2]⟩ (by first | omega | (dsimp only; omega))
set_option maxRecDepth 100000 in
set_option maxHeartbeats 4000000 in
theorem k_cell (l : Launch) (D : va_G) (S : Nat) (σ ρ : rS) (ad0 : Nat → Nat) (w0 : gW) (s : Nat) (hs : s < S) (hR : ROW σ ρ s) (i : Int32) : g_M l y_K_cellOfVisible w_K_cellOfVisible (rk 0) D gCl g_N [.ref (ad0 (10 + 4 * s)), .int i] (CW S ρ ad0 w0) 0 0 (fun A => g_Qi D gCl A (fun r ad w => ((∃ i' k, i = nI i' ∧ i' < s_vis σ s (σ 10 s) ∧ k < σ 10 s ∧ CO σ s i' k ∧ r = nI k) ∨ ((¬ ∃ i', i = nI i' ∧ i' < s_vis σ s (σ 10 s)) ∧ r = -1)) ∧ CW S ρ ad0 w0 ad w)) := by
  have h18c := hR.2.1
  refine g_of (cc := c_K_cellOfVisible) (nL := 4) (ret := some .int) (by decide) rfl (Nat.le_of_ble_eq_true rfl) ?_
  intro pp ee ss mm bb me cc A hC hr hlk hnm
  refine g_los [0, 1] (lo' := [(0, .ref (ad0 (10 + 4 * s))), (1, .int i)]) rfl ?_
  refine g_pure cw_bl (fun hbS => ?_)
  obtain ⟨hb, hSS⟩ := hbS
  refine g_iconst (v := nI 0) hC d_K_cellOfVisible_0 (by decide) ?_
  refine g_istore_n (i := 2) (lo' := [(2, _), (0, _), (1, _)]) hC d_K_cellOfVisible_1 rfl (by decide) rfl ?_
  refine g_iconst (v := nI 0) hC d_K_cellOfVisible_2 (by decide) ?_
  refine g_istore_n (i := 3) (lo' := [(3, _), (2, _), (0, _), (1, _)]) hC d_K_cellOfVisible_3 rfl (by decide) rfl ?_
  refine g_los [2, 3, 1, 0] (lo' := [(0, _), (1, _), (2, _), (3, _)]) rfl ?_
  refine g_loop (ι := Nat × Nat) (pc0 := 4) (fun ⟨k, v⟩ => 18 - k) (fun ⟨k, v⟩ => k ≤ σ 10 s ∧ v = s_vis σ s k ∧ ∀ j, j < k → σ 12 (18 * s + j) ≠ 0 → ¬ nI (s_vis σ s j) = i) (fun ⟨k, v⟩ => CW S ρ ad0 w0) (fun ⟨k, v⟩ => [(0, .ref (ad0 (10 + 4 * s))), (1, .int i), (2, .int (nI v)), (3, .int (nI k))]) ?_ (0, 0) (⟨Nat.zero_le _, rfl, fun j hj => absurd hj (Nat.not_lt_zero j)⟩)
  rintro ⟨k, v⟩ hI ih
  try dsimp only at hI ih ⊢
  refine g_iload_n (i := 3) hC d_K_cellOfVisible_4 rfl rfl ?_
  refine g_aload_n (i := 0) hC d_K_cellOfVisible_5 rfl rfl (Or.inr ⟨_, rfl⟩) ?_
  refine g_get hC (fun x h => List.mem_cons_of_mem _ (in_K x h)) (10 + 4 * s) (cw_co hs) rfl 2 (by decide) (List.mem_cons_of_mem _ m_54) rfl rfl d_K_cellOfVisible_6 ?_
  rw [hR.1]
  refine g_icmp_geN (tgt := 37) hC d_K_cellOfVisible_9 (by decide) (by have := hR.2.1; omega) (by have := hR.2.1; omega) (fun h9 => ?_) (fun h9 => ?_)
  · refine g_iconst (v := -1) hC d_K_cellOfVisible_37 (by decide) ?_
    refine g_iret hC hr hlk d_K_cellOfVisible_38 (by decide) (by decide) (fun ad w hw => ?_)
    refine ⟨Or.inr ⟨fun ⟨i', h⟩ => ?_, rfl⟩, hw⟩
    have hco : CO σ s i' (σ 10 s) := Or.inr ⟨rfl, fun j hj hv e => hI.2.2 j (by omega) hv (by rw [e]; exact h.1.symm)⟩
    have := CO_lt hco h.2
    omega
  · refine g_aload_n (i := 0) hC d_K_cellOfVisible_12 rfl rfl (Or.inr ⟨_, rfl⟩) ?_
    refine g_get hC (fun x h => List.mem_cons_of_mem _ (in_K x h)) (10 + 4 * s) (cw_co hs) rfl 1 (by decide) (List.mem_cons_of_mem _ m_52) rfl rfl d_K_cellOfVisible_13 ?_
    refine g_iload_n (i := 3) hC d_K_cellOfVisible_16 rfl rfl ?_
    refine cl_row (si := s) hC hs (by have := hR.2.1; omega) d_K_cellOfVisible_17 ?_
    refine g_if_le (tgt := 31) hC d_K_cellOfVisible_18 (by decide) (fun h18 => ?_) (fun h18 => ?_)
    · refine g_iinc (i := 3) (k := 3) (lo' := [(3, _), (0, _), (1, _), (2, _)]) hC d_K_cellOfVisible_31 rfl (nI_inc _) (by decide) rfl ?_
      refine g_goto (tgt := 4) hC d_K_cellOfVisible_34 (by decide) ?_
      refine g_los [1, 2, 3, 0] rfl ?_
      have hnv := Decidable.not_not.mp (fun z => (sI_pos (c_lt1 hb _ _)).mp h18 ((hR.vis (by omega)).mpr z))
      exact ih (k + 1, v) ⟨by omega, by rw [s_vis_n hnv]; exact hI.2.1, lt_s hI.2.2 (fun q => absurd hnv q)⟩ (by first | omega | (dsimp only; omega))
    · refine g_iload_n (i := 2) hC d_K_cellOfVisible_21 rfl rfl ?_
      refine g_iload_n (i := 1) hC d_K_cellOfVisible_22 rfl rfl ?_
      refine g_icmp_ne (tgt := 28) hC d_K_cellOfVisible_23 (by decide) (fun h23 => ?_) (fun h23 => ?_)
      · refine g_iinc (i := 2) (k := 2) (lo' := [(2, _), (0, _), (1, _), (3, _)]) hC d_K_cellOfVisible_28 rfl (nI_inc _) (by decide) rfl ?_
        refine g_iinc (i := 3) (k := 3) (lo' := [(3, _), (2, _), (0, _), (1, _)]) hC d_K_cellOfVisible_31 rfl (nI_inc _) (by decide) rfl ?_
        refine g_goto (tgt := 4) hC d_K_cellOfVisible_34 (by decide) ?_
        refine g_los [2, 3, 1, 0] rfl ?_
        have hyv := (hR.vis (by omega)).mp (Decidable.not_not.mp (fun z => h18 ((sI_pos (c_lt1 hb _ _)).mpr z)))
        exact ih (k + 1, v + 1) ⟨by omega, by rw [s_vis_y hyv, ← hI.2.1], lt_s hI.2.2 (fun _ => by rw [← hI.2.1]; exact h23)⟩ (by first | omega | (dsimp only; omega))
      · refine g_iload_n (i := 3) hC d_K_cellOfVisible_26 rfl rfl ?_
        refine g_iret hC hr hlk d_K_cellOfVisible_27 (by decide) (by decide) (fun ad w hw => ?_)
        have hyv := (hR.vis (by omega)).mp (Decidable.not_not.mp (fun z => h18 ((sI_pos (c_lt1 hb _ _)).mpr z)))
        exact ⟨Or.inl ⟨v, k, h23.symm, by have := s_vis_mono (σ := σ) (s := s) (i := k + 1) (σ 10 s) (by omega); rw [s_vis_y hyv] at this; have := hI.2.1; omega, by omega, Or.inl ⟨by omega, hyv, hI.2.1.symm⟩, rfl⟩, hw⟩
set_option maxRecDepth 100000 in
set_option maxHeartbeats 4000000 in
theorem k_pos (l : Launch) (D : va_G) (S : Nat) (σ ρ : rS) (ad0 : Nat → Nat) (w0 : gW) (s : Nat) (hs : s < S) (hR : ROW σ ρ s) (i : Int32) : g_M l y_K_positionForInsert w_K_positionForInsert (rk 1) D gCl g_N [.ref (ad0 (10 + 4 * s)), .int i] (CW S ρ ad0 w0) 0 0 (fun A => g_Qi D gCl A (fun r ad w => ((∃ i' k, i = nI i' ∧ i' ≤ s_vis σ s (σ 10 s) ∧ CO σ s i' k ∧ r = nI k) ∨ ((¬ ∃ i', i = nI i' ∧ i' ≤ s_vis σ s (σ 10 s)) ∧ r = -1)) ∧ CW S ρ ad0 w0 ad w)) := by
  have h18c := hR.2.1
  refine g_of (cc := c_K_positionForInsert) (nL := 2) (ret := some .int) (by decide) rfl (Nat.le_of_ble_eq_true rfl) ?_
  intro pp ee ss mm bb me cc A hC hr hlk hnm
  refine g_los [0, 1] (lo' := [(0, .ref (ad0 (10 + 4 * s))), (1, .int i)]) rfl ?_
  refine g_pure cw_bl (fun hbS => ?_)
  obtain ⟨hb, hSS⟩ := hbS
  refine g_iload_n (i := 1) hC d_K_positionForInsert_0 rfl rfl ?_
  refine g_aload_n (i := 0) hC d_K_positionForInsert_1 rfl rfl (Or.inr ⟨_, rfl⟩) ?_
  refine g_calli hC (g_runV (q := (10 + 4 * s)) (As := []) (st := [_]) hC g_NOK_N (k_vis l D S σ ρ ad0 w0 s hs hR) (t_cwV 0 hC.1.2.2.2.2 m_110 m_111 m_112 m_5 k_K_visibleCount rfl rfl hd_K_visibleCount ⟨by decide, by decide⟩) (cw_co hs) rfl rfl rfl (Nat.le_of_ble_eq_true rfl) d_K_positionForInsert_2 ⟨by decide, by decide⟩) (fun r2 => ?_)
  refine g_and (fun e => ?_)
  subst e
  refine g_icmp_ne (tgt := 15) hC d_K_positionForInsert_5 (by decide) (fun h5 => ?_) (fun h5 => ?_)
  · refine g_aload_n (i := 0) hC d_K_positionForInsert_15 rfl rfl (Or.inr ⟨_, rfl⟩) ?_
    refine g_iload_n (i := 1) hC d_K_positionForInsert_16 rfl rfl ?_
    refine g_calli hC (g_runV (q := (10 + 4 * s)) (As := [_]) (st := []) hC g_NOK_N (k_cell l D S σ ρ ad0 w0 s hs hR i) (t_cwV 1 hC.1.2.2.2.2 m_114 m_115 m_116 m_5 k_K_cellOfVisible rfl rfl hd_K_cellOfVisible ⟨by decide, by decide⟩) (cw_co hs) rfl rfl rfl (Nat.le_of_ble_eq_true rfl) d_K_positionForInsert_17 ⟨by decide, by decide⟩) (fun r17 => ?_)
    refine g_and (fun e17 => ?_)
    refine g_iret hC hr hlk d_K_positionForInsert_20 (by decide) (by decide) (fun ad w hw => ?_)
    refine ⟨?_, hw⟩
    rcases e17 with ⟨i', k, a, b, -, d, e⟩ | ⟨a, e⟩
    · exact Or.inl ⟨i', k, a, by omega, d, e⟩
    · exact Or.inr ⟨fun ⟨i', h⟩ => by
        by_cases q : i' = s_vis σ s (σ 10 s)
        · exact h5 (by rw [h.1, q])
        · exact a ⟨i', h.1, by omega⟩, e⟩
  · refine g_aload_n (i := 0) hC d_K_positionForInsert_8 rfl rfl (Or.inr ⟨_, rfl⟩) ?_
    refine g_get hC (fun x h => List.mem_cons_of_mem _ (in_K x h)) (10 + 4 * s) (cw_co hs) rfl 2 (by decide) (List.mem_cons_of_mem _ m_54) rfl rfl d_K_positionForInsert_9 ?_
    refine g_goto (tgt := 20) hC d_K_positionForInsert_12 (by decide) ?_
    refine g_iret hC hr hlk d_K_positionForInsert_20 (by decide) (by decide) (fun ad w hw => ?_)
    exact ⟨Or.inl ⟨_, σ 10 s, h5, Nat.le_refl _, Or.inr ⟨rfl, fun j hj hv e => by have := s_vis_mono (σ := σ) (s := s) (i := j + 1) (σ 10 s) (by omega); rw [s_vis_y hv] at this; omega⟩, by rw [hR.1]⟩, hw⟩
def shR (ρ : rS) (s i c : Nat) : rS := fun k j => if k = 10 * s + 1 ∧ i < j ∧ j ≤ c then ρ k (j - 1) else ρ k j
theorem shR_ne {ρ : rS} {s i c k : Nat} (h : k ≠ 10 * s + 1) : shR ρ s i c k = ρ k := by
  funext j
  exact if_neg (fun q => h q.1)
theorem shR_lo {ρ : rS} {s i c k j : Nat} (h : j ≤ i) : shR ρ s i c k j = ρ k j := if_neg (by omega)
theorem shR_0 {ρ : rS} {s c : Nat} : shR ρ s c c = ρ := by
  funext k j
  exact if_neg (by omega)
theorem shR_s {ρ : rS} {s i c a : Nat} (h0 : 0 < i) (hc : i ≤ c) (ha : a = ρ (10 * s + 1) (i - 1)) : u2 (shR ρ s i c) (10 * s + 1) i a = shR ρ s (i - 1) c := by
  funext k j
  unfold u2 shR
  by_cases h : k = 10 * s + 1 ∧ j = i
  · rw [if_pos h, if_pos (by omega), h.1, h.2, ha]
  · rw [if_neg h]
    by_cases q : k = 10 * s + 1 ∧ i < j ∧ j ≤ c
    · rw [if_pos q, if_pos (by omega)]
    · rw [if_neg q, if_neg (by omega)]
/-- a cell is put at p -/
def pcR (ρ : rS) (s p c : Nat) : rS := u2 (u2 (shR ρ s p (ρ (10 * s) 0)) (10 * s + 1) p (2 * c + 1)) (10 * s) 0 (ρ (10 * s) 0 + 1)
theorem sI_odd (c : Nat) : sI (2 * c + 1) = nI c := by
  unfold sI
  rw [if_pos (by omega), show (2 * c + 1) / 2 = c by omega]
theorem sI_ev (c : Nat) : sI (2 * c) = -nI c := by
  unfold sI
  rw [if_neg (by omega), show 2 * c / 2 = c by omega]
set_option maxRecDepth 100000 in
set_option maxHeartbeats 4000000 in
theorem k_put (l : Launch) (D : va_G) (S : Nat) (ρ : rS) (ad0 : Nat → Nat) (w0 : gW) (s : Nat) (hs : s < S) (p c : Nat) (hp : p ≤ ρ (10 * s) 0) (hc : ρ (10 * s) 0 < 18) (hc5 : c ≤ 255) : g_M l y_K_putCell w_K_putCell (rk 0) D gCl g_N [.ref (ad0 (10 + 4 * s)), .int (nI p), .int (nI c)] (CW S ρ ad0 w0) 0 0 (fun A => g_Qv D gCl A (fun ad w => CW S (pcR ρ s p c) ad0 w0 ad w)) := by
  refine g_of (cc := c_K_putCell) (nL := 4) (ret := none) (by decide) rfl (Nat.le_of_ble_eq_true rfl) ?_
  intro pp ee ss mm bb me cc A hC hr hlk hnm
  refine g_los [0, 1, 2] (lo' := [(0, .ref (ad0 (10 + 4 * s))), (1, .int (nI p)), (2, .int (nI c))]) rfl ?_
  refine g_pure cw_bl (fun hbS => ?_)
  obtain ⟨hb, hSS⟩ := hbS
  refine g_iload_n (i := 1) hC d_K_putCell_0 rfl rfl ?_
  refine g_if_ltN (tgt := 24) hC d_K_putCell_1 (by decide) (by first | omega | exact c_lt hb _ _ | exact pb_le _) ?_
  refine g_iload_n (i := 1) hC d_K_putCell_4 rfl rfl ?_
  refine g_aload_n (i := 0) hC d_K_putCell_5 rfl rfl (Or.inr ⟨_, rfl⟩) ?_
  refine g_get hC (fun x h => List.mem_cons_of_mem _ (in_K x h)) (10 + 4 * s) (cw_co hs) rfl 2 (by decide) (List.mem_cons_of_mem _ m_54) rfl rfl d_K_putCell_6 ?_
  refine g_icmp_gtN (tgt := 24) hC d_K_putCell_9 (by decide) (by omega) (by omega) (fun h9 => ?_) (fun h9 => ?_)
  · exact absurd h9 (by omega)
  · refine g_aload_n (i := 0) hC d_K_putCell_12 rfl rfl (Or.inr ⟨_, rfl⟩) ?_
    refine g_get hC (fun x h => List.mem_cons_of_mem _ (in_K x h)) (10 + 4 * s) (cw_co hs) rfl 2 (by decide) (List.mem_cons_of_mem _ m_54) rfl rfl d_K_putCell_13 ?_
    refine g_aload_n (i := 0) hC d_K_putCell_16 rfl rfl (Or.inr ⟨_, rfl⟩) ?_
    refine g_get hC (fun x h => List.mem_cons_of_mem _ (in_K x h)) (10 + 4 * s) (cw_co hs) rfl 1 (by decide) (List.mem_cons_of_mem _ m_52) rfl rfl d_K_putCell_17 ?_
    refine g_len hC (11 + 4 * s) (fun ad w h => ⟨by rw [h.1], (h.2.2.1.2.2.2.2.2.1 s hs).2.1⟩) d_K_putCell_20 ?_
    refine g_icmp_ltN (tgt := 25) hC d_K_putCell_21 (by decide) (by omega) (by decide) (fun h21 => ?_) (fun h21 => ?_)
    · refine g_aload_n (i := 0) hC d_K_putCell_25 rfl rfl (Or.inr ⟨_, rfl⟩) ?_
      refine g_get hC (fun x h => List.mem_cons_of_mem _ (in_K x h)) (10 + 4 * s) (cw_co hs) rfl 2 (by decide) (List.mem_cons_of_mem _ m_54) rfl rfl d_K_putCell_26 ?_
      refine g_istore_n (i := 3) (lo' := [(3, _), (0, _), (1, _), (2, _)]) hC d_K_putCell_29 rfl (by decide) rfl ?_
      rw [show CW S ρ ad0 w0 = CW S (shR ρ s (ρ (10 * s) 0) (ρ (10 * s) 0)) ad0 w0 by rw [shR_0]]
      refine g_los [1, 2, 3, 0] (lo' := [(0, _), (1, _), (2, _), (3, _)]) rfl ?_
      refine g_loop (ι := Nat) (pc0 := 30) (fun i => i) (fun i => p ≤ i ∧ i ≤ ρ (10 * s) 0) (fun i => CW S (shR ρ s i (ρ (10 * s) 0)) ad0 w0) (fun i => [(0, .ref (ad0 (10 + 4 * s))), (1, .int (nI p)), (2, .int (nI c)), (3, .int (nI i))]) ?_ (ρ (10 * s) 0) (⟨hp, Nat.le_refl _⟩)
      rintro i hI ih
      try dsimp only at hI ih ⊢
      refine g_pure cw_bl (fun hbS2 => ?_)
      obtain ⟨hb2, -⟩ := hbS2
      refine g_iload_n (i := 3) hC d_K_putCell_30 rfl rfl ?_
      refine g_iload_n (i := 1) hC d_K_putCell_31 rfl rfl ?_
      refine g_icmp_leN (tgt := 55) hC d_K_putCell_32 (by decide) (by first | omega | exact c_lt hb _ _ | exact pb_le _) (by first | omega | exact c_lt hb _ _ | exact pb_le _) (fun h32 => ?_) (fun h32 => ?_)
      · have e32 : i = p := by omega
        subst e32
        refine g_aload_n (i := 0) hC d_K_putCell_55 rfl rfl (Or.inr ⟨_, rfl⟩) ?_
        refine g_get hC (fun x h => List.mem_cons_of_mem _ (in_K x h)) (10 + 4 * s) (cw_co hs) rfl 1 (by decide) (List.mem_cons_of_mem _ m_52) rfl rfl d_K_putCell_56 ?_
        refine g_iload_n (i := 1) hC d_K_putCell_59 rfl rfl ?_
        refine g_iload_n (i := 2) hC d_K_putCell_60 rfl rfl ?_
        refine cs_row (si := s) (x := (2 * c + 1)) hC (by omega) hs (by omega) (by omega) (sI_odd c).symm d_K_putCell_61 ?_
        refine g_aload_n (i := 0) hC d_K_putCell_62 rfl rfl (Or.inr ⟨_, rfl⟩) ?_
        refine g_dup hC d_K_putCell_63 rfl ?_
        refine g_get hC (fun x h => List.mem_cons_of_mem _ (in_K x h)) (10 + 4 * s) (cw_co hs) rfl 2 (by decide) (List.mem_cons_of_mem _ m_54) rfl rfl d_K_putCell_64 ?_
        rw [u2_ne (a := 10 * s) (by omega), shR_ne (k := 10 * s) (by omega)]
        refine g_iconst (v := nI 1) hC d_K_putCell_67 (by decide) ?_
        refine g_iaddN hC d_K_putCell_68 ?_
        refine g_put (ty := .int) hC (fun x h => List.mem_cons_of_mem _ (in_K x h)) ft_K tk_K n_K (10 + 4 * s) (cw_co hs) rfl 2 (by decide) (List.mem_cons_of_mem _ m_54) rfl rfl (by decide +kernel) rfl rfl (Nat.le_of_ble_eq_true rfl) (cw_upf0 (by omega) hs (by omega)) d_K_putCell_69 ?_
        refine g_vret hC hr hlk d_K_putCell_72 (by decide) (by decide) (fun ad w hw => ?_)
        exact hw
      · refine g_aload_n (i := 0) hC d_K_putCell_35 rfl rfl (Or.inr ⟨_, rfl⟩) ?_
        refine g_get hC (fun x h => List.mem_cons_of_mem _ (in_K x h)) (10 + 4 * s) (cw_co hs) rfl 1 (by decide) (List.mem_cons_of_mem _ m_52) rfl rfl d_K_putCell_36 ?_
        refine g_iload_n (i := 3) hC d_K_putCell_39 rfl rfl ?_
        refine g_aload_n (i := 0) hC d_K_putCell_40 rfl rfl (Or.inr ⟨_, rfl⟩) ?_
        refine g_get hC (fun x h => List.mem_cons_of_mem _ (in_K x h)) (10 + 4 * s) (cw_co hs) rfl 1 (by decide) (List.mem_cons_of_mem _ m_52) rfl rfl d_K_putCell_41 ?_
        refine g_iload_n (i := 3) hC d_K_putCell_44 rfl rfl ?_
        refine g_iconst (v := nI 1) hC d_K_putCell_45 (by decide) ?_
        refine g_isubN hC d_K_putCell_46 (by omega) ?_
        refine cl_row (si := s) hC hs (by omega) d_K_putCell_47 ?_
        refine cs_row (si := s) (x := _) hC (by omega) hs (by omega) (c_lt1 hb2 _ _) rfl d_K_putCell_48 ?_
        refine g_iinc (i := 3) (k := 3) (lo' := [(3, _), (0, _), (1, _), (2, _)]) hC d_K_putCell_49 rfl (nI_dec (by omega)) (by decide) rfl ?_
        refine g_goto (tgt := 30) hC d_K_putCell_52 (by decide) ?_
        refine g_los [1, 2, 3, 0] rfl ?_
        rw [shR_s (by omega) hI.2 (shR_lo (by omega))]
        exact ih (i - 1) ⟨by omega, by omega⟩ (by omega)
    · exact absurd h21 (by omega)
set_option maxRecDepth 100000 in
set_option maxHeartbeats 4000000 in
theorem k_hide (l : Launch) (D : va_G) (S : Nat) (ρ : rS) (ad0 : Nat → Nat) (w0 : gW) (s : Nat) (hs : s < S) (p : Nat) (hp : p < ρ (10 * s) 0) (hc : ρ (10 * s) 0 ≤ 18) (hn : ρ (10 * s + 1) p / 2 ≠ 0) : g_M l y_K_hideCell w_K_hideCell (rk 0) D gCl g_N [.ref (ad0 (10 + 4 * s)), .int (nI p)] (CW S ρ ad0 w0) 0 0 (fun A => g_Qv D gCl A (fun ad w => CW S (u2 ρ (10 * s + 1) p (2 * (ρ (10 * s + 1) p / 2))) ad0 w0 ad w)) := by
  refine g_of (cc := c_K_hideCell) (nL := 2) (ret := none) (by decide) rfl (Nat.le_of_ble_eq_true rfl) ?_
  intro pp ee ss mm bb me cc A hC hr hlk hnm
  refine g_los [0, 1] (lo' := [(0, .ref (ad0 (10 + 4 * s))), (1, .int (nI p))]) rfl ?_
  refine g_pure cw_bl (fun hbS => ?_)
  obtain ⟨hb, hSS⟩ := hbS
  refine g_iload_n (i := 1) hC d_K_hideCell_0 rfl rfl ?_
  refine g_if_ltN (tgt := 34) hC d_K_hideCell_1 (by decide) (by first | omega | exact c_lt hb _ _ | exact pb_le _) ?_
  refine g_iload_n (i := 1) hC d_K_hideCell_4 rfl rfl ?_
  refine g_aload_n (i := 0) hC d_K_hideCell_5 rfl rfl (Or.inr ⟨_, rfl⟩) ?_
  refine g_get hC (fun x h => List.mem_cons_of_mem _ (in_K x h)) (10 + 4 * s) (cw_co hs) rfl 2 (by decide) (List.mem_cons_of_mem _ m_54) rfl rfl d_K_hideCell_6 ?_
  refine g_icmp_geN (tgt := 34) hC d_K_hideCell_9 (by decide) (by omega) (by omega) (fun h9 => ?_) (fun h9 => ?_)
  · refine g_vret hC hr hlk d_K_hideCell_34 (by decide) (by decide) (fun ad w hw => ?_)
    exact absurd hp (by omega)
  · refine g_aload_n (i := 0) hC d_K_hideCell_12 rfl rfl (Or.inr ⟨_, rfl⟩) ?_
    refine g_get hC (fun x h => List.mem_cons_of_mem _ (in_K x h)) (10 + 4 * s) (cw_co hs) rfl 1 (by decide) (List.mem_cons_of_mem _ m_52) rfl rfl d_K_hideCell_13 ?_
    refine g_iload_n (i := 1) hC d_K_hideCell_16 rfl rfl ?_
    refine cl_row (si := s) hC hs (by omega) d_K_hideCell_17 ?_
    refine g_if_le (tgt := 34) hC d_K_hideCell_18 (by decide) (fun h18 => ?_) (fun h18 => ?_)
    · refine g_vret hC hr hlk d_K_hideCell_34 (by decide) (by decide) (fun ad w hw => ?_)
      have e18 : ρ (10 * s + 1) p % 2 ≠ 1 := fun z => (sI_pos (c_lt1 hb _ _)).mp h18 ⟨z, hn⟩
      have e19 : u2 ρ (10 * s + 1) p (2 * (ρ (10 * s + 1) p / 2)) = ρ := by
        funext k j
        unfold u2
        split
        · rename_i q
          rw [q.1, q.2]
          omega
        · rfl
      rw [e19]
      exact hw
    · refine g_aload_n (i := 0) hC d_K_hideCell_21 rfl rfl (Or.inr ⟨_, rfl⟩) ?_
      refine g_get hC (fun x h => List.mem_cons_of_mem _ (in_K x h)) (10 + 4 * s) (cw_co hs) rfl 1 (by decide) (List.mem_cons_of_mem _ m_52) rfl rfl d_K_hideCell_22 ?_
      refine g_iload_n (i := 1) hC d_K_hideCell_25 rfl rfl ?_
      refine g_aload_n (i := 0) hC d_K_hideCell_26 rfl rfl (Or.inr ⟨_, rfl⟩) ?_
      refine g_get hC (fun x h => List.mem_cons_of_mem _ (in_K x h)) (10 + 4 * s) (cw_co hs) rfl 1 (by decide) (List.mem_cons_of_mem _ m_52) rfl rfl d_K_hideCell_27 ?_
      refine g_iload_n (i := 1) hC d_K_hideCell_30 rfl rfl ?_
      refine cl_row (si := s) hC hs (by omega) d_K_hideCell_31 ?_
      refine g_ineg hC d_K_hideCell_32 ?_
      refine cs_row (si := s) (x := (2 * (ρ (10 * s + 1) p / 2))) hC (by omega) hs (by omega) (by have := c_lt1 hb (10 * s + 1) p; omega) (by have e18 := Decidable.not_not.mp (fun z => h18 ((sI_pos (c_lt1 hb _ _)).mpr z)); rw [sI_ev]; unfold sI; rw [if_pos e18.1]) d_K_hideCell_33 ?_
      refine g_vret hC hr hlk d_K_hideCell_34 (by decide) (by decide) (fun ad w hw => ?_)
      exact hw
set_option maxRecDepth 100000 in
set_option maxHeartbeats 4000000 in
theorem k_note (l : Launch) (D : va_G) (S : Nat) (ρ : rS) (ad0 : Nat → Nat) (w0 : gW) (s : Nat) (hs : s < S) (o : Nat) (ho : o < 18) (hal : ρ 41 o ≠ 0) (hsi : ρ (60 + o) 3 = o / 6) (hnu : ρ (60 + o) 4 = o % 6) (hac : ρ (10 * s) 2 < 900) : g_M l y_K_noteArrival w_K_noteArrival (rk 1) D gCl g_N [.ref (ad0 (10 + 4 * s)), .ref (ad0 (100 + o))] (CW S ρ ad0 w0) 0 0 (fun A => g_Qv D gCl A (fun ad w => CW S (u2 (u2 ρ (10 * s + 2) o 1) (10 * s) 2 (ρ (10 * s) 2 + 1)) ad0 w0 ad w)) := by
  refine g_of (cc := c_K_noteArrival) (nL := 2) (ret := none) (by decide) rfl (Nat.le_of_ble_eq_true rfl) ?_
  intro pp ee ss mm bb me cc A hC hr hlk hnm
  refine g_los [0, 1] (lo' := [(0, .ref (ad0 (10 + 4 * s))), (1, .ref (ad0 (100 + o)))]) rfl ?_
  refine g_pure cw_bl (fun hbS => ?_)
  obtain ⟨hb, hSS⟩ := hbS
  refine g_aload_n (i := 0) hC d_K_noteArrival_0 rfl rfl (Or.inr ⟨_, rfl⟩) ?_
  refine g_get hC (fun x h => List.mem_cons_of_mem _ (in_K x h)) (10 + 4 * s) (cw_co hs) rfl 4 (by decide) (List.mem_cons_of_mem _ m_58) rfl rfl d_K_noteArrival_1 ?_
  refine g_aload_n (i := 1) hC d_K_noteArrival_4 rfl rfl (Or.inr ⟨_, rfl⟩) ?_
  refine g_calli hC (g_runV (q := (100 + o)) (As := []) (st := [_]) hC g_NOK_N (o_index l D S ρ ad0 w0 o ho hal hsi hnu) (t_cwV 0 hC.1.2.2.2.2 m_179 m_160 m_161 m_7 k_O_index rfl rfl hd_O_index ⟨by decide, by decide⟩) (cw_o ho hal) rfl rfl rfl (Nat.le_of_ble_eq_true rfl) d_K_noteArrival_5 ⟨by decide, by decide⟩) (fun r5 => ?_)
  refine g_and (fun e => ?_)
  subst e
  refine g_iconst (v := nI 1) hC d_K_noteArrival_8 (by decide) ?_
  refine cs_arr (si := s) hC (by omega) hs (by omega) (by decide) d_K_noteArrival_9 ?_
  refine g_aload_n (i := 0) hC d_K_noteArrival_10 rfl rfl (Or.inr ⟨_, rfl⟩) ?_
  refine g_dup hC d_K_noteArrival_11 rfl ?_
  refine g_get hC (fun x h => List.mem_cons_of_mem _ (in_K x h)) (10 + 4 * s) (cw_co hs) rfl 5 (by decide) (List.mem_cons_of_mem _ m_60) rfl rfl d_K_noteArrival_12 ?_
  refine g_iconst (v := nI 1) hC d_K_noteArrival_15 (by decide) ?_
  rw [u2_ne (a := 10 * s) (by omega)]
  refine g_iaddN hC d_K_noteArrival_16 ?_
  refine g_put (ty := .int) hC (fun x h => List.mem_cons_of_mem _ (in_K x h)) ft_K tk_K n_K (10 + 4 * s) (cw_co hs) rfl 5 (by decide) (List.mem_cons_of_mem _ m_60) rfl rfl (by decide +kernel) rfl rfl (Nat.le_of_ble_eq_true rfl) (cw_upf2 (by omega) hs (by omega)) d_K_noteArrival_17 ?_
  refine g_vret hC hr hlk d_K_noteArrival_20 (by decide) (by decide) (fun ad w hw => ?_)
  exact hw
/-- what a copy's execute does to the cells -/
def cxR (ρ : rS) (s o p : Nat) : rS := if ρ (60 + o) 0 = 0 then u2 ρ (10 * s + 1) p (2 * (ρ (10 * s + 1) p / 2)) else pcR ρ s p (ρ (60 + o) 0)
def exR (ρ : rS) (s o p x : Nat) : rS := if o / 6 = s then u2 (u2 (cxR ρ s o p) (10 * s + 3) o (p + 1)) (10 * s) 1 x else u2 (u2 (u2 (cxR ρ s o p) (10 * s + 3) o (p + 1)) (10 * s) 1 x) (10 * s) 3 (ρ (10 * s) 3 + 1)
theorem cxR_ne {ρ : rS} {s o p k : Nat} (h1 : k ≠ 10 * s + 1) (h2 : k ≠ 10 * s) : cxR ρ s o p k = ρ k := by
  unfold cxR
  split
  · rw [u2_ne h1]
  · unfold pcR
    rw [u2_ne h2, u2_ne h1, shR_ne h1]
theorem cxR_f {ρ : rS} {s o p j : Nat} (h : j ≠ 0) : cxR ρ s o p (10 * s) j = ρ (10 * s) j := by
  unfold cxR
  split
  · rw [u2_ne (by omega)]
  · unfold pcR
    rw [u2_in, if_neg h, u2_ne (by omega), shR_ne (by omega)]
set_option maxRecDepth 100000 in
set_option maxHeartbeats 4000000 in
theorem k_exec (l : Launch) (D : va_G) (S : Nat) (ρ : rS) (ad0 : Nat → Nat) (w0 : gW) (s : Nat) (hs : s < S) (o p : Nat) (v : Nat → Nat) (ho : o < 18) (hal : ρ 41 o ≠ 0) (hsi : ρ (60 + o) 3 = o / 6) (hnu : ρ (60 + o) 4 = o % 6) (hv : ρ (10 * s) 1 = evv v) (hv6 : ∀ t, mu v (o / 6) t ≤ 6) (hc5 : ρ (60 + o) 0 ≤ 255) (heo : ρ (10 * s) 3 < 900) (hp : if ρ (60 + o) 0 = 0 then p < ρ (10 * s) 0 ∧ ρ (10 * s) 0 ≤ 18 ∧ ρ (10 * s + 1) p / 2 ≠ 0 else p ≤ ρ (10 * s) 0 ∧ ρ (10 * s) 0 < 18) : g_M l y_K_execute w_K_execute (rk 2) D gCl g_N [.ref (ad0 (10 + 4 * s)), .ref (ad0 (100 + o)), .int (nI p)] (CW S ρ ad0 w0) 0 0 (fun A => g_Qv D gCl A (fun ad w => CW S (exR ρ s o p (evv (mu v (o / 6)))) ad0 w0 ad w)) := by
  refine g_of (cc := c_K_execute) (nL := 3) (ret := none) (by decide) rfl (Nat.le_of_ble_eq_true rfl) ?_
  intro pp ee ss mm bb me cc A hC hr hlk hnm
  refine g_los [0, 1, 2] (lo' := [(0, .ref (ad0 (10 + 4 * s))), (1, .ref (ad0 (100 + o))), (2, .int (nI p))]) rfl ?_
  refine g_pure cw_bl (fun hbS => ?_)
  obtain ⟨hb, hSS⟩ := hbS
  refine g_aload_n (i := 1) hC d_K_execute_0 rfl rfl (Or.inr ⟨_, rfl⟩) ?_
  refine g_calli hC (g_runV (q := (100 + o)) (As := []) (st := []) hC g_NOK_N (o_isInsert l D S ρ ad0 w0 o ho hal) (t_cwV 0 hC.1.2.2.2.2 m_167 m_168 m_169 m_7 k_O_isInsert rfl rfl hd_O_isInsert ⟨by decide, by decide⟩) (cw_o ho hal) rfl rfl rfl (Nat.le_of_ble_eq_true rfl) d_K_execute_1 ⟨by decide, by decide⟩) (fun r1 => ?_)
  refine g_and (fun e => ?_)
  subst e
  refine g_if_eqN (tgt := 19) hC d_K_execute_4 (by decide) (pb_le _) (fun h4 => ?_) (fun h4 => ?_)
  · have g4 := pb_0 h4
    have g4 := Decidable.not_not.mp g4
    rw [if_pos g4] at hp
    have ecx : u2 ρ (10 * s + 1) p (2 * (ρ (10 * s + 1) p / 2)) = cxR ρ s o p := by
      unfold cxR
      rw [if_pos g4]
    refine g_aload_n (i := 0) hC d_K_execute_19 rfl rfl (Or.inr ⟨_, rfl⟩) ?_
    refine g_iload_n (i := 2) hC d_K_execute_20 rfl rfl ?_
    refine g_callv hC (g_runV (q := (10 + 4 * s)) (As := [_]) (st := []) hC g_NOK_N (k_hide l D S ρ ad0 w0 s hs p hp.1 hp.2.1 hp.2.2) (t_cwV 1 hC.1.2.2.2.2 m_175 m_177 ms_3 m_5 k_K_hideCell rfl rfl hd_K_hideCell ⟨by decide, by decide⟩) (cw_co hs) rfl rfl rfl (Nat.le_of_ble_eq_true rfl) d_K_execute_21 ⟨by decide, by decide⟩) ?_
    rw [ecx]
    have hal2 : cxR ρ s o p 41 o ≠ 0 := by
      rw [cxR_ne (by omega) (by omega)]
      exact hal
    have hsi2 : cxR ρ s o p (60 + o) 3 = o / 6 := by
      rw [cxR_ne (by omega) (by omega)]
      exact hsi
    have hnu2 : cxR ρ s o p (60 + o) 4 = o % 6 := by
      rw [cxR_ne (by omega) (by omega)]
      exact hnu
    have hp18 : p ≤ 18 := by omega
    refine g_aload_n (i := 0) hC d_K_execute_24 rfl rfl (Or.inr ⟨_, rfl⟩) ?_
    refine g_get hC (fun x h => List.mem_cons_of_mem _ (in_K x h)) (10 + 4 * s) (cw_co hs) rfl 7 (by decide) (List.mem_cons_of_mem _ m_64) rfl rfl d_K_execute_25 ?_
    refine g_aload_n (i := 1) hC d_K_execute_28 rfl rfl (Or.inr ⟨_, rfl⟩) ?_
    refine g_calli hC (g_runV (q := (100 + o)) (As := []) (st := [_]) hC g_NOK_N (o_index l D S (cxR ρ s o p) ad0 w0 o ho hal2 hsi2 hnu2) (t_cwV 0 hC.1.2.2.2.2 m_179 m_160 m_161 m_7 k_O_index rfl rfl hd_O_index ⟨by decide, by decide⟩) (cw_o ho hal2) rfl rfl rfl (Nat.le_of_ble_eq_true rfl) d_K_execute_29 ⟨by decide, by decide⟩) (fun r29 => ?_)
    refine g_and (fun e => ?_)
    subst e
    refine g_iload_n (i := 2) hC d_K_execute_32 rfl rfl ?_
    refine cs_plc (si := s) (x := (p + 1)) hC (by omega) hs (by omega) (by omega) (nI_pred p).symm d_K_execute_33 ?_
    have hal3 : u2 (cxR ρ s o p) (10 * s + 3) o (p + 1) 41 o ≠ 0 := by
      rw [u2_ne (by omega)]
      exact hal2
    refine g_aload_n (i := 0) hC d_K_execute_34 rfl rfl (Or.inr ⟨_, rfl⟩) ?_
    refine g_aload_n (i := 0) hC d_K_execute_35 rfl rfl (Or.inr ⟨_, rfl⟩) ?_
    refine g_get hC (fun x h => List.mem_cons_of_mem _ (in_K x h)) (10 + 4 * s) (cw_co hs) rfl 3 (by decide) (List.mem_cons_of_mem _ m_56) rfl rfl d_K_execute_36 ?_
    refine g_aload_n (i := 1) hC d_K_execute_39 rfl rfl (Or.inr ⟨_, rfl⟩) ?_
    refine g_getN (host := R_T) hC (fun x h => List.mem_cons_of_mem _ (in_O x h)) (100 + o) (cw_o ho hal3) rfl 0 (by decide) (hC.2.2.1.1 _ mn_132) rfl rfl d_K_execute_40 ?_
    rw [u2_ne (a := 10 * s) (by omega), cxR_f (by decide), hv, u2_ne (a := 60 + o) (by omega), hsi2]
    refine g_calli hC (g_runS (As := [_, _]) (st := [_]) hC g_NOK_N (v_more l D (CW S (u2 (cxR ρ s o p) (10 * s + 3) o (p + 1)) ad0 w0) v (o / 6) (by omega)) (t_cwS 2 hC.1.2.2.2.2 m_180 m_181 m_3 k_V_withOneMore rfl rfl hd_V_withOneMore ⟨by decide, by decide⟩) rfl rfl (Nat.le_of_ble_eq_true rfl) d_K_execute_43 ⟨by decide, by decide⟩) (fun r43 => ?_)
    refine g_and (fun e => ?_)
    subst e
    refine g_put (ty := .int) hC (fun x h => List.mem_cons_of_mem _ (in_K x h)) ft_K tk_K n_K (10 + 4 * s) (cw_co hs) rfl 3 (by decide) (List.mem_cons_of_mem _ m_56) rfl rfl (by decide +kernel) rfl rfl (Nat.le_of_ble_eq_true rfl) (cw_upf1 (by omega) hs (by have := evv_lt hv6; omega)) d_K_execute_46 ?_
    have hal4 : u2 (u2 (cxR ρ s o p) (10 * s + 3) o (p + 1)) (10 * s) 1 (evv (mu v (o / 6))) 41 o ≠ 0 := by
      rw [u2_ne (by omega)]
      exact hal3
    refine g_aload_n (i := 1) hC d_K_execute_49 rfl rfl (Or.inr ⟨_, rfl⟩) ?_
    refine g_getN (host := R_T) hC (fun x h => List.mem_cons_of_mem _ (in_O x h)) (100 + o) (cw_o ho hal4) rfl 0 (by decide) (hC.2.2.1.1 _ mn_132) rfl rfl d_K_execute_50 ?_
    refine g_aload_n (i := 0) hC d_K_execute_53 rfl rfl (Or.inr ⟨_, rfl⟩) ?_
    refine g_get hC (fun x h => List.mem_cons_of_mem _ (in_K x h)) (10 + 4 * s) (cw_co hs) rfl 0 (by decide) (List.mem_cons_of_mem _ m_50) rfl rfl d_K_execute_54 ?_
    rw [u2_ne (a := 60 + o) (by omega), u2_ne (a := 60 + o) (by omega), hsi2]
    refine g_icmp_eqN (tgt := 70) hC d_K_execute_57 (by decide) (by omega) (by omega) (fun h57 => ?_) (fun h57 => ?_)
    · refine g_vret hC hr hlk d_K_execute_70 (by decide) (by decide) (fun ad w hw => ?_)
      unfold exR
      rw [if_pos h57]
      exact hw
    · refine g_aload_n (i := 0) hC d_K_execute_60 rfl rfl (Or.inr ⟨_, rfl⟩) ?_
      refine g_dup hC d_K_execute_61 rfl ?_
      refine g_get hC (fun x h => List.mem_cons_of_mem _ (in_K x h)) (10 + 4 * s) (cw_co hs) rfl 6 (by decide) (List.mem_cons_of_mem _ m_62) rfl rfl d_K_execute_62 ?_
      refine g_iconst (v := nI 1) hC d_K_execute_65 (by decide) ?_
      rw [u2_in, if_neg (by decide), u2_ne (a := 10 * s) (by omega), cxR_f (by decide)]
      refine g_iaddN hC d_K_execute_66 ?_
      refine g_put (ty := .int) hC (fun x h => List.mem_cons_of_mem _ (in_K x h)) ft_K tk_K n_K (10 + 4 * s) (cw_co hs) rfl 6 (by decide) (List.mem_cons_of_mem _ m_62) rfl rfl (by decide +kernel) rfl rfl (Nat.le_of_ble_eq_true rfl) (cw_upf3 (by omega) hs (by omega)) d_K_execute_67 ?_
      refine g_vret hC hr hlk d_K_execute_70 (by decide) (by decide) (fun ad w hw => ?_)
      unfold exR
      rw [if_neg h57]
      exact hw
  · have g4 := pb_1 h4
    rw [if_neg g4] at hp
    have ecx : pcR ρ s p (ρ (60 + o) 0) = cxR ρ s o p := by
      unfold cxR
      rw [if_neg g4]
    refine g_aload_n (i := 0) hC d_K_execute_7 rfl rfl (Or.inr ⟨_, rfl⟩) ?_
    refine g_iload_n (i := 2) hC d_K_execute_8 rfl rfl ?_
    refine g_aload_n (i := 1) hC d_K_execute_9 rfl rfl (Or.inr ⟨_, rfl⟩) ?_
    refine g_getN (host := R_T) hC (fun x h => List.mem_cons_of_mem _ (in_O x h)) (100 + o) (cw_o ho hal) rfl 2 (by decide) (hC.2.2.1.1 _ mn_138) rfl rfl d_K_execute_10 ?_
    refine g_callv hC (g_runV (q := (10 + 4 * s)) (As := [_, _]) (st := []) hC g_NOK_N (k_put l D S ρ ad0 w0 s hs p (ρ (60 + o) 0) hp.1 hp.2 hc5) (t_cwV 2 hC.1.2.2.2.2 m_171 m_173 ms_2 m_5 k_K_putCell rfl rfl hd_K_putCell ⟨by decide, by decide⟩) (cw_co hs) rfl rfl rfl (Nat.le_of_ble_eq_true rfl) d_K_execute_13 ⟨by decide, by decide⟩) ?_
    refine g_goto (tgt := 24) hC d_K_execute_16 (by decide) ?_
    rw [ecx]
    have hal2 : cxR ρ s o p 41 o ≠ 0 := by
      rw [cxR_ne (by omega) (by omega)]
      exact hal
    have hsi2 : cxR ρ s o p (60 + o) 3 = o / 6 := by
      rw [cxR_ne (by omega) (by omega)]
      exact hsi
    have hnu2 : cxR ρ s o p (60 + o) 4 = o % 6 := by
      rw [cxR_ne (by omega) (by omega)]
      exact hnu
    have hp18 : p ≤ 18 := by omega
    refine g_aload_n (i := 0) hC d_K_execute_24 rfl rfl (Or.inr ⟨_, rfl⟩) ?_
    refine g_get hC (fun x h => List.mem_cons_of_mem _ (in_K x h)) (10 + 4 * s) (cw_co hs) rfl 7 (by decide) (List.mem_cons_of_mem _ m_64) rfl rfl d_K_execute_25 ?_
    refine g_aload_n (i := 1) hC d_K_execute_28 rfl rfl (Or.inr ⟨_, rfl⟩) ?_
    refine g_calli hC (g_runV (q := (100 + o)) (As := []) (st := [_]) hC g_NOK_N (o_index l D S (cxR ρ s o p) ad0 w0 o ho hal2 hsi2 hnu2) (t_cwV 0 hC.1.2.2.2.2 m_179 m_160 m_161 m_7 k_O_index rfl rfl hd_O_index ⟨by decide, by decide⟩) (cw_o ho hal2) rfl rfl rfl (Nat.le_of_ble_eq_true rfl) d_K_execute_29 ⟨by decide, by decide⟩) (fun r29 => ?_)
    refine g_and (fun e => ?_)
    subst e
    refine g_iload_n (i := 2) hC d_K_execute_32 rfl rfl ?_
    refine cs_plc (si := s) (x := (p + 1)) hC (by omega) hs (by omega) (by omega) (nI_pred p).symm d_K_execute_33 ?_
    have hal3 : u2 (cxR ρ s o p) (10 * s + 3) o (p + 1) 41 o ≠ 0 := by
      rw [u2_ne (by omega)]
      exact hal2
    refine g_aload_n (i := 0) hC d_K_execute_34 rfl rfl (Or.inr ⟨_, rfl⟩) ?_
    refine g_aload_n (i := 0) hC d_K_execute_35 rfl rfl (Or.inr ⟨_, rfl⟩) ?_
    refine g_get hC (fun x h => List.mem_cons_of_mem _ (in_K x h)) (10 + 4 * s) (cw_co hs) rfl 3 (by decide) (List.mem_cons_of_mem _ m_56) rfl rfl d_K_execute_36 ?_
    refine g_aload_n (i := 1) hC d_K_execute_39 rfl rfl (Or.inr ⟨_, rfl⟩) ?_
    refine g_getN (host := R_T) hC (fun x h => List.mem_cons_of_mem _ (in_O x h)) (100 + o) (cw_o ho hal3) rfl 0 (by decide) (hC.2.2.1.1 _ mn_132) rfl rfl d_K_execute_40 ?_
    rw [u2_ne (a := 10 * s) (by omega), cxR_f (by decide), hv, u2_ne (a := 60 + o) (by omega), hsi2]
    refine g_calli hC (g_runS (As := [_, _]) (st := [_]) hC g_NOK_N (v_more l D (CW S (u2 (cxR ρ s o p) (10 * s + 3) o (p + 1)) ad0 w0) v (o / 6) (by omega)) (t_cwS 2 hC.1.2.2.2.2 m_180 m_181 m_3 k_V_withOneMore rfl rfl hd_V_withOneMore ⟨by decide, by decide⟩) rfl rfl (Nat.le_of_ble_eq_true rfl) d_K_execute_43 ⟨by decide, by decide⟩) (fun r43 => ?_)
    refine g_and (fun e => ?_)
    subst e
    refine g_put (ty := .int) hC (fun x h => List.mem_cons_of_mem _ (in_K x h)) ft_K tk_K n_K (10 + 4 * s) (cw_co hs) rfl 3 (by decide) (List.mem_cons_of_mem _ m_56) rfl rfl (by decide +kernel) rfl rfl (Nat.le_of_ble_eq_true rfl) (cw_upf1 (by omega) hs (by have := evv_lt hv6; omega)) d_K_execute_46 ?_
    have hal4 : u2 (u2 (cxR ρ s o p) (10 * s + 3) o (p + 1)) (10 * s) 1 (evv (mu v (o / 6))) 41 o ≠ 0 := by
      rw [u2_ne (by omega)]
      exact hal3
    refine g_aload_n (i := 1) hC d_K_execute_49 rfl rfl (Or.inr ⟨_, rfl⟩) ?_
    refine g_getN (host := R_T) hC (fun x h => List.mem_cons_of_mem _ (in_O x h)) (100 + o) (cw_o ho hal4) rfl 0 (by decide) (hC.2.2.1.1 _ mn_132) rfl rfl d_K_execute_50 ?_
    refine g_aload_n (i := 0) hC d_K_execute_53 rfl rfl (Or.inr ⟨_, rfl⟩) ?_
    refine g_get hC (fun x h => List.mem_cons_of_mem _ (in_K x h)) (10 + 4 * s) (cw_co hs) rfl 0 (by decide) (List.mem_cons_of_mem _ m_50) rfl rfl d_K_execute_54 ?_
    rw [u2_ne (a := 60 + o) (by omega), u2_ne (a := 60 + o) (by omega), hsi2]
    refine g_icmp_eqN (tgt := 70) hC d_K_execute_57 (by decide) (by omega) (by omega) (fun h57 => ?_) (fun h57 => ?_)
    · refine g_vret hC hr hlk d_K_execute_70 (by decide) (by decide) (fun ad w hw => ?_)
      unfold exR
      rw [if_pos h57]
      exact hw
    · refine g_aload_n (i := 0) hC d_K_execute_60 rfl rfl (Or.inr ⟨_, rfl⟩) ?_
      refine g_dup hC d_K_execute_61 rfl ?_
      refine g_get hC (fun x h => List.mem_cons_of_mem _ (in_K x h)) (10 + 4 * s) (cw_co hs) rfl 6 (by decide) (List.mem_cons_of_mem _ m_62) rfl rfl d_K_execute_62 ?_
      refine g_iconst (v := nI 1) hC d_K_execute_65 (by decide) ?_
      rw [u2_in, if_neg (by decide), u2_ne (a := 10 * s) (by omega), cxR_f (by decide)]
      refine g_iaddN hC d_K_execute_66 ?_
      refine g_put (ty := .int) hC (fun x h => List.mem_cons_of_mem _ (in_K x h)) ft_K tk_K n_K (10 + 4 * s) (cw_co hs) rfl 6 (by decide) (List.mem_cons_of_mem _ m_62) rfl rfl (by decide +kernel) rfl rfl (Nat.le_of_ble_eq_true rfl) (cw_upf3 (by omega) hs (by omega)) d_K_execute_67 ?_
      refine g_vret hC hr hlk d_K_execute_70 (by decide) (by decide) (fun ad w hw => ?_)
      unfold exR
      rw [if_neg h57]
      exact hw
end
section
/-- x, y name the made operation o -/
def MO (σ : rS) (x y : Int32) (o : Nat) : Prop := mh (s_mk σ) o ∧ x = nI (o / 6) ∧ y = nI (o % 6)
theorem fd_o {S : Nat} {σ : rS} {x y : Int32} {ad0 : Nat → Nat} {r : Option Nat} (hInv : INV S σ) (h : (∃ s k, MD S σ x y s k ∧ r = some (ad0 (100 + (6 * s + k)))) ∨ ((¬ ∃ s k, MD S σ x y s k) ∧ r = none)) : (∃ o, MO σ x y o ∧ r = some (ad0 (100 + o))) ∨ ((¬ ∃ o, MO σ x y o) ∧ r = none) := by
  rcases h with ⟨s, k, h, e⟩ | ⟨h, e⟩
  · obtain ⟨a, b, c, d, f⟩ := MD.opn hInv h
    exact Or.inl ⟨6 * s + k, ⟨a, by rw [c]; exact h.1, by rw [d]; exact h.2.2.1⟩, e⟩
  · refine Or.inr ⟨fun ⟨o, ho⟩ => h ?_, e⟩
    obtain ⟨a, rfl, rfl⟩ := ho
    exact (md_iff hInv (hInv.1.lt18 a)).mpr a
theorem MO.md {S : Nat} {σ : rS} {x y : Int32} {o : Nat} (hInv : INV S σ) (h : MO σ x y o) : MD S σ x y (o / 6) (o % 6) := by
  obtain ⟨a, rfl, rfl⟩ := h
  obtain ⟨s, k, hm⟩ := (md_iff hInv (hInv.1.lt18 a)).mpr a
  obtain ⟨e1, e2⟩ := MD.at_ hInv (hInv.1.lt18 a) hm
  rw [e1, e2] at hm
  exact hm
theorem MD.mo {S : Nat} {σ : rS} {x y : Int32} {s k : Nat} (hInv : INV S σ) (h : MD S σ x y s k) : MO σ x y (6 * s + k) := by
  obtain ⟨a, b, c, d, f⟩ := MD.opn hInv h
  exact ⟨a, by rw [c]; exact h.1, by rw [d]; exact h.2.2.1⟩
theorem MO.eq {S : Nat} {σ : rS} {x y : Int32} {o o' : Nat} (hInv : INV S σ) (h : MO σ x y o) (h' : MO σ x y o') : o = o' := by
  have a := hInv.1.lt18 h.1
  have b := hInv.1.lt18 h'.1
  have e1 := nI_inj (h.2.1.symm.trans h'.2.1) (by omega) (by omega)
  have e2 := nI_inj (h.2.2.symm.trans h'.2.2) (by omega) (by omega)
  omega
theorem cdv_lt {S : Nat} {σ : rS} (hInv : INV S σ) {o : Nat} (ho : mh (s_mk σ) o) : cdv σ o < 2 ^ 62 := by
  have h18 := hInv.1.lt18 ho
  obtain ⟨a, b, c⟩ := hInv.1.2.2.2 o ho
  have h1 := mcnt_18 (σ 2) (s_cx σ o)
  have h4 : σ 4 o ≤ 255 := by
    by_cases q : σ 2 o = 0
    · rw [(b q).1]
      omega
    · exact (c q).2.2
  have c0 := hInv.cx6 ho 0
  have c1 := hInv.cx6 ho 1
  have c2 := hInv.cx6 ho 2
  rw [s_cx_lt (by omega)] at c0 c1 c2
  unfold cdv
  rw [Nat.add_zero] at c0
  split <;> omega
theorem lN_t {n : Nat} (h : n < 2 ^ 31) : (lN n).toInt32 = nI n := by
  apply Int32.toInt_inj.mp
  rw [nI_toInt h, Int64.toInt_toInt32, pf_lI (by omega)]
  exact Int.bmod_eq_of_le (by omega) (by omega)
theorem cd_key {S : Nat} {σ : rS} (hInv : INV S σ) {o : Nat} (ho : mh (s_mk σ) o) : (lN (cdv σ o) &&& 3).toInt32 = nI (o / 6) ∧ ((lN (cdv σ o) >>> ((nI 2).toInt64 &&& 63)) &&& 15).toInt32 = nI (o % 6) := by
  have hl := cdv_lt hInv ho
  have h18 := hInv.1.lt18 ho
  obtain ⟨a, b⟩ := cdv_site (σ := σ) h18
  have e3 : (3 : Int64) = lN (2 ^ 2 - 1) := by decide +kernel
  have e15 : (15 : Int64) = lN (2 ^ 4 - 1) := by decide +kernel
  constructor
  · rw [e3, wb_mask (by omega) (by decide), show (2 : Nat) ^ 2 = 4 by decide, a, lN_t (by omega)]
  · rw [pf_shr (d := 2) (by decide +kernel) hl, e15, wb_mask (by omega) (by decide), show (2 : Nat) ^ 2 = 4 by decide, show (2 : Nat) ^ 4 = 16 by decide, b, lN_t (by omega)]
set_option maxRecDepth 100000 in
set_option maxHeartbeats 4000000 in
theorem h_code (l : Launch) (D : va_G) (S : Nat) (σ ρ : rS) (ad0 : Nat → Nat) (w0 : gW) (hInv : INV S σ) (hO : OPS S σ ρ) (cd : Int64) : g_M l y_H_findByCode w_H_findByCode (rk 2) D gCl g_N [.ref (ad0 1), .long cd] (CW S ρ ad0 w0) 0 0 (fun A => g_Qq D gCl A (fun r ad w => ((∃ o, (mh (s_mk σ) o ∧ cd = lN (cdv σ o)) ∧ r = some (ad0 (100 + o))) ∨ ((¬ ∃ o, mh (s_mk σ) o ∧ cd = lN (cdv σ o)) ∧ r = none)) ∧ CW S ρ ad0 w0 ad w)) := by
  refine g_of (cc := c_H_findByCode) (nL := 4) (ret := some (.object "TombstoneSites$Operation")) (by decide) rfl (Nat.le_of_ble_eq_true rfl) ?_
  intro pp ee ss mm bb me cc A hC hr hlk hnm
  refine g_los [0, 1] (lo' := [(0, .ref (ad0 1)), (1, .long cd)]) rfl ?_
  refine g_pure cw_bl (fun hbS => ?_)
  obtain ⟨hb, hSS⟩ := hbS
  refine g_aload_n (i := 0) hC d_H_findByCode_0 rfl rfl (Or.inr ⟨_, rfl⟩) ?_
  refine g_lload_n (i := 1) hC d_H_findByCode_1 rfl rfl ?_
  refine g_ldc2 (v := 3) hC d_H_findByCode_2 (List.mem_cons_of_mem _ m_251) ?_
  refine g_land hC d_H_findByCode_5 ?_
  refine g_l2i hC d_H_findByCode_6 rfl ?_
  refine g_lload_n (i := 1) hC d_H_findByCode_7 rfl rfl ?_
  refine g_iconst (v := nI 2) hC d_H_findByCode_8 (by decide) ?_
  refine g_lshr hC d_H_findByCode_9 rfl ?_
  refine g_ldc2 (v := 15) hC d_H_findByCode_10 (List.mem_cons_of_mem _ m_252) ?_
  refine g_land hC d_H_findByCode_13 ?_
  refine g_l2i hC d_H_findByCode_14 rfl ?_
  refine g_callq hC (g_runV (q := 1) (As := [_, _]) (st := []) hC g_NOK_N (h_find l D S σ ρ ad0 w0 hInv hO (cd &&& 3).toInt32 ((cd >>> ((nI 2).toInt64 &&& 63)) &&& 15).toInt32) (t_cwV 2 hC.1.2.2.2.2 m_226 m_193 m_194 m_2 k_H_find rfl rfl hd_H_find ⟨by decide, by decide⟩) cw_hi rfl rfl rfl (Nat.le_of_ble_eq_true rfl) d_H_findByCode_15 ⟨by decide, by decide⟩) (fun r15 => ?_)
  refine g_and (fun e15 => ?_)
  replace e15 := fd_o hInv e15
  rcases e15 with ⟨o, hm, rfl⟩ | ⟨hm, rfl⟩
  · rw [show va_rf (some (ad0 (100 + o))) = .ref (ad0 (100 + o)) from rfl]
    obtain ⟨hx, hxal, hxsi, hxnu, -, -, hxcx⟩ := hO.al hInv hm.1
    refine g_astore_n (i := 3) (lo' := [(3, _), (0, _), (1, _)]) hC d_H_findByCode_18 rfl (Or.inr ⟨_, rfl⟩) (by decide) rfl ?_
    refine g_aload_n (i := 3) hC d_H_findByCode_19 rfl rfl (Or.inr ⟨_, rfl⟩) ?_
    refine g_ifnullR hC d_H_findByCode_20 ?_
    refine g_aload_n (i := 3) hC d_H_findByCode_23 rfl rfl (Or.inr ⟨_, rfl⟩) ?_
    refine g_calll hC (g_runV (q := (100 + o)) (As := []) (st := []) hC g_NOK_N (o_toCode l D S ρ ad0 w0 o (s_cx σ o) hx hxal hxsi hxnu hxcx (hInv.cx6 hm.1)) (t_cwV 0 hC.1.2.2.2.2 m_253 m_254 m_255 m_7 k_O_toCode rfl rfl hd_O_toCode ⟨by decide, by decide⟩) (cw_o hx hxal) rfl rfl rfl (Nat.le_of_ble_eq_true rfl) d_H_findByCode_24 ⟨by decide, by decide⟩) (fun r24 => ?_)
    refine g_and (fun e => ?_)
    rw [cdv_eq hInv hO hm.1] at e
    subst e
    refine g_lload_n (i := 1) hC d_H_findByCode_27 rfl rfl ?_
    refine g_lcmp hC d_H_findByCode_28 ?_
    refine g_if_ne (tgt := 36) hC d_H_findByCode_29 (by decide) (fun h29 => ?_) (fun h29 => ?_)
    · refine g_null hC d_H_findByCode_36 ?_
      refine g_aret (r := none) hC hr hlk d_H_findByCode_37 (by decide) (by decide) (fun ad w hw => ?_)
      refine ⟨Or.inr ⟨fun ⟨o1, h⟩ => h29 (lg_cmp_0.mpr ?_), rfl⟩, hw⟩
      have h2 : MO σ (cd &&& 3).toInt32 ((cd >>> ((nI 2).toInt64 &&& 63)) &&& 15).toInt32 o1 := ⟨h.1, by rw [h.2]; exact (cd_key hInv h.1).1, by rw [h.2]; exact (cd_key hInv h.1).2⟩
      rw [MO.eq hInv hm h2]
      exact h.2.symm
    · refine g_aload_n (i := 3) hC d_H_findByCode_32 rfl rfl (Or.inr ⟨_, rfl⟩) ?_
      refine g_goto (tgt := 37) hC d_H_findByCode_33 (by decide) ?_
      refine g_aret (r := some (ad0 (100 + o))) hC hr hlk d_H_findByCode_37 (by decide) (by decide) (fun ad w hw => ?_)
      exact ⟨Or.inl ⟨o, ⟨hm.1, (lg_cmp_0.mp h29).symm⟩, rfl⟩, hw⟩
  · rw [show va_rf none = .null from rfl]
    refine g_astore_n (i := 3) (lo' := [(3, _), (0, _), (1, _)]) hC d_H_findByCode_18 rfl (Or.inl rfl) (by decide) rfl ?_
    refine g_aload_n (i := 3) hC d_H_findByCode_19 rfl rfl (Or.inl rfl) ?_
    refine g_ifnullZ (tgt := 36) hC d_H_findByCode_20 (by decide) ?_
    refine g_null hC d_H_findByCode_36 ?_
    refine g_aret (r := none) hC hr hlk d_H_findByCode_37 (by decide) (by decide) (fun ad w hw => ?_)
    exact ⟨Or.inr ⟨fun ⟨o, h⟩ => hm ⟨o, h.1, by rw [h.2]; exact (cd_key hInv h.1).1, by rw [h.2]; exact (cd_key hInv h.1).2⟩, rfl⟩, hw⟩
set_option maxRecDepth 100000 in
set_option maxHeartbeats 4000000 in
theorem h_add (l : Launch) (D : va_G) (S : Nat) (ρ : rS) (ad0 : Nat → Nat) (w0 : gW) (o : Nat) (ho : o < 18) (hoS : o < 6 * S) (hal : ρ 41 o ≠ 0) (hsi : ρ (60 + o) 3 = o / 6) (hnu : ρ (60 + o) 4 = o % 6) : g_M l y_H_add w_H_add (rk 1) D gCl g_N [.ref (ad0 1), .ref (ad0 (100 + o))] (CW S ρ ad0 w0) 0 0 (fun A => g_Qv D gCl A (fun ad w => CW S (u2 ρ 40 o 1) ad0 w0 ad w)) := by
  refine g_of (cc := c_H_add) (nL := 2) (ret := none) (by decide) rfl (Nat.le_of_ble_eq_true rfl) ?_
  intro pp ee ss mm bb me cc A hC hr hlk hnm
  refine g_los [0, 1] (lo' := [(0, .ref (ad0 1)), (1, .ref (ad0 (100 + o)))]) rfl ?_
  refine g_pure cw_bl (fun hbS => ?_)
  obtain ⟨hb, hSS⟩ := hbS
  refine g_aload_n (i := 0) hC d_H_add_0 rfl rfl (Or.inr ⟨_, rfl⟩) ?_
  refine g_get hC (fun x h => List.mem_cons_of_mem _ (in_H x h)) 1 cw_hi rfl 1 (by decide) (List.mem_cons_of_mem _ m_32) rfl rfl d_H_add_1 ?_
  refine g_aload_n (i := 1) hC d_H_add_4 rfl rfl (Or.inr ⟨_, rfl⟩) ?_
  refine g_calli hC (g_runV (q := (100 + o)) (As := []) (st := [_]) hC g_NOK_N (o_index l D S ρ ad0 w0 o ho hal hsi hnu) (t_cwV 0 hC.1.2.2.2.2 m_159 m_160 m_161 m_7 k_O_index rfl rfl hd_O_index ⟨by decide, by decide⟩) (cw_o ho hal) rfl rfl rfl (Nat.le_of_ble_eq_true rfl) d_H_add_5 ⟨by decide, by decide⟩) (fun r5 => ?_)
  refine g_and (fun e => ?_)
  subst e
  refine g_aload_n (i := 1) hC d_H_add_8 rfl rfl (Or.inr ⟨_, rfl⟩) ?_
  refine cs_made hC rfl (by omega) hoS hal d_H_add_9 ?_
  refine g_vret hC hr hlk d_H_add_10 (by decide) (by decide) (fun ad w hw => ?_)
  exact hw
def opR (ρ : rS) (o a n c p v : Nat) : rS := u2 (u2 (u2 (u2 (u2 ρ (60 + o) 3 a) (60 + o) 4 n) (60 + o) 0 c) (60 + o) 1 p) (60 + o) 2 v
set_option maxRecDepth 100000 in
set_option maxHeartbeats 4000000 in
theorem o_init (l : Launch) (D : va_G) (S : Nat) (ρ : rS) (ad0 : Nat → Nat) (w0 : gW) (o a n c q v : Nat) (ho : o < 18) (hal : ρ 41 o ≠ 0) (ha : a < 1000) (hn : n < 1000) (hc : c < 1000) (hq : q < 1000) (hv : v < 1000) : g_M l y_O_init w_O_init (rk 1) D gCl g_N [.ref (ad0 (100 + o)), .int (nI a), .int (nI n), .int (nI c), .int (nI q), .int (nI v)] (CW S ρ ad0 w0) 0 0 (fun A => g_Qv D gCl A (fun ad w => CW S (opR ρ o a n c q v) ad0 w0 ad w)) := by
  refine g_of (cc := c_O_init) (nL := 6) (ret := none) (by decide) rfl (Nat.le_of_ble_eq_true rfl) ?_
  intro pp ee ss mm bb me cc A hC hr hlk hnm
  refine g_los [0, 1, 2, 3, 4, 5] (lo' := [(0, .ref (ad0 (100 + o))), (1, .int (nI a)), (2, .int (nI n)), (3, .int (nI c)), (4, .int (nI q)), (5, .int (nI v))]) rfl ?_
  refine g_pure cw_bl (fun hbS => ?_)
  obtain ⟨hb, hSS⟩ := hbS
  refine g_aload_n (i := 0) hC d_O_init_0 rfl rfl (Or.inr ⟨_, rfl⟩) ?_
  refine g_objInit hC (List.mem_cons_of_mem _ m_130) (List.mem_cons_of_mem _ m_15) (List.mem_cons_of_mem _ m_16) (by decide) (Nat.le_of_ble_eq_true rfl) d_O_init_1 ?_
  refine g_aload_n (i := 0) hC d_O_init_4 rfl rfl (Or.inr ⟨_, rfl⟩) ?_
  refine g_iload_n (i := 1) hC d_O_init_5 rfl rfl ?_
  refine g_putF (ty := .int) hC hnm (fun x h => List.mem_cons_of_mem _ (in_O x h)) ft_O tk_O n_O (100 + o) (cw_o ho (by (repeat rw [u2_ne (by omega)]); exact hal)) rfl 0 (by decide) (List.mem_cons_of_mem _ m_131) rfl rfl rfl (by decide +kernel) rfl rfl (Nat.le_of_ble_eq_true rfl) (cw_upo3 (by omega) ho (by (repeat rw [u2_ne (by omega)]); exact hal) (by omega)) d_O_init_6 ?_
  refine g_aload_n (i := 0) hC d_O_init_9 rfl rfl (Or.inr ⟨_, rfl⟩) ?_
  refine g_iload_n (i := 2) hC d_O_init_10 rfl rfl ?_
  refine g_putF (ty := .int) hC hnm (fun x h => List.mem_cons_of_mem _ (in_O x h)) ft_O tk_O n_O (100 + o) (cw_o ho (by (repeat rw [u2_ne (by omega)]); exact hal)) rfl 1 (by decide) (List.mem_cons_of_mem _ m_135) rfl rfl rfl (by decide +kernel) rfl rfl (Nat.le_of_ble_eq_true rfl) (cw_upo4 (by omega) ho (by (repeat rw [u2_ne (by omega)]); exact hal) (by omega)) d_O_init_11 ?_
  refine g_aload_n (i := 0) hC d_O_init_14 rfl rfl (Or.inr ⟨_, rfl⟩) ?_
  refine g_iload_n (i := 3) hC d_O_init_15 rfl rfl ?_
  refine g_putF (ty := .int) hC hnm (fun x h => List.mem_cons_of_mem _ (in_O x h)) ft_O tk_O n_O (100 + o) (cw_o ho (by (repeat rw [u2_ne (by omega)]); exact hal)) rfl 2 (by decide) (List.mem_cons_of_mem _ m_137) rfl rfl rfl (by decide +kernel) rfl rfl (Nat.le_of_ble_eq_true rfl) (cw_upo0 (by omega) ho (by (repeat rw [u2_ne (by omega)]); exact hal) (by omega)) d_O_init_16 ?_
  refine g_aload_n (i := 0) hC d_O_init_19 rfl rfl (Or.inr ⟨_, rfl⟩) ?_
  refine g_iload (i := 4) hC d_O_init_20 rfl ?_
  refine g_putF (ty := .int) hC hnm (fun x h => List.mem_cons_of_mem _ (in_O x h)) ft_O tk_O n_O (100 + o) (cw_o ho (by (repeat rw [u2_ne (by omega)]); exact hal)) rfl 3 (by decide) (List.mem_cons_of_mem _ m_139) rfl rfl rfl (by decide +kernel) rfl rfl (Nat.le_of_ble_eq_true rfl) (cw_upo1 (by omega) ho (by (repeat rw [u2_ne (by omega)]); exact hal) (by omega)) d_O_init_22 ?_
  refine g_aload_n (i := 0) hC d_O_init_25 rfl rfl (Or.inr ⟨_, rfl⟩) ?_
  refine g_iload (i := 5) hC d_O_init_26 rfl ?_
  refine g_putF (ty := .int) hC hnm (fun x h => List.mem_cons_of_mem _ (in_O x h)) ft_O tk_O n_O (100 + o) (cw_o ho (by (repeat rw [u2_ne (by omega)]); exact hal)) rfl 4 (by decide) (List.mem_cons_of_mem _ m_141) rfl rfl rfl (by decide +kernel) rfl rfl (Nat.le_of_ble_eq_true rfl) (cw_upo2 (by omega) ho (by (repeat rw [u2_ne (by omega)]); exact hal) (by omega)) d_O_init_28 ?_
  refine g_vret hC hr hlk d_O_init_31 (by decide) (by decide) (fun ad w hw => ?_)
  exact hw
end
