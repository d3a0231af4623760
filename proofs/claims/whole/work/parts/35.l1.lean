/-! rows of the law: the script, the switch, the end -/
section LROWS
variable {p : Program} {l : Launch} {e : Env} {R : Room} {s : State} {m : MethodId} {args : Array Value} {below : List Frame} {meth : Method} {c : Code} {D : va_G} {cl : List vw_C} {N : State → Prop} {A : Nat → Prop} {nL : Nat} {Q : State → Prop} {cells slots : Nat} {V : (Nat → Nat) → gW → Prop} {pc : Nat} {lo : List (Nat × Value)} {st : List Value} {cc : ByteArray} {own : String} {Ts : List Cond} {b L : Nat} {xs : Nat → Int32}
theorem g_sld {k : Nat} (hC : g_C p s m args c D cl N A nL cc own Ts) (hX : va_X b L xs s s.heap) (hbl : b < s.heap.size) (hbA : ¬ A b) (hk : k < L) (hL : L < 2 ^ 31) (hd : decode cc pc = .ok (.iaload, 1)) (kk : G p l e R s m args below meth c D cl A nL Q cells slots V (pc + 1) lo (.int (xs k) :: st)) : G p l e R s m args below meth c D cl A nL Q cells slots V pc lo (.int (nI k) :: .ref b :: st) := fun ad w H locs ls hx0 hw hS hl => by
  have hc : (nI k).toNatClampNeg = k := nI_clamp (by omega)
  refine va_sld hC.1.1 hC.1.2.1 hX hbl hbA hS (i := nI k) (fun q => ?_) hd ?_
  · rcases q with q | q
    · exact nI_pos (by omega) q
    · rw [hc] at q
      omega
  · rw [hc]
    exact kk ad w H locs ls hx0 hw hS hl
theorem g_slen (hC : g_C p s m args c D cl N A nL cc own Ts) (hX : va_X b L xs s s.heap) (hbl : b < s.heap.size) (hbA : ¬ A b) (hd : decode cc pc = .ok (.arraylength, 1)) (kk : G p l e R s m args below meth c D cl A nL Q cells slots V (pc + 1) lo (.int (nI L) :: st)) : G p l e R s m args below meth c D cl A nL Q cells slots V pc lo (.ref b :: st) := fun ad w H locs ls hx0 hw hS hl =>
  va_slen hC.1.1 hC.1.2.1 hX hbl hbA hS hd (kk ad w H locs ls hx0 hw hS hl)
theorem g_tblOut {dflt low hi : Int} {offs : Array Int} {len : Nat} {x : Int32} {tgt : Nat} (hC : g_C p s m args c D cl N A nL cc own Ts) (hd : decode cc pc = .ok (.tableswitch dflt low hi offs, len)) (h : x.toInt < low ∨ hi < x.toInt) (ht : (pc : Int) + dflt = (tgt : Int)) (kk : G p l e R s m args below meth c D cl A nL Q cells slots V tgt lo st) : G p l e R s m args below meth c D cl A nL Q cells slots V pc lo (.int x :: st) := fun ad w H locs ls hx0 hw hS hl =>
  lv_tableOut hC.1.1 hC.1.2.1 hd h ht (kk ad w H locs ls hx0 hw hS hl)
theorem g_tblIn {dflt low hi : Int} {offs : Array Int} {len : Nat} {x : Int32} {off : Int} {tgt : Nat} (hC : g_C p s m args c D cl N A nL cc own Ts) (hd : decode cc pc = .ok (.tableswitch dflt low hi offs, len)) (h1 : ¬ x.toInt < low) (h2 : ¬ hi < x.toInt) (ho : offs[(x.toInt - low).toNat]? = some off) (ht : (pc : Int) + off = (tgt : Int)) (kk : G p l e R s m args below meth c D cl A nL Q cells slots V tgt lo st) : G p l e R s m args below meth c D cl A nL Q cells slots V pc lo (.int x :: st) := fun ad w H locs ls hx0 hw hS hl =>
  lv_tableIn hC.1.1 hC.1.2.1 hd h1 h2 ho ht (kk ad w H locs ls hx0 hw hS hl)
theorem g_reti {mc ms : Nat} {v : Int32} {post : Int32 → Unit → Prop} (hC : g_C p s m args c D cl N A nL cc own Ts) (hr : meth.sig.returnType = some .int) (hlk : meth.locks = false) (hd : decode cc pc = .ok (.ireturn, 1)) (hmc : cells ≤ mc) (hms : slots ≤ ms) (hp : post v ()) : G p l e R s m args below meth c D cl A nL (MQ below (va_Qi post (fun _ _ => True) A) args s mc ms A) cells slots V pc lo [.int v] := fun ad w H locs ls hx0 hw hS hl =>
  W.widen hmc hms (W.iret (v := v) hC.1.1 hC.1.2.1 hr (fun t ht hW => ⟨⟨v, (), rfl, hp, trivial⟩, hS.F ht⟩) hS.2.2 hd hlk)
end LROWS
theorem g_w.kept {D : va_G} {cl : List vw_C} {s : State} {A : Nat → Prop} {ad : Nat → Nat} {w : gW} {H H1 : Heap} (h : g_w D cl s A ad w H) (hk : ∀ q : Nat, q < H.size → H1[q]? = H[q]?) : g_w D cl s A ad w H1 := ⟨fun k e he => ⟨(h.1 k e he).1.kept (hk _ (h.1 k e he).1.lt), (h.1 k e he).2⟩, h.2⟩
/-- the script's cell 0, or nought -/
def sc0 (L : Nat) (xs : Nat → Int32) : Int32 := if 0 < L then xs 0 else 0
set_option maxRecDepth 100000 in
set_option maxHeartbeats 4000000 in
theorem l_cell (l : Launch) (b L sz : Nat) (xs : Nat → Int32) (hL : L < 2 ^ 31) : Met l y_L_cell w_L_cell (rk 0) (va_Pc [.ref b, .int (nI 0)] (fun U => U.heap.size = sz ∧ va_X b L xs U U.heap ∧ b < U.heap.size)) (va_Qi (fun r (_ : Unit) => r = sc0 L xs) (fun _ _ => True) (fun q => sz ≤ q)) 0 0 (fun q => sz ≤ q) := by
  refine Met.ofW (cc := c_L_cell) (maxL := 2) (ret := some .int) (by decide) rfl ?_
  intro p e s m args below meth c s₁ B hml hv
  obtain ⟨rfl, hsz, hX, hbl⟩ := hv
  subst hsz
  have hC : g_C p s m ([.ref b, .int (nI 0)] : List Value).toArray c ((fun _ => m.cls), fun _ _ => 0) [] (fun _ => True) (fun q => s.heap.size ≤ q) 2 c_L_cell y_L_cell.cls w_L_cell := ⟨⟨B.exec, B.bytes, hml, findClass_of_methodNamed B.named, atoms_spec (ws := w_L_cell) B.pre⟩, ⟨fun c q h => by simp at h, fun k q h => by simp at h⟩, trivial, fun q h => h⟩
  have hbA : ¬ (fun q => s.heap.size ≤ q) b := Nat.not_le.mpr hbl
  have key : G p l e (rk 0) s m ([.ref b, .int (nI 0)] : List Value).toArray below meth c ((fun _ => m.cls), fun _ _ => 0) [] (fun q => s.heap.size ≤ q) 2 (MQ below (va_Qi (fun r (_ : Unit) => r = sc0 L xs) (fun _ _ => True) (fun q => s.heap.size ≤ q)) ([.ref b, .int (nI 0)] : List Value).toArray s 0 0 (fun q => s.heap.size ≤ q)) 0 0 (EQ (fun _ => 0) (fun _ => none)) 0 (lv_args 0 [.ref b, .int (nI 0)]) [] := by
    refine g_los [0, 1] (lo' := [(0, .ref b), (1, .int (nI 0))]) rfl ?_
    refine g_iload_n (i := 1) hC d_L_cell_0 rfl rfl ?_
    refine g_aload_n (i := 0) hC d_L_cell_1 rfl rfl (Or.inr ⟨_, rfl⟩) ?_
    refine g_slen hC hX hbl hbA d_L_cell_2 ?_
    refine g_icmp_geN (tgt := 12) hC d_L_cell_3 (by decide) (by decide) (by omega) (fun h3 => ?_) (fun h3 => ?_)
    · refine g_iconst (v := nI 0) hC d_L_cell_12 (by decide) ?_
      exact g_reti hC B.returns B.notSynchronized d_L_cell_13 (by decide) (by decide) (by unfold sc0; rw [if_neg (by omega)]; rfl)
    · refine g_aload_n (i := 0) hC d_L_cell_6 rfl rfl (Or.inr ⟨_, rfl⟩) ?_
      refine g_iload_n (i := 1) hC d_L_cell_7 rfl rfl ?_
      refine g_sld hC hX hbl hbA (by omega) hL d_L_cell_8 ?_
      refine g_goto (tgt := 13) hC d_L_cell_9 (by decide) ?_
      exact g_reti hC B.returns B.notSynchronized d_L_cell_13 (by decide) (by decide) (by unfold sc0; rw [if_pos (by omega)])
  rw [lg_entry_eq]
  exact key (fun _ => 0) (fun _ => none) s.heap [] _ ⟨rfl, rfl⟩ ⟨fun k e h => by simp at h, fun i j ei ej h => by simp at h⟩ va_S.rf (lv_entry _ (Nat.le_of_ble_eq_true rfl))
section LROWS2
variable {p : Program} {l : Launch} {e : Env} {R : Room} {s : State} {m : MethodId} {args : Array Value} {below : List Frame} {meth : Method} {c : Code} {D : va_G} {cl : List vw_C} {N : State → Prop} {A : Nat → Prop} {nL : Nat} {Q : State → Prop} {cells slots : Nat} {V : (Nat → Nat) → gW → Prop} {pc : Nat} {lo : List (Nat × Value)} {st : List Value} {cc : ByteArray} {own : String} {Ts : List Cond} {b L index : Nat} {xs : Nat → Int32}
theorem g_cell (hC : g_C p s m args c D cl N A nL cc own Ts) (hX : va_X b L xs s s.heap) (hbl : b < s.heap.size) (hbA : ¬ A b) (hL : L < 2 ^ 31) (cw : CallB R s args own index y_L_cell c_L_cell 2 (some .int) w_L_cell (rk 0) 0 0 2 ∧ (Cond.static y_L_cell).before args s = true) (hcat : (st.map fun v => v.category).sum ≤ 8) (hd : decode cc pc = .ok (.invokestatic index, 3)) (hf : cells + 0 ≤ R.cells ∧ slots + 0 ≤ R.slots) (kk : G p l e R s m args below meth c D cl A nL Q cells slots V (pc + 3) lo (.int (sc0 L xs) :: st)) : G p l e R s m args below meth c D cl A nL Q cells slots V pc lo (.int (nI 0) :: .ref b :: st) := fun ad w H locs ls hx0 hw hS hl => by
  have hXH : va_X b L xs s H := hX.kept (hS.2.1 b hbl hbA)
  have hr := va_runS (H := H) (locs := locs) (g := F0 m pc ls (.int (nI 0) :: .ref b :: st)) (As := [.ref b, .int (nI 0)]) (rest := st) (below := below) (e := e) (meth := meth) (cells := cells) (slots := slots) hC.1 (l_cell l b L H.size xs hL) cw ⟨fun a U g mk q => ⟨q.1, q.2.1, va_X.moved (u := U) (U := U.calling g mk a) (Vm.Alike.refl U.vm) q.2.2.1, q.2.2.2⟩, fun U hU hW => ⟨rfl, by rw [hU], by rw [hU]; exact hXH.moved hW.alike, by rw [hU]; exact Nat.lt_of_lt_of_le hbl hS.1⟩⟩ rfl rfl hl.1 rfl (lv_room hcat) hd hf
  refine va_calli hr hS (fun q h1 h2 => absurd h1 (by omega)) (fun q h => hC.2.2.2 q (Nat.le_trans hS.1 h)) (fun r u t H1 locs1 ht hvm hp hB hz hk hS1 => ?_)
  subst hp
  exact kk ad w H1 locs1 ls hx0 (hw.kept (fun q hq => hk q hq (by omega))) hS1 hl
end LROWS2
