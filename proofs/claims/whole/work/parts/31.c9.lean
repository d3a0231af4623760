section EQR
variable {p : Program} {l : Launch} {e : Env} {R : Room} {s : State} {m : MethodId} {args : Array Value} {below : List Frame} {meth : Method} {c : Code} {D : va_G} {cl : List vw_C} {A : Nat → Prop} {nL : Nat} {Q : State → Prop} {cells slots : Nat} {V : (Nat → Nat) → gW → Prop} {pc : Nat} {lo : List (Nat × Value)} {st : List Value}
theorem g_eqr {a b : Nat} (h : a = b) (k : G p l e R s m args below meth c D cl A nL Q cells slots V pc lo (.ref b :: st)) : G p l e R s m args below meth c D cl A nL Q cells slots V pc lo (.ref a :: st) := by
  rw [h]
  exact k
end EQR
/-- a new operation's cell -/
theorem cw_nw {S : Nat} {ρ : rS} {ad0 : Nat → Nat} {w0 : gW} {o z : Nat} (hS : S ≤ 3) (ho : o < 18) (h40 : ρ 40 o = 0) : ∀ ad w, CW S ρ ad0 w0 ad w → CW S (nwR ρ o) (va_up ad0 (100 + o) z) w0 (va_up ad (100 + o) z) (va_up w (100 + o) (some (.inr (2, [.int 0, .int 0, .int 0, .int 0, .int 0])))) := by
  intro ad w h
  obtain ⟨a, b, ⟨c0, c1, c2, c3, c4, c5, c6⟩, d, f⟩ := h
  have hn : ∀ q, q ≠ 100 + o → va_up ad0 (100 + o) z q = ad0 q := fun q hq => va_up_ne _ _ hq
  have hw : ∀ q, q ≠ 100 + o → va_up w (100 + o) (some (.inr (2, [.int 0, .int 0, .int 0, .int 0, .int 0]) : gE)) q = w q := fun q hq => va_up_ne _ _ hq
  refine ⟨by rw [a], fun q hq => ?_, ⟨?_, ?_, ?_, ?_, ?_, fun s hs => ?_, fun o' ho' => ?_⟩, fun k j => ?_, f⟩
  · rw [hw q (by omega)]
    exact b q hq
  · rw [hw 0 (by omega), hn 1 (by omega), hn 4 (by omega)]
    exact c0
  · rw [hw 1 (by omega), hn 2 (by omega), hn 3 (by omega)]
    exact c1
  · rw [hw 2 (by omega), c2]
    unfold cw_made
    congr 8
    funext j
    unfold cw_md
    rw [nwR_ne (by omega) (by omega)]
    by_cases q : j = o
    · rw [q, if_pos h40, if_pos h40]
    · rw [hn (100 + j) (by omega)]
  · rw [hw 3 (by omega), c3]
    unfold cw_kn
    rw [nwR_ne (by omega) (by omega)]
  · rw [hw 4 (by omega), c4]
    unfold cw_cps
    congr 8
    funext s
    by_cases q : s < S
    · rw [if_pos q, if_pos q, hn (10 + 4 * s) (by omega)]
    · rw [if_neg q, if_neg q]
  · obtain ⟨g1, g2, g3, g4⟩ := c5 s hs
    rw [hw (10 + 4 * s) (by omega), hw (11 + 4 * s) (by omega), hw (12 + 4 * s) (by omega), hw (13 + 4 * s) (by omega), g1, g2, g3, g4]
    unfold cw_cp cw_row cw_arr cw_plc
    rw [hn (11 + 4 * s) (by omega), hn (12 + 4 * s) (by omega), hn (13 + 4 * s) (by omega), nwR_ne (k := 10 * s) (by omega) (by omega), nwR_ne (k := 10 * s + 1) (by omega) (by omega), nwR_ne (k := 10 * s + 2) (by omega) (by omega), nwR_ne (k := 10 * s + 3) (by omega) (by omega)]
    exact ⟨rfl, rfl, rfl, rfl⟩
  · rw [nwR_41 ho]
    by_cases q : o' = o
    · rw [if_pos q, q]
      refine ⟨fun _ => ?_, fun z => absurd z (by decide)⟩
      rw [va_up_self]
      unfold cw_op
      have e : ∀ j, nwR ρ o (60 + o) j = 0 := fun j => by
        unfold nwR
        rw [if_neg (by omega), if_pos rfl]
      rw [e, e, e, e, e]
      rfl
    · rw [if_neg q, hw (100 + o') (by omega)]
      unfold cw_op
      rw [nwR_ne (k := 60 + o') (by omega) (by omega)]
      exact c6 o' ho'
  · unfold nwR
    split
    · exact ⟨by decide, fun z => by omega⟩
    · split
      · exact ⟨by decide, fun z => by decide⟩
      · exact d k j
def AE (ad0 ad1 : Nat → Nat) : Prop := ∀ q, (q < 100 ∨ 118 ≤ q) → ad1 q = ad0 q
def MKR (s c : Nat) (pz : Int32) (σ : rS) (r : Int32) (σs : rS) : Prop := (∃ p, pz = nI p ∧ p ≤ 18 ∧ σ 1 s < 6 ∧ r = nI (σ 1 s) ∧ σs = mkS σ s (if c = 0 then 0 else 1) p c) ∨ ((pz = -1 ∨ 6 ≤ σ 1 s) ∧ r = -1 ∧ σs = σ)
theorem SIM.hpk {S : Nat} {σ ρ : rS} {s b p c : Nat} (h : SIM S σ ρ) (hInv : INV S σ) (hs : s < S) (h6 : σ 1 s < 6) (hb : b = 0 ∧ c = 0 ∧ p < σ 10 s ∨ b = 1 ∧ 1 ≤ c ∧ c ≤ 255 ∧ p ≤ σ 10 s) : if c = 0 then p < ρ (10 * s) 0 ∧ ρ (10 * s) 0 ≤ 18 ∧ ρ (10 * s + 1) p / 2 ≠ 0 else p ≤ ρ (10 * s) 0 ∧ ρ (10 * s) 0 < 18 := by
  obtain ⟨-, hR, -, hIH1, hIW1⟩ := mkS_INV hInv hs h6 hb
  obtain ⟨a1, a2, a3⟩ := (h.2.2.2 s hs).1.1
  have h18 := (hR.in hIH1 hIW1).2
  rw [adS_2, if_pos rfl, adS_hi (k := 10) (by omega)] at h18
  rw [a1]
  by_cases q : c = 0
  · rw [if_pos q]
    have hp : p < σ 10 s := by omega
    obtain ⟨c1, c2⟩ := a3 p hp
    refine ⟨hp, a2, ?_⟩
    rw [c2]
    split <;> omega
  · rw [if_neg q]
    exact ⟨by omega, h18 (by omega)⟩
set_option maxRecDepth 100000 in
set_option maxHeartbeats 4000000 in
theorem t_make (l : Launch) (D : va_G) (S : Nat) (σ ρ : rS) (ad0 : Nat → Nat) (w0 : gW) (hInv : INV S σ) (hM : SIM S σ ρ) (s : Nat) (hsS : s < S) (pz : Int32) (c : Nat) (hpz : pz = -1 ∨ ∃ p, pz = nI p ∧ (c = 0 ∧ p < σ 10 s ∨ 1 ≤ c ∧ c ≤ 255 ∧ p ≤ σ 10 s)) : g_M l y_T_make w_T_make (rkc 3 1 5) D gCl g_N [.ref (ad0 0), .ref (ad0 (10 + 4 * s)), .int pz, .int (nI c)] (CW S ρ ad0 w0) 1 5 (fun A => g_Qi D gCl A (fun r ad w => ∃ ad1 ρ' σs, (MKR s c pz σ r σs ∧ INV S σs ∧ SIM S σs ρ' ∧ AE ad0 ad1) ∧ CW S ρ' ad1 w0 ad w)) := by
  have hS3 := hInv.S3
  have hO := hM.1
  obtain ⟨⟨hrow, hvec, hao⟩, hcn⟩ := hM.2.2.2 s hsS
  obtain ⟨hcn1, hcn2⟩ := id hcn
  have hv6 : ∀ t, s_vc σ s t ≤ 6 := fun t => (hInv.2 s hsS).1.1.le6 hInv.1.2.2.1 t
  have hown : s_vc σ s s = σ 1 s := by
    rw [(hInv.2 s hsS).2, s_mk_lt (by omega)]
  have hm6 := hInv.m6 hsS
  refine g_of (cc := c_T_make) (nL := 6) (ret := some .int) (by decide) rfl (Nat.le_of_ble_eq_true rfl) ?_
  intro pp ee ss mm bb me cc A hC hr hlk hnm
  refine g_los [0, 1, 2, 3] (lo' := [(0, .ref (ad0 0)), (1, .ref (ad0 (10 + 4 * s))), (2, .int pz), (3, .int (nI c))]) rfl ?_
  refine g_pure cw_bl (fun hbS => ?_)
  obtain ⟨hb, hSS⟩ := hbS
  refine g_aload_n (i := 1) hC d_T_make_0 rfl rfl (Or.inr ⟨_, rfl⟩) ?_
  refine g_getN (host := R_T) hC (fun x h => List.mem_cons_of_mem _ (in_K x h)) (10 + 4 * s) (cw_co hsS) rfl 3 (by decide) (hC.2.2.1.1 _ mn_57) rfl rfl d_T_make_1 ?_
  refine g_aload_n (i := 1) hC d_T_make_4 rfl rfl (Or.inr ⟨_, rfl⟩) ?_
  refine g_getN (host := R_T) hC (fun x h => List.mem_cons_of_mem _ (in_K x h)) (10 + 4 * s) (cw_co hsS) rfl 0 (by decide) (hC.2.2.1.1 _ mn_51) rfl rfl d_T_make_5 ?_
  rw [hvec]
  refine g_calli hC (g_runS (As := [_, _]) (st := []) hC g_NOK_N (v_count l D (CW S ρ ad0 w0) (s_vc σ s) s hv6 (by omega)) (t_cwS 2 hC.1.2.2.2.2 m_122 m_123 m_3 k_V_count rfl rfl hd_V_count ⟨by decide, by decide⟩) rfl rfl (Nat.le_of_ble_eq_true rfl) d_T_make_8 ⟨by decide, by decide⟩) (fun r8 => ?_)
  refine g_and (fun e => ?_)
  rw [hown] at e
  subst e
  refine g_istore (i := 4) (lo' := [(4, _), (0, _), (1, _), (2, _), (3, _)]) hC d_T_make_11 (by decide) rfl ?_
  refine g_iload_n (i := 2) hC d_T_make_13 rfl rfl ?_
  refine g_iconst (v := -1) hC d_T_make_14 (by decide) ?_
  refine g_icmp_eq (tgt := 25) hC d_T_make_15 (by decide) (fun h15 => ?_) (fun h15 => ?_)
  · refine g_iconst (v := -1) hC d_T_make_25 (by decide) ?_
    refine g_iret hC hr hlk d_T_make_26 (by decide) (by decide) (fun ad w hw => ?_)
    exact ⟨ad0, ρ, σ, ⟨Or.inr ⟨Or.inl h15, rfl, rfl⟩, hInv, hM, fun _ _ => rfl⟩, hw⟩
  · refine g_iload (i := 4) hC d_T_make_18 rfl ?_
    refine g_bipush (v := nI 6) hC d_T_make_20 (by decide) ?_
    refine g_icmp_ltN (tgt := 27) hC d_T_make_22 (by decide) (by omega) (by decide) (fun h22 => ?_) (fun h22 => ?_)
    · obtain ⟨p, rfl, hpc⟩ : ∃ p, pz = nI p ∧ (c = 0 ∧ p < σ 10 s ∨ 1 ≤ c ∧ c ≤ 255 ∧ p ≤ σ 10 s) := by
        rcases hpz with q | q
        · exact absurd q h15
        · exact q
      have h18c := hrow.2.1
      obtain ⟨o, hoe⟩ : ∃ o, o = 6 * s + σ 1 s := ⟨_, rfl⟩
      have od : o / 6 = s ∧ o % 6 = σ 1 s := by omega
      have ho : o < 18 := by omega
      have hnm : ¬ mh (s_mk σ) o := by
        unfold mh
        rw [od.1, od.2, s_mk_lt (by omega)]
        omega
      have h41o : ρ 41 o = 0 := Classical.byContradiction (fun z => hnm (hM.2.2.1 o ho z))
      have h40o : ρ 40 o = 0 := Classical.byContradiction (fun z => hnm ((hO o ho).1.mp z))
      have hbb : (if c = 0 then 0 else 1) = 0 ∧ c = 0 ∧ p < σ 10 s ∨ (if c = 0 then 0 else 1) = 1 ∧ 1 ≤ c ∧ c ≤ 255 ∧ p ≤ σ 10 s := by
        by_cases q : c = 0
        · rw [if_pos q]
          omega
        · rw [if_neg q]
          omega
      have hal0 : nwR ρ o 41 o ≠ 0 := by
        rw [nwR_41 ho, if_pos rfl]
        decide
      have hpk := hM.hpk hInv hsS h22 hbb
      refine g_new (V' := fun z => CW S (nwR ρ o) (va_up ad0 (100 + o) z) w0) (ci := 2) (k := 100 + o) (fs := [.int 0, .int 0, .int 0, .int 0, .int 0]) hC (fun x h => List.mem_cons_of_mem _ (in_O x h)) ft_O tk_O (List.mem_cons_of_mem _ m_125) (List.mem_cons_of_mem _ m_126) (List.mem_cons_of_mem _ m_7) rfl (fun ad w h => (h.2.2.1.2.2.2.2.2.2 o ho).2 h41o) (fun j hj => by match j, hj with | 0, _ => rfl | 1, _ => rfl | 2, _ => rfl | 3, _ => rfl | 4, _ => rfl) (by decide) (by decide) (fun z ad w h => cw_nw (by omega) ho h40o ad w h) d_T_make_27 (fun z => ?_)
      obtain ⟨ad1, had1⟩ : ∃ ad1 : Nat → Nat, ad1 = va_up ad0 (100 + o) z := ⟨_, rfl⟩
      have hAE : ∀ q, q ≠ 100 + o → ad1 q = ad0 q := fun q hq => by rw [had1, va_up_ne _ _ hq]
      refine g_V (V' := CW S (nwR ρ o) ad1 w0) (fun _ _ h => by rw [had1]; exact h) ?_
      refine g_eqr (show z = ad1 (100 + o) by rw [had1, va_up_self]) ?_
      refine g_los [1, 2, 3, 4, 0] (lo' := [(0, .ref (ad1 0)), (1, .ref (ad1 (10 + 4 * s))), (2, .int (nI p)), (3, .int (nI c)), (4, .int (nI (σ 1 s)))]) (by rw [hAE 0 (by omega), hAE (10 + 4 * s) (by omega)]; rfl) ?_
      refine g_dup hC d_T_make_30 rfl ?_
      refine g_aload_n (i := 1) hC d_T_make_31 rfl rfl (Or.inr ⟨_, rfl⟩) ?_
      refine g_getN (host := R_T) hC (fun x h => List.mem_cons_of_mem _ (in_K x h)) (10 + 4 * s) (cw_co hsS) rfl 0 (by decide) (hC.2.2.1.1 _ mn_51) rfl rfl d_T_make_32 ?_
      refine g_iload (i := 4) hC d_T_make_35 rfl ?_
      refine g_iload_n (i := 3) hC d_T_make_37 rfl rfl ?_
      refine g_iload_n (i := 2) hC d_T_make_38 rfl rfl ?_
      refine g_aload_n (i := 1) hC d_T_make_39 rfl rfl (Or.inr ⟨_, rfl⟩) ?_
      refine g_getN (host := R_T) hC (fun x h => List.mem_cons_of_mem _ (in_K x h)) (10 + 4 * s) (cw_co hsS) rfl 3 (by decide) (hC.2.2.1.1 _ mn_57) rfl rfl d_T_make_40 ?_
      rw [nwR_ne (k := 10 * s) (by omega) (by omega), hvec]
      refine g_callv hC (g_runI (As := [_, _, _, _, _]) (st := [_]) hC g_NOK_N (o_init l D S (nwR ρ o) ad1 w0 o s (σ 1 s) c p (evv (s_vc σ s)) ho hal0 (by omega) (by omega) (by omega) (by omega) (by have := evv_lt hv6; omega)) (t_cwI 5 hC.1.2.2.2.2 m_127 m_128 m_7 k_O_init rfl rfl rfl hd_O_init ⟨by decide, by decide⟩) rfl rfl (Nat.le_of_ble_eq_true rfl) d_T_make_43 ⟨by decide, by decide⟩) ?_
      have hal1 : opR (nwR ρ o) o s (σ 1 s) c p (evv (s_vc σ s)) 41 o ≠ 0 := by
        rw [opR_ne (by omega)]
        exact hal0
      obtain ⟨p3, p4, p0, p1, p2⟩ := opR_o (ρ := nwR ρ o) (o := o) (a := s) (n := σ 1 s) (c := c) (p := p) (v := evv (s_vc σ s))
      refine g_astore (i := 5) (lo' := [(5, _), (0, _), (1, _), (2, _), (3, _), (4, _)]) hC d_T_make_46 (Or.inr ⟨_, rfl⟩) (by decide) rfl ?_
      refine g_aload_n (i := 0) hC d_T_make_48 rfl rfl (Or.inr ⟨_, rfl⟩) ?_
      refine g_get hC (fun x h => List.mem_cons_of_mem _ (in_T x h)) 0 cw_ts rfl 1 (by decide) (List.mem_cons_of_mem _ m_85) rfl rfl d_T_make_49 ?_
      refine g_aload (i := 5) hC d_T_make_52 rfl (Or.inr ⟨_, rfl⟩) ?_
      refine g_callv hC (g_runV (q := 1) (As := [_]) (st := []) hC g_NOK_N (h_add l D S (opR (nwR ρ o) o s (σ 1 s) c p (evv (s_vc σ s))) ad1 w0 o ho (by omega) hal1 (by rw [p3, od.1]) (by rw [p4, od.2])) (t_cwV 1 hC.1.2.2.2.2 m_155 m_156 m_157 m_2 k_H_add rfl rfl hd_H_add ⟨by decide, by decide⟩) cw_hi rfl rfl rfl (Nat.le_of_ble_eq_true rfl) d_T_make_54 ⟨by decide, by decide⟩) ?_
      refine g_V (V' := CW S (adR ρ o s (σ 1 s) c p (evv (s_vc σ s))) ad1 w0) (fun _ _ h => h) ?_
      refine g_aload_n (i := 1) hC d_T_make_57 rfl rfl (Or.inr ⟨_, rfl⟩) ?_
      refine g_aload (i := 5) hC d_T_make_58 rfl (Or.inr ⟨_, rfl⟩) ?_
      refine g_iload_n (i := 2) hC d_T_make_60 rfl rfl ?_
      obtain ⟨q3, q4, q0, q1, q2⟩ := adR_o (ρ := ρ) (o := o) (a := s) (n := σ 1 s) (c := c) (p := p) (v := evv (s_vc σ s)) ho
      have hmu6 : ∀ t, mu (s_vc σ s) (o / 6) t ≤ 6 := by
        intro t
        unfold mu
        rw [od.1]
        split
        · rename_i z
          rw [z, hown]
          omega
        · exact hv6 t
      have hal2 : (adR ρ o s (σ 1 s) c p (evv (s_vc σ s))) 41 o ≠ 0 := by
        rw [adR_41 ho, if_pos rfl]
        decide
      have e10 := adR_ne (ρ := ρ) (o := o) (a := s) (n := σ 1 s) (c := c) (p := p) (v := evv (s_vc σ s)) (k := 10 * s) (by omega) (by omega) (by omega)
      have e11 := adR_ne (ρ := ρ) (o := o) (a := s) (n := σ 1 s) (c := c) (p := p) (v := evv (s_vc σ s)) (k := 10 * s + 1) (by omega) (by omega) (by omega)
      refine g_callv hC (g_runV (q := (10 + 4 * s)) (As := [_, _]) (st := []) hC g_NOK_N (k_exec l D S (adR ρ o s (σ 1 s) c p (evv (s_vc σ s))) ad1 w0 s hsS o p (s_vc σ s) ho hal2 (by rw [q3, od.1]) (by rw [q4, od.2]) (by rw [e10]; exact hvec) hmu6 (by rw [q0]; omega) (by rw [e10]; have := hcn.lt; omega) (by rw [q0, e10, e11]; exact hpk)) (t_cwV 2 hC.1.2.2.2.2 m_163 m_164 m_165 m_5 k_K_execute rfl rfl hd_K_execute ⟨by decide, by decide⟩) (cw_co hsS) rfl rfl rfl (Nat.le_of_ble_eq_true rfl) d_T_make_61 ⟨by decide, by decide⟩) ?_
      refine g_iload (i := 4) hC d_T_make_64 rfl ?_
      refine g_iret hC hr hlk d_T_make_66 (by decide) (by decide) (fun ad w hw => ?_)
      have hfin := hM.mk hInv hsS h22 hbb
      rw [← hoe] at hfin
      rw [od.1] at hw
      exact ⟨ad1, _, _, ⟨Or.inl ⟨p, rfl, by omega, h22, rfl, rfl⟩, (mkS_INV hInv hsS h22 hbb).1, hfin, fun q hq => hAE q (by omega)⟩, hw⟩
    · refine g_iconst (v := -1) hC d_T_make_25 (by decide) ?_
      refine g_iret hC hr hlk d_T_make_26 (by decide) (by decide) (fun ad w hw => ?_)
      exact ⟨ad0, ρ, σ, ⟨Or.inr ⟨Or.inr (by omega), rfl, rfl⟩, hInv, hM, fun _ _ => rfl⟩, hw⟩
theorem nI_nm1 {k : Nat} (h : k < 2 ^ 31) : nI k ≠ -1 := fun z => absurd (show nI k < 0 by rw [z]; decide +kernel) (nI_pos h)
theorem MKR.ins {S : Nat} {σ σs : rS} {s c : Nat} {i r pz : Int32} (hInv : INV S σ) (hs : s < S) (hc1 : 1 ≤ c) (hc2 : c ≤ 255) (e : (∃ i' k, i = nI i' ∧ i' ≤ s_vis σ s (σ 10 s) ∧ CO σ s i' k ∧ pz = nI k) ∨ ((¬ ∃ i', i = nI i' ∧ i' ≤ s_vis σ s (σ 10 s)) ∧ pz = -1)) (h : MKR s c pz σ r σs) : SpIns S σ (nI s) i (nI c) r σs := by
  have hS3 := hInv.S3
  have h18 := hInv.c18 s hs
  rcases h with ⟨p, a1, a2, a3, a4, a5⟩ | ⟨a1, a2, a3⟩
  · rcases e with ⟨i', k, e1, e2, e3, e4⟩ | ⟨-, e4⟩
    · have hk := CO_le e3
      have ek := nI_inj (e4.symm.trans a1) (by omega) (by omega)
      rw [← ek, if_neg (by omega)] at a5
      exact Or.inl ⟨s, i', c, k, ⟨rfl, hs, e1, e2, rfl, hc1, hc2, a3⟩, e3, a4, a5⟩
    · exact absurd (a1.symm.trans e4) (nI_nm1 (by omega))
  · refine Or.inr ⟨fun ⟨s1, i1, c1, h⟩ => ?_, a2, a3⟩
    have es := nI_inj h.1 (by omega) (by have := h.2.1; omega)
    subst es
    rcases a1 with a1 | a1
    · rcases e with ⟨i', k, -, -, e3, e4⟩ | ⟨e1, -⟩
      · have hk := CO_le e3
        exact absurd (e4.symm.trans a1) (nI_nm1 (by omega))
      · exact e1 ⟨i1, h.2.2.1, h.2.2.2.1⟩
    · have := h.2.2.2.2.2.2.2
      omega
theorem MKR.era {S : Nat} {σ σs : rS} {s : Nat} {i r pz : Int32} (hInv : INV S σ) (hs : s < S) (e : (∃ i' k, i = nI i' ∧ i' < s_vis σ s (σ 10 s) ∧ k < σ 10 s ∧ CO σ s i' k ∧ pz = nI k) ∨ ((¬ ∃ i', i = nI i' ∧ i' < s_vis σ s (σ 10 s)) ∧ pz = -1)) (h : MKR s 0 pz σ r σs) : SpEra S σ (nI s) i r σs := by
  have hS3 := hInv.S3
  have h18 := hInv.c18 s hs
  rcases h with ⟨p, a1, a2, a3, a4, a5⟩ | ⟨a1, a2, a3⟩
  · rcases e with ⟨i', k, e1, e2, -, e3, e4⟩ | ⟨-, e4⟩
    · have hk := CO_le e3
      have ek := nI_inj (e4.symm.trans a1) (by omega) (by omega)
      rw [← ek, if_pos rfl] at a5
      exact Or.inl ⟨s, i', k, ⟨rfl, hs, e1, e2, a3⟩, e3, a4, a5⟩
    · exact absurd (a1.symm.trans e4) (nI_nm1 (by omega))
  · refine Or.inr ⟨fun ⟨s1, i1, h⟩ => ?_, a2, a3⟩
    have es := nI_inj h.1 (by omega) (by have := h.2.1; omega)
    subst es
    rcases a1 with a1 | a1
    · rcases e with ⟨i', k, -, -, -, e3, e4⟩ | ⟨e1, -⟩
      · have hk := CO_le e3
        exact absurd (e4.symm.trans a1) (nI_nm1 (by omega))
      · exact e1 ⟨i1, h.2.2.1, h.2.2.2.1⟩
    · have := h.2.2.2.2
      omega
set_option maxRecDepth 100000 in
set_option maxHeartbeats 4000000 in
theorem t_insert (l : Launch) (D : va_G) (S : Nat) (σ ρ : rS) (ad0 : Nat → Nat) (w0 : gW) (hInv : INV S σ) (hM : SIM S σ ρ) (x i c : Int32) : g_M l y_T_insert w_T_insert (rkc 4 1 5) D gCl g_N [.ref (ad0 0), .int x, .int i, .int c] (CW S ρ ad0 w0) 1 5 (fun A => g_Qi D gCl A (fun r ad w => ∃ ad1 ρ' σs, (SpIns S σ x i c r σs ∧ INV S σs ∧ SIM S σs ρ' ∧ AE ad0 ad1) ∧ CW S ρ' ad1 w0 ad w)) := by
  have hS3 := hInv.S3
  have hO := hM.1
  refine g_of (cc := c_T_insert) (nL := 4) (ret := some .int) (by decide) rfl (Nat.le_of_ble_eq_true rfl) ?_
  intro pp ee ss mm bb me cc A hC hr hlk hnm
  refine g_los [0, 1, 2, 3] (lo' := [(0, .ref (ad0 0)), (1, .int x), (2, .int i), (3, .int c)]) rfl ?_
  refine g_pure cw_bl (fun hbS => ?_)
  obtain ⟨hb, hSS⟩ := hbS
  refine g_aload_n (i := 0) hC d_T_insert_0 rfl rfl (Or.inr ⟨_, rfl⟩) ?_
  refine g_iload_n (i := 1) hC d_T_insert_1 rfl rfl ?_
  refine g_calli hC (g_runV (q := 0) (As := [_]) (st := []) hC g_NOK_N (t_isSite l D S ρ ad0 w0 (by omega) (x)) (t_cwV 1 hC.1.2.2.2.2 m_102 m_104 ms_0 m_1 k_T_isSite rfl rfl hd_T_isSite ⟨by decide, by decide⟩) cw_ts rfl rfl rfl (Nat.le_of_ble_eq_true rfl) d_T_insert_2 ⟨by decide, by decide⟩) (fun r2 => ?_)
  refine g_and (fun e => ?_)
  subst e
  refine g_if_eqN (tgt := 20) hC d_T_insert_5 (by decide) (pb_le _) (fun h5 => ?_) (fun h5 => ?_)
  · have g5 := pb_0 h5
    refine g_iconst (v := -1) hC d_T_insert_20 (by decide) ?_
    refine g_iret hC hr hlk d_T_insert_21 (by decide) (by decide) (fun ad w hw => ?_)
    exact ⟨ad0, ρ, σ, ⟨Or.inr ⟨fun ⟨s', i', c', h⟩ => g5 ⟨s', by rw [h.1]; exact ix_nI (by omega) h.2.1⟩, rfl, rfl⟩, hInv, hM, fun _ _ => rfl⟩, hw⟩
  · have g5 := pb_1 h5
    obtain ⟨s, hxs⟩ := g5
    obtain ⟨hsS, rfl⟩ := ix_some (by omega) hxs
    obtain ⟨⟨hrow, hvec, hao⟩, hcn⟩ := hM.2.2.2 s hsS
    obtain ⟨hcn1, hcn2⟩ := id hcn
    have hv6 : ∀ t, s_vc σ s t ≤ 6 := fun t => (hInv.2 s hsS).1.1.le6 hInv.1.2.2.1 t
    have h18c := hrow.2.1
    refine g_iload_n (i := 3) hC d_T_insert_8 rfl rfl ?_
    refine g_iconst (v := nI 1) hC d_T_insert_9 (by decide) ?_
    refine g_icmp_lt (tgt := 20) hC d_T_insert_10 (by decide) (fun h10 => ?_) (fun h10 => ?_)
    · refine g_iconst (v := -1) hC d_T_insert_20 (by decide) ?_
      refine g_iret hC hr hlk d_T_insert_21 (by decide) (by decide) (fun ad w hw => ?_)
      exact ⟨ad0, ρ, σ, ⟨Or.inr ⟨fun ⟨s', i', c', h⟩ => by
        have a := h.2.2.2.2
        rw [a.1] at h10
        have := (nI_ltI (by omega) (by omega)).mp h10
        omega, rfl, rfl⟩, hInv, hM, fun _ _ => rfl⟩, hw⟩
    · refine g_iload_n (i := 3) hC d_T_insert_13 rfl rfl ?_
      refine g_sipush (v := nI 255) hC d_T_insert_14 (by decide) ?_
      refine g_icmp_le (tgt := 22) hC d_T_insert_17 (by decide) (fun h17 => ?_) (fun h17 => ?_)
      · obtain ⟨c', hc31, rfl⟩ := nI_of (x := c) (fun z => h10 (Int32.lt_trans z (by decide +kernel)))
        have hc1 : 1 ≤ c' := Nat.le_of_not_lt (fun z => h10 ((nI_ltI (by omega) (by omega)).mpr z))
        have hc2 : c' ≤ 255 := (nI_leI (by omega) (by omega)).mp h17
        refine g_aload_n (i := 0) hC d_T_insert_22 rfl rfl (Or.inr ⟨_, rfl⟩) ?_
        refine g_aload_n (i := 0) hC d_T_insert_23 rfl rfl (Or.inr ⟨_, rfl⟩) ?_
        refine g_get hC (fun x h => List.mem_cons_of_mem _ (in_T x h)) 0 cw_ts rfl 2 (by decide) (List.mem_cons_of_mem _ m_86) rfl rfl d_T_insert_24 ?_
        refine g_iload_n (i := 1) hC d_T_insert_27 rfl rfl ?_
        refine cl_cps hC (by omega) (by omega) d_T_insert_28 ?_
        refine g_aload_n (i := 0) hC d_T_insert_29 rfl rfl (Or.inr ⟨_, rfl⟩) ?_
        refine g_get hC (fun x h => List.mem_cons_of_mem _ (in_T x h)) 0 cw_ts rfl 2 (by decide) (List.mem_cons_of_mem _ m_86) rfl rfl d_T_insert_30 ?_
        refine g_iload_n (i := 1) hC d_T_insert_33 rfl rfl ?_
        refine cl_cps hC (by omega) (by omega) d_T_insert_34 ?_
        refine g_iload_n (i := 2) hC d_T_insert_35 rfl rfl ?_
        refine g_calli hC (g_runV (q := (10 + 4 * s)) (As := [_]) (st := [_, _]) hC g_NOK_N (k_pos l D S σ ρ ad0 w0 s hsS hrow i) (t_cwV 1 hC.1.2.2.2.2 m_106 m_107 m_108 m_5 k_K_positionForInsert rfl rfl hd_K_positionForInsert ⟨by decide, by decide⟩) (cw_co hsS) rfl rfl rfl (Nat.le_of_ble_eq_true rfl) d_T_insert_36 ⟨by decide, by decide⟩) (fun r36 => ?_)
        refine g_and (fun e36 => ?_)
        refine g_iload_n (i := 3) hC d_T_insert_39 rfl rfl ?_
        refine g_calli hC (g_runV (q := 0) (As := [_, _, _]) (st := []) hC g_NOK_N (t_make l D S σ ρ ad0 w0 hInv hM s hsS r36 c' (by
          rcases e36 with ⟨i', k, -, -, hco, e⟩ | ⟨-, e⟩
          · exact Or.inr ⟨k, e, Or.inr ⟨hc1, hc2, CO_le hco⟩⟩
          · exact Or.inl e)) (t_cwV 3 hC.1.2.2.2.2 m_118 m_120 ms_1 m_1 k_T_make rfl rfl hd_T_make ⟨by decide, by decide⟩) cw_ts rfl rfl rfl (Nat.le_of_ble_eq_true rfl) d_T_insert_40 ⟨by decide, by decide⟩) (fun r40 => ?_)
        refine g_iret hC hr hlk d_T_insert_43 (by decide) (by decide) (fun ad w hw => ?_)
        obtain ⟨ad1, ρ', σs, ⟨a, b, d, f⟩, g⟩ := hw
        exact ⟨ad1, ρ', σs, ⟨a.ins hInv hsS hc1 hc2 e36, b, d, f⟩, g⟩
      · refine g_iconst (v := -1) hC d_T_insert_20 (by decide) ?_
        refine g_iret hC hr hlk d_T_insert_21 (by decide) (by decide) (fun ad w hw => ?_)
        exact ⟨ad0, ρ, σ, ⟨Or.inr ⟨fun ⟨s', i', c', h⟩ => by
          have a := h.2.2.2.2
          rw [a.1] at h17
          exact h17 ((nI_leI (by omega) (by omega)).mpr (by omega)), rfl, rfl⟩, hInv, hM, fun _ _ => rfl⟩, hw⟩
set_option maxRecDepth 100000 in
set_option maxHeartbeats 4000000 in
theorem t_erase (l : Launch) (D : va_G) (S : Nat) (σ ρ : rS) (ad0 : Nat → Nat) (w0 : gW) (hInv : INV S σ) (hM : SIM S σ ρ) (x i : Int32) : g_M l y_T_erase w_T_erase (rkc 4 1 5) D gCl g_N [.ref (ad0 0), .int x, .int i] (CW S ρ ad0 w0) 1 5 (fun A => g_Qi D gCl A (fun r ad w => ∃ ad1 ρ' σs, (SpEra S σ x i r σs ∧ INV S σs ∧ SIM S σs ρ' ∧ AE ad0 ad1) ∧ CW S ρ' ad1 w0 ad w)) := by
  have hS3 := hInv.S3
  have hO := hM.1
  refine g_of (cc := c_T_erase) (nL := 3) (ret := some .int) (by decide) rfl (Nat.le_of_ble_eq_true rfl) ?_
  intro pp ee ss mm bb me cc A hC hr hlk hnm
  refine g_los [0, 1, 2] (lo' := [(0, .ref (ad0 0)), (1, .int x), (2, .int i)]) rfl ?_
  refine g_pure cw_bl (fun hbS => ?_)
  obtain ⟨hb, hSS⟩ := hbS
  refine g_aload_n (i := 0) hC d_T_erase_0 rfl rfl (Or.inr ⟨_, rfl⟩) ?_
  refine g_iload_n (i := 1) hC d_T_erase_1 rfl rfl ?_
  refine g_calli hC (g_runV (q := 0) (As := [_]) (st := []) hC g_NOK_N (t_isSite l D S ρ ad0 w0 (by omega) (x)) (t_cwV 1 hC.1.2.2.2.2 m_102 m_104 ms_0 m_1 k_T_isSite rfl rfl hd_T_isSite ⟨by decide, by decide⟩) cw_ts rfl rfl rfl (Nat.le_of_ble_eq_true rfl) d_T_erase_2 ⟨by decide, by decide⟩) (fun r2 => ?_)
  refine g_and (fun e => ?_)
  subst e
  refine g_if_neN (tgt := 10) hC d_T_erase_5 (by decide) (pb_le _) (fun h5 => ?_) (fun h5 => ?_)
  · have g5 := pb_1 h5
    obtain ⟨s, hxs⟩ := g5
    obtain ⟨hsS, rfl⟩ := ix_some (by omega) hxs
    obtain ⟨⟨hrow, hvec, hao⟩, hcn⟩ := hM.2.2.2 s hsS
    obtain ⟨hcn1, hcn2⟩ := id hcn
    have hv6 : ∀ t, s_vc σ s t ≤ 6 := fun t => (hInv.2 s hsS).1.1.le6 hInv.1.2.2.1 t
    have h18c := hrow.2.1
    refine g_aload_n (i := 0) hC d_T_erase_10 rfl rfl (Or.inr ⟨_, rfl⟩) ?_
    refine g_aload_n (i := 0) hC d_T_erase_11 rfl rfl (Or.inr ⟨_, rfl⟩) ?_
    refine g_get hC (fun x h => List.mem_cons_of_mem _ (in_T x h)) 0 cw_ts rfl 2 (by decide) (List.mem_cons_of_mem _ m_86) rfl rfl d_T_erase_12 ?_
    refine g_iload_n (i := 1) hC d_T_erase_15 rfl rfl ?_
    refine cl_cps hC (by omega) (by omega) d_T_erase_16 ?_
    refine g_aload_n (i := 0) hC d_T_erase_17 rfl rfl (Or.inr ⟨_, rfl⟩) ?_
    refine g_get hC (fun x h => List.mem_cons_of_mem _ (in_T x h)) 0 cw_ts rfl 2 (by decide) (List.mem_cons_of_mem _ m_86) rfl rfl d_T_erase_18 ?_
    refine g_iload_n (i := 1) hC d_T_erase_21 rfl rfl ?_
    refine cl_cps hC (by omega) (by omega) d_T_erase_22 ?_
    refine g_iload_n (i := 2) hC d_T_erase_23 rfl rfl ?_
    refine g_calli hC (g_runV (q := (10 + 4 * s)) (As := [_]) (st := [_, _]) hC g_NOK_N (k_cell l D S σ ρ ad0 w0 s hsS hrow i) (t_cwV 1 hC.1.2.2.2.2 m_187 m_115 m_116 m_5 k_K_cellOfVisible rfl rfl hd_K_cellOfVisible ⟨by decide, by decide⟩) (cw_co hsS) rfl rfl rfl (Nat.le_of_ble_eq_true rfl) d_T_erase_24 ⟨by decide, by decide⟩) (fun r24 => ?_)
    refine g_and (fun e24 => ?_)
    refine g_iconst (v := nI 0) hC d_T_erase_27 (by decide) ?_
    refine g_calli hC (g_runV (q := 0) (As := [_, _, _]) (st := []) hC g_NOK_N (t_make l D S σ ρ ad0 w0 hInv hM s hsS r24 0 (by
      rcases e24 with ⟨i', k, -, -, hk, -, e⟩ | ⟨-, e⟩
      · exact Or.inr ⟨k, e, Or.inl ⟨rfl, hk⟩⟩
      · exact Or.inl e)) (t_cwV 3 hC.1.2.2.2.2 m_118 m_120 ms_1 m_1 k_T_make rfl rfl hd_T_make ⟨by decide, by decide⟩) cw_ts rfl rfl rfl (Nat.le_of_ble_eq_true rfl) d_T_erase_28 ⟨by decide, by decide⟩) (fun r28 => ?_)
    refine g_iret hC hr hlk d_T_erase_31 (by decide) (by decide) (fun ad w hw => ?_)
    obtain ⟨ad1, ρ', σs, ⟨a, b, d, f⟩, g⟩ := hw
    exact ⟨ad1, ρ', σs, ⟨a.era hInv hsS e24, b, d, f⟩, g⟩
  · have g5 := pb_0 h5
    refine g_iconst (v := -1) hC d_T_erase_8 (by decide) ?_
    refine g_iret hC hr hlk d_T_erase_9 (by decide) (by decide) (fun ad w hw => ?_)
    exact ⟨ad0, ρ, σ, ⟨Or.inr ⟨fun ⟨s', i', h⟩ => g5 ⟨s', by rw [h.1]; exact ix_nI (by omega) h.2.1⟩, rfl, rfl⟩, hInv, hM, fun _ _ => rfl⟩, hw⟩
