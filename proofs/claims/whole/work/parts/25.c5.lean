/-- x, y name the made operation o -/
def MO (σ : rS) (x y : Int32) (o : Nat) : Prop := mh (s_mk σ) o ∧ x = nI (o / 6) ∧ y = nI (o % 6)
theorem fd_o {S : Nat} {σ : rS} {x y : Int32} {ad0 : Nat → Nat} {r : Option Nat} (hInv : INV S σ) (h : (∃ s k, MD S σ x y s k ∧ r = some (ad0 (100 + (6 * s + k)))) ∨ ((¬ ∃ s k, MD S σ x y s k) ∧ r = none)) : (∃ o, MO σ x y o ∧ r = some (ad0 (100 + o))) ∨ ((¬ ∃ o, MO σ x y o) ∧ r = none) := by
  rcases h with ⟨s, k, h, e⟩ | ⟨h, e⟩
  · obtain ⟨a, b, c, d, f⟩ := MD.opn hInv h
    exact Or.inl ⟨6 * s + k, ⟨a, by rw [c]; exact h.1, by rw [d]; exact h.2.2.1⟩, e⟩
  · refine Or.inr ⟨fun ⟨o, ho⟩ => h ?_, e⟩
    obtain ⟨a, rfl, rfl⟩ := ho
    exact (md_iff hInv (hInv.1.lt18 a)).mpr a
theorem MO.md {S : Nat} {σ : rS} {x y : Int32} {o : Nat} (hInv : INV S σ) (h : MO σ x y o) : MD S σ x y (o / 6) (o % 6) := by
  obtain ⟨a, rfl, rfl⟩ := h
  obtain ⟨s, k, hm⟩ := (md_iff hInv (hInv.1.lt18 a)).mpr a
  obtain ⟨e1, e2⟩ := MD.at_ hInv (hInv.1.lt18 a) hm
  rw [e1, e2] at hm
  exact hm
theorem MD.mo {S : Nat} {σ : rS} {x y : Int32} {s k : Nat} (hInv : INV S σ) (h : MD S σ x y s k) : MO σ x y (6 * s + k) := by
  obtain ⟨a, b, c, d, f⟩ := MD.opn hInv h
  exact ⟨a, by rw [c]; exact h.1, by rw [d]; exact h.2.2.1⟩
theorem MO.eq {S : Nat} {σ : rS} {x y : Int32} {o o' : Nat} (hInv : INV S σ) (h : MO σ x y o) (h' : MO σ x y o') : o = o' := by
  have a := hInv.1.lt18 h.1
  have b := hInv.1.lt18 h'.1
  have e1 := nI_inj (h.2.1.symm.trans h'.2.1) (by omega) (by omega)
  have e2 := nI_inj (h.2.2.symm.trans h'.2.2) (by omega) (by omega)
  omega
theorem cdv_lt {S : Nat} {σ : rS} (hInv : INV S σ) {o : Nat} (ho : mh (s_mk σ) o) : cdv σ o < 2 ^ 62 := by
  have h18 := hInv.1.lt18 ho
  obtain ⟨a, b, c⟩ := hInv.1.2.2.2 o ho
  have h1 := mcnt_18 (σ 2) (s_cx σ o)
  have h4 : σ 4 o ≤ 255 := by
    by_cases q : σ 2 o = 0
    · rw [(b q).1]
      omega
    · exact (c q).2.2
  have c0 := hInv.cx6 ho 0
  have c1 := hInv.cx6 ho 1
  have c2 := hInv.cx6 ho 2
  rw [s_cx_lt (by omega)] at c0 c1 c2
  unfold cdv
  rw [Nat.add_zero] at c0
  split <;> omega
theorem lN_t {n : Nat} (h : n < 2 ^ 31) : (lN n).toInt32 = nI n := by
  apply Int32.toInt_inj.mp
  rw [nI_toInt h, Int64.toInt_toInt32, pf_lI (by omega)]
  exact Int.bmod_eq_of_le (by omega) (by omega)
theorem cd_key {S : Nat} {σ : rS} (hInv : INV S σ) {o : Nat} (ho : mh (s_mk σ) o) : (lN (cdv σ o) &&& 3).toInt32 = nI (o / 6) ∧ ((lN (cdv σ o) >>> ((nI 2).toInt64 &&& 63)) &&& 15).toInt32 = nI (o % 6) := by
  have hl := cdv_lt hInv ho
  have h18 := hInv.1.lt18 ho
  obtain ⟨a, b⟩ := cdv_site (σ := σ) h18
  have e3 : (3 : Int64) = lN (2 ^ 2 - 1) := by decide +kernel
  have e15 : (15 : Int64) = lN (2 ^ 4 - 1) := by decide +kernel
  constructor
  · rw [e3, wb_mask (by omega) (by decide), show (2 : Nat) ^ 2 = 4 by decide, a, lN_t (by omega)]
  · rw [pf_shr (d := 2) (by decide +kernel) hl, e15, wb_mask (by omega) (by decide), show (2 : Nat) ^ 2 = 4 by decide, show (2 : Nat) ^ 4 = 16 by decide, b, lN_t (by omega)]
set_option maxRecDepth 100000 in
set_option maxHeartbeats 4000000 in
theorem h_code (l : Launch) (D : va_G) (S : Nat) (σ ρ : rS) (ad0 : Nat → Nat) (w0 : gW) (hInv : INV S σ) (hO : OPS S σ ρ) (cd : Int64) : g_M l y_H_findByCode w_H_findByCode (rk 2) D gCl g_N [.ref (ad0 1), .long cd] (CW S ρ ad0 w0) 0 0 (fun A => g_Qq D gCl A (fun r ad w => ((∃ o, (mh (s_mk σ) o ∧ cd = lN (cdv σ o)) ∧ r = some (ad0 (100 + o))) ∨ ((¬ ∃ o, mh (s_mk σ) o ∧ cd = lN (cdv σ o)) ∧ r = none)) ∧ CW S ρ ad0 w0 ad w)) := by
  refine g_of (cc := c_H_findByCode) (nL := 4) (ret := some (.object "TombstoneSites$Operation")) (by decide) rfl (Nat.le_of_ble_eq_true rfl) ?_
  intro pp ee ss mm bb me cc A hC hr hlk hnm
  refine g_los [0, 1] (lo' := [(0, .ref (ad0 1)), (1, .long cd)]) rfl ?_
  refine g_pure cw_bl (fun hbS => ?_)
  obtain ⟨hb, hSS⟩ := hbS
  refine g_aload_n (i := 0) hC d_H_findByCode_0 rfl rfl (Or.inr ⟨_, rfl⟩) ?_
  refine g_lload_n (i := 1) hC d_H_findByCode_1 rfl rfl ?_
  refine g_ldc2 (v := 3) hC d_H_findByCode_2 (List.mem_cons_of_mem _ m_251) ?_
  refine g_land hC d_H_findByCode_5 ?_
  refine g_l2i hC d_H_findByCode_6 rfl ?_
  refine g_lload_n (i := 1) hC d_H_findByCode_7 rfl rfl ?_
  refine g_iconst (v := nI 2) hC d_H_findByCode_8 (by decide) ?_
  refine g_lshr hC d_H_findByCode_9 rfl ?_
  refine g_ldc2 (v := 15) hC d_H_findByCode_10 (List.mem_cons_of_mem _ m_252) ?_
  refine g_land hC d_H_findByCode_13 ?_
  refine g_l2i hC d_H_findByCode_14 rfl ?_
  refine g_callq hC (g_runV (q := 1) (As := [_, _]) (st := []) hC g_NOK_N (h_find l D S σ ρ ad0 w0 hInv hO (cd &&& 3).toInt32 ((cd >>> ((nI 2).toInt64 &&& 63)) &&& 15).toInt32) (t_cwV 2 hC.1.2.2.2.2 m_226 m_193 m_194 m_2 k_H_find rfl rfl hd_H_find ⟨by decide, by decide⟩) cw_hi rfl rfl rfl (Nat.le_of_ble_eq_true rfl) d_H_findByCode_15 ⟨by decide, by decide⟩) (fun r15 => ?_)
  refine g_and (fun e15 => ?_)
  replace e15 := fd_o hInv e15
  rcases e15 with ⟨o, hm, rfl⟩ | ⟨hm, rfl⟩
  · rw [show va_rf (some (ad0 (100 + o))) = .ref (ad0 (100 + o)) from rfl]
    obtain ⟨hx, hxal, hxsi, hxnu, -, -, hxcx⟩ := hO.al hInv hm.1
    refine g_astore_n (i := 3) (lo' := [(3, _), (0, _), (1, _)]) hC d_H_findByCode_18 rfl (Or.inr ⟨_, rfl⟩) (by decide) rfl ?_
    refine g_aload_n (i := 3) hC d_H_findByCode_19 rfl rfl (Or.inr ⟨_, rfl⟩) ?_
    refine g_ifnullR hC d_H_findByCode_20 ?_
    refine g_aload_n (i := 3) hC d_H_findByCode_23 rfl rfl (Or.inr ⟨_, rfl⟩) ?_
    refine g_calll hC (g_runV (q := (100 + o)) (As := []) (st := []) hC g_NOK_N (o_toCode l D S ρ ad0 w0 o (s_cx σ o) hx hxal hxsi hxnu hxcx (hInv.cx6 hm.1)) (t_cwV 0 hC.1.2.2.2.2 m_253 m_254 m_255 m_7 k_O_toCode rfl rfl hd_O_toCode ⟨by decide, by decide⟩) (cw_o hx hxal) rfl rfl rfl (Nat.le_of_ble_eq_true rfl) d_H_findByCode_24 ⟨by decide, by decide⟩) (fun r24 => ?_)
    refine g_and (fun e => ?_)
    rw [cdv_eq hInv hO hm.1] at e
    subst e
    refine g_lload_n (i := 1) hC d_H_findByCode_27 rfl rfl ?_
    refine g_lcmp hC d_H_findByCode_28 ?_
    refine g_if_ne (tgt := 36) hC d_H_findByCode_29 (by decide) (fun h29 => ?_) (fun h29 => ?_)
    · refine g_null hC d_H_findByCode_36 ?_
      refine g_aret (r := none) hC hr hlk d_H_findByCode_37 (by decide) (by decide) (fun ad w hw => ?_)
      refine ⟨Or.inr ⟨fun ⟨o1, h⟩ => h29 (lg_cmp_0.mpr ?_), rfl⟩, hw⟩
      have h2 : MO σ (cd &&& 3).toInt32 ((cd >>> ((nI 2).toInt64 &&& 63)) &&& 15).toInt32 o1 := ⟨h.1, by rw [h.2]; exact (cd_key hInv h.1).1, by rw [h.2]; exact (cd_key hInv h.1).2⟩
      rw [MO.eq hInv hm h2]
      exact h.2.symm
    · refine g_aload_n (i := 3) hC d_H_findByCode_32 rfl rfl (Or.inr ⟨_, rfl⟩) ?_
      refine g_goto (tgt := 37) hC d_H_findByCode_33 (by decide) ?_
      refine g_aret (r := some (ad0 (100 + o))) hC hr hlk d_H_findByCode_37 (by decide) (by decide) (fun ad w hw => ?_)
      exact ⟨Or.inl ⟨o, ⟨hm.1, (lg_cmp_0.mp h29).symm⟩, rfl⟩, hw⟩
  · rw [show va_rf none = .null from rfl]
    refine g_astore_n (i := 3) (lo' := [(3, _), (0, _), (1, _)]) hC d_H_findByCode_18 rfl (Or.inl rfl) (by decide) rfl ?_
    refine g_aload_n (i := 3) hC d_H_findByCode_19 rfl rfl (Or.inl rfl) ?_
    refine g_ifnullZ (tgt := 36) hC d_H_findByCode_20 (by decide) ?_
    refine g_null hC d_H_findByCode_36 ?_
    refine g_aret (r := none) hC hr hlk d_H_findByCode_37 (by decide) (by decide) (fun ad w hw => ?_)
    exact ⟨Or.inr ⟨fun ⟨o, h⟩ => hm ⟨o, h.1, by rw [h.2]; exact (cd_key hInv h.1).1, by rw [h.2]; exact (cd_key hInv h.1).2⟩, rfl⟩, hw⟩
set_option maxRecDepth 100000 in
set_option maxHeartbeats 4000000 in
theorem h_add (l : Launch) (D : va_G) (S : Nat) (ρ : rS) (ad0 : Nat → Nat) (w0 : gW) (o : Nat) (ho : o < 18) (hoS : o < 6 * S) (hal : ρ 41 o ≠ 0) (hsi : ρ (60 + o) 3 = o / 6) (hnu : ρ (60 + o) 4 = o % 6) : g_M l y_H_add w_H_add (rk 1) D gCl g_N [.ref (ad0 1), .ref (ad0 (100 + o))] (CW S ρ ad0 w0) 0 0 (fun A => g_Qv D gCl A (fun ad w => CW S (u2 ρ 40 o 1) ad0 w0 ad w)) := by
  refine g_of (cc := c_H_add) (nL := 2) (ret := none) (by decide) rfl (Nat.le_of_ble_eq_true rfl) ?_
  intro pp ee ss mm bb me cc A hC hr hlk hnm
  refine g_los [0, 1] (lo' := [(0, .ref (ad0 1)), (1, .ref (ad0 (100 + o)))]) rfl ?_
  refine g_pure cw_bl (fun hbS => ?_)
  obtain ⟨hb, hSS⟩ := hbS
  refine g_aload_n (i := 0) hC d_H_add_0 rfl rfl (Or.inr ⟨_, rfl⟩) ?_
  refine g_get hC (fun x h => List.mem_cons_of_mem _ (in_H x h)) 1 cw_hi rfl 1 (by decide) (List.mem_cons_of_mem _ m_32) rfl rfl d_H_add_1 ?_
  refine g_aload_n (i := 1) hC d_H_add_4 rfl rfl (Or.inr ⟨_, rfl⟩) ?_
  refine g_calli hC (g_runV (q := (100 + o)) (As := []) (st := [_]) hC g_NOK_N (o_index l D S ρ ad0 w0 o ho hal hsi hnu) (t_cwV 0 hC.1.2.2.2.2 m_159 m_160 m_161 m_7 k_O_index rfl rfl hd_O_index ⟨by decide, by decide⟩) (cw_o ho hal) rfl rfl rfl (Nat.le_of_ble_eq_true rfl) d_H_add_5 ⟨by decide, by decide⟩) (fun r5 => ?_)
  refine g_and (fun e => ?_)
  subst e
  refine g_aload_n (i := 1) hC d_H_add_8 rfl rfl (Or.inr ⟨_, rfl⟩) ?_
  refine cs_made hC rfl (by omega) hoS hal d_H_add_9 ?_
  refine g_vret hC hr hlk d_H_add_10 (by decide) (by decide) (fun ad w hw => ?_)
  exact hw
def opR (ρ : rS) (o a n c p v : Nat) : rS := u2 (u2 (u2 (u2 (u2 ρ (60 + o) 3 a) (60 + o) 4 n) (60 + o) 0 c) (60 + o) 1 p) (60 + o) 2 v
set_option maxRecDepth 100000 in
set_option maxHeartbeats 4000000 in
theorem o_init (l : Launch) (D : va_G) (S : Nat) (ρ : rS) (ad0 : Nat → Nat) (w0 : gW) (o a n c q v : Nat) (ho : o < 18) (hal : ρ 41 o ≠ 0) (ha : a < 1000) (hn : n < 1000) (hc : c < 1000) (hq : q < 1000) (hv : v < 1000) : g_M l y_O_init w_O_init (rk 1) D gCl g_N [.ref (ad0 (100 + o)), .int (nI a), .int (nI n), .int (nI c), .int (nI q), .int (nI v)] (CW S ρ ad0 w0) 0 0 (fun A => g_Qv D gCl A (fun ad w => CW S (opR ρ o a n c q v) ad0 w0 ad w)) := by
  refine g_of (cc := c_O_init) (nL := 6) (ret := none) (by decide) rfl (Nat.le_of_ble_eq_true rfl) ?_
  intro pp ee ss mm bb me cc A hC hr hlk hnm
  refine g_los [0, 1, 2, 3, 4, 5] (lo' := [(0, .ref (ad0 (100 + o))), (1, .int (nI a)), (2, .int (nI n)), (3, .int (nI c)), (4, .int (nI q)), (5, .int (nI v))]) rfl ?_
  refine g_pure cw_bl (fun hbS => ?_)
  obtain ⟨hb, hSS⟩ := hbS
  refine g_aload_n (i := 0) hC d_O_init_0 rfl rfl (Or.inr ⟨_, rfl⟩) ?_
  refine g_objInit hC (List.mem_cons_of_mem _ m_130) (List.mem_cons_of_mem _ m_15) (List.mem_cons_of_mem _ m_16) (by decide) (Nat.le_of_ble_eq_true rfl) d_O_init_1 ?_
  refine g_aload_n (i := 0) hC d_O_init_4 rfl rfl (Or.inr ⟨_, rfl⟩) ?_
  refine g_iload_n (i := 1) hC d_O_init_5 rfl rfl ?_
  refine g_putF (ty := .int) hC hnm (fun x h => List.mem_cons_of_mem _ (in_O x h)) ft_O tk_O n_O (100 + o) (cw_o ho (by (repeat rw [u2_ne (by omega)]); exact hal)) rfl 0 (by decide) (List.mem_cons_of_mem _ m_131) rfl rfl rfl (by decide +kernel) rfl rfl (Nat.le_of_ble_eq_true rfl) (cw_upo3 (by omega) ho (by (repeat rw [u2_ne (by omega)]); exact hal) (by omega)) d_O_init_6 ?_
  refine g_aload_n (i := 0) hC d_O_init_9 rfl rfl (Or.inr ⟨_, rfl⟩) ?_
  refine g_iload_n (i := 2) hC d_O_init_10 rfl rfl ?_
  refine g_putF (ty := .int) hC hnm (fun x h => List.mem_cons_of_mem _ (in_O x h)) ft_O tk_O n_O (100 + o) (cw_o ho (by (repeat rw [u2_ne (by omega)]); exact hal)) rfl 1 (by decide) (List.mem_cons_of_mem _ m_135) rfl rfl rfl (by decide +kernel) rfl rfl (Nat.le_of_ble_eq_true rfl) (cw_upo4 (by omega) ho (by (repeat rw [u2_ne (by omega)]); exact hal) (by omega)) d_O_init_11 ?_
  refine g_aload_n (i := 0) hC d_O_init_14 rfl rfl (Or.inr ⟨_, rfl⟩) ?_
  refine g_iload_n (i := 3) hC d_O_init_15 rfl rfl ?_
  refine g_putF (ty := .int) hC hnm (fun x h => List.mem_cons_of_mem _ (in_O x h)) ft_O tk_O n_O (100 + o) (cw_o ho (by (repeat rw [u2_ne (by omega)]); exact hal)) rfl 2 (by decide) (List.mem_cons_of_mem _ m_137) rfl rfl rfl (by decide +kernel) rfl rfl (Nat.le_of_ble_eq_true rfl) (cw_upo0 (by omega) ho (by (repeat rw [u2_ne (by omega)]); exact hal) (by omega)) d_O_init_16 ?_
  refine g_aload_n (i := 0) hC d_O_init_19 rfl rfl (Or.inr ⟨_, rfl⟩) ?_
  refine g_iload (i := 4) hC d_O_init_20 rfl ?_
  refine g_putF (ty := .int) hC hnm (fun x h => List.mem_cons_of_mem _ (in_O x h)) ft_O tk_O n_O (100 + o) (cw_o ho (by (repeat rw [u2_ne (by omega)]); exact hal)) rfl 3 (by decide) (List.mem_cons_of_mem _ m_139) rfl rfl rfl (by decide +kernel) rfl rfl (Nat.le_of_ble_eq_true rfl) (cw_upo1 (by omega) ho (by (repeat rw [u2_ne (by omega)]); exact hal) (by omega)) d_O_init_22 ?_
  refine g_aload_n (i := 0) hC d_O_init_25 rfl rfl (Or.inr ⟨_, rfl⟩) ?_
  refine g_iload (i := 5) hC d_O_init_26 rfl ?_
  refine g_putF (ty := .int) hC hnm (fun x h => List.mem_cons_of_mem _ (in_O x h)) ft_O tk_O n_O (100 + o) (cw_o ho (by (repeat rw [u2_ne (by omega)]); exact hal)) rfl 4 (by decide) (List.mem_cons_of_mem _ m_141) rfl rfl rfl (by decide +kernel) rfl rfl (Nat.le_of_ble_eq_true rfl) (cw_upo2 (by omega) ho (by (repeat rw [u2_ne (by omega)]); exact hal) (by omega)) d_O_init_28 ?_
  refine g_vret hC hr hlk d_O_init_31 (by decide) (by decide) (fun ad w hw => ?_)
  exact hw
