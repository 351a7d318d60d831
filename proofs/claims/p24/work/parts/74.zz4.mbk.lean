/-! makeBoth as a call, and its contract -/
noncomputable def hp_loc (mi k : Nat) : Bool := match sx_ch 16 mi sx_T with
  | some m => Nat.beq m.1 mi && Nat.ble k m.2.2.1
  | none => false
theorem hp_M {mi k : Nat} (hb : hp_loc mi k = true) : ∃ M, m_P[mi]? = some M ∧ k ≤ M.2.2.1 := by
  unfold hp_loc at hb
  split at hb
  case h_2 => cases hb
  rename_i m hm
  rw [Bool.and_eq_true, sx_beqn, sx_ble] at hb
  obtain ⟨M, hM, -, e, -⟩ := sx_tok_m mi m hm hb.1
  exact ⟨M, hM, by rw [← e]; exact hb.2⟩
theorem hp_tv {p : Prop} (h : ly_tv p = some 1) : p := ly_tv_iff.mp h
theorem mb_c8 {cst : am_K} {h : am_H} {w mc : Int} (hQ : ly_hv cst h 60020 0 = some 1) (hI : ly_hv cst h 60031 w = some 1) (hC : ly_hv cst h 24576 w = some mc) : mc ≤ 8 := by
  have q : gh_qa (ly_h0 cst h 19989) (ly_h0 cst h 23296) (ly_h0 cst h 23552) (ly_h0 cst h 24064) (ly_h0 cst h 24576) (ly_h0 cst h 24832) (ly_h0 cst h 25088) (ly_h0 cst h 26880) (ly_h0 cst h 20012) := by
    have : ly_hv cst h 60020 0 = ly_gv (ly_h0 cst h) 60020 0 := by unfold ly_hv; rw [if_neg (by decide), if_pos (by decide)]
    rw [this, gv_20] at hQ
    exact hp_tv hQ
  have i : gh_in (ly_h0 cst h 19989) (ly_h0 cst h 23296) (ly_h0 cst h 23552) 1 w := by
    have : ly_hv cst h 60031 w = ly_gv (ly_h0 cst h) (60030 + 1) w := by unfold ly_hv; rw [if_neg (by decide), if_pos (by decide)]
    rw [this, gv_3x _ 1 (by decide)] at hI
    exact hp_tv hI
  obtain ⟨k, n, m', e1, -, e3, -, e4, -⟩ := gh_good q i
  have ek := i.2.1
  rw [e1] at ek
  cases ek
  rw [ly_hv0 (by decide), e3] at hC
  cases hC
  exact e4 rfl
theorem mb_run {cst : am_K} {strs : List Nat} {D : Nat} {h : am_H} (c : hp_C cst strs D) (hD : (2 : Int) ≤ (D : Int) + 1) (hy : ly_hy m_tt ly_TH h) {xm xw : Int32} (m0 : 0 ≤ xm.toInt) (m1 : xm.toInt ≤ 99) (w0 : 0 ≤ xw.toInt) (w1 : xw.toInt ≤ 1199) {mi mc : Int} (kI : ly_hv cst h 33280 xm.toInt = some mi) (kC : ly_hv cst h 24576 xw.toInt = some mc) (c1 : mc ≤ 8) :
    ∃ r, am_Run cst m_cl m_tt m_P strs sx_bi (D + 1) 346 [.ref 94, .int xm, .int xw] h r ∧ mb_Φ cst h xm.toInt xw.toInt mi mc r := by
  obtain ⟨M, hM, hl⟩ := hp_M (mi := 346) (k := 3) (by decide +kernel)
  obtain ⟨mi', e1, a0, a1⟩ := hp_row (cst := cst) (i := xm.toInt) hy th_IM m0 (by omega)
  rw [show 256 * 130 = 33280 from rfl, kI] at e1
  cases e1
  obtain ⟨mc', e2, c0, -⟩ := hp_row (cst := cst) (i := xw.toInt) hy th_CM w0 (by omega)
  rw [show 256 * 96 = 24576 from rfl, kC] at e2
  cases e2
  have := mb0 (Φ := mb_Φ cst h xm.toInt xw.toInt mi mc) (l := lv_args 0 [.ref 94, .int xm, .int xw]) c hM hD hy xm.toInt xw.toInt mi mc m0 m1 w0 w1 a0 a1 c0 c1 kI kC rfl ⟨xm, rfl, rfl⟩ ⟨xw, rfl, rfl⟩ (fun l' h' q1 q2 q3 p0 p1 p2 p3 p4 =>
    mb_loop c hM hD m0 m1 w0 w1 a0 a1 c0 c1 ((10 * mi + (mc + 1)).toNat + 1) h' l' mi mc (Nat.lt_succ_self _) a0 (Int.le_refl _) (by omega) (Int.le_refl _) (mb_I_arc (h := h) ⟨hy, ly_fr_rf h, Nat.le_refl _, kI, kC, fun i' j' h1 h2 h3 h4 h5 => by omega⟩ q1 q2 q3) p0 p1 p2 p3 p4)
  obtain ⟨n, r, hgo, hΦ⟩ := this
  refine ⟨r, Or.inr ⟨M, n, hM, hl, hgo⟩, ?_⟩
  obtain ⟨p1, p2, p3, p4⟩ := hΦ
  simp only [Nat.zero_add] at p2 p3
  exact ⟨p1, p2, p3, p4⟩
theorem mb_kept : hp_kept 346 lyc276 := by
  intro cst strs gC hstr D hY ν av h zd M hM hsl hy gZ gL hzd hle
  have ez : zd = 2 := by
    have := ly_ev_c ν 2
    rw [show ly_ev ν lyc276.2.2.2.1 = some 2 from this] at hzd
    cases hzd
    rfl
  subst ez
  obtain ⟨D, rfl⟩ : ∃ D', D = D' + 1 := ⟨D - 1, by omega⟩
  have c : hp_C cst strs D := ⟨gC, hstr, fun d hd => hY d (by omega)⟩
  obtain ⟨m, hm, m0, m1⟩ := gZ.2.1 (0, 0, 99) (List.mem_of_getElem? (i := 0) rfl)
  obtain ⟨w, hw, w0, w1⟩ := gZ.2.1 (1, 0, 1199) (List.mem_of_getElem? (i := 1) rfl)
  obtain ⟨g2, h2, b2, t2⟩ := gZ.2.1 (2, 1, 1) (List.mem_of_getElem? (i := 2) rfl)
  obtain ⟨g3, h3, b3, t3⟩ := gZ.2.1 (3, 1, 1) (List.mem_of_getElem? (i := 3) rfl)
  simp only at hm m0 m1 hw w0 w1 h2 b2 t2 h3 b3 t3
  have l0 := hp_gLa gL (k := 0) (a := 94) (List.mem_of_getElem? (i := 0) rfl) (by decide)
  have l1 := hp_gLi (k := 1) (e := ly_sym 0) (y := m) gL (List.mem_of_getElem? (i := 1) rfl) (ly_ev_sym hm) rfl
  have l2 := hp_gLi (k := 2) (e := ly_sym 1) (y := w) gL (List.mem_of_getElem? (i := 2) rfl) (ly_ev_sym hw) rfl
  have kQ := hp_gK (r := 60020) (i := (0, [])) (v := ly_sym 2) (yi := 0) (yv := 1) gZ.2.2.2 (List.mem_of_getElem? (i := 0) rfl) (ly_ev_c ν 0) (ly_ev_sym h2) rfl (by omega)
  have kN := hp_gK (r := 60031) (i := ly_sym 1) (v := ly_sym 3) (yi := w) (yv := 1) gZ.2.2.2 (List.mem_of_getElem? (i := 1) rfl) (ly_ev_sym hw) (ly_ev_sym h3) rfl (by omega)
  obtain ⟨mi, kI, a0, a1⟩ := hp_row (cst := cst) (i := m) hy th_IM m0 (by omega)
  obtain ⟨mc, kC, c0, -⟩ := hp_row (cst := cst) (i := w) hy th_CM w0 (by omega)
  have c1 := mb_c8 kQ kN kC
  have := mb0 (Φ := mb_Φ cst h m w mi mc) (l := lv_args 0 av) c hM (by omega) hy m w mi mc m0 m1 w0 w1 a0 a1 c0 c1 kI kC l0 l1 l2 (fun l' h' q1 q2 q3 p0 p1 p2 p3 p4 =>
    mb_loop c hM (by omega) m0 m1 w0 w1 a0 a1 c0 c1 ((10 * mi + (mc + 1)).toNat + 1) h' l' mi mc (Nat.lt_succ_self _) a0 (Int.le_refl _) (by omega) (Int.le_refl _) (mb_I_arc (h := h) ⟨hy, ly_fr_rf h, Nat.le_refl _, kI, kC, fun i' j' h1 h2 h3 h4 h5 => by omega⟩ q1 q2 q3) p0 p1 p2 p3 p4)
  obtain ⟨n, r, hgo, hΦ⟩ := this
  refine ⟨r, Or.inr ⟨M, n, hM, hsl, hgo⟩, ?_⟩
  obtain ⟨p1, p2, p3, p4⟩ := hΦ
  simp only [Nat.zero_add] at p2 p3 p1 p4
  refine ⟨Nat.le_of_eq p2, Nat.le_of_eq p3, p4.1, p4.2.1, p4.2.2.1, _, List.mem_singleton.mpr rfl, ν, fun _ _ => rfl, ⟨gZ.1, gZ.2.1, hp_Fn, hp_Kn⟩, ?_⟩
  rw [p1]
  trivial
