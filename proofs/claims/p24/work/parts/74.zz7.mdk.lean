/-! mend's contract -/
theorem md_sub1 {r : Nat} (hr : ly_has r [33024, 33280, 37376] = false) : ly_has r [37376] = false := by
  simp only [ly_has, List.any_cons, List.any_nil, Bool.or_false, Bool.or_eq_false_iff] at hr ⊢
  exact hr.2.2
theorem md_kept : hp_kept 345 lyc275 := by
  intro cst strs gC hstr D hY ν av h zd M hM hsl hy gZ gL hzd hle
  have ez : zd = 7 := by
    have := ly_ev_c ν 7
    rw [show ly_ev ν lyc275.2.2.2.1 = some 7 from this] at hzd
    cases hzd
    rfl
  subst ez
  obtain ⟨D, rfl⟩ : ∃ D', D = D' + 1 + 1 := ⟨D - 2, by omega⟩
  have c : hp_C cst strs (D + 1) := ⟨gC, hstr, fun d hd => hY d (by omega)⟩
  have c' : hp_C cst strs D := ⟨gC, hstr, fun d hd => hY d (by omega)⟩
  obtain ⟨m, hm, m0, m1⟩ := gZ.2.1 (0, (-2147483648), 2147483647) (List.mem_of_getElem? (i := 0) rfl)
  obtain ⟨g, hg, g0, g1⟩ := gZ.2.1 (1, 1, 1) (List.mem_of_getElem? (i := 1) rfl)
  simp only at hm m0 m1 hg g0 g1
  have l0 := hp_gLa gL (k := 0) (a := 94) (List.mem_of_getElem? (i := 0) rfl) (by decide)
  have l1 := hp_gLi (k := 1) (e := ly_sym 0) (y := m) gL (List.mem_of_getElem? (i := 1) rfl) (ly_ev_sym hm) rfl
  have kQ := hp_gK (r := 60020) (i := (0, [])) (v := ly_sym 1) (yi := 0) (yv := g) gZ.2.2.2 (List.mem_of_getElem? (i := 0) rfl) (ly_ev_c ν 0) (ly_ev_sym hg) rfl rfl
  have sub0 : ∀ {a b : am_H}, ly_fr cst [] a b → ly_fr cst [33024, 33280, 37376] a b := fun f r i v _ e => f r i v rfl e
  have small : ∀ (z : Int), -48 ≤ z → z ≤ 28 → ∀ (h' : am_H) (x : Int32), x.toInt = z → ly_hy m_tt ly_TH h' → ly_fr cst [] h h' → h.length ≤ h'.length → md_Φ cst h (some (.int x), h', 0, 0) := fun z z0 z1 h' x hx q1 q2 q3 => ⟨x, rfl, by omega, by omega, rfl, rfl, q1, sub0 q2, q3⟩
  have fin : hp_F cst strs (md_Φ cst h) (D + 1) M 0 (lv_args 0 av) [] h := by
    refine md0 (Φ := md_Φ cst h) c hM (by omega) hy m g m0 m1 g0 g1 kQ l0 l1 (fun l' h' w e y0 y1 hy0 hy1 q1 q2 q3 w0 e0 w1 e1 a0 a1 kQ' kN p0 p1 p2 => ?_) (small (-2) (by omega) (by omega)) (small (-4) (by omega) (by omega)) (small (-1) (by omega) (by omega)) (small 0 (by omega) (by omega))
    have eg : g = 1 := by omega
    have ee : e = 1 := by omega
    subst eg
    subst ee
    subst hy0
    subst hy1
    obtain ⟨mi, kI, b0, b1⟩ := hp_row (cst := cst) (i := y1.toInt) q1 th_IM a0 (by omega)
    obtain ⟨mc, kC, c0, -⟩ := hp_row (cst := cst) (i := y0.toInt) q1 th_CM w0 (by omega)
    have c1 := mb_c8 kQ' kN kC
    obtain ⟨r, hrun, r1, r2, r3, ihy, ifr, ilen, kI', kC', T⟩ := mb_run c' (by omega) q1 a0 a1 w0 w1 kI kC c1
    refine hp_call (mi := 345) (tg := 346) (na := 3) (c := 78) (ci := 12) (st0 := [.int y0, .int y1, .ref 94]) (st := []) (av := [.int y1, .int y0]) hM (by decide +kernel) q1 rfl rfl rfl (by decide) hrun r2 r3 ?_
    rw [r1]
    obtain ⟨s, hs, s0, s1, s2, -⟩ := T 0 0 (by omega) (by omega) b0 c0 (by omega)
    have fr2 : ly_fr cst [33024, 33280, 37376] h r.2.1 := ly_fr_tr (sub0 q2) (fun r i v hr e => ifr r i v (md_sub1 hr) e)
    have len2 : h.length ≤ r.2.1.length := Nat.le_trans q3 ilen
    refine md1 (Φ := md_Φ cst h) c hM (by omega) ihy y1.toInt y0.toInt mi mc s a0 a1 w0 w1 b0 b1 c0 c1 s0 (by omega) kI' kC' hs p0 p1 p2 (fun l2 h2 u1 u2 u3 f0 v0 v1 v2 v3 v4 v5 => ?_) (fun h2 x hx u1 u2 u3 => ⟨x, rfl, by omega, by omega, rfl, rfl, u1, ly_fr_tr fr2 (sub0 u2), Nat.le_trans len2 u3⟩)
    have I2 : md_I cst h y1.toInt y0.toInt mi mc h2 := md_I_arc ⟨ihy, fr2, len2, kI', kC', T⟩ u1 u2 u3
    refine md_loop c hM (by omega) a0 a1 w0 w1 b0 b1 c0 c1 ((mi - 0) + (mc - 0)).toNat.succ h2 l2 0 0 0 s (Nat.lt_succ_self _) (by omega) (by omega) b0 (by omega) c0 I2 ?_ (by omega) v0 v1 v2 v3 v4 v5
    rw [hp_same th_BO rfl ihy u1 u2]
    exact hs
  obtain ⟨n, r, hgo, x, r1, x0, x1, r2, r3, r4, r5, r6⟩ := fin
  simp only [Nat.zero_add] at r1 r2 r3 r4 r5 r6
  refine ⟨r, Or.inr ⟨M, n, hM, hsl, hgo⟩, Nat.le_of_eq r2, Nat.le_of_eq r3, r4, r5, r6, _, List.mem_singleton.mpr rfl, ly_up ν 2 x.toInt, fun k hk => ?_, ⟨fun k hk => ?_, ?_, hp_Fn, hp_Kn⟩, ?_⟩
  · have hk2 : k < 2 := hk
    exact if_neg (by omega)
  · have hk3 : 3 ≤ k := hk
    show (if k = 2 then some x.toInt else ν k) = none
    rw [if_neg (by omega)]
    exact gZ.1 k (show 2 ≤ k by omega)
  · exact hp_Bc (z := m) hm m0 m1 (hp_Bc (z := g) hg g0 g1 (hp_Bc (z := x.toInt) rfl x0 x1 hp_Bn))
  · rw [r1]
    exact ⟨⟨x, rfl, ly_ev_sym (n := 2) (show (if (2 : Nat) = 2 then some x.toInt else ν 2) = some x.toInt from if_pos rfl)⟩, trivial⟩
