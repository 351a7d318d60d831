/-! PRINTED by wip/p2/gen_hand.py: roads of the switch by hand -/
noncomputable def lw_isV (pc tg na ci : Nat) : Bool := match sx_find pc sxmL.2.2.2.2 with
  | some (.invokevirtual _, X) => Nat.beq X.1 tg && (Nat.beq X.2.1 na && (sx_eq X.2.2 0 && (match sx_ch 16 tg sx_T with
    | some m' => Nat.beq m'.1 tg && (Nat.beq m'.2.1 ci && Nat.blt ci 98)
    | none => false)))
  | _ => false
theorem lw_call {cst : am_K} {Φ : am_Q → Prop} {pc tg na c ci : Nat} {fs : List (List ly_F)} {av st0 st : List Value} {h : am_H} {l : am_L} {r : am_Q} (hI : lw_isV pc tg na ci = true) (hy : ly_hy m_tt ly_TH h) (ht : ly_ths ly_TH c = some (.inr (ci, fs))) (hst : st0.length = na) (hav : st0.reverse = .ref (16 + c) :: av) (hcat : (st.map fun v => v.category).sum ≤ 8)
    (hrun : am_Run cst m_cl m_tt m_P m_strs sx_bi 50 tg (.ref (16 + c) :: av) h r) (hc0 : r.2.2.1 = 0) (hs0 : r.2.2.2 = 0) (k : lw_F cst Φ (pc + 3) l (r.1.toList ++ st) r.2.1 0 0) : lw_F cst Φ pc l (st0 ++ st) h 0 0 := by
  unfold lw_isV at hI
  split at hI
  case h_2 => cases hI
  rename_i ix X hX
  simp only [Bool.and_eq_true, sx_beqn, sx_eq_iff] at hI
  obtain ⟨x1, x2, x3, hI⟩ := hI
  split at hI
  case h_2 => cases hI
  rename_i m' hm'
  simp only [Bool.and_eq_true, sx_beqn, sx_blt] at hI
  obtain ⟨t0, t1, t2⟩ := hI
  obtain ⟨T', hT', -, -, h98, -⟩ := sx_tok_m tg m' hm' t0
  have hfind := lw_mok.2.2 _ _ hX
  have etake : (st0 ++ st).take X.2.1 = st0 := by rw [x2, ← hst]; exact List.take_left' rfl
  have edrop : (st0 ++ st).drop X.2.1 = st := by rw [x2, ← hst]; exact List.drop_left' rfl
  obtain ⟨xc, hx, vs, rfl, -⟩ := hy.2.1 _ _ ht
  obtain ⟨rr, hrr, hrr1⟩ := h98 (by omega)
  have hcc : am_c m_cl m_P m_strs (.invokevirtual ix) X (st0 ++ st) h := by
    refine ⟨by rw [List.length_append]; omega, by rw [edrop]; exact hcat, x3, .ref (16 + c), av, T', by rw [etake]; exact hav, by rw [x1]; exact hT', 16 + c, rfl, Or.inl ⟨Nat.not_lt.mpr (Nat.le_add_right 16 c), ci, vs, rr, ?_, ?_, hrr1⟩⟩
    · rw [show 16 + c - 16 = c by omega]; exact hx
    · rw [← t1]; exact hrr
  refine sx_Fin_pre (dc := r.2.2.1) (ds := r.2.2.2) (f1 := (mtL, pc + 3, l, r.1.toList ++ st)) (h1 := r.2.1) (fun n2 q hgo2 => ⟨n2 + 1, _, X, hfind, Or.inr (Or.inr (Or.inr (Or.inl ⟨r, q, hcc, ?_, ?_, rfl⟩)))⟩) ?_
  · rw [etake, hav, x1]; exact hrun
  · rw [edrop]; exact hgo2
  · rw [hc0, hs0]; exact k
theorem lw_elem {cst : am_K} {h : am_H} {n i : Int} (gC : ly_gC sx_KK cst) (hn : ly_hv cst h 60000 0 = some n) (i0 : 0 ≤ i) (i1 : i < n) : ∃ x : Int32, ly_hv cst h 60001 i = some x.toInt := by
  obtain ⟨L, eL, -⟩ := gC.2.1
  rw [ly_hv0 (by decide)] at hn ⊢
  unfold ly_h0 at hn ⊢
  rw [if_neg (by decide), if_neg (by decide), if_neg (by decide)] at hn ⊢
  unfold ly_hk at hn ⊢
  rw [eL] at hn ⊢
  simp only [if_pos] at hn
  cases hn
  simp only
  rw [if_neg (by decide), if_pos ⟨trivial, i0⟩]
  cases hx : L[i.toNat]? with
  | some x => exact ⟨x, rfl⟩
  | none =>
    have := List.getElem?_eq_none_iff.mp hx
    omega
theorem rq_road0_k : lw_chk ly_Y 406 5 [(0, 0, 3584), (1, 0, 3584), (2, (-2147483648), 2147483647), (3, (-2147483648), 2147483647), (4, (-2147483648), 2147483647)] [((-7), [(0, 1), (1, (-1))])] [(0, .inr (.inr (.inl (some 4)))), (1, .inr (.inr (.inl (some 16)))), (2, .inr (.inr (.inl (some 94)))), (3, .inl (0, [(1, 1)]))] [] [(60000, (0, []), (0, [(0, 1)])), (60001, (1, [(1, 1)]), (0, [(2, 1)])), (60001, (2, [(1, 1)]), (0, [(3, 1)])), (60001, (3, [(1, 1)]), (0, [(4, 1)]))] [] [(422, ([], 5, [(0, 0, 3584), (1, 0, 3584), (2, (-2147483648), 2147483647), (3, (-2147483648), 2147483647), (4, (-2147483648), 2147483647)], [], [(0, .inr (.inr (.inl (some 4)))), (1, .inr (.inr (.inl (some 16)))), (2, .inr (.inr (.inl (some 94)))), (3, .inl (0, [(1, 1)]))], [.inl (0, [(4, 1)]), .inl (0, [(3, 1)]), .inl (0, [(2, 1)]), .inr (.inr (.inl (some 16)))], []))] [] 0 0 = true := by decide +kernel
theorem rq_road0 {cst : am_K} {Φ : am_Q → Prop} {h : am_H} {l : am_L} (gC : ly_gC sx_KK cst) (hY : ∀ d, ly_Yok cst m_cl m_tt m_P m_strs ly_TH ly_Y d) (hy : ly_hy m_tt ly_TH h) (n p x y z : Int) (b0 : 0 ≤ n) (t0 : n ≤ 3584) (b1 : 0 ≤ p) (t1 : p ≤ 3584) (b2 : (-2147483648) ≤ x) (t2 : x ≤ 2147483647) (b3 : (-2147483648) ≤ y) (t3 : y ≤ 2147483647) (b4 : (-2147483648) ≤ z) (t4 : z ≤ 2147483647) (f0 : 0 ≤ (n - p - 7)) (k0 : ly_hv cst h 60000 0 = some (n)) (k1 : ly_hv cst h 60001 (p + 1) = some (x)) (k2 : ly_hv cst h 60001 (p + 2) = some (y)) (k3 : ly_hv cst h 60001 (p + 3) = some (z)) (l0 : hp_a l 0 4) (l1 : hp_a l 1 16) (l2 : hp_a l 2 94) (l3 : hp_i l 3 (p)) (e0 : ∀ (l' : am_L) (h' : am_H) (y0 : Int32) (y1 : Int32) (y2 : Int32), y0.toInt = (z) → y1.toInt = (y) → y2.toInt = (x) → ly_hy m_tt ly_TH h' → ly_fr cst [] h h' → hp_a l' 0 4 → hp_a l' 1 16 → hp_a l' 2 94 → hp_i l' 3 (p) → lw_F cst Φ 422 l' [.int y0, .int y1, .int y2, .ref 16] h' 0 0) : lw_F cst Φ 406 l [] h 0 0 := by
  refine lw_arc gC hY rq_road0_k [n, p, x, y, z] rfl hy (hp_Bc (z := n) rfl b0 t0 (hp_Bc (z := p) rfl b1 t1 (hp_Bc (z := x) rfl b2 t2 (hp_Bc (z := y) rfl b3 t3 (hp_Bc (z := z) rfl b4 t4 hp_Bn))))) (hp_Fc (z := ((-7) + (1 * n + ((-1) * p + 0)))) rfl (by omega) hp_Fn) (hp_Kc (zi := (0 + 0)) (zv := (0 + (1 * n + 0))) k0 rfl rfl (by omega) (by omega) (hp_Kc (zi := (1 + (1 * p + 0))) (zv := (0 + (1 * x + 0))) k1 rfl rfl (by omega) (by omega) (hp_Kc (zi := (2 + (1 * p + 0))) (zv := (0 + (1 * y + 0))) k2 rfl rfl (by omega) (by omega) (hp_Kc (zi := (3 + (1 * p + 0))) (zv := (0 + (1 * z + 0))) k3 rfl rfl (by omega) (by omega) hp_Kn)))) (hp_La l0 (hp_La l1 (hp_La l2 (hp_Li (z := (0 + (1 * p + 0))) l3 rfl (by omega) hp_Ln)))) trivial ?_ ?_
  · intro q hp ys l' st' h' ca sa ha hs hys a1 hfr gZ gL gS
    have ea : ca = 0 := Nat.le_zero.mp ha
    have eb : sa = 0 := Nat.le_zero.mp hs
    subst ea
    subst eb
    rcases List.mem_cons.mp hp with rfl | hp
    · obtain rfl := hp_y0 hys
      obtain ⟨y0, t0, rfl, q0, g0⟩ := hp_gSi (z := (0 + (1 * z + 0))) gS rfl
      obtain ⟨y1, t1, rfl, q1, g1⟩ := hp_gSi (z := (0 + (1 * y + 0))) g0 rfl
      obtain ⟨y2, t2, rfl, q2, g2⟩ := hp_gSi (z := (0 + (1 * x + 0))) g1 rfl
      obtain ⟨t3, rfl, g3⟩ := hp_gSa g2 (by decide)
      cases hp_gSn g3
      exact e0 l' h' y0 y1 y2 (by omega) (by omega) (by omega) a1 hfr (hp_gLa gL (List.mem_of_getElem? (i := 0) rfl) (by decide)) (hp_gLa gL (List.mem_of_getElem? (i := 1) rfl) (by decide)) (hp_gLa gL (List.mem_of_getElem? (i := 2) rfl) (by decide)) (hp_gLi (z := (0 + (1 * p + 0))) gL (List.mem_of_getElem? (i := 3) rfl) rfl (by omega))
    cases hp
  · intro q hq ys v h' hys gS
    cases hq
theorem rq_road1_k : lw_chk ly_Y 425 6 [(0, 0, 3584), (1, 0, 3584), (2, (-2147483648), 2147483647), (3, (-2147483648), 2147483647), (4, (-2147483648), 2147483647), (5, (-2147483648), 2147483647)] [((-7), [(0, 1), (1, (-1))])] [(0, .inr (.inr (.inl (some 4)))), (1, .inr (.inr (.inl (some 16)))), (2, .inr (.inr (.inl (some 94)))), (3, .inl (0, [(1, 1)]))] [.inl (0, [(5, 1)])] [(60000, (0, []), (0, [(0, 1)])), (60001, (1, [(1, 1)]), (0, [(2, 1)])), (60001, (2, [(1, 1)]), (0, [(3, 1)])), (60001, (3, [(1, 1)]), (0, [(4, 1)]))] [] [(441, ([], 6, [(0, 0, 3584), (1, 0, 3584), (2, (-2147483648), 2147483647), (3, (-2147483648), 2147483647), (4, (-2147483648), 2147483647), (5, (-2147483648), 2147483647)], [], [(0, .inr (.inr (.inl (some 4)))), (1, .inr (.inr (.inl (some 16)))), (2, .inr (.inr (.inl (some 94)))), (3, .inl (0, [(1, 1)]))], [.inl (0, [(4, 1)]), .inl (0, [(3, 1)]), .inl (0, [(2, 1)]), .inr (.inr (.inl (some 94))), .inl (0, [(5, 1)])], []))] [] 0 0 = true := by decide +kernel
theorem rq_road1 {cst : am_K} {Φ : am_Q → Prop} {h : am_H} {l : am_L} (gC : ly_gC sx_KK cst) (hY : ∀ d, ly_Yok cst m_cl m_tt m_P m_strs ly_TH ly_Y d) (hy : ly_hy m_tt ly_TH h) (n p x y z a : Int) (x0 : Int32) (hx0 : x0.toInt = (a)) (b0 : 0 ≤ n) (t0 : n ≤ 3584) (b1 : 0 ≤ p) (t1 : p ≤ 3584) (b2 : (-2147483648) ≤ x) (t2 : x ≤ 2147483647) (b3 : (-2147483648) ≤ y) (t3 : y ≤ 2147483647) (b4 : (-2147483648) ≤ z) (t4 : z ≤ 2147483647) (b5 : (-2147483648) ≤ a) (t5 : a ≤ 2147483647) (f0 : 0 ≤ (n - p - 7)) (k0 : ly_hv cst h 60000 0 = some (n)) (k1 : ly_hv cst h 60001 (p + 1) = some (x)) (k2 : ly_hv cst h 60001 (p + 2) = some (y)) (k3 : ly_hv cst h 60001 (p + 3) = some (z)) (l0 : hp_a l 0 4) (l1 : hp_a l 1 16) (l2 : hp_a l 2 94) (l3 : hp_i l 3 (p)) (e0 : ∀ (l' : am_L) (h' : am_H) (y0 : Int32) (y1 : Int32) (y2 : Int32) (y4 : Int32), y0.toInt = (z) → y1.toInt = (y) → y2.toInt = (x) → y4.toInt = (a) → ly_hy m_tt ly_TH h' → ly_fr cst [] h h' → hp_a l' 0 4 → hp_a l' 1 16 → hp_a l' 2 94 → hp_i l' 3 (p) → lw_F cst Φ 441 l' [.int y0, .int y1, .int y2, .ref 94, .int y4] h' 0 0) : lw_F cst Φ 425 l [.int x0] h 0 0 := by
  refine lw_arc gC hY rq_road1_k [n, p, x, y, z, a] rfl hy (hp_Bc (z := n) rfl b0 t0 (hp_Bc (z := p) rfl b1 t1 (hp_Bc (z := x) rfl b2 t2 (hp_Bc (z := y) rfl b3 t3 (hp_Bc (z := z) rfl b4 t4 (hp_Bc (z := a) rfl b5 t5 hp_Bn)))))) (hp_Fc (z := ((-7) + (1 * n + ((-1) * p + 0)))) rfl (by omega) hp_Fn) (hp_Kc (zi := (0 + 0)) (zv := (0 + (1 * n + 0))) k0 rfl rfl (by omega) (by omega) (hp_Kc (zi := (1 + (1 * p + 0))) (zv := (0 + (1 * x + 0))) k1 rfl rfl (by omega) (by omega) (hp_Kc (zi := (2 + (1 * p + 0))) (zv := (0 + (1 * y + 0))) k2 rfl rfl (by omega) (by omega) (hp_Kc (zi := (3 + (1 * p + 0))) (zv := (0 + (1 * z + 0))) k3 rfl rfl (by omega) (by omega) hp_Kn)))) (hp_La l0 (hp_La l1 (hp_La l2 (hp_Li (z := (0 + (1 * p + 0))) l3 rfl (by omega) hp_Ln)))) (hp_Si (z := (0 + (1 * a + 0))) rfl (by omega) trivial) ?_ ?_
  · intro q hp ys l' st' h' ca sa ha hs hys a1 hfr gZ gL gS
    have ea : ca = 0 := Nat.le_zero.mp ha
    have eb : sa = 0 := Nat.le_zero.mp hs
    subst ea
    subst eb
    rcases List.mem_cons.mp hp with rfl | hp
    · obtain rfl := hp_y0 hys
      obtain ⟨y0, t0, rfl, q0, g0⟩ := hp_gSi (z := (0 + (1 * z + 0))) gS rfl
      obtain ⟨y1, t1, rfl, q1, g1⟩ := hp_gSi (z := (0 + (1 * y + 0))) g0 rfl
      obtain ⟨y2, t2, rfl, q2, g2⟩ := hp_gSi (z := (0 + (1 * x + 0))) g1 rfl
      obtain ⟨t3, rfl, g3⟩ := hp_gSa g2 (by decide)
      obtain ⟨y4, t4, rfl, q4, g4⟩ := hp_gSi (z := (0 + (1 * a + 0))) g3 rfl
      cases hp_gSn g4
      exact e0 l' h' y0 y1 y2 y4 (by omega) (by omega) (by omega) (by omega) a1 hfr (hp_gLa gL (List.mem_of_getElem? (i := 0) rfl) (by decide)) (hp_gLa gL (List.mem_of_getElem? (i := 1) rfl) (by decide)) (hp_gLa gL (List.mem_of_getElem? (i := 2) rfl) (by decide)) (hp_gLi (z := (0 + (1 * p + 0))) gL (List.mem_of_getElem? (i := 3) rfl) rfl (by omega))
    cases hp
  · intro q hq ys v h' hys gS
    cases hq
theorem rq_road2_k : lw_chk ly_Y 444 3 [(0, 0, 3584), (1, 0, 3584), (2, (-2147483648), 2147483647)] [((-7), [(0, 1), (1, (-1))])] [(0, .inr (.inr (.inl (some 4)))), (1, .inr (.inr (.inl (some 16)))), (2, .inr (.inr (.inl (some 94)))), (3, .inl (0, [(1, 1)]))] [.inl (0, [(2, 1)]), .inl (0, [(2, 1)])] [] [] [(18, ([], 3, [(0, 0, 3584), (1, 0, 3584), (2, (-2147483648), 2147483647)], [], [(0, .inr (.inr (.inl (some 4)))), (1, .inr (.inr (.inl (some 16)))), (2, .inr (.inr (.inl (some 94)))), (3, .inl (7, [(1, 1)]))], [], []))] [] 0 0 = true := by decide +kernel
theorem rq_road2 {cst : am_K} {Φ : am_Q → Prop} {h : am_H} {l : am_L} (gC : ly_gC sx_KK cst) (hY : ∀ d, ly_Yok cst m_cl m_tt m_P m_strs ly_TH ly_Y d) (hy : ly_hy m_tt ly_TH h) (n p a : Int) (x0 : Int32) (x1 : Int32) (hx0 : x0.toInt = (a)) (hx1 : x1.toInt = (a)) (b0 : 0 ≤ n) (t0 : n ≤ 3584) (b1 : 0 ≤ p) (t1 : p ≤ 3584) (b2 : (-2147483648) ≤ a) (t2 : a ≤ 2147483647) (f0 : 0 ≤ (n - p - 7)) (l0 : hp_a l 0 4) (l1 : hp_a l 1 16) (l2 : hp_a l 2 94) (l3 : hp_i l 3 (p)) (e0 : ∀ (l' : am_L) (h' : am_H), ly_hy m_tt ly_TH h' → ly_fr cst [] h h' → hp_a l' 0 4 → hp_a l' 1 16 → hp_a l' 2 94 → hp_i l' 3 (p + 7) → lw_F cst Φ 18 l' [] h' 0 0) : lw_F cst Φ 444 l [.int x0, .int x1] h 0 0 := by
  refine lw_arc gC hY rq_road2_k [n, p, a] rfl hy (hp_Bc (z := n) rfl b0 t0 (hp_Bc (z := p) rfl b1 t1 (hp_Bc (z := a) rfl b2 t2 hp_Bn))) (hp_Fc (z := ((-7) + (1 * n + ((-1) * p + 0)))) rfl (by omega) hp_Fn) hp_Kn (hp_La l0 (hp_La l1 (hp_La l2 (hp_Li (z := (0 + (1 * p + 0))) l3 rfl (by omega) hp_Ln)))) (hp_Si (z := (0 + (1 * a + 0))) rfl (by omega) (hp_Si (z := (0 + (1 * a + 0))) rfl (by omega) trivial)) ?_ ?_
  · intro q hp ys l' st' h' ca sa ha hs hys a1 hfr gZ gL gS
    have ea : ca = 0 := Nat.le_zero.mp ha
    have eb : sa = 0 := Nat.le_zero.mp hs
    subst ea
    subst eb
    rcases List.mem_cons.mp hp with rfl | hp
    · obtain rfl := hp_y0 hys
      cases hp_gSn gS
      exact e0 l' h' a1 hfr (hp_gLa gL (List.mem_of_getElem? (i := 0) rfl) (by decide)) (hp_gLa gL (List.mem_of_getElem? (i := 1) rfl) (by decide)) (hp_gLa gL (List.mem_of_getElem? (i := 2) rfl) (by decide)) (hp_gLi (z := (7 + (1 * p + 0))) gL (List.mem_of_getElem? (i := 3) rfl) rfl (by omega))
    cases hp
  · intro q hq ys v h' hys gS
    cases hq
theorem lc_road {cst : am_K} {Φ : am_Q → Prop} (gC : ly_gC sx_KK cst) (hY : ∀ d, ly_Yok cst m_cl m_tt m_P m_strs ly_TH ly_Y d) {n p : Int} {h : am_H} {l : am_L} (I : lw_I cst n p h l) (hp7 : p + 7 ≤ n)
    (k : ∀ (h' : am_H) (l' : am_L) (ca sa : Nat), ca ≤ 19 → sa ≤ 261 → lw_I cst n (p + 7) h' l' → lw_F cst Φ 18 l' [] h' ca sa) : lw_F cst Φ 406 l [] h 0 0 := by
  obtain ⟨hy, k0, n0, n1, p0, p1, ⟨t, s, k2, k3, et, s0, s1⟩, ⟨r, kr, r0, r1⟩, k4, k5, l0, l1, l2, l3, er0⟩ := I
  obtain ⟨x, kx⟩ := lw_elem (i := p + 1) gC k0 (by omega) (by omega)
  obtain ⟨y, ky⟩ := lw_elem (i := p + 2) gC k0 (by omega) (by omega)
  obtain ⟨z, kz⟩ := lw_elem (i := p + 3) gC k0 (by omega) (by omega)
  have c46 : hp_C cst m_strs (46) := ⟨gC, lw_strs, fun d _ => hY d⟩
  have c47 : hp_C cst m_strs (47) := ⟨gC, lw_strs, fun d _ => hY d⟩
  have c48 : hp_C cst m_strs (48) := ⟨gC, lw_strs, fun d _ => hY d⟩
  have c49 : hp_C cst m_strs (49) := ⟨gC, lw_strs, fun d _ => hY d⟩
  refine rq_road0 gC hY hy n p x.toInt y.toInt z.toInt n0 n1 p0 (by omega) x.le_toInt x.toInt_le y.le_toInt y.toInt_le z.le_toInt z.toInt_le (by omega) k0 kx ky kz l0 l1 l2 l3 (fun l1' h1 a0 a1 a2 e0 e1 e2 u1 f1 g0 g1 g2 g3 => ?_)
  have ra : ly_hv cst h1 15872 = ly_hv cst h 15872 := hp_same th_R1 rfl hy u1 f1
  obtain ⟨q1, hrun, aC, s1', s2', s3', shy, sfr, sP⟩ := cr_run (xx := a2) (yy := a1) (zz := a0) c48 c49 (by decide) u1
  refine lw_call (pc := 422) (tg := 26) (na := 4) (c := 0) (ci := 0) (st0 := [.int a0, .int a1, .int a2, .ref 16]) (st := []) (av := [.int a2, .int a1, .int a0]) (by decide +kernel) u1 rfl rfl rfl (Nat.le_of_ble_eq_true rfl) hrun s2' s3' ?_
  rw [s1']
  have fa : ∀ rg i v, ly_has rg [15872, 16128] = false → ly_hv cst h rg i = some v → ly_hv cst q1.2.1 rg i = some v := fun rg i v ha e => sfr _ _ _ ha (f1 _ _ _ rfl e)
  refine rq_road1 gC hY shy n p x.toInt y.toInt z.toInt aC.toInt aC rfl n0 n1 p0 (by omega) x.le_toInt x.toInt_le y.le_toInt y.toInt_le z.le_toInt z.toInt_le aC.le_toInt aC.toInt_le (by omega) (fa _ _ _ rfl k0) (fa _ _ _ rfl kx) (fa _ _ _ rfl ky) (fa _ _ _ rfl kz) g0 g1 g2 g3 (fun l2' h2 b0 b1 b2 b9 d0 d1 d2 d9 u2 f2 o0 o1 o2 o3 => ?_)
  have fb : ∀ rg i v, ly_has rg [15872, 16128] = false → ly_hv cst h rg i = some v → ly_hv cst h2 rg i = some v := fun rg i v ha e => f2 _ _ _ rfl (fa _ _ _ ha e)
  have e20 : ly_hv cst h2 20480 = ly_hv cst h 20480 := hp_same (mods := [15872, 16128]) th_R2 rfl hy u2 fb
  obtain ⟨q2, hrun2, aR, w1', w2', w3', why, wfr, wP⟩ := mr_run (xx := b2) (yy := b1) (zz := b0) c49 (by decide) u2
  refine lw_call (pc := 441) (tg := 271) (na := 4) (c := 78) (ci := 12) (st0 := [.int b0, .int b1, .int b2, .ref 94]) (st := [.int b9]) (av := [.int b2, .int b1, .int b0]) (by decide +kernel) u2 rfl rfl rfl (Nat.le_of_ble_eq_true rfl) hrun2 w2' w3' ?_
  rw [w1']
  rw [e0, e1, e2] at sP
  rw [d0, d1, d2] at wP
  have both : aR.toInt = aC.toInt := by
    by_cases ok : rd_ok x.toInt y.toInt z.toInt
    · have m1 := (sP.2 ok).1
      have m2 := (wP.2 ok).1
      rw [ra, er0] at m1
      rw [e20] at m2
      exact Option.some.inj (m2.symm.trans m1)
    · rw [(sP.1 ok).1, (wP.1 ok).1]
  refine rq_road2 gC hY why n p aC.toInt aR b9 both d9 n0 n1 p0 (by omega) aC.le_toInt aC.toInt_le (by omega) o0 o1 o2 o3 (fun l3' h3 u3 f3 i0 i1 i2 i3 => ?_)
  have fc : ly_fr cst [20480] q1.2.1 h3 := fun rg i v hb e => f3 _ _ _ rfl (wfr _ _ _ hb (f2 _ _ _ rfl e))
  have tt : ∀ rg i v, ly_has rg [15872, 16128] = false → ly_has rg [20480] = false → ly_hv cst h rg i = some v → ly_hv cst h3 rg i = some v := fun rg i v ha hb e => fc _ _ _ hb (fa _ _ _ ha e)
  exact k h3 l3' 0 0 (by omega) (by omega) ⟨u3, tt _ _ _ rfl rfl k0, n0, n1, by omega, by omega, ⟨t, s, tt _ _ _ rfl rfl k2, tt _ _ _ rfl rfl k3, et, s0, s1⟩, ⟨r, tt _ _ _ rfl rfl kr, r0, by omega⟩, tt _ _ _ rfl rfl k4, tt _ _ _ rfl rfl k5, i0, i1, i2, i3, (by
    rw [hp_same th_R1 rfl shy u3 fc, hp_same th_R2 rfl why u3 f3]
    by_cases ok : rd_ok x.toInt y.toInt z.toInt
    · rw [(sP.2 ok).2, (wP.2 ok).2, ra, e20, er0]
    · rw [(sP.1 ok).2, (wP.1 ok).2, ra, e20, er0])⟩
