/-! PRINTED by wip/p2/gen_hand.py: roads of the switch by hand -/
noncomputable def lw_isV (pc tg na ci : Nat) : Bool := match sx_find pc sxmL.2.2.2.2 with
  | some (.invokevirtual _, X) => Nat.beq X.1 tg && (Nat.beq X.2.1 na && (sx_eq X.2.2 0 && (match sx_ch 16 tg sx_T with
    | some m' => Nat.beq m'.1 tg && (Nat.beq m'.2.1 ci && Nat.blt ci 98)
    | none => false)))
  | _ => false
theorem lw_call {cst : am_K} {Φ : am_Q → Prop} {pc tg na c ci : Nat} {fs : List (List ly_F)} {av st0 st : List Value} {h : am_H} {l : am_L} {r : am_Q} (hI : lw_isV pc tg na ci = true) (hy : ly_hy m_tt ly_TH h) (ht : ly_ths ly_TH c = some (.inr (ci, fs))) (hst : st0.length = na) (hav : st0.reverse = .ref (16 + c) :: av) (hcat : (st.map fun v => v.category).sum ≤ 8)
    (hrun : am_Run cst m_cl m_tt m_P m_strs sx_bi 50 tg (.ref (16 + c) :: av) h r) (hc0 : r.2.2.1 = 0) (hs0 : r.2.2.2 = 0) (k : lw_F cst Φ (pc + 3) l (r.1.toList ++ st) r.2.1 0 0) : lw_F cst Φ pc l (st0 ++ st) h 0 0 := by
  unfold lw_isV at hI
  split at hI
  case h_2 => cases hI
  rename_i ix X hX
  simp only [Bool.and_eq_true, sx_beqn, sx_eq_iff] at hI
  obtain ⟨x1, x2, x3, hI⟩ := hI
  split at hI
  case h_2 => cases hI
  rename_i m' hm'
  simp only [Bool.and_eq_true, sx_beqn, sx_blt] at hI
  obtain ⟨t0, t1, t2⟩ := hI
  obtain ⟨T', hT', -, -, h98, -⟩ := sx_tok_m tg m' hm' t0
  have hfind := lw_mok.2.2 _ _ hX
  have etake : (st0 ++ st).take X.2.1 = st0 := by rw [x2, ← hst]; exact List.take_left' rfl
  have edrop : (st0 ++ st).drop X.2.1 = st := by rw [x2, ← hst]; exact List.drop_left' rfl
  obtain ⟨xc, hx, vs, rfl, -⟩ := hy.2.1 _ _ ht
  obtain ⟨rr, hrr, hrr1⟩ := h98 (by omega)
  have hcc : am_c m_cl m_P m_strs (.invokevirtual ix) X (st0 ++ st) h := by
    refine ⟨by rw [List.length_append]; omega, by rw [edrop]; exact hcat, x3, .ref (16 + c), av, T', by rw [etake]; exact hav, by rw [x1]; exact hT', 16 + c, rfl, Or.inl ⟨Nat.not_lt.mpr (Nat.le_add_right 16 c), ci, vs, rr, ?_, ?_, hrr1⟩⟩
    · rw [show 16 + c - 16 = c by omega]; exact hx
    · rw [← t1]; exact hrr
  refine sx_Fin_pre (dc := r.2.2.1) (ds := r.2.2.2) (f1 := (mtL, pc + 3, l, r.1.toList ++ st)) (h1 := r.2.1) (fun n2 q hgo2 => ⟨n2 + 1, _, X, hfind, Or.inr (Or.inr (Or.inr (Or.inl ⟨r, q, hcc, ?_, ?_, rfl⟩)))⟩) ?_
  · rw [etake, hav, x1]; exact hrun
  · rw [edrop]; exact hgo2
  · rw [hc0, hs0]; exact k
theorem lw_elem {cst : am_K} {h : am_H} {n i : Int} (gC : ly_gC sx_KK cst) (hn : ly_hv cst h 60000 0 = some n) (i0 : 0 ≤ i) (i1 : i < n) : ∃ x : Int32, ly_hv cst h 60001 i = some x.toInt := by
  obtain ⟨L, eL, -⟩ := gC.2.1
  rw [ly_hv0 (by decide)] at hn ⊢
  unfold ly_h0 at hn ⊢
  rw [if_neg (by decide), if_neg (by decide), if_neg (by decide)] at hn ⊢
  unfold ly_hk at hn ⊢
  rw [eL] at hn ⊢
  simp only [if_pos] at hn
  cases hn
  simp only
  rw [if_neg (by decide), if_pos ⟨trivial, i0⟩]
  cases hx : L[i.toNat]? with
  | some x => exact ⟨x, rfl⟩
  | none =>
    have := List.getElem?_eq_none_iff.mp hx
    omega
theorem rq_feed0_k : lw_chk ly_Y 320 7 [(0, 0, 3584), (1, 0, 3584), (2, (-2147483648), 2147483647), (3, (-2147483648), 2147483647), (4, (-2147483648), 2147483647), (5, (-2147483648), 2147483647), (6, (-2147483648), 2147483647)] [((-7), [(0, 1), (1, (-1))])] [(0, .inr (.inr (.inl (some 4)))), (1, .inr (.inr (.inl (some 16)))), (2, .inr (.inr (.inl (some 94)))), (3, .inl (0, [(1, 1)]))] [] [(60000, (0, []), (0, [(0, 1)])), (60001, (1, [(1, 1)]), (0, [(2, 1)])), (60001, (2, [(1, 1)]), (0, [(3, 1)])), (60001, (3, [(1, 1)]), (0, [(4, 1)])), (60001, (4, [(1, 1)]), (0, [(5, 1)])), (60001, (5, [(1, 1)]), (0, [(6, 1)]))] [] [(346, ([], 7, [(0, 0, 3584), (1, 0, 3584), (2, (-2147483648), 2147483647), (3, (-2147483648), 2147483647), (4, (-2147483648), 2147483647), (5, (-2147483648), 2147483647), (6, (-2147483648), 2147483647)], [], [(0, .inr (.inr (.inl (some 4)))), (1, .inr (.inr (.inl (some 16)))), (2, .inr (.inr (.inl (some 94)))), (3, .inl (0, [(1, 1)]))], [.inl (0, [(6, 1)]), .inl (0, [(5, 1)]), .inl (0, [(4, 1)]), .inl (0, [(3, 1)]), .inl (0, [(2, 1)]), .inr (.inr (.inl (some 16)))], []))] [] 0 0 = true := by decide +kernel
theorem rq_feed0 {cst : am_K} {Φ : am_Q → Prop} {h : am_H} {l : am_L} (gC : ly_gC sx_KK cst) (hY : ∀ d, ly_Yok cst m_cl m_tt m_P m_strs ly_TH ly_Y d) (hy : ly_hy m_tt ly_TH h) (n p x y z x4 x5 : Int) (b0 : 0 ≤ n) (t0 : n ≤ 3584) (b1 : 0 ≤ p) (t1 : p ≤ 3584) (b2 : (-2147483648) ≤ x) (t2 : x ≤ 2147483647) (b3 : (-2147483648) ≤ y) (t3 : y ≤ 2147483647) (b4 : (-2147483648) ≤ z) (t4 : z ≤ 2147483647) (b5 : (-2147483648) ≤ x4) (t5 : x4 ≤ 2147483647) (b6 : (-2147483648) ≤ x5) (t6 : x5 ≤ 2147483647) (f0 : 0 ≤ (n - p - 7)) (k0 : ly_hv cst h 60000 0 = some (n)) (k1 : ly_hv cst h 60001 (p + 1) = some (x)) (k2 : ly_hv cst h 60001 (p + 2) = some (y)) (k3 : ly_hv cst h 60001 (p + 3) = some (z)) (k4 : ly_hv cst h 60001 (p + 4) = some (x4)) (k5 : ly_hv cst h 60001 (p + 5) = some (x5)) (l0 : hp_a l 0 4) (l1 : hp_a l 1 16) (l2 : hp_a l 2 94) (l3 : hp_i l 3 (p)) (e0 : ∀ (l' : am_L) (h' : am_H) (y0 : Int32) (y1 : Int32) (y2 : Int32) (y3 : Int32) (y4 : Int32), y0.toInt = (x5) → y1.toInt = (x4) → y2.toInt = (z) → y3.toInt = (y) → y4.toInt = (x) → ly_hy m_tt ly_TH h' → ly_fr cst [] h h' → hp_a l' 0 4 → hp_a l' 1 16 → hp_a l' 2 94 → hp_i l' 3 (p) → lw_F cst Φ 346 l' [.int y0, .int y1, .int y2, .int y3, .int y4, .ref 16] h' 0 0) : lw_F cst Φ 320 l [] h 0 0 := by
  refine lw_arc gC hY rq_feed0_k [n, p, x, y, z, x4, x5] rfl hy (hp_Bc (z := n) rfl b0 t0 (hp_Bc (z := p) rfl b1 t1 (hp_Bc (z := x) rfl b2 t2 (hp_Bc (z := y) rfl b3 t3 (hp_Bc (z := z) rfl b4 t4 (hp_Bc (z := x4) rfl b5 t5 (hp_Bc (z := x5) rfl b6 t6 hp_Bn))))))) (hp_Fc (z := ((-7) + (1 * n + ((-1) * p + 0)))) rfl (by omega) hp_Fn) (hp_Kc (zi := (0 + 0)) (zv := (0 + (1 * n + 0))) k0 rfl rfl (by omega) (by omega) (hp_Kc (zi := (1 + (1 * p + 0))) (zv := (0 + (1 * x + 0))) k1 rfl rfl (by omega) (by omega) (hp_Kc (zi := (2 + (1 * p + 0))) (zv := (0 + (1 * y + 0))) k2 rfl rfl (by omega) (by omega) (hp_Kc (zi := (3 + (1 * p + 0))) (zv := (0 + (1 * z + 0))) k3 rfl rfl (by omega) (by omega) (hp_Kc (zi := (4 + (1 * p + 0))) (zv := (0 + (1 * x4 + 0))) k4 rfl rfl (by omega) (by omega) (hp_Kc (zi := (5 + (1 * p + 0))) (zv := (0 + (1 * x5 + 0))) k5 rfl rfl (by omega) (by omega) hp_Kn)))))) (hp_La l0 (hp_La l1 (hp_La l2 (hp_Li (z := (0 + (1 * p + 0))) l3 rfl (by omega) hp_Ln)))) trivial ?_ ?_
  · intro q hp ys l' st' h' ca sa ha hs hys a1 hfr gZ gL gS
    have ea : ca = 0 := Nat.le_zero.mp ha
    have eb : sa = 0 := Nat.le_zero.mp hs
    subst ea
    subst eb
    rcases List.mem_cons.mp hp with rfl | hp
    · obtain rfl := hp_y0 hys
      obtain ⟨y0, t0, rfl, q0, g0⟩ := hp_gSi (z := (0 + (1 * x5 + 0))) gS rfl
      obtain ⟨y1, t1, rfl, q1, g1⟩ := hp_gSi (z := (0 + (1 * x4 + 0))) g0 rfl
      obtain ⟨y2, t2, rfl, q2, g2⟩ := hp_gSi (z := (0 + (1 * z + 0))) g1 rfl
      obtain ⟨y3, t3, rfl, q3, g3⟩ := hp_gSi (z := (0 + (1 * y + 0))) g2 rfl
      obtain ⟨y4, t4, rfl, q4, g4⟩ := hp_gSi (z := (0 + (1 * x + 0))) g3 rfl
      obtain ⟨t5, rfl, g5⟩ := hp_gSa g4 (by decide)
      cases hp_gSn g5
      exact e0 l' h' y0 y1 y2 y3 y4 (by omega) (by omega) (by omega) (by omega) (by omega) a1 hfr (hp_gLa gL (List.mem_of_getElem? (i := 0) rfl) (by decide)) (hp_gLa gL (List.mem_of_getElem? (i := 1) rfl) (by decide)) (hp_gLa gL (List.mem_of_getElem? (i := 2) rfl) (by decide)) (hp_gLi (z := (0 + (1 * p + 0))) gL (List.mem_of_getElem? (i := 3) rfl) rfl (by omega))
    cases hp
  · intro q hq ys v h' hys gS
    cases hq
theorem rq_feed1_k : lw_chk ly_Y 349 8 [(0, 0, 3584), (1, 0, 3584), (2, (-2147483648), 2147483647), (3, (-2147483648), 2147483647), (4, (-2147483648), 2147483647), (5, (-2147483648), 2147483647), (6, (-2147483648), 2147483647), (7, (-2147483648), 2147483647)] [((-7), [(0, 1), (1, (-1))])] [(0, .inr (.inr (.inl (some 4)))), (1, .inr (.inr (.inl (some 16)))), (2, .inr (.inr (.inl (some 94)))), (3, .inl (0, [(1, 1)]))] [.inl (0, [(7, 1)])] [(60000, (0, []), (0, [(0, 1)])), (60001, (1, [(1, 1)]), (0, [(2, 1)])), (60001, (2, [(1, 1)]), (0, [(3, 1)])), (60001, (3, [(1, 1)]), (0, [(4, 1)])), (60001, (4, [(1, 1)]), (0, [(5, 1)])), (60001, (5, [(1, 1)]), (0, [(6, 1)]))] [] [(376, ([], 8, [(0, 0, 3584), (1, 0, 3584), (2, (-2147483648), 2147483647), (3, (-2147483648), 2147483647), (4, (-2147483648), 2147483647), (5, (-2147483648), 2147483647), (6, (-2147483648), 2147483647), (7, (-2147483648), 2147483647)], [], [(0, .inr (.inr (.inl (some 4)))), (1, .inr (.inr (.inl (some 16)))), (2, .inr (.inr (.inl (some 94)))), (3, .inl (0, [(1, 1)]))], [.inl (0, [(6, 1)]), .inl (0, [(5, 1)]), .inl (0, [(4, 1)]), .inl (0, [(3, 1)]), .inl (0, [(2, 1)]), .inr (.inr (.inl (some 94)))], []))] [] 0 0 = true := by decide +kernel
theorem rq_feed1 {cst : am_K} {Φ : am_Q → Prop} {h : am_H} {l : am_L} (gC : ly_gC sx_KK cst) (hY : ∀ d, ly_Yok cst m_cl m_tt m_P m_strs ly_TH ly_Y d) (hy : ly_hy m_tt ly_TH h) (n p x y z x4 x5 a : Int) (x0 : Int32) (hx0 : x0.toInt = (a)) (b0 : 0 ≤ n) (t0 : n ≤ 3584) (b1 : 0 ≤ p) (t1 : p ≤ 3584) (b2 : (-2147483648) ≤ x) (t2 : x ≤ 2147483647) (b3 : (-2147483648) ≤ y) (t3 : y ≤ 2147483647) (b4 : (-2147483648) ≤ z) (t4 : z ≤ 2147483647) (b5 : (-2147483648) ≤ x4) (t5 : x4 ≤ 2147483647) (b6 : (-2147483648) ≤ x5) (t6 : x5 ≤ 2147483647) (b7 : (-2147483648) ≤ a) (t7 : a ≤ 2147483647) (f0 : 0 ≤ (n - p - 7)) (k0 : ly_hv cst h 60000 0 = some (n)) (k1 : ly_hv cst h 60001 (p + 1) = some (x)) (k2 : ly_hv cst h 60001 (p + 2) = some (y)) (k3 : ly_hv cst h 60001 (p + 3) = some (z)) (k4 : ly_hv cst h 60001 (p + 4) = some (x4)) (k5 : ly_hv cst h 60001 (p + 5) = some (x5)) (l0 : hp_a l 0 4) (l1 : hp_a l 1 16) (l2 : hp_a l 2 94) (l3 : hp_i l 3 (p)) (e0 : ∀ (l' : am_L) (h' : am_H) (y0 : Int32) (y1 : Int32) (y2 : Int32) (y3 : Int32) (y4 : Int32), y0.toInt = (x5) → y1.toInt = (x4) → y2.toInt = (z) → y3.toInt = (y) → y4.toInt = (x) → ly_hy m_tt ly_TH h' → ly_fr cst [] h h' → hp_a l' 0 4 → hp_a l' 1 16 → hp_a l' 2 94 → hp_i l' 3 (p) → lw_F cst Φ 376 l' [.int y0, .int y1, .int y2, .int y3, .int y4, .ref 94] h' 0 0) : lw_F cst Φ 349 l [.int x0] h 0 0 := by
  refine lw_arc gC hY rq_feed1_k [n, p, x, y, z, x4, x5, a] rfl hy (hp_Bc (z := n) rfl b0 t0 (hp_Bc (z := p) rfl b1 t1 (hp_Bc (z := x) rfl b2 t2 (hp_Bc (z := y) rfl b3 t3 (hp_Bc (z := z) rfl b4 t4 (hp_Bc (z := x4) rfl b5 t5 (hp_Bc (z := x5) rfl b6 t6 (hp_Bc (z := a) rfl b7 t7 hp_Bn)))))))) (hp_Fc (z := ((-7) + (1 * n + ((-1) * p + 0)))) rfl (by omega) hp_Fn) (hp_Kc (zi := (0 + 0)) (zv := (0 + (1 * n + 0))) k0 rfl rfl (by omega) (by omega) (hp_Kc (zi := (1 + (1 * p + 0))) (zv := (0 + (1 * x + 0))) k1 rfl rfl (by omega) (by omega) (hp_Kc (zi := (2 + (1 * p + 0))) (zv := (0 + (1 * y + 0))) k2 rfl rfl (by omega) (by omega) (hp_Kc (zi := (3 + (1 * p + 0))) (zv := (0 + (1 * z + 0))) k3 rfl rfl (by omega) (by omega) (hp_Kc (zi := (4 + (1 * p + 0))) (zv := (0 + (1 * x4 + 0))) k4 rfl rfl (by omega) (by omega) (hp_Kc (zi := (5 + (1 * p + 0))) (zv := (0 + (1 * x5 + 0))) k5 rfl rfl (by omega) (by omega) hp_Kn)))))) (hp_La l0 (hp_La l1 (hp_La l2 (hp_Li (z := (0 + (1 * p + 0))) l3 rfl (by omega) hp_Ln)))) (hp_Si (z := (0 + (1 * a + 0))) rfl (by omega) trivial) ?_ ?_
  · intro q hp ys l' st' h' ca sa ha hs hys a1 hfr gZ gL gS
    have ea : ca = 0 := Nat.le_zero.mp ha
    have eb : sa = 0 := Nat.le_zero.mp hs
    subst ea
    subst eb
    rcases List.mem_cons.mp hp with rfl | hp
    · obtain rfl := hp_y0 hys
      obtain ⟨y0, t0, rfl, q0, g0⟩ := hp_gSi (z := (0 + (1 * x5 + 0))) gS rfl
      obtain ⟨y1, t1, rfl, q1, g1⟩ := hp_gSi (z := (0 + (1 * x4 + 0))) g0 rfl
      obtain ⟨y2, t2, rfl, q2, g2⟩ := hp_gSi (z := (0 + (1 * z + 0))) g1 rfl
      obtain ⟨y3, t3, rfl, q3, g3⟩ := hp_gSi (z := (0 + (1 * y + 0))) g2 rfl
      obtain ⟨y4, t4, rfl, q4, g4⟩ := hp_gSi (z := (0 + (1 * x + 0))) g3 rfl
      obtain ⟨t5, rfl, g5⟩ := hp_gSa g4 (by decide)
      cases hp_gSn g5
      exact e0 l' h' y0 y1 y2 y3 y4 (by omega) (by omega) (by omega) (by omega) (by omega) a1 hfr (hp_gLa gL (List.mem_of_getElem? (i := 0) rfl) (by decide)) (hp_gLa gL (List.mem_of_getElem? (i := 1) rfl) (by decide)) (hp_gLa gL (List.mem_of_getElem? (i := 2) rfl) (by decide)) (hp_gLi (z := (0 + (1 * p + 0))) gL (List.mem_of_getElem? (i := 3) rfl) rfl (by omega))
    cases hp
  · intro q hq ys v h' hys gS
    cases hq
theorem rq_feed2_k : lw_chk ly_Y 379 3 [(0, 0, 3584), (1, 0, 3584), (2, (-2147483648), 2147483647)] [((-7), [(0, 1), (1, (-1))])] [(0, .inr (.inr (.inl (some 4)))), (1, .inr (.inr (.inl (some 16)))), (2, .inr (.inr (.inl (some 94)))), (3, .inl (0, [(1, 1)]))] [.inl (0, [(2, 1)])] [] [] [(18, ([], 3, [(0, 0, 3584), (1, 0, 3584), (2, (-2147483648), 2147483647)], [], [(0, .inr (.inr (.inl (some 4)))), (1, .inr (.inr (.inl (some 16)))), (2, .inr (.inr (.inl (some 94)))), (3, .inl (7, [(1, 1)]))], [], []))] [] 0 0 = true := by decide +kernel
theorem rq_feed2 {cst : am_K} {Φ : am_Q → Prop} {h : am_H} {l : am_L} (gC : ly_gC sx_KK cst) (hY : ∀ d, ly_Yok cst m_cl m_tt m_P m_strs ly_TH ly_Y d) (hy : ly_hy m_tt ly_TH h) (n p a : Int) (x0 : Int32) (hx0 : x0.toInt = (a)) (b0 : 0 ≤ n) (t0 : n ≤ 3584) (b1 : 0 ≤ p) (t1 : p ≤ 3584) (b2 : (-2147483648) ≤ a) (t2 : a ≤ 2147483647) (f0 : 0 ≤ (n - p - 7)) (l0 : hp_a l 0 4) (l1 : hp_a l 1 16) (l2 : hp_a l 2 94) (l3 : hp_i l 3 (p)) (e0 : ∀ (l' : am_L) (h' : am_H), ly_hy m_tt ly_TH h' → ly_fr cst [] h h' → hp_a l' 0 4 → hp_a l' 1 16 → hp_a l' 2 94 → hp_i l' 3 (p + 7) → lw_F cst Φ 18 l' [] h' 0 0) : lw_F cst Φ 379 l [.int x0] h 0 0 := by
  refine lw_arc gC hY rq_feed2_k [n, p, a] rfl hy (hp_Bc (z := n) rfl b0 t0 (hp_Bc (z := p) rfl b1 t1 (hp_Bc (z := a) rfl b2 t2 hp_Bn))) (hp_Fc (z := ((-7) + (1 * n + ((-1) * p + 0)))) rfl (by omega) hp_Fn) hp_Kn (hp_La l0 (hp_La l1 (hp_La l2 (hp_Li (z := (0 + (1 * p + 0))) l3 rfl (by omega) hp_Ln)))) (hp_Si (z := (0 + (1 * a + 0))) rfl (by omega) trivial) ?_ ?_
  · intro q hp ys l' st' h' ca sa ha hs hys a1 hfr gZ gL gS
    have ea : ca = 0 := Nat.le_zero.mp ha
    have eb : sa = 0 := Nat.le_zero.mp hs
    subst ea
    subst eb
    rcases List.mem_cons.mp hp with rfl | hp
    · obtain rfl := hp_y0 hys
      cases hp_gSn gS
      exact e0 l' h' a1 hfr (hp_gLa gL (List.mem_of_getElem? (i := 0) rfl) (by decide)) (hp_gLa gL (List.mem_of_getElem? (i := 1) rfl) (by decide)) (hp_gLa gL (List.mem_of_getElem? (i := 2) rfl) (by decide)) (hp_gLi (z := (7 + (1 * p + 0))) gL (List.mem_of_getElem? (i := 3) rfl) rfl (by omega))
    cases hp
  · intro q hq ys v h' hys gS
    cases hq
theorem lc_feed {cst : am_K} {Φ : am_Q → Prop} (gC : ly_gC sx_KK cst) (hY : ∀ d, ly_Yok cst m_cl m_tt m_P m_strs ly_TH ly_Y d) {n p : Int} {h : am_H} {l : am_L} (I : lw_I cst n p h l) (hp7 : p + 7 ≤ n)
    (k : ∀ (h' : am_H) (l' : am_L) (ca sa : Nat), ca ≤ 19 → sa ≤ 261 → lw_I cst n (p + 7) h' l' → lw_F cst Φ 18 l' [] h' ca sa) : lw_F cst Φ 320 l [] h 0 0 := by
  obtain ⟨hy, k0, n0, n1, p0, p1, ⟨t, s, k2, k3, et, s0, s1⟩, ⟨r, kr, r0, r1⟩, k4, k5, l0, l1, l2, l3, ⟨v0, vk0, vm0, vb0, vt0⟩, er0, er1⟩ := I
  obtain ⟨x, kx⟩ := lw_elem (i := p + 1) gC k0 (by omega) (by omega)
  obtain ⟨y, ky⟩ := lw_elem (i := p + 2) gC k0 (by omega) (by omega)
  obtain ⟨z, kz⟩ := lw_elem (i := p + 3) gC k0 (by omega) (by omega)
  obtain ⟨x4, kx4⟩ := lw_elem (i := p + 4) gC k0 (by omega) (by omega)
  obtain ⟨x5, kx5⟩ := lw_elem (i := p + 5) gC k0 (by omega) (by omega)
  have c46 : hp_C cst m_strs (46) := ⟨gC, lw_strs, fun d _ => hY d⟩
  have c47 : hp_C cst m_strs (47) := ⟨gC, lw_strs, fun d _ => hY d⟩
  have c48 : hp_C cst m_strs (48) := ⟨gC, lw_strs, fun d _ => hY d⟩
  have c49 : hp_C cst m_strs (49) := ⟨gC, lw_strs, fun d _ => hY d⟩
  refine rq_feed0 gC hY hy n p x.toInt y.toInt z.toInt x4.toInt x5.toInt n0 n1 p0 (by omega) x.le_toInt x.toInt_le y.le_toInt y.toInt_le z.le_toInt z.toInt_le x4.le_toInt x4.toInt_le x5.le_toInt x5.toInt_le (by omega) k0 kx ky kz kx4 kx5 l0 l1 l2 l3 (fun l1' h1 a0 a1 a2 a3 a4 e0 e1 e2 e3 e4 u1 f1 g0 g1 g2 g3 => ?_)
  have T0 : tp_H cst h1 h1 := tp_mv er0 hy u1 hy u1 f1 f1 rfl rfl
  obtain ⟨q1, hrun, ⟨aC, s1'⟩, s2', s3', shy, sfr, sP⟩ := ku_run (xa := a4) (xb := a3) (xc := a2) (xd := a1) (xe := a0) c48 c49 (by decide) u1 vb0 vt0 (f1 _ _ _ rfl vk0)
  refine lw_call (pc := 346) (tg := 21) (na := 6) (c := 0) (ci := 0) (st0 := [.int a0, .int a1, .int a2, .int a3, .int a4, .ref 16]) (st := []) (av := [.int a4, .int a3, .int a2, .int a1, .int a0]) (by decide +kernel) u1 rfl rfl rfl (Nat.le_of_ble_eq_true rfl) hrun s2' s3' ?_
  rw [s1']
  have fa : ∀ rg i v, ly_has rg [257, 512] = false → ly_hv cst h rg i = some v → ly_hv cst q1.2.1 rg i = some v := fun rg i v ha e => sfr _ _ _ ha (f1 _ _ _ rfl e)
  refine rq_feed1 gC hY shy n p x.toInt y.toInt z.toInt x4.toInt x5.toInt aC.toInt aC rfl n0 n1 p0 (by omega) x.le_toInt x.toInt_le y.le_toInt y.toInt_le z.le_toInt z.toInt_le x4.le_toInt x4.toInt_le x5.le_toInt x5.toInt_le aC.le_toInt aC.toInt_le (by omega) (fa _ _ _ rfl k0) (fa _ _ _ rfl kx) (fa _ _ _ rfl ky) (fa _ _ _ rfl kz) (fa _ _ _ rfl kx4) (fa _ _ _ rfl kx5) g0 g1 g2 g3 (fun l2' h2 b0 b1 b2 b3 b4 d0 d1 d2 d3 d4 u2 f2 o0 o1 o2 o3 => ?_)
  have fb : ∀ rg i v, ly_has rg [257, 512] = false → ly_hv cst h rg i = some v → ly_hv cst h2 rg i = some v := fun rg i v ha e => f2 _ _ _ rfl (fa _ _ _ ha e)
  have T1 : tp_H cst h1 h2 := tp_mv (mc := []) (mm := [257, 512]) T0 u1 u1 u1 u2 (ly_fr_rf h1) (fun rg i v ha e => f2 _ _ _ rfl (sfr rg i v ha e)) rfl rfl
  obtain ⟨q2, hrun2, ⟨aR, w1'⟩, w2', w3', why, wfr, wP⟩ := kx_run (xa := b4) (xb := b3) (xc := b2) (xd := b1) (xe := b0) c49 (by decide) u2 vb0 vt0 (fb _ _ _ rfl vm0)
  refine lw_call (pc := 376) (tg := 269) (na := 6) (c := 78) (ci := 12) (st0 := [.int b0, .int b1, .int b2, .int b3, .int b4, .ref 94]) (st := []) (av := [.int b4, .int b3, .int b2, .int b1, .int b0]) (by decide +kernel) u2 rfl rfl rfl (Nat.le_of_ble_eq_true rfl) hrun2 w2' w3' ?_
  rw [w1']
  have ea0 : a0 = x5 := Int32.toInt_inj.mp e0
  have eb0 : b0 = x5 := Int32.toInt_inj.mp d0
  have ea1 : a1 = x4 := Int32.toInt_inj.mp e1
  have eb1 : b1 = x4 := Int32.toInt_inj.mp d1
  have ea2 : a2 = z := Int32.toInt_inj.mp e2
  have eb2 : b2 = z := Int32.toInt_inj.mp d2
  have ea3 : a3 = y := Int32.toInt_inj.mp e3
  have eb3 : b3 = y := Int32.toInt_inj.mp d3
  have ea4 : a4 = x := Int32.toInt_inj.mp e4
  have eb4 : b4 = x := Int32.toInt_inj.mp d4
  rw [ea0, ea1, ea2, ea3, ea4] at sP
  rw [eb0, eb1, eb2, eb3, eb4] at wP
  obtain ⟨w, w0, w1, kw1, kw2, T2⟩ := tp_feed T1 vb0 vt0 sP wP
  refine rq_feed2 gC hY why n p aR.toInt aR rfl n0 n1 p0 (by omega) aR.le_toInt aR.toInt_le (by omega) o0 o1 o2 o3 (fun l3' h3 u3 f3 i0 i1 i2 i3 => ?_)
  have fc : ly_fr cst [19969, 20224] q1.2.1 h3 := fun rg i v hb e => f3 _ _ _ rfl (wfr _ _ _ hb (f2 _ _ _ rfl e))
  have tt : ∀ rg i v, ly_has rg [257, 512] = false → ly_has rg [19969, 20224] = false → ly_hv cst h rg i = some v → ly_hv cst h3 rg i = some v := fun rg i v ha hb e => fc _ _ _ hb (fa _ _ _ ha e)
  exact k h3 l3' 0 0 (by omega) (by omega) ⟨u3, tt _ _ _ rfl rfl k0, n0, n1, by omega, by omega, ⟨t, s, tt _ _ _ rfl rfl k2, tt _ _ _ rfl rfl k3, et, s0, s1⟩, ⟨r, tt _ _ _ rfl rfl kr, r0, by omega⟩, tt _ _ _ rfl rfl k4, tt _ _ _ rfl rfl k5, i0, i1, i2, i3, ⟨w, fc _ _ _ rfl kw1, f3 _ _ _ rfl kw2, w0, w1⟩, tp_mv T2 shy u3 why u3 fc f3 rfl rfl, LW_mv (p' := p + 7) (LW_mv (p' := p + 7) (ms := [257, 512]) er1 fa rfl rfl vk0 kw1 w0 (by have := fd_le sP kw1; omega)) fc rfl rfl kw1 (fc _ _ _ rfl kw1) w0 (by omega)⟩
theorem rq_act0_k : lw_chk ly_Y 753 4 [(0, 0, 3584), (1, 0, 3584), (2, (-2147483648), 2147483647), (3, (-2147483648), 2147483647)] [((-7), [(0, 1), (1, (-1))])] [(0, .inr (.inr (.inl (some 4)))), (1, .inr (.inr (.inl (some 16)))), (2, .inr (.inr (.inl (some 94)))), (3, .inl (0, [(1, 1)]))] [] [(60000, (0, []), (0, [(0, 1)])), (60001, (1, [(1, 1)]), (0, [(2, 1)])), (60001, (2, [(1, 1)]), (0, [(3, 1)]))] [] [(764, ([], 4, [(0, 0, 3584), (1, 0, 3584), (2, (-2147483648), 2147483647), (3, (-2147483648), 2147483647)], [], [(0, .inr (.inr (.inl (some 4)))), (1, .inr (.inr (.inl (some 16)))), (2, .inr (.inr (.inl (some 94)))), (3, .inl (0, [(1, 1)]))], [.inl (0, [(3, 1)]), .inl (0, [(2, 1)]), .inr (.inr (.inl (some 16)))], []))] [] 0 0 = true := by decide +kernel
theorem rq_act0 {cst : am_K} {Φ : am_Q → Prop} {h : am_H} {l : am_L} (gC : ly_gC sx_KK cst) (hY : ∀ d, ly_Yok cst m_cl m_tt m_P m_strs ly_TH ly_Y d) (hy : ly_hy m_tt ly_TH h) (n p x y : Int) (b0 : 0 ≤ n) (t0 : n ≤ 3584) (b1 : 0 ≤ p) (t1 : p ≤ 3584) (b2 : (-2147483648) ≤ x) (t2 : x ≤ 2147483647) (b3 : (-2147483648) ≤ y) (t3 : y ≤ 2147483647) (f0 : 0 ≤ (n - p - 7)) (k0 : ly_hv cst h 60000 0 = some (n)) (k1 : ly_hv cst h 60001 (p + 1) = some (x)) (k2 : ly_hv cst h 60001 (p + 2) = some (y)) (l0 : hp_a l 0 4) (l1 : hp_a l 1 16) (l2 : hp_a l 2 94) (l3 : hp_i l 3 (p)) (e0 : ∀ (l' : am_L) (h' : am_H) (y0 : Int32) (y1 : Int32), y0.toInt = (y) → y1.toInt = (x) → ly_hy m_tt ly_TH h' → ly_fr cst [] h h' → hp_a l' 0 4 → hp_a l' 1 16 → hp_a l' 2 94 → hp_i l' 3 (p) → lw_F cst Φ 764 l' [.int y0, .int y1, .ref 16] h' 0 0) : lw_F cst Φ 753 l [] h 0 0 := by
  refine lw_arc gC hY rq_act0_k [n, p, x, y] rfl hy (hp_Bc (z := n) rfl b0 t0 (hp_Bc (z := p) rfl b1 t1 (hp_Bc (z := x) rfl b2 t2 (hp_Bc (z := y) rfl b3 t3 hp_Bn)))) (hp_Fc (z := ((-7) + (1 * n + ((-1) * p + 0)))) rfl (by omega) hp_Fn) (hp_Kc (zi := (0 + 0)) (zv := (0 + (1 * n + 0))) k0 rfl rfl (by omega) (by omega) (hp_Kc (zi := (1 + (1 * p + 0))) (zv := (0 + (1 * x + 0))) k1 rfl rfl (by omega) (by omega) (hp_Kc (zi := (2 + (1 * p + 0))) (zv := (0 + (1 * y + 0))) k2 rfl rfl (by omega) (by omega) hp_Kn))) (hp_La l0 (hp_La l1 (hp_La l2 (hp_Li (z := (0 + (1 * p + 0))) l3 rfl (by omega) hp_Ln)))) trivial ?_ ?_
  · intro q hp ys l' st' h' ca sa ha hs hys a1 hfr gZ gL gS
    have ea : ca = 0 := Nat.le_zero.mp ha
    have eb : sa = 0 := Nat.le_zero.mp hs
    subst ea
    subst eb
    rcases List.mem_cons.mp hp with rfl | hp
    · obtain rfl := hp_y0 hys
      obtain ⟨y0, t0, rfl, q0, g0⟩ := hp_gSi (z := (0 + (1 * y + 0))) gS rfl
      obtain ⟨y1, t1, rfl, q1, g1⟩ := hp_gSi (z := (0 + (1 * x + 0))) g0 rfl
      obtain ⟨t2, rfl, g2⟩ := hp_gSa g1 (by decide)
      cases hp_gSn g2
      exact e0 l' h' y0 y1 (by omega) (by omega) a1 hfr (hp_gLa gL (List.mem_of_getElem? (i := 0) rfl) (by decide)) (hp_gLa gL (List.mem_of_getElem? (i := 1) rfl) (by decide)) (hp_gLa gL (List.mem_of_getElem? (i := 2) rfl) (by decide)) (hp_gLi (z := (0 + (1 * p + 0))) gL (List.mem_of_getElem? (i := 3) rfl) rfl (by omega))
    cases hp
  · intro q hq ys v h' hys gS
    cases hq
theorem rq_act1_k : lw_chk ly_Y 767 5 [(0, 0, 3584), (1, 0, 3584), (2, (-2147483648), 2147483647), (3, (-2147483648), 2147483647), (4, (-2147483648), 2147483647)] [((-7), [(0, 1), (1, (-1))])] [(0, .inr (.inr (.inl (some 4)))), (1, .inr (.inr (.inl (some 16)))), (2, .inr (.inr (.inl (some 94)))), (3, .inl (0, [(1, 1)]))] [.inl (0, [(4, 1)])] [(60000, (0, []), (0, [(0, 1)])), (60001, (1, [(1, 1)]), (0, [(2, 1)])), (60001, (2, [(1, 1)]), (0, [(3, 1)]))] [] [(779, ([], 5, [(0, 0, 3584), (1, 0, 3584), (2, (-2147483648), 2147483647), (3, (-2147483648), 2147483647), (4, (-2147483648), 2147483647)], [], [(0, .inr (.inr (.inl (some 4)))), (1, .inr (.inr (.inl (some 16)))), (2, .inr (.inr (.inl (some 94)))), (3, .inl (0, [(1, 1)]))], [.inl (0, [(3, 1)]), .inl (0, [(2, 1)]), .inr (.inr (.inl (some 94)))], []))] [] 0 0 = true := by decide +kernel
theorem rq_act1 {cst : am_K} {Φ : am_Q → Prop} {h : am_H} {l : am_L} (gC : ly_gC sx_KK cst) (hY : ∀ d, ly_Yok cst m_cl m_tt m_P m_strs ly_TH ly_Y d) (hy : ly_hy m_tt ly_TH h) (n p x y a : Int) (x0 : Int32) (hx0 : x0.toInt = (a)) (b0 : 0 ≤ n) (t0 : n ≤ 3584) (b1 : 0 ≤ p) (t1 : p ≤ 3584) (b2 : (-2147483648) ≤ x) (t2 : x ≤ 2147483647) (b3 : (-2147483648) ≤ y) (t3 : y ≤ 2147483647) (b4 : (-2147483648) ≤ a) (t4 : a ≤ 2147483647) (f0 : 0 ≤ (n - p - 7)) (k0 : ly_hv cst h 60000 0 = some (n)) (k1 : ly_hv cst h 60001 (p + 1) = some (x)) (k2 : ly_hv cst h 60001 (p + 2) = some (y)) (l0 : hp_a l 0 4) (l1 : hp_a l 1 16) (l2 : hp_a l 2 94) (l3 : hp_i l 3 (p)) (e0 : ∀ (l' : am_L) (h' : am_H) (y0 : Int32) (y1 : Int32), y0.toInt = (y) → y1.toInt = (x) → ly_hy m_tt ly_TH h' → ly_fr cst [] h h' → hp_a l' 0 4 → hp_a l' 1 16 → hp_a l' 2 94 → hp_i l' 3 (p) → lw_F cst Φ 779 l' [.int y0, .int y1, .ref 94] h' 0 0) : lw_F cst Φ 767 l [.int x0] h 0 0 := by
  refine lw_arc gC hY rq_act1_k [n, p, x, y, a] rfl hy (hp_Bc (z := n) rfl b0 t0 (hp_Bc (z := p) rfl b1 t1 (hp_Bc (z := x) rfl b2 t2 (hp_Bc (z := y) rfl b3 t3 (hp_Bc (z := a) rfl b4 t4 hp_Bn))))) (hp_Fc (z := ((-7) + (1 * n + ((-1) * p + 0)))) rfl (by omega) hp_Fn) (hp_Kc (zi := (0 + 0)) (zv := (0 + (1 * n + 0))) k0 rfl rfl (by omega) (by omega) (hp_Kc (zi := (1 + (1 * p + 0))) (zv := (0 + (1 * x + 0))) k1 rfl rfl (by omega) (by omega) (hp_Kc (zi := (2 + (1 * p + 0))) (zv := (0 + (1 * y + 0))) k2 rfl rfl (by omega) (by omega) hp_Kn))) (hp_La l0 (hp_La l1 (hp_La l2 (hp_Li (z := (0 + (1 * p + 0))) l3 rfl (by omega) hp_Ln)))) (hp_Si (z := (0 + (1 * a + 0))) rfl (by omega) trivial) ?_ ?_
  · intro q hp ys l' st' h' ca sa ha hs hys a1 hfr gZ gL gS
    have ea : ca = 0 := Nat.le_zero.mp ha
    have eb : sa = 0 := Nat.le_zero.mp hs
    subst ea
    subst eb
    rcases List.mem_cons.mp hp with rfl | hp
    · obtain rfl := hp_y0 hys
      obtain ⟨y0, t0, rfl, q0, g0⟩ := hp_gSi (z := (0 + (1 * y + 0))) gS rfl
      obtain ⟨y1, t1, rfl, q1, g1⟩ := hp_gSi (z := (0 + (1 * x + 0))) g0 rfl
      obtain ⟨t2, rfl, g2⟩ := hp_gSa g1 (by decide)
      cases hp_gSn g2
      exact e0 l' h' y0 y1 (by omega) (by omega) a1 hfr (hp_gLa gL (List.mem_of_getElem? (i := 0) rfl) (by decide)) (hp_gLa gL (List.mem_of_getElem? (i := 1) rfl) (by decide)) (hp_gLa gL (List.mem_of_getElem? (i := 2) rfl) (by decide)) (hp_gLi (z := (0 + (1 * p + 0))) gL (List.mem_of_getElem? (i := 3) rfl) rfl (by omega))
    cases hp
  · intro q hq ys v h' hys gS
    cases hq
theorem rq_act2_k : lw_chk ly_Y 782 3 [(0, 0, 3584), (1, 0, 3584), (2, (-2147483648), 2147483647)] [((-7), [(0, 1), (1, (-1))])] [(0, .inr (.inr (.inl (some 4)))), (1, .inr (.inr (.inl (some 16)))), (2, .inr (.inr (.inl (some 94)))), (3, .inl (0, [(1, 1)]))] [.inl (0, [(2, 1)])] [] [] [(18, ([], 3, [(0, 0, 3584), (1, 0, 3584), (2, (-2147483648), 2147483647)], [], [(0, .inr (.inr (.inl (some 4)))), (1, .inr (.inr (.inl (some 16)))), (2, .inr (.inr (.inl (some 94)))), (3, .inl (7, [(1, 1)]))], [], []))] [] 0 0 = true := by decide +kernel
theorem rq_act2 {cst : am_K} {Φ : am_Q → Prop} {h : am_H} {l : am_L} (gC : ly_gC sx_KK cst) (hY : ∀ d, ly_Yok cst m_cl m_tt m_P m_strs ly_TH ly_Y d) (hy : ly_hy m_tt ly_TH h) (n p a : Int) (x0 : Int32) (hx0 : x0.toInt = (a)) (b0 : 0 ≤ n) (t0 : n ≤ 3584) (b1 : 0 ≤ p) (t1 : p ≤ 3584) (b2 : (-2147483648) ≤ a) (t2 : a ≤ 2147483647) (f0 : 0 ≤ (n - p - 7)) (l0 : hp_a l 0 4) (l1 : hp_a l 1 16) (l2 : hp_a l 2 94) (l3 : hp_i l 3 (p)) (e0 : ∀ (l' : am_L) (h' : am_H), ly_hy m_tt ly_TH h' → ly_fr cst [] h h' → hp_a l' 0 4 → hp_a l' 1 16 → hp_a l' 2 94 → hp_i l' 3 (p + 7) → lw_F cst Φ 18 l' [] h' 0 0) : lw_F cst Φ 782 l [.int x0] h 0 0 := by
  refine lw_arc gC hY rq_act2_k [n, p, a] rfl hy (hp_Bc (z := n) rfl b0 t0 (hp_Bc (z := p) rfl b1 t1 (hp_Bc (z := a) rfl b2 t2 hp_Bn))) (hp_Fc (z := ((-7) + (1 * n + ((-1) * p + 0)))) rfl (by omega) hp_Fn) hp_Kn (hp_La l0 (hp_La l1 (hp_La l2 (hp_Li (z := (0 + (1 * p + 0))) l3 rfl (by omega) hp_Ln)))) (hp_Si (z := (0 + (1 * a + 0))) rfl (by omega) trivial) ?_ ?_
  · intro q hp ys l' st' h' ca sa ha hs hys a1 hfr gZ gL gS
    have ea : ca = 0 := Nat.le_zero.mp ha
    have eb : sa = 0 := Nat.le_zero.mp hs
    subst ea
    subst eb
    rcases List.mem_cons.mp hp with rfl | hp
    · obtain rfl := hp_y0 hys
      cases hp_gSn gS
      exact e0 l' h' a1 hfr (hp_gLa gL (List.mem_of_getElem? (i := 0) rfl) (by decide)) (hp_gLa gL (List.mem_of_getElem? (i := 1) rfl) (by decide)) (hp_gLa gL (List.mem_of_getElem? (i := 2) rfl) (by decide)) (hp_gLi (z := (7 + (1 * p + 0))) gL (List.mem_of_getElem? (i := 3) rfl) rfl (by omega))
    cases hp
  · intro q hq ys v h' hys gS
    cases hq
theorem lc_act {cst : am_K} {Φ : am_Q → Prop} (gC : ly_gC sx_KK cst) (hY : ∀ d, ly_Yok cst m_cl m_tt m_P m_strs ly_TH ly_Y d) {n p : Int} {h : am_H} {l : am_L} (I : lw_I cst n p h l) (hp7 : p + 7 ≤ n)
    (k : ∀ (h' : am_H) (l' : am_L) (ca sa : Nat), ca ≤ 19 → sa ≤ 261 → lw_I cst n (p + 7) h' l' → lw_F cst Φ 18 l' [] h' ca sa) : lw_F cst Φ 753 l [] h 0 0 := by
  obtain ⟨hy, k0, n0, n1, p0, p1, ⟨t, s, k2, k3, et, s0, s1⟩, ⟨r, kr, r0, r1⟩, k4, k5, l0, l1, l2, l3, ⟨v0, vk0, vm0, vb0, vt0⟩, er0, er1⟩ := I
  obtain ⟨x, kx⟩ := lw_elem (i := p + 1) gC k0 (by omega) (by omega)
  obtain ⟨y, ky⟩ := lw_elem (i := p + 2) gC k0 (by omega) (by omega)
  have c46 : hp_C cst m_strs (46) := ⟨gC, lw_strs, fun d _ => hY d⟩
  have c47 : hp_C cst m_strs (47) := ⟨gC, lw_strs, fun d _ => hY d⟩
  have c48 : hp_C cst m_strs (48) := ⟨gC, lw_strs, fun d _ => hY d⟩
  have c49 : hp_C cst m_strs (49) := ⟨gC, lw_strs, fun d _ => hY d⟩
  refine rq_act0 gC hY hy n p x.toInt y.toInt n0 n1 p0 (by omega) x.le_toInt x.toInt_le y.le_toInt y.toInt_le (by omega) k0 kx ky l0 l1 l2 l3 (fun l1' h1 a0 a1 e0 e1 u1 f1 g0 g1 g2 g3 => ?_)
  have T0 : tp_H cst h1 h1 := tp_mv er0 hy u1 hy u1 f1 f1 rfl rfl
  obtain ⟨X, i0, N0, x30, LCh, RAh, kN, N0', pot, wdh⟩ := er1
  have eN : v0 = N0 := Option.some.inj (vk0.symm.trans kN)
  obtain ⟨nN, vN⟩ : ∃ nN : Nat, v0 = (nN : Int) := ⟨v0.toNat, by omega⟩
  have cc : ∀ d, hp_C cst m_strs d := fun d => ⟨gC, lw_strs, fun d' _ => hY d'⟩
  have LC1 := LC_mv LCh f1 rfl
  obtain ⟨ed, ke1, ke2⟩ := LW_ke hy LCh RAh x30
  have ke1' : (X.length : Int) ≠ 0 → ly_hv cst h1 3840 ((X.length : Int) - 1) = some ed ∧ -2147483648 ≤ ed ∧ ed ≤ 2147483647 := fun z => ⟨f1 _ _ _ rfl (ke1 z).1, (ke1 z).2⟩
  have rc1 := LW_rc RAh x30
  obtain ⟨q1, hrun, aC, s1', s2', s3', shy, sfr, sP⟩ := ac_run (D := 43) (N := nN) (A := (X.length : Int)) (i0 := i0) (c0 := fX X) (e := ed) (xd := a1) (xs := a0) cc (by decide) u1 (by omega) (by rw [← vN]; exact f1 _ _ _ rfl vk0) (by omega) (by omega) (by omega) rc1 LC1.1 LC1.2.2.2.1 LC1.2.2.2.2 ke1'
  refine lw_call (pc := 764) (tg := 70) (na := 3) (c := 0) (ci := 0) (st0 := [.int a0, .int a1, .ref 16]) (st := []) (av := [.int a1, .int a0]) (by decide +kernel) u1 rfl rfl rfl (Nat.le_of_ble_eq_true rfl) hrun s2' s3' ?_
  rw [s1']
  have fa : ∀ rg i v, ly_has rg ac_mods = false → ly_hv cst h rg i = some v → ly_hv cst q1.2.1 rg i = some v := fun rg i v ha e => sfr _ _ _ ha (f1 _ _ _ rfl e)
  refine rq_act1 gC hY shy n p x.toInt y.toInt aC.toInt aC rfl n0 n1 p0 (by omega) x.le_toInt x.toInt_le y.le_toInt y.toInt_le aC.le_toInt aC.toInt_le (by omega) (fa _ _ _ rfl k0) (fa _ _ _ rfl kx) (fa _ _ _ rfl ky) g0 g1 g2 g3 (fun l2' h2 b0 b1 d0 d1 u2 f2 o0 o1 o2 o3 => ?_)
  have fb : ∀ rg i v, ly_has rg ac_mods = false → ly_hv cst h rg i = some v → ly_hv cst h2 rg i = some v := fun rg i v ha e => f2 _ _ _ rfl (fa _ _ _ ha e)
  have T1 : tp_H cst h1 h2 := tp_mv (mc := []) (mm := ac_mods) T0 u1 u1 u1 u2 (ly_fr_rf h1) (fun rg i v ha e => f2 _ _ _ rfl (sfr rg i v ha e)) rfl rfl
  obtain ⟨sz, tT, enT, kdT, plT, vlT, TT, sA⟩ := sP
  have RA2 : rA cst h2 X := rA_k RAh ⟨fun rg hr i u _ ee => fb _ _ _ (by have z := List.all_eq_true.mp (show [22784, 23040, 23296].all (fun x => !ly_has x ac_mods) = true from rfl) rg hr; simpa using z) ee, fun q hq j u _ ee => fb _ _ _ (by have z := List.all_eq_true.mp (show gk_L.all (fun x => !ly_has x.1 ac_mods) = true from rfl) q hq; simpa using z) ee⟩ (fb _ _ _ rfl RAh.1)
  have ke2' : X.length ≠ 0 → ly_hv cst h2 22784 ((X.length : Int) - 1) = some ed ∧ -2147483648 ≤ ed ∧ ed ≤ 2147483647 := fun z => ⟨fb _ _ _ rfl (ke2 z).1, (ke2 z).2⟩
  have g60 := xg_one cc u1 (f1 _ _ _ rfl k4) hrun
  have m60 : ly_hv cst h2 60020 0 = some 1 := fb _ _ _ rfl k5
  obtain ⟨q2, hrun2, aR, w1', w2', w3', why, wfr, wP⟩ := ra_run (D := 49) (f := gt_g cst h1 512) (n := (nN : Int)) (X := X) (e := ed) (xd := b1) (xs := b0) cc (by decide) u2 TT (tkT_kb TT) (tkT_vB TT) (by omega) (by omega) (fun x x0 x1 => gs_even T1 u2 x0 (by omega)) (by rw [← vN]; exact fb _ _ _ rfl vm0) x30 RA2 ke2'
  refine lw_call (pc := 779) (tg := 297) (na := 3) (c := 78) (ci := 12) (st0 := [.int b0, .int b1, .ref 94]) (st := []) (av := [.int b1, .int b0]) (by decide +kernel) u2 rfl rfl rfl (Nat.le_of_ble_eq_true rfl) hrun2 w2' w3' ?_
  rw [w1']
  have ea0 : a0 = y := Int32.toInt_inj.mp e0
  have ea1 : a1 = x := Int32.toInt_inj.mp e1
  have eb0 : b0 = y := Int32.toInt_inj.mp d0
  have eb1 : b1 = x := Int32.toInt_inj.mp d1
  rw [ea0, ea1] at sA
  rw [eb0, eb1] at wP
  obtain ⟨wz, wA⟩ := wP
  obtain ⟨ab, X', i0', x30', LCq, RAq, li, wdq⟩ := LW_act x30 (by omega) wdh (fun C e => tx_w _ _ _ _ (fun x hx => by cases hx) e) LC1 sfr sA wA
  have both : aR.toInt = aC.toInt := ab
  have m61 := xg_two cc u2 m60 hrun2
  refine rq_act2 gC hY why n p aR.toInt aR rfl n0 n1 p0 (by omega) aR.le_toInt aR.toInt_le (by omega) o0 o1 o2 o3 (fun l3' h3 u3 f3 i0 i1 i2 i3 => ?_)
  have fc : ly_fr cst [19969, 19970, 19971, 19972, 19973, 19974, 19975, 19976, 19989, 19990, 19991, 20010, 20011, 20012, 20013, 20014, 20015, 20016, 22784, 23040, 23296, 23552, 23808, 24064, 24320, 24576, 24832, 25088, 25344, 25600, 25856, 26112, 26368, 26624, 26880, 27136, 60020, 60030, 60031, 60032, 60033, 60034, 60035, 60036, 60037, 60038, 60039, 60040, 60050, 60060, 60061, 60070, 60071] q1.2.1 h3 := fun rg i v hb e => f3 _ _ _ rfl (wfr _ _ _ hb (f2 _ _ _ rfl e))
  have tt : ∀ rg i v, ly_has rg ac_mods = false → ly_has rg [19969, 19970, 19971, 19972, 19973, 19974, 19975, 19976, 19989, 19990, 19991, 20010, 20011, 20012, 20013, 20014, 20015, 20016, 22784, 23040, 23296, 23552, 23808, 24064, 24320, 24576, 24832, 25088, 25344, 25600, 25856, 26112, 26368, 26624, 26880, 27136, 60020, 60030, 60031, 60032, 60033, 60034, 60035, 60036, 60037, 60038, 60039, 60040, 60050, 60060, 60061, 60070, 60071] = false → ly_hv cst h rg i = some v → ly_hv cst h3 rg i = some v := fun rg i v ha hb e => fc _ _ _ hb (fa _ _ _ ha e)
  exact k h3 l3' 0 0 (by omega) (by omega) ⟨u3, tt _ _ _ rfl rfl k0, n0, n1, by omega, by omega, ⟨t, s, tt _ _ _ rfl rfl k2, tt _ _ _ rfl rfl k3, et, s0, s1⟩, ⟨r, tt _ _ _ rfl rfl kr, r0, by omega⟩, (fc _ _ _ rfl g60), (f3 _ _ _ rfl m61), i0, i1, i2, i3, ⟨0, fc _ _ _ rfl sz, f3 _ _ _ rfl wz, by omega, by omega⟩, tp_mv (tp_mv (mc := ac_mods) (mm := ac_mods) er0 hy shy hy shy fa fa rfl rfl) shy u3 shy u3 fc fc rfl rfl, ⟨X', i0', 0, x30', LC_mv LCq fc rfl, rA_f3 RAq f3, fc _ _ _ rfl sz, by omega, by omega, wdq⟩⟩
theorem rq_quarrel0_k : lw_chk ly_Y 928 5 [(0, 0, 3584), (1, 0, 3584), (2, (-2147483648), 2147483647), (3, (-2147483648), 2147483647), (4, (-2147483648), 2147483647)] [((-7), [(0, 1), (1, (-1))])] [(0, .inr (.inr (.inl (some 4)))), (1, .inr (.inr (.inl (some 16)))), (2, .inr (.inr (.inl (some 94)))), (3, .inl (0, [(1, 1)]))] [] [(60000, (0, []), (0, [(0, 1)])), (60001, (1, [(1, 1)]), (0, [(2, 1)])), (60001, (2, [(1, 1)]), (0, [(3, 1)])), (60001, (3, [(1, 1)]), (0, [(4, 1)]))] [] [(944, ([], 5, [(0, 0, 3584), (1, 0, 3584), (2, (-2147483648), 2147483647), (3, (-2147483648), 2147483647), (4, (-2147483648), 2147483647)], [], [(0, .inr (.inr (.inl (some 4)))), (1, .inr (.inr (.inl (some 16)))), (2, .inr (.inr (.inl (some 94)))), (3, .inl (0, [(1, 1)]))], [.inl (0, [(4, 1)]), .inl (0, [(3, 1)]), .inl (0, [(2, 1)]), .inr (.inr (.inl (some 16)))], []))] [] 0 0 = true := by decide +kernel
theorem rq_quarrel0 {cst : am_K} {Φ : am_Q → Prop} {h : am_H} {l : am_L} (gC : ly_gC sx_KK cst) (hY : ∀ d, ly_Yok cst m_cl m_tt m_P m_strs ly_TH ly_Y d) (hy : ly_hy m_tt ly_TH h) (n p x y z : Int) (b0 : 0 ≤ n) (t0 : n ≤ 3584) (b1 : 0 ≤ p) (t1 : p ≤ 3584) (b2 : (-2147483648) ≤ x) (t2 : x ≤ 2147483647) (b3 : (-2147483648) ≤ y) (t3 : y ≤ 2147483647) (b4 : (-2147483648) ≤ z) (t4 : z ≤ 2147483647) (f0 : 0 ≤ (n - p - 7)) (k0 : ly_hv cst h 60000 0 = some (n)) (k1 : ly_hv cst h 60001 (p + 1) = some (x)) (k2 : ly_hv cst h 60001 (p + 2) = some (y)) (k3 : ly_hv cst h 60001 (p + 3) = some (z)) (l0 : hp_a l 0 4) (l1 : hp_a l 1 16) (l2 : hp_a l 2 94) (l3 : hp_i l 3 (p)) (e0 : ∀ (l' : am_L) (h' : am_H) (y0 : Int32) (y1 : Int32) (y2 : Int32), y0.toInt = (z) → y1.toInt = (y) → y2.toInt = (x) → ly_hy m_tt ly_TH h' → ly_fr cst [] h h' → hp_a l' 0 4 → hp_a l' 1 16 → hp_a l' 2 94 → hp_i l' 3 (p) → lw_F cst Φ 944 l' [.int y0, .int y1, .int y2, .ref 16] h' 0 0) : lw_F cst Φ 928 l [] h 0 0 := by
  refine lw_arc gC hY rq_quarrel0_k [n, p, x, y, z] rfl hy (hp_Bc (z := n) rfl b0 t0 (hp_Bc (z := p) rfl b1 t1 (hp_Bc (z := x) rfl b2 t2 (hp_Bc (z := y) rfl b3 t3 (hp_Bc (z := z) rfl b4 t4 hp_Bn))))) (hp_Fc (z := ((-7) + (1 * n + ((-1) * p + 0)))) rfl (by omega) hp_Fn) (hp_Kc (zi := (0 + 0)) (zv := (0 + (1 * n + 0))) k0 rfl rfl (by omega) (by omega) (hp_Kc (zi := (1 + (1 * p + 0))) (zv := (0 + (1 * x + 0))) k1 rfl rfl (by omega) (by omega) (hp_Kc (zi := (2 + (1 * p + 0))) (zv := (0 + (1 * y + 0))) k2 rfl rfl (by omega) (by omega) (hp_Kc (zi := (3 + (1 * p + 0))) (zv := (0 + (1 * z + 0))) k3 rfl rfl (by omega) (by omega) hp_Kn)))) (hp_La l0 (hp_La l1 (hp_La l2 (hp_Li (z := (0 + (1 * p + 0))) l3 rfl (by omega) hp_Ln)))) trivial ?_ ?_
  · intro q hp ys l' st' h' ca sa ha hs hys a1 hfr gZ gL gS
    have ea : ca = 0 := Nat.le_zero.mp ha
    have eb : sa = 0 := Nat.le_zero.mp hs
    subst ea
    subst eb
    rcases List.mem_cons.mp hp with rfl | hp
    · obtain rfl := hp_y0 hys
      obtain ⟨y0, t0, rfl, q0, g0⟩ := hp_gSi (z := (0 + (1 * z + 0))) gS rfl
      obtain ⟨y1, t1, rfl, q1, g1⟩ := hp_gSi (z := (0 + (1 * y + 0))) g0 rfl
      obtain ⟨y2, t2, rfl, q2, g2⟩ := hp_gSi (z := (0 + (1 * x + 0))) g1 rfl
      obtain ⟨t3, rfl, g3⟩ := hp_gSa g2 (by decide)
      cases hp_gSn g3
      exact e0 l' h' y0 y1 y2 (by omega) (by omega) (by omega) a1 hfr (hp_gLa gL (List.mem_of_getElem? (i := 0) rfl) (by decide)) (hp_gLa gL (List.mem_of_getElem? (i := 1) rfl) (by decide)) (hp_gLa gL (List.mem_of_getElem? (i := 2) rfl) (by decide)) (hp_gLi (z := (0 + (1 * p + 0))) gL (List.mem_of_getElem? (i := 3) rfl) rfl (by omega))
    cases hp
  · intro q hq ys v h' hys gS
    cases hq
theorem rq_quarrel1_k : lw_chk ly_Y 947 6 [(0, 0, 3584), (1, 0, 3584), (2, (-2147483648), 2147483647), (3, (-2147483648), 2147483647), (4, (-2147483648), 2147483647), (5, (-2147483648), 2147483647)] [((-7), [(0, 1), (1, (-1))])] [(0, .inr (.inr (.inl (some 4)))), (1, .inr (.inr (.inl (some 16)))), (2, .inr (.inr (.inl (some 94)))), (3, .inl (0, [(1, 1)]))] [.inl (0, [(5, 1)])] [(60000, (0, []), (0, [(0, 1)])), (60001, (1, [(1, 1)]), (0, [(2, 1)])), (60001, (2, [(1, 1)]), (0, [(3, 1)])), (60001, (3, [(1, 1)]), (0, [(4, 1)]))] [] [(963, ([], 6, [(0, 0, 3584), (1, 0, 3584), (2, (-2147483648), 2147483647), (3, (-2147483648), 2147483647), (4, (-2147483648), 2147483647), (5, (-2147483648), 2147483647)], [], [(0, .inr (.inr (.inl (some 4)))), (1, .inr (.inr (.inl (some 16)))), (2, .inr (.inr (.inl (some 94)))), (3, .inl (0, [(1, 1)]))], [.inl (0, [(4, 1)]), .inl (0, [(3, 1)]), .inl (0, [(2, 1)]), .inr (.inr (.inl (some 94))), .inl (0, [(5, 1)])], []))] [] 0 0 = true := by decide +kernel
theorem rq_quarrel1 {cst : am_K} {Φ : am_Q → Prop} {h : am_H} {l : am_L} (gC : ly_gC sx_KK cst) (hY : ∀ d, ly_Yok cst m_cl m_tt m_P m_strs ly_TH ly_Y d) (hy : ly_hy m_tt ly_TH h) (n p x y z a : Int) (x0 : Int32) (hx0 : x0.toInt = (a)) (b0 : 0 ≤ n) (t0 : n ≤ 3584) (b1 : 0 ≤ p) (t1 : p ≤ 3584) (b2 : (-2147483648) ≤ x) (t2 : x ≤ 2147483647) (b3 : (-2147483648) ≤ y) (t3 : y ≤ 2147483647) (b4 : (-2147483648) ≤ z) (t4 : z ≤ 2147483647) (b5 : (-2147483648) ≤ a) (t5 : a ≤ 2147483647) (f0 : 0 ≤ (n - p - 7)) (k0 : ly_hv cst h 60000 0 = some (n)) (k1 : ly_hv cst h 60001 (p + 1) = some (x)) (k2 : ly_hv cst h 60001 (p + 2) = some (y)) (k3 : ly_hv cst h 60001 (p + 3) = some (z)) (l0 : hp_a l 0 4) (l1 : hp_a l 1 16) (l2 : hp_a l 2 94) (l3 : hp_i l 3 (p)) (e0 : ∀ (l' : am_L) (h' : am_H) (y0 : Int32) (y1 : Int32) (y2 : Int32) (y4 : Int32), y0.toInt = (z) → y1.toInt = (y) → y2.toInt = (x) → y4.toInt = (a) → ly_hy m_tt ly_TH h' → ly_fr cst [] h h' → hp_a l' 0 4 → hp_a l' 1 16 → hp_a l' 2 94 → hp_i l' 3 (p) → lw_F cst Φ 963 l' [.int y0, .int y1, .int y2, .ref 94, .int y4] h' 0 0) : lw_F cst Φ 947 l [.int x0] h 0 0 := by
  refine lw_arc gC hY rq_quarrel1_k [n, p, x, y, z, a] rfl hy (hp_Bc (z := n) rfl b0 t0 (hp_Bc (z := p) rfl b1 t1 (hp_Bc (z := x) rfl b2 t2 (hp_Bc (z := y) rfl b3 t3 (hp_Bc (z := z) rfl b4 t4 (hp_Bc (z := a) rfl b5 t5 hp_Bn)))))) (hp_Fc (z := ((-7) + (1 * n + ((-1) * p + 0)))) rfl (by omega) hp_Fn) (hp_Kc (zi := (0 + 0)) (zv := (0 + (1 * n + 0))) k0 rfl rfl (by omega) (by omega) (hp_Kc (zi := (1 + (1 * p + 0))) (zv := (0 + (1 * x + 0))) k1 rfl rfl (by omega) (by omega) (hp_Kc (zi := (2 + (1 * p + 0))) (zv := (0 + (1 * y + 0))) k2 rfl rfl (by omega) (by omega) (hp_Kc (zi := (3 + (1 * p + 0))) (zv := (0 + (1 * z + 0))) k3 rfl rfl (by omega) (by omega) hp_Kn)))) (hp_La l0 (hp_La l1 (hp_La l2 (hp_Li (z := (0 + (1 * p + 0))) l3 rfl (by omega) hp_Ln)))) (hp_Si (z := (0 + (1 * a + 0))) rfl (by omega) trivial) ?_ ?_
  · intro q hp ys l' st' h' ca sa ha hs hys a1 hfr gZ gL gS
    have ea : ca = 0 := Nat.le_zero.mp ha
    have eb : sa = 0 := Nat.le_zero.mp hs
    subst ea
    subst eb
    rcases List.mem_cons.mp hp with rfl | hp
    · obtain rfl := hp_y0 hys
      obtain ⟨y0, t0, rfl, q0, g0⟩ := hp_gSi (z := (0 + (1 * z + 0))) gS rfl
      obtain ⟨y1, t1, rfl, q1, g1⟩ := hp_gSi (z := (0 + (1 * y + 0))) g0 rfl
      obtain ⟨y2, t2, rfl, q2, g2⟩ := hp_gSi (z := (0 + (1 * x + 0))) g1 rfl
      obtain ⟨t3, rfl, g3⟩ := hp_gSa g2 (by decide)
      obtain ⟨y4, t4, rfl, q4, g4⟩ := hp_gSi (z := (0 + (1 * a + 0))) g3 rfl
      cases hp_gSn g4
      exact e0 l' h' y0 y1 y2 y4 (by omega) (by omega) (by omega) (by omega) a1 hfr (hp_gLa gL (List.mem_of_getElem? (i := 0) rfl) (by decide)) (hp_gLa gL (List.mem_of_getElem? (i := 1) rfl) (by decide)) (hp_gLa gL (List.mem_of_getElem? (i := 2) rfl) (by decide)) (hp_gLi (z := (0 + (1 * p + 0))) gL (List.mem_of_getElem? (i := 3) rfl) rfl (by omega))
    cases hp
  · intro q hq ys v h' hys gS
    cases hq
theorem rq_quarrel2_k : lw_chk ly_Y 966 3 [(0, 0, 3584), (1, 0, 3584), (2, (-2147483648), 2147483647)] [((-7), [(0, 1), (1, (-1))])] [(0, .inr (.inr (.inl (some 4)))), (1, .inr (.inr (.inl (some 16)))), (2, .inr (.inr (.inl (some 94)))), (3, .inl (0, [(1, 1)]))] [.inl (0, [(2, 1)]), .inl (0, [(2, 1)])] [] [] [(18, ([], 3, [(0, 0, 3584), (1, 0, 3584), (2, (-2147483648), 2147483647)], [], [(0, .inr (.inr (.inl (some 4)))), (1, .inr (.inr (.inl (some 16)))), (2, .inr (.inr (.inl (some 94)))), (3, .inl (7, [(1, 1)]))], [], []))] [] 0 0 = true := by decide +kernel
theorem rq_quarrel2 {cst : am_K} {Φ : am_Q → Prop} {h : am_H} {l : am_L} (gC : ly_gC sx_KK cst) (hY : ∀ d, ly_Yok cst m_cl m_tt m_P m_strs ly_TH ly_Y d) (hy : ly_hy m_tt ly_TH h) (n p a : Int) (x0 : Int32) (x1 : Int32) (hx0 : x0.toInt = (a)) (hx1 : x1.toInt = (a)) (b0 : 0 ≤ n) (t0 : n ≤ 3584) (b1 : 0 ≤ p) (t1 : p ≤ 3584) (b2 : (-2147483648) ≤ a) (t2 : a ≤ 2147483647) (f0 : 0 ≤ (n - p - 7)) (l0 : hp_a l 0 4) (l1 : hp_a l 1 16) (l2 : hp_a l 2 94) (l3 : hp_i l 3 (p)) (e0 : ∀ (l' : am_L) (h' : am_H), ly_hy m_tt ly_TH h' → ly_fr cst [] h h' → hp_a l' 0 4 → hp_a l' 1 16 → hp_a l' 2 94 → hp_i l' 3 (p + 7) → lw_F cst Φ 18 l' [] h' 0 0) : lw_F cst Φ 966 l [.int x0, .int x1] h 0 0 := by
  refine lw_arc gC hY rq_quarrel2_k [n, p, a] rfl hy (hp_Bc (z := n) rfl b0 t0 (hp_Bc (z := p) rfl b1 t1 (hp_Bc (z := a) rfl b2 t2 hp_Bn))) (hp_Fc (z := ((-7) + (1 * n + ((-1) * p + 0)))) rfl (by omega) hp_Fn) hp_Kn (hp_La l0 (hp_La l1 (hp_La l2 (hp_Li (z := (0 + (1 * p + 0))) l3 rfl (by omega) hp_Ln)))) (hp_Si (z := (0 + (1 * a + 0))) rfl (by omega) (hp_Si (z := (0 + (1 * a + 0))) rfl (by omega) trivial)) ?_ ?_
  · intro q hp ys l' st' h' ca sa ha hs hys a1 hfr gZ gL gS
    have ea : ca = 0 := Nat.le_zero.mp ha
    have eb : sa = 0 := Nat.le_zero.mp hs
    subst ea
    subst eb
    rcases List.mem_cons.mp hp with rfl | hp
    · obtain rfl := hp_y0 hys
      cases hp_gSn gS
      exact e0 l' h' a1 hfr (hp_gLa gL (List.mem_of_getElem? (i := 0) rfl) (by decide)) (hp_gLa gL (List.mem_of_getElem? (i := 1) rfl) (by decide)) (hp_gLa gL (List.mem_of_getElem? (i := 2) rfl) (by decide)) (hp_gLi (z := (7 + (1 * p + 0))) gL (List.mem_of_getElem? (i := 3) rfl) rfl (by omega))
    cases hp
  · intro q hq ys v h' hys gS
    cases hq
theorem lc_quarrel {cst : am_K} {Φ : am_Q → Prop} (gC : ly_gC sx_KK cst) (hY : ∀ d, ly_Yok cst m_cl m_tt m_P m_strs ly_TH ly_Y d) {n p : Int} {h : am_H} {l : am_L} (I : lw_I cst n p h l) (hp7 : p + 7 ≤ n)
    (k : ∀ (h' : am_H) (l' : am_L) (ca sa : Nat), ca ≤ 19 → sa ≤ 261 → lw_I cst n (p + 7) h' l' → lw_F cst Φ 18 l' [] h' ca sa) : lw_F cst Φ 928 l [] h 0 0 := by
  obtain ⟨hy, k0, n0, n1, p0, p1, ⟨t, s, k2, k3, et, s0, s1⟩, ⟨r, kr, r0, r1⟩, k4, k5, l0, l1, l2, l3, ⟨v0, vk0, vm0, vb0, vt0⟩, er0, er1⟩ := I
  obtain ⟨x, kx⟩ := lw_elem (i := p + 1) gC k0 (by omega) (by omega)
  obtain ⟨y, ky⟩ := lw_elem (i := p + 2) gC k0 (by omega) (by omega)
  obtain ⟨z, kz⟩ := lw_elem (i := p + 3) gC k0 (by omega) (by omega)
  have c46 : hp_C cst m_strs (46) := ⟨gC, lw_strs, fun d _ => hY d⟩
  have c47 : hp_C cst m_strs (47) := ⟨gC, lw_strs, fun d _ => hY d⟩
  have c48 : hp_C cst m_strs (48) := ⟨gC, lw_strs, fun d _ => hY d⟩
  have c49 : hp_C cst m_strs (49) := ⟨gC, lw_strs, fun d _ => hY d⟩
  refine rq_quarrel0 gC hY hy n p x.toInt y.toInt z.toInt n0 n1 p0 (by omega) x.le_toInt x.toInt_le y.le_toInt y.toInt_le z.le_toInt z.toInt_le (by omega) k0 kx ky kz l0 l1 l2 l3 (fun l1' h1 a0 a1 a2 e0 e1 e2 u1 f1 g0 g1 g2 g3 => ?_)
  have T0 : tp_H cst h1 h1 := tp_mv er0 hy u1 hy u1 f1 f1 rfl rfl
  have er1' := er1
  obtain ⟨X, i0, N0, x30, LCh, RAh, kN, N0', pot, wdh⟩ := er1'
  obtain ⟨nN, vN⟩ : ∃ nN : Nat, v0 = (nN : Int) := ⟨v0.toNat, by omega⟩
  have cc : ∀ d, hp_C cst m_strs d := fun d => ⟨gC, lw_strs, fun d' _ => hY d'⟩
  have LC1 := LC_mv LCh f1 rfl
  have rc1 := LW_rc RAh x30
  obtain ⟨q1, hrun, aC, s1', s2', s3', shy, sfr, sP⟩ := lq_run (D := 37) (N := nN) (xk := a2) (xy := a1) (xs := a0) cc u1 (by omega) (by rw [← vN]; exact f1 _ _ _ rfl vk0) LC1 x30 (by omega)
  refine lw_call (pc := 944) (tg := 117) (na := 4) (c := 0) (ci := 0) (st0 := [.int a0, .int a1, .int a2, .ref 16]) (st := []) (av := [.int a2, .int a1, .int a0]) (by decide +kernel) u1 rfl rfl rfl (Nat.le_of_ble_eq_true rfl) hrun s2' s3' ?_
  rw [s1']
  have fa : ∀ rg i v, ly_has rg gt_mods = false → ly_hv cst h rg i = some v → ly_hv cst q1.2.1 rg i = some v := fun rg i v ha e => sfr _ _ _ ha (f1 _ _ _ rfl e)
  refine rq_quarrel1 gC hY shy n p x.toInt y.toInt z.toInt aC.toInt aC rfl n0 n1 p0 (by omega) x.le_toInt x.toInt_le y.le_toInt y.toInt_le z.le_toInt z.toInt_le aC.le_toInt aC.toInt_le (by omega) (fa _ _ _ rfl k0) (fa _ _ _ rfl kx) (fa _ _ _ rfl ky) (fa _ _ _ rfl kz) g0 g1 g2 g3 (fun l2' h2 b0 b1 b2 b9 d0 d1 d2 d9 u2 f2 o0 o1 o2 o3 => ?_)
  have fb : ∀ rg i v, ly_has rg gt_mods = false → ly_hv cst h rg i = some v → ly_hv cst h2 rg i = some v := fun rg i v ha e => f2 _ _ _ rfl (fa _ _ _ ha e)
  have T1 : tp_H cst h1 h2 := tp_mv (mc := []) (mm := gt_mods) T0 u1 u1 u1 u2 (ly_fr_rf h1) (fun rg i v ha e => f2 _ _ _ rfl (sfr rg i v ha e)) rfl rfl
  obtain ⟨sz, tT, enT, kdT, plT, vlT, TT, sA⟩ := sP
  have RA2 : rA cst h2 X := rA_k RAh (gk_fr (ms := gt_mods) (fun rg i v ha e => fb rg i v ha e) rfl rfl) (fb _ _ _ rfl RAh.1)
  obtain ⟨q2, hrun2, aR, w1', w2', w3', why, wfr, wP⟩ := rk_run (D := 37) (f := gt_g cst h1 512) (n := (nN : Int)) (xk := b2) (xy := b1) (xs := b0) cc u2 TT (by omega) (by omega) (fun x x0 x1 => gs_even T1 u2 x0 (by omega)) (by rw [← vN]; exact fb _ _ _ rfl vm0) RA2 x30 wdh
  refine lw_call (pc := 963) (tg := 325) (na := 4) (c := 78) (ci := 12) (st0 := [.int b0, .int b1, .int b2, .ref 94]) (st := [.int b9]) (av := [.int b2, .int b1, .int b0]) (by decide +kernel) u2 rfl rfl rfl (Nat.le_of_ble_eq_true rfl) hrun2 w2' w3' ?_
  rw [w1']
  rw [e0, e1, e2] at sA
  obtain ⟨wz, wA⟩ := wP
  rw [d0, d1, d2] at wA
  have both : aR.toInt = aC.toInt := (qa_uni sA wA (fun a b => pQua_u a b)).symm
  refine rq_quarrel2 gC hY why n p aC.toInt aR b9 both d9 n0 n1 p0 (by omega) aC.le_toInt aC.toInt_le (by omega) o0 o1 o2 o3 (fun l3' h3 u3 f3 i0 i1 i2 i3 => ?_)
  have fc : ly_fr cst [19969, 19970, 19971, 19972, 19973, 19974, 19975, 19976, 20017] q1.2.1 h3 := fun rg i v hb e => f3 _ _ _ rfl (wfr _ _ _ hb (f2 _ _ _ rfl e))
  have tt : ∀ rg i v, ly_has rg gt_mods = false → ly_has rg [19969, 19970, 19971, 19972, 19973, 19974, 19975, 19976, 20017] = false → ly_hv cst h rg i = some v → ly_hv cst h3 rg i = some v := fun rg i v ha hb e => fc _ _ _ hb (fa _ _ _ ha e)
  exact k h3 l3' 0 0 (by omega) (by omega) ⟨u3, tt _ _ _ rfl rfl k0, n0, n1, by omega, by omega, ⟨t, s, tt _ _ _ rfl rfl k2, tt _ _ _ rfl rfl k3, et, s0, s1⟩, ⟨r, tt _ _ _ rfl rfl kr, r0, by omega⟩, tt _ _ _ rfl rfl k4, tt _ _ _ rfl rfl k5, i0, i1, i2, i3, ⟨0, fc _ _ _ rfl sz, f3 _ _ _ rfl wz, by omega, by omega⟩, tp_mv (tp_mv (mc := gt_mods) (mm := gt_mods) er0 hy shy hy shy fa fa rfl rfl) shy u3 shy u3 fc fc rfl rfl, LW_mv (p' := p + 7) (LW_mv (p' := p + 7) (ms := gt_mods) er1 fa rfl rfl vk0 sz (by omega) (by omega)) fc rfl rfl sz (fc _ _ _ rfl sz) (by omega) (by omega)⟩
