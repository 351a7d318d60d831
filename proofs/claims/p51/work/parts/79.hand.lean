/-! PRINTED by wip/p2/gen_hand.py: roads of the switch by hand -/
noncomputable def lw_isV (pc tg na ci : Nat) : Bool := match sx_find pc sxmL.2.2.2.2 with
  | some (.invokevirtual _, X) => Nat.beq X.1 tg && (Nat.beq X.2.1 na && (sx_eq X.2.2 0 && (match sx_ch 16 tg sx_T with
    | some m' => Nat.beq m'.1 tg && (Nat.beq m'.2.1 ci && Nat.blt ci 98)
    | none => false)))
  | _ => false
theorem lw_call {cst : am_K} {Φ : am_Q → Prop} {pc tg na c ci : Nat} {fs : List (List ly_F)} {av st0 st : List Value} {h : am_H} {l : am_L} {r : am_Q} (hI : lw_isV pc tg na ci = true) (hy : ly_hy m_tt ly_TH h) (ht : ly_ths ly_TH c = some (.inr (ci, fs))) (hst : st0.length = na) (hav : st0.reverse = .ref (16 + c) :: av) (hcat : (st.map fun v => v.category).sum ≤ 8)
    (hrun : am_Run cst m_cl m_tt m_P m_strs sx_bi 50 tg (.ref (16 + c) :: av) h r) (hc0 : r.2.2.1 = 0) (hs0 : r.2.2.2 = 0) (k : lw_F cst Φ (pc + 3) l (r.1.toList ++ st) r.2.1 0 0) : lw_F cst Φ pc l (st0 ++ st) h 0 0 := by
  unfold lw_isV at hI
  split at hI
  case h_2 => cases hI
  rename_i ix X hX
  simp only [Bool.and_eq_true, sx_beqn, sx_eq_iff] at hI
  obtain ⟨x1, x2, x3, hI⟩ := hI
  split at hI
  case h_2 => cases hI
  rename_i m' hm'
  simp only [Bool.and_eq_true, sx_beqn, sx_blt] at hI
  obtain ⟨t0, t1, t2⟩ := hI
  obtain ⟨T', hT', -, -, h98, -⟩ := sx_tok_m tg m' hm' t0
  have hfind := lw_mok.2.2 _ _ hX
  have etake : (st0 ++ st).take X.2.1 = st0 := by rw [x2, ← hst]; exact List.take_left' rfl
  have edrop : (st0 ++ st).drop X.2.1 = st := by rw [x2, ← hst]; exact List.drop_left' rfl
  obtain ⟨xc, hx, vs, rfl, -⟩ := hy.2.1 _ _ ht
  obtain ⟨rr, hrr, hrr1⟩ := h98 (by omega)
  have hcc : am_c m_cl m_P m_strs (.invokevirtual ix) X (st0 ++ st) h := by
    refine ⟨by rw [List.length_append]; omega, by rw [edrop]; exact hcat, x3, .ref (16 + c), av, T', by rw [etake]; exact hav, by rw [x1]; exact hT', 16 + c, rfl, Or.inl ⟨Nat.not_lt.mpr (Nat.le_add_right 16 c), ci, vs, rr, ?_, ?_, hrr1⟩⟩
    · rw [show 16 + c - 16 = c by omega]; exact hx
    · rw [← t1]; exact hrr
  refine sx_Fin_pre (dc := r.2.2.1) (ds := r.2.2.2) (f1 := (mtL, pc + 3, l, r.1.toList ++ st)) (h1 := r.2.1) (fun n2 q hgo2 => ⟨n2 + 1, _, X, hfind, Or.inr (Or.inr (Or.inr (Or.inl ⟨r, q, hcc, ?_, ?_, rfl⟩)))⟩) ?_
  · rw [etake, hav, x1]; exact hrun
  · rw [edrop]; exact hgo2
  · rw [hc0, hs0]; exact k
theorem lw_elem {cst : am_K} {h : am_H} {n i : Int} (gC : ly_gC sx_KK cst) (hn : ly_hv cst h 60000 0 = some n) (i0 : 0 ≤ i) (i1 : i < n) : ∃ x : Int32, ly_hv cst h 60001 i = some x.toInt := by
  obtain ⟨L, eL, -⟩ := gC.2.1
  rw [ly_hv0 (by decide)] at hn ⊢
  unfold ly_h0 at hn ⊢
  rw [if_neg (by decide), if_neg (by decide), if_neg (by decide)] at hn ⊢
  unfold ly_hk at hn ⊢
  rw [eL] at hn ⊢
  simp only [if_pos] at hn
  cases hn
  simp only
  rw [if_neg (by decide), if_pos ⟨trivial, i0⟩]
  cases hx : L[i.toNat]? with
  | some x => exact ⟨x, rfl⟩
  | none =>
    have := List.getElem?_eq_none_iff.mp hx
    omega
theorem rq_land0_k : lw_chk ly_Y 505 5 [(0, 0, 3584), (1, 0, 3584), (2, (-2147483648), 2147483647), (3, (-2147483648), 2147483647), (4, (-2147483648), 2147483647)] [((-7), [(0, 1), (1, (-1))])] [(0, .inr (.inr (.inl (some 4)))), (1, .inr (.inr (.inl (some 16)))), (2, .inr (.inr (.inl (some 94)))), (3, .inl (0, [(1, 1)]))] [] [(60000, (0, []), (0, [(0, 1)])), (60001, (1, [(1, 1)]), (0, [(2, 1)])), (60001, (2, [(1, 1)]), (0, [(3, 1)])), (60001, (3, [(1, 1)]), (0, [(4, 1)]))] [] [(521, ([], 5, [(0, 0, 3584), (1, 0, 3584), (2, (-2147483648), 2147483647), (3, (-2147483648), 2147483647), (4, (-2147483648), 2147483647)], [], [(0, .inr (.inr (.inl (some 4)))), (1, .inr (.inr (.inl (some 16)))), (2, .inr (.inr (.inl (some 94)))), (3, .inl (0, [(1, 1)]))], [.inl (0, [(4, 1)]), .inl (0, [(3, 1)]), .inl (0, [(2, 1)]), .inr (.inr (.inl (some 16)))], []))] [] 0 0 = true := by decide +kernel
theorem rq_land0 {cst : am_K} {Φ : am_Q → Prop} {h : am_H} {l : am_L} (gC : ly_gC sx_KK cst) (hY : ∀ d, ly_Yok cst m_cl m_tt m_P m_strs ly_TH ly_Y d) (hy : ly_hy m_tt ly_TH h) (n p x y z : Int) (b0 : 0 ≤ n) (t0 : n ≤ 3584) (b1 : 0 ≤ p) (t1 : p ≤ 3584) (b2 : (-2147483648) ≤ x) (t2 : x ≤ 2147483647) (b3 : (-2147483648) ≤ y) (t3 : y ≤ 2147483647) (b4 : (-2147483648) ≤ z) (t4 : z ≤ 2147483647) (f0 : 0 ≤ (n - p - 7)) (k0 : ly_hv cst h 60000 0 = some (n)) (k1 : ly_hv cst h 60001 (p + 1) = some (x)) (k2 : ly_hv cst h 60001 (p + 2) = some (y)) (k3 : ly_hv cst h 60001 (p + 3) = some (z)) (l0 : hp_a l 0 4) (l1 : hp_a l 1 16) (l2 : hp_a l 2 94) (l3 : hp_i l 3 (p)) (e0 : ∀ (l' : am_L) (h' : am_H) (y0 : Int32) (y1 : Int32) (y2 : Int32), y0.toInt = (z) → y1.toInt = (y) → y2.toInt = (x) → ly_hy m_tt ly_TH h' → ly_fr cst [] h h' → hp_a l' 0 4 → hp_a l' 1 16 → hp_a l' 2 94 → hp_i l' 3 (p) → lw_F cst Φ 521 l' [.int y0, .int y1, .int y2, .ref 16] h' 0 0) : lw_F cst Φ 505 l [] h 0 0 := by
  refine lw_arc gC hY rq_land0_k [n, p, x, y, z] rfl hy (hp_Bc (z := n) rfl b0 t0 (hp_Bc (z := p) rfl b1 t1 (hp_Bc (z := x) rfl b2 t2 (hp_Bc (z := y) rfl b3 t3 (hp_Bc (z := z) rfl b4 t4 hp_Bn))))) (hp_Fc (z := ((-7) + (1 * n + ((-1) * p + 0)))) rfl (by omega) hp_Fn) (hp_Kc (zi := (0 + 0)) (zv := (0 + (1 * n + 0))) k0 rfl rfl (by omega) (by omega) (hp_Kc (zi := (1 + (1 * p + 0))) (zv := (0 + (1 * x + 0))) k1 rfl rfl (by omega) (by omega) (hp_Kc (zi := (2 + (1 * p + 0))) (zv := (0 + (1 * y + 0))) k2 rfl rfl (by omega) (by omega) (hp_Kc (zi := (3 + (1 * p + 0))) (zv := (0 + (1 * z + 0))) k3 rfl rfl (by omega) (by omega) hp_Kn)))) (hp_La l0 (hp_La l1 (hp_La l2 (hp_Li (z := (0 + (1 * p + 0))) l3 rfl (by omega) hp_Ln)))) trivial ?_ ?_
  · intro q hp ys l' st' h' ca sa ha hs hys a1 hfr gZ gL gS
    have ea : ca = 0 := Nat.le_zero.mp ha
    have eb : sa = 0 := Nat.le_zero.mp hs
    subst ea
    subst eb
    rcases List.mem_cons.mp hp with rfl | hp
    · obtain rfl := hp_y0 hys
      obtain ⟨y0, t0, rfl, q0, g0⟩ := hp_gSi (z := (0 + (1 * z + 0))) gS rfl
      obtain ⟨y1, t1, rfl, q1, g1⟩ := hp_gSi (z := (0 + (1 * y + 0))) g0 rfl
      obtain ⟨y2, t2, rfl, q2, g2⟩ := hp_gSi (z := (0 + (1 * x + 0))) g1 rfl
      obtain ⟨t3, rfl, g3⟩ := hp_gSa g2 (by decide)
      cases hp_gSn g3
      exact e0 l' h' y0 y1 y2 (by omega) (by omega) (by omega) a1 hfr (hp_gLa gL (List.mem_of_getElem? (i := 0) rfl) (by decide)) (hp_gLa gL (List.mem_of_getElem? (i := 1) rfl) (by decide)) (hp_gLa gL (List.mem_of_getElem? (i := 2) rfl) (by decide)) (hp_gLi (z := (0 + (1 * p + 0))) gL (List.mem_of_getElem? (i := 3) rfl) rfl (by omega))
    cases hp
  · intro q hq ys v h' hys gS
    cases hq
theorem rq_land1_k : lw_chk ly_Y 524 6 [(0, 0, 3584), (1, 0, 3584), (2, (-2147483648), 2147483647), (3, (-2147483648), 2147483647), (4, (-2147483648), 2147483647), (5, (-2147483648), 2147483647)] [((-7), [(0, 1), (1, (-1))])] [(0, .inr (.inr (.inl (some 4)))), (1, .inr (.inr (.inl (some 16)))), (2, .inr (.inr (.inl (some 94)))), (3, .inl (0, [(1, 1)]))] [.inl (0, [(5, 1)])] [(60000, (0, []), (0, [(0, 1)])), (60001, (1, [(1, 1)]), (0, [(2, 1)])), (60001, (2, [(1, 1)]), (0, [(3, 1)])), (60001, (3, [(1, 1)]), (0, [(4, 1)]))] [] [(541, ([], 6, [(0, 0, 3584), (1, 0, 3584), (2, (-2147483648), 2147483647), (3, (-2147483648), 2147483647), (4, (-2147483648), 2147483647), (5, (-2147483648), 2147483647)], [], [(0, .inr (.inr (.inl (some 4)))), (1, .inr (.inr (.inl (some 16)))), (2, .inr (.inr (.inl (some 94)))), (3, .inl (0, [(1, 1)]))], [.inl (0, [(4, 1)]), .inl (0, [(3, 1)]), .inl (0, [(2, 1)]), .inr (.inr (.inl (some 94)))], []))] [] 0 0 = true := by decide +kernel
theorem rq_land1 {cst : am_K} {Φ : am_Q → Prop} {h : am_H} {l : am_L} (gC : ly_gC sx_KK cst) (hY : ∀ d, ly_Yok cst m_cl m_tt m_P m_strs ly_TH ly_Y d) (hy : ly_hy m_tt ly_TH h) (n p x y z a : Int) (x0 : Int32) (hx0 : x0.toInt = (a)) (b0 : 0 ≤ n) (t0 : n ≤ 3584) (b1 : 0 ≤ p) (t1 : p ≤ 3584) (b2 : (-2147483648) ≤ x) (t2 : x ≤ 2147483647) (b3 : (-2147483648) ≤ y) (t3 : y ≤ 2147483647) (b4 : (-2147483648) ≤ z) (t4 : z ≤ 2147483647) (b5 : (-2147483648) ≤ a) (t5 : a ≤ 2147483647) (f0 : 0 ≤ (n - p - 7)) (k0 : ly_hv cst h 60000 0 = some (n)) (k1 : ly_hv cst h 60001 (p + 1) = some (x)) (k2 : ly_hv cst h 60001 (p + 2) = some (y)) (k3 : ly_hv cst h 60001 (p + 3) = some (z)) (l0 : hp_a l 0 4) (l1 : hp_a l 1 16) (l2 : hp_a l 2 94) (l3 : hp_i l 3 (p)) (e0 : ∀ (l' : am_L) (h' : am_H) (y0 : Int32) (y1 : Int32) (y2 : Int32), y0.toInt = (z) → y1.toInt = (y) → y2.toInt = (x) → ly_hy m_tt ly_TH h' → ly_fr cst [] h h' → hp_a l' 0 4 → hp_a l' 1 16 → hp_a l' 2 94 → hp_i l' 3 (p) → lw_F cst Φ 541 l' [.int y0, .int y1, .int y2, .ref 94] h' 0 0) : lw_F cst Φ 524 l [.int x0] h 0 0 := by
  refine lw_arc gC hY rq_land1_k [n, p, x, y, z, a] rfl hy (hp_Bc (z := n) rfl b0 t0 (hp_Bc (z := p) rfl b1 t1 (hp_Bc (z := x) rfl b2 t2 (hp_Bc (z := y) rfl b3 t3 (hp_Bc (z := z) rfl b4 t4 (hp_Bc (z := a) rfl b5 t5 hp_Bn)))))) (hp_Fc (z := ((-7) + (1 * n + ((-1) * p + 0)))) rfl (by omega) hp_Fn) (hp_Kc (zi := (0 + 0)) (zv := (0 + (1 * n + 0))) k0 rfl rfl (by omega) (by omega) (hp_Kc (zi := (1 + (1 * p + 0))) (zv := (0 + (1 * x + 0))) k1 rfl rfl (by omega) (by omega) (hp_Kc (zi := (2 + (1 * p + 0))) (zv := (0 + (1 * y + 0))) k2 rfl rfl (by omega) (by omega) (hp_Kc (zi := (3 + (1 * p + 0))) (zv := (0 + (1 * z + 0))) k3 rfl rfl (by omega) (by omega) hp_Kn)))) (hp_La l0 (hp_La l1 (hp_La l2 (hp_Li (z := (0 + (1 * p + 0))) l3 rfl (by omega) hp_Ln)))) (hp_Si (z := (0 + (1 * a + 0))) rfl (by omega) trivial) ?_ ?_
  · intro q hp ys l' st' h' ca sa ha hs hys a1 hfr gZ gL gS
    have ea : ca = 0 := Nat.le_zero.mp ha
    have eb : sa = 0 := Nat.le_zero.mp hs
    subst ea
    subst eb
    rcases List.mem_cons.mp hp with rfl | hp
    · obtain rfl := hp_y0 hys
      obtain ⟨y0, t0, rfl, q0, g0⟩ := hp_gSi (z := (0 + (1 * z + 0))) gS rfl
      obtain ⟨y1, t1, rfl, q1, g1⟩ := hp_gSi (z := (0 + (1 * y + 0))) g0 rfl
      obtain ⟨y2, t2, rfl, q2, g2⟩ := hp_gSi (z := (0 + (1 * x + 0))) g1 rfl
      obtain ⟨t3, rfl, g3⟩ := hp_gSa g2 (by decide)
      cases hp_gSn g3
      exact e0 l' h' y0 y1 y2 (by omega) (by omega) (by omega) a1 hfr (hp_gLa gL (List.mem_of_getElem? (i := 0) rfl) (by decide)) (hp_gLa gL (List.mem_of_getElem? (i := 1) rfl) (by decide)) (hp_gLa gL (List.mem_of_getElem? (i := 2) rfl) (by decide)) (hp_gLi (z := (0 + (1 * p + 0))) gL (List.mem_of_getElem? (i := 3) rfl) rfl (by omega))
    cases hp
  · intro q hq ys v h' hys gS
    cases hq
theorem rq_land2_k : lw_chk ly_Y 544 3 [(0, 0, 3584), (1, 0, 3584), (2, (-2147483648), 2147483647)] [((-7), [(0, 1), (1, (-1))])] [(0, .inr (.inr (.inl (some 4)))), (1, .inr (.inr (.inl (some 16)))), (2, .inr (.inr (.inl (some 94)))), (3, .inl (0, [(1, 1)]))] [.inl (0, [(2, 1)])] [] [] [(18, ([], 3, [(0, 0, 3584), (1, 0, 3584), (2, (-2147483648), 2147483647)], [], [(0, .inr (.inr (.inl (some 4)))), (1, .inr (.inr (.inl (some 16)))), (2, .inr (.inr (.inl (some 94)))), (3, .inl (7, [(1, 1)]))], [], []))] [] 0 0 = true := by decide +kernel
theorem rq_land2 {cst : am_K} {Φ : am_Q → Prop} {h : am_H} {l : am_L} (gC : ly_gC sx_KK cst) (hY : ∀ d, ly_Yok cst m_cl m_tt m_P m_strs ly_TH ly_Y d) (hy : ly_hy m_tt ly_TH h) (n p a : Int) (x0 : Int32) (hx0 : x0.toInt = (a)) (b0 : 0 ≤ n) (t0 : n ≤ 3584) (b1 : 0 ≤ p) (t1 : p ≤ 3584) (b2 : (-2147483648) ≤ a) (t2 : a ≤ 2147483647) (f0 : 0 ≤ (n - p - 7)) (l0 : hp_a l 0 4) (l1 : hp_a l 1 16) (l2 : hp_a l 2 94) (l3 : hp_i l 3 (p)) (e0 : ∀ (l' : am_L) (h' : am_H), ly_hy m_tt ly_TH h' → ly_fr cst [] h h' → hp_a l' 0 4 → hp_a l' 1 16 → hp_a l' 2 94 → hp_i l' 3 (p + 7) → lw_F cst Φ 18 l' [] h' 0 0) : lw_F cst Φ 544 l [.int x0] h 0 0 := by
  refine lw_arc gC hY rq_land2_k [n, p, a] rfl hy (hp_Bc (z := n) rfl b0 t0 (hp_Bc (z := p) rfl b1 t1 (hp_Bc (z := a) rfl b2 t2 hp_Bn))) (hp_Fc (z := ((-7) + (1 * n + ((-1) * p + 0)))) rfl (by omega) hp_Fn) hp_Kn (hp_La l0 (hp_La l1 (hp_La l2 (hp_Li (z := (0 + (1 * p + 0))) l3 rfl (by omega) hp_Ln)))) (hp_Si (z := (0 + (1 * a + 0))) rfl (by omega) trivial) ?_ ?_
  · intro q hp ys l' st' h' ca sa ha hs hys a1 hfr gZ gL gS
    have ea : ca = 0 := Nat.le_zero.mp ha
    have eb : sa = 0 := Nat.le_zero.mp hs
    subst ea
    subst eb
    rcases List.mem_cons.mp hp with rfl | hp
    · obtain rfl := hp_y0 hys
      cases hp_gSn gS
      exact e0 l' h' a1 hfr (hp_gLa gL (List.mem_of_getElem? (i := 0) rfl) (by decide)) (hp_gLa gL (List.mem_of_getElem? (i := 1) rfl) (by decide)) (hp_gLa gL (List.mem_of_getElem? (i := 2) rfl) (by decide)) (hp_gLi (z := (7 + (1 * p + 0))) gL (List.mem_of_getElem? (i := 3) rfl) rfl (by omega))
    cases hp
  · intro q hq ys v h' hys gS
    cases hq
theorem lc_land {cst : am_K} {Φ : am_Q → Prop} (gC : ly_gC sx_KK cst) (hY : ∀ d, ly_Yok cst m_cl m_tt m_P m_strs ly_TH ly_Y d) {n p : Int} {h : am_H} {l : am_L} (I : lw_I cst n p h l) (hp7 : p + 7 ≤ n)
    (k : ∀ (h' : am_H) (l' : am_L) (ca sa : Nat), ca ≤ 19 → sa ≤ 261 → lw_I cst n (p + 7) h' l' → lw_F cst Φ 18 l' [] h' ca sa) : lw_F cst Φ 505 l [] h 0 0 := by
  obtain ⟨hy, k0, n0, n1, p0, p1, ⟨t, s, k2, k3, et, s0, s1⟩, ⟨r, kr, r0, r1⟩, k4, k5, l0, l1, l2, l3, ⟨v0, vk0, vm0, vb0, vt0⟩, ⟨v1, vk1, vm1, vb1, vt1⟩, ⟨v2, vk2, vm2, vb2, vt2⟩, ⟨v3, vk3, vm3, vb3, vt3⟩, er0, er1, er2, er3⟩ := I
  obtain ⟨x, kx⟩ := lw_elem (i := p + 1) gC k0 (by omega) (by omega)
  obtain ⟨y, ky⟩ := lw_elem (i := p + 2) gC k0 (by omega) (by omega)
  obtain ⟨z, kz⟩ := lw_elem (i := p + 3) gC k0 (by omega) (by omega)
  have c46 : hp_C cst m_strs (46) := ⟨gC, lw_strs, fun d _ => hY d⟩
  have c47 : hp_C cst m_strs (47) := ⟨gC, lw_strs, fun d _ => hY d⟩
  have c48 : hp_C cst m_strs (48) := ⟨gC, lw_strs, fun d _ => hY d⟩
  have c49 : hp_C cst m_strs (49) := ⟨gC, lw_strs, fun d _ => hY d⟩
  refine rq_land0 gC hY hy n p x.toInt y.toInt z.toInt n0 n1 p0 (by omega) x.le_toInt x.toInt_le y.le_toInt y.toInt_le z.le_toInt z.toInt_le (by omega) k0 kx ky kz l0 l1 l2 l3 (fun l1' h1 a0 a1 a2 e0 e1 e2 u1 f1 g0 g1 g2 g3 => ?_)
  have T0 : tr_H cst h1 h1 := ta_mv er0 hy u1 hy u1 f1 f1 rfl rfl
  obtain ⟨q1, hrun, ⟨aC, s1'⟩, s2', s3', shy, sfr, sP⟩ := el_run (xp := a2) (xy := a1) (xz := a0) c48 c49 (by decide) u1 vb2 vt2 (f1 _ _ _ rfl vk2) vb1 vt1 (f1 _ _ _ rfl vk1) vb0 vt0 (f1 _ _ _ rfl vk0)
  refine lw_call (pc := 521) (tg := 37) (na := 4) (c := 0) (ci := 0) (st0 := [.int a0, .int a1, .int a2, .ref 16]) (st := []) (av := [.int a2, .int a1, .int a0]) (by decide +kernel) u1 rfl rfl rfl (Nat.le_of_ble_eq_true rfl) hrun s2' s3' ?_
  rw [s1']
  have fa : ∀ rg i v, ly_has rg [1537, 2304, 2560, 2816, 3072, 3328] = false → ly_hv cst h rg i = some v → ly_hv cst q1.2.1 rg i = some v := fun rg i v ha e => sfr _ _ _ ha (f1 _ _ _ rfl e)
  refine rq_land1 gC hY shy n p x.toInt y.toInt z.toInt aC.toInt aC rfl n0 n1 p0 (by omega) x.le_toInt x.toInt_le y.le_toInt y.toInt_le z.le_toInt z.toInt_le aC.le_toInt aC.toInt_le (by omega) (fa _ _ _ rfl k0) (fa _ _ _ rfl kx) (fa _ _ _ rfl ky) (fa _ _ _ rfl kz) g0 g1 g2 g3 (fun l2' h2 b0 b1 b2 d0 d1 d2 u2 f2 o0 o1 o2 o3 => ?_)
  have fb : ∀ rg i v, ly_has rg [1537, 2304, 2560, 2816, 3072, 3328] = false → ly_hv cst h rg i = some v → ly_hv cst h2 rg i = some v := fun rg i v ha e => f2 _ _ _ rfl (fa _ _ _ ha e)
  have T1 : tr_H cst h1 h2 := ta_mv (mc := []) (mm := [1537, 2304, 2560, 2816, 3072, 3328]) T0 u1 u1 u1 u2 (ly_fr_rf h1) (fun rg i v ha e => f2 _ _ _ rfl (sfr rg i v ha e)) rfl rfl
  obtain ⟨q2, hrun2, ⟨aR, w1'⟩, w2', w3', why, wfr, wP⟩ := fl_run (xp := b2) (xy := b1) (xz := b0) c48 c49 (by decide) u2 vb2 vt2 (fb _ _ _ rfl vm2) vb1 vt1 (fb _ _ _ rfl vm1) vb0 vt0 (fb _ _ _ rfl vm0)
  refine lw_call (pc := 541) (tg := 275) (na := 4) (c := 78) (ci := 12) (st0 := [.int b0, .int b1, .int b2, .ref 94]) (st := []) (av := [.int b2, .int b1, .int b0]) (by decide +kernel) u2 rfl rfl rfl (Nat.le_of_ble_eq_true rfl) hrun2 w2' w3' ?_
  rw [w1']
  rw [e0, e1, e2] at sP
  rw [d0, d1, d2] at wP
  obtain ⟨w, w0, w1, kw1, kw2, T2⟩ := ta_step1 (by decide) (fun ok => ok.2.2.2.2.1) vb2 vt2 T1 sP wP
  refine rq_land2 gC hY why n p aR.toInt aR rfl n0 n1 p0 (by omega) aR.le_toInt aR.toInt_le (by omega) o0 o1 o2 o3 (fun l3' h3 u3 f3 i0 i1 i2 i3 => ?_)
  have fc : ly_fr cst [19982, 21248, 21504, 21760, 22016, 22272, 22528] q1.2.1 h3 := fun rg i v hb e => f3 _ _ _ rfl (wfr _ _ _ hb (f2 _ _ _ rfl e))
  have tt : ∀ rg i v, ly_has rg [1537, 2304, 2560, 2816, 3072, 3328] = false → ly_has rg [19982, 21248, 21504, 21760, 22016, 22272, 22528] = false → ly_hv cst h rg i = some v → ly_hv cst h3 rg i = some v := fun rg i v ha hb e => fc _ _ _ hb (fa _ _ _ ha e)
  exact k h3 l3' 0 0 (by omega) (by omega) ⟨u3, tt _ _ _ rfl rfl k0, n0, n1, by omega, by omega, ⟨t, s, tt _ _ _ rfl rfl k2, tt _ _ _ rfl rfl k3, et, s0, s1⟩, ⟨r, tt _ _ _ rfl rfl kr, r0, by omega⟩, tt _ _ _ rfl rfl k4, tt _ _ _ rfl rfl k5, i0, i1, i2, i3, ⟨v0, tt _ _ _ rfl rfl vk0, tt _ _ _ rfl rfl vm0, vb0, vt0⟩, ⟨v1, tt _ _ _ rfl rfl vk1, tt _ _ _ rfl rfl vm1, vb1, vt1⟩, ⟨w, fc _ _ _ rfl kw1, f3 _ _ _ rfl kw2, w0, w1⟩, ⟨v3, tt _ _ _ rfl rfl vk3, tt _ _ _ rfl rfl vm3, vb3, vt3⟩, ta_mv T2 shy u3 why u3 fc f3 rfl rfl, bd_Rmv (bd_Rmv (mc := [1537, 2304, 2560, 2816, 3072, 3328]) (mm := [1537, 2304, 2560, 2816, 3072, 3328]) er1 hy shy hy shy fa fa rfl rfl) shy u3 shy u3 fc fc rfl rfl, bd_Tmv (bd_Tmv (ms := [1537, 2304, 2560, 2816, 3072, 3328]) er2 hy shy fa rfl) shy u3 fc rfl, ⟨v0, tt _ _ _ rfl rfl vm0, by rw [hp_same (show ly_ths ly_TH 88 = some (.inl (.int, 300, -2147483648, 2147483647)) from rfl) rfl why u3 f3]; exact bd_Nst (by rw [hp_same (mods := [1537, 2304, 2560, 2816, 3072, 3328]) (show ly_ths ly_TH 88 = some (.inl (.int, 300, -2147483648, 2147483647)) from rfl) rfl hy u2 fb]; exact bd_Nof er3 vm0) wP⟩⟩
theorem rq_dead0_k : lw_chk ly_Y 548 4 [(0, 0, 3584), (1, 0, 3584), (2, (-2147483648), 2147483647), (3, (-2147483648), 2147483647)] [((-7), [(0, 1), (1, (-1))])] [(0, .inr (.inr (.inl (some 4)))), (1, .inr (.inr (.inl (some 16)))), (2, .inr (.inr (.inl (some 94)))), (3, .inl (0, [(1, 1)]))] [] [(60000, (0, []), (0, [(0, 1)])), (60001, (1, [(1, 1)]), (0, [(2, 1)])), (60001, (2, [(1, 1)]), (0, [(3, 1)]))] [] [(559, ([], 4, [(0, 0, 3584), (1, 0, 3584), (2, (-2147483648), 2147483647), (3, (-2147483648), 2147483647)], [], [(0, .inr (.inr (.inl (some 4)))), (1, .inr (.inr (.inl (some 16)))), (2, .inr (.inr (.inl (some 94)))), (3, .inl (0, [(1, 1)]))], [.inl (0, [(3, 1)]), .inl (0, [(2, 1)]), .inr (.inr (.inl (some 16)))], []))] [] 0 0 = true := by decide +kernel
theorem rq_dead0 {cst : am_K} {Φ : am_Q → Prop} {h : am_H} {l : am_L} (gC : ly_gC sx_KK cst) (hY : ∀ d, ly_Yok cst m_cl m_tt m_P m_strs ly_TH ly_Y d) (hy : ly_hy m_tt ly_TH h) (n p x y : Int) (b0 : 0 ≤ n) (t0 : n ≤ 3584) (b1 : 0 ≤ p) (t1 : p ≤ 3584) (b2 : (-2147483648) ≤ x) (t2 : x ≤ 2147483647) (b3 : (-2147483648) ≤ y) (t3 : y ≤ 2147483647) (f0 : 0 ≤ (n - p - 7)) (k0 : ly_hv cst h 60000 0 = some (n)) (k1 : ly_hv cst h 60001 (p + 1) = some (x)) (k2 : ly_hv cst h 60001 (p + 2) = some (y)) (l0 : hp_a l 0 4) (l1 : hp_a l 1 16) (l2 : hp_a l 2 94) (l3 : hp_i l 3 (p)) (e0 : ∀ (l' : am_L) (h' : am_H) (y0 : Int32) (y1 : Int32), y0.toInt = (y) → y1.toInt = (x) → ly_hy m_tt ly_TH h' → ly_fr cst [] h h' → hp_a l' 0 4 → hp_a l' 1 16 → hp_a l' 2 94 → hp_i l' 3 (p) → lw_F cst Φ 559 l' [.int y0, .int y1, .ref 16] h' 0 0) : lw_F cst Φ 548 l [] h 0 0 := by
  refine lw_arc gC hY rq_dead0_k [n, p, x, y] rfl hy (hp_Bc (z := n) rfl b0 t0 (hp_Bc (z := p) rfl b1 t1 (hp_Bc (z := x) rfl b2 t2 (hp_Bc (z := y) rfl b3 t3 hp_Bn)))) (hp_Fc (z := ((-7) + (1 * n + ((-1) * p + 0)))) rfl (by omega) hp_Fn) (hp_Kc (zi := (0 + 0)) (zv := (0 + (1 * n + 0))) k0 rfl rfl (by omega) (by omega) (hp_Kc (zi := (1 + (1 * p + 0))) (zv := (0 + (1 * x + 0))) k1 rfl rfl (by omega) (by omega) (hp_Kc (zi := (2 + (1 * p + 0))) (zv := (0 + (1 * y + 0))) k2 rfl rfl (by omega) (by omega) hp_Kn))) (hp_La l0 (hp_La l1 (hp_La l2 (hp_Li (z := (0 + (1 * p + 0))) l3 rfl (by omega) hp_Ln)))) trivial ?_ ?_
  · intro q hp ys l' st' h' ca sa ha hs hys a1 hfr gZ gL gS
    have ea : ca = 0 := Nat.le_zero.mp ha
    have eb : sa = 0 := Nat.le_zero.mp hs
    subst ea
    subst eb
    rcases List.mem_cons.mp hp with rfl | hp
    · obtain rfl := hp_y0 hys
      obtain ⟨y0, t0, rfl, q0, g0⟩ := hp_gSi (z := (0 + (1 * y + 0))) gS rfl
      obtain ⟨y1, t1, rfl, q1, g1⟩ := hp_gSi (z := (0 + (1 * x + 0))) g0 rfl
      obtain ⟨t2, rfl, g2⟩ := hp_gSa g1 (by decide)
      cases hp_gSn g2
      exact e0 l' h' y0 y1 (by omega) (by omega) a1 hfr (hp_gLa gL (List.mem_of_getElem? (i := 0) rfl) (by decide)) (hp_gLa gL (List.mem_of_getElem? (i := 1) rfl) (by decide)) (hp_gLa gL (List.mem_of_getElem? (i := 2) rfl) (by decide)) (hp_gLi (z := (0 + (1 * p + 0))) gL (List.mem_of_getElem? (i := 3) rfl) rfl (by omega))
    cases hp
  · intro q hq ys v h' hys gS
    cases hq
theorem rq_dead1_k : lw_chk ly_Y 562 5 [(0, 0, 3584), (1, 0, 3584), (2, (-2147483648), 2147483647), (3, (-2147483648), 2147483647), (4, (-2147483648), 2147483647)] [((-7), [(0, 1), (1, (-1))])] [(0, .inr (.inr (.inl (some 4)))), (1, .inr (.inr (.inl (some 16)))), (2, .inr (.inr (.inl (some 94)))), (3, .inl (0, [(1, 1)]))] [.inl (0, [(4, 1)])] [(60000, (0, []), (0, [(0, 1)])), (60001, (1, [(1, 1)]), (0, [(2, 1)])), (60001, (2, [(1, 1)]), (0, [(3, 1)]))] [] [(574, ([], 5, [(0, 0, 3584), (1, 0, 3584), (2, (-2147483648), 2147483647), (3, (-2147483648), 2147483647), (4, (-2147483648), 2147483647)], [], [(0, .inr (.inr (.inl (some 4)))), (1, .inr (.inr (.inl (some 16)))), (2, .inr (.inr (.inl (some 94)))), (3, .inl (0, [(1, 1)]))], [.inl (0, [(3, 1)]), .inl (0, [(2, 1)]), .inr (.inr (.inl (some 94)))], []))] [] 0 0 = true := by decide +kernel
theorem rq_dead1 {cst : am_K} {Φ : am_Q → Prop} {h : am_H} {l : am_L} (gC : ly_gC sx_KK cst) (hY : ∀ d, ly_Yok cst m_cl m_tt m_P m_strs ly_TH ly_Y d) (hy : ly_hy m_tt ly_TH h) (n p x y a : Int) (x0 : Int32) (hx0 : x0.toInt = (a)) (b0 : 0 ≤ n) (t0 : n ≤ 3584) (b1 : 0 ≤ p) (t1 : p ≤ 3584) (b2 : (-2147483648) ≤ x) (t2 : x ≤ 2147483647) (b3 : (-2147483648) ≤ y) (t3 : y ≤ 2147483647) (b4 : (-2147483648) ≤ a) (t4 : a ≤ 2147483647) (f0 : 0 ≤ (n - p - 7)) (k0 : ly_hv cst h 60000 0 = some (n)) (k1 : ly_hv cst h 60001 (p + 1) = some (x)) (k2 : ly_hv cst h 60001 (p + 2) = some (y)) (l0 : hp_a l 0 4) (l1 : hp_a l 1 16) (l2 : hp_a l 2 94) (l3 : hp_i l 3 (p)) (e0 : ∀ (l' : am_L) (h' : am_H) (y0 : Int32) (y1 : Int32), y0.toInt = (y) → y1.toInt = (x) → ly_hy m_tt ly_TH h' → ly_fr cst [] h h' → hp_a l' 0 4 → hp_a l' 1 16 → hp_a l' 2 94 → hp_i l' 3 (p) → lw_F cst Φ 574 l' [.int y0, .int y1, .ref 94] h' 0 0) : lw_F cst Φ 562 l [.int x0] h 0 0 := by
  refine lw_arc gC hY rq_dead1_k [n, p, x, y, a] rfl hy (hp_Bc (z := n) rfl b0 t0 (hp_Bc (z := p) rfl b1 t1 (hp_Bc (z := x) rfl b2 t2 (hp_Bc (z := y) rfl b3 t3 (hp_Bc (z := a) rfl b4 t4 hp_Bn))))) (hp_Fc (z := ((-7) + (1 * n + ((-1) * p + 0)))) rfl (by omega) hp_Fn) (hp_Kc (zi := (0 + 0)) (zv := (0 + (1 * n + 0))) k0 rfl rfl (by omega) (by omega) (hp_Kc (zi := (1 + (1 * p + 0))) (zv := (0 + (1 * x + 0))) k1 rfl rfl (by omega) (by omega) (hp_Kc (zi := (2 + (1 * p + 0))) (zv := (0 + (1 * y + 0))) k2 rfl rfl (by omega) (by omega) hp_Kn))) (hp_La l0 (hp_La l1 (hp_La l2 (hp_Li (z := (0 + (1 * p + 0))) l3 rfl (by omega) hp_Ln)))) (hp_Si (z := (0 + (1 * a + 0))) rfl (by omega) trivial) ?_ ?_
  · intro q hp ys l' st' h' ca sa ha hs hys a1 hfr gZ gL gS
    have ea : ca = 0 := Nat.le_zero.mp ha
    have eb : sa = 0 := Nat.le_zero.mp hs
    subst ea
    subst eb
    rcases List.mem_cons.mp hp with rfl | hp
    · obtain rfl := hp_y0 hys
      obtain ⟨y0, t0, rfl, q0, g0⟩ := hp_gSi (z := (0 + (1 * y + 0))) gS rfl
      obtain ⟨y1, t1, rfl, q1, g1⟩ := hp_gSi (z := (0 + (1 * x + 0))) g0 rfl
      obtain ⟨t2, rfl, g2⟩ := hp_gSa g1 (by decide)
      cases hp_gSn g2
      exact e0 l' h' y0 y1 (by omega) (by omega) a1 hfr (hp_gLa gL (List.mem_of_getElem? (i := 0) rfl) (by decide)) (hp_gLa gL (List.mem_of_getElem? (i := 1) rfl) (by decide)) (hp_gLa gL (List.mem_of_getElem? (i := 2) rfl) (by decide)) (hp_gLi (z := (0 + (1 * p + 0))) gL (List.mem_of_getElem? (i := 3) rfl) rfl (by omega))
    cases hp
  · intro q hq ys v h' hys gS
    cases hq
theorem rq_dead2_k : lw_chk ly_Y 577 3 [(0, 0, 3584), (1, 0, 3584), (2, (-2147483648), 2147483647)] [((-7), [(0, 1), (1, (-1))])] [(0, .inr (.inr (.inl (some 4)))), (1, .inr (.inr (.inl (some 16)))), (2, .inr (.inr (.inl (some 94)))), (3, .inl (0, [(1, 1)]))] [.inl (0, [(2, 1)])] [] [] [(18, ([], 3, [(0, 0, 3584), (1, 0, 3584), (2, (-2147483648), 2147483647)], [], [(0, .inr (.inr (.inl (some 4)))), (1, .inr (.inr (.inl (some 16)))), (2, .inr (.inr (.inl (some 94)))), (3, .inl (7, [(1, 1)]))], [], []))] [] 0 0 = true := by decide +kernel
theorem rq_dead2 {cst : am_K} {Φ : am_Q → Prop} {h : am_H} {l : am_L} (gC : ly_gC sx_KK cst) (hY : ∀ d, ly_Yok cst m_cl m_tt m_P m_strs ly_TH ly_Y d) (hy : ly_hy m_tt ly_TH h) (n p a : Int) (x0 : Int32) (hx0 : x0.toInt = (a)) (b0 : 0 ≤ n) (t0 : n ≤ 3584) (b1 : 0 ≤ p) (t1 : p ≤ 3584) (b2 : (-2147483648) ≤ a) (t2 : a ≤ 2147483647) (f0 : 0 ≤ (n - p - 7)) (l0 : hp_a l 0 4) (l1 : hp_a l 1 16) (l2 : hp_a l 2 94) (l3 : hp_i l 3 (p)) (e0 : ∀ (l' : am_L) (h' : am_H), ly_hy m_tt ly_TH h' → ly_fr cst [] h h' → hp_a l' 0 4 → hp_a l' 1 16 → hp_a l' 2 94 → hp_i l' 3 (p + 7) → lw_F cst Φ 18 l' [] h' 0 0) : lw_F cst Φ 577 l [.int x0] h 0 0 := by
  refine lw_arc gC hY rq_dead2_k [n, p, a] rfl hy (hp_Bc (z := n) rfl b0 t0 (hp_Bc (z := p) rfl b1 t1 (hp_Bc (z := a) rfl b2 t2 hp_Bn))) (hp_Fc (z := ((-7) + (1 * n + ((-1) * p + 0)))) rfl (by omega) hp_Fn) hp_Kn (hp_La l0 (hp_La l1 (hp_La l2 (hp_Li (z := (0 + (1 * p + 0))) l3 rfl (by omega) hp_Ln)))) (hp_Si (z := (0 + (1 * a + 0))) rfl (by omega) trivial) ?_ ?_
  · intro q hp ys l' st' h' ca sa ha hs hys a1 hfr gZ gL gS
    have ea : ca = 0 := Nat.le_zero.mp ha
    have eb : sa = 0 := Nat.le_zero.mp hs
    subst ea
    subst eb
    rcases List.mem_cons.mp hp with rfl | hp
    · obtain rfl := hp_y0 hys
      cases hp_gSn gS
      exact e0 l' h' a1 hfr (hp_gLa gL (List.mem_of_getElem? (i := 0) rfl) (by decide)) (hp_gLa gL (List.mem_of_getElem? (i := 1) rfl) (by decide)) (hp_gLa gL (List.mem_of_getElem? (i := 2) rfl) (by decide)) (hp_gLi (z := (7 + (1 * p + 0))) gL (List.mem_of_getElem? (i := 3) rfl) rfl (by omega))
    cases hp
  · intro q hq ys v h' hys gS
    cases hq
theorem lc_dead {cst : am_K} {Φ : am_Q → Prop} (gC : ly_gC sx_KK cst) (hY : ∀ d, ly_Yok cst m_cl m_tt m_P m_strs ly_TH ly_Y d) {n p : Int} {h : am_H} {l : am_L} (I : lw_I cst n p h l) (hp7 : p + 7 ≤ n)
    (k : ∀ (h' : am_H) (l' : am_L) (ca sa : Nat), ca ≤ 19 → sa ≤ 261 → lw_I cst n (p + 7) h' l' → lw_F cst Φ 18 l' [] h' ca sa) : lw_F cst Φ 548 l [] h 0 0 := by
  obtain ⟨hy, k0, n0, n1, p0, p1, ⟨t, s, k2, k3, et, s0, s1⟩, ⟨r, kr, r0, r1⟩, k4, k5, l0, l1, l2, l3, ⟨v0, vk0, vm0, vb0, vt0⟩, ⟨v1, vk1, vm1, vb1, vt1⟩, ⟨v2, vk2, vm2, vb2, vt2⟩, ⟨v3, vk3, vm3, vb3, vt3⟩, er0, er1, er2, er3⟩ := I
  obtain ⟨x, kx⟩ := lw_elem (i := p + 1) gC k0 (by omega) (by omega)
  obtain ⟨y, ky⟩ := lw_elem (i := p + 2) gC k0 (by omega) (by omega)
  have c46 : hp_C cst m_strs (46) := ⟨gC, lw_strs, fun d _ => hY d⟩
  have c47 : hp_C cst m_strs (47) := ⟨gC, lw_strs, fun d _ => hY d⟩
  have c48 : hp_C cst m_strs (48) := ⟨gC, lw_strs, fun d _ => hY d⟩
  have c49 : hp_C cst m_strs (49) := ⟨gC, lw_strs, fun d _ => hY d⟩
  refine rq_dead0 gC hY hy n p x.toInt y.toInt n0 n1 p0 (by omega) x.le_toInt x.toInt_le y.le_toInt y.toInt_le (by omega) k0 kx ky l0 l1 l2 l3 (fun l1' h1 a0 a1 e0 e1 u1 f1 g0 g1 g2 g3 => ?_)
  have T0 : tr_H cst h1 h1 := ta_mv er0 hy u1 hy u1 f1 f1 rfl rfl
  obtain ⟨q1, hrun, ⟨aC, s1'⟩, s2', s3', shy, sfr, sP⟩ := ed_run (xp := a1) (xy := a0) c48 c49 (by decide) u1 vb2 vt2 (f1 _ _ _ rfl vk2) vb1 vt1 (f1 _ _ _ rfl vk1) vb0 vt0 (f1 _ _ _ rfl vk0)
  refine lw_call (pc := 559) (tg := 41) (na := 3) (c := 0) (ci := 0) (st0 := [.int a0, .int a1, .ref 16]) (st := []) (av := [.int a1, .int a0]) (by decide +kernel) u1 rfl rfl rfl (Nat.le_of_ble_eq_true rfl) hrun s2' s3' ?_
  rw [s1']
  have fa : ∀ rg i v, ly_has rg [1537, 2304, 2560, 2816, 3072, 3328] = false → ly_hv cst h rg i = some v → ly_hv cst q1.2.1 rg i = some v := fun rg i v ha e => sfr _ _ _ ha (f1 _ _ _ rfl e)
  refine rq_dead1 gC hY shy n p x.toInt y.toInt aC.toInt aC rfl n0 n1 p0 (by omega) x.le_toInt x.toInt_le y.le_toInt y.toInt_le aC.le_toInt aC.toInt_le (by omega) (fa _ _ _ rfl k0) (fa _ _ _ rfl kx) (fa _ _ _ rfl ky) g0 g1 g2 g3 (fun l2' h2 b0 b1 d0 d1 u2 f2 o0 o1 o2 o3 => ?_)
  have fb : ∀ rg i v, ly_has rg [1537, 2304, 2560, 2816, 3072, 3328] = false → ly_hv cst h rg i = some v → ly_hv cst h2 rg i = some v := fun rg i v ha e => f2 _ _ _ rfl (fa _ _ _ ha e)
  have T1 : tr_H cst h1 h2 := ta_mv (mc := []) (mm := [1537, 2304, 2560, 2816, 3072, 3328]) T0 u1 u1 u1 u2 (ly_fr_rf h1) (fun rg i v ha e => f2 _ _ _ rfl (sfr rg i v ha e)) rfl rfl
  obtain ⟨q2, hrun2, ⟨aR, w1'⟩, w2', w3', why, wfr, wP⟩ := fd_run (xp := b1) (xy := b0) c48 c49 (by decide) u2 vb2 vt2 (fb _ _ _ rfl vm2) vb1 vt1 (fb _ _ _ rfl vm1) vb0 vt0 (fb _ _ _ rfl vm0)
  refine lw_call (pc := 574) (tg := 279) (na := 3) (c := 78) (ci := 12) (st0 := [.int b0, .int b1, .ref 94]) (st := []) (av := [.int b1, .int b0]) (by decide +kernel) u2 rfl rfl rfl (Nat.le_of_ble_eq_true rfl) hrun2 w2' w3' ?_
  rw [w1']
  rw [e0, e1] at sP
  rw [d0, d1] at wP
  obtain ⟨w, w0, w1, kw1, kw2, T2⟩ := ta_step1 (by decide) (fun ok => ok.2.2.1) vb2 vt2 T1 sP wP
  refine rq_dead2 gC hY why n p aR.toInt aR rfl n0 n1 p0 (by omega) aR.le_toInt aR.toInt_le (by omega) o0 o1 o2 o3 (fun l3' h3 u3 f3 i0 i1 i2 i3 => ?_)
  have fc : ly_fr cst [19982, 21248, 21504, 21760, 22016, 22272, 22528] q1.2.1 h3 := fun rg i v hb e => f3 _ _ _ rfl (wfr _ _ _ hb (f2 _ _ _ rfl e))
  have tt : ∀ rg i v, ly_has rg [1537, 2304, 2560, 2816, 3072, 3328] = false → ly_has rg [19982, 21248, 21504, 21760, 22016, 22272, 22528] = false → ly_hv cst h rg i = some v → ly_hv cst h3 rg i = some v := fun rg i v ha hb e => fc _ _ _ hb (fa _ _ _ ha e)
  exact k h3 l3' 0 0 (by omega) (by omega) ⟨u3, tt _ _ _ rfl rfl k0, n0, n1, by omega, by omega, ⟨t, s, tt _ _ _ rfl rfl k2, tt _ _ _ rfl rfl k3, et, s0, s1⟩, ⟨r, tt _ _ _ rfl rfl kr, r0, by omega⟩, tt _ _ _ rfl rfl k4, tt _ _ _ rfl rfl k5, i0, i1, i2, i3, ⟨v0, tt _ _ _ rfl rfl vk0, tt _ _ _ rfl rfl vm0, vb0, vt0⟩, ⟨v1, tt _ _ _ rfl rfl vk1, tt _ _ _ rfl rfl vm1, vb1, vt1⟩, ⟨w, fc _ _ _ rfl kw1, f3 _ _ _ rfl kw2, w0, w1⟩, ⟨v3, tt _ _ _ rfl rfl vk3, tt _ _ _ rfl rfl vm3, vb3, vt3⟩, ta_mv T2 shy u3 why u3 fc f3 rfl rfl, bd_Rmv (bd_Rmv (mc := [1537, 2304, 2560, 2816, 3072, 3328]) (mm := [1537, 2304, 2560, 2816, 3072, 3328]) er1 hy shy hy shy fa fa rfl rfl) shy u3 shy u3 fc fc rfl rfl, bd_Tmv (bd_Tmv (ms := [1537, 2304, 2560, 2816, 3072, 3328]) er2 hy shy fa rfl) shy u3 fc rfl, ⟨v0, tt _ _ _ rfl rfl vm0, by rw [hp_same (show ly_ths ly_TH 88 = some (.inl (.int, 300, -2147483648, 2147483647)) from rfl) rfl why u3 f3]; exact bd_Nst (by rw [hp_same (mods := [1537, 2304, 2560, 2816, 3072, 3328]) (show ly_ths ly_TH 88 = some (.inl (.int, 300, -2147483648, 2147483647)) from rfl) rfl hy u2 fb]; exact bd_Nof er3 vm0) wP⟩⟩
theorem rq_kin0_k : lw_chk ly_Y 581 5 [(0, 0, 3584), (1, 0, 3584), (2, (-2147483648), 2147483647), (3, (-2147483648), 2147483647), (4, (-2147483648), 2147483647)] [((-7), [(0, 1), (1, (-1))])] [(0, .inr (.inr (.inl (some 4)))), (1, .inr (.inr (.inl (some 16)))), (2, .inr (.inr (.inl (some 94)))), (3, .inl (0, [(1, 1)]))] [] [(60000, (0, []), (0, [(0, 1)])), (60001, (1, [(1, 1)]), (0, [(2, 1)])), (60001, (2, [(1, 1)]), (0, [(3, 1)])), (60001, (3, [(1, 1)]), (0, [(4, 1)]))] [] [(597, ([], 5, [(0, 0, 3584), (1, 0, 3584), (2, (-2147483648), 2147483647), (3, (-2147483648), 2147483647), (4, (-2147483648), 2147483647)], [], [(0, .inr (.inr (.inl (some 4)))), (1, .inr (.inr (.inl (some 16)))), (2, .inr (.inr (.inl (some 94)))), (3, .inl (0, [(1, 1)]))], [.inl (0, [(4, 1)]), .inl (0, [(3, 1)]), .inl (0, [(2, 1)]), .inr (.inr (.inl (some 16)))], []))] [] 0 0 = true := by decide +kernel
theorem rq_kin0 {cst : am_K} {Φ : am_Q → Prop} {h : am_H} {l : am_L} (gC : ly_gC sx_KK cst) (hY : ∀ d, ly_Yok cst m_cl m_tt m_P m_strs ly_TH ly_Y d) (hy : ly_hy m_tt ly_TH h) (n p x y z : Int) (b0 : 0 ≤ n) (t0 : n ≤ 3584) (b1 : 0 ≤ p) (t1 : p ≤ 3584) (b2 : (-2147483648) ≤ x) (t2 : x ≤ 2147483647) (b3 : (-2147483648) ≤ y) (t3 : y ≤ 2147483647) (b4 : (-2147483648) ≤ z) (t4 : z ≤ 2147483647) (f0 : 0 ≤ (n - p - 7)) (k0 : ly_hv cst h 60000 0 = some (n)) (k1 : ly_hv cst h 60001 (p + 1) = some (x)) (k2 : ly_hv cst h 60001 (p + 2) = some (y)) (k3 : ly_hv cst h 60001 (p + 3) = some (z)) (l0 : hp_a l 0 4) (l1 : hp_a l 1 16) (l2 : hp_a l 2 94) (l3 : hp_i l 3 (p)) (e0 : ∀ (l' : am_L) (h' : am_H) (y0 : Int32) (y1 : Int32) (y2 : Int32), y0.toInt = (z) → y1.toInt = (y) → y2.toInt = (x) → ly_hy m_tt ly_TH h' → ly_fr cst [] h h' → hp_a l' 0 4 → hp_a l' 1 16 → hp_a l' 2 94 → hp_i l' 3 (p) → lw_F cst Φ 597 l' [.int y0, .int y1, .int y2, .ref 16] h' 0 0) : lw_F cst Φ 581 l [] h 0 0 := by
  refine lw_arc gC hY rq_kin0_k [n, p, x, y, z] rfl hy (hp_Bc (z := n) rfl b0 t0 (hp_Bc (z := p) rfl b1 t1 (hp_Bc (z := x) rfl b2 t2 (hp_Bc (z := y) rfl b3 t3 (hp_Bc (z := z) rfl b4 t4 hp_Bn))))) (hp_Fc (z := ((-7) + (1 * n + ((-1) * p + 0)))) rfl (by omega) hp_Fn) (hp_Kc (zi := (0 + 0)) (zv := (0 + (1 * n + 0))) k0 rfl rfl (by omega) (by omega) (hp_Kc (zi := (1 + (1 * p + 0))) (zv := (0 + (1 * x + 0))) k1 rfl rfl (by omega) (by omega) (hp_Kc (zi := (2 + (1 * p + 0))) (zv := (0 + (1 * y + 0))) k2 rfl rfl (by omega) (by omega) (hp_Kc (zi := (3 + (1 * p + 0))) (zv := (0 + (1 * z + 0))) k3 rfl rfl (by omega) (by omega) hp_Kn)))) (hp_La l0 (hp_La l1 (hp_La l2 (hp_Li (z := (0 + (1 * p + 0))) l3 rfl (by omega) hp_Ln)))) trivial ?_ ?_
  · intro q hp ys l' st' h' ca sa ha hs hys a1 hfr gZ gL gS
    have ea : ca = 0 := Nat.le_zero.mp ha
    have eb : sa = 0 := Nat.le_zero.mp hs
    subst ea
    subst eb
    rcases List.mem_cons.mp hp with rfl | hp
    · obtain rfl := hp_y0 hys
      obtain ⟨y0, t0, rfl, q0, g0⟩ := hp_gSi (z := (0 + (1 * z + 0))) gS rfl
      obtain ⟨y1, t1, rfl, q1, g1⟩ := hp_gSi (z := (0 + (1 * y + 0))) g0 rfl
      obtain ⟨y2, t2, rfl, q2, g2⟩ := hp_gSi (z := (0 + (1 * x + 0))) g1 rfl
      obtain ⟨t3, rfl, g3⟩ := hp_gSa g2 (by decide)
      cases hp_gSn g3
      exact e0 l' h' y0 y1 y2 (by omega) (by omega) (by omega) a1 hfr (hp_gLa gL (List.mem_of_getElem? (i := 0) rfl) (by decide)) (hp_gLa gL (List.mem_of_getElem? (i := 1) rfl) (by decide)) (hp_gLa gL (List.mem_of_getElem? (i := 2) rfl) (by decide)) (hp_gLi (z := (0 + (1 * p + 0))) gL (List.mem_of_getElem? (i := 3) rfl) rfl (by omega))
    cases hp
  · intro q hq ys v h' hys gS
    cases hq
theorem rq_kin1_k : lw_chk ly_Y 600 6 [(0, 0, 3584), (1, 0, 3584), (2, (-2147483648), 2147483647), (3, (-2147483648), 2147483647), (4, (-2147483648), 2147483647), (5, (-2147483648), 2147483647)] [((-7), [(0, 1), (1, (-1))])] [(0, .inr (.inr (.inl (some 4)))), (1, .inr (.inr (.inl (some 16)))), (2, .inr (.inr (.inl (some 94)))), (3, .inl (0, [(1, 1)]))] [.inl (0, [(5, 1)])] [(60000, (0, []), (0, [(0, 1)])), (60001, (1, [(1, 1)]), (0, [(2, 1)])), (60001, (2, [(1, 1)]), (0, [(3, 1)])), (60001, (3, [(1, 1)]), (0, [(4, 1)]))] [] [(617, ([], 6, [(0, 0, 3584), (1, 0, 3584), (2, (-2147483648), 2147483647), (3, (-2147483648), 2147483647), (4, (-2147483648), 2147483647), (5, (-2147483648), 2147483647)], [], [(0, .inr (.inr (.inl (some 4)))), (1, .inr (.inr (.inl (some 16)))), (2, .inr (.inr (.inl (some 94)))), (3, .inl (0, [(1, 1)]))], [.inl (0, [(4, 1)]), .inl (0, [(3, 1)]), .inl (0, [(2, 1)]), .inr (.inr (.inl (some 94)))], []))] [] 0 0 = true := by decide +kernel
theorem rq_kin1 {cst : am_K} {Φ : am_Q → Prop} {h : am_H} {l : am_L} (gC : ly_gC sx_KK cst) (hY : ∀ d, ly_Yok cst m_cl m_tt m_P m_strs ly_TH ly_Y d) (hy : ly_hy m_tt ly_TH h) (n p x y z a : Int) (x0 : Int32) (hx0 : x0.toInt = (a)) (b0 : 0 ≤ n) (t0 : n ≤ 3584) (b1 : 0 ≤ p) (t1 : p ≤ 3584) (b2 : (-2147483648) ≤ x) (t2 : x ≤ 2147483647) (b3 : (-2147483648) ≤ y) (t3 : y ≤ 2147483647) (b4 : (-2147483648) ≤ z) (t4 : z ≤ 2147483647) (b5 : (-2147483648) ≤ a) (t5 : a ≤ 2147483647) (f0 : 0 ≤ (n - p - 7)) (k0 : ly_hv cst h 60000 0 = some (n)) (k1 : ly_hv cst h 60001 (p + 1) = some (x)) (k2 : ly_hv cst h 60001 (p + 2) = some (y)) (k3 : ly_hv cst h 60001 (p + 3) = some (z)) (l0 : hp_a l 0 4) (l1 : hp_a l 1 16) (l2 : hp_a l 2 94) (l3 : hp_i l 3 (p)) (e0 : ∀ (l' : am_L) (h' : am_H) (y0 : Int32) (y1 : Int32) (y2 : Int32), y0.toInt = (z) → y1.toInt = (y) → y2.toInt = (x) → ly_hy m_tt ly_TH h' → ly_fr cst [] h h' → hp_a l' 0 4 → hp_a l' 1 16 → hp_a l' 2 94 → hp_i l' 3 (p) → lw_F cst Φ 617 l' [.int y0, .int y1, .int y2, .ref 94] h' 0 0) : lw_F cst Φ 600 l [.int x0] h 0 0 := by
  refine lw_arc gC hY rq_kin1_k [n, p, x, y, z, a] rfl hy (hp_Bc (z := n) rfl b0 t0 (hp_Bc (z := p) rfl b1 t1 (hp_Bc (z := x) rfl b2 t2 (hp_Bc (z := y) rfl b3 t3 (hp_Bc (z := z) rfl b4 t4 (hp_Bc (z := a) rfl b5 t5 hp_Bn)))))) (hp_Fc (z := ((-7) + (1 * n + ((-1) * p + 0)))) rfl (by omega) hp_Fn) (hp_Kc (zi := (0 + 0)) (zv := (0 + (1 * n + 0))) k0 rfl rfl (by omega) (by omega) (hp_Kc (zi := (1 + (1 * p + 0))) (zv := (0 + (1 * x + 0))) k1 rfl rfl (by omega) (by omega) (hp_Kc (zi := (2 + (1 * p + 0))) (zv := (0 + (1 * y + 0))) k2 rfl rfl (by omega) (by omega) (hp_Kc (zi := (3 + (1 * p + 0))) (zv := (0 + (1 * z + 0))) k3 rfl rfl (by omega) (by omega) hp_Kn)))) (hp_La l0 (hp_La l1 (hp_La l2 (hp_Li (z := (0 + (1 * p + 0))) l3 rfl (by omega) hp_Ln)))) (hp_Si (z := (0 + (1 * a + 0))) rfl (by omega) trivial) ?_ ?_
  · intro q hp ys l' st' h' ca sa ha hs hys a1 hfr gZ gL gS
    have ea : ca = 0 := Nat.le_zero.mp ha
    have eb : sa = 0 := Nat.le_zero.mp hs
    subst ea
    subst eb
    rcases List.mem_cons.mp hp with rfl | hp
    · obtain rfl := hp_y0 hys
      obtain ⟨y0, t0, rfl, q0, g0⟩ := hp_gSi (z := (0 + (1 * z + 0))) gS rfl
      obtain ⟨y1, t1, rfl, q1, g1⟩ := hp_gSi (z := (0 + (1 * y + 0))) g0 rfl
      obtain ⟨y2, t2, rfl, q2, g2⟩ := hp_gSi (z := (0 + (1 * x + 0))) g1 rfl
      obtain ⟨t3, rfl, g3⟩ := hp_gSa g2 (by decide)
      cases hp_gSn g3
      exact e0 l' h' y0 y1 y2 (by omega) (by omega) (by omega) a1 hfr (hp_gLa gL (List.mem_of_getElem? (i := 0) rfl) (by decide)) (hp_gLa gL (List.mem_of_getElem? (i := 1) rfl) (by decide)) (hp_gLa gL (List.mem_of_getElem? (i := 2) rfl) (by decide)) (hp_gLi (z := (0 + (1 * p + 0))) gL (List.mem_of_getElem? (i := 3) rfl) rfl (by omega))
    cases hp
  · intro q hq ys v h' hys gS
    cases hq
theorem rq_kin2_k : lw_chk ly_Y 620 3 [(0, 0, 3584), (1, 0, 3584), (2, (-2147483648), 2147483647)] [((-7), [(0, 1), (1, (-1))])] [(0, .inr (.inr (.inl (some 4)))), (1, .inr (.inr (.inl (some 16)))), (2, .inr (.inr (.inl (some 94)))), (3, .inl (0, [(1, 1)]))] [.inl (0, [(2, 1)])] [] [] [(18, ([], 3, [(0, 0, 3584), (1, 0, 3584), (2, (-2147483648), 2147483647)], [], [(0, .inr (.inr (.inl (some 4)))), (1, .inr (.inr (.inl (some 16)))), (2, .inr (.inr (.inl (some 94)))), (3, .inl (7, [(1, 1)]))], [], []))] [] 0 0 = true := by decide +kernel
theorem rq_kin2 {cst : am_K} {Φ : am_Q → Prop} {h : am_H} {l : am_L} (gC : ly_gC sx_KK cst) (hY : ∀ d, ly_Yok cst m_cl m_tt m_P m_strs ly_TH ly_Y d) (hy : ly_hy m_tt ly_TH h) (n p a : Int) (x0 : Int32) (hx0 : x0.toInt = (a)) (b0 : 0 ≤ n) (t0 : n ≤ 3584) (b1 : 0 ≤ p) (t1 : p ≤ 3584) (b2 : (-2147483648) ≤ a) (t2 : a ≤ 2147483647) (f0 : 0 ≤ (n - p - 7)) (l0 : hp_a l 0 4) (l1 : hp_a l 1 16) (l2 : hp_a l 2 94) (l3 : hp_i l 3 (p)) (e0 : ∀ (l' : am_L) (h' : am_H), ly_hy m_tt ly_TH h' → ly_fr cst [] h h' → hp_a l' 0 4 → hp_a l' 1 16 → hp_a l' 2 94 → hp_i l' 3 (p + 7) → lw_F cst Φ 18 l' [] h' 0 0) : lw_F cst Φ 620 l [.int x0] h 0 0 := by
  refine lw_arc gC hY rq_kin2_k [n, p, a] rfl hy (hp_Bc (z := n) rfl b0 t0 (hp_Bc (z := p) rfl b1 t1 (hp_Bc (z := a) rfl b2 t2 hp_Bn))) (hp_Fc (z := ((-7) + (1 * n + ((-1) * p + 0)))) rfl (by omega) hp_Fn) hp_Kn (hp_La l0 (hp_La l1 (hp_La l2 (hp_Li (z := (0 + (1 * p + 0))) l3 rfl (by omega) hp_Ln)))) (hp_Si (z := (0 + (1 * a + 0))) rfl (by omega) trivial) ?_ ?_
  · intro q hp ys l' st' h' ca sa ha hs hys a1 hfr gZ gL gS
    have ea : ca = 0 := Nat.le_zero.mp ha
    have eb : sa = 0 := Nat.le_zero.mp hs
    subst ea
    subst eb
    rcases List.mem_cons.mp hp with rfl | hp
    · obtain rfl := hp_y0 hys
      cases hp_gSn gS
      exact e0 l' h' a1 hfr (hp_gLa gL (List.mem_of_getElem? (i := 0) rfl) (by decide)) (hp_gLa gL (List.mem_of_getElem? (i := 1) rfl) (by decide)) (hp_gLa gL (List.mem_of_getElem? (i := 2) rfl) (by decide)) (hp_gLi (z := (7 + (1 * p + 0))) gL (List.mem_of_getElem? (i := 3) rfl) rfl (by omega))
    cases hp
  · intro q hq ys v h' hys gS
    cases hq
theorem lc_kin {cst : am_K} {Φ : am_Q → Prop} (gC : ly_gC sx_KK cst) (hY : ∀ d, ly_Yok cst m_cl m_tt m_P m_strs ly_TH ly_Y d) {n p : Int} {h : am_H} {l : am_L} (I : lw_I cst n p h l) (hp7 : p + 7 ≤ n)
    (k : ∀ (h' : am_H) (l' : am_L) (ca sa : Nat), ca ≤ 19 → sa ≤ 261 → lw_I cst n (p + 7) h' l' → lw_F cst Φ 18 l' [] h' ca sa) : lw_F cst Φ 581 l [] h 0 0 := by
  obtain ⟨hy, k0, n0, n1, p0, p1, ⟨t, s, k2, k3, et, s0, s1⟩, ⟨r, kr, r0, r1⟩, k4, k5, l0, l1, l2, l3, ⟨v0, vk0, vm0, vb0, vt0⟩, ⟨v1, vk1, vm1, vb1, vt1⟩, ⟨v2, vk2, vm2, vb2, vt2⟩, ⟨v3, vk3, vm3, vb3, vt3⟩, er0, er1, er2, er3⟩ := I
  obtain ⟨x, kx⟩ := lw_elem (i := p + 1) gC k0 (by omega) (by omega)
  obtain ⟨y, ky⟩ := lw_elem (i := p + 2) gC k0 (by omega) (by omega)
  obtain ⟨z, kz⟩ := lw_elem (i := p + 3) gC k0 (by omega) (by omega)
  have c46 : hp_C cst m_strs (46) := ⟨gC, lw_strs, fun d _ => hY d⟩
  have c47 : hp_C cst m_strs (47) := ⟨gC, lw_strs, fun d _ => hY d⟩
  have c48 : hp_C cst m_strs (48) := ⟨gC, lw_strs, fun d _ => hY d⟩
  have c49 : hp_C cst m_strs (49) := ⟨gC, lw_strs, fun d _ => hY d⟩
  refine rq_kin0 gC hY hy n p x.toInt y.toInt z.toInt n0 n1 p0 (by omega) x.le_toInt x.toInt_le y.le_toInt y.toInt_le z.le_toInt z.toInt_le (by omega) k0 kx ky kz l0 l1 l2 l3 (fun l1' h1 a0 a1 a2 e0 e1 e2 u1 f1 g0 g1 g2 g3 => ?_)
  have T0 : tr_H cst h1 h1 := ta_mv er0 hy u1 hy u1 f1 f1 rfl rfl
  obtain ⟨q1, hrun, ⟨aC, s1'⟩, s2', s3', shy, sfr, sP⟩ := ek_run (xp := a2) (xq := a1) (xd := a0) c48 c49 (by decide) u1 vb2 vt2 (f1 _ _ _ rfl vk2) vb1 vt1 (f1 _ _ _ rfl vk1) vb0 vt0 (f1 _ _ _ rfl vk0)
  refine lw_call (pc := 597) (tg := 42) (na := 4) (c := 0) (ci := 0) (st0 := [.int a0, .int a1, .int a2, .ref 16]) (st := []) (av := [.int a2, .int a1, .int a0]) (by decide +kernel) u1 rfl rfl rfl (Nat.le_of_ble_eq_true rfl) hrun s2' s3' ?_
  rw [s1']
  have fa : ∀ rg i v, ly_has rg [1537, 2304, 2560, 2816, 3072, 3328, 7171, 7182, 7680, 8704, 8960, 9216, 9472, 45319, 45320, 45321, 45323, 45324, 47106, 47107, 48642, 48643, 49410, 49411] = false → ly_hv cst h rg i = some v → ly_hv cst q1.2.1 rg i = some v := fun rg i v ha e => sfr _ _ _ ha (f1 _ _ _ rfl e)
  refine rq_kin1 gC hY shy n p x.toInt y.toInt z.toInt aC.toInt aC rfl n0 n1 p0 (by omega) x.le_toInt x.toInt_le y.le_toInt y.toInt_le z.le_toInt z.toInt_le aC.le_toInt aC.toInt_le (by omega) (fa _ _ _ rfl k0) (fa _ _ _ rfl kx) (fa _ _ _ rfl ky) (fa _ _ _ rfl kz) g0 g1 g2 g3 (fun l2' h2 b0 b1 b2 d0 d1 d2 u2 f2 o0 o1 o2 o3 => ?_)
  have fb : ∀ rg i v, ly_has rg [1537, 2304, 2560, 2816, 3072, 3328, 7171, 7182, 7680, 8704, 8960, 9216, 9472, 45319, 45320, 45321, 45323, 45324, 47106, 47107, 48642, 48643, 49410, 49411] = false → ly_hv cst h rg i = some v → ly_hv cst h2 rg i = some v := fun rg i v ha e => f2 _ _ _ rfl (fa _ _ _ ha e)
  have T1 : tr_H cst h1 h2 := ta_mv (mc := []) (mm := [1537, 2304, 2560, 2816, 3072, 3328, 7171, 7182, 7680, 8704, 8960, 9216, 9472, 45319, 45320, 45321, 45323, 45324, 47106, 47107, 48642, 48643, 49410, 49411]) T0 u1 u1 u1 u2 (ly_fr_rf h1) (fun rg i v ha e => f2 _ _ _ rfl (sfr rg i v ha e)) rfl rfl
  obtain ⟨q2, hrun2, ⟨aR, w1'⟩, w2', w3', why, wfr, wP⟩ := fk_run (xp := b2) (xq := b1) (xd := b0) c48 c49 (by decide) u2 vb2 vt2 (fb _ _ _ rfl vm2) vb1 vt1 (fb _ _ _ rfl vm1) vb0 vt0 (fb _ _ _ rfl vm0) (fb _ _ _ rfl k5)
  refine lw_call (pc := 617) (tg := 280) (na := 4) (c := 78) (ci := 12) (st0 := [.int b0, .int b1, .int b2, .ref 94]) (st := []) (av := [.int b2, .int b1, .int b0]) (by decide +kernel) u2 rfl rfl rfl (Nat.le_of_ble_eq_true rfl) hrun2 w2' w3' ?_
  rw [w1']
  rw [e0, e1, e2] at sP
  rw [d0, d1, d2] at wP
  obtain ⟨w, w0, w1, kw1, kw2, T2⟩ := ta_step2 (by decide) (fun ok => ⟨ok.1, by have := ok.2.1; omega, ok.2.2.1, by have := ok.2.2.2.1; omega⟩) vb2 vt2 T1 sP wP
  refine rq_kin2 gC hY why n p aR.toInt aR rfl n0 n1 p0 (by omega) aR.le_toInt aR.toInt_le (by omega) o0 o1 o2 o3 (fun l3' h3 u3 f3 i0 i1 i2 i3 => ?_)
  have fc : ly_fr cst kn_mods q1.2.1 h3 := fun rg i v hb e => f3 _ _ _ rfl (wfr _ _ _ hb (f2 _ _ _ rfl e))
  have tt : ∀ rg i v, ly_has rg [1537, 2304, 2560, 2816, 3072, 3328, 7171, 7182, 7680, 8704, 8960, 9216, 9472, 45319, 45320, 45321, 45323, 45324, 47106, 47107, 48642, 48643, 49410, 49411] = false → ly_has rg kn_mods = false → ly_hv cst h rg i = some v → ly_hv cst h3 rg i = some v := fun rg i v ha hb e => fc _ _ _ hb (fa _ _ _ ha e)
  exact k h3 l3' 0 0 (by omega) (by omega) ⟨u3, tt _ _ _ rfl rfl k0, n0, n1, by omega, by omega, ⟨t, s, tt _ _ _ rfl rfl k2, tt _ _ _ rfl rfl k3, et, s0, s1⟩, ⟨r, tt _ _ _ rfl rfl kr, r0, by omega⟩, tt _ _ _ rfl rfl k4, tt _ _ _ rfl rfl k5, i0, i1, i2, i3, ⟨v0, tt _ _ _ rfl rfl vk0, tt _ _ _ rfl rfl vm0, vb0, vt0⟩, ⟨v1, tt _ _ _ rfl rfl vk1, tt _ _ _ rfl rfl vm1, vb1, vt1⟩, ⟨w, fc _ _ _ rfl kw1, f3 _ _ _ rfl kw2, w0, w1⟩, ⟨v3, tt _ _ _ rfl rfl vk3, tt _ _ _ rfl rfl vm3, vb3, vt3⟩, ta_mv T2 shy u3 why u3 fc f3 rfl rfl, bd_Rmv (bd_Rmv (mc := [1537, 2304, 2560, 2816, 3072, 3328, 7171, 7182, 7680, 8704, 8960, 9216, 9472, 45319, 45320, 45321, 45323, 45324, 47106, 47107, 48642, 48643, 49410, 49411]) (mm := [1537, 2304, 2560, 2816, 3072, 3328, 7171, 7182, 7680, 8704, 8960, 9216, 9472, 45319, 45320, 45321, 45323, 45324, 47106, 47107, 48642, 48643, 49410, 49411]) er1 hy shy hy shy fa fa rfl rfl) shy u3 shy u3 fc fc rfl rfl, bd_Tmv (bd_Tmv (ms := [1537, 2304, 2560, 2816, 3072, 3328, 7171, 7182, 7680, 8704, 8960, 9216, 9472, 45319, 45320, 45321, 45323, 45324, 47106, 47107, 48642, 48643, 49410, 49411]) er2 hy shy fa rfl) shy u3 fc rfl, ⟨v0, tt _ _ _ rfl rfl vm0, by rw [hp_same (show ly_ths ly_TH 88 = some (.inl (.int, 300, -2147483648, 2147483647)) from rfl) rfl why u3 f3]; exact bd_Nst (by rw [hp_same (mods := [1537, 2304, 2560, 2816, 3072, 3328, 7171, 7182, 7680, 8704, 8960, 9216, 9472, 45319, 45320, 45321, 45323, 45324, 47106, 47107, 48642, 48643, 49410, 49411]) (show ly_ths ly_TH 88 = some (.inl (.int, 300, -2147483648, 2147483647)) from rfl) rfl hy u2 fb]; exact bd_Nof er3 vm0) wP⟩⟩
theorem rq_pass0_k : lw_chk ly_Y 449 3 [(0, 0, 3584), (1, 0, 3584), (2, (-2147483648), 2147483647)] [((-7), [(0, 1), (1, (-1))])] [(0, .inr (.inr (.inl (some 4)))), (1, .inr (.inr (.inl (some 16)))), (2, .inr (.inr (.inl (some 94)))), (3, .inl (0, [(1, 1)]))] [] [(60000, (0, []), (0, [(0, 1)])), (60001, (1, [(1, 1)]), (0, [(2, 1)]))] [] [(455, ([], 3, [(0, 0, 3584), (1, 0, 3584), (2, (-2147483648), 2147483647)], [], [(0, .inr (.inr (.inl (some 4)))), (1, .inr (.inr (.inl (some 16)))), (2, .inr (.inr (.inl (some 94)))), (3, .inl (0, [(1, 1)]))], [.inl (0, [(2, 1)]), .inr (.inr (.inl (some 16)))], []))] [] 0 0 = true := by decide +kernel
theorem rq_pass0 {cst : am_K} {Φ : am_Q → Prop} {h : am_H} {l : am_L} (gC : ly_gC sx_KK cst) (hY : ∀ d, ly_Yok cst m_cl m_tt m_P m_strs ly_TH ly_Y d) (hy : ly_hy m_tt ly_TH h) (n p x : Int) (b0 : 0 ≤ n) (t0 : n ≤ 3584) (b1 : 0 ≤ p) (t1 : p ≤ 3584) (b2 : (-2147483648) ≤ x) (t2 : x ≤ 2147483647) (f0 : 0 ≤ (n - p - 7)) (k0 : ly_hv cst h 60000 0 = some (n)) (k1 : ly_hv cst h 60001 (p + 1) = some (x)) (l0 : hp_a l 0 4) (l1 : hp_a l 1 16) (l2 : hp_a l 2 94) (l3 : hp_i l 3 (p)) (e0 : ∀ (l' : am_L) (h' : am_H) (y0 : Int32), y0.toInt = (x) → ly_hy m_tt ly_TH h' → ly_fr cst [] h h' → hp_a l' 0 4 → hp_a l' 1 16 → hp_a l' 2 94 → hp_i l' 3 (p) → lw_F cst Φ 455 l' [.int y0, .ref 16] h' 0 0) : lw_F cst Φ 449 l [] h 0 0 := by
  refine lw_arc gC hY rq_pass0_k [n, p, x] rfl hy (hp_Bc (z := n) rfl b0 t0 (hp_Bc (z := p) rfl b1 t1 (hp_Bc (z := x) rfl b2 t2 hp_Bn))) (hp_Fc (z := ((-7) + (1 * n + ((-1) * p + 0)))) rfl (by omega) hp_Fn) (hp_Kc (zi := (0 + 0)) (zv := (0 + (1 * n + 0))) k0 rfl rfl (by omega) (by omega) (hp_Kc (zi := (1 + (1 * p + 0))) (zv := (0 + (1 * x + 0))) k1 rfl rfl (by omega) (by omega) hp_Kn)) (hp_La l0 (hp_La l1 (hp_La l2 (hp_Li (z := (0 + (1 * p + 0))) l3 rfl (by omega) hp_Ln)))) trivial ?_ ?_
  · intro q hp ys l' st' h' ca sa ha hs hys a1 hfr gZ gL gS
    have ea : ca = 0 := Nat.le_zero.mp ha
    have eb : sa = 0 := Nat.le_zero.mp hs
    subst ea
    subst eb
    rcases List.mem_cons.mp hp with rfl | hp
    · obtain rfl := hp_y0 hys
      obtain ⟨y0, t0, rfl, q0, g0⟩ := hp_gSi (z := (0 + (1 * x + 0))) gS rfl
      obtain ⟨t1, rfl, g1⟩ := hp_gSa g0 (by decide)
      cases hp_gSn g1
      exact e0 l' h' y0 (by omega) a1 hfr (hp_gLa gL (List.mem_of_getElem? (i := 0) rfl) (by decide)) (hp_gLa gL (List.mem_of_getElem? (i := 1) rfl) (by decide)) (hp_gLa gL (List.mem_of_getElem? (i := 2) rfl) (by decide)) (hp_gLi (z := (0 + (1 * p + 0))) gL (List.mem_of_getElem? (i := 3) rfl) rfl (by omega))
    cases hp
  · intro q hq ys v h' hys gS
    cases hq
theorem rq_pass1_k : lw_chk ly_Y 458 4 [(0, 0, 3584), (1, 0, 3584), (2, (-2147483648), 2147483647), (3, (-2147483648), 2147483647)] [((-7), [(0, 1), (1, (-1))])] [(0, .inr (.inr (.inl (some 4)))), (1, .inr (.inr (.inl (some 16)))), (2, .inr (.inr (.inl (some 94)))), (3, .inl (0, [(1, 1)]))] [.inl (0, [(3, 1)])] [(60000, (0, []), (0, [(0, 1)])), (60001, (1, [(1, 1)]), (0, [(2, 1)]))] [] [(465, ([], 4, [(0, 0, 3584), (1, 0, 3584), (2, (-2147483648), 2147483647), (3, (-2147483648), 2147483647)], [], [(0, .inr (.inr (.inl (some 4)))), (1, .inr (.inr (.inl (some 16)))), (2, .inr (.inr (.inl (some 94)))), (3, .inl (0, [(1, 1)]))], [.inl (0, [(2, 1)]), .inr (.inr (.inl (some 94)))], []))] [] 0 0 = true := by decide +kernel
theorem rq_pass1 {cst : am_K} {Φ : am_Q → Prop} {h : am_H} {l : am_L} (gC : ly_gC sx_KK cst) (hY : ∀ d, ly_Yok cst m_cl m_tt m_P m_strs ly_TH ly_Y d) (hy : ly_hy m_tt ly_TH h) (n p x a : Int) (x0 : Int32) (hx0 : x0.toInt = (a)) (b0 : 0 ≤ n) (t0 : n ≤ 3584) (b1 : 0 ≤ p) (t1 : p ≤ 3584) (b2 : (-2147483648) ≤ x) (t2 : x ≤ 2147483647) (b3 : (-2147483648) ≤ a) (t3 : a ≤ 2147483647) (f0 : 0 ≤ (n - p - 7)) (k0 : ly_hv cst h 60000 0 = some (n)) (k1 : ly_hv cst h 60001 (p + 1) = some (x)) (l0 : hp_a l 0 4) (l1 : hp_a l 1 16) (l2 : hp_a l 2 94) (l3 : hp_i l 3 (p)) (e0 : ∀ (l' : am_L) (h' : am_H) (y0 : Int32), y0.toInt = (x) → ly_hy m_tt ly_TH h' → ly_fr cst [] h h' → hp_a l' 0 4 → hp_a l' 1 16 → hp_a l' 2 94 → hp_i l' 3 (p) → lw_F cst Φ 465 l' [.int y0, .ref 94] h' 0 0) : lw_F cst Φ 458 l [.int x0] h 0 0 := by
  refine lw_arc gC hY rq_pass1_k [n, p, x, a] rfl hy (hp_Bc (z := n) rfl b0 t0 (hp_Bc (z := p) rfl b1 t1 (hp_Bc (z := x) rfl b2 t2 (hp_Bc (z := a) rfl b3 t3 hp_Bn)))) (hp_Fc (z := ((-7) + (1 * n + ((-1) * p + 0)))) rfl (by omega) hp_Fn) (hp_Kc (zi := (0 + 0)) (zv := (0 + (1 * n + 0))) k0 rfl rfl (by omega) (by omega) (hp_Kc (zi := (1 + (1 * p + 0))) (zv := (0 + (1 * x + 0))) k1 rfl rfl (by omega) (by omega) hp_Kn)) (hp_La l0 (hp_La l1 (hp_La l2 (hp_Li (z := (0 + (1 * p + 0))) l3 rfl (by omega) hp_Ln)))) (hp_Si (z := (0 + (1 * a + 0))) rfl (by omega) trivial) ?_ ?_
  · intro q hp ys l' st' h' ca sa ha hs hys a1 hfr gZ gL gS
    have ea : ca = 0 := Nat.le_zero.mp ha
    have eb : sa = 0 := Nat.le_zero.mp hs
    subst ea
    subst eb
    rcases List.mem_cons.mp hp with rfl | hp
    · obtain rfl := hp_y0 hys
      obtain ⟨y0, t0, rfl, q0, g0⟩ := hp_gSi (z := (0 + (1 * x + 0))) gS rfl
      obtain ⟨t1, rfl, g1⟩ := hp_gSa g0 (by decide)
      cases hp_gSn g1
      exact e0 l' h' y0 (by omega) a1 hfr (hp_gLa gL (List.mem_of_getElem? (i := 0) rfl) (by decide)) (hp_gLa gL (List.mem_of_getElem? (i := 1) rfl) (by decide)) (hp_gLa gL (List.mem_of_getElem? (i := 2) rfl) (by decide)) (hp_gLi (z := (0 + (1 * p + 0))) gL (List.mem_of_getElem? (i := 3) rfl) rfl (by omega))
    cases hp
  · intro q hq ys v h' hys gS
    cases hq
theorem rq_pass2_k : lw_chk ly_Y 468 3 [(0, 0, 3584), (1, 0, 3584), (2, (-2147483648), 2147483647)] [((-7), [(0, 1), (1, (-1))])] [(0, .inr (.inr (.inl (some 4)))), (1, .inr (.inr (.inl (some 16)))), (2, .inr (.inr (.inl (some 94)))), (3, .inl (0, [(1, 1)]))] [.inl (0, [(2, 1)])] [] [] [(18, ([], 3, [(0, 0, 3584), (1, 0, 3584), (2, (-2147483648), 2147483647)], [], [(0, .inr (.inr (.inl (some 4)))), (1, .inr (.inr (.inl (some 16)))), (2, .inr (.inr (.inl (some 94)))), (3, .inl (7, [(1, 1)]))], [], []))] [] 0 0 = true := by decide +kernel
theorem rq_pass2 {cst : am_K} {Φ : am_Q → Prop} {h : am_H} {l : am_L} (gC : ly_gC sx_KK cst) (hY : ∀ d, ly_Yok cst m_cl m_tt m_P m_strs ly_TH ly_Y d) (hy : ly_hy m_tt ly_TH h) (n p a : Int) (x0 : Int32) (hx0 : x0.toInt = (a)) (b0 : 0 ≤ n) (t0 : n ≤ 3584) (b1 : 0 ≤ p) (t1 : p ≤ 3584) (b2 : (-2147483648) ≤ a) (t2 : a ≤ 2147483647) (f0 : 0 ≤ (n - p - 7)) (l0 : hp_a l 0 4) (l1 : hp_a l 1 16) (l2 : hp_a l 2 94) (l3 : hp_i l 3 (p)) (e0 : ∀ (l' : am_L) (h' : am_H), ly_hy m_tt ly_TH h' → ly_fr cst [] h h' → hp_a l' 0 4 → hp_a l' 1 16 → hp_a l' 2 94 → hp_i l' 3 (p + 7) → lw_F cst Φ 18 l' [] h' 0 0) : lw_F cst Φ 468 l [.int x0] h 0 0 := by
  refine lw_arc gC hY rq_pass2_k [n, p, a] rfl hy (hp_Bc (z := n) rfl b0 t0 (hp_Bc (z := p) rfl b1 t1 (hp_Bc (z := a) rfl b2 t2 hp_Bn))) (hp_Fc (z := ((-7) + (1 * n + ((-1) * p + 0)))) rfl (by omega) hp_Fn) hp_Kn (hp_La l0 (hp_La l1 (hp_La l2 (hp_Li (z := (0 + (1 * p + 0))) l3 rfl (by omega) hp_Ln)))) (hp_Si (z := (0 + (1 * a + 0))) rfl (by omega) trivial) ?_ ?_
  · intro q hp ys l' st' h' ca sa ha hs hys a1 hfr gZ gL gS
    have ea : ca = 0 := Nat.le_zero.mp ha
    have eb : sa = 0 := Nat.le_zero.mp hs
    subst ea
    subst eb
    rcases List.mem_cons.mp hp with rfl | hp
    · obtain rfl := hp_y0 hys
      cases hp_gSn gS
      exact e0 l' h' a1 hfr (hp_gLa gL (List.mem_of_getElem? (i := 0) rfl) (by decide)) (hp_gLa gL (List.mem_of_getElem? (i := 1) rfl) (by decide)) (hp_gLa gL (List.mem_of_getElem? (i := 2) rfl) (by decide)) (hp_gLi (z := (7 + (1 * p + 0))) gL (List.mem_of_getElem? (i := 3) rfl) rfl (by omega))
    cases hp
  · intro q hq ys v h' hys gS
    cases hq
theorem lc_pass {cst : am_K} {Φ : am_Q → Prop} (gC : ly_gC sx_KK cst) (hY : ∀ d, ly_Yok cst m_cl m_tt m_P m_strs ly_TH ly_Y d) {n p : Int} {h : am_H} {l : am_L} (I : lw_I cst n p h l) (hp7 : p + 7 ≤ n)
    (k : ∀ (h' : am_H) (l' : am_L) (ca sa : Nat), ca ≤ 19 → sa ≤ 261 → lw_I cst n (p + 7) h' l' → lw_F cst Φ 18 l' [] h' ca sa) : lw_F cst Φ 449 l [] h 0 0 := by
  obtain ⟨hy, k0, n0, n1, p0, p1, ⟨t, s, k2, k3, et, s0, s1⟩, ⟨r, kr, r0, r1⟩, k4, k5, l0, l1, l2, l3, ⟨v0, vk0, vm0, vb0, vt0⟩, ⟨v1, vk1, vm1, vb1, vt1⟩, ⟨v2, vk2, vm2, vb2, vt2⟩, ⟨v3, vk3, vm3, vb3, vt3⟩, er0, er1, er2, er3⟩ := I
  obtain ⟨x, kx⟩ := lw_elem (i := p + 1) gC k0 (by omega) (by omega)
  have c46 : hp_C cst m_strs (46) := ⟨gC, lw_strs, fun d _ => hY d⟩
  have c47 : hp_C cst m_strs (47) := ⟨gC, lw_strs, fun d _ => hY d⟩
  have c48 : hp_C cst m_strs (48) := ⟨gC, lw_strs, fun d _ => hY d⟩
  have c49 : hp_C cst m_strs (49) := ⟨gC, lw_strs, fun d _ => hY d⟩
  refine rq_pass0 gC hY hy n p x.toInt n0 n1 p0 (by omega) x.le_toInt x.toInt_le (by omega) k0 kx l0 l1 l2 l3 (fun l1' h1 a0 e0 u1 f1 g0 g1 g2 g3 => ?_)
  have T0 : tr_H cst h1 h1 := ta_mv er0 hy u1 hy u1 f1 f1 rfl rfl
  obtain ⟨q1, hrun, ⟨aC, s1'⟩, s2', s3', shy, sfr, sP⟩ := bp_run (xx := a0) c47 c48 c49 (by decide) u1 vb0 vt0 (f1 _ _ _ rfl vk0) vb3 vt3 (f1 _ _ _ rfl vk3) vb2 vt2 (f1 _ _ _ rfl vk2)
  refine lw_call (pc := 455) (tg := 31) (na := 2) (c := 0) (ci := 0) (st0 := [.int a0, .ref 16]) (st := []) (av := [.int a0]) (by decide +kernel) u1 rfl rfl rfl (Nat.le_of_ble_eq_true rfl) hrun s2' s3' ?_
  rw [s1']
  have fa : ∀ rg i v, ly_has rg [10, 11015, 13824] = false → ly_hv cst h rg i = some v → ly_hv cst q1.2.1 rg i = some v := fun rg i v ha e => sfr _ _ _ ha (f1 _ _ _ rfl e)
  refine rq_pass1 gC hY shy n p x.toInt aC.toInt aC rfl n0 n1 p0 (by omega) x.le_toInt x.toInt_le aC.le_toInt aC.toInt_le (by omega) (fa _ _ _ rfl k0) (fa _ _ _ rfl kx) g0 g1 g2 g3 (fun l2' h2 b0 d0 u2 f2 o0 o1 o2 o3 => ?_)
  have fb : ∀ rg i v, ly_has rg [10, 11015, 13824] = false → ly_hv cst h rg i = some v → ly_hv cst h2 rg i = some v := fun rg i v ha e => f2 _ _ _ rfl (fa _ _ _ ha e)
  have T1 : tr_H cst h1 h2 := ta_mv (mc := []) (mm := [10, 11015, 13824]) T0 u1 u1 u1 u2 (ly_fr_rf h1) (fun rg i v ha e => f2 _ _ _ rfl (sfr rg i v ha e)) rfl rfl
  have R0 : bd_R cst h1 h1 := bd_Rmv er1 hy u1 hy u1 f1 f1 rfl rfl
  have RR : bd_R cst h1 h2 := bd_Rmv (mc := []) (mm := [10, 11015, 13824]) R0 u1 u1 u1 u2 (ly_fr_rf h1) (fun rg i v ha e => f2 _ _ _ rfl (sfr rg i v ha e)) rfl rfl
  have TT := bd_Tof (bd_Tmv er2 hy u1 f1 rfl) (f1 _ _ _ rfl vk0) (f1 _ _ _ rfl vk3)
  have NN : ∀ k a, ly_hv cst h2 22528 k = some a → a ≤ v0 := by
    rw [hp_same (mods := [10, 11015, 13824]) (show ly_ths ly_TH 88 = some (.inl (.int, 300, -2147483648, 2147483647)) from rfl) rfl hy u2 fb]
    exact bd_Nof er3 vm0
  obtain ⟨q2, hrun2, ⟨aR, w1'⟩, w2', w3', why, wfr, wP⟩ := bq_run (xx := b0) c48 c49 (by decide) u2 vb0 vt0 (fb _ _ _ rfl vm0) vb3 vt3 (fb _ _ _ rfl vm3) vb2 vt2 (fb _ _ _ rfl vm2)
  refine lw_call (pc := 465) (tg := 387) (na := 2) (c := 78) (ci := 12) (st0 := [.int b0, .ref 94]) (st := []) (av := [.int b0]) (by decide +kernel) u2 rfl rfl rfl (Nat.le_of_ble_eq_true rfl) hrun2 w2' w3' ?_
  rw [w1']
  rw [e0] at sP
  rw [d0] at wP
  obtain ⟨w, w0, w1, wv, kw1, kw2, eZ, wT, wZ⟩ := bo_pass RR T1 TT.1 TT.2 NN vb0 vt0 sP wP
  refine rq_pass2 gC hY why n p aR.toInt aR rfl n0 n1 p0 (by omega) aR.le_toInt aR.toInt_le (by omega) o0 o1 o2 o3 (fun l3' h3 u3 f3 i0 i1 i2 i3 => ?_)
  have fc : ly_fr cst [19977, 20053, 40704] q1.2.1 h3 := fun rg i v hb e => f3 _ _ _ rfl (wfr _ _ _ hb (f2 _ _ _ rfl e))
  have tt : ∀ rg i v, ly_has rg [10, 11015, 13824] = false → ly_has rg [19977, 20053, 40704] = false → ly_hv cst h rg i = some v → ly_hv cst h3 rg i = some v := fun rg i v ha hb e => fc _ _ _ hb (fa _ _ _ ha e)
  exact k h3 l3' 0 0 (by omega) (by omega) ⟨u3, tt _ _ _ rfl rfl k0, n0, n1, by omega, by omega, ⟨t, s, tt _ _ _ rfl rfl k2, tt _ _ _ rfl rfl k3, et, s0, s1⟩, ⟨r, tt _ _ _ rfl rfl kr, r0, by omega⟩, tt _ _ _ rfl rfl k4, tt _ _ _ rfl rfl k5, i0, i1, i2, i3, ⟨w, fc _ _ _ rfl kw1, f3 _ _ _ rfl kw2, w0, w1⟩, ⟨v1, tt _ _ _ rfl rfl vk1, tt _ _ _ rfl rfl vm1, vb1, vt1⟩, ⟨v2, tt _ _ _ rfl rfl vk2, tt _ _ _ rfl rfl vm2, vb2, vt2⟩, ⟨v3, tt _ _ _ rfl rfl vk3, tt _ _ _ rfl rfl vm3, vb3, vt3⟩, ta_mv (ta_mv (mc := [10, 11015, 13824]) (mm := [10, 11015, 13824]) er0 hy shy hy shy fa fa rfl rfl) shy u3 shy u3 fc fc rfl rfl, ⟨by rw [hp_same (show ly_ths ly_TH 49 = some (.inl (.int, 80, -2147483648, 2147483647)) from rfl) rfl shy u3 fc, hp_same (mods := [10, 11015, 13824]) (show ly_ths ly_TH 49 = some (.inl (.int, 80, -2147483648, 2147483647)) from rfl) rfl hy shy fa, hp_same (show ly_ths ly_TH 154 = some (.inl (.int, 80, -2147483648, 2147483647)) from rfl) rfl shy u3 fc, hp_same (mods := [10, 11015, 13824]) (show ly_ths ly_TH 154 = some (.inl (.int, 80, -2147483648, 2147483647)) from rfl) rfl hy shy fa]; exact er1.1, by rw [hp_same (show ly_ths ly_TH 50 = some (.inl (.int, 80, -2147483648, 2147483647)) from rfl) rfl shy u3 fc, hp_same (mods := [10, 11015, 13824]) (show ly_ths ly_TH 50 = some (.inl (.int, 80, -2147483648, 2147483647)) from rfl) rfl hy shy fa, hp_same (show ly_ths ly_TH 155 = some (.inl (.int, 80, -2147483648, 2147483647)) from rfl) rfl shy u3 fc, hp_same (mods := [10, 11015, 13824]) (show ly_ths ly_TH 155 = some (.inl (.int, 80, -2147483648, 2147483647)) from rfl) rfl hy shy fa]; exact er1.2.1, by rw [hp_same (show ly_ths ly_TH 51 = some (.inl (.int, 80, -2147483648, 2147483647)) from rfl) rfl shy u3 fc, hp_same (mods := [10, 11015, 13824]) (show ly_ths ly_TH 51 = some (.inl (.int, 80, -2147483648, 2147483647)) from rfl) rfl hy shy fa, hp_same (show ly_ths ly_TH 156 = some (.inl (.int, 80, -2147483648, 2147483647)) from rfl) rfl shy u3 fc, hp_same (mods := [10, 11015, 13824]) (show ly_ths ly_TH 156 = some (.inl (.int, 80, -2147483648, 2147483647)) from rfl) rfl hy shy fa]; exact er1.2.2.1, by rw [hp_same (show ly_ths ly_TH 52 = some (.inl (.int, 80, -2147483648, 2147483647)) from rfl) rfl shy u3 fc, hp_same (mods := [10, 11015, 13824]) (show ly_ths ly_TH 52 = some (.inl (.int, 80, -2147483648, 2147483647)) from rfl) rfl hy shy fa, hp_same (show ly_ths ly_TH 157 = some (.inl (.int, 80, -2147483648, 2147483647)) from rfl) rfl shy u3 fc, hp_same (mods := [10, 11015, 13824]) (show ly_ths ly_TH 157 = some (.inl (.int, 80, -2147483648, 2147483647)) from rfl) rfl hy shy fa]; exact er1.2.2.2.1, by rw [hp_same (show ly_ths ly_TH 53 = some (.inl (.int, 80, -2147483648, 2147483647)) from rfl) rfl shy u3 fc, hp_same (mods := [10, 11015, 13824]) (show ly_ths ly_TH 53 = some (.inl (.int, 80, -2147483648, 2147483647)) from rfl) rfl hy shy fa, hp_same (show ly_ths ly_TH 158 = some (.inl (.int, 80, -2147483648, 2147483647)) from rfl) rfl shy u3 fc, hp_same (mods := [10, 11015, 13824]) (show ly_ths ly_TH 158 = some (.inl (.int, 80, -2147483648, 2147483647)) from rfl) rfl hy shy fa]; exact er1.2.2.2.2.1, by rw [hp_same (show ly_ths ly_TH 54 = some (.inl (.int, 80, -2147483648, 2147483647)) from rfl) rfl shy u3 fc, hp_same (show ly_ths ly_TH 159 = some (.inl (.int, 80, -2147483648, 2147483647)) from rfl) rfl why u3 f3]; exact eZ⟩, ⟨w, v3, fc _ _ _ rfl kw1, tt _ _ _ rfl rfl vk3, by rw [hp_same (show ly_ths ly_TH 54 = some (.inl (.int, 80, -2147483648, 2147483647)) from rfl) rfl shy u3 fc, hp_same (show ly_ths ly_TH 52 = some (.inl (.int, 80, -2147483648, 2147483647)) from rfl) rfl shy u3 fc, hp_same (mods := [10, 11015, 13824]) (show ly_ths ly_TH 52 = some (.inl (.int, 80, -2147483648, 2147483647)) from rfl) rfl u1 shy sfr]; exact wT, by rw [hp_same (show ly_ths ly_TH 54 = some (.inl (.int, 80, -2147483648, 2147483647)) from rfl) rfl shy u3 fc]; exact wZ⟩, ⟨w, f3 _ _ _ rfl kw2, by rw [hp_same (show ly_ths ly_TH 88 = some (.inl (.int, 300, -2147483648, 2147483647)) from rfl) rfl shy u3 fc, hp_same (mods := [10, 11015, 13824]) (show ly_ths ly_TH 88 = some (.inl (.int, 300, -2147483648, 2147483647)) from rfl) rfl hy shy fa]; exact fun k a ha => Int.le_trans (bd_Nof er3 vm0 k a ha) wv⟩⟩
theorem rq_seen0_k : lw_chk ly_Y 1952 4 [(0, 0, 3584), (1, 0, 3584), (2, (-2147483648), 2147483647), (3, (-2147483648), 2147483647)] [((-7), [(0, 1), (1, (-1))])] [(0, .inr (.inr (.inl (some 4)))), (1, .inr (.inr (.inl (some 16)))), (2, .inr (.inr (.inl (some 94)))), (3, .inl (0, [(1, 1)]))] [] [(60000, (0, []), (0, [(0, 1)])), (60001, (1, [(1, 1)]), (0, [(2, 1)])), (60001, (2, [(1, 1)]), (0, [(3, 1)]))] [] [(1963, ([], 4, [(0, 0, 3584), (1, 0, 3584), (2, (-2147483648), 2147483647), (3, (-2147483648), 2147483647)], [], [(0, .inr (.inr (.inl (some 4)))), (1, .inr (.inr (.inl (some 16)))), (2, .inr (.inr (.inl (some 94)))), (3, .inl (0, [(1, 1)]))], [.inl (0, [(3, 1)]), .inl (0, [(2, 1)]), .inr (.inr (.inl (some 16)))], []))] [] 0 0 = true := by decide +kernel
theorem rq_seen0 {cst : am_K} {Φ : am_Q → Prop} {h : am_H} {l : am_L} (gC : ly_gC sx_KK cst) (hY : ∀ d, ly_Yok cst m_cl m_tt m_P m_strs ly_TH ly_Y d) (hy : ly_hy m_tt ly_TH h) (n p x y : Int) (b0 : 0 ≤ n) (t0 : n ≤ 3584) (b1 : 0 ≤ p) (t1 : p ≤ 3584) (b2 : (-2147483648) ≤ x) (t2 : x ≤ 2147483647) (b3 : (-2147483648) ≤ y) (t3 : y ≤ 2147483647) (f0 : 0 ≤ (n - p - 7)) (k0 : ly_hv cst h 60000 0 = some (n)) (k1 : ly_hv cst h 60001 (p + 1) = some (x)) (k2 : ly_hv cst h 60001 (p + 2) = some (y)) (l0 : hp_a l 0 4) (l1 : hp_a l 1 16) (l2 : hp_a l 2 94) (l3 : hp_i l 3 (p)) (e0 : ∀ (l' : am_L) (h' : am_H) (y0 : Int32) (y1 : Int32), y0.toInt = (y) → y1.toInt = (x) → ly_hy m_tt ly_TH h' → ly_fr cst [] h h' → hp_a l' 0 4 → hp_a l' 1 16 → hp_a l' 2 94 → hp_i l' 3 (p) → lw_F cst Φ 1963 l' [.int y0, .int y1, .ref 16] h' 0 0) : lw_F cst Φ 1952 l [] h 0 0 := by
  refine lw_arc gC hY rq_seen0_k [n, p, x, y] rfl hy (hp_Bc (z := n) rfl b0 t0 (hp_Bc (z := p) rfl b1 t1 (hp_Bc (z := x) rfl b2 t2 (hp_Bc (z := y) rfl b3 t3 hp_Bn)))) (hp_Fc (z := ((-7) + (1 * n + ((-1) * p + 0)))) rfl (by omega) hp_Fn) (hp_Kc (zi := (0 + 0)) (zv := (0 + (1 * n + 0))) k0 rfl rfl (by omega) (by omega) (hp_Kc (zi := (1 + (1 * p + 0))) (zv := (0 + (1 * x + 0))) k1 rfl rfl (by omega) (by omega) (hp_Kc (zi := (2 + (1 * p + 0))) (zv := (0 + (1 * y + 0))) k2 rfl rfl (by omega) (by omega) hp_Kn))) (hp_La l0 (hp_La l1 (hp_La l2 (hp_Li (z := (0 + (1 * p + 0))) l3 rfl (by omega) hp_Ln)))) trivial ?_ ?_
  · intro q hp ys l' st' h' ca sa ha hs hys a1 hfr gZ gL gS
    have ea : ca = 0 := Nat.le_zero.mp ha
    have eb : sa = 0 := Nat.le_zero.mp hs
    subst ea
    subst eb
    rcases List.mem_cons.mp hp with rfl | hp
    · obtain rfl := hp_y0 hys
      obtain ⟨y0, t0, rfl, q0, g0⟩ := hp_gSi (z := (0 + (1 * y + 0))) gS rfl
      obtain ⟨y1, t1, rfl, q1, g1⟩ := hp_gSi (z := (0 + (1 * x + 0))) g0 rfl
      obtain ⟨t2, rfl, g2⟩ := hp_gSa g1 (by decide)
      cases hp_gSn g2
      exact e0 l' h' y0 y1 (by omega) (by omega) a1 hfr (hp_gLa gL (List.mem_of_getElem? (i := 0) rfl) (by decide)) (hp_gLa gL (List.mem_of_getElem? (i := 1) rfl) (by decide)) (hp_gLa gL (List.mem_of_getElem? (i := 2) rfl) (by decide)) (hp_gLi (z := (0 + (1 * p + 0))) gL (List.mem_of_getElem? (i := 3) rfl) rfl (by omega))
    cases hp
  · intro q hq ys v h' hys gS
    cases hq
theorem rq_seen1_k : lw_chk ly_Y 1966 5 [(0, 0, 3584), (1, 0, 3584), (2, (-2147483648), 2147483647), (3, (-2147483648), 2147483647), (4, (-2147483648), 2147483647)] [((-7), [(0, 1), (1, (-1))])] [(0, .inr (.inr (.inl (some 4)))), (1, .inr (.inr (.inl (some 16)))), (2, .inr (.inr (.inl (some 94)))), (3, .inl (0, [(1, 1)]))] [.inl (0, [(4, 1)])] [(60000, (0, []), (0, [(0, 1)])), (60001, (1, [(1, 1)]), (0, [(2, 1)])), (60001, (2, [(1, 1)]), (0, [(3, 1)]))] [] [(1978, ([], 5, [(0, 0, 3584), (1, 0, 3584), (2, (-2147483648), 2147483647), (3, (-2147483648), 2147483647), (4, (-2147483648), 2147483647)], [], [(0, .inr (.inr (.inl (some 4)))), (1, .inr (.inr (.inl (some 16)))), (2, .inr (.inr (.inl (some 94)))), (3, .inl (0, [(1, 1)]))], [.inl (0, [(3, 1)]), .inl (0, [(2, 1)]), .inr (.inr (.inl (some 94)))], []))] [] 0 0 = true := by decide +kernel
theorem rq_seen1 {cst : am_K} {Φ : am_Q → Prop} {h : am_H} {l : am_L} (gC : ly_gC sx_KK cst) (hY : ∀ d, ly_Yok cst m_cl m_tt m_P m_strs ly_TH ly_Y d) (hy : ly_hy m_tt ly_TH h) (n p x y a : Int) (x0 : Int32) (hx0 : x0.toInt = (a)) (b0 : 0 ≤ n) (t0 : n ≤ 3584) (b1 : 0 ≤ p) (t1 : p ≤ 3584) (b2 : (-2147483648) ≤ x) (t2 : x ≤ 2147483647) (b3 : (-2147483648) ≤ y) (t3 : y ≤ 2147483647) (b4 : (-2147483648) ≤ a) (t4 : a ≤ 2147483647) (f0 : 0 ≤ (n - p - 7)) (k0 : ly_hv cst h 60000 0 = some (n)) (k1 : ly_hv cst h 60001 (p + 1) = some (x)) (k2 : ly_hv cst h 60001 (p + 2) = some (y)) (l0 : hp_a l 0 4) (l1 : hp_a l 1 16) (l2 : hp_a l 2 94) (l3 : hp_i l 3 (p)) (e0 : ∀ (l' : am_L) (h' : am_H) (y0 : Int32) (y1 : Int32), y0.toInt = (y) → y1.toInt = (x) → ly_hy m_tt ly_TH h' → ly_fr cst [] h h' → hp_a l' 0 4 → hp_a l' 1 16 → hp_a l' 2 94 → hp_i l' 3 (p) → lw_F cst Φ 1978 l' [.int y0, .int y1, .ref 94] h' 0 0) : lw_F cst Φ 1966 l [.int x0] h 0 0 := by
  refine lw_arc gC hY rq_seen1_k [n, p, x, y, a] rfl hy (hp_Bc (z := n) rfl b0 t0 (hp_Bc (z := p) rfl b1 t1 (hp_Bc (z := x) rfl b2 t2 (hp_Bc (z := y) rfl b3 t3 (hp_Bc (z := a) rfl b4 t4 hp_Bn))))) (hp_Fc (z := ((-7) + (1 * n + ((-1) * p + 0)))) rfl (by omega) hp_Fn) (hp_Kc (zi := (0 + 0)) (zv := (0 + (1 * n + 0))) k0 rfl rfl (by omega) (by omega) (hp_Kc (zi := (1 + (1 * p + 0))) (zv := (0 + (1 * x + 0))) k1 rfl rfl (by omega) (by omega) (hp_Kc (zi := (2 + (1 * p + 0))) (zv := (0 + (1 * y + 0))) k2 rfl rfl (by omega) (by omega) hp_Kn))) (hp_La l0 (hp_La l1 (hp_La l2 (hp_Li (z := (0 + (1 * p + 0))) l3 rfl (by omega) hp_Ln)))) (hp_Si (z := (0 + (1 * a + 0))) rfl (by omega) trivial) ?_ ?_
  · intro q hp ys l' st' h' ca sa ha hs hys a1 hfr gZ gL gS
    have ea : ca = 0 := Nat.le_zero.mp ha
    have eb : sa = 0 := Nat.le_zero.mp hs
    subst ea
    subst eb
    rcases List.mem_cons.mp hp with rfl | hp
    · obtain rfl := hp_y0 hys
      obtain ⟨y0, t0, rfl, q0, g0⟩ := hp_gSi (z := (0 + (1 * y + 0))) gS rfl
      obtain ⟨y1, t1, rfl, q1, g1⟩ := hp_gSi (z := (0 + (1 * x + 0))) g0 rfl
      obtain ⟨t2, rfl, g2⟩ := hp_gSa g1 (by decide)
      cases hp_gSn g2
      exact e0 l' h' y0 y1 (by omega) (by omega) a1 hfr (hp_gLa gL (List.mem_of_getElem? (i := 0) rfl) (by decide)) (hp_gLa gL (List.mem_of_getElem? (i := 1) rfl) (by decide)) (hp_gLa gL (List.mem_of_getElem? (i := 2) rfl) (by decide)) (hp_gLi (z := (0 + (1 * p + 0))) gL (List.mem_of_getElem? (i := 3) rfl) rfl (by omega))
    cases hp
  · intro q hq ys v h' hys gS
    cases hq
theorem rq_seen2_k : lw_chk ly_Y 1981 3 [(0, 0, 3584), (1, 0, 3584), (2, (-2147483648), 2147483647)] [((-7), [(0, 1), (1, (-1))])] [(0, .inr (.inr (.inl (some 4)))), (1, .inr (.inr (.inl (some 16)))), (2, .inr (.inr (.inl (some 94)))), (3, .inl (0, [(1, 1)]))] [.inl (0, [(2, 1)])] [] [] [(18, ([], 3, [(0, 0, 3584), (1, 0, 3584), (2, (-2147483648), 2147483647)], [], [(0, .inr (.inr (.inl (some 4)))), (1, .inr (.inr (.inl (some 16)))), (2, .inr (.inr (.inl (some 94)))), (3, .inl (7, [(1, 1)]))], [], []))] [] 0 0 = true := by decide +kernel
theorem rq_seen2 {cst : am_K} {Φ : am_Q → Prop} {h : am_H} {l : am_L} (gC : ly_gC sx_KK cst) (hY : ∀ d, ly_Yok cst m_cl m_tt m_P m_strs ly_TH ly_Y d) (hy : ly_hy m_tt ly_TH h) (n p a : Int) (x0 : Int32) (hx0 : x0.toInt = (a)) (b0 : 0 ≤ n) (t0 : n ≤ 3584) (b1 : 0 ≤ p) (t1 : p ≤ 3584) (b2 : (-2147483648) ≤ a) (t2 : a ≤ 2147483647) (f0 : 0 ≤ (n - p - 7)) (l0 : hp_a l 0 4) (l1 : hp_a l 1 16) (l2 : hp_a l 2 94) (l3 : hp_i l 3 (p)) (e0 : ∀ (l' : am_L) (h' : am_H), ly_hy m_tt ly_TH h' → ly_fr cst [] h h' → hp_a l' 0 4 → hp_a l' 1 16 → hp_a l' 2 94 → hp_i l' 3 (p + 7) → lw_F cst Φ 18 l' [] h' 0 0) : lw_F cst Φ 1981 l [.int x0] h 0 0 := by
  refine lw_arc gC hY rq_seen2_k [n, p, a] rfl hy (hp_Bc (z := n) rfl b0 t0 (hp_Bc (z := p) rfl b1 t1 (hp_Bc (z := a) rfl b2 t2 hp_Bn))) (hp_Fc (z := ((-7) + (1 * n + ((-1) * p + 0)))) rfl (by omega) hp_Fn) hp_Kn (hp_La l0 (hp_La l1 (hp_La l2 (hp_Li (z := (0 + (1 * p + 0))) l3 rfl (by omega) hp_Ln)))) (hp_Si (z := (0 + (1 * a + 0))) rfl (by omega) trivial) ?_ ?_
  · intro q hp ys l' st' h' ca sa ha hs hys a1 hfr gZ gL gS
    have ea : ca = 0 := Nat.le_zero.mp ha
    have eb : sa = 0 := Nat.le_zero.mp hs
    subst ea
    subst eb
    rcases List.mem_cons.mp hp with rfl | hp
    · obtain rfl := hp_y0 hys
      cases hp_gSn gS
      exact e0 l' h' a1 hfr (hp_gLa gL (List.mem_of_getElem? (i := 0) rfl) (by decide)) (hp_gLa gL (List.mem_of_getElem? (i := 1) rfl) (by decide)) (hp_gLa gL (List.mem_of_getElem? (i := 2) rfl) (by decide)) (hp_gLi (z := (7 + (1 * p + 0))) gL (List.mem_of_getElem? (i := 3) rfl) rfl (by omega))
    cases hp
  · intro q hq ys v h' hys gS
    cases hq
theorem lc_seen {cst : am_K} {Φ : am_Q → Prop} (gC : ly_gC sx_KK cst) (hY : ∀ d, ly_Yok cst m_cl m_tt m_P m_strs ly_TH ly_Y d) {n p : Int} {h : am_H} {l : am_L} (I : lw_I cst n p h l) (hp7 : p + 7 ≤ n)
    (k : ∀ (h' : am_H) (l' : am_L) (ca sa : Nat), ca ≤ 19 → sa ≤ 261 → lw_I cst n (p + 7) h' l' → lw_F cst Φ 18 l' [] h' ca sa) : lw_F cst Φ 1952 l [] h 0 0 := by
  obtain ⟨hy, k0, n0, n1, p0, p1, ⟨t, s, k2, k3, et, s0, s1⟩, ⟨r, kr, r0, r1⟩, k4, k5, l0, l1, l2, l3, ⟨v0, vk0, vm0, vb0, vt0⟩, ⟨v1, vk1, vm1, vb1, vt1⟩, ⟨v2, vk2, vm2, vb2, vt2⟩, ⟨v3, vk3, vm3, vb3, vt3⟩, er0, er1, er2, er3⟩ := I
  obtain ⟨x, kx⟩ := lw_elem (i := p + 1) gC k0 (by omega) (by omega)
  obtain ⟨y, ky⟩ := lw_elem (i := p + 2) gC k0 (by omega) (by omega)
  have c46 : hp_C cst m_strs (46) := ⟨gC, lw_strs, fun d _ => hY d⟩
  have c47 : hp_C cst m_strs (47) := ⟨gC, lw_strs, fun d _ => hY d⟩
  have c48 : hp_C cst m_strs (48) := ⟨gC, lw_strs, fun d _ => hY d⟩
  have c49 : hp_C cst m_strs (49) := ⟨gC, lw_strs, fun d _ => hY d⟩
  refine rq_seen0 gC hY hy n p x.toInt y.toInt n0 n1 p0 (by omega) x.le_toInt x.toInt_le y.le_toInt y.toInt_le (by omega) k0 kx ky l0 l1 l2 l3 (fun l1' h1 a0 a1 e0 e1 u1 f1 g0 g1 g2 g3 => ?_)
  have T0 : tr_H cst h1 h1 := ta_mv er0 hy u1 hy u1 f1 f1 rfl rfl
  obtain ⟨q1, hrun, ⟨aC, s1'⟩, s2', s3', shy, sfr, sP⟩ := bsc_run (xp := a1) (xs := a0) c48 c49 (by decide) u1 vb1 vt1 (f1 _ _ _ rfl vk1) vb3 vt3 (f1 _ _ _ rfl vk3) vb0 vt0 (f1 _ _ _ rfl vk0)
  refine lw_call (pc := 1963) (tg := 208) (na := 3) (c := 0) (ci := 0) (st0 := [.int a0, .int a1, .ref 16]) (st := []) (av := [.int a1, .int a0]) (by decide +kernel) u1 rfl rfl rfl (Nat.le_of_ble_eq_true rfl) hrun s2' s3' ?_
  rw [s1']
  have fa : ∀ rg i v, ly_has rg bs_mc = false → ly_hv cst h rg i = some v → ly_hv cst q1.2.1 rg i = some v := fun rg i v ha e => sfr _ _ _ ha (f1 _ _ _ rfl e)
  refine rq_seen1 gC hY shy n p x.toInt y.toInt aC.toInt aC rfl n0 n1 p0 (by omega) x.le_toInt x.toInt_le y.le_toInt y.toInt_le aC.le_toInt aC.toInt_le (by omega) (fa _ _ _ rfl k0) (fa _ _ _ rfl kx) (fa _ _ _ rfl ky) g0 g1 g2 g3 (fun l2' h2 b0 b1 d0 d1 u2 f2 o0 o1 o2 o3 => ?_)
  have fb : ∀ rg i v, ly_has rg bs_mc = false → ly_hv cst h rg i = some v → ly_hv cst h2 rg i = some v := fun rg i v ha e => f2 _ _ _ rfl (fa _ _ _ ha e)
  have T1 : tr_H cst h1 h2 := ta_mv (mc := []) (mm := bs_mc) T0 u1 u1 u1 u2 (ly_fr_rf h1) (fun rg i v ha e => f2 _ _ _ rfl (sfr rg i v ha e)) rfl rfl
  have R0 : bd_R cst h1 h1 := bd_Rmv er1 hy u1 hy u1 f1 f1 rfl rfl
  have RR : bd_R cst h1 h2 := bd_Rmv (mc := []) (mm := bs_mc) R0 u1 u1 u1 u2 (ly_fr_rf h1) (fun rg i v ha e => f2 _ _ _ rfl (sfr rg i v ha e)) rfl rfl
  have TT := bd_Tof (bd_Tmv er2 hy u1 f1 rfl) (f1 _ _ _ rfl vk0) (f1 _ _ _ rfl vk3)
  have NN : ∀ k a, ly_hv cst h2 22528 k = some a → a ≤ v0 := by
    rw [hp_same (mods := bs_mc) (show ly_ths ly_TH 88 = some (.inl (.int, 300, -2147483648, 2147483647)) from rfl) rfl hy u2 fb]
    exact bd_Nof er3 vm0
  obtain ⟨q2, hrun2, ⟨aR, w1'⟩, w2', w3', why, wfr, wP⟩ := bsm_run (xp := b1) (xs := b0) c49 (by decide) u2 vb1 vt1 (fb _ _ _ rfl vm1) vb3 vt3 (fb _ _ _ rfl vm3) vb0 vt0 (fb _ _ _ rfl vm0)
  refine lw_call (pc := 1978) (tg := 388) (na := 3) (c := 78) (ci := 12) (st0 := [.int b0, .int b1, .ref 94]) (st := []) (av := [.int b1, .int b0]) (by decide +kernel) u2 rfl rfl rfl (Nat.le_of_ble_eq_true rfl) hrun2 w2' w3' ?_
  rw [w1']
  rw [e0, e1] at sP
  rw [d0, d1] at wP
  obtain ⟨eZ, wT, wZ⟩ := bs_seen RR TT.1 TT.2 sP wP
  refine rq_seen2 gC hY why n p aR.toInt aR rfl n0 n1 p0 (by omega) aR.le_toInt aR.toInt_le (by omega) o0 o1 o2 o3 (fun l3' h3 u3 f3 i0 i1 i2 i3 => ?_)
  have fc : ly_fr cst bs_mm q1.2.1 h3 := fun rg i v hb e => f3 _ _ _ rfl (wfr _ _ _ hb (f2 _ _ _ rfl e))
  have tt : ∀ rg i v, ly_has rg bs_mc = false → ly_has rg bs_mm = false → ly_hv cst h rg i = some v → ly_hv cst h3 rg i = some v := fun rg i v ha hb e => fc _ _ _ hb (fa _ _ _ ha e)
  exact k h3 l3' 0 0 (by omega) (by omega) ⟨u3, tt _ _ _ rfl rfl k0, n0, n1, by omega, by omega, ⟨t, s, tt _ _ _ rfl rfl k2, tt _ _ _ rfl rfl k3, et, s0, s1⟩, ⟨r, tt _ _ _ rfl rfl kr, r0, by omega⟩, tt _ _ _ rfl rfl k4, tt _ _ _ rfl rfl k5, i0, i1, i2, i3, ⟨v0, tt _ _ _ rfl rfl vk0, tt _ _ _ rfl rfl vm0, vb0, vt0⟩, ⟨v1, tt _ _ _ rfl rfl vk1, tt _ _ _ rfl rfl vm1, vb1, vt1⟩, ⟨v2, tt _ _ _ rfl rfl vk2, tt _ _ _ rfl rfl vm2, vb2, vt2⟩, ⟨v3, tt _ _ _ rfl rfl vk3, tt _ _ _ rfl rfl vm3, vb3, vt3⟩, ta_mv (ta_mv (mc := bs_mc) (mm := bs_mc) er0 hy shy hy shy fa fa rfl rfl) shy u3 shy u3 fc fc rfl rfl, ⟨by rw [hp_same (show ly_ths ly_TH 49 = some (.inl (.int, 80, -2147483648, 2147483647)) from rfl) rfl shy u3 fc, hp_same (mods := bs_mc) (show ly_ths ly_TH 49 = some (.inl (.int, 80, -2147483648, 2147483647)) from rfl) rfl hy shy fa, hp_same (show ly_ths ly_TH 154 = some (.inl (.int, 80, -2147483648, 2147483647)) from rfl) rfl shy u3 fc, hp_same (mods := bs_mc) (show ly_ths ly_TH 154 = some (.inl (.int, 80, -2147483648, 2147483647)) from rfl) rfl hy shy fa]; exact er1.1, by rw [hp_same (show ly_ths ly_TH 50 = some (.inl (.int, 80, -2147483648, 2147483647)) from rfl) rfl shy u3 fc, hp_same (mods := bs_mc) (show ly_ths ly_TH 50 = some (.inl (.int, 80, -2147483648, 2147483647)) from rfl) rfl hy shy fa, hp_same (show ly_ths ly_TH 155 = some (.inl (.int, 80, -2147483648, 2147483647)) from rfl) rfl shy u3 fc, hp_same (mods := bs_mc) (show ly_ths ly_TH 155 = some (.inl (.int, 80, -2147483648, 2147483647)) from rfl) rfl hy shy fa]; exact er1.2.1, by rw [hp_same (show ly_ths ly_TH 51 = some (.inl (.int, 80, -2147483648, 2147483647)) from rfl) rfl shy u3 fc, hp_same (mods := bs_mc) (show ly_ths ly_TH 51 = some (.inl (.int, 80, -2147483648, 2147483647)) from rfl) rfl hy shy fa, hp_same (show ly_ths ly_TH 156 = some (.inl (.int, 80, -2147483648, 2147483647)) from rfl) rfl shy u3 fc, hp_same (mods := bs_mc) (show ly_ths ly_TH 156 = some (.inl (.int, 80, -2147483648, 2147483647)) from rfl) rfl hy shy fa]; exact er1.2.2.1, by rw [hp_same (show ly_ths ly_TH 52 = some (.inl (.int, 80, -2147483648, 2147483647)) from rfl) rfl shy u3 fc, hp_same (mods := bs_mc) (show ly_ths ly_TH 52 = some (.inl (.int, 80, -2147483648, 2147483647)) from rfl) rfl hy shy fa, hp_same (show ly_ths ly_TH 157 = some (.inl (.int, 80, -2147483648, 2147483647)) from rfl) rfl shy u3 fc, hp_same (mods := bs_mc) (show ly_ths ly_TH 157 = some (.inl (.int, 80, -2147483648, 2147483647)) from rfl) rfl hy shy fa]; exact er1.2.2.2.1, by rw [hp_same (show ly_ths ly_TH 53 = some (.inl (.int, 80, -2147483648, 2147483647)) from rfl) rfl shy u3 fc, hp_same (mods := bs_mc) (show ly_ths ly_TH 53 = some (.inl (.int, 80, -2147483648, 2147483647)) from rfl) rfl hy shy fa, hp_same (show ly_ths ly_TH 158 = some (.inl (.int, 80, -2147483648, 2147483647)) from rfl) rfl shy u3 fc, hp_same (mods := bs_mc) (show ly_ths ly_TH 158 = some (.inl (.int, 80, -2147483648, 2147483647)) from rfl) rfl hy shy fa]; exact er1.2.2.2.2.1, by rw [hp_same (show ly_ths ly_TH 54 = some (.inl (.int, 80, -2147483648, 2147483647)) from rfl) rfl shy u3 fc, hp_same (show ly_ths ly_TH 159 = some (.inl (.int, 80, -2147483648, 2147483647)) from rfl) rfl why u3 f3]; exact eZ⟩, ⟨v0, v3, tt _ _ _ rfl rfl vk0, tt _ _ _ rfl rfl vk3, by rw [hp_same (show ly_ths ly_TH 54 = some (.inl (.int, 80, -2147483648, 2147483647)) from rfl) rfl shy u3 fc, hp_same (show ly_ths ly_TH 52 = some (.inl (.int, 80, -2147483648, 2147483647)) from rfl) rfl shy u3 fc, hp_same (mods := bs_mc) (show ly_ths ly_TH 52 = some (.inl (.int, 80, -2147483648, 2147483647)) from rfl) rfl u1 shy sfr]; exact wT, by rw [hp_same (show ly_ths ly_TH 54 = some (.inl (.int, 80, -2147483648, 2147483647)) from rfl) rfl shy u3 fc]; exact wZ⟩, bd_Nmv (bd_Nmv (ms := bs_mc) er3 hy shy fa rfl) shy u3 fc rfl⟩
theorem rq_bond0_k : lw_chk ly_Y 1889 7 [(0, 0, 3584), (1, 0, 3584), (2, (-2147483648), 2147483647), (3, (-2147483648), 2147483647), (4, (-2147483648), 2147483647), (5, (-2147483648), 2147483647), (6, (-2147483648), 2147483647)] [((-7), [(0, 1), (1, (-1))])] [(0, .inr (.inr (.inl (some 4)))), (1, .inr (.inr (.inl (some 16)))), (2, .inr (.inr (.inl (some 94)))), (3, .inl (0, [(1, 1)]))] [] [(60000, (0, []), (0, [(0, 1)])), (60001, (1, [(1, 1)]), (0, [(2, 1)])), (60001, (2, [(1, 1)]), (0, [(3, 1)])), (60001, (3, [(1, 1)]), (0, [(4, 1)])), (60001, (4, [(1, 1)]), (0, [(5, 1)])), (60001, (5, [(1, 1)]), (0, [(6, 1)]))] [] [(1915, ([], 7, [(0, 0, 3584), (1, 0, 3584), (2, (-2147483648), 2147483647), (3, (-2147483648), 2147483647), (4, (-2147483648), 2147483647), (5, (-2147483648), 2147483647), (6, (-2147483648), 2147483647)], [], [(0, .inr (.inr (.inl (some 4)))), (1, .inr (.inr (.inl (some 16)))), (2, .inr (.inr (.inl (some 94)))), (3, .inl (0, [(1, 1)]))], [.inl (0, [(6, 1)]), .inl (0, [(5, 1)]), .inl (0, [(4, 1)]), .inl (0, [(3, 1)]), .inl (0, [(2, 1)]), .inr (.inr (.inl (some 16)))], []))] [] 0 0 = true := by decide +kernel
theorem rq_bond0 {cst : am_K} {Φ : am_Q → Prop} {h : am_H} {l : am_L} (gC : ly_gC sx_KK cst) (hY : ∀ d, ly_Yok cst m_cl m_tt m_P m_strs ly_TH ly_Y d) (hy : ly_hy m_tt ly_TH h) (n p x y z x4 x5 : Int) (b0 : 0 ≤ n) (t0 : n ≤ 3584) (b1 : 0 ≤ p) (t1 : p ≤ 3584) (b2 : (-2147483648) ≤ x) (t2 : x ≤ 2147483647) (b3 : (-2147483648) ≤ y) (t3 : y ≤ 2147483647) (b4 : (-2147483648) ≤ z) (t4 : z ≤ 2147483647) (b5 : (-2147483648) ≤ x4) (t5 : x4 ≤ 2147483647) (b6 : (-2147483648) ≤ x5) (t6 : x5 ≤ 2147483647) (f0 : 0 ≤ (n - p - 7)) (k0 : ly_hv cst h 60000 0 = some (n)) (k1 : ly_hv cst h 60001 (p + 1) = some (x)) (k2 : ly_hv cst h 60001 (p + 2) = some (y)) (k3 : ly_hv cst h 60001 (p + 3) = some (z)) (k4 : ly_hv cst h 60001 (p + 4) = some (x4)) (k5 : ly_hv cst h 60001 (p + 5) = some (x5)) (l0 : hp_a l 0 4) (l1 : hp_a l 1 16) (l2 : hp_a l 2 94) (l3 : hp_i l 3 (p)) (e0 : ∀ (l' : am_L) (h' : am_H) (y0 : Int32) (y1 : Int32) (y2 : Int32) (y3 : Int32) (y4 : Int32), y0.toInt = (x5) → y1.toInt = (x4) → y2.toInt = (z) → y3.toInt = (y) → y4.toInt = (x) → ly_hy m_tt ly_TH h' → ly_fr cst [] h h' → hp_a l' 0 4 → hp_a l' 1 16 → hp_a l' 2 94 → hp_i l' 3 (p) → lw_F cst Φ 1915 l' [.int y0, .int y1, .int y2, .int y3, .int y4, .ref 16] h' 0 0) : lw_F cst Φ 1889 l [] h 0 0 := by
  refine lw_arc gC hY rq_bond0_k [n, p, x, y, z, x4, x5] rfl hy (hp_Bc (z := n) rfl b0 t0 (hp_Bc (z := p) rfl b1 t1 (hp_Bc (z := x) rfl b2 t2 (hp_Bc (z := y) rfl b3 t3 (hp_Bc (z := z) rfl b4 t4 (hp_Bc (z := x4) rfl b5 t5 (hp_Bc (z := x5) rfl b6 t6 hp_Bn))))))) (hp_Fc (z := ((-7) + (1 * n + ((-1) * p + 0)))) rfl (by omega) hp_Fn) (hp_Kc (zi := (0 + 0)) (zv := (0 + (1 * n + 0))) k0 rfl rfl (by omega) (by omega) (hp_Kc (zi := (1 + (1 * p + 0))) (zv := (0 + (1 * x + 0))) k1 rfl rfl (by omega) (by omega) (hp_Kc (zi := (2 + (1 * p + 0))) (zv := (0 + (1 * y + 0))) k2 rfl rfl (by omega) (by omega) (hp_Kc (zi := (3 + (1 * p + 0))) (zv := (0 + (1 * z + 0))) k3 rfl rfl (by omega) (by omega) (hp_Kc (zi := (4 + (1 * p + 0))) (zv := (0 + (1 * x4 + 0))) k4 rfl rfl (by omega) (by omega) (hp_Kc (zi := (5 + (1 * p + 0))) (zv := (0 + (1 * x5 + 0))) k5 rfl rfl (by omega) (by omega) hp_Kn)))))) (hp_La l0 (hp_La l1 (hp_La l2 (hp_Li (z := (0 + (1 * p + 0))) l3 rfl (by omega) hp_Ln)))) trivial ?_ ?_
  · intro q hp ys l' st' h' ca sa ha hs hys a1 hfr gZ gL gS
    have ea : ca = 0 := Nat.le_zero.mp ha
    have eb : sa = 0 := Nat.le_zero.mp hs
    subst ea
    subst eb
    rcases List.mem_cons.mp hp with rfl | hp
    · obtain rfl := hp_y0 hys
      obtain ⟨y0, t0, rfl, q0, g0⟩ := hp_gSi (z := (0 + (1 * x5 + 0))) gS rfl
      obtain ⟨y1, t1, rfl, q1, g1⟩ := hp_gSi (z := (0 + (1 * x4 + 0))) g0 rfl
      obtain ⟨y2, t2, rfl, q2, g2⟩ := hp_gSi (z := (0 + (1 * z + 0))) g1 rfl
      obtain ⟨y3, t3, rfl, q3, g3⟩ := hp_gSi (z := (0 + (1 * y + 0))) g2 rfl
      obtain ⟨y4, t4, rfl, q4, g4⟩ := hp_gSi (z := (0 + (1 * x + 0))) g3 rfl
      obtain ⟨t5, rfl, g5⟩ := hp_gSa g4 (by decide)
      cases hp_gSn g5
      exact e0 l' h' y0 y1 y2 y3 y4 (by omega) (by omega) (by omega) (by omega) (by omega) a1 hfr (hp_gLa gL (List.mem_of_getElem? (i := 0) rfl) (by decide)) (hp_gLa gL (List.mem_of_getElem? (i := 1) rfl) (by decide)) (hp_gLa gL (List.mem_of_getElem? (i := 2) rfl) (by decide)) (hp_gLi (z := (0 + (1 * p + 0))) gL (List.mem_of_getElem? (i := 3) rfl) rfl (by omega))
    cases hp
  · intro q hq ys v h' hys gS
    cases hq
theorem rq_bond1_k : lw_chk ly_Y 1918 8 [(0, 0, 3584), (1, 0, 3584), (2, (-2147483648), 2147483647), (3, (-2147483648), 2147483647), (4, (-2147483648), 2147483647), (5, (-2147483648), 2147483647), (6, (-2147483648), 2147483647), (7, (-2147483648), 2147483647)] [((-7), [(0, 1), (1, (-1))])] [(0, .inr (.inr (.inl (some 4)))), (1, .inr (.inr (.inl (some 16)))), (2, .inr (.inr (.inl (some 94)))), (3, .inl (0, [(1, 1)]))] [.inl (0, [(7, 1)])] [(60000, (0, []), (0, [(0, 1)])), (60001, (1, [(1, 1)]), (0, [(2, 1)])), (60001, (2, [(1, 1)]), (0, [(3, 1)])), (60001, (3, [(1, 1)]), (0, [(4, 1)])), (60001, (4, [(1, 1)]), (0, [(5, 1)])), (60001, (5, [(1, 1)]), (0, [(6, 1)]))] [] [(1945, ([], 8, [(0, 0, 3584), (1, 0, 3584), (2, (-2147483648), 2147483647), (3, (-2147483648), 2147483647), (4, (-2147483648), 2147483647), (5, (-2147483648), 2147483647), (6, (-2147483648), 2147483647), (7, (-2147483648), 2147483647)], [], [(0, .inr (.inr (.inl (some 4)))), (1, .inr (.inr (.inl (some 16)))), (2, .inr (.inr (.inl (some 94)))), (3, .inl (0, [(1, 1)]))], [.inl (0, [(6, 1)]), .inl (0, [(5, 1)]), .inl (0, [(4, 1)]), .inl (0, [(3, 1)]), .inl (0, [(2, 1)]), .inr (.inr (.inl (some 94)))], []))] [] 0 0 = true := by decide +kernel
theorem rq_bond1 {cst : am_K} {Φ : am_Q → Prop} {h : am_H} {l : am_L} (gC : ly_gC sx_KK cst) (hY : ∀ d, ly_Yok cst m_cl m_tt m_P m_strs ly_TH ly_Y d) (hy : ly_hy m_tt ly_TH h) (n p x y z x4 x5 a : Int) (x0 : Int32) (hx0 : x0.toInt = (a)) (b0 : 0 ≤ n) (t0 : n ≤ 3584) (b1 : 0 ≤ p) (t1 : p ≤ 3584) (b2 : (-2147483648) ≤ x) (t2 : x ≤ 2147483647) (b3 : (-2147483648) ≤ y) (t3 : y ≤ 2147483647) (b4 : (-2147483648) ≤ z) (t4 : z ≤ 2147483647) (b5 : (-2147483648) ≤ x4) (t5 : x4 ≤ 2147483647) (b6 : (-2147483648) ≤ x5) (t6 : x5 ≤ 2147483647) (b7 : (-2147483648) ≤ a) (t7 : a ≤ 2147483647) (f0 : 0 ≤ (n - p - 7)) (k0 : ly_hv cst h 60000 0 = some (n)) (k1 : ly_hv cst h 60001 (p + 1) = some (x)) (k2 : ly_hv cst h 60001 (p + 2) = some (y)) (k3 : ly_hv cst h 60001 (p + 3) = some (z)) (k4 : ly_hv cst h 60001 (p + 4) = some (x4)) (k5 : ly_hv cst h 60001 (p + 5) = some (x5)) (l0 : hp_a l 0 4) (l1 : hp_a l 1 16) (l2 : hp_a l 2 94) (l3 : hp_i l 3 (p)) (e0 : ∀ (l' : am_L) (h' : am_H) (y0 : Int32) (y1 : Int32) (y2 : Int32) (y3 : Int32) (y4 : Int32), y0.toInt = (x5) → y1.toInt = (x4) → y2.toInt = (z) → y3.toInt = (y) → y4.toInt = (x) → ly_hy m_tt ly_TH h' → ly_fr cst [] h h' → hp_a l' 0 4 → hp_a l' 1 16 → hp_a l' 2 94 → hp_i l' 3 (p) → lw_F cst Φ 1945 l' [.int y0, .int y1, .int y2, .int y3, .int y4, .ref 94] h' 0 0) : lw_F cst Φ 1918 l [.int x0] h 0 0 := by
  refine lw_arc gC hY rq_bond1_k [n, p, x, y, z, x4, x5, a] rfl hy (hp_Bc (z := n) rfl b0 t0 (hp_Bc (z := p) rfl b1 t1 (hp_Bc (z := x) rfl b2 t2 (hp_Bc (z := y) rfl b3 t3 (hp_Bc (z := z) rfl b4 t4 (hp_Bc (z := x4) rfl b5 t5 (hp_Bc (z := x5) rfl b6 t6 (hp_Bc (z := a) rfl b7 t7 hp_Bn)))))))) (hp_Fc (z := ((-7) + (1 * n + ((-1) * p + 0)))) rfl (by omega) hp_Fn) (hp_Kc (zi := (0 + 0)) (zv := (0 + (1 * n + 0))) k0 rfl rfl (by omega) (by omega) (hp_Kc (zi := (1 + (1 * p + 0))) (zv := (0 + (1 * x + 0))) k1 rfl rfl (by omega) (by omega) (hp_Kc (zi := (2 + (1 * p + 0))) (zv := (0 + (1 * y + 0))) k2 rfl rfl (by omega) (by omega) (hp_Kc (zi := (3 + (1 * p + 0))) (zv := (0 + (1 * z + 0))) k3 rfl rfl (by omega) (by omega) (hp_Kc (zi := (4 + (1 * p + 0))) (zv := (0 + (1 * x4 + 0))) k4 rfl rfl (by omega) (by omega) (hp_Kc (zi := (5 + (1 * p + 0))) (zv := (0 + (1 * x5 + 0))) k5 rfl rfl (by omega) (by omega) hp_Kn)))))) (hp_La l0 (hp_La l1 (hp_La l2 (hp_Li (z := (0 + (1 * p + 0))) l3 rfl (by omega) hp_Ln)))) (hp_Si (z := (0 + (1 * a + 0))) rfl (by omega) trivial) ?_ ?_
  · intro q hp ys l' st' h' ca sa ha hs hys a1 hfr gZ gL gS
    have ea : ca = 0 := Nat.le_zero.mp ha
    have eb : sa = 0 := Nat.le_zero.mp hs
    subst ea
    subst eb
    rcases List.mem_cons.mp hp with rfl | hp
    · obtain rfl := hp_y0 hys
      obtain ⟨y0, t0, rfl, q0, g0⟩ := hp_gSi (z := (0 + (1 * x5 + 0))) gS rfl
      obtain ⟨y1, t1, rfl, q1, g1⟩ := hp_gSi (z := (0 + (1 * x4 + 0))) g0 rfl
      obtain ⟨y2, t2, rfl, q2, g2⟩ := hp_gSi (z := (0 + (1 * z + 0))) g1 rfl
      obtain ⟨y3, t3, rfl, q3, g3⟩ := hp_gSi (z := (0 + (1 * y + 0))) g2 rfl
      obtain ⟨y4, t4, rfl, q4, g4⟩ := hp_gSi (z := (0 + (1 * x + 0))) g3 rfl
      obtain ⟨t5, rfl, g5⟩ := hp_gSa g4 (by decide)
      cases hp_gSn g5
      exact e0 l' h' y0 y1 y2 y3 y4 (by omega) (by omega) (by omega) (by omega) (by omega) a1 hfr (hp_gLa gL (List.mem_of_getElem? (i := 0) rfl) (by decide)) (hp_gLa gL (List.mem_of_getElem? (i := 1) rfl) (by decide)) (hp_gLa gL (List.mem_of_getElem? (i := 2) rfl) (by decide)) (hp_gLi (z := (0 + (1 * p + 0))) gL (List.mem_of_getElem? (i := 3) rfl) rfl (by omega))
    cases hp
  · intro q hq ys v h' hys gS
    cases hq
theorem rq_bond2_k : lw_chk ly_Y 1948 3 [(0, 0, 3584), (1, 0, 3584), (2, (-2147483648), 2147483647)] [((-7), [(0, 1), (1, (-1))])] [(0, .inr (.inr (.inl (some 4)))), (1, .inr (.inr (.inl (some 16)))), (2, .inr (.inr (.inl (some 94)))), (3, .inl (0, [(1, 1)]))] [.inl (0, [(2, 1)])] [] [] [(18, ([], 3, [(0, 0, 3584), (1, 0, 3584), (2, (-2147483648), 2147483647)], [], [(0, .inr (.inr (.inl (some 4)))), (1, .inr (.inr (.inl (some 16)))), (2, .inr (.inr (.inl (some 94)))), (3, .inl (7, [(1, 1)]))], [], []))] [] 0 0 = true := by decide +kernel
theorem rq_bond2 {cst : am_K} {Φ : am_Q → Prop} {h : am_H} {l : am_L} (gC : ly_gC sx_KK cst) (hY : ∀ d, ly_Yok cst m_cl m_tt m_P m_strs ly_TH ly_Y d) (hy : ly_hy m_tt ly_TH h) (n p a : Int) (x0 : Int32) (hx0 : x0.toInt = (a)) (b0 : 0 ≤ n) (t0 : n ≤ 3584) (b1 : 0 ≤ p) (t1 : p ≤ 3584) (b2 : (-2147483648) ≤ a) (t2 : a ≤ 2147483647) (f0 : 0 ≤ (n - p - 7)) (l0 : hp_a l 0 4) (l1 : hp_a l 1 16) (l2 : hp_a l 2 94) (l3 : hp_i l 3 (p)) (e0 : ∀ (l' : am_L) (h' : am_H), ly_hy m_tt ly_TH h' → ly_fr cst [] h h' → hp_a l' 0 4 → hp_a l' 1 16 → hp_a l' 2 94 → hp_i l' 3 (p + 7) → lw_F cst Φ 18 l' [] h' 0 0) : lw_F cst Φ 1948 l [.int x0] h 0 0 := by
  refine lw_arc gC hY rq_bond2_k [n, p, a] rfl hy (hp_Bc (z := n) rfl b0 t0 (hp_Bc (z := p) rfl b1 t1 (hp_Bc (z := a) rfl b2 t2 hp_Bn))) (hp_Fc (z := ((-7) + (1 * n + ((-1) * p + 0)))) rfl (by omega) hp_Fn) hp_Kn (hp_La l0 (hp_La l1 (hp_La l2 (hp_Li (z := (0 + (1 * p + 0))) l3 rfl (by omega) hp_Ln)))) (hp_Si (z := (0 + (1 * a + 0))) rfl (by omega) trivial) ?_ ?_
  · intro q hp ys l' st' h' ca sa ha hs hys a1 hfr gZ gL gS
    have ea : ca = 0 := Nat.le_zero.mp ha
    have eb : sa = 0 := Nat.le_zero.mp hs
    subst ea
    subst eb
    rcases List.mem_cons.mp hp with rfl | hp
    · obtain rfl := hp_y0 hys
      cases hp_gSn gS
      exact e0 l' h' a1 hfr (hp_gLa gL (List.mem_of_getElem? (i := 0) rfl) (by decide)) (hp_gLa gL (List.mem_of_getElem? (i := 1) rfl) (by decide)) (hp_gLa gL (List.mem_of_getElem? (i := 2) rfl) (by decide)) (hp_gLi (z := (7 + (1 * p + 0))) gL (List.mem_of_getElem? (i := 3) rfl) rfl (by omega))
    cases hp
  · intro q hq ys v h' hys gS
    cases hq
theorem lc_bond {cst : am_K} {Φ : am_Q → Prop} (gC : ly_gC sx_KK cst) (hY : ∀ d, ly_Yok cst m_cl m_tt m_P m_strs ly_TH ly_Y d) {n p : Int} {h : am_H} {l : am_L} (I : lw_I cst n p h l) (hp7 : p + 7 ≤ n)
    (k : ∀ (h' : am_H) (l' : am_L) (ca sa : Nat), ca ≤ 19 → sa ≤ 261 → lw_I cst n (p + 7) h' l' → lw_F cst Φ 18 l' [] h' ca sa) : lw_F cst Φ 1889 l [] h 0 0 := by
  obtain ⟨hy, k0, n0, n1, p0, p1, ⟨t, s, k2, k3, et, s0, s1⟩, ⟨r, kr, r0, r1⟩, k4, k5, l0, l1, l2, l3, ⟨v0, vk0, vm0, vb0, vt0⟩, ⟨v1, vk1, vm1, vb1, vt1⟩, ⟨v2, vk2, vm2, vb2, vt2⟩, ⟨v3, vk3, vm3, vb3, vt3⟩, er0, er1, er2, er3⟩ := I
  obtain ⟨x, kx⟩ := lw_elem (i := p + 1) gC k0 (by omega) (by omega)
  obtain ⟨y, ky⟩ := lw_elem (i := p + 2) gC k0 (by omega) (by omega)
  obtain ⟨z, kz⟩ := lw_elem (i := p + 3) gC k0 (by omega) (by omega)
  obtain ⟨x4, kx4⟩ := lw_elem (i := p + 4) gC k0 (by omega) (by omega)
  obtain ⟨x5, kx5⟩ := lw_elem (i := p + 5) gC k0 (by omega) (by omega)
  have c46 : hp_C cst m_strs (46) := ⟨gC, lw_strs, fun d _ => hY d⟩
  have c47 : hp_C cst m_strs (47) := ⟨gC, lw_strs, fun d _ => hY d⟩
  have c48 : hp_C cst m_strs (48) := ⟨gC, lw_strs, fun d _ => hY d⟩
  have c49 : hp_C cst m_strs (49) := ⟨gC, lw_strs, fun d _ => hY d⟩
  refine rq_bond0 gC hY hy n p x.toInt y.toInt z.toInt x4.toInt x5.toInt n0 n1 p0 (by omega) x.le_toInt x.toInt_le y.le_toInt y.toInt_le z.le_toInt z.toInt_le x4.le_toInt x4.toInt_le x5.le_toInt x5.toInt_le (by omega) k0 kx ky kz kx4 kx5 l0 l1 l2 l3 (fun l1' h1 a0 a1 a2 a3 a4 e0 e1 e2 e3 e4 u1 f1 g0 g1 g2 g3 => ?_)
  have T0 : tr_H cst h1 h1 := ta_mv er0 hy u1 hy u1 f1 f1 rfl rfl
  obtain ⟨q1, hrun, ⟨aC, s1'⟩, s2', s3', shy, sfr, sP⟩ := bjc_run (xp := a4) (xs := a3) (xf := a2) (xt := a1) (xw := a0) c48 c49 (by decide) u1 vb1 vt1 (f1 _ _ _ rfl vk1) vb3 vt3 (f1 _ _ _ rfl vk3) vb0 vt0 (f1 _ _ _ rfl vk0)
  refine lw_call (pc := 1915) (tg := 206) (na := 6) (c := 0) (ci := 0) (st0 := [.int a0, .int a1, .int a2, .int a3, .int a4, .ref 16]) (st := []) (av := [.int a4, .int a3, .int a2, .int a1, .int a0]) (by decide +kernel) u1 rfl rfl rfl (Nat.le_of_ble_eq_true rfl) hrun s2' s3' ?_
  rw [s1']
  have fa : ∀ rg i v, ly_has rg [11014, 12544, 12800, 13056, 13312, 13568, 13824] = false → ly_hv cst h rg i = some v → ly_hv cst q1.2.1 rg i = some v := fun rg i v ha e => sfr _ _ _ ha (f1 _ _ _ rfl e)
  refine rq_bond1 gC hY shy n p x.toInt y.toInt z.toInt x4.toInt x5.toInt aC.toInt aC rfl n0 n1 p0 (by omega) x.le_toInt x.toInt_le y.le_toInt y.toInt_le z.le_toInt z.toInt_le x4.le_toInt x4.toInt_le x5.le_toInt x5.toInt_le aC.le_toInt aC.toInt_le (by omega) (fa _ _ _ rfl k0) (fa _ _ _ rfl kx) (fa _ _ _ rfl ky) (fa _ _ _ rfl kz) (fa _ _ _ rfl kx4) (fa _ _ _ rfl kx5) g0 g1 g2 g3 (fun l2' h2 b0 b1 b2 b3 b4 d0 d1 d2 d3 d4 u2 f2 o0 o1 o2 o3 => ?_)
  have fb : ∀ rg i v, ly_has rg [11014, 12544, 12800, 13056, 13312, 13568, 13824] = false → ly_hv cst h rg i = some v → ly_hv cst h2 rg i = some v := fun rg i v ha e => f2 _ _ _ rfl (fa _ _ _ ha e)
  have T1 : tr_H cst h1 h2 := ta_mv (mc := []) (mm := [11014, 12544, 12800, 13056, 13312, 13568, 13824]) T0 u1 u1 u1 u2 (ly_fr_rf h1) (fun rg i v ha e => f2 _ _ _ rfl (sfr rg i v ha e)) rfl rfl
  have R0 : bd_R cst h1 h1 := bd_Rmv er1 hy u1 hy u1 f1 f1 rfl rfl
  have RR : bd_R cst h1 h2 := bd_Rmv (mc := []) (mm := [11014, 12544, 12800, 13056, 13312, 13568, 13824]) R0 u1 u1 u1 u2 (ly_fr_rf h1) (fun rg i v ha e => f2 _ _ _ rfl (sfr rg i v ha e)) rfl rfl
  have TT := bd_Tof (bd_Tmv er2 hy u1 f1 rfl) (f1 _ _ _ rfl vk0) (f1 _ _ _ rfl vk3)
  have NN : ∀ k a, ly_hv cst h2 22528 k = some a → a ≤ v0 := by
    rw [hp_same (mods := [11014, 12544, 12800, 13056, 13312, 13568, 13824]) (show ly_ths ly_TH 88 = some (.inl (.int, 300, -2147483648, 2147483647)) from rfl) rfl hy u2 fb]
    exact bd_Nof er3 vm0
  obtain ⟨q2, hrun2, ⟨aR, w1'⟩, w2', w3', why, wfr, wP⟩ := bkm_run (xp := b4) (xs := b3) (xf := b2) (xt := b1) (xw := b0) c49 (by decide) u2 vb1 vt1 (fb _ _ _ rfl vm1) vb3 vt3 (fb _ _ _ rfl vm3) vb0 vt0 (fb _ _ _ rfl vm0)
  refine lw_call (pc := 1945) (tg := 386) (na := 6) (c := 78) (ci := 12) (st0 := [.int b0, .int b1, .int b2, .int b3, .int b4, .ref 94]) (st := []) (av := [.int b4, .int b3, .int b2, .int b1, .int b0]) (by decide +kernel) u2 rfl rfl rfl (Nat.le_of_ble_eq_true rfl) hrun2 w2' w3' ?_
  rw [w1']
  rw [e0, e1, e2, e3, e4] at sP
  rw [d0, d1, d2, d3, d4] at wP
  obtain ⟨m, m0, m1, km1, km2, R2, wT, wZ⟩ := bb_bond u1 RR TT.1 TT.2 vb3 vt3 sP wP
  refine rq_bond2 gC hY why n p aR.toInt aR rfl n0 n1 p0 (by omega) aR.le_toInt aR.toInt_le (by omega) o0 o1 o2 o3 (fun l3' h3 u3 f3 i0 i1 i2 i3 => ?_)
  have fc : ly_fr cst [20073, 39424, 39680, 39936, 40192, 40448] q1.2.1 h3 := fun rg i v hb e => f3 _ _ _ rfl (wfr _ _ _ hb (f2 _ _ _ rfl e))
  have tt : ∀ rg i v, ly_has rg [11014, 12544, 12800, 13056, 13312, 13568, 13824] = false → ly_has rg [20073, 39424, 39680, 39936, 40192, 40448] = false → ly_hv cst h rg i = some v → ly_hv cst h3 rg i = some v := fun rg i v ha hb e => fc _ _ _ hb (fa _ _ _ ha e)
  exact k h3 l3' 0 0 (by omega) (by omega) ⟨u3, tt _ _ _ rfl rfl k0, n0, n1, by omega, by omega, ⟨t, s, tt _ _ _ rfl rfl k2, tt _ _ _ rfl rfl k3, et, s0, s1⟩, ⟨r, tt _ _ _ rfl rfl kr, r0, by omega⟩, tt _ _ _ rfl rfl k4, tt _ _ _ rfl rfl k5, i0, i1, i2, i3, ⟨v0, tt _ _ _ rfl rfl vk0, tt _ _ _ rfl rfl vm0, vb0, vt0⟩, ⟨v1, tt _ _ _ rfl rfl vk1, tt _ _ _ rfl rfl vm1, vb1, vt1⟩, ⟨v2, tt _ _ _ rfl rfl vk2, tt _ _ _ rfl rfl vm2, vb2, vt2⟩, ⟨m, fc _ _ _ rfl km1, f3 _ _ _ rfl km2, m0, m1⟩, ta_mv (ta_mv (mc := [11014, 12544, 12800, 13056, 13312, 13568, 13824]) (mm := [11014, 12544, 12800, 13056, 13312, 13568, 13824]) er0 hy shy hy shy fa fa rfl rfl) shy u3 shy u3 fc fc rfl rfl, bd_Rmv R2 shy u3 why u3 fc f3 rfl rfl, ⟨v0, m, tt _ _ _ rfl rfl vk0, fc _ _ _ rfl km1, by rw [hp_same (show ly_ths ly_TH 54 = some (.inl (.int, 80, -2147483648, 2147483647)) from rfl) rfl shy u3 fc, hp_same (show ly_ths ly_TH 52 = some (.inl (.int, 80, -2147483648, 2147483647)) from rfl) rfl shy u3 fc]; exact wT, by rw [hp_same (show ly_ths ly_TH 54 = some (.inl (.int, 80, -2147483648, 2147483647)) from rfl) rfl shy u3 fc]; exact wZ⟩, bd_Nmv (bd_Nmv (ms := [11014, 12544, 12800, 13056, 13312, 13568, 13824]) er3 hy shy fa rfl) shy u3 fc rfl⟩
theorem rq_bonded0_k : lw_chk ly_Y 1985 4 [(0, 0, 3584), (1, 0, 3584), (2, (-2147483648), 2147483647), (3, (-2147483648), 2147483647)] [((-7), [(0, 1), (1, (-1))])] [(0, .inr (.inr (.inl (some 4)))), (1, .inr (.inr (.inl (some 16)))), (2, .inr (.inr (.inl (some 94)))), (3, .inl (0, [(1, 1)]))] [] [(60000, (0, []), (0, [(0, 1)])), (60001, (1, [(1, 1)]), (0, [(2, 1)])), (60001, (2, [(1, 1)]), (0, [(3, 1)]))] [] [(1996, ([], 4, [(0, 0, 3584), (1, 0, 3584), (2, (-2147483648), 2147483647), (3, (-2147483648), 2147483647)], [], [(0, .inr (.inr (.inl (some 4)))), (1, .inr (.inr (.inl (some 16)))), (2, .inr (.inr (.inl (some 94)))), (3, .inl (0, [(1, 1)]))], [.inl (0, [(3, 1)]), .inl (0, [(2, 1)]), .inr (.inr (.inl (some 16)))], []))] [] 0 0 = true := by decide +kernel
theorem rq_bonded0 {cst : am_K} {Φ : am_Q → Prop} {h : am_H} {l : am_L} (gC : ly_gC sx_KK cst) (hY : ∀ d, ly_Yok cst m_cl m_tt m_P m_strs ly_TH ly_Y d) (hy : ly_hy m_tt ly_TH h) (n p x y : Int) (b0 : 0 ≤ n) (t0 : n ≤ 3584) (b1 : 0 ≤ p) (t1 : p ≤ 3584) (b2 : (-2147483648) ≤ x) (t2 : x ≤ 2147483647) (b3 : (-2147483648) ≤ y) (t3 : y ≤ 2147483647) (f0 : 0 ≤ (n - p - 7)) (k0 : ly_hv cst h 60000 0 = some (n)) (k1 : ly_hv cst h 60001 (p + 1) = some (x)) (k2 : ly_hv cst h 60001 (p + 2) = some (y)) (l0 : hp_a l 0 4) (l1 : hp_a l 1 16) (l2 : hp_a l 2 94) (l3 : hp_i l 3 (p)) (e0 : ∀ (l' : am_L) (h' : am_H) (y0 : Int32) (y1 : Int32), y0.toInt = (y) → y1.toInt = (x) → ly_hy m_tt ly_TH h' → ly_fr cst [] h h' → hp_a l' 0 4 → hp_a l' 1 16 → hp_a l' 2 94 → hp_i l' 3 (p) → lw_F cst Φ 1996 l' [.int y0, .int y1, .ref 16] h' 0 0) : lw_F cst Φ 1985 l [] h 0 0 := by
  refine lw_arc gC hY rq_bonded0_k [n, p, x, y] rfl hy (hp_Bc (z := n) rfl b0 t0 (hp_Bc (z := p) rfl b1 t1 (hp_Bc (z := x) rfl b2 t2 (hp_Bc (z := y) rfl b3 t3 hp_Bn)))) (hp_Fc (z := ((-7) + (1 * n + ((-1) * p + 0)))) rfl (by omega) hp_Fn) (hp_Kc (zi := (0 + 0)) (zv := (0 + (1 * n + 0))) k0 rfl rfl (by omega) (by omega) (hp_Kc (zi := (1 + (1 * p + 0))) (zv := (0 + (1 * x + 0))) k1 rfl rfl (by omega) (by omega) (hp_Kc (zi := (2 + (1 * p + 0))) (zv := (0 + (1 * y + 0))) k2 rfl rfl (by omega) (by omega) hp_Kn))) (hp_La l0 (hp_La l1 (hp_La l2 (hp_Li (z := (0 + (1 * p + 0))) l3 rfl (by omega) hp_Ln)))) trivial ?_ ?_
  · intro q hp ys l' st' h' ca sa ha hs hys a1 hfr gZ gL gS
    have ea : ca = 0 := Nat.le_zero.mp ha
    have eb : sa = 0 := Nat.le_zero.mp hs
    subst ea
    subst eb
    rcases List.mem_cons.mp hp with rfl | hp
    · obtain rfl := hp_y0 hys
      obtain ⟨y0, t0, rfl, q0, g0⟩ := hp_gSi (z := (0 + (1 * y + 0))) gS rfl
      obtain ⟨y1, t1, rfl, q1, g1⟩ := hp_gSi (z := (0 + (1 * x + 0))) g0 rfl
      obtain ⟨t2, rfl, g2⟩ := hp_gSa g1 (by decide)
      cases hp_gSn g2
      exact e0 l' h' y0 y1 (by omega) (by omega) a1 hfr (hp_gLa gL (List.mem_of_getElem? (i := 0) rfl) (by decide)) (hp_gLa gL (List.mem_of_getElem? (i := 1) rfl) (by decide)) (hp_gLa gL (List.mem_of_getElem? (i := 2) rfl) (by decide)) (hp_gLi (z := (0 + (1 * p + 0))) gL (List.mem_of_getElem? (i := 3) rfl) rfl (by omega))
    cases hp
  · intro q hq ys v h' hys gS
    cases hq
theorem rq_bonded1_k : lw_chk ly_Y 1999 5 [(0, 0, 3584), (1, 0, 3584), (2, (-2147483648), 2147483647), (3, (-2147483648), 2147483647), (4, (-2147483648), 2147483647)] [((-7), [(0, 1), (1, (-1))])] [(0, .inr (.inr (.inl (some 4)))), (1, .inr (.inr (.inl (some 16)))), (2, .inr (.inr (.inl (some 94)))), (3, .inl (0, [(1, 1)]))] [.inl (0, [(4, 1)])] [(60000, (0, []), (0, [(0, 1)])), (60001, (1, [(1, 1)]), (0, [(2, 1)])), (60001, (2, [(1, 1)]), (0, [(3, 1)]))] [] [(2010, ([], 5, [(0, 0, 3584), (1, 0, 3584), (2, (-2147483648), 2147483647), (3, (-2147483648), 2147483647), (4, (-2147483648), 2147483647)], [], [(0, .inr (.inr (.inl (some 4)))), (1, .inr (.inr (.inl (some 16)))), (2, .inr (.inr (.inl (some 94)))), (3, .inl (0, [(1, 1)]))], [.inl (0, [(3, 1)]), .inl (0, [(2, 1)]), .inr (.inr (.inl (some 94))), .inl (0, [(4, 1)])], []))] [] 0 0 = true := by decide +kernel
theorem rq_bonded1 {cst : am_K} {Φ : am_Q → Prop} {h : am_H} {l : am_L} (gC : ly_gC sx_KK cst) (hY : ∀ d, ly_Yok cst m_cl m_tt m_P m_strs ly_TH ly_Y d) (hy : ly_hy m_tt ly_TH h) (n p x y a : Int) (x0 : Int32) (hx0 : x0.toInt = (a)) (b0 : 0 ≤ n) (t0 : n ≤ 3584) (b1 : 0 ≤ p) (t1 : p ≤ 3584) (b2 : (-2147483648) ≤ x) (t2 : x ≤ 2147483647) (b3 : (-2147483648) ≤ y) (t3 : y ≤ 2147483647) (b4 : (-2147483648) ≤ a) (t4 : a ≤ 2147483647) (f0 : 0 ≤ (n - p - 7)) (k0 : ly_hv cst h 60000 0 = some (n)) (k1 : ly_hv cst h 60001 (p + 1) = some (x)) (k2 : ly_hv cst h 60001 (p + 2) = some (y)) (l0 : hp_a l 0 4) (l1 : hp_a l 1 16) (l2 : hp_a l 2 94) (l3 : hp_i l 3 (p)) (e0 : ∀ (l' : am_L) (h' : am_H) (y0 : Int32) (y1 : Int32) (y3 : Int32), y0.toInt = (y) → y1.toInt = (x) → y3.toInt = (a) → ly_hy m_tt ly_TH h' → ly_fr cst [] h h' → hp_a l' 0 4 → hp_a l' 1 16 → hp_a l' 2 94 → hp_i l' 3 (p) → lw_F cst Φ 2010 l' [.int y0, .int y1, .ref 94, .int y3] h' 0 0) : lw_F cst Φ 1999 l [.int x0] h 0 0 := by
  refine lw_arc gC hY rq_bonded1_k [n, p, x, y, a] rfl hy (hp_Bc (z := n) rfl b0 t0 (hp_Bc (z := p) rfl b1 t1 (hp_Bc (z := x) rfl b2 t2 (hp_Bc (z := y) rfl b3 t3 (hp_Bc (z := a) rfl b4 t4 hp_Bn))))) (hp_Fc (z := ((-7) + (1 * n + ((-1) * p + 0)))) rfl (by omega) hp_Fn) (hp_Kc (zi := (0 + 0)) (zv := (0 + (1 * n + 0))) k0 rfl rfl (by omega) (by omega) (hp_Kc (zi := (1 + (1 * p + 0))) (zv := (0 + (1 * x + 0))) k1 rfl rfl (by omega) (by omega) (hp_Kc (zi := (2 + (1 * p + 0))) (zv := (0 + (1 * y + 0))) k2 rfl rfl (by omega) (by omega) hp_Kn))) (hp_La l0 (hp_La l1 (hp_La l2 (hp_Li (z := (0 + (1 * p + 0))) l3 rfl (by omega) hp_Ln)))) (hp_Si (z := (0 + (1 * a + 0))) rfl (by omega) trivial) ?_ ?_
  · intro q hp ys l' st' h' ca sa ha hs hys a1 hfr gZ gL gS
    have ea : ca = 0 := Nat.le_zero.mp ha
    have eb : sa = 0 := Nat.le_zero.mp hs
    subst ea
    subst eb
    rcases List.mem_cons.mp hp with rfl | hp
    · obtain rfl := hp_y0 hys
      obtain ⟨y0, t0, rfl, q0, g0⟩ := hp_gSi (z := (0 + (1 * y + 0))) gS rfl
      obtain ⟨y1, t1, rfl, q1, g1⟩ := hp_gSi (z := (0 + (1 * x + 0))) g0 rfl
      obtain ⟨t2, rfl, g2⟩ := hp_gSa g1 (by decide)
      obtain ⟨y3, t3, rfl, q3, g3⟩ := hp_gSi (z := (0 + (1 * a + 0))) g2 rfl
      cases hp_gSn g3
      exact e0 l' h' y0 y1 y3 (by omega) (by omega) (by omega) a1 hfr (hp_gLa gL (List.mem_of_getElem? (i := 0) rfl) (by decide)) (hp_gLa gL (List.mem_of_getElem? (i := 1) rfl) (by decide)) (hp_gLa gL (List.mem_of_getElem? (i := 2) rfl) (by decide)) (hp_gLi (z := (0 + (1 * p + 0))) gL (List.mem_of_getElem? (i := 3) rfl) rfl (by omega))
    cases hp
  · intro q hq ys v h' hys gS
    cases hq
theorem rq_bonded2_k : lw_chk ly_Y 2013 3 [(0, 0, 3584), (1, 0, 3584), (2, (-2147483648), 2147483647)] [((-7), [(0, 1), (1, (-1))])] [(0, .inr (.inr (.inl (some 4)))), (1, .inr (.inr (.inl (some 16)))), (2, .inr (.inr (.inl (some 94)))), (3, .inl (0, [(1, 1)]))] [.inl (0, [(2, 1)]), .inl (0, [(2, 1)])] [] [] [(18, ([], 3, [(0, 0, 3584), (1, 0, 3584), (2, (-2147483648), 2147483647)], [], [(0, .inr (.inr (.inl (some 4)))), (1, .inr (.inr (.inl (some 16)))), (2, .inr (.inr (.inl (some 94)))), (3, .inl (7, [(1, 1)]))], [], []))] [] 0 0 = true := by decide +kernel
theorem rq_bonded2 {cst : am_K} {Φ : am_Q → Prop} {h : am_H} {l : am_L} (gC : ly_gC sx_KK cst) (hY : ∀ d, ly_Yok cst m_cl m_tt m_P m_strs ly_TH ly_Y d) (hy : ly_hy m_tt ly_TH h) (n p a : Int) (x0 : Int32) (x1 : Int32) (hx0 : x0.toInt = (a)) (hx1 : x1.toInt = (a)) (b0 : 0 ≤ n) (t0 : n ≤ 3584) (b1 : 0 ≤ p) (t1 : p ≤ 3584) (b2 : (-2147483648) ≤ a) (t2 : a ≤ 2147483647) (f0 : 0 ≤ (n - p - 7)) (l0 : hp_a l 0 4) (l1 : hp_a l 1 16) (l2 : hp_a l 2 94) (l3 : hp_i l 3 (p)) (e0 : ∀ (l' : am_L) (h' : am_H), ly_hy m_tt ly_TH h' → ly_fr cst [] h h' → hp_a l' 0 4 → hp_a l' 1 16 → hp_a l' 2 94 → hp_i l' 3 (p + 7) → lw_F cst Φ 18 l' [] h' 0 0) : lw_F cst Φ 2013 l [.int x0, .int x1] h 0 0 := by
  refine lw_arc gC hY rq_bonded2_k [n, p, a] rfl hy (hp_Bc (z := n) rfl b0 t0 (hp_Bc (z := p) rfl b1 t1 (hp_Bc (z := a) rfl b2 t2 hp_Bn))) (hp_Fc (z := ((-7) + (1 * n + ((-1) * p + 0)))) rfl (by omega) hp_Fn) hp_Kn (hp_La l0 (hp_La l1 (hp_La l2 (hp_Li (z := (0 + (1 * p + 0))) l3 rfl (by omega) hp_Ln)))) (hp_Si (z := (0 + (1 * a + 0))) rfl (by omega) (hp_Si (z := (0 + (1 * a + 0))) rfl (by omega) trivial)) ?_ ?_
  · intro q hp ys l' st' h' ca sa ha hs hys a1 hfr gZ gL gS
    have ea : ca = 0 := Nat.le_zero.mp ha
    have eb : sa = 0 := Nat.le_zero.mp hs
    subst ea
    subst eb
    rcases List.mem_cons.mp hp with rfl | hp
    · obtain rfl := hp_y0 hys
      cases hp_gSn gS
      exact e0 l' h' a1 hfr (hp_gLa gL (List.mem_of_getElem? (i := 0) rfl) (by decide)) (hp_gLa gL (List.mem_of_getElem? (i := 1) rfl) (by decide)) (hp_gLa gL (List.mem_of_getElem? (i := 2) rfl) (by decide)) (hp_gLi (z := (7 + (1 * p + 0))) gL (List.mem_of_getElem? (i := 3) rfl) rfl (by omega))
    cases hp
  · intro q hq ys v h' hys gS
    cases hq
theorem lc_bonded {cst : am_K} {Φ : am_Q → Prop} (gC : ly_gC sx_KK cst) (hY : ∀ d, ly_Yok cst m_cl m_tt m_P m_strs ly_TH ly_Y d) {n p : Int} {h : am_H} {l : am_L} (I : lw_I cst n p h l) (hp7 : p + 7 ≤ n)
    (k : ∀ (h' : am_H) (l' : am_L) (ca sa : Nat), ca ≤ 19 → sa ≤ 261 → lw_I cst n (p + 7) h' l' → lw_F cst Φ 18 l' [] h' ca sa) : lw_F cst Φ 1985 l [] h 0 0 := by
  obtain ⟨hy, k0, n0, n1, p0, p1, ⟨t, s, k2, k3, et, s0, s1⟩, ⟨r, kr, r0, r1⟩, k4, k5, l0, l1, l2, l3, ⟨v0, vk0, vm0, vb0, vt0⟩, ⟨v1, vk1, vm1, vb1, vt1⟩, ⟨v2, vk2, vm2, vb2, vt2⟩, ⟨v3, vk3, vm3, vb3, vt3⟩, er0, er1, er2, er3⟩ := I
  obtain ⟨x, kx⟩ := lw_elem (i := p + 1) gC k0 (by omega) (by omega)
  obtain ⟨y, ky⟩ := lw_elem (i := p + 2) gC k0 (by omega) (by omega)
  have c46 : hp_C cst m_strs (46) := ⟨gC, lw_strs, fun d _ => hY d⟩
  have c47 : hp_C cst m_strs (47) := ⟨gC, lw_strs, fun d _ => hY d⟩
  have c48 : hp_C cst m_strs (48) := ⟨gC, lw_strs, fun d _ => hY d⟩
  have c49 : hp_C cst m_strs (49) := ⟨gC, lw_strs, fun d _ => hY d⟩
  refine rq_bonded0 gC hY hy n p x.toInt y.toInt n0 n1 p0 (by omega) x.le_toInt x.toInt_le y.le_toInt y.toInt_le (by omega) k0 kx ky l0 l1 l2 l3 (fun l1' h1 a0 a1 e0 e1 u1 f1 g0 g1 g2 g3 => ?_)
  have T0 : tr_H cst h1 h1 := ta_mv er0 hy u1 hy u1 f1 f1 rfl rfl
  obtain ⟨q1, hrun, aC, s1', s2', s3', shy, sfr, sP⟩ := bty_run (xx := a1) (xy := a0) c48 c49 (by decide) u1 vb3 vt3 (f1 _ _ _ rfl vk3)
  refine lw_call (pc := 1996) (tg := 211) (na := 3) (c := 0) (ci := 0) (st0 := [.int a0, .int a1, .ref 16]) (st := []) (av := [.int a1, .int a0]) (by decide +kernel) u1 rfl rfl rfl (Nat.le_of_ble_eq_true rfl) hrun s2' s3' ?_
  rw [s1']
  have fa : ∀ rg i v, ly_has rg [] = false → ly_hv cst h rg i = some v → ly_hv cst q1.2.1 rg i = some v := fun rg i v ha e => sfr _ _ _ ha (f1 _ _ _ rfl e)
  refine rq_bonded1 gC hY shy n p x.toInt y.toInt aC.toInt aC rfl n0 n1 p0 (by omega) x.le_toInt x.toInt_le y.le_toInt y.toInt_le aC.le_toInt aC.toInt_le (by omega) (fa _ _ _ rfl k0) (fa _ _ _ rfl kx) (fa _ _ _ rfl ky) g0 g1 g2 g3 (fun l2' h2 b0 b1 b9 d0 d1 d9 u2 f2 o0 o1 o2 o3 => ?_)
  have fb : ∀ rg i v, ly_has rg [] = false → ly_hv cst h rg i = some v → ly_hv cst h2 rg i = some v := fun rg i v ha e => f2 _ _ _ rfl (fa _ _ _ ha e)
  have T1 : tr_H cst h1 h2 := ta_mv (mc := []) (mm := []) T0 u1 u1 u1 u2 (ly_fr_rf h1) (fun rg i v ha e => f2 _ _ _ rfl (sfr rg i v ha e)) rfl rfl
  have R0 : bd_R cst h1 h1 := bd_Rmv er1 hy u1 hy u1 f1 f1 rfl rfl
  have RR : bd_R cst h1 h2 := bd_Rmv (mc := []) (mm := []) R0 u1 u1 u1 u2 (ly_fr_rf h1) (fun rg i v ha e => f2 _ _ _ rfl (sfr rg i v ha e)) rfl rfl
  have TT := bd_Tof (bd_Tmv er2 hy u1 f1 rfl) (f1 _ _ _ rfl vk0) (f1 _ _ _ rfl vk3)
  have NN : ∀ k a, ly_hv cst h2 22528 k = some a → a ≤ v0 := by
    rw [hp_same (mods := []) (show ly_ths ly_TH 88 = some (.inl (.int, 300, -2147483648, 2147483647)) from rfl) rfl hy u2 fb]
    exact bd_Nof er3 vm0
  obtain ⟨q2, hrun2, aR, w1', w2', w3', why, wfr, wP⟩ := bz_run (xx := b1) (xy := b0) c49 (by decide) u2 vb3 vt3 (fb _ _ _ rfl vm3)
  refine lw_call (pc := 2010) (tg := 389) (na := 3) (c := 78) (ci := 12) (st0 := [.int b0, .int b1, .ref 94]) (st := [.int b9]) (av := [.int b1, .int b0]) (by decide +kernel) u2 rfl rfl rfl (Nat.le_of_ble_eq_true rfl) hrun2 w2' w3' ?_
  rw [w1']
  rw [e0, e1] at sP
  rw [d0, d1] at wP
  have both : aR.toInt = aC.toInt := by
    have A := sP
    obtain ⟨z1, z2, z3, z4, z5, z6⟩ := RR
    rw [z1, z2, z3, z4, z5, z6] at A
    exact (bt_uni A wP).symm
  refine rq_bonded2 gC hY why n p aC.toInt aR b9 both d9 n0 n1 p0 (by omega) aC.le_toInt aC.toInt_le (by omega) o0 o1 o2 o3 (fun l3' h3 u3 f3 i0 i1 i2 i3 => ?_)
  have fc : ly_fr cst [] q1.2.1 h3 := fun rg i v hb e => f3 _ _ _ rfl (wfr _ _ _ hb (f2 _ _ _ rfl e))
  have tt : ∀ rg i v, ly_has rg [] = false → ly_has rg [] = false → ly_hv cst h rg i = some v → ly_hv cst h3 rg i = some v := fun rg i v ha hb e => fc _ _ _ hb (fa _ _ _ ha e)
  exact k h3 l3' 0 0 (by omega) (by omega) ⟨u3, tt _ _ _ rfl rfl k0, n0, n1, by omega, by omega, ⟨t, s, tt _ _ _ rfl rfl k2, tt _ _ _ rfl rfl k3, et, s0, s1⟩, ⟨r, tt _ _ _ rfl rfl kr, r0, by omega⟩, tt _ _ _ rfl rfl k4, tt _ _ _ rfl rfl k5, i0, i1, i2, i3, ⟨v0, tt _ _ _ rfl rfl vk0, tt _ _ _ rfl rfl vm0, vb0, vt0⟩, ⟨v1, tt _ _ _ rfl rfl vk1, tt _ _ _ rfl rfl vm1, vb1, vt1⟩, ⟨v2, tt _ _ _ rfl rfl vk2, tt _ _ _ rfl rfl vm2, vb2, vt2⟩, ⟨v3, tt _ _ _ rfl rfl vk3, tt _ _ _ rfl rfl vm3, vb3, vt3⟩, ta_mv (ta_mv (mc := []) (mm := []) er0 hy shy hy shy fa fa rfl rfl) shy u3 shy u3 fc fc rfl rfl, bd_Rmv (bd_Rmv (mc := []) (mm := []) er1 hy shy hy shy fa fa rfl rfl) shy u3 shy u3 fc fc rfl rfl, bd_Tmv (bd_Tmv (ms := []) er2 hy shy fa rfl) shy u3 fc rfl, bd_Nmv (bd_Nmv (ms := []) er3 hy shy fa rfl) shy u3 fc rfl⟩
