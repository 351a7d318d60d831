/-! PRINTED by wip/p2/hp_rlaw.py: the clause in force, of the reference -/
theorem sr0_k : hp_chk 287 0 4 [(0, 0, 1199), (1, 0, 29), (2, (-2147483648), 2147483647), (3, (-2147483648), 2147483647)] [] [(0, .inr (.inr (.inl (some 94)))), (1, .inl (0, [(0, 1)])), (2, .inl (0, [(2, 1)])), (3, .inl (0, [(3, 1)]))] [] [(62040, (0, [(0, 1)]), (0, [(1, 1)]))] [] 2 [(12, ([], 4, [(0, 0, 1199), (1, 0, 29), (2, (-2147483648), 2147483647), (3, (-2147483648), 2147483647)], [], [(0, .inr (.inr (.inl (some 94)))), (1, .inl (0, [(0, 1)])), (2, .inl (0, [(2, 1)])), (3, .inl (0, [(3, 1)])), (4, .inl (0, [(1, 1)])), (5, .inl (1, [(1, 1)]))], [], []))] [] = true := by decide +kernel
theorem sr0 {cst : am_K} {strs : List Nat} {Φ : am_Q → Prop} {D : Nat} {M : am_M} {h : am_H} {l : am_L} (c : hp_C cst strs D) (hM : m_P[287]? = some M) (hD : (2 : Int) ≤ (D : Int) + 1) (hy : ly_hy m_tt ly_TH h) (cc a y s : Int) (b0 : 0 ≤ cc) (t0 : cc ≤ 1199) (b1 : 0 ≤ a) (t1 : a ≤ 29) (b2 : (-2147483648) ≤ y) (t2 : y ≤ 2147483647) (b3 : (-2147483648) ≤ s) (t3 : s ≤ 2147483647) (k0 : ly_hv cst h 62040 (cc) = some (a)) (l0 : hp_a l 0 94) (l1 : hp_i l 1 (cc)) (l2 : hp_i l 2 (y)) (l3 : hp_i l 3 (s)) (e0 : ∀ (l' : am_L) (h' : am_H), ly_hy m_tt ly_TH h' → ly_fr cst [] h h' → h.length ≤ h'.length → hp_a l' 0 94 → hp_i l' 1 (cc) → hp_i l' 2 (y) → hp_i l' 3 (s) → hp_i l' 4 (a) → hp_i l' 5 (a + 1) → hp_F cst strs Φ D M 12 l' [] h') : hp_F cst strs Φ D M 0 l [] h := by
  refine hp_arc c hM sr0_k hD [cc, a, y, s] rfl hy (hp_Bc (z := cc) rfl b0 t0 (hp_Bc (z := a) rfl b1 t1 (hp_Bc (z := y) rfl b2 t2 (hp_Bc (z := s) rfl b3 t3 hp_Bn)))) hp_Fn (hp_Kc (zi := (0 + (1 * cc + 0))) (zv := (0 + (1 * a + 0))) k0 rfl rfl (by omega) (by omega) hp_Kn) (hp_La l0 (hp_Li (z := (0 + (1 * cc + 0))) l1 rfl (by omega) (hp_Li (z := (0 + (1 * y + 0))) l2 rfl (by omega) (hp_Li (z := (0 + (1 * s + 0))) l3 rfl (by omega) hp_Ln)))) trivial ?_ ?_
  · intro p_9 hp ys l' st' h' hys a1_9 a2 a3 gZ gL gS
    rcases List.mem_cons.mp hp with rfl | hp
    · obtain rfl := hp_y0 hys
      cases hp_gSn gS
      exact e0 l' h' a1_9 a2 a3 (hp_gLa gL (List.mem_of_getElem? (i := 0) rfl) (by decide)) (hp_gLi (z := (0 + (1 * cc + 0))) gL (List.mem_of_getElem? (i := 1) rfl) rfl (by omega)) (hp_gLi (z := (0 + (1 * y + 0))) gL (List.mem_of_getElem? (i := 2) rfl) rfl (by omega)) (hp_gLi (z := (0 + (1 * s + 0))) gL (List.mem_of_getElem? (i := 3) rfl) rfl (by omega)) (hp_gLi (z := (0 + (1 * a + 0))) gL (List.mem_of_getElem? (i := 4) rfl) rfl (by omega)) (hp_gLi (z := (1 + (1 * a + 0))) gL (List.mem_of_getElem? (i := 5) rfl) rfl (by omega))
    cases hp
  · intro p_9 hp ys v_9 h' hys a1_9 a2 a3 gZ gS
    cases hp
theorem srA_k : hp_chk 287 12 5 [(0, 0, 1199), (1, 0, 29), (2, (-2147483648), 2147483647), (3, (-2147483648), 2147483647), (4, 0, 30)] [] [(0, .inr (.inr (.inl (some 94)))), (1, .inl (0, [(0, 1)])), (2, .inl (0, [(2, 1)])), (3, .inl (0, [(3, 1)])), (4, .inl (0, [(1, 1)])), (5, .inl (0, [(4, 1)]))] [] [(19989, (0, []), (0, [(4, 1)]))] [] 2 [] [([], 5, [(0, 0, 1199), (1, 0, 29), (2, (-2147483648), 2147483647), (3, (-2147483648), 2147483647), (4, 0, 30)], [], [], [.inl (0, [])], [])] = true := by decide +kernel
theorem srA {cst : am_K} {strs : List Nat} {Φ : am_Q → Prop} {D : Nat} {M : am_M} {h : am_H} {l : am_L} (c : hp_C cst strs D) (hM : m_P[287]? = some M) (hD : (2 : Int) ≤ (D : Int) + 1) (hy : ly_hy m_tt ly_TH h) (cc a y s n : Int) (b0 : 0 ≤ cc) (t0 : cc ≤ 1199) (b1 : 0 ≤ a) (t1 : a ≤ 29) (b2 : (-2147483648) ≤ y) (t2 : y ≤ 2147483647) (b3 : (-2147483648) ≤ s) (t3 : s ≤ 2147483647) (b4 : 0 ≤ n) (t4 : n ≤ 30) (k0 : ly_hv cst h 19989 0 = some (n)) (l0 : hp_a l 0 94) (l1 : hp_i l 1 (cc)) (l2 : hp_i l 2 (y)) (l3 : hp_i l 3 (s)) (l4 : hp_i l 4 (a)) (l5 : hp_i l 5 (n)) (r0 : ∀ (h' : am_H) (y0 : Int32), y0.toInt = 0 → ly_hy m_tt ly_TH h' → ly_fr cst [] h h' → h.length ≤ h'.length → Φ (some (.int y0), h', 0, 0)) : hp_F cst strs Φ D M 12 l [] h := by
  refine hp_arc c hM srA_k hD [cc, a, y, s, n] rfl hy (hp_Bc (z := cc) rfl b0 t0 (hp_Bc (z := a) rfl b1 t1 (hp_Bc (z := y) rfl b2 t2 (hp_Bc (z := s) rfl b3 t3 (hp_Bc (z := n) rfl b4 t4 hp_Bn))))) hp_Fn (hp_Kc (zi := (0 + 0)) (zv := (0 + (1 * n + 0))) k0 rfl rfl (by omega) (by omega) hp_Kn) (hp_La l0 (hp_Li (z := (0 + (1 * cc + 0))) l1 rfl (by omega) (hp_Li (z := (0 + (1 * y + 0))) l2 rfl (by omega) (hp_Li (z := (0 + (1 * s + 0))) l3 rfl (by omega) (hp_Li (z := (0 + (1 * a + 0))) l4 rfl (by omega) (hp_Li (z := (0 + (1 * n + 0))) l5 rfl (by omega) hp_Ln)))))) trivial ?_ ?_
  · intro p_9 hp ys l' st' h' hys a1_9 a2 a3 gZ gL gS
    cases hp
  · intro p_9 hp ys v_9 h' hys a1_9 a2 a3 gZ gS
    rcases List.mem_cons.mp hp with rfl | hp
    · obtain rfl := hp_y0 hys
      cases v_9 with
      | none => cases gS
      | some wz =>
        obtain ⟨y0, t0, s0_9, q0, -⟩ := hp_gSi (z := (0 + 0)) gS rfl
        cases s0_9
        exact r0 h' y0 (by omega) a1_9 a2 a3
    cases hp
theorem srB_k : hp_chk 287 12 6 [(0, 0, 1199), (1, 0, 29), (2, (-2147483648), 2147483647), (3, (-2147483648), 2147483647), (4, 0, 30), (5, 1, 30)] [((-1), [(4, 1), (5, (-1))])] [(0, .inr (.inr (.inl (some 94)))), (1, .inl (0, [(0, 1)])), (2, .inl (0, [(2, 1)])), (3, .inl (0, [(3, 1)])), (4, .inl (0, [(1, 1)])), (5, .inl (0, [(5, 1)]))] [] [(19989, (0, []), (0, [(4, 1)]))] [] 2 [(26, ([], 6, [(0, 0, 1199), (1, 0, 29), (2, (-2147483648), 2147483647), (3, (-2147483648), 2147483647), (4, 0, 30), (5, 1, 30)], [], [(0, .inr (.inr (.inl (some 94)))), (1, .inl (0, [(0, 1)])), (2, .inl (0, [(2, 1)])), (3, .inl (0, [(3, 1)])), (4, .inl (0, [(1, 1)])), (5, .inl (0, [(5, 1)]))], [.inl (0, [(3, 1)]), .inl (0, [(2, 1)]), .inl (0, [(5, 1)]), .inr (.inr (.inl (some 94)))], []))] [] = true := by decide +kernel
theorem srB {cst : am_K} {strs : List Nat} {Φ : am_Q → Prop} {D : Nat} {M : am_M} {h : am_H} {l : am_L} (c : hp_C cst strs D) (hM : m_P[287]? = some M) (hD : (2 : Int) ≤ (D : Int) + 1) (hy : ly_hy m_tt ly_TH h) (cc a y s n b : Int) (b0 : 0 ≤ cc) (t0 : cc ≤ 1199) (b1 : 0 ≤ a) (t1 : a ≤ 29) (b2 : (-2147483648) ≤ y) (t2 : y ≤ 2147483647) (b3 : (-2147483648) ≤ s) (t3 : s ≤ 2147483647) (b4 : 0 ≤ n) (t4 : n ≤ 30) (b5 : 1 ≤ b) (t5 : b ≤ 30) (f0 : 0 ≤ (n - b - 1)) (k0 : ly_hv cst h 19989 0 = some (n)) (l0 : hp_a l 0 94) (l1 : hp_i l 1 (cc)) (l2 : hp_i l 2 (y)) (l3 : hp_i l 3 (s)) (l4 : hp_i l 4 (a)) (l5 : hp_i l 5 (b)) (e0 : ∀ (l' : am_L) (h' : am_H) (y0 : Int32) (y1 : Int32) (y2 : Int32), y0.toInt = (s) → y1.toInt = (y) → y2.toInt = (b) → ly_hy m_tt ly_TH h' → ly_fr cst [] h h' → h.length ≤ h'.length → hp_a l' 0 94 → hp_i l' 1 (cc) → hp_i l' 2 (y) → hp_i l' 3 (s) → hp_i l' 4 (a) → hp_i l' 5 (b) → hp_F cst strs Φ D M 26 l' [.int y0, .int y1, .int y2, .ref 94] h') : hp_F cst strs Φ D M 12 l [] h := by
  refine hp_arc c hM srB_k hD [cc, a, y, s, n, b] rfl hy (hp_Bc (z := cc) rfl b0 t0 (hp_Bc (z := a) rfl b1 t1 (hp_Bc (z := y) rfl b2 t2 (hp_Bc (z := s) rfl b3 t3 (hp_Bc (z := n) rfl b4 t4 (hp_Bc (z := b) rfl b5 t5 hp_Bn)))))) (hp_Fc (z := ((-1) + (1 * n + ((-1) * b + 0)))) rfl (by omega) hp_Fn) (hp_Kc (zi := (0 + 0)) (zv := (0 + (1 * n + 0))) k0 rfl rfl (by omega) (by omega) hp_Kn) (hp_La l0 (hp_Li (z := (0 + (1 * cc + 0))) l1 rfl (by omega) (hp_Li (z := (0 + (1 * y + 0))) l2 rfl (by omega) (hp_Li (z := (0 + (1 * s + 0))) l3 rfl (by omega) (hp_Li (z := (0 + (1 * a + 0))) l4 rfl (by omega) (hp_Li (z := (0 + (1 * b + 0))) l5 rfl (by omega) hp_Ln)))))) trivial ?_ ?_
  · intro p_9 hp ys l' st' h' hys a1_9 a2 a3 gZ gL gS
    rcases List.mem_cons.mp hp with rfl | hp
    · obtain rfl := hp_y0 hys
      obtain ⟨y0, t0, rfl, q0, g0⟩ := hp_gSi (z := (0 + (1 * s + 0))) gS rfl
      obtain ⟨y1, t1, rfl, q1_9, g1⟩ := hp_gSi (z := (0 + (1 * y + 0))) g0 rfl
      obtain ⟨y2, t2, rfl, q2_9, g2⟩ := hp_gSi (z := (0 + (1 * b + 0))) g1 rfl
      obtain ⟨t3, rfl, g3_9⟩ := hp_gSa g2 (by decide)
      cases hp_gSn g3_9
      exact e0 l' h' y0 y1 y2 (by omega) (by omega) (by omega) a1_9 a2 a3 (hp_gLa gL (List.mem_of_getElem? (i := 0) rfl) (by decide)) (hp_gLi (z := (0 + (1 * cc + 0))) gL (List.mem_of_getElem? (i := 1) rfl) rfl (by omega)) (hp_gLi (z := (0 + (1 * y + 0))) gL (List.mem_of_getElem? (i := 2) rfl) rfl (by omega)) (hp_gLi (z := (0 + (1 * s + 0))) gL (List.mem_of_getElem? (i := 3) rfl) rfl (by omega)) (hp_gLi (z := (0 + (1 * a + 0))) gL (List.mem_of_getElem? (i := 4) rfl) rfl (by omega)) (hp_gLi (z := (0 + (1 * b + 0))) gL (List.mem_of_getElem? (i := 5) rfl) rfl (by omega))
    cases hp
  · intro p_9 hp ys v_9 h' hys a1_9 a2 a3 gZ gS
    cases hp
theorem srC_k : hp_chk 287 29 5 [(0, 0, 1199), (1, 0, 29), (2, (-2147483648), 2147483647), (3, (-2147483648), 2147483647), (4, 1, 29)] [] [(0, .inr (.inr (.inl (some 94)))), (1, .inl (0, [(0, 1)])), (2, .inl (0, [(2, 1)])), (3, .inl (0, [(3, 1)])), (4, .inl (0, [(1, 1)])), (5, .inl (0, [(4, 1)]))] [.inl (0, [])] [] [] 2 [(12, ([], 5, [(0, 0, 1199), (1, 0, 29), (2, (-2147483648), 2147483647), (3, (-2147483648), 2147483647), (4, 1, 29)], [], [(0, .inr (.inr (.inl (some 94)))), (1, .inl (0, [(0, 1)])), (2, .inl (0, [(2, 1)])), (3, .inl (0, [(3, 1)])), (4, .inl (0, [(1, 1)])), (5, .inl (1, [(4, 1)]))], [], []))] [] = true := by decide +kernel
theorem srC {cst : am_K} {strs : List Nat} {Φ : am_Q → Prop} {D : Nat} {M : am_M} {h : am_H} {l : am_L} (c : hp_C cst strs D) (hM : m_P[287]? = some M) (hD : (2 : Int) ≤ (D : Int) + 1) (hy : ly_hy m_tt ly_TH h) (cc a y s b : Int) (x0 : Int32) (hx0 : x0.toInt = 0) (b0 : 0 ≤ cc) (t0 : cc ≤ 1199) (b1 : 0 ≤ a) (t1 : a ≤ 29) (b2 : (-2147483648) ≤ y) (t2 : y ≤ 2147483647) (b3 : (-2147483648) ≤ s) (t3 : s ≤ 2147483647) (b4 : 1 ≤ b) (t4 : b ≤ 29) (l0 : hp_a l 0 94) (l1 : hp_i l 1 (cc)) (l2 : hp_i l 2 (y)) (l3 : hp_i l 3 (s)) (l4 : hp_i l 4 (a)) (l5 : hp_i l 5 (b)) (e0 : ∀ (l' : am_L) (h' : am_H), ly_hy m_tt ly_TH h' → ly_fr cst [] h h' → h.length ≤ h'.length → hp_a l' 0 94 → hp_i l' 1 (cc) → hp_i l' 2 (y) → hp_i l' 3 (s) → hp_i l' 4 (a) → hp_i l' 5 (b + 1) → hp_F cst strs Φ D M 12 l' [] h') : hp_F cst strs Φ D M 29 l [.int x0] h := by
  refine hp_arc c hM srC_k hD [cc, a, y, s, b] rfl hy (hp_Bc (z := cc) rfl b0 t0 (hp_Bc (z := a) rfl b1 t1 (hp_Bc (z := y) rfl b2 t2 (hp_Bc (z := s) rfl b3 t3 (hp_Bc (z := b) rfl b4 t4 hp_Bn))))) hp_Fn hp_Kn (hp_La l0 (hp_Li (z := (0 + (1 * cc + 0))) l1 rfl (by omega) (hp_Li (z := (0 + (1 * y + 0))) l2 rfl (by omega) (hp_Li (z := (0 + (1 * s + 0))) l3 rfl (by omega) (hp_Li (z := (0 + (1 * a + 0))) l4 rfl (by omega) (hp_Li (z := (0 + (1 * b + 0))) l5 rfl (by omega) hp_Ln)))))) (hp_Si (z := (0 + 0)) rfl (by omega) trivial) ?_ ?_
  · intro p_9 hp ys l' st' h' hys a1_9 a2 a3 gZ gL gS
    rcases List.mem_cons.mp hp with rfl | hp
    · obtain rfl := hp_y0 hys
      cases hp_gSn gS
      exact e0 l' h' a1_9 a2 a3 (hp_gLa gL (List.mem_of_getElem? (i := 0) rfl) (by decide)) (hp_gLi (z := (0 + (1 * cc + 0))) gL (List.mem_of_getElem? (i := 1) rfl) rfl (by omega)) (hp_gLi (z := (0 + (1 * y + 0))) gL (List.mem_of_getElem? (i := 2) rfl) rfl (by omega)) (hp_gLi (z := (0 + (1 * s + 0))) gL (List.mem_of_getElem? (i := 3) rfl) rfl (by omega)) (hp_gLi (z := (0 + (1 * a + 0))) gL (List.mem_of_getElem? (i := 4) rfl) rfl (by omega)) (hp_gLi (z := (1 + (1 * b + 0))) gL (List.mem_of_getElem? (i := 5) rfl) rfl (by omega))
    cases hp
  · intro p_9 hp ys v_9 h' hys a1_9 a2 a3 gZ gS
    cases hp
theorem srD_k : hp_chk 287 29 5 [(0, 0, 1199), (1, 0, 29), (2, (-2147483648), 2147483647), (3, (-2147483648), 2147483647), (4, 1, 29)] [] [(0, .inr (.inr (.inl (some 94)))), (1, .inl (0, [(0, 1)])), (2, .inl (0, [(2, 1)])), (3, .inl (0, [(3, 1)])), (4, .inl (0, [(1, 1)])), (5, .inl (0, [(4, 1)]))] [.inl (1, [])] [] [] 2 [(42, ([], 5, [(0, 0, 1199), (1, 0, 29), (2, (-2147483648), 2147483647), (3, (-2147483648), 2147483647), (4, 1, 29)], [], [(0, .inr (.inr (.inl (some 94)))), (1, .inl (0, [(0, 1)])), (2, .inl (0, [(2, 1)])), (3, .inl (0, [(3, 1)])), (4, .inl (0, [(1, 1)])), (5, .inl (0, [(4, 1)])), (6, .inl (0, [(4, 40)]))], [], []))] [] = true := by decide +kernel
theorem srD {cst : am_K} {strs : List Nat} {Φ : am_Q → Prop} {D : Nat} {M : am_M} {h : am_H} {l : am_L} (c : hp_C cst strs D) (hM : m_P[287]? = some M) (hD : (2 : Int) ≤ (D : Int) + 1) (hy : ly_hy m_tt ly_TH h) (cc a y s b : Int) (x0 : Int32) (hx0 : x0.toInt = 1) (b0 : 0 ≤ cc) (t0 : cc ≤ 1199) (b1 : 0 ≤ a) (t1 : a ≤ 29) (b2 : (-2147483648) ≤ y) (t2 : y ≤ 2147483647) (b3 : (-2147483648) ≤ s) (t3 : s ≤ 2147483647) (b4 : 1 ≤ b) (t4 : b ≤ 29) (l0 : hp_a l 0 94) (l1 : hp_i l 1 (cc)) (l2 : hp_i l 2 (y)) (l3 : hp_i l 3 (s)) (l4 : hp_i l 4 (a)) (l5 : hp_i l 5 (b)) (e0 : ∀ (l' : am_L) (h' : am_H), ly_hy m_tt ly_TH h' → ly_fr cst [] h h' → h.length ≤ h'.length → hp_a l' 0 94 → hp_i l' 1 (cc) → hp_i l' 2 (y) → hp_i l' 3 (s) → hp_i l' 4 (a) → hp_i l' 5 (b) → hp_i l' 6 (40 * b) → hp_F cst strs Φ D M 42 l' [] h') : hp_F cst strs Φ D M 29 l [.int x0] h := by
  refine hp_arc c hM srD_k hD [cc, a, y, s, b] rfl hy (hp_Bc (z := cc) rfl b0 t0 (hp_Bc (z := a) rfl b1 t1 (hp_Bc (z := y) rfl b2 t2 (hp_Bc (z := s) rfl b3 t3 (hp_Bc (z := b) rfl b4 t4 hp_Bn))))) hp_Fn hp_Kn (hp_La l0 (hp_Li (z := (0 + (1 * cc + 0))) l1 rfl (by omega) (hp_Li (z := (0 + (1 * y + 0))) l2 rfl (by omega) (hp_Li (z := (0 + (1 * s + 0))) l3 rfl (by omega) (hp_Li (z := (0 + (1 * a + 0))) l4 rfl (by omega) (hp_Li (z := (0 + (1 * b + 0))) l5 rfl (by omega) hp_Ln)))))) (hp_Si (z := (1 + 0)) rfl (by omega) trivial) ?_ ?_
  · intro p_9 hp ys l' st' h' hys a1_9 a2 a3 gZ gL gS
    rcases List.mem_cons.mp hp with rfl | hp
    · obtain rfl := hp_y0 hys
      cases hp_gSn gS
      exact e0 l' h' a1_9 a2 a3 (hp_gLa gL (List.mem_of_getElem? (i := 0) rfl) (by decide)) (hp_gLi (z := (0 + (1 * cc + 0))) gL (List.mem_of_getElem? (i := 1) rfl) rfl (by omega)) (hp_gLi (z := (0 + (1 * y + 0))) gL (List.mem_of_getElem? (i := 2) rfl) rfl (by omega)) (hp_gLi (z := (0 + (1 * s + 0))) gL (List.mem_of_getElem? (i := 3) rfl) rfl (by omega)) (hp_gLi (z := (0 + (1 * a + 0))) gL (List.mem_of_getElem? (i := 4) rfl) rfl (by omega)) (hp_gLi (z := (0 + (1 * b + 0))) gL (List.mem_of_getElem? (i := 5) rfl) rfl (by omega)) (hp_gLi (z := (0 + (40 * b + 0))) gL (List.mem_of_getElem? (i := 6) rfl) rfl (by omega))
    cases hp
  · intro p_9 hp ys v_9 h' hys a1_9 a2 a3 gZ gS
    cases hp
theorem srE_k : hp_chk 287 42 6 [(0, 0, 1199), (1, 0, 29), (2, (-2147483648), 2147483647), (3, (-2147483648), 2147483647), (4, 1, 29), (5, 0, 40)] [] [(0, .inr (.inr (.inl (some 94)))), (1, .inl (0, [(0, 1)])), (2, .inl (0, [(2, 1)])), (3, .inl (0, [(3, 1)])), (4, .inl (0, [(1, 1)])), (5, .inl (0, [(4, 1)])), (6, .inl (0, [(4, 40), (5, 1)]))] [] [(23296, (0, [(4, 1)]), (0, [(5, 1)]))] [] 2 [(12, ([], 6, [(0, 0, 1199), (1, 0, 29), (2, (-2147483648), 2147483647), (3, (-2147483648), 2147483647), (4, 1, 29), (5, 0, 40)], [], [(0, .inr (.inr (.inl (some 94)))), (1, .inl (0, [(0, 1)])), (2, .inl (0, [(2, 1)])), (3, .inl (0, [(3, 1)])), (4, .inl (0, [(1, 1)])), (5, .inl (1, [(4, 1)]))], [], []))] [] = true := by decide +kernel
theorem srE {cst : am_K} {strs : List Nat} {Φ : am_Q → Prop} {D : Nat} {M : am_M} {h : am_H} {l : am_L} (c : hp_C cst strs D) (hM : m_P[287]? = some M) (hD : (2 : Int) ≤ (D : Int) + 1) (hy : ly_hy m_tt ly_TH h) (cc a y s b e : Int) (b0 : 0 ≤ cc) (t0 : cc ≤ 1199) (b1 : 0 ≤ a) (t1 : a ≤ 29) (b2 : (-2147483648) ≤ y) (t2 : y ≤ 2147483647) (b3 : (-2147483648) ≤ s) (t3 : s ≤ 2147483647) (b4 : 1 ≤ b) (t4 : b ≤ 29) (b5 : 0 ≤ e) (t5 : e ≤ 40) (k0 : ly_hv cst h 23296 (b) = some (e)) (l0 : hp_a l 0 94) (l1 : hp_i l 1 (cc)) (l2 : hp_i l 2 (y)) (l3 : hp_i l 3 (s)) (l4 : hp_i l 4 (a)) (l5 : hp_i l 5 (b)) (l6 : hp_i l 6 (40 * b + e)) (e0 : ∀ (l' : am_L) (h' : am_H), ly_hy m_tt ly_TH h' → ly_fr cst [] h h' → h.length ≤ h'.length → hp_a l' 0 94 → hp_i l' 1 (cc) → hp_i l' 2 (y) → hp_i l' 3 (s) → hp_i l' 4 (a) → hp_i l' 5 (b + 1) → hp_F cst strs Φ D M 12 l' [] h') : hp_F cst strs Φ D M 42 l [] h := by
  refine hp_arc c hM srE_k hD [cc, a, y, s, b, e] rfl hy (hp_Bc (z := cc) rfl b0 t0 (hp_Bc (z := a) rfl b1 t1 (hp_Bc (z := y) rfl b2 t2 (hp_Bc (z := s) rfl b3 t3 (hp_Bc (z := b) rfl b4 t4 (hp_Bc (z := e) rfl b5 t5 hp_Bn)))))) hp_Fn (hp_Kc (zi := (0 + (1 * b + 0))) (zv := (0 + (1 * e + 0))) k0 rfl rfl (by omega) (by omega) hp_Kn) (hp_La l0 (hp_Li (z := (0 + (1 * cc + 0))) l1 rfl (by omega) (hp_Li (z := (0 + (1 * y + 0))) l2 rfl (by omega) (hp_Li (z := (0 + (1 * s + 0))) l3 rfl (by omega) (hp_Li (z := (0 + (1 * a + 0))) l4 rfl (by omega) (hp_Li (z := (0 + (1 * b + 0))) l5 rfl (by omega) (hp_Li (z := (0 + (40 * b + (1 * e + 0)))) l6 rfl (by omega) hp_Ln))))))) trivial ?_ ?_
  · intro p_9 hp ys l' st' h' hys a1_9 a2 a3 gZ gL gS
    rcases List.mem_cons.mp hp with rfl | hp
    · obtain rfl := hp_y0 hys
      cases hp_gSn gS
      exact e0 l' h' a1_9 a2 a3 (hp_gLa gL (List.mem_of_getElem? (i := 0) rfl) (by decide)) (hp_gLi (z := (0 + (1 * cc + 0))) gL (List.mem_of_getElem? (i := 1) rfl) rfl (by omega)) (hp_gLi (z := (0 + (1 * y + 0))) gL (List.mem_of_getElem? (i := 2) rfl) rfl (by omega)) (hp_gLi (z := (0 + (1 * s + 0))) gL (List.mem_of_getElem? (i := 3) rfl) rfl (by omega)) (hp_gLi (z := (0 + (1 * a + 0))) gL (List.mem_of_getElem? (i := 4) rfl) rfl (by omega)) (hp_gLi (z := (1 + (1 * b + 0))) gL (List.mem_of_getElem? (i := 5) rfl) rfl (by omega))
    cases hp
  · intro p_9 hp ys v_9 h' hys a1_9 a2 a3 gZ gS
    cases hp
theorem srF_k : hp_chk 287 42 8 [(0, 0, 1199), (1, 0, 29), (2, (-2147483648), 2147483647), (3, (-2147483648), 2147483647), (4, 1, 29), (5, 0, 40), (6, 0, 39), (7, 0, 14)] [((-1), [(5, 1), (6, (-1))])] [(0, .inr (.inr (.inl (some 94)))), (1, .inl (0, [(0, 1)])), (2, .inl (0, [(2, 1)])), (3, .inl (0, [(3, 1)])), (4, .inl (0, [(1, 1)])), (5, .inl (0, [(4, 1)])), (6, .inl (0, [(4, 40), (6, 1)]))] [] [(23296, (0, [(4, 1)]), (0, [(5, 1)])), (23552, (0, [(4, 40), (6, 1)]), (0, [(7, 1)])), (61000, ((-14), [(7, 1)]), (1, []))] [] 2 [(42, ([], 8, [(0, 0, 1199), (1, 0, 29), (2, (-2147483648), 2147483647), (3, (-2147483648), 2147483647), (4, 1, 29), (5, 0, 40), (6, 0, 39), (7, 0, 14)], [], [(0, .inr (.inr (.inl (some 94)))), (1, .inl (0, [(0, 1)])), (2, .inl (0, [(2, 1)])), (3, .inl (0, [(3, 1)])), (4, .inl (0, [(1, 1)])), (5, .inl (0, [(4, 1)])), (6, .inl (1, [(4, 40), (6, 1)]))], [], []))] [] = true := by decide +kernel
theorem srF {cst : am_K} {strs : List Nat} {Φ : am_Q → Prop} {D : Nat} {M : am_M} {h : am_H} {l : am_L} (c : hp_C cst strs D) (hM : m_P[287]? = some M) (hD : (2 : Int) ≤ (D : Int) + 1) (hy : ly_hy m_tt ly_TH h) (cc a y s b e i x : Int) (b0 : 0 ≤ cc) (t0 : cc ≤ 1199) (b1 : 0 ≤ a) (t1 : a ≤ 29) (b2 : (-2147483648) ≤ y) (t2 : y ≤ 2147483647) (b3 : (-2147483648) ≤ s) (t3 : s ≤ 2147483647) (b4 : 1 ≤ b) (t4 : b ≤ 29) (b5 : 0 ≤ e) (t5 : e ≤ 40) (b6 : 0 ≤ i) (t6 : i ≤ 39) (b7 : 0 ≤ x) (t7 : x ≤ 14) (f0 : 0 ≤ (e - i - 1)) (k0 : ly_hv cst h 23296 (b) = some (e)) (k1 : ly_hv cst h 23552 (40 * b + i) = some (x)) (k2 : ly_hv cst h 61000 (x - 14) = some 1) (l0 : hp_a l 0 94) (l1 : hp_i l 1 (cc)) (l2 : hp_i l 2 (y)) (l3 : hp_i l 3 (s)) (l4 : hp_i l 4 (a)) (l5 : hp_i l 5 (b)) (l6 : hp_i l 6 (40 * b + i)) (e0 : ∀ (l' : am_L) (h' : am_H), ly_hy m_tt ly_TH h' → ly_fr cst [] h h' → h.length ≤ h'.length → hp_a l' 0 94 → hp_i l' 1 (cc) → hp_i l' 2 (y) → hp_i l' 3 (s) → hp_i l' 4 (a) → hp_i l' 5 (b) → hp_i l' 6 (40 * b + i + 1) → hp_F cst strs Φ D M 42 l' [] h') : hp_F cst strs Φ D M 42 l [] h := by
  refine hp_arc c hM srF_k hD [cc, a, y, s, b, e, i, x] rfl hy (hp_Bc (z := cc) rfl b0 t0 (hp_Bc (z := a) rfl b1 t1 (hp_Bc (z := y) rfl b2 t2 (hp_Bc (z := s) rfl b3 t3 (hp_Bc (z := b) rfl b4 t4 (hp_Bc (z := e) rfl b5 t5 (hp_Bc (z := i) rfl b6 t6 (hp_Bc (z := x) rfl b7 t7 hp_Bn)))))))) (hp_Fc (z := ((-1) + (1 * e + ((-1) * i + 0)))) rfl (by omega) hp_Fn) (hp_Kc (zi := (0 + (1 * b + 0))) (zv := (0 + (1 * e + 0))) k0 rfl rfl (by omega) (by omega) (hp_Kc (zi := (0 + (40 * b + (1 * i + 0)))) (zv := (0 + (1 * x + 0))) k1 rfl rfl (by omega) (by omega) (hp_Kc (zi := ((-14) + (1 * x + 0))) (zv := (1 + 0)) k2 rfl rfl (by omega) (by omega) hp_Kn))) (hp_La l0 (hp_Li (z := (0 + (1 * cc + 0))) l1 rfl (by omega) (hp_Li (z := (0 + (1 * y + 0))) l2 rfl (by omega) (hp_Li (z := (0 + (1 * s + 0))) l3 rfl (by omega) (hp_Li (z := (0 + (1 * a + 0))) l4 rfl (by omega) (hp_Li (z := (0 + (1 * b + 0))) l5 rfl (by omega) (hp_Li (z := (0 + (40 * b + (1 * i + 0)))) l6 rfl (by omega) hp_Ln))))))) trivial ?_ ?_
  · intro p_9 hp ys l' st' h' hys a1_9 a2 a3 gZ gL gS
    rcases List.mem_cons.mp hp with rfl | hp
    · obtain rfl := hp_y0 hys
      cases hp_gSn gS
      exact e0 l' h' a1_9 a2 a3 (hp_gLa gL (List.mem_of_getElem? (i := 0) rfl) (by decide)) (hp_gLi (z := (0 + (1 * cc + 0))) gL (List.mem_of_getElem? (i := 1) rfl) rfl (by omega)) (hp_gLi (z := (0 + (1 * y + 0))) gL (List.mem_of_getElem? (i := 2) rfl) rfl (by omega)) (hp_gLi (z := (0 + (1 * s + 0))) gL (List.mem_of_getElem? (i := 3) rfl) rfl (by omega)) (hp_gLi (z := (0 + (1 * a + 0))) gL (List.mem_of_getElem? (i := 4) rfl) rfl (by omega)) (hp_gLi (z := (0 + (1 * b + 0))) gL (List.mem_of_getElem? (i := 5) rfl) rfl (by omega)) (hp_gLi (z := (1 + (40 * b + (1 * i + 0)))) gL (List.mem_of_getElem? (i := 6) rfl) rfl (by omega))
    cases hp
  · intro p_9 hp ys v_9 h' hys a1_9 a2 a3 gZ gS
    cases hp
theorem srG_k : hp_chk 287 42 8 [(0, 0, 1199), (1, 0, 29), (2, (-2147483648), 2147483647), (3, (-2147483648), 2147483647), (4, 1, 29), (5, 0, 40), (6, 0, 39), (7, 0, 9999)] [((-1), [(5, 1), (6, (-1))])] [(0, .inr (.inr (.inl (some 94)))), (1, .inl (0, [(0, 1)])), (2, .inl (0, [(2, 1)])), (3, .inl (0, [(3, 1)])), (4, .inl (0, [(1, 1)])), (5, .inl (0, [(4, 1)])), (6, .inl (0, [(4, 40), (6, 1)]))] [] [(23296, (0, [(4, 1)]), (0, [(5, 1)])), (23552, (0, [(4, 40), (6, 1)]), (14, [])), (24064, (0, [(4, 40), (6, 1)]), (0, [(7, 1)])), (61000, (0, [(1, (-1)), (7, 1)]), (1, []))] [] 2 [(42, ([], 8, [(0, 0, 1199), (1, 0, 29), (2, (-2147483648), 2147483647), (3, (-2147483648), 2147483647), (4, 1, 29), (5, 0, 40), (6, 0, 39), (7, 0, 9999)], [], [(0, .inr (.inr (.inl (some 94)))), (1, .inl (0, [(0, 1)])), (2, .inl (0, [(2, 1)])), (3, .inl (0, [(3, 1)])), (4, .inl (0, [(1, 1)])), (5, .inl (0, [(4, 1)])), (6, .inl (1, [(4, 40), (6, 1)]))], [], []))] [] = true := by decide +kernel
theorem srG {cst : am_K} {strs : List Nat} {Φ : am_Q → Prop} {D : Nat} {M : am_M} {h : am_H} {l : am_L} (c : hp_C cst strs D) (hM : m_P[287]? = some M) (hD : (2 : Int) ≤ (D : Int) + 1) (hy : ly_hy m_tt ly_TH h) (cc a y s b e i z : Int) (b0 : 0 ≤ cc) (t0 : cc ≤ 1199) (b1 : 0 ≤ a) (t1 : a ≤ 29) (b2 : (-2147483648) ≤ y) (t2 : y ≤ 2147483647) (b3 : (-2147483648) ≤ s) (t3 : s ≤ 2147483647) (b4 : 1 ≤ b) (t4 : b ≤ 29) (b5 : 0 ≤ e) (t5 : e ≤ 40) (b6 : 0 ≤ i) (t6 : i ≤ 39) (b7 : 0 ≤ z) (t7 : z ≤ 9999) (f0 : 0 ≤ (e - i - 1)) (k0 : ly_hv cst h 23296 (b) = some (e)) (k1 : ly_hv cst h 23552 (40 * b + i) = some 14) (k2 : ly_hv cst h 24064 (40 * b + i) = some (z)) (k3 : ly_hv cst h 61000 (z - a) = some 1) (l0 : hp_a l 0 94) (l1 : hp_i l 1 (cc)) (l2 : hp_i l 2 (y)) (l3 : hp_i l 3 (s)) (l4 : hp_i l 4 (a)) (l5 : hp_i l 5 (b)) (l6 : hp_i l 6 (40 * b + i)) (e0 : ∀ (l' : am_L) (h' : am_H), ly_hy m_tt ly_TH h' → ly_fr cst [] h h' → h.length ≤ h'.length → hp_a l' 0 94 → hp_i l' 1 (cc) → hp_i l' 2 (y) → hp_i l' 3 (s) → hp_i l' 4 (a) → hp_i l' 5 (b) → hp_i l' 6 (40 * b + i + 1) → hp_F cst strs Φ D M 42 l' [] h') : hp_F cst strs Φ D M 42 l [] h := by
  refine hp_arc c hM srG_k hD [cc, a, y, s, b, e, i, z] rfl hy (hp_Bc (z := cc) rfl b0 t0 (hp_Bc (z := a) rfl b1 t1 (hp_Bc (z := y) rfl b2 t2 (hp_Bc (z := s) rfl b3 t3 (hp_Bc (z := b) rfl b4 t4 (hp_Bc (z := e) rfl b5 t5 (hp_Bc (z := i) rfl b6 t6 (hp_Bc (z := z) rfl b7 t7 hp_Bn)))))))) (hp_Fc (z := ((-1) + (1 * e + ((-1) * i + 0)))) rfl (by omega) hp_Fn) (hp_Kc (zi := (0 + (1 * b + 0))) (zv := (0 + (1 * e + 0))) k0 rfl rfl (by omega) (by omega) (hp_Kc (zi := (0 + (40 * b + (1 * i + 0)))) (zv := (14 + 0)) k1 rfl rfl (by omega) (by omega) (hp_Kc (zi := (0 + (40 * b + (1 * i + 0)))) (zv := (0 + (1 * z + 0))) k2 rfl rfl (by omega) (by omega) (hp_Kc (zi := (0 + ((-1) * a + (1 * z + 0)))) (zv := (1 + 0)) k3 rfl rfl (by omega) (by omega) hp_Kn)))) (hp_La l0 (hp_Li (z := (0 + (1 * cc + 0))) l1 rfl (by omega) (hp_Li (z := (0 + (1 * y + 0))) l2 rfl (by omega) (hp_Li (z := (0 + (1 * s + 0))) l3 rfl (by omega) (hp_Li (z := (0 + (1 * a + 0))) l4 rfl (by omega) (hp_Li (z := (0 + (1 * b + 0))) l5 rfl (by omega) (hp_Li (z := (0 + (40 * b + (1 * i + 0)))) l6 rfl (by omega) hp_Ln))))))) trivial ?_ ?_
  · intro p_9 hp ys l' st' h' hys a1_9 a2 a3 gZ gL gS
    rcases List.mem_cons.mp hp with rfl | hp
    · obtain rfl := hp_y0 hys
      cases hp_gSn gS
      exact e0 l' h' a1_9 a2 a3 (hp_gLa gL (List.mem_of_getElem? (i := 0) rfl) (by decide)) (hp_gLi (z := (0 + (1 * cc + 0))) gL (List.mem_of_getElem? (i := 1) rfl) rfl (by omega)) (hp_gLi (z := (0 + (1 * y + 0))) gL (List.mem_of_getElem? (i := 2) rfl) rfl (by omega)) (hp_gLi (z := (0 + (1 * s + 0))) gL (List.mem_of_getElem? (i := 3) rfl) rfl (by omega)) (hp_gLi (z := (0 + (1 * a + 0))) gL (List.mem_of_getElem? (i := 4) rfl) rfl (by omega)) (hp_gLi (z := (0 + (1 * b + 0))) gL (List.mem_of_getElem? (i := 5) rfl) rfl (by omega)) (hp_gLi (z := (1 + (40 * b + (1 * i + 0)))) gL (List.mem_of_getElem? (i := 6) rfl) rfl (by omega))
    cases hp
  · intro p_9 hp ys v_9 h' hys a1_9 a2 a3 gZ gS
    cases hp
theorem srH_k : hp_chk 287 42 7 [(0, 0, 1199), (1, 0, 29), (2, (-2147483648), 2147483647), (3, (-2147483648), 2147483647), (4, 1, 29), (5, 0, 40), (6, 0, 39)] [((-1), [(5, 1), (6, (-1))])] [(0, .inr (.inr (.inl (some 94)))), (1, .inl (0, [(0, 1)])), (2, .inl (0, [(2, 1)])), (3, .inl (0, [(3, 1)])), (4, .inl (0, [(1, 1)])), (5, .inl (0, [(4, 1)])), (6, .inl (0, [(4, 40), (6, 1)]))] [] [(23296, (0, [(4, 1)]), (0, [(5, 1)])), (23552, (0, [(4, 40), (6, 1)]), (14, [])), (24064, (0, [(4, 40), (6, 1)]), (0, [(1, 1)])), (23808, (0, [(4, 40), (6, 1)]), (0, []))] [] 2 [] [([], 7, [(0, 0, 1199), (1, 0, 29), (2, (-2147483648), 2147483647), (3, (-2147483648), 2147483647), (4, 1, 29), (5, 0, 40), (6, 0, 39)], [], [], [.inl (1, [])], [])] = true := by decide +kernel
theorem srH {cst : am_K} {strs : List Nat} {Φ : am_Q → Prop} {D : Nat} {M : am_M} {h : am_H} {l : am_L} (c : hp_C cst strs D) (hM : m_P[287]? = some M) (hD : (2 : Int) ≤ (D : Int) + 1) (hy : ly_hy m_tt ly_TH h) (cc a y s b e i : Int) (b0 : 0 ≤ cc) (t0 : cc ≤ 1199) (b1 : 0 ≤ a) (t1 : a ≤ 29) (b2 : (-2147483648) ≤ y) (t2 : y ≤ 2147483647) (b3 : (-2147483648) ≤ s) (t3 : s ≤ 2147483647) (b4 : 1 ≤ b) (t4 : b ≤ 29) (b5 : 0 ≤ e) (t5 : e ≤ 40) (b6 : 0 ≤ i) (t6 : i ≤ 39) (f0 : 0 ≤ (e - i - 1)) (k0 : ly_hv cst h 23296 (b) = some (e)) (k1 : ly_hv cst h 23552 (40 * b + i) = some 14) (k2 : ly_hv cst h 24064 (40 * b + i) = some (a)) (k3 : ly_hv cst h 23808 (40 * b + i) = some 0) (l0 : hp_a l 0 94) (l1 : hp_i l 1 (cc)) (l2 : hp_i l 2 (y)) (l3 : hp_i l 3 (s)) (l4 : hp_i l 4 (a)) (l5 : hp_i l 5 (b)) (l6 : hp_i l 6 (40 * b + i)) (r0 : ∀ (h' : am_H) (y0 : Int32), y0.toInt = 1 → ly_hy m_tt ly_TH h' → ly_fr cst [] h h' → h.length ≤ h'.length → Φ (some (.int y0), h', 0, 0)) : hp_F cst strs Φ D M 42 l [] h := by
  refine hp_arc c hM srH_k hD [cc, a, y, s, b, e, i] rfl hy (hp_Bc (z := cc) rfl b0 t0 (hp_Bc (z := a) rfl b1 t1 (hp_Bc (z := y) rfl b2 t2 (hp_Bc (z := s) rfl b3 t3 (hp_Bc (z := b) rfl b4 t4 (hp_Bc (z := e) rfl b5 t5 (hp_Bc (z := i) rfl b6 t6 hp_Bn))))))) (hp_Fc (z := ((-1) + (1 * e + ((-1) * i + 0)))) rfl (by omega) hp_Fn) (hp_Kc (zi := (0 + (1 * b + 0))) (zv := (0 + (1 * e + 0))) k0 rfl rfl (by omega) (by omega) (hp_Kc (zi := (0 + (40 * b + (1 * i + 0)))) (zv := (14 + 0)) k1 rfl rfl (by omega) (by omega) (hp_Kc (zi := (0 + (40 * b + (1 * i + 0)))) (zv := (0 + (1 * a + 0))) k2 rfl rfl (by omega) (by omega) (hp_Kc (zi := (0 + (40 * b + (1 * i + 0)))) (zv := (0 + 0)) k3 rfl rfl (by omega) (by omega) hp_Kn)))) (hp_La l0 (hp_Li (z := (0 + (1 * cc + 0))) l1 rfl (by omega) (hp_Li (z := (0 + (1 * y + 0))) l2 rfl (by omega) (hp_Li (z := (0 + (1 * s + 0))) l3 rfl (by omega) (hp_Li (z := (0 + (1 * a + 0))) l4 rfl (by omega) (hp_Li (z := (0 + (1 * b + 0))) l5 rfl (by omega) (hp_Li (z := (0 + (40 * b + (1 * i + 0)))) l6 rfl (by omega) hp_Ln))))))) trivial ?_ ?_
  · intro p_9 hp ys l' st' h' hys a1_9 a2 a3 gZ gL gS
    cases hp
  · intro p_9 hp ys v_9 h' hys a1_9 a2 a3 gZ gS
    rcases List.mem_cons.mp hp with rfl | hp
    · obtain rfl := hp_y0 hys
      cases v_9 with
      | none => cases gS
      | some wz =>
        obtain ⟨y0, t0, s0_9, q0, -⟩ := hp_gSi (z := (1 + 0)) gS rfl
        cases s0_9
        exact r0 h' y0 (by omega) a1_9 a2 a3
    cases hp
theorem srI_k : hp_chk 287 42 9 [(0, 0, 1199), (1, 0, 29), (2, (-2147483648), 2147483647), (3, (-2147483648), 2147483647), (4, 1, 29), (5, 0, 40), (6, 0, 39), (7, (-9223372036854775808), 9223372036854775807), (8, 7, 14)] [((-1), [(5, 1), (6, (-1))])] [(0, .inr (.inr (.inl (some 94)))), (1, .inl (0, [(0, 1)])), (2, .inl (0, [(2, 1)])), (3, .inl (0, [(3, 1)])), (4, .inl (0, [(1, 1)])), (5, .inl (0, [(4, 1)])), (6, .inl (0, [(4, 40), (6, 1)]))] [] [(23296, (0, [(4, 1)]), (0, [(5, 1)])), (23552, (0, [(4, 40), (6, 1)]), (14, [])), (24064, (0, [(4, 40), (6, 1)]), (0, [(1, 1)])), (23808, (0, [(4, 40), (6, 1)]), (0, [(7, 1)])), (61000, (0, [(7, 1)]), (1, [])), (23552, (0, [(0, 1)]), (0, [(8, 1)]))] [] 2 [(42, ([], 9, [(0, 0, 1199), (1, 0, 29), (2, (-2147483648), 2147483647), (3, (-2147483648), 2147483647), (4, 1, 29), (5, 0, 40), (6, 0, 39), (7, (-9223372036854775808), 9223372036854775807), (8, 7, 14)], [], [(0, .inr (.inr (.inl (some 94)))), (1, .inl (0, [(0, 1)])), (2, .inl (0, [(2, 1)])), (3, .inl (0, [(3, 1)])), (4, .inl (0, [(1, 1)])), (5, .inl (0, [(4, 1)])), (6, .inl (1, [(4, 40), (6, 1)]))], [], []))] [] = true := by decide +kernel
theorem srI {cst : am_K} {strs : List Nat} {Φ : am_Q → Prop} {D : Nat} {M : am_M} {h : am_H} {l : am_L} (c : hp_C cst strs D) (hM : m_P[287]? = some M) (hD : (2 : Int) ≤ (D : Int) + 1) (hy : ly_hy m_tt ly_TH h) (cc a y s b e i w q : Int) (b0 : 0 ≤ cc) (t0 : cc ≤ 1199) (b1 : 0 ≤ a) (t1 : a ≤ 29) (b2 : (-2147483648) ≤ y) (t2 : y ≤ 2147483647) (b3 : (-2147483648) ≤ s) (t3 : s ≤ 2147483647) (b4 : 1 ≤ b) (t4 : b ≤ 29) (b5 : 0 ≤ e) (t5 : e ≤ 40) (b6 : 0 ≤ i) (t6 : i ≤ 39) (b7 : (-9223372036854775808) ≤ w) (t7 : w ≤ 9223372036854775807) (b8 : 7 ≤ q) (t8 : q ≤ 14) (f0 : 0 ≤ (e - i - 1)) (k0 : ly_hv cst h 23296 (b) = some (e)) (k1 : ly_hv cst h 23552 (40 * b + i) = some 14) (k2 : ly_hv cst h 24064 (40 * b + i) = some (a)) (k3 : ly_hv cst h 23808 (40 * b + i) = some (w)) (k4 : ly_hv cst h 61000 (w) = some 1) (k5 : ly_hv cst h 23552 (cc) = some (q)) (l0 : hp_a l 0 94) (l1 : hp_i l 1 (cc)) (l2 : hp_i l 2 (y)) (l3 : hp_i l 3 (s)) (l4 : hp_i l 4 (a)) (l5 : hp_i l 5 (b)) (l6 : hp_i l 6 (40 * b + i)) (e0 : ∀ (l' : am_L) (h' : am_H), ly_hy m_tt ly_TH h' → ly_fr cst [] h h' → h.length ≤ h'.length → hp_a l' 0 94 → hp_i l' 1 (cc) → hp_i l' 2 (y) → hp_i l' 3 (s) → hp_i l' 4 (a) → hp_i l' 5 (b) → hp_i l' 6 (40 * b + i + 1) → hp_F cst strs Φ D M 42 l' [] h') : hp_F cst strs Φ D M 42 l [] h := by
  refine hp_arc c hM srI_k hD [cc, a, y, s, b, e, i, w, q] rfl hy (hp_Bc (z := cc) rfl b0 t0 (hp_Bc (z := a) rfl b1 t1 (hp_Bc (z := y) rfl b2 t2 (hp_Bc (z := s) rfl b3 t3 (hp_Bc (z := b) rfl b4 t4 (hp_Bc (z := e) rfl b5 t5 (hp_Bc (z := i) rfl b6 t6 (hp_Bc (z := w) rfl b7 t7 (hp_Bc (z := q) rfl b8 t8 hp_Bn))))))))) (hp_Fc (z := ((-1) + (1 * e + ((-1) * i + 0)))) rfl (by omega) hp_Fn) (hp_Kc (zi := (0 + (1 * b + 0))) (zv := (0 + (1 * e + 0))) k0 rfl rfl (by omega) (by omega) (hp_Kc (zi := (0 + (40 * b + (1 * i + 0)))) (zv := (14 + 0)) k1 rfl rfl (by omega) (by omega) (hp_Kc (zi := (0 + (40 * b + (1 * i + 0)))) (zv := (0 + (1 * a + 0))) k2 rfl rfl (by omega) (by omega) (hp_Kc (zi := (0 + (40 * b + (1 * i + 0)))) (zv := (0 + (1 * w + 0))) k3 rfl rfl (by omega) (by omega) (hp_Kc (zi := (0 + (1 * w + 0))) (zv := (1 + 0)) k4 rfl rfl (by omega) (by omega) (hp_Kc (zi := (0 + (1 * cc + 0))) (zv := (0 + (1 * q + 0))) k5 rfl rfl (by omega) (by omega) hp_Kn)))))) (hp_La l0 (hp_Li (z := (0 + (1 * cc + 0))) l1 rfl (by omega) (hp_Li (z := (0 + (1 * y + 0))) l2 rfl (by omega) (hp_Li (z := (0 + (1 * s + 0))) l3 rfl (by omega) (hp_Li (z := (0 + (1 * a + 0))) l4 rfl (by omega) (hp_Li (z := (0 + (1 * b + 0))) l5 rfl (by omega) (hp_Li (z := (0 + (40 * b + (1 * i + 0)))) l6 rfl (by omega) hp_Ln))))))) trivial ?_ ?_
  · intro p_9 hp ys l' st' h' hys a1_9 a2 a3 gZ gL gS
    rcases List.mem_cons.mp hp with rfl | hp
    · obtain rfl := hp_y0 hys
      cases hp_gSn gS
      exact e0 l' h' a1_9 a2 a3 (hp_gLa gL (List.mem_of_getElem? (i := 0) rfl) (by decide)) (hp_gLi (z := (0 + (1 * cc + 0))) gL (List.mem_of_getElem? (i := 1) rfl) rfl (by omega)) (hp_gLi (z := (0 + (1 * y + 0))) gL (List.mem_of_getElem? (i := 2) rfl) rfl (by omega)) (hp_gLi (z := (0 + (1 * s + 0))) gL (List.mem_of_getElem? (i := 3) rfl) rfl (by omega)) (hp_gLi (z := (0 + (1 * a + 0))) gL (List.mem_of_getElem? (i := 4) rfl) rfl (by omega)) (hp_gLi (z := (0 + (1 * b + 0))) gL (List.mem_of_getElem? (i := 5) rfl) rfl (by omega)) (hp_gLi (z := (1 + (40 * b + (1 * i + 0)))) gL (List.mem_of_getElem? (i := 6) rfl) rfl (by omega))
    cases hp
  · intro p_9 hp ys v_9 h' hys a1_9 a2 a3 gZ gS
    cases hp
theorem srJ_k : hp_chk 287 42 10 [(0, 0, 1199), (1, 0, 29), (2, (-2147483648), 2147483647), (3, (-2147483648), 2147483647), (4, 1, 29), (5, 0, 40), (6, 0, 39), (7, (-9223372036854775808), 9223372036854775807), (8, 0, 6), (9, (-9223372036854775808), 9223372036854775807)] [((-1), [(5, 1), (6, (-1))])] [(0, .inr (.inr (.inl (some 94)))), (1, .inl (0, [(0, 1)])), (2, .inl (0, [(2, 1)])), (3, .inl (0, [(3, 1)])), (4, .inl (0, [(1, 1)])), (5, .inl (0, [(4, 1)])), (6, .inl (0, [(4, 40), (6, 1)]))] [] [(23296, (0, [(4, 1)]), (0, [(5, 1)])), (23552, (0, [(4, 40), (6, 1)]), (14, [])), (24064, (0, [(4, 40), (6, 1)]), (0, [(1, 1)])), (23808, (0, [(4, 40), (6, 1)]), (0, [(7, 1)])), (61000, (0, [(7, 1)]), (1, [])), (23552, (0, [(0, 1)]), (0, [(8, 1)])), (23808, (0, [(0, 1)]), (0, [(9, 1)])), (61000, (0, [(7, 1), (9, (-1))]), (1, []))] [] 2 [(42, ([], 10, [(0, 0, 1199), (1, 0, 29), (2, (-2147483648), 2147483647), (3, (-2147483648), 2147483647), (4, 1, 29), (5, 0, 40), (6, 0, 39), (7, (-9223372036854775808), 9223372036854775807), (8, 0, 6), (9, (-9223372036854775808), 9223372036854775807)], [], [(0, .inr (.inr (.inl (some 94)))), (1, .inl (0, [(0, 1)])), (2, .inl (0, [(2, 1)])), (3, .inl (0, [(3, 1)])), (4, .inl (0, [(1, 1)])), (5, .inl (0, [(4, 1)])), (6, .inl (1, [(4, 40), (6, 1)]))], [], []))] [] = true := by decide +kernel
theorem srJ {cst : am_K} {strs : List Nat} {Φ : am_Q → Prop} {D : Nat} {M : am_M} {h : am_H} {l : am_L} (c : hp_C cst strs D) (hM : m_P[287]? = some M) (hD : (2 : Int) ≤ (D : Int) + 1) (hy : ly_hy m_tt ly_TH h) (cc a y s b e i w q d : Int) (b0 : 0 ≤ cc) (t0 : cc ≤ 1199) (b1 : 0 ≤ a) (t1 : a ≤ 29) (b2 : (-2147483648) ≤ y) (t2 : y ≤ 2147483647) (b3 : (-2147483648) ≤ s) (t3 : s ≤ 2147483647) (b4 : 1 ≤ b) (t4 : b ≤ 29) (b5 : 0 ≤ e) (t5 : e ≤ 40) (b6 : 0 ≤ i) (t6 : i ≤ 39) (b7 : (-9223372036854775808) ≤ w) (t7 : w ≤ 9223372036854775807) (b8 : 0 ≤ q) (t8 : q ≤ 6) (b9 : (-9223372036854775808) ≤ d) (t9 : d ≤ 9223372036854775807) (f0 : 0 ≤ (e - i - 1)) (k0 : ly_hv cst h 23296 (b) = some (e)) (k1 : ly_hv cst h 23552 (40 * b + i) = some 14) (k2 : ly_hv cst h 24064 (40 * b + i) = some (a)) (k3 : ly_hv cst h 23808 (40 * b + i) = some (w)) (k4 : ly_hv cst h 61000 (w) = some 1) (k5 : ly_hv cst h 23552 (cc) = some (q)) (k6 : ly_hv cst h 23808 (cc) = some (d)) (k7 : ly_hv cst h 61000 (w - d) = some 1) (l0 : hp_a l 0 94) (l1 : hp_i l 1 (cc)) (l2 : hp_i l 2 (y)) (l3 : hp_i l 3 (s)) (l4 : hp_i l 4 (a)) (l5 : hp_i l 5 (b)) (l6 : hp_i l 6 (40 * b + i)) (e0 : ∀ (l' : am_L) (h' : am_H), ly_hy m_tt ly_TH h' → ly_fr cst [] h h' → h.length ≤ h'.length → hp_a l' 0 94 → hp_i l' 1 (cc) → hp_i l' 2 (y) → hp_i l' 3 (s) → hp_i l' 4 (a) → hp_i l' 5 (b) → hp_i l' 6 (40 * b + i + 1) → hp_F cst strs Φ D M 42 l' [] h') : hp_F cst strs Φ D M 42 l [] h := by
  refine hp_arc c hM srJ_k hD [cc, a, y, s, b, e, i, w, q, d] rfl hy (hp_Bc (z := cc) rfl b0 t0 (hp_Bc (z := a) rfl b1 t1 (hp_Bc (z := y) rfl b2 t2 (hp_Bc (z := s) rfl b3 t3 (hp_Bc (z := b) rfl b4 t4 (hp_Bc (z := e) rfl b5 t5 (hp_Bc (z := i) rfl b6 t6 (hp_Bc (z := w) rfl b7 t7 (hp_Bc (z := q) rfl b8 t8 (hp_Bc (z := d) rfl b9 t9 hp_Bn)))))))))) (hp_Fc (z := ((-1) + (1 * e + ((-1) * i + 0)))) rfl (by omega) hp_Fn) (hp_Kc (zi := (0 + (1 * b + 0))) (zv := (0 + (1 * e + 0))) k0 rfl rfl (by omega) (by omega) (hp_Kc (zi := (0 + (40 * b + (1 * i + 0)))) (zv := (14 + 0)) k1 rfl rfl (by omega) (by omega) (hp_Kc (zi := (0 + (40 * b + (1 * i + 0)))) (zv := (0 + (1 * a + 0))) k2 rfl rfl (by omega) (by omega) (hp_Kc (zi := (0 + (40 * b + (1 * i + 0)))) (zv := (0 + (1 * w + 0))) k3 rfl rfl (by omega) (by omega) (hp_Kc (zi := (0 + (1 * w + 0))) (zv := (1 + 0)) k4 rfl rfl (by omega) (by omega) (hp_Kc (zi := (0 + (1 * cc + 0))) (zv := (0 + (1 * q + 0))) k5 rfl rfl (by omega) (by omega) (hp_Kc (zi := (0 + (1 * cc + 0))) (zv := (0 + (1 * d + 0))) k6 rfl rfl (by omega) (by omega) (hp_Kc (zi := (0 + (1 * w + ((-1) * d + 0)))) (zv := (1 + 0)) k7 rfl rfl (by omega) (by omega) hp_Kn)))))))) (hp_La l0 (hp_Li (z := (0 + (1 * cc + 0))) l1 rfl (by omega) (hp_Li (z := (0 + (1 * y + 0))) l2 rfl (by omega) (hp_Li (z := (0 + (1 * s + 0))) l3 rfl (by omega) (hp_Li (z := (0 + (1 * a + 0))) l4 rfl (by omega) (hp_Li (z := (0 + (1 * b + 0))) l5 rfl (by omega) (hp_Li (z := (0 + (40 * b + (1 * i + 0)))) l6 rfl (by omega) hp_Ln))))))) trivial ?_ ?_
  · intro p_9 hp ys l' st' h' hys a1_9 a2 a3 gZ gL gS
    rcases List.mem_cons.mp hp with rfl | hp
    · obtain rfl := hp_y0 hys
      cases hp_gSn gS
      exact e0 l' h' a1_9 a2 a3 (hp_gLa gL (List.mem_of_getElem? (i := 0) rfl) (by decide)) (hp_gLi (z := (0 + (1 * cc + 0))) gL (List.mem_of_getElem? (i := 1) rfl) rfl (by omega)) (hp_gLi (z := (0 + (1 * y + 0))) gL (List.mem_of_getElem? (i := 2) rfl) rfl (by omega)) (hp_gLi (z := (0 + (1 * s + 0))) gL (List.mem_of_getElem? (i := 3) rfl) rfl (by omega)) (hp_gLi (z := (0 + (1 * a + 0))) gL (List.mem_of_getElem? (i := 4) rfl) rfl (by omega)) (hp_gLi (z := (0 + (1 * b + 0))) gL (List.mem_of_getElem? (i := 5) rfl) rfl (by omega)) (hp_gLi (z := (1 + (40 * b + (1 * i + 0)))) gL (List.mem_of_getElem? (i := 6) rfl) rfl (by omega))
    cases hp
  · intro p_9 hp ys v_9 h' hys a1_9 a2 a3 gZ gS
    cases hp
theorem srK_k : hp_chk 287 42 9 [(0, 0, 1199), (1, 0, 29), (2, (-2147483648), 2147483647), (3, (-2147483648), 2147483647), (4, 1, 29), (5, 0, 40), (6, 0, 39), (7, 0, 6), (8, (-9223372036854775808), 9223372036854775807)] [((-1), [(5, 1), (6, (-1))])] [(0, .inr (.inr (.inl (some 94)))), (1, .inl (0, [(0, 1)])), (2, .inl (0, [(2, 1)])), (3, .inl (0, [(3, 1)])), (4, .inl (0, [(1, 1)])), (5, .inl (0, [(4, 1)])), (6, .inl (0, [(4, 40), (6, 1)]))] [] [(23296, (0, [(4, 1)]), (0, [(5, 1)])), (23552, (0, [(4, 40), (6, 1)]), (14, [])), (24064, (0, [(4, 40), (6, 1)]), (0, [(1, 1)])), (23808, (0, [(4, 40), (6, 1)]), (0, [(8, 1)])), (61000, (0, [(8, 1)]), (1, [])), (23552, (0, [(0, 1)]), (0, [(7, 1)])), (23808, (0, [(0, 1)]), (0, [(8, 1)]))] [] 2 [] [([], 9, [(0, 0, 1199), (1, 0, 29), (2, (-2147483648), 2147483647), (3, (-2147483648), 2147483647), (4, 1, 29), (5, 0, 40), (6, 0, 39), (7, 0, 6), (8, (-9223372036854775808), 9223372036854775807)], [], [], [.inl (1, [])], [])] = true := by decide +kernel
theorem srK {cst : am_K} {strs : List Nat} {Φ : am_Q → Prop} {D : Nat} {M : am_M} {h : am_H} {l : am_L} (c : hp_C cst strs D) (hM : m_P[287]? = some M) (hD : (2 : Int) ≤ (D : Int) + 1) (hy : ly_hy m_tt ly_TH h) (cc a y s b e i q d : Int) (b0 : 0 ≤ cc) (t0 : cc ≤ 1199) (b1 : 0 ≤ a) (t1 : a ≤ 29) (b2 : (-2147483648) ≤ y) (t2 : y ≤ 2147483647) (b3 : (-2147483648) ≤ s) (t3 : s ≤ 2147483647) (b4 : 1 ≤ b) (t4 : b ≤ 29) (b5 : 0 ≤ e) (t5 : e ≤ 40) (b6 : 0 ≤ i) (t6 : i ≤ 39) (b7 : 0 ≤ q) (t7 : q ≤ 6) (b8 : (-9223372036854775808) ≤ d) (t8 : d ≤ 9223372036854775807) (f0 : 0 ≤ (e - i - 1)) (k0 : ly_hv cst h 23296 (b) = some (e)) (k1 : ly_hv cst h 23552 (40 * b + i) = some 14) (k2 : ly_hv cst h 24064 (40 * b + i) = some (a)) (k3 : ly_hv cst h 23808 (40 * b + i) = some (d)) (k4 : ly_hv cst h 61000 (d) = some 1) (k5 : ly_hv cst h 23552 (cc) = some (q)) (k6 : ly_hv cst h 23808 (cc) = some (d)) (l0 : hp_a l 0 94) (l1 : hp_i l 1 (cc)) (l2 : hp_i l 2 (y)) (l3 : hp_i l 3 (s)) (l4 : hp_i l 4 (a)) (l5 : hp_i l 5 (b)) (l6 : hp_i l 6 (40 * b + i)) (r0 : ∀ (h' : am_H) (y0 : Int32), y0.toInt = 1 → ly_hy m_tt ly_TH h' → ly_fr cst [] h h' → h.length ≤ h'.length → Φ (some (.int y0), h', 0, 0)) : hp_F cst strs Φ D M 42 l [] h := by
  refine hp_arc c hM srK_k hD [cc, a, y, s, b, e, i, q, d] rfl hy (hp_Bc (z := cc) rfl b0 t0 (hp_Bc (z := a) rfl b1 t1 (hp_Bc (z := y) rfl b2 t2 (hp_Bc (z := s) rfl b3 t3 (hp_Bc (z := b) rfl b4 t4 (hp_Bc (z := e) rfl b5 t5 (hp_Bc (z := i) rfl b6 t6 (hp_Bc (z := q) rfl b7 t7 (hp_Bc (z := d) rfl b8 t8 hp_Bn))))))))) (hp_Fc (z := ((-1) + (1 * e + ((-1) * i + 0)))) rfl (by omega) hp_Fn) (hp_Kc (zi := (0 + (1 * b + 0))) (zv := (0 + (1 * e + 0))) k0 rfl rfl (by omega) (by omega) (hp_Kc (zi := (0 + (40 * b + (1 * i + 0)))) (zv := (14 + 0)) k1 rfl rfl (by omega) (by omega) (hp_Kc (zi := (0 + (40 * b + (1 * i + 0)))) (zv := (0 + (1 * a + 0))) k2 rfl rfl (by omega) (by omega) (hp_Kc (zi := (0 + (40 * b + (1 * i + 0)))) (zv := (0 + (1 * d + 0))) k3 rfl rfl (by omega) (by omega) (hp_Kc (zi := (0 + (1 * d + 0))) (zv := (1 + 0)) k4 rfl rfl (by omega) (by omega) (hp_Kc (zi := (0 + (1 * cc + 0))) (zv := (0 + (1 * q + 0))) k5 rfl rfl (by omega) (by omega) (hp_Kc (zi := (0 + (1 * cc + 0))) (zv := (0 + (1 * d + 0))) k6 rfl rfl (by omega) (by omega) hp_Kn))))))) (hp_La l0 (hp_Li (z := (0 + (1 * cc + 0))) l1 rfl (by omega) (hp_Li (z := (0 + (1 * y + 0))) l2 rfl (by omega) (hp_Li (z := (0 + (1 * s + 0))) l3 rfl (by omega) (hp_Li (z := (0 + (1 * a + 0))) l4 rfl (by omega) (hp_Li (z := (0 + (1 * b + 0))) l5 rfl (by omega) (hp_Li (z := (0 + (40 * b + (1 * i + 0)))) l6 rfl (by omega) hp_Ln))))))) trivial ?_ ?_
  · intro p_9 hp ys l' st' h' hys a1_9 a2 a3 gZ gL gS
    cases hp
  · intro p_9 hp ys v_9 h' hys a1_9 a2 a3 gZ gS
    rcases List.mem_cons.mp hp with rfl | hp
    · obtain rfl := hp_y0 hys
      cases v_9 with
      | none => cases gS
      | some wz =>
        obtain ⟨y0, t0, s0_9, q0, -⟩ := hp_gSi (z := (1 + 0)) gS rfl
        cases s0_9
        exact r0 h' y0 (by omega) a1_9 a2 a3
    cases hp
theorem co0_k : hp_chk 285 0 5 [(0, 0, 29), (1, 0, 13), (2, (-9223372036854775808), 9223372036854775807), (3, (-2147483648), 2147483647), (4, (-2147483648), 2147483647)] [] [(0, .inr (.inr (.inl (some 94)))), (1, .inl (0, [(0, 1)])), (2, .inl (0, [(1, 1)])), (3, .inr (.inl (0, [(2, 1)]))), (5, .inl (0, [(3, 1)])), (6, .inl (0, [(4, 1)]))] [] [] [] 2 [(6, ([], 5, [(0, 0, 29), (1, 0, 13), (2, (-9223372036854775808), 9223372036854775807), (3, (-2147483648), 2147483647), (4, (-2147483648), 2147483647)], [], [(0, .inr (.inr (.inl (some 94)))), (1, .inl (0, [(0, 1)])), (2, .inl (0, [(1, 1)])), (3, .inr (.inl (0, [(2, 1)]))), (5, .inl (0, [(3, 1)])), (6, .inl (0, [(4, 1)]))], [.inl (0, [(4, 1)]), .inl (0, [(3, 1)]), .inl (0, [(0, 1)]), .inr (.inr (.inl (some 94)))], []))] [] = true := by decide +kernel
theorem co0 {cst : am_K} {strs : List Nat} {Φ : am_Q → Prop} {D : Nat} {M : am_M} {h : am_H} {l : am_L} (c : hp_C cst strs D) (hM : m_P[285]? = some M) (hD : (2 : Int) ≤ (D : Int) + 1) (hy : ly_hy m_tt ly_TH h) (a k d y s : Int) (b0 : 0 ≤ a) (t0 : a ≤ 29) (b1 : 0 ≤ k) (t1 : k ≤ 13) (b2 : (-9223372036854775808) ≤ d) (t2 : d ≤ 9223372036854775807) (b3 : (-2147483648) ≤ y) (t3 : y ≤ 2147483647) (b4 : (-2147483648) ≤ s) (t4 : s ≤ 2147483647) (l0 : hp_a l 0 94) (l1 : hp_i l 1 (a)) (l2 : hp_i l 2 (k)) (l3 : hp_j l 3 (d)) (l5 : hp_i l 5 (y)) (l6 : hp_i l 6 (s)) (e0 : ∀ (l' : am_L) (h' : am_H) (y0 : Int32) (y1 : Int32) (y2 : Int32), y0.toInt = (s) → y1.toInt = (y) → y2.toInt = (a) → ly_hy m_tt ly_TH h' → ly_fr cst [] h h' → h.length ≤ h'.length → hp_a l' 0 94 → hp_i l' 1 (a) → hp_i l' 2 (k) → hp_j l' 3 (d) → hp_i l' 5 (y) → hp_i l' 6 (s) → hp_F cst strs Φ D M 6 l' [.int y0, .int y1, .int y2, .ref 94] h') : hp_F cst strs Φ D M 0 l [] h := by
  refine hp_arc c hM co0_k hD [a, k, d, y, s] rfl hy (hp_Bc (z := a) rfl b0 t0 (hp_Bc (z := k) rfl b1 t1 (hp_Bc (z := d) rfl b2 t2 (hp_Bc (z := y) rfl b3 t3 (hp_Bc (z := s) rfl b4 t4 hp_Bn))))) hp_Fn hp_Kn (hp_La l0 (hp_Li (z := (0 + (1 * a + 0))) l1 rfl (by omega) (hp_Li (z := (0 + (1 * k + 0))) l2 rfl (by omega) (hp_Lj (z := (0 + (1 * d + 0))) l3 rfl (by omega) (hp_Li (z := (0 + (1 * y + 0))) l5 rfl (by omega) (hp_Li (z := (0 + (1 * s + 0))) l6 rfl (by omega) hp_Ln)))))) trivial ?_ ?_
  · intro p_9 hp ys l' st' h' hys a1_9 a2 a3 gZ gL gS
    rcases List.mem_cons.mp hp with rfl | hp
    · obtain rfl := hp_y0 hys
      obtain ⟨y0, t0, rfl, q0, g0⟩ := hp_gSi (z := (0 + (1 * s + 0))) gS rfl
      obtain ⟨y1, t1, rfl, q1_9, g1⟩ := hp_gSi (z := (0 + (1 * y + 0))) g0 rfl
      obtain ⟨y2, t2, rfl, q2_9, g2⟩ := hp_gSi (z := (0 + (1 * a + 0))) g1 rfl
      obtain ⟨t3, rfl, g3_9⟩ := hp_gSa g2 (by decide)
      cases hp_gSn g3_9
      exact e0 l' h' y0 y1 y2 (by omega) (by omega) (by omega) a1_9 a2 a3 (hp_gLa gL (List.mem_of_getElem? (i := 0) rfl) (by decide)) (hp_gLi (z := (0 + (1 * a + 0))) gL (List.mem_of_getElem? (i := 1) rfl) rfl (by omega)) (hp_gLi (z := (0 + (1 * k + 0))) gL (List.mem_of_getElem? (i := 2) rfl) rfl (by omega)) (hp_gLj (z := (0 + (1 * d + 0))) gL (List.mem_of_getElem? (i := 3) rfl) rfl (by omega)) (hp_gLi (z := (0 + (1 * y + 0))) gL (List.mem_of_getElem? (i := 4) rfl) rfl (by omega)) (hp_gLi (z := (0 + (1 * s + 0))) gL (List.mem_of_getElem? (i := 5) rfl) rfl (by omega))
    cases hp
  · intro p_9 hp ys v_9 h' hys a1_9 a2 a3 gZ gS
    cases hp
theorem co1_k : hp_chk 285 9 5 [(0, 0, 29), (1, 0, 13), (2, (-9223372036854775808), 9223372036854775807), (3, (-2147483648), 2147483647), (4, (-2147483648), 2147483647)] [] [(0, .inr (.inr (.inl (some 94)))), (1, .inl (0, [(0, 1)])), (2, .inl (0, [(1, 1)])), (3, .inr (.inl (0, [(2, 1)]))), (5, .inl (0, [(3, 1)])), (6, .inl (0, [(4, 1)]))] [.inl (0, [])] [] [] 2 [] [([], 5, [(0, 0, 29), (1, 0, 13), (2, (-9223372036854775808), 9223372036854775807), (3, (-2147483648), 2147483647), (4, (-2147483648), 2147483647)], [], [], [.inl ((-1), [])], [])] = true := by decide +kernel
theorem co1 {cst : am_K} {strs : List Nat} {Φ : am_Q → Prop} {D : Nat} {M : am_M} {h : am_H} {l : am_L} (c : hp_C cst strs D) (hM : m_P[285]? = some M) (hD : (2 : Int) ≤ (D : Int) + 1) (hy : ly_hy m_tt ly_TH h) (a k d y s : Int) (x0 : Int32) (hx0 : x0.toInt = 0) (b0 : 0 ≤ a) (t0 : a ≤ 29) (b1 : 0 ≤ k) (t1 : k ≤ 13) (b2 : (-9223372036854775808) ≤ d) (t2 : d ≤ 9223372036854775807) (b3 : (-2147483648) ≤ y) (t3 : y ≤ 2147483647) (b4 : (-2147483648) ≤ s) (t4 : s ≤ 2147483647) (l0 : hp_a l 0 94) (l1 : hp_i l 1 (a)) (l2 : hp_i l 2 (k)) (l3 : hp_j l 3 (d)) (l5 : hp_i l 5 (y)) (l6 : hp_i l 6 (s)) (r0 : ∀ (h' : am_H) (y0 : Int32), y0.toInt = (-1) → ly_hy m_tt ly_TH h' → ly_fr cst [] h h' → h.length ≤ h'.length → Φ (some (.int y0), h', 0, 0)) : hp_F cst strs Φ D M 9 l [.int x0] h := by
  refine hp_arc c hM co1_k hD [a, k, d, y, s] rfl hy (hp_Bc (z := a) rfl b0 t0 (hp_Bc (z := k) rfl b1 t1 (hp_Bc (z := d) rfl b2 t2 (hp_Bc (z := y) rfl b3 t3 (hp_Bc (z := s) rfl b4 t4 hp_Bn))))) hp_Fn hp_Kn (hp_La l0 (hp_Li (z := (0 + (1 * a + 0))) l1 rfl (by omega) (hp_Li (z := (0 + (1 * k + 0))) l2 rfl (by omega) (hp_Lj (z := (0 + (1 * d + 0))) l3 rfl (by omega) (hp_Li (z := (0 + (1 * y + 0))) l5 rfl (by omega) (hp_Li (z := (0 + (1 * s + 0))) l6 rfl (by omega) hp_Ln)))))) (hp_Si (z := (0 + 0)) rfl (by omega) trivial) ?_ ?_
  · intro p_9 hp ys l' st' h' hys a1_9 a2 a3 gZ gL gS
    cases hp
  · intro p_9 hp ys v_9 h' hys a1_9 a2 a3 gZ gS
    rcases List.mem_cons.mp hp with rfl | hp
    · obtain rfl := hp_y0 hys
      cases v_9 with
      | none => cases gS
      | some wz =>
        obtain ⟨y0, t0, s0_9, q0, -⟩ := hp_gSi (z := ((-1) + 0)) gS rfl
        cases s0_9
        exact r0 h' y0 (by omega) a1_9 a2 a3
    cases hp
theorem co2_k : hp_chk 285 9 5 [(0, 0, 29), (1, 0, 13), (2, (-9223372036854775808), 9223372036854775807), (3, (-2147483648), 2147483647), (4, (-2147483648), 2147483647)] [] [(0, .inr (.inr (.inl (some 94)))), (1, .inl (0, [(0, 1)])), (2, .inl (0, [(1, 1)])), (3, .inr (.inl (0, [(2, 1)]))), (5, .inl (0, [(3, 1)])), (6, .inl (0, [(4, 1)]))] [.inl (1, [])] [] [] 2 [(20, ([], 5, [(0, 0, 29), (1, 0, 13), (2, (-9223372036854775808), 9223372036854775807), (3, (-2147483648), 2147483647), (4, (-2147483648), 2147483647)], [], [(0, .inr (.inr (.inl (some 94)))), (1, .inl (0, [(0, 1)])), (2, .inl (0, [(1, 1)])), (3, .inr (.inl (0, [(2, 1)]))), (5, .inl (0, [(3, 1)])), (6, .inl (0, [(4, 1)])), (7, .inl (0, [(0, 40)]))], [], []))] [] = true := by decide +kernel
theorem co2 {cst : am_K} {strs : List Nat} {Φ : am_Q → Prop} {D : Nat} {M : am_M} {h : am_H} {l : am_L} (c : hp_C cst strs D) (hM : m_P[285]? = some M) (hD : (2 : Int) ≤ (D : Int) + 1) (hy : ly_hy m_tt ly_TH h) (a k d y s : Int) (x0 : Int32) (hx0 : x0.toInt = 1) (b0 : 0 ≤ a) (t0 : a ≤ 29) (b1 : 0 ≤ k) (t1 : k ≤ 13) (b2 : (-9223372036854775808) ≤ d) (t2 : d ≤ 9223372036854775807) (b3 : (-2147483648) ≤ y) (t3 : y ≤ 2147483647) (b4 : (-2147483648) ≤ s) (t4 : s ≤ 2147483647) (l0 : hp_a l 0 94) (l1 : hp_i l 1 (a)) (l2 : hp_i l 2 (k)) (l3 : hp_j l 3 (d)) (l5 : hp_i l 5 (y)) (l6 : hp_i l 6 (s)) (e0 : ∀ (l' : am_L) (h' : am_H), ly_hy m_tt ly_TH h' → ly_fr cst [] h h' → h.length ≤ h'.length → hp_a l' 0 94 → hp_i l' 1 (a) → hp_i l' 2 (k) → hp_j l' 3 (d) → hp_i l' 5 (y) → hp_i l' 6 (s) → hp_i l' 7 (40 * a) → hp_F cst strs Φ D M 20 l' [] h') : hp_F cst strs Φ D M 9 l [.int x0] h := by
  refine hp_arc c hM co2_k hD [a, k, d, y, s] rfl hy (hp_Bc (z := a) rfl b0 t0 (hp_Bc (z := k) rfl b1 t1 (hp_Bc (z := d) rfl b2 t2 (hp_Bc (z := y) rfl b3 t3 (hp_Bc (z := s) rfl b4 t4 hp_Bn))))) hp_Fn hp_Kn (hp_La l0 (hp_Li (z := (0 + (1 * a + 0))) l1 rfl (by omega) (hp_Li (z := (0 + (1 * k + 0))) l2 rfl (by omega) (hp_Lj (z := (0 + (1 * d + 0))) l3 rfl (by omega) (hp_Li (z := (0 + (1 * y + 0))) l5 rfl (by omega) (hp_Li (z := (0 + (1 * s + 0))) l6 rfl (by omega) hp_Ln)))))) (hp_Si (z := (1 + 0)) rfl (by omega) trivial) ?_ ?_
  · intro p_9 hp ys l' st' h' hys a1_9 a2 a3 gZ gL gS
    rcases List.mem_cons.mp hp with rfl | hp
    · obtain rfl := hp_y0 hys
      cases hp_gSn gS
      exact e0 l' h' a1_9 a2 a3 (hp_gLa gL (List.mem_of_getElem? (i := 0) rfl) (by decide)) (hp_gLi (z := (0 + (1 * a + 0))) gL (List.mem_of_getElem? (i := 1) rfl) rfl (by omega)) (hp_gLi (z := (0 + (1 * k + 0))) gL (List.mem_of_getElem? (i := 2) rfl) rfl (by omega)) (hp_gLj (z := (0 + (1 * d + 0))) gL (List.mem_of_getElem? (i := 3) rfl) rfl (by omega)) (hp_gLi (z := (0 + (1 * y + 0))) gL (List.mem_of_getElem? (i := 4) rfl) rfl (by omega)) (hp_gLi (z := (0 + (1 * s + 0))) gL (List.mem_of_getElem? (i := 5) rfl) rfl (by omega)) (hp_gLi (z := (0 + (40 * a + 0))) gL (List.mem_of_getElem? (i := 6) rfl) rfl (by omega))
    cases hp
  · intro p_9 hp ys v_9 h' hys a1_9 a2 a3 gZ gS
    cases hp
theorem co3_k : hp_chk 285 20 6 [(0, 0, 29), (1, 0, 13), (2, (-9223372036854775808), 9223372036854775807), (3, (-2147483648), 2147483647), (4, (-2147483648), 2147483647), (5, 0, 40)] [] [(0, .inr (.inr (.inl (some 94)))), (1, .inl (0, [(0, 1)])), (2, .inl (0, [(1, 1)])), (3, .inr (.inl (0, [(2, 1)]))), (5, .inl (0, [(3, 1)])), (6, .inl (0, [(4, 1)])), (7, .inl (0, [(0, 40), (5, 1)]))] [] [(23296, (0, [(0, 1)]), (0, [(5, 1)]))] [] 2 [] [([], 6, [(0, 0, 29), (1, 0, 13), (2, (-9223372036854775808), 9223372036854775807), (3, (-2147483648), 2147483647), (4, (-2147483648), 2147483647), (5, 0, 40)], [], [], [.inl ((-1), [])], [])] = true := by decide +kernel
theorem co3 {cst : am_K} {strs : List Nat} {Φ : am_Q → Prop} {D : Nat} {M : am_M} {h : am_H} {l : am_L} (c : hp_C cst strs D) (hM : m_P[285]? = some M) (hD : (2 : Int) ≤ (D : Int) + 1) (hy : ly_hy m_tt ly_TH h) (a k d y s e : Int) (b0 : 0 ≤ a) (t0 : a ≤ 29) (b1 : 0 ≤ k) (t1 : k ≤ 13) (b2 : (-9223372036854775808) ≤ d) (t2 : d ≤ 9223372036854775807) (b3 : (-2147483648) ≤ y) (t3 : y ≤ 2147483647) (b4 : (-2147483648) ≤ s) (t4 : s ≤ 2147483647) (b5 : 0 ≤ e) (t5 : e ≤ 40) (k0 : ly_hv cst h 23296 (a) = some (e)) (l0 : hp_a l 0 94) (l1 : hp_i l 1 (a)) (l2 : hp_i l 2 (k)) (l3 : hp_j l 3 (d)) (l5 : hp_i l 5 (y)) (l6 : hp_i l 6 (s)) (l7 : hp_i l 7 (40 * a + e)) (r0 : ∀ (h' : am_H) (y0 : Int32), y0.toInt = (-1) → ly_hy m_tt ly_TH h' → ly_fr cst [] h h' → h.length ≤ h'.length → Φ (some (.int y0), h', 0, 0)) : hp_F cst strs Φ D M 20 l [] h := by
  refine hp_arc c hM co3_k hD [a, k, d, y, s, e] rfl hy (hp_Bc (z := a) rfl b0 t0 (hp_Bc (z := k) rfl b1 t1 (hp_Bc (z := d) rfl b2 t2 (hp_Bc (z := y) rfl b3 t3 (hp_Bc (z := s) rfl b4 t4 (hp_Bc (z := e) rfl b5 t5 hp_Bn)))))) hp_Fn (hp_Kc (zi := (0 + (1 * a + 0))) (zv := (0 + (1 * e + 0))) k0 rfl rfl (by omega) (by omega) hp_Kn) (hp_La l0 (hp_Li (z := (0 + (1 * a + 0))) l1 rfl (by omega) (hp_Li (z := (0 + (1 * k + 0))) l2 rfl (by omega) (hp_Lj (z := (0 + (1 * d + 0))) l3 rfl (by omega) (hp_Li (z := (0 + (1 * y + 0))) l5 rfl (by omega) (hp_Li (z := (0 + (1 * s + 0))) l6 rfl (by omega) (hp_Li (z := (0 + (40 * a + (1 * e + 0)))) l7 rfl (by omega) hp_Ln))))))) trivial ?_ ?_
  · intro p_9 hp ys l' st' h' hys a1_9 a2 a3 gZ gL gS
    cases hp
  · intro p_9 hp ys v_9 h' hys a1_9 a2 a3 gZ gS
    rcases List.mem_cons.mp hp with rfl | hp
    · obtain rfl := hp_y0 hys
      cases v_9 with
      | none => cases gS
      | some wz =>
        obtain ⟨y0, t0, s0_9, q0, -⟩ := hp_gSi (z := ((-1) + 0)) gS rfl
        cases s0_9
        exact r0 h' y0 (by omega) a1_9 a2 a3
    cases hp
theorem co4_k : hp_chk 285 20 8 [(0, 0, 29), (1, 0, 13), (2, (-9223372036854775808), 9223372036854775807), (3, (-2147483648), 2147483647), (4, (-2147483648), 2147483647), (5, 0, 40), (6, 0, 39), (7, 0, 14)] [((-1), [(5, 1), (6, (-1))])] [(0, .inr (.inr (.inl (some 94)))), (1, .inl (0, [(0, 1)])), (2, .inl (0, [(1, 1)])), (3, .inr (.inl (0, [(2, 1)]))), (5, .inl (0, [(3, 1)])), (6, .inl (0, [(4, 1)])), (7, .inl (0, [(0, 40), (6, 1)]))] [] [(23296, (0, [(0, 1)]), (0, [(5, 1)])), (23552, (0, [(0, 40), (6, 1)]), (0, [(7, 1)])), (61000, (0, [(1, (-1)), (7, 1)]), (1, []))] [] 2 [(20, ([], 8, [(0, 0, 29), (1, 0, 13), (2, (-9223372036854775808), 9223372036854775807), (3, (-2147483648), 2147483647), (4, (-2147483648), 2147483647), (5, 0, 40), (6, 0, 39), (7, 0, 14)], [], [(0, .inr (.inr (.inl (some 94)))), (1, .inl (0, [(0, 1)])), (2, .inl (0, [(1, 1)])), (3, .inr (.inl (0, [(2, 1)]))), (5, .inl (0, [(3, 1)])), (6, .inl (0, [(4, 1)])), (7, .inl (1, [(0, 40), (6, 1)]))], [], []))] [] = true := by decide +kernel
theorem co4 {cst : am_K} {strs : List Nat} {Φ : am_Q → Prop} {D : Nat} {M : am_M} {h : am_H} {l : am_L} (c : hp_C cst strs D) (hM : m_P[285]? = some M) (hD : (2 : Int) ≤ (D : Int) + 1) (hy : ly_hy m_tt ly_TH h) (a k d y s e i x : Int) (b0 : 0 ≤ a) (t0 : a ≤ 29) (b1 : 0 ≤ k) (t1 : k ≤ 13) (b2 : (-9223372036854775808) ≤ d) (t2 : d ≤ 9223372036854775807) (b3 : (-2147483648) ≤ y) (t3 : y ≤ 2147483647) (b4 : (-2147483648) ≤ s) (t4 : s ≤ 2147483647) (b5 : 0 ≤ e) (t5 : e ≤ 40) (b6 : 0 ≤ i) (t6 : i ≤ 39) (b7 : 0 ≤ x) (t7 : x ≤ 14) (f0 : 0 ≤ (e - i - 1)) (k0 : ly_hv cst h 23296 (a) = some (e)) (k1 : ly_hv cst h 23552 (40 * a + i) = some (x)) (k2 : ly_hv cst h 61000 (x - k) = some 1) (l0 : hp_a l 0 94) (l1 : hp_i l 1 (a)) (l2 : hp_i l 2 (k)) (l3 : hp_j l 3 (d)) (l5 : hp_i l 5 (y)) (l6 : hp_i l 6 (s)) (l7 : hp_i l 7 (40 * a + i)) (e0 : ∀ (l' : am_L) (h' : am_H), ly_hy m_tt ly_TH h' → ly_fr cst [] h h' → h.length ≤ h'.length → hp_a l' 0 94 → hp_i l' 1 (a) → hp_i l' 2 (k) → hp_j l' 3 (d) → hp_i l' 5 (y) → hp_i l' 6 (s) → hp_i l' 7 (40 * a + i + 1) → hp_F cst strs Φ D M 20 l' [] h') : hp_F cst strs Φ D M 20 l [] h := by
  refine hp_arc c hM co4_k hD [a, k, d, y, s, e, i, x] rfl hy (hp_Bc (z := a) rfl b0 t0 (hp_Bc (z := k) rfl b1 t1 (hp_Bc (z := d) rfl b2 t2 (hp_Bc (z := y) rfl b3 t3 (hp_Bc (z := s) rfl b4 t4 (hp_Bc (z := e) rfl b5 t5 (hp_Bc (z := i) rfl b6 t6 (hp_Bc (z := x) rfl b7 t7 hp_Bn)))))))) (hp_Fc (z := ((-1) + (1 * e + ((-1) * i + 0)))) rfl (by omega) hp_Fn) (hp_Kc (zi := (0 + (1 * a + 0))) (zv := (0 + (1 * e + 0))) k0 rfl rfl (by omega) (by omega) (hp_Kc (zi := (0 + (40 * a + (1 * i + 0)))) (zv := (0 + (1 * x + 0))) k1 rfl rfl (by omega) (by omega) (hp_Kc (zi := (0 + ((-1) * k + (1 * x + 0)))) (zv := (1 + 0)) k2 rfl rfl (by omega) (by omega) hp_Kn))) (hp_La l0 (hp_Li (z := (0 + (1 * a + 0))) l1 rfl (by omega) (hp_Li (z := (0 + (1 * k + 0))) l2 rfl (by omega) (hp_Lj (z := (0 + (1 * d + 0))) l3 rfl (by omega) (hp_Li (z := (0 + (1 * y + 0))) l5 rfl (by omega) (hp_Li (z := (0 + (1 * s + 0))) l6 rfl (by omega) (hp_Li (z := (0 + (40 * a + (1 * i + 0)))) l7 rfl (by omega) hp_Ln))))))) trivial ?_ ?_
  · intro p_9 hp ys l' st' h' hys a1_9 a2 a3 gZ gL gS
    rcases List.mem_cons.mp hp with rfl | hp
    · obtain rfl := hp_y0 hys
      cases hp_gSn gS
      exact e0 l' h' a1_9 a2 a3 (hp_gLa gL (List.mem_of_getElem? (i := 0) rfl) (by decide)) (hp_gLi (z := (0 + (1 * a + 0))) gL (List.mem_of_getElem? (i := 1) rfl) rfl (by omega)) (hp_gLi (z := (0 + (1 * k + 0))) gL (List.mem_of_getElem? (i := 2) rfl) rfl (by omega)) (hp_gLj (z := (0 + (1 * d + 0))) gL (List.mem_of_getElem? (i := 3) rfl) rfl (by omega)) (hp_gLi (z := (0 + (1 * y + 0))) gL (List.mem_of_getElem? (i := 4) rfl) rfl (by omega)) (hp_gLi (z := (0 + (1 * s + 0))) gL (List.mem_of_getElem? (i := 5) rfl) rfl (by omega)) (hp_gLi (z := (1 + (40 * a + (1 * i + 0)))) gL (List.mem_of_getElem? (i := 6) rfl) rfl (by omega))
    cases hp
  · intro p_9 hp ys v_9 h' hys a1_9 a2 a3 gZ gS
    cases hp
theorem co5_k : hp_chk 285 20 8 [(0, 0, 29), (1, 0, 6), (2, (-9223372036854775808), 9223372036854775807), (3, (-2147483648), 2147483647), (4, (-2147483648), 2147483647), (5, 0, 40), (6, 0, 39), (7, (-9223372036854775808), 9223372036854775807)] [((-1), [(5, 1), (6, (-1))])] [(0, .inr (.inr (.inl (some 94)))), (1, .inl (0, [(0, 1)])), (2, .inl (0, [(1, 1)])), (3, .inr (.inl (0, [(2, 1)]))), (5, .inl (0, [(3, 1)])), (6, .inl (0, [(4, 1)])), (7, .inl (0, [(0, 40), (6, 1)]))] [] [(23296, (0, [(0, 1)]), (0, [(5, 1)])), (23552, (0, [(0, 40), (6, 1)]), (0, [(1, 1)])), (23808, (0, [(0, 40), (6, 1)]), (0, [(7, 1)])), (61000, (0, [(2, (-1)), (7, 1)]), (1, []))] [] 2 [(20, ([], 8, [(0, 0, 29), (1, 0, 6), (2, (-9223372036854775808), 9223372036854775807), (3, (-2147483648), 2147483647), (4, (-2147483648), 2147483647), (5, 0, 40), (6, 0, 39), (7, (-9223372036854775808), 9223372036854775807)], [], [(0, .inr (.inr (.inl (some 94)))), (1, .inl (0, [(0, 1)])), (2, .inl (0, [(1, 1)])), (3, .inr (.inl (0, [(2, 1)]))), (5, .inl (0, [(3, 1)])), (6, .inl (0, [(4, 1)])), (7, .inl (1, [(0, 40), (6, 1)]))], [], []))] [] = true := by decide +kernel
theorem co5 {cst : am_K} {strs : List Nat} {Φ : am_Q → Prop} {D : Nat} {M : am_M} {h : am_H} {l : am_L} (c : hp_C cst strs D) (hM : m_P[285]? = some M) (hD : (2 : Int) ≤ (D : Int) + 1) (hy : ly_hy m_tt ly_TH h) (a k d y s e i w : Int) (b0 : 0 ≤ a) (t0 : a ≤ 29) (b1 : 0 ≤ k) (t1 : k ≤ 6) (b2 : (-9223372036854775808) ≤ d) (t2 : d ≤ 9223372036854775807) (b3 : (-2147483648) ≤ y) (t3 : y ≤ 2147483647) (b4 : (-2147483648) ≤ s) (t4 : s ≤ 2147483647) (b5 : 0 ≤ e) (t5 : e ≤ 40) (b6 : 0 ≤ i) (t6 : i ≤ 39) (b7 : (-9223372036854775808) ≤ w) (t7 : w ≤ 9223372036854775807) (f0 : 0 ≤ (e - i - 1)) (k0 : ly_hv cst h 23296 (a) = some (e)) (k1 : ly_hv cst h 23552 (40 * a + i) = some (k)) (k2 : ly_hv cst h 23808 (40 * a + i) = some (w)) (k3 : ly_hv cst h 61000 (w - d) = some 1) (l0 : hp_a l 0 94) (l1 : hp_i l 1 (a)) (l2 : hp_i l 2 (k)) (l3 : hp_j l 3 (d)) (l5 : hp_i l 5 (y)) (l6 : hp_i l 6 (s)) (l7 : hp_i l 7 (40 * a + i)) (e0 : ∀ (l' : am_L) (h' : am_H), ly_hy m_tt ly_TH h' → ly_fr cst [] h h' → h.length ≤ h'.length → hp_a l' 0 94 → hp_i l' 1 (a) → hp_i l' 2 (k) → hp_j l' 3 (d) → hp_i l' 5 (y) → hp_i l' 6 (s) → hp_i l' 7 (40 * a + i + 1) → hp_F cst strs Φ D M 20 l' [] h') : hp_F cst strs Φ D M 20 l [] h := by
  refine hp_arc c hM co5_k hD [a, k, d, y, s, e, i, w] rfl hy (hp_Bc (z := a) rfl b0 t0 (hp_Bc (z := k) rfl b1 t1 (hp_Bc (z := d) rfl b2 t2 (hp_Bc (z := y) rfl b3 t3 (hp_Bc (z := s) rfl b4 t4 (hp_Bc (z := e) rfl b5 t5 (hp_Bc (z := i) rfl b6 t6 (hp_Bc (z := w) rfl b7 t7 hp_Bn)))))))) (hp_Fc (z := ((-1) + (1 * e + ((-1) * i + 0)))) rfl (by omega) hp_Fn) (hp_Kc (zi := (0 + (1 * a + 0))) (zv := (0 + (1 * e + 0))) k0 rfl rfl (by omega) (by omega) (hp_Kc (zi := (0 + (40 * a + (1 * i + 0)))) (zv := (0 + (1 * k + 0))) k1 rfl rfl (by omega) (by omega) (hp_Kc (zi := (0 + (40 * a + (1 * i + 0)))) (zv := (0 + (1 * w + 0))) k2 rfl rfl (by omega) (by omega) (hp_Kc (zi := (0 + ((-1) * d + (1 * w + 0)))) (zv := (1 + 0)) k3 rfl rfl (by omega) (by omega) hp_Kn)))) (hp_La l0 (hp_Li (z := (0 + (1 * a + 0))) l1 rfl (by omega) (hp_Li (z := (0 + (1 * k + 0))) l2 rfl (by omega) (hp_Lj (z := (0 + (1 * d + 0))) l3 rfl (by omega) (hp_Li (z := (0 + (1 * y + 0))) l5 rfl (by omega) (hp_Li (z := (0 + (1 * s + 0))) l6 rfl (by omega) (hp_Li (z := (0 + (40 * a + (1 * i + 0)))) l7 rfl (by omega) hp_Ln))))))) trivial ?_ ?_
  · intro p_9 hp ys l' st' h' hys a1_9 a2 a3 gZ gL gS
    rcases List.mem_cons.mp hp with rfl | hp
    · obtain rfl := hp_y0 hys
      cases hp_gSn gS
      exact e0 l' h' a1_9 a2 a3 (hp_gLa gL (List.mem_of_getElem? (i := 0) rfl) (by decide)) (hp_gLi (z := (0 + (1 * a + 0))) gL (List.mem_of_getElem? (i := 1) rfl) rfl (by omega)) (hp_gLi (z := (0 + (1 * k + 0))) gL (List.mem_of_getElem? (i := 2) rfl) rfl (by omega)) (hp_gLj (z := (0 + (1 * d + 0))) gL (List.mem_of_getElem? (i := 3) rfl) rfl (by omega)) (hp_gLi (z := (0 + (1 * y + 0))) gL (List.mem_of_getElem? (i := 4) rfl) rfl (by omega)) (hp_gLi (z := (0 + (1 * s + 0))) gL (List.mem_of_getElem? (i := 5) rfl) rfl (by omega)) (hp_gLi (z := (1 + (40 * a + (1 * i + 0)))) gL (List.mem_of_getElem? (i := 6) rfl) rfl (by omega))
    cases hp
  · intro p_9 hp ys v_9 h' hys a1_9 a2 a3 gZ gS
    cases hp
theorem co6_k : hp_chk 285 20 7 [(0, 0, 29), (1, 0, 6), (2, (-9223372036854775808), 9223372036854775807), (3, (-2147483648), 2147483647), (4, (-2147483648), 2147483647), (5, 0, 40), (6, 0, 39)] [((-1), [(5, 1), (6, (-1))])] [(0, .inr (.inr (.inl (some 94)))), (1, .inl (0, [(0, 1)])), (2, .inl (0, [(1, 1)])), (3, .inr (.inl (0, [(2, 1)]))), (5, .inl (0, [(3, 1)])), (6, .inl (0, [(4, 1)])), (7, .inl (0, [(0, 40), (6, 1)]))] [] [(23296, (0, [(0, 1)]), (0, [(5, 1)])), (23552, (0, [(0, 40), (6, 1)]), (0, [(1, 1)])), (23808, (0, [(0, 40), (6, 1)]), (0, [(2, 1)]))] [] 2 [(72, ([], 7, [(0, 0, 29), (1, 0, 6), (2, (-9223372036854775808), 9223372036854775807), (3, (-2147483648), 2147483647), (4, (-2147483648), 2147483647), (5, 0, 40), (6, 0, 39)], [], [(0, .inr (.inr (.inl (some 94)))), (1, .inl (0, [(0, 1)])), (2, .inl (0, [(1, 1)])), (3, .inr (.inl (0, [(2, 1)]))), (5, .inl (0, [(3, 1)])), (6, .inl (0, [(4, 1)])), (7, .inl (0, [(0, 40), (6, 1)]))], [.inl (0, [(4, 1)]), .inl (0, [(3, 1)]), .inl (0, [(0, 40), (6, 1)]), .inr (.inr (.inl (some 94)))], []))] [] = true := by decide +kernel
theorem co6 {cst : am_K} {strs : List Nat} {Φ : am_Q → Prop} {D : Nat} {M : am_M} {h : am_H} {l : am_L} (c : hp_C cst strs D) (hM : m_P[285]? = some M) (hD : (2 : Int) ≤ (D : Int) + 1) (hy : ly_hy m_tt ly_TH h) (a k d y s e i : Int) (b0 : 0 ≤ a) (t0 : a ≤ 29) (b1 : 0 ≤ k) (t1 : k ≤ 6) (b2 : (-9223372036854775808) ≤ d) (t2 : d ≤ 9223372036854775807) (b3 : (-2147483648) ≤ y) (t3 : y ≤ 2147483647) (b4 : (-2147483648) ≤ s) (t4 : s ≤ 2147483647) (b5 : 0 ≤ e) (t5 : e ≤ 40) (b6 : 0 ≤ i) (t6 : i ≤ 39) (f0 : 0 ≤ (e - i - 1)) (k0 : ly_hv cst h 23296 (a) = some (e)) (k1 : ly_hv cst h 23552 (40 * a + i) = some (k)) (k2 : ly_hv cst h 23808 (40 * a + i) = some (d)) (l0 : hp_a l 0 94) (l1 : hp_i l 1 (a)) (l2 : hp_i l 2 (k)) (l3 : hp_j l 3 (d)) (l5 : hp_i l 5 (y)) (l6 : hp_i l 6 (s)) (l7 : hp_i l 7 (40 * a + i)) (e0 : ∀ (l' : am_L) (h' : am_H) (y0 : Int32) (y1 : Int32) (y2 : Int32), y0.toInt = (s) → y1.toInt = (y) → y2.toInt = (40 * a + i) → ly_hy m_tt ly_TH h' → ly_fr cst [] h h' → h.length ≤ h'.length → hp_a l' 0 94 → hp_i l' 1 (a) → hp_i l' 2 (k) → hp_j l' 3 (d) → hp_i l' 5 (y) → hp_i l' 6 (s) → hp_i l' 7 (40 * a + i) → hp_F cst strs Φ D M 72 l' [.int y0, .int y1, .int y2, .ref 94] h') : hp_F cst strs Φ D M 20 l [] h := by
  refine hp_arc c hM co6_k hD [a, k, d, y, s, e, i] rfl hy (hp_Bc (z := a) rfl b0 t0 (hp_Bc (z := k) rfl b1 t1 (hp_Bc (z := d) rfl b2 t2 (hp_Bc (z := y) rfl b3 t3 (hp_Bc (z := s) rfl b4 t4 (hp_Bc (z := e) rfl b5 t5 (hp_Bc (z := i) rfl b6 t6 hp_Bn))))))) (hp_Fc (z := ((-1) + (1 * e + ((-1) * i + 0)))) rfl (by omega) hp_Fn) (hp_Kc (zi := (0 + (1 * a + 0))) (zv := (0 + (1 * e + 0))) k0 rfl rfl (by omega) (by omega) (hp_Kc (zi := (0 + (40 * a + (1 * i + 0)))) (zv := (0 + (1 * k + 0))) k1 rfl rfl (by omega) (by omega) (hp_Kc (zi := (0 + (40 * a + (1 * i + 0)))) (zv := (0 + (1 * d + 0))) k2 rfl rfl (by omega) (by omega) hp_Kn))) (hp_La l0 (hp_Li (z := (0 + (1 * a + 0))) l1 rfl (by omega) (hp_Li (z := (0 + (1 * k + 0))) l2 rfl (by omega) (hp_Lj (z := (0 + (1 * d + 0))) l3 rfl (by omega) (hp_Li (z := (0 + (1 * y + 0))) l5 rfl (by omega) (hp_Li (z := (0 + (1 * s + 0))) l6 rfl (by omega) (hp_Li (z := (0 + (40 * a + (1 * i + 0)))) l7 rfl (by omega) hp_Ln))))))) trivial ?_ ?_
  · intro p_9 hp ys l' st' h' hys a1_9 a2 a3 gZ gL gS
    rcases List.mem_cons.mp hp with rfl | hp
    · obtain rfl := hp_y0 hys
      obtain ⟨y0, t0, rfl, q0, g0⟩ := hp_gSi (z := (0 + (1 * s + 0))) gS rfl
      obtain ⟨y1, t1, rfl, q1_9, g1⟩ := hp_gSi (z := (0 + (1 * y + 0))) g0 rfl
      obtain ⟨y2, t2, rfl, q2_9, g2⟩ := hp_gSi (z := (0 + (40 * a + (1 * i + 0)))) g1 rfl
      obtain ⟨t3, rfl, g3_9⟩ := hp_gSa g2 (by decide)
      cases hp_gSn g3_9
      exact e0 l' h' y0 y1 y2 (by omega) (by omega) (by omega) a1_9 a2 a3 (hp_gLa gL (List.mem_of_getElem? (i := 0) rfl) (by decide)) (hp_gLi (z := (0 + (1 * a + 0))) gL (List.mem_of_getElem? (i := 1) rfl) rfl (by omega)) (hp_gLi (z := (0 + (1 * k + 0))) gL (List.mem_of_getElem? (i := 2) rfl) rfl (by omega)) (hp_gLj (z := (0 + (1 * d + 0))) gL (List.mem_of_getElem? (i := 3) rfl) rfl (by omega)) (hp_gLi (z := (0 + (1 * y + 0))) gL (List.mem_of_getElem? (i := 4) rfl) rfl (by omega)) (hp_gLi (z := (0 + (1 * s + 0))) gL (List.mem_of_getElem? (i := 5) rfl) rfl (by omega)) (hp_gLi (z := (0 + (40 * a + (1 * i + 0)))) gL (List.mem_of_getElem? (i := 6) rfl) rfl (by omega))
    cases hp
  · intro p_9 hp ys v_9 h' hys a1_9 a2 a3 gZ gS
    cases hp
theorem co7_k : hp_chk 285 20 7 [(0, 0, 29), (1, 7, 13), (2, (-9223372036854775808), 9223372036854775807), (3, (-2147483648), 2147483647), (4, (-2147483648), 2147483647), (5, 0, 40), (6, 0, 39)] [((-1), [(5, 1), (6, (-1))])] [(0, .inr (.inr (.inl (some 94)))), (1, .inl (0, [(0, 1)])), (2, .inl (0, [(1, 1)])), (3, .inr (.inl (0, [(2, 1)]))), (5, .inl (0, [(3, 1)])), (6, .inl (0, [(4, 1)])), (7, .inl (0, [(0, 40), (6, 1)]))] [] [(23296, (0, [(0, 1)]), (0, [(5, 1)])), (23552, (0, [(0, 40), (6, 1)]), (0, [(1, 1)]))] [] 2 [(72, ([], 7, [(0, 0, 29), (1, 7, 13), (2, (-9223372036854775808), 9223372036854775807), (3, (-2147483648), 2147483647), (4, (-2147483648), 2147483647), (5, 0, 40), (6, 0, 39)], [], [(0, .inr (.inr (.inl (some 94)))), (1, .inl (0, [(0, 1)])), (2, .inl (0, [(1, 1)])), (3, .inr (.inl (0, [(2, 1)]))), (5, .inl (0, [(3, 1)])), (6, .inl (0, [(4, 1)])), (7, .inl (0, [(0, 40), (6, 1)]))], [.inl (0, [(4, 1)]), .inl (0, [(3, 1)]), .inl (0, [(0, 40), (6, 1)]), .inr (.inr (.inl (some 94)))], []))] [] = true := by decide +kernel
theorem co7 {cst : am_K} {strs : List Nat} {Φ : am_Q → Prop} {D : Nat} {M : am_M} {h : am_H} {l : am_L} (c : hp_C cst strs D) (hM : m_P[285]? = some M) (hD : (2 : Int) ≤ (D : Int) + 1) (hy : ly_hy m_tt ly_TH h) (a k d y s e i : Int) (b0 : 0 ≤ a) (t0 : a ≤ 29) (b1 : 7 ≤ k) (t1 : k ≤ 13) (b2 : (-9223372036854775808) ≤ d) (t2 : d ≤ 9223372036854775807) (b3 : (-2147483648) ≤ y) (t3 : y ≤ 2147483647) (b4 : (-2147483648) ≤ s) (t4 : s ≤ 2147483647) (b5 : 0 ≤ e) (t5 : e ≤ 40) (b6 : 0 ≤ i) (t6 : i ≤ 39) (f0 : 0 ≤ (e - i - 1)) (k0 : ly_hv cst h 23296 (a) = some (e)) (k1 : ly_hv cst h 23552 (40 * a + i) = some (k)) (l0 : hp_a l 0 94) (l1 : hp_i l 1 (a)) (l2 : hp_i l 2 (k)) (l3 : hp_j l 3 (d)) (l5 : hp_i l 5 (y)) (l6 : hp_i l 6 (s)) (l7 : hp_i l 7 (40 * a + i)) (e0 : ∀ (l' : am_L) (h' : am_H) (y0 : Int32) (y1 : Int32) (y2 : Int32), y0.toInt = (s) → y1.toInt = (y) → y2.toInt = (40 * a + i) → ly_hy m_tt ly_TH h' → ly_fr cst [] h h' → h.length ≤ h'.length → hp_a l' 0 94 → hp_i l' 1 (a) → hp_i l' 2 (k) → hp_j l' 3 (d) → hp_i l' 5 (y) → hp_i l' 6 (s) → hp_i l' 7 (40 * a + i) → hp_F cst strs Φ D M 72 l' [.int y0, .int y1, .int y2, .ref 94] h') : hp_F cst strs Φ D M 20 l [] h := by
  refine hp_arc c hM co7_k hD [a, k, d, y, s, e, i] rfl hy (hp_Bc (z := a) rfl b0 t0 (hp_Bc (z := k) rfl b1 t1 (hp_Bc (z := d) rfl b2 t2 (hp_Bc (z := y) rfl b3 t3 (hp_Bc (z := s) rfl b4 t4 (hp_Bc (z := e) rfl b5 t5 (hp_Bc (z := i) rfl b6 t6 hp_Bn))))))) (hp_Fc (z := ((-1) + (1 * e + ((-1) * i + 0)))) rfl (by omega) hp_Fn) (hp_Kc (zi := (0 + (1 * a + 0))) (zv := (0 + (1 * e + 0))) k0 rfl rfl (by omega) (by omega) (hp_Kc (zi := (0 + (40 * a + (1 * i + 0)))) (zv := (0 + (1 * k + 0))) k1 rfl rfl (by omega) (by omega) hp_Kn)) (hp_La l0 (hp_Li (z := (0 + (1 * a + 0))) l1 rfl (by omega) (hp_Li (z := (0 + (1 * k + 0))) l2 rfl (by omega) (hp_Lj (z := (0 + (1 * d + 0))) l3 rfl (by omega) (hp_Li (z := (0 + (1 * y + 0))) l5 rfl (by omega) (hp_Li (z := (0 + (1 * s + 0))) l6 rfl (by omega) (hp_Li (z := (0 + (40 * a + (1 * i + 0)))) l7 rfl (by omega) hp_Ln))))))) trivial ?_ ?_
  · intro p_9 hp ys l' st' h' hys a1_9 a2 a3 gZ gL gS
    rcases List.mem_cons.mp hp with rfl | hp
    · obtain rfl := hp_y0 hys
      obtain ⟨y0, t0, rfl, q0, g0⟩ := hp_gSi (z := (0 + (1 * s + 0))) gS rfl
      obtain ⟨y1, t1, rfl, q1_9, g1⟩ := hp_gSi (z := (0 + (1 * y + 0))) g0 rfl
      obtain ⟨y2, t2, rfl, q2_9, g2⟩ := hp_gSi (z := (0 + (40 * a + (1 * i + 0)))) g1 rfl
      obtain ⟨t3, rfl, g3_9⟩ := hp_gSa g2 (by decide)
      cases hp_gSn g3_9
      exact e0 l' h' y0 y1 y2 (by omega) (by omega) (by omega) a1_9 a2 a3 (hp_gLa gL (List.mem_of_getElem? (i := 0) rfl) (by decide)) (hp_gLi (z := (0 + (1 * a + 0))) gL (List.mem_of_getElem? (i := 1) rfl) rfl (by omega)) (hp_gLi (z := (0 + (1 * k + 0))) gL (List.mem_of_getElem? (i := 2) rfl) rfl (by omega)) (hp_gLj (z := (0 + (1 * d + 0))) gL (List.mem_of_getElem? (i := 3) rfl) rfl (by omega)) (hp_gLi (z := (0 + (1 * y + 0))) gL (List.mem_of_getElem? (i := 4) rfl) rfl (by omega)) (hp_gLi (z := (0 + (1 * s + 0))) gL (List.mem_of_getElem? (i := 5) rfl) rfl (by omega)) (hp_gLi (z := (0 + (40 * a + (1 * i + 0)))) gL (List.mem_of_getElem? (i := 6) rfl) rfl (by omega))
    cases hp
  · intro p_9 hp ys v_9 h' hys a1_9 a2 a3 gZ gS
    cases hp
theorem co8_k : hp_chk 285 75 6 [(0, 0, 29), (1, 0, 13), (2, (-9223372036854775808), 9223372036854775807), (3, (-2147483648), 2147483647), (4, (-2147483648), 2147483647), (5, 0, 39)] [] [(0, .inr (.inr (.inl (some 94)))), (1, .inl (0, [(0, 1)])), (2, .inl (0, [(1, 1)])), (3, .inr (.inl (0, [(2, 1)]))), (5, .inl (0, [(3, 1)])), (6, .inl (0, [(4, 1)])), (7, .inl (0, [(0, 40), (5, 1)]))] [.inl (1, [])] [] [] 2 [] [([], 6, [(0, 0, 29), (1, 0, 13), (2, (-9223372036854775808), 9223372036854775807), (3, (-2147483648), 2147483647), (4, (-2147483648), 2147483647), (5, 0, 39)], [], [], [.inl ((-1), [])], [])] = true := by decide +kernel
theorem co8 {cst : am_K} {strs : List Nat} {Φ : am_Q → Prop} {D : Nat} {M : am_M} {h : am_H} {l : am_L} (c : hp_C cst strs D) (hM : m_P[285]? = some M) (hD : (2 : Int) ≤ (D : Int) + 1) (hy : ly_hy m_tt ly_TH h) (a k d y s i : Int) (x0 : Int32) (hx0 : x0.toInt = 1) (b0 : 0 ≤ a) (t0 : a ≤ 29) (b1 : 0 ≤ k) (t1 : k ≤ 13) (b2 : (-9223372036854775808) ≤ d) (t2 : d ≤ 9223372036854775807) (b3 : (-2147483648) ≤ y) (t3 : y ≤ 2147483647) (b4 : (-2147483648) ≤ s) (t4 : s ≤ 2147483647) (b5 : 0 ≤ i) (t5 : i ≤ 39) (l0 : hp_a l 0 94) (l1 : hp_i l 1 (a)) (l2 : hp_i l 2 (k)) (l3 : hp_j l 3 (d)) (l5 : hp_i l 5 (y)) (l6 : hp_i l 6 (s)) (l7 : hp_i l 7 (40 * a + i)) (r0 : ∀ (h' : am_H) (y0 : Int32), y0.toInt = (-1) → ly_hy m_tt ly_TH h' → ly_fr cst [] h h' → h.length ≤ h'.length → Φ (some (.int y0), h', 0, 0)) : hp_F cst strs Φ D M 75 l [.int x0] h := by
  refine hp_arc c hM co8_k hD [a, k, d, y, s, i] rfl hy (hp_Bc (z := a) rfl b0 t0 (hp_Bc (z := k) rfl b1 t1 (hp_Bc (z := d) rfl b2 t2 (hp_Bc (z := y) rfl b3 t3 (hp_Bc (z := s) rfl b4 t4 (hp_Bc (z := i) rfl b5 t5 hp_Bn)))))) hp_Fn hp_Kn (hp_La l0 (hp_Li (z := (0 + (1 * a + 0))) l1 rfl (by omega) (hp_Li (z := (0 + (1 * k + 0))) l2 rfl (by omega) (hp_Lj (z := (0 + (1 * d + 0))) l3 rfl (by omega) (hp_Li (z := (0 + (1 * y + 0))) l5 rfl (by omega) (hp_Li (z := (0 + (1 * s + 0))) l6 rfl (by omega) (hp_Li (z := (0 + (40 * a + (1 * i + 0)))) l7 rfl (by omega) hp_Ln))))))) (hp_Si (z := (1 + 0)) rfl (by omega) trivial) ?_ ?_
  · intro p_9 hp ys l' st' h' hys a1_9 a2 a3 gZ gL gS
    cases hp
  · intro p_9 hp ys v_9 h' hys a1_9 a2 a3 gZ gS
    rcases List.mem_cons.mp hp with rfl | hp
    · obtain rfl := hp_y0 hys
      cases v_9 with
      | none => cases gS
      | some wz =>
        obtain ⟨y0, t0, s0_9, q0, -⟩ := hp_gSi (z := ((-1) + 0)) gS rfl
        cases s0_9
        exact r0 h' y0 (by omega) a1_9 a2 a3
    cases hp
theorem co9_k : hp_chk 285 75 6 [(0, 0, 29), (1, 0, 13), (2, (-9223372036854775808), 9223372036854775807), (3, (-2147483648), 2147483647), (4, (-2147483648), 2147483647), (5, 0, 39)] [] [(0, .inr (.inr (.inl (some 94)))), (1, .inl (0, [(0, 1)])), (2, .inl (0, [(1, 1)])), (3, .inr (.inl (0, [(2, 1)]))), (5, .inl (0, [(3, 1)])), (6, .inl (0, [(4, 1)])), (7, .inl (0, [(0, 40), (5, 1)]))] [.inl (0, [])] [] [] 2 [] [([], 6, [(0, 0, 29), (1, 0, 13), (2, (-9223372036854775808), 9223372036854775807), (3, (-2147483648), 2147483647), (4, (-2147483648), 2147483647), (5, 0, 39)], [], [], [.inl (0, [(0, 40), (5, 1)])], [])] = true := by decide +kernel
theorem co9 {cst : am_K} {strs : List Nat} {Φ : am_Q → Prop} {D : Nat} {M : am_M} {h : am_H} {l : am_L} (c : hp_C cst strs D) (hM : m_P[285]? = some M) (hD : (2 : Int) ≤ (D : Int) + 1) (hy : ly_hy m_tt ly_TH h) (a k d y s i : Int) (x0 : Int32) (hx0 : x0.toInt = 0) (b0 : 0 ≤ a) (t0 : a ≤ 29) (b1 : 0 ≤ k) (t1 : k ≤ 13) (b2 : (-9223372036854775808) ≤ d) (t2 : d ≤ 9223372036854775807) (b3 : (-2147483648) ≤ y) (t3 : y ≤ 2147483647) (b4 : (-2147483648) ≤ s) (t4 : s ≤ 2147483647) (b5 : 0 ≤ i) (t5 : i ≤ 39) (l0 : hp_a l 0 94) (l1 : hp_i l 1 (a)) (l2 : hp_i l 2 (k)) (l3 : hp_j l 3 (d)) (l5 : hp_i l 5 (y)) (l6 : hp_i l 6 (s)) (l7 : hp_i l 7 (40 * a + i)) (r0 : ∀ (h' : am_H) (y0 : Int32), y0.toInt = (40 * a + i) → ly_hy m_tt ly_TH h' → ly_fr cst [] h h' → h.length ≤ h'.length → Φ (some (.int y0), h', 0, 0)) : hp_F cst strs Φ D M 75 l [.int x0] h := by
  refine hp_arc c hM co9_k hD [a, k, d, y, s, i] rfl hy (hp_Bc (z := a) rfl b0 t0 (hp_Bc (z := k) rfl b1 t1 (hp_Bc (z := d) rfl b2 t2 (hp_Bc (z := y) rfl b3 t3 (hp_Bc (z := s) rfl b4 t4 (hp_Bc (z := i) rfl b5 t5 hp_Bn)))))) hp_Fn hp_Kn (hp_La l0 (hp_Li (z := (0 + (1 * a + 0))) l1 rfl (by omega) (hp_Li (z := (0 + (1 * k + 0))) l2 rfl (by omega) (hp_Lj (z := (0 + (1 * d + 0))) l3 rfl (by omega) (hp_Li (z := (0 + (1 * y + 0))) l5 rfl (by omega) (hp_Li (z := (0 + (1 * s + 0))) l6 rfl (by omega) (hp_Li (z := (0 + (40 * a + (1 * i + 0)))) l7 rfl (by omega) hp_Ln))))))) (hp_Si (z := (0 + 0)) rfl (by omega) trivial) ?_ ?_
  · intro p_9 hp ys l' st' h' hys a1_9 a2 a3 gZ gL gS
    cases hp
  · intro p_9 hp ys v_9 h' hys a1_9 a2 a3 gZ gS
    rcases List.mem_cons.mp hp with rfl | hp
    · obtain rfl := hp_y0 hys
      cases v_9 with
      | none => cases gS
      | some wz =>
        obtain ⟨y0, t0, s0_9, q0, -⟩ := hp_gSi (z := (0 + (40 * a + (1 * i + 0)))) gS rfl
        cases s0_9
        exact r0 h' y0 (by omega) a1_9 a2 a3
    cases hp
theorem lo0_k : hp_chk 284 0 5 [(0, 0, 13), (1, (-9223372036854775808), 9223372036854775807), (2, (-2147483648), 2147483647), (3, (-2147483648), 2147483647), (4, 0, 30)] [] [(0, .inr (.inr (.inl (some 94)))), (1, .inl (0, [(0, 1)])), (2, .inr (.inl (0, [(1, 1)]))), (4, .inl (0, [(2, 1)])), (5, .inl (0, [(3, 1)]))] [] [(19989, (0, []), (0, [(4, 1)]))] [] 2 [(8, ([], 5, [(0, 0, 13), (1, (-9223372036854775808), 9223372036854775807), (2, (-2147483648), 2147483647), (3, (-2147483648), 2147483647), (4, 0, 30)], [], [(0, .inr (.inr (.inl (some 94)))), (1, .inl (0, [(0, 1)])), (2, .inr (.inl (0, [(1, 1)]))), (4, .inl (0, [(2, 1)])), (5, .inl (0, [(3, 1)])), (6, .inl ((-1), [(4, 1)]))], [], []))] [] = true := by decide +kernel
theorem lo0 {cst : am_K} {strs : List Nat} {Φ : am_Q → Prop} {D : Nat} {M : am_M} {h : am_H} {l : am_L} (c : hp_C cst strs D) (hM : m_P[284]? = some M) (hD : (2 : Int) ≤ (D : Int) + 1) (hy : ly_hy m_tt ly_TH h) (k d y s n : Int) (b0 : 0 ≤ k) (t0 : k ≤ 13) (b1 : (-9223372036854775808) ≤ d) (t1 : d ≤ 9223372036854775807) (b2 : (-2147483648) ≤ y) (t2 : y ≤ 2147483647) (b3 : (-2147483648) ≤ s) (t3 : s ≤ 2147483647) (b4 : 0 ≤ n) (t4 : n ≤ 30) (k0 : ly_hv cst h 19989 0 = some (n)) (l0 : hp_a l 0 94) (l1 : hp_i l 1 (k)) (l2 : hp_j l 2 (d)) (l4 : hp_i l 4 (y)) (l5 : hp_i l 5 (s)) (e0 : ∀ (l' : am_L) (h' : am_H), ly_hy m_tt ly_TH h' → ly_fr cst [] h h' → h.length ≤ h'.length → hp_a l' 0 94 → hp_i l' 1 (k) → hp_j l' 2 (d) → hp_i l' 4 (y) → hp_i l' 5 (s) → hp_i l' 6 (n - 1) → hp_F cst strs Φ D M 8 l' [] h') : hp_F cst strs Φ D M 0 l [] h := by
  refine hp_arc c hM lo0_k hD [k, d, y, s, n] rfl hy (hp_Bc (z := k) rfl b0 t0 (hp_Bc (z := d) rfl b1 t1 (hp_Bc (z := y) rfl b2 t2 (hp_Bc (z := s) rfl b3 t3 (hp_Bc (z := n) rfl b4 t4 hp_Bn))))) hp_Fn (hp_Kc (zi := (0 + 0)) (zv := (0 + (1 * n + 0))) k0 rfl rfl (by omega) (by omega) hp_Kn) (hp_La l0 (hp_Li (z := (0 + (1 * k + 0))) l1 rfl (by omega) (hp_Lj (z := (0 + (1 * d + 0))) l2 rfl (by omega) (hp_Li (z := (0 + (1 * y + 0))) l4 rfl (by omega) (hp_Li (z := (0 + (1 * s + 0))) l5 rfl (by omega) hp_Ln))))) trivial ?_ ?_
  · intro p_9 hp ys l' st' h' hys a1_9 a2 a3 gZ gL gS
    rcases List.mem_cons.mp hp with rfl | hp
    · obtain rfl := hp_y0 hys
      cases hp_gSn gS
      exact e0 l' h' a1_9 a2 a3 (hp_gLa gL (List.mem_of_getElem? (i := 0) rfl) (by decide)) (hp_gLi (z := (0 + (1 * k + 0))) gL (List.mem_of_getElem? (i := 1) rfl) rfl (by omega)) (hp_gLj (z := (0 + (1 * d + 0))) gL (List.mem_of_getElem? (i := 2) rfl) rfl (by omega)) (hp_gLi (z := (0 + (1 * y + 0))) gL (List.mem_of_getElem? (i := 3) rfl) rfl (by omega)) (hp_gLi (z := (0 + (1 * s + 0))) gL (List.mem_of_getElem? (i := 4) rfl) rfl (by omega)) (hp_gLi (z := ((-1) + (1 * n + 0))) gL (List.mem_of_getElem? (i := 5) rfl) rfl (by omega))
    cases hp
  · intro p_9 hp ys v_9 h' hys a1_9 a2 a3 gZ gS
    cases hp
theorem lo1_k : hp_chk 284 8 4 [(0, 0, 13), (1, (-9223372036854775808), 9223372036854775807), (2, (-2147483648), 2147483647), (3, (-2147483648), 2147483647)] [] [(0, .inr (.inr (.inl (some 94)))), (1, .inl (0, [(0, 1)])), (2, .inr (.inl (0, [(1, 1)]))), (4, .inl (0, [(2, 1)])), (5, .inl (0, [(3, 1)])), (6, .inl ((-1), []))] [] [] [] 2 [] [([], 4, [(0, 0, 13), (1, (-9223372036854775808), 9223372036854775807), (2, (-2147483648), 2147483647), (3, (-2147483648), 2147483647)], [], [], [.inl ((-1), [])], [])] = true := by decide +kernel
theorem lo1 {cst : am_K} {strs : List Nat} {Φ : am_Q → Prop} {D : Nat} {M : am_M} {h : am_H} {l : am_L} (c : hp_C cst strs D) (hM : m_P[284]? = some M) (hD : (2 : Int) ≤ (D : Int) + 1) (hy : ly_hy m_tt ly_TH h) (k d y s : Int) (b0 : 0 ≤ k) (t0 : k ≤ 13) (b1 : (-9223372036854775808) ≤ d) (t1 : d ≤ 9223372036854775807) (b2 : (-2147483648) ≤ y) (t2 : y ≤ 2147483647) (b3 : (-2147483648) ≤ s) (t3 : s ≤ 2147483647) (l0 : hp_a l 0 94) (l1 : hp_i l 1 (k)) (l2 : hp_j l 2 (d)) (l4 : hp_i l 4 (y)) (l5 : hp_i l 5 (s)) (l6 : hp_i l 6 (-1)) (r0 : ∀ (h' : am_H) (y0 : Int32), y0.toInt = (-1) → ly_hy m_tt ly_TH h' → ly_fr cst [] h h' → h.length ≤ h'.length → Φ (some (.int y0), h', 0, 0)) : hp_F cst strs Φ D M 8 l [] h := by
  refine hp_arc c hM lo1_k hD [k, d, y, s] rfl hy (hp_Bc (z := k) rfl b0 t0 (hp_Bc (z := d) rfl b1 t1 (hp_Bc (z := y) rfl b2 t2 (hp_Bc (z := s) rfl b3 t3 hp_Bn)))) hp_Fn hp_Kn (hp_La l0 (hp_Li (z := (0 + (1 * k + 0))) l1 rfl (by omega) (hp_Lj (z := (0 + (1 * d + 0))) l2 rfl (by omega) (hp_Li (z := (0 + (1 * y + 0))) l4 rfl (by omega) (hp_Li (z := (0 + (1 * s + 0))) l5 rfl (by omega) (hp_Li (z := ((-1) + 0)) l6 rfl (by omega) hp_Ln)))))) trivial ?_ ?_
  · intro p_9 hp ys l' st' h' hys a1_9 a2 a3 gZ gL gS
    cases hp
  · intro p_9 hp ys v_9 h' hys a1_9 a2 a3 gZ gS
    rcases List.mem_cons.mp hp with rfl | hp
    · obtain rfl := hp_y0 hys
      cases v_9 with
      | none => cases gS
      | some wz =>
        obtain ⟨y0, t0, s0_9, q0, -⟩ := hp_gSi (z := ((-1) + 0)) gS rfl
        cases s0_9
        exact r0 h' y0 (by omega) a1_9 a2 a3
    cases hp
theorem lo2_k : hp_chk 284 8 5 [(0, 0, 13), (1, (-9223372036854775808), 9223372036854775807), (2, (-2147483648), 2147483647), (3, (-2147483648), 2147483647), (4, 0, 29)] [] [(0, .inr (.inr (.inl (some 94)))), (1, .inl (0, [(0, 1)])), (2, .inr (.inl (0, [(1, 1)]))), (4, .inl (0, [(2, 1)])), (5, .inl (0, [(3, 1)])), (6, .inl (0, [(4, 1)]))] [] [] [] 2 [(22, ([], 5, [(0, 0, 13), (1, (-9223372036854775808), 9223372036854775807), (2, (-2147483648), 2147483647), (3, (-2147483648), 2147483647), (4, 0, 29)], [], [(0, .inr (.inr (.inl (some 94)))), (1, .inl (0, [(0, 1)])), (2, .inr (.inl (0, [(1, 1)]))), (4, .inl (0, [(2, 1)])), (5, .inl (0, [(3, 1)])), (6, .inl (0, [(4, 1)]))], [.inl (0, [(3, 1)]), .inl (0, [(2, 1)]), .inr (.inl (0, [(1, 1)])), .inl (0, [(0, 1)]), .inl (0, [(4, 1)]), .inr (.inr (.inl (some 94)))], []))] [] = true := by decide +kernel
theorem lo2 {cst : am_K} {strs : List Nat} {Φ : am_Q → Prop} {D : Nat} {M : am_M} {h : am_H} {l : am_L} (c : hp_C cst strs D) (hM : m_P[284]? = some M) (hD : (2 : Int) ≤ (D : Int) + 1) (hy : ly_hy m_tt ly_TH h) (k d y s a : Int) (b0 : 0 ≤ k) (t0 : k ≤ 13) (b1 : (-9223372036854775808) ≤ d) (t1 : d ≤ 9223372036854775807) (b2 : (-2147483648) ≤ y) (t2 : y ≤ 2147483647) (b3 : (-2147483648) ≤ s) (t3 : s ≤ 2147483647) (b4 : 0 ≤ a) (t4 : a ≤ 29) (l0 : hp_a l 0 94) (l1 : hp_i l 1 (k)) (l2 : hp_j l 2 (d)) (l4 : hp_i l 4 (y)) (l5 : hp_i l 5 (s)) (l6 : hp_i l 6 (a)) (e0 : ∀ (l' : am_L) (h' : am_H) (y0 : Int32) (y1 : Int32) (y2 : Int64) (y3 : Int32) (y4 : Int32), y0.toInt = (s) → y1.toInt = (y) → y2.toInt = (d) → y3.toInt = (k) → y4.toInt = (a) → ly_hy m_tt ly_TH h' → ly_fr cst [] h h' → h.length ≤ h'.length → hp_a l' 0 94 → hp_i l' 1 (k) → hp_j l' 2 (d) → hp_i l' 4 (y) → hp_i l' 5 (s) → hp_i l' 6 (a) → hp_F cst strs Φ D M 22 l' [.int y0, .int y1, .long y2, .int y3, .int y4, .ref 94] h') : hp_F cst strs Φ D M 8 l [] h := by
  refine hp_arc c hM lo2_k hD [k, d, y, s, a] rfl hy (hp_Bc (z := k) rfl b0 t0 (hp_Bc (z := d) rfl b1 t1 (hp_Bc (z := y) rfl b2 t2 (hp_Bc (z := s) rfl b3 t3 (hp_Bc (z := a) rfl b4 t4 hp_Bn))))) hp_Fn hp_Kn (hp_La l0 (hp_Li (z := (0 + (1 * k + 0))) l1 rfl (by omega) (hp_Lj (z := (0 + (1 * d + 0))) l2 rfl (by omega) (hp_Li (z := (0 + (1 * y + 0))) l4 rfl (by omega) (hp_Li (z := (0 + (1 * s + 0))) l5 rfl (by omega) (hp_Li (z := (0 + (1 * a + 0))) l6 rfl (by omega) hp_Ln)))))) trivial ?_ ?_
  · intro p_9 hp ys l' st' h' hys a1_9 a2 a3 gZ gL gS
    rcases List.mem_cons.mp hp with rfl | hp
    · obtain rfl := hp_y0 hys
      obtain ⟨y0, t0, rfl, q0, g0⟩ := hp_gSi (z := (0 + (1 * s + 0))) gS rfl
      obtain ⟨y1, t1, rfl, q1_9, g1⟩ := hp_gSi (z := (0 + (1 * y + 0))) g0 rfl
      obtain ⟨y2, t2, rfl, q2_9, g2⟩ := hp_gSj (z := (0 + (1 * d + 0))) g1 rfl
      obtain ⟨y3, t3, rfl, q3_9, g3_9⟩ := hp_gSi (z := (0 + (1 * k + 0))) g2 rfl
      obtain ⟨y4, t4, rfl, q4_9, g4⟩ := hp_gSi (z := (0 + (1 * a + 0))) g3_9 rfl
      obtain ⟨t5_9, rfl, g5_9⟩ := hp_gSa g4 (by decide)
      cases hp_gSn g5_9
      exact e0 l' h' y0 y1 y2 y3 y4 (by omega) (by omega) (by omega) (by omega) (by omega) a1_9 a2 a3 (hp_gLa gL (List.mem_of_getElem? (i := 0) rfl) (by decide)) (hp_gLi (z := (0 + (1 * k + 0))) gL (List.mem_of_getElem? (i := 1) rfl) rfl (by omega)) (hp_gLj (z := (0 + (1 * d + 0))) gL (List.mem_of_getElem? (i := 2) rfl) rfl (by omega)) (hp_gLi (z := (0 + (1 * y + 0))) gL (List.mem_of_getElem? (i := 3) rfl) rfl (by omega)) (hp_gLi (z := (0 + (1 * s + 0))) gL (List.mem_of_getElem? (i := 4) rfl) rfl (by omega)) (hp_gLi (z := (0 + (1 * a + 0))) gL (List.mem_of_getElem? (i := 5) rfl) rfl (by omega))
    cases hp
  · intro p_9 hp ys v_9 h' hys a1_9 a2 a3 gZ gS
    cases hp
theorem lo3_k : hp_chk 284 25 5 [(0, 0, 13), (1, (-9223372036854775808), 9223372036854775807), (2, (-2147483648), 2147483647), (3, (-2147483648), 2147483647), (4, 0, 29)] [] [(0, .inr (.inr (.inl (some 94)))), (1, .inl (0, [(0, 1)])), (2, .inr (.inl (0, [(1, 1)]))), (4, .inl (0, [(2, 1)])), (5, .inl (0, [(3, 1)])), (6, .inl (0, [(4, 1)]))] [.inl ((-1), [])] [] [] 2 [(8, ([], 5, [(0, 0, 13), (1, (-9223372036854775808), 9223372036854775807), (2, (-2147483648), 2147483647), (3, (-2147483648), 2147483647), (4, 0, 29)], [], [(0, .inr (.inr (.inl (some 94)))), (1, .inl (0, [(0, 1)])), (2, .inr (.inl (0, [(1, 1)]))), (4, .inl (0, [(2, 1)])), (5, .inl (0, [(3, 1)])), (6, .inl ((-1), [(4, 1)]))], [], []))] [] = true := by decide +kernel
theorem lo3 {cst : am_K} {strs : List Nat} {Φ : am_Q → Prop} {D : Nat} {M : am_M} {h : am_H} {l : am_L} (c : hp_C cst strs D) (hM : m_P[284]? = some M) (hD : (2 : Int) ≤ (D : Int) + 1) (hy : ly_hy m_tt ly_TH h) (k d y s a : Int) (x0 : Int32) (hx0 : x0.toInt = (-1)) (b0 : 0 ≤ k) (t0 : k ≤ 13) (b1 : (-9223372036854775808) ≤ d) (t1 : d ≤ 9223372036854775807) (b2 : (-2147483648) ≤ y) (t2 : y ≤ 2147483647) (b3 : (-2147483648) ≤ s) (t3 : s ≤ 2147483647) (b4 : 0 ≤ a) (t4 : a ≤ 29) (l0 : hp_a l 0 94) (l1 : hp_i l 1 (k)) (l2 : hp_j l 2 (d)) (l4 : hp_i l 4 (y)) (l5 : hp_i l 5 (s)) (l6 : hp_i l 6 (a)) (e0 : ∀ (l' : am_L) (h' : am_H), ly_hy m_tt ly_TH h' → ly_fr cst [] h h' → h.length ≤ h'.length → hp_a l' 0 94 → hp_i l' 1 (k) → hp_j l' 2 (d) → hp_i l' 4 (y) → hp_i l' 5 (s) → hp_i l' 6 (a - 1) → hp_F cst strs Φ D M 8 l' [] h') : hp_F cst strs Φ D M 25 l [.int x0] h := by
  refine hp_arc c hM lo3_k hD [k, d, y, s, a] rfl hy (hp_Bc (z := k) rfl b0 t0 (hp_Bc (z := d) rfl b1 t1 (hp_Bc (z := y) rfl b2 t2 (hp_Bc (z := s) rfl b3 t3 (hp_Bc (z := a) rfl b4 t4 hp_Bn))))) hp_Fn hp_Kn (hp_La l0 (hp_Li (z := (0 + (1 * k + 0))) l1 rfl (by omega) (hp_Lj (z := (0 + (1 * d + 0))) l2 rfl (by omega) (hp_Li (z := (0 + (1 * y + 0))) l4 rfl (by omega) (hp_Li (z := (0 + (1 * s + 0))) l5 rfl (by omega) (hp_Li (z := (0 + (1 * a + 0))) l6 rfl (by omega) hp_Ln)))))) (hp_Si (z := ((-1) + 0)) rfl (by omega) trivial) ?_ ?_
  · intro p_9 hp ys l' st' h' hys a1_9 a2 a3 gZ gL gS
    rcases List.mem_cons.mp hp with rfl | hp
    · obtain rfl := hp_y0 hys
      cases hp_gSn gS
      exact e0 l' h' a1_9 a2 a3 (hp_gLa gL (List.mem_of_getElem? (i := 0) rfl) (by decide)) (hp_gLi (z := (0 + (1 * k + 0))) gL (List.mem_of_getElem? (i := 1) rfl) rfl (by omega)) (hp_gLj (z := (0 + (1 * d + 0))) gL (List.mem_of_getElem? (i := 2) rfl) rfl (by omega)) (hp_gLi (z := (0 + (1 * y + 0))) gL (List.mem_of_getElem? (i := 3) rfl) rfl (by omega)) (hp_gLi (z := (0 + (1 * s + 0))) gL (List.mem_of_getElem? (i := 4) rfl) rfl (by omega)) (hp_gLi (z := ((-1) + (1 * a + 0))) gL (List.mem_of_getElem? (i := 5) rfl) rfl (by omega))
    cases hp
  · intro p_9 hp ys v_9 h' hys a1_9 a2 a3 gZ gS
    cases hp
theorem lo4_k : hp_chk 284 25 6 [(0, 0, 13), (1, (-9223372036854775808), 9223372036854775807), (2, (-2147483648), 2147483647), (3, (-2147483648), 2147483647), (4, 0, 29), (5, 0, 1199)] [] [(0, .inr (.inr (.inl (some 94)))), (1, .inl (0, [(0, 1)])), (2, .inr (.inl (0, [(1, 1)]))), (4, .inl (0, [(2, 1)])), (5, .inl (0, [(3, 1)])), (6, .inl (0, [(4, 1)]))] [.inl (0, [(5, 1)])] [] [] 2 [] [([], 6, [(0, 0, 13), (1, (-9223372036854775808), 9223372036854775807), (2, (-2147483648), 2147483647), (3, (-2147483648), 2147483647), (4, 0, 29), (5, 0, 1199)], [], [], [.inl (0, [(5, 1)])], [])] = true := by decide +kernel
theorem lo4 {cst : am_K} {strs : List Nat} {Φ : am_Q → Prop} {D : Nat} {M : am_M} {h : am_H} {l : am_L} (c : hp_C cst strs D) (hM : m_P[284]? = some M) (hD : (2 : Int) ≤ (D : Int) + 1) (hy : ly_hy m_tt ly_TH h) (k d y s a w : Int) (x0 : Int32) (hx0 : x0.toInt = (w)) (b0 : 0 ≤ k) (t0 : k ≤ 13) (b1 : (-9223372036854775808) ≤ d) (t1 : d ≤ 9223372036854775807) (b2 : (-2147483648) ≤ y) (t2 : y ≤ 2147483647) (b3 : (-2147483648) ≤ s) (t3 : s ≤ 2147483647) (b4 : 0 ≤ a) (t4 : a ≤ 29) (b5 : 0 ≤ w) (t5 : w ≤ 1199) (l0 : hp_a l 0 94) (l1 : hp_i l 1 (k)) (l2 : hp_j l 2 (d)) (l4 : hp_i l 4 (y)) (l5 : hp_i l 5 (s)) (l6 : hp_i l 6 (a)) (r0 : ∀ (h' : am_H) (y0 : Int32), y0.toInt = (w) → ly_hy m_tt ly_TH h' → ly_fr cst [] h h' → h.length ≤ h'.length → Φ (some (.int y0), h', 0, 0)) : hp_F cst strs Φ D M 25 l [.int x0] h := by
  refine hp_arc c hM lo4_k hD [k, d, y, s, a, w] rfl hy (hp_Bc (z := k) rfl b0 t0 (hp_Bc (z := d) rfl b1 t1 (hp_Bc (z := y) rfl b2 t2 (hp_Bc (z := s) rfl b3 t3 (hp_Bc (z := a) rfl b4 t4 (hp_Bc (z := w) rfl b5 t5 hp_Bn)))))) hp_Fn hp_Kn (hp_La l0 (hp_Li (z := (0 + (1 * k + 0))) l1 rfl (by omega) (hp_Lj (z := (0 + (1 * d + 0))) l2 rfl (by omega) (hp_Li (z := (0 + (1 * y + 0))) l4 rfl (by omega) (hp_Li (z := (0 + (1 * s + 0))) l5 rfl (by omega) (hp_Li (z := (0 + (1 * a + 0))) l6 rfl (by omega) hp_Ln)))))) (hp_Si (z := (0 + (1 * w + 0))) rfl (by omega) trivial) ?_ ?_
  · intro p_9 hp ys l' st' h' hys a1_9 a2 a3 gZ gL gS
    cases hp
  · intro p_9 hp ys v_9 h' hys a1_9 a2 a3 gZ gS
    rcases List.mem_cons.mp hp with rfl | hp
    · obtain rfl := hp_y0 hys
      cases v_9 with
      | none => cases gS
      | some wz =>
        obtain ⟨y0, t0, s0_9, q0, -⟩ := hp_gSi (z := (0 + (1 * w + 0))) gS rfl
        cases s0_9
        exact r0 h' y0 (by omega) a1_9 a2 a3
    cases hp
theorem tv0_k : hp_chk 283 0 4 [(0, 0, 13), (1, (-9223372036854775808), 9223372036854775807), (2, (-2147483648), 2147483647), (3, (-2147483648), 2147483647)] [] [(0, .inr (.inr (.inl (some 94)))), (1, .inl (0, [(0, 1)])), (2, .inr (.inl (0, [(1, 1)]))), (4, .inl (0, [(2, 1)])), (5, .inl (0, [(3, 1)]))] [] [] [] 2 [(7, ([], 4, [(0, 0, 13), (1, (-9223372036854775808), 9223372036854775807), (2, (-2147483648), 2147483647), (3, (-2147483648), 2147483647)], [], [(0, .inr (.inr (.inl (some 94)))), (1, .inl (0, [(0, 1)])), (2, .inr (.inl (0, [(1, 1)]))), (4, .inl (0, [(2, 1)])), (5, .inl (0, [(3, 1)]))], [.inl (0, [(3, 1)]), .inl (0, [(2, 1)]), .inr (.inl (0, [(1, 1)])), .inl (0, [(0, 1)]), .inr (.inr (.inl (some 94)))], []))] [] = true := by decide +kernel
theorem tv0 {cst : am_K} {strs : List Nat} {Φ : am_Q → Prop} {D : Nat} {M : am_M} {h : am_H} {l : am_L} (c : hp_C cst strs D) (hM : m_P[283]? = some M) (hD : (2 : Int) ≤ (D : Int) + 1) (hy : ly_hy m_tt ly_TH h) (k d y s : Int) (b0 : 0 ≤ k) (t0 : k ≤ 13) (b1 : (-9223372036854775808) ≤ d) (t1 : d ≤ 9223372036854775807) (b2 : (-2147483648) ≤ y) (t2 : y ≤ 2147483647) (b3 : (-2147483648) ≤ s) (t3 : s ≤ 2147483647) (l0 : hp_a l 0 94) (l1 : hp_i l 1 (k)) (l2 : hp_j l 2 (d)) (l4 : hp_i l 4 (y)) (l5 : hp_i l 5 (s)) (e0 : ∀ (l' : am_L) (h' : am_H) (y0 : Int32) (y1 : Int32) (y2 : Int64) (y3 : Int32), y0.toInt = (s) → y1.toInt = (y) → y2.toInt = (d) → y3.toInt = (k) → ly_hy m_tt ly_TH h' → ly_fr cst [] h h' → h.length ≤ h'.length → hp_a l' 0 94 → hp_i l' 1 (k) → hp_j l' 2 (d) → hp_i l' 4 (y) → hp_i l' 5 (s) → hp_F cst strs Φ D M 7 l' [.int y0, .int y1, .long y2, .int y3, .ref 94] h') : hp_F cst strs Φ D M 0 l [] h := by
  refine hp_arc c hM tv0_k hD [k, d, y, s] rfl hy (hp_Bc (z := k) rfl b0 t0 (hp_Bc (z := d) rfl b1 t1 (hp_Bc (z := y) rfl b2 t2 (hp_Bc (z := s) rfl b3 t3 hp_Bn)))) hp_Fn hp_Kn (hp_La l0 (hp_Li (z := (0 + (1 * k + 0))) l1 rfl (by omega) (hp_Lj (z := (0 + (1 * d + 0))) l2 rfl (by omega) (hp_Li (z := (0 + (1 * y + 0))) l4 rfl (by omega) (hp_Li (z := (0 + (1 * s + 0))) l5 rfl (by omega) hp_Ln))))) trivial ?_ ?_
  · intro p_9 hp ys l' st' h' hys a1_9 a2 a3 gZ gL gS
    rcases List.mem_cons.mp hp with rfl | hp
    · obtain rfl := hp_y0 hys
      obtain ⟨y0, t0, rfl, q0, g0⟩ := hp_gSi (z := (0 + (1 * s + 0))) gS rfl
      obtain ⟨y1, t1, rfl, q1_9, g1⟩ := hp_gSi (z := (0 + (1 * y + 0))) g0 rfl
      obtain ⟨y2, t2, rfl, q2_9, g2⟩ := hp_gSj (z := (0 + (1 * d + 0))) g1 rfl
      obtain ⟨y3, t3, rfl, q3_9, g3_9⟩ := hp_gSi (z := (0 + (1 * k + 0))) g2 rfl
      obtain ⟨t4_9, rfl, g4⟩ := hp_gSa g3_9 (by decide)
      cases hp_gSn g4
      exact e0 l' h' y0 y1 y2 y3 (by omega) (by omega) (by omega) (by omega) a1_9 a2 a3 (hp_gLa gL (List.mem_of_getElem? (i := 0) rfl) (by decide)) (hp_gLi (z := (0 + (1 * k + 0))) gL (List.mem_of_getElem? (i := 1) rfl) rfl (by omega)) (hp_gLj (z := (0 + (1 * d + 0))) gL (List.mem_of_getElem? (i := 2) rfl) rfl (by omega)) (hp_gLi (z := (0 + (1 * y + 0))) gL (List.mem_of_getElem? (i := 3) rfl) rfl (by omega)) (hp_gLi (z := (0 + (1 * s + 0))) gL (List.mem_of_getElem? (i := 4) rfl) rfl (by omega))
    cases hp
  · intro p_9 hp ys v_9 h' hys a1_9 a2 a3 gZ gS
    cases hp
theorem tv1_k : hp_chk 283 10 6 [(0, 0, 1), (1, (-9223372036854775808), 9223372036854775807), (2, (-2147483648), 2147483647), (3, (-2147483648), 2147483647), (4, 0, 1199), (5, 0, 20)] [] [(0, .inr (.inr (.inl (some 94)))), (1, .inl (0, [(0, 1)])), (2, .inr (.inl (0, [(1, 1)]))), (4, .inl (0, [(2, 1)])), (5, .inl (0, [(3, 1)]))] [.inl (0, [(4, 1)])] [(24576, (0, [(4, 1)]), (0, [(5, 1)]))] [] 2 [] [([], 6, [(0, 0, 1), (1, (-9223372036854775808), 9223372036854775807), (2, (-2147483648), 2147483647), (3, (-2147483648), 2147483647), (4, 0, 1199), (5, 0, 20)], [], [], [.inl (0, [(5, 1)])], [])] = true := by decide +kernel
theorem tv1 {cst : am_K} {strs : List Nat} {Φ : am_Q → Prop} {D : Nat} {M : am_M} {h : am_H} {l : am_L} (c : hp_C cst strs D) (hM : m_P[283]? = some M) (hD : (2 : Int) ≤ (D : Int) + 1) (hy : ly_hy m_tt ly_TH h) (k d y s w v : Int) (x0 : Int32) (hx0 : x0.toInt = (w)) (b0 : 0 ≤ k) (t0 : k ≤ 1) (b1 : (-9223372036854775808) ≤ d) (t1 : d ≤ 9223372036854775807) (b2 : (-2147483648) ≤ y) (t2 : y ≤ 2147483647) (b3 : (-2147483648) ≤ s) (t3 : s ≤ 2147483647) (b4 : 0 ≤ w) (t4 : w ≤ 1199) (b5 : 0 ≤ v) (t5 : v ≤ 20) (k0 : ly_hv cst h 24576 (w) = some (v)) (l0 : hp_a l 0 94) (l1 : hp_i l 1 (k)) (l2 : hp_j l 2 (d)) (l4 : hp_i l 4 (y)) (l5 : hp_i l 5 (s)) (r0 : ∀ (h' : am_H) (y0 : Int32), y0.toInt = (v) → ly_hy m_tt ly_TH h' → ly_fr cst [] h h' → h.length ≤ h'.length → Φ (some (.int y0), h', 0, 0)) : hp_F cst strs Φ D M 10 l [.int x0] h := by
  refine hp_arc c hM tv1_k hD [k, d, y, s, w, v] rfl hy (hp_Bc (z := k) rfl b0 t0 (hp_Bc (z := d) rfl b1 t1 (hp_Bc (z := y) rfl b2 t2 (hp_Bc (z := s) rfl b3 t3 (hp_Bc (z := w) rfl b4 t4 (hp_Bc (z := v) rfl b5 t5 hp_Bn)))))) hp_Fn (hp_Kc (zi := (0 + (1 * w + 0))) (zv := (0 + (1 * v + 0))) k0 rfl rfl (by omega) (by omega) hp_Kn) (hp_La l0 (hp_Li (z := (0 + (1 * k + 0))) l1 rfl (by omega) (hp_Lj (z := (0 + (1 * d + 0))) l2 rfl (by omega) (hp_Li (z := (0 + (1 * y + 0))) l4 rfl (by omega) (hp_Li (z := (0 + (1 * s + 0))) l5 rfl (by omega) hp_Ln))))) (hp_Si (z := (0 + (1 * w + 0))) rfl (by omega) trivial) ?_ ?_
  · intro p_9 hp ys l' st' h' hys a1_9 a2 a3 gZ gL gS
    cases hp
  · intro p_9 hp ys v h' hys a1_9 a2 a3 gZ gS
    rcases List.mem_cons.mp hp with rfl | hp
    · obtain rfl := hp_y0 hys
      cases v with
      | none => cases gS
      | some wz =>
        obtain ⟨y0, t0, s0_9, q0, -⟩ := hp_gSi (z := (0 + (1 * v + 0))) gS rfl
        cases s0_9
        exact r0 h' y0 (by omega) a1_9 a2 a3
    cases hp
theorem tv2_k : hp_chk 283 10 6 [(0, 2, 13), (1, (-9223372036854775808), 9223372036854775807), (2, (-2147483648), 2147483647), (3, (-2147483648), 2147483647), (4, 0, 1199), (5, 0, 9999)] [] [(0, .inr (.inr (.inl (some 94)))), (1, .inl (0, [(0, 1)])), (2, .inr (.inl (0, [(1, 1)]))), (4, .inl (0, [(2, 1)])), (5, .inl (0, [(3, 1)]))] [.inl (0, [(4, 1)])] [(24064, (0, [(4, 1)]), (0, [(5, 1)]))] [] 2 [] [([], 6, [(0, 2, 13), (1, (-9223372036854775808), 9223372036854775807), (2, (-2147483648), 2147483647), (3, (-2147483648), 2147483647), (4, 0, 1199), (5, 0, 9999)], [], [], [.inl (0, [(5, 1)])], [])] = true := by decide +kernel
theorem tv2 {cst : am_K} {strs : List Nat} {Φ : am_Q → Prop} {D : Nat} {M : am_M} {h : am_H} {l : am_L} (c : hp_C cst strs D) (hM : m_P[283]? = some M) (hD : (2 : Int) ≤ (D : Int) + 1) (hy : ly_hy m_tt ly_TH h) (k d y s w v : Int) (x0 : Int32) (hx0 : x0.toInt = (w)) (b0 : 2 ≤ k) (t0 : k ≤ 13) (b1 : (-9223372036854775808) ≤ d) (t1 : d ≤ 9223372036854775807) (b2 : (-2147483648) ≤ y) (t2 : y ≤ 2147483647) (b3 : (-2147483648) ≤ s) (t3 : s ≤ 2147483647) (b4 : 0 ≤ w) (t4 : w ≤ 1199) (b5 : 0 ≤ v) (t5 : v ≤ 9999) (k0 : ly_hv cst h 24064 (w) = some (v)) (l0 : hp_a l 0 94) (l1 : hp_i l 1 (k)) (l2 : hp_j l 2 (d)) (l4 : hp_i l 4 (y)) (l5 : hp_i l 5 (s)) (r0 : ∀ (h' : am_H) (y0 : Int32), y0.toInt = (v) → ly_hy m_tt ly_TH h' → ly_fr cst [] h h' → h.length ≤ h'.length → Φ (some (.int y0), h', 0, 0)) : hp_F cst strs Φ D M 10 l [.int x0] h := by
  refine hp_arc c hM tv2_k hD [k, d, y, s, w, v] rfl hy (hp_Bc (z := k) rfl b0 t0 (hp_Bc (z := d) rfl b1 t1 (hp_Bc (z := y) rfl b2 t2 (hp_Bc (z := s) rfl b3 t3 (hp_Bc (z := w) rfl b4 t4 (hp_Bc (z := v) rfl b5 t5 hp_Bn)))))) hp_Fn (hp_Kc (zi := (0 + (1 * w + 0))) (zv := (0 + (1 * v + 0))) k0 rfl rfl (by omega) (by omega) hp_Kn) (hp_La l0 (hp_Li (z := (0 + (1 * k + 0))) l1 rfl (by omega) (hp_Lj (z := (0 + (1 * d + 0))) l2 rfl (by omega) (hp_Li (z := (0 + (1 * y + 0))) l4 rfl (by omega) (hp_Li (z := (0 + (1 * s + 0))) l5 rfl (by omega) hp_Ln))))) (hp_Si (z := (0 + (1 * w + 0))) rfl (by omega) trivial) ?_ ?_
  · intro p_9 hp ys l' st' h' hys a1_9 a2 a3 gZ gL gS
    cases hp
  · intro p_9 hp ys v h' hys a1_9 a2 a3 gZ gS
    rcases List.mem_cons.mp hp with rfl | hp
    · obtain rfl := hp_y0 hys
      cases v with
      | none => cases gS
      | some wz =>
        obtain ⟨y0, t0, s0_9, q0, -⟩ := hp_gSi (z := (0 + (1 * v + 0))) gS rfl
        cases s0_9
        exact r0 h' y0 (by omega) a1_9 a2 a3
    cases hp
theorem tvK0_k : hq_chk [288] 283 10 3 [(0, (-9223372036854775808), 9223372036854775807), (1, (-2147483648), 2147483647), (2, (-2147483648), 2147483647)] [] [(0, .inr (.inr (.inl (some 94)))), (1, .inl (0, [])), (2, .inr (.inl (0, [(0, 1)]))), (4, .inl (0, [(1, 1)])), (5, .inl (0, [(2, 1)]))] [.inl ((-1), [])] [] [] 3 [] [([], 3, [(0, (-9223372036854775808), 9223372036854775807), (1, (-2147483648), 2147483647), (2, (-2147483648), 2147483647)], [], [], [.inl ((-1), [])], [])] = true := by decide +kernel
theorem tvK0 {cst : am_K} {strs : List Nat} {Φ : am_Q → Prop} {D : Nat} {M : am_M} {h : am_H} {l : am_L} (c : hp_C cst strs D) (hM : m_P[283]? = some M) (hD : (3 : Int) ≤ (D : Int) + 1) (hy : ly_hy m_tt ly_TH h) (d y s : Int) (x0 : Int32) (hx0 : x0.toInt = (-1)) (b0 : (-9223372036854775808) ≤ d) (t0 : d ≤ 9223372036854775807) (b1 : (-2147483648) ≤ y) (t1 : y ≤ 2147483647) (b2 : (-2147483648) ≤ s) (t2 : s ≤ 2147483647) (l0 : hp_a l 0 94) (l1 : hp_i l 1 0) (l2 : hp_j l 2 (d)) (l4 : hp_i l 4 (y)) (l5 : hp_i l 5 (s)) (r0 : ∀ (h' : am_H) (y0 : Int32), y0.toInt = (-1) → ly_hy m_tt ly_TH h' → ly_fr cst [] h h' → h.length ≤ h'.length → Φ (some (.int y0), h', 0, 0)) : hp_F cst strs Φ D M 10 l [.int x0] h := by
  refine hq_arc c hM tvK0_k hD [d, y, s] rfl hy (hp_Bc (z := d) rfl b0 t0 (hp_Bc (z := y) rfl b1 t1 (hp_Bc (z := s) rfl b2 t2 hp_Bn))) hp_Fn hp_Kn (hp_La l0 (hp_Li (z := (0 + 0)) l1 rfl (by omega) (hp_Lj (z := (0 + (1 * d + 0))) l2 rfl (by omega) (hp_Li (z := (0 + (1 * y + 0))) l4 rfl (by omega) (hp_Li (z := (0 + (1 * s + 0))) l5 rfl (by omega) hp_Ln))))) (hp_Si (z := ((-1) + 0)) rfl (by omega) trivial) ?_ ?_
  · intro p_9 hp ys l' st' h' hys a1_9 a2 a3 gZ gL gS
    cases hp
  · intro p_9 hp ys v_9 h' hys a1_9 a2 a3 gZ gS
    rcases List.mem_cons.mp hp with rfl | hp
    · obtain rfl := hp_y0 hys
      cases v_9 with
      | none => cases gS
      | some wz =>
        obtain ⟨y0, t0, s0_9, q0, -⟩ := hp_gSi (z := ((-1) + 0)) gS rfl
        cases s0_9
        exact r0 h' y0 (by omega) a1_9 a2 a3
    cases hp
theorem tvK1_k : hq_chk [288] 283 10 3 [(0, (-9223372036854775808), 9223372036854775807), (1, (-2147483648), 2147483647), (2, (-2147483648), 2147483647)] [] [(0, .inr (.inr (.inl (some 94)))), (1, .inl (1, [])), (2, .inr (.inl (0, [(0, 1)]))), (4, .inl (0, [(1, 1)])), (5, .inl (0, [(2, 1)]))] [.inl ((-1), [])] [] [] 3 [] [([], 3, [(0, (-9223372036854775808), 9223372036854775807), (1, (-2147483648), 2147483647), (2, (-2147483648), 2147483647)], [], [], [.inl (0, [])], [])] = true := by decide +kernel
theorem tvK1 {cst : am_K} {strs : List Nat} {Φ : am_Q → Prop} {D : Nat} {M : am_M} {h : am_H} {l : am_L} (c : hp_C cst strs D) (hM : m_P[283]? = some M) (hD : (3 : Int) ≤ (D : Int) + 1) (hy : ly_hy m_tt ly_TH h) (d y s : Int) (x0 : Int32) (hx0 : x0.toInt = (-1)) (b0 : (-9223372036854775808) ≤ d) (t0 : d ≤ 9223372036854775807) (b1 : (-2147483648) ≤ y) (t1 : y ≤ 2147483647) (b2 : (-2147483648) ≤ s) (t2 : s ≤ 2147483647) (l0 : hp_a l 0 94) (l1 : hp_i l 1 1) (l2 : hp_j l 2 (d)) (l4 : hp_i l 4 (y)) (l5 : hp_i l 5 (s)) (r0 : ∀ (h' : am_H) (y0 : Int32), y0.toInt = 0 → ly_hy m_tt ly_TH h' → ly_fr cst [] h h' → h.length ≤ h'.length → Φ (some (.int y0), h', 0, 0)) : hp_F cst strs Φ D M 10 l [.int x0] h := by
  refine hq_arc c hM tvK1_k hD [d, y, s] rfl hy (hp_Bc (z := d) rfl b0 t0 (hp_Bc (z := y) rfl b1 t1 (hp_Bc (z := s) rfl b2 t2 hp_Bn))) hp_Fn hp_Kn (hp_La l0 (hp_Li (z := (1 + 0)) l1 rfl (by omega) (hp_Lj (z := (0 + (1 * d + 0))) l2 rfl (by omega) (hp_Li (z := (0 + (1 * y + 0))) l4 rfl (by omega) (hp_Li (z := (0 + (1 * s + 0))) l5 rfl (by omega) hp_Ln))))) (hp_Si (z := ((-1) + 0)) rfl (by omega) trivial) ?_ ?_
  · intro p_9 hp ys l' st' h' hys a1_9 a2 a3 gZ gL gS
    cases hp
  · intro p_9 hp ys v_9 h' hys a1_9 a2 a3 gZ gS
    rcases List.mem_cons.mp hp with rfl | hp
    · obtain rfl := hp_y0 hys
      cases v_9 with
      | none => cases gS
      | some wz =>
        obtain ⟨y0, t0, s0_9, q0, -⟩ := hp_gSi (z := (0 + 0)) gS rfl
        cases s0_9
        exact r0 h' y0 (by omega) a1_9 a2 a3
    cases hp
theorem tvK2_k : hq_chk [288] 283 10 3 [(0, (-9223372036854775808), 9223372036854775807), (1, (-2147483648), 2147483647), (2, (-2147483648), 2147483647)] [] [(0, .inr (.inr (.inl (some 94)))), (1, .inl (2, [])), (2, .inr (.inl (0, [(0, 1)]))), (4, .inl (0, [(1, 1)])), (5, .inl (0, [(2, 1)]))] [.inl ((-1), [])] [] [] 3 [] [([], 3, [(0, (-9223372036854775808), 9223372036854775807), (1, (-2147483648), 2147483647), (2, (-2147483648), 2147483647)], [], [], [.inl (0, [])], [])] = true := by decide +kernel
theorem tvK2 {cst : am_K} {strs : List Nat} {Φ : am_Q → Prop} {D : Nat} {M : am_M} {h : am_H} {l : am_L} (c : hp_C cst strs D) (hM : m_P[283]? = some M) (hD : (3 : Int) ≤ (D : Int) + 1) (hy : ly_hy m_tt ly_TH h) (d y s : Int) (x0 : Int32) (hx0 : x0.toInt = (-1)) (b0 : (-9223372036854775808) ≤ d) (t0 : d ≤ 9223372036854775807) (b1 : (-2147483648) ≤ y) (t1 : y ≤ 2147483647) (b2 : (-2147483648) ≤ s) (t2 : s ≤ 2147483647) (l0 : hp_a l 0 94) (l1 : hp_i l 1 2) (l2 : hp_j l 2 (d)) (l4 : hp_i l 4 (y)) (l5 : hp_i l 5 (s)) (r0 : ∀ (h' : am_H) (y0 : Int32), y0.toInt = 0 → ly_hy m_tt ly_TH h' → ly_fr cst [] h h' → h.length ≤ h'.length → Φ (some (.int y0), h', 0, 0)) : hp_F cst strs Φ D M 10 l [.int x0] h := by
  refine hq_arc c hM tvK2_k hD [d, y, s] rfl hy (hp_Bc (z := d) rfl b0 t0 (hp_Bc (z := y) rfl b1 t1 (hp_Bc (z := s) rfl b2 t2 hp_Bn))) hp_Fn hp_Kn (hp_La l0 (hp_Li (z := (2 + 0)) l1 rfl (by omega) (hp_Lj (z := (0 + (1 * d + 0))) l2 rfl (by omega) (hp_Li (z := (0 + (1 * y + 0))) l4 rfl (by omega) (hp_Li (z := (0 + (1 * s + 0))) l5 rfl (by omega) hp_Ln))))) (hp_Si (z := ((-1) + 0)) rfl (by omega) trivial) ?_ ?_
  · intro p_9 hp ys l' st' h' hys a1_9 a2 a3 gZ gL gS
    cases hp
  · intro p_9 hp ys v_9 h' hys a1_9 a2 a3 gZ gS
    rcases List.mem_cons.mp hp with rfl | hp
    · obtain rfl := hp_y0 hys
      cases v_9 with
      | none => cases gS
      | some wz =>
        obtain ⟨y0, t0, s0_9, q0, -⟩ := hp_gSi (z := (0 + 0)) gS rfl
        cases s0_9
        exact r0 h' y0 (by omega) a1_9 a2 a3
    cases hp
theorem tvK3_k : hq_chk [288] 283 10 3 [(0, (-9223372036854775808), 9223372036854775807), (1, (-2147483648), 2147483647), (2, (-2147483648), 2147483647)] [] [(0, .inr (.inr (.inl (some 94)))), (1, .inl (3, [])), (2, .inr (.inl (0, [(0, 1)]))), (4, .inl (0, [(1, 1)])), (5, .inl (0, [(2, 1)]))] [.inl ((-1), [])] [] [] 3 [] [([], 3, [(0, (-9223372036854775808), 9223372036854775807), (1, (-2147483648), 2147483647), (2, (-2147483648), 2147483647)], [], [], [.inl (0, [])], [])] = true := by decide +kernel
theorem tvK3 {cst : am_K} {strs : List Nat} {Φ : am_Q → Prop} {D : Nat} {M : am_M} {h : am_H} {l : am_L} (c : hp_C cst strs D) (hM : m_P[283]? = some M) (hD : (3 : Int) ≤ (D : Int) + 1) (hy : ly_hy m_tt ly_TH h) (d y s : Int) (x0 : Int32) (hx0 : x0.toInt = (-1)) (b0 : (-9223372036854775808) ≤ d) (t0 : d ≤ 9223372036854775807) (b1 : (-2147483648) ≤ y) (t1 : y ≤ 2147483647) (b2 : (-2147483648) ≤ s) (t2 : s ≤ 2147483647) (l0 : hp_a l 0 94) (l1 : hp_i l 1 3) (l2 : hp_j l 2 (d)) (l4 : hp_i l 4 (y)) (l5 : hp_i l 5 (s)) (r0 : ∀ (h' : am_H) (y0 : Int32), y0.toInt = 0 → ly_hy m_tt ly_TH h' → ly_fr cst [] h h' → h.length ≤ h'.length → Φ (some (.int y0), h', 0, 0)) : hp_F cst strs Φ D M 10 l [.int x0] h := by
  refine hq_arc c hM tvK3_k hD [d, y, s] rfl hy (hp_Bc (z := d) rfl b0 t0 (hp_Bc (z := y) rfl b1 t1 (hp_Bc (z := s) rfl b2 t2 hp_Bn))) hp_Fn hp_Kn (hp_La l0 (hp_Li (z := (3 + 0)) l1 rfl (by omega) (hp_Lj (z := (0 + (1 * d + 0))) l2 rfl (by omega) (hp_Li (z := (0 + (1 * y + 0))) l4 rfl (by omega) (hp_Li (z := (0 + (1 * s + 0))) l5 rfl (by omega) hp_Ln))))) (hp_Si (z := ((-1) + 0)) rfl (by omega) trivial) ?_ ?_
  · intro p_9 hp ys l' st' h' hys a1_9 a2 a3 gZ gL gS
    cases hp
  · intro p_9 hp ys v_9 h' hys a1_9 a2 a3 gZ gS
    rcases List.mem_cons.mp hp with rfl | hp
    · obtain rfl := hp_y0 hys
      cases v_9 with
      | none => cases gS
      | some wz =>
        obtain ⟨y0, t0, s0_9, q0, -⟩ := hp_gSi (z := (0 + 0)) gS rfl
        cases s0_9
        exact r0 h' y0 (by omega) a1_9 a2 a3
    cases hp
theorem tvK4_k : hq_chk [288] 283 10 3 [(0, (-9223372036854775808), 9223372036854775807), (1, (-2147483648), 2147483647), (2, (-2147483648), 2147483647)] [] [(0, .inr (.inr (.inl (some 94)))), (1, .inl (4, [])), (2, .inr (.inl (0, [(0, 1)]))), (4, .inl (0, [(1, 1)])), (5, .inl (0, [(2, 1)]))] [.inl ((-1), [])] [] [] 3 [] [([], 3, [(0, (-9223372036854775808), 9223372036854775807), (1, (-2147483648), 2147483647), (2, (-2147483648), 2147483647)], [], [], [.inl (0, [])], [])] = true := by decide +kernel
theorem tvK4 {cst : am_K} {strs : List Nat} {Φ : am_Q → Prop} {D : Nat} {M : am_M} {h : am_H} {l : am_L} (c : hp_C cst strs D) (hM : m_P[283]? = some M) (hD : (3 : Int) ≤ (D : Int) + 1) (hy : ly_hy m_tt ly_TH h) (d y s : Int) (x0 : Int32) (hx0 : x0.toInt = (-1)) (b0 : (-9223372036854775808) ≤ d) (t0 : d ≤ 9223372036854775807) (b1 : (-2147483648) ≤ y) (t1 : y ≤ 2147483647) (b2 : (-2147483648) ≤ s) (t2 : s ≤ 2147483647) (l0 : hp_a l 0 94) (l1 : hp_i l 1 4) (l2 : hp_j l 2 (d)) (l4 : hp_i l 4 (y)) (l5 : hp_i l 5 (s)) (r0 : ∀ (h' : am_H) (y0 : Int32), y0.toInt = 0 → ly_hy m_tt ly_TH h' → ly_fr cst [] h h' → h.length ≤ h'.length → Φ (some (.int y0), h', 0, 0)) : hp_F cst strs Φ D M 10 l [.int x0] h := by
  refine hq_arc c hM tvK4_k hD [d, y, s] rfl hy (hp_Bc (z := d) rfl b0 t0 (hp_Bc (z := y) rfl b1 t1 (hp_Bc (z := s) rfl b2 t2 hp_Bn))) hp_Fn hp_Kn (hp_La l0 (hp_Li (z := (4 + 0)) l1 rfl (by omega) (hp_Lj (z := (0 + (1 * d + 0))) l2 rfl (by omega) (hp_Li (z := (0 + (1 * y + 0))) l4 rfl (by omega) (hp_Li (z := (0 + (1 * s + 0))) l5 rfl (by omega) hp_Ln))))) (hp_Si (z := ((-1) + 0)) rfl (by omega) trivial) ?_ ?_
  · intro p_9 hp ys l' st' h' hys a1_9 a2 a3 gZ gL gS
    cases hp
  · intro p_9 hp ys v_9 h' hys a1_9 a2 a3 gZ gS
    rcases List.mem_cons.mp hp with rfl | hp
    · obtain rfl := hp_y0 hys
      cases v_9 with
      | none => cases gS
      | some wz =>
        obtain ⟨y0, t0, s0_9, q0, -⟩ := hp_gSi (z := (0 + 0)) gS rfl
        cases s0_9
        exact r0 h' y0 (by omega) a1_9 a2 a3
    cases hp
theorem tvK5_k : hq_chk [288] 283 10 3 [(0, (-9223372036854775808), 9223372036854775807), (1, (-2147483648), 2147483647), (2, (-2147483648), 2147483647)] [] [(0, .inr (.inr (.inl (some 94)))), (1, .inl (5, [])), (2, .inr (.inl (0, [(0, 1)]))), (4, .inl (0, [(1, 1)])), (5, .inl (0, [(2, 1)]))] [.inl ((-1), [])] [] [] 3 [] [([], 3, [(0, (-9223372036854775808), 9223372036854775807), (1, (-2147483648), 2147483647), (2, (-2147483648), 2147483647)], [], [], [.inl (0, [])], [])] = true := by decide +kernel
theorem tvK5 {cst : am_K} {strs : List Nat} {Φ : am_Q → Prop} {D : Nat} {M : am_M} {h : am_H} {l : am_L} (c : hp_C cst strs D) (hM : m_P[283]? = some M) (hD : (3 : Int) ≤ (D : Int) + 1) (hy : ly_hy m_tt ly_TH h) (d y s : Int) (x0 : Int32) (hx0 : x0.toInt = (-1)) (b0 : (-9223372036854775808) ≤ d) (t0 : d ≤ 9223372036854775807) (b1 : (-2147483648) ≤ y) (t1 : y ≤ 2147483647) (b2 : (-2147483648) ≤ s) (t2 : s ≤ 2147483647) (l0 : hp_a l 0 94) (l1 : hp_i l 1 5) (l2 : hp_j l 2 (d)) (l4 : hp_i l 4 (y)) (l5 : hp_i l 5 (s)) (r0 : ∀ (h' : am_H) (y0 : Int32), y0.toInt = 0 → ly_hy m_tt ly_TH h' → ly_fr cst [] h h' → h.length ≤ h'.length → Φ (some (.int y0), h', 0, 0)) : hp_F cst strs Φ D M 10 l [.int x0] h := by
  refine hq_arc c hM tvK5_k hD [d, y, s] rfl hy (hp_Bc (z := d) rfl b0 t0 (hp_Bc (z := y) rfl b1 t1 (hp_Bc (z := s) rfl b2 t2 hp_Bn))) hp_Fn hp_Kn (hp_La l0 (hp_Li (z := (5 + 0)) l1 rfl (by omega) (hp_Lj (z := (0 + (1 * d + 0))) l2 rfl (by omega) (hp_Li (z := (0 + (1 * y + 0))) l4 rfl (by omega) (hp_Li (z := (0 + (1 * s + 0))) l5 rfl (by omega) hp_Ln))))) (hp_Si (z := ((-1) + 0)) rfl (by omega) trivial) ?_ ?_
  · intro p_9 hp ys l' st' h' hys a1_9 a2 a3 gZ gL gS
    cases hp
  · intro p_9 hp ys v_9 h' hys a1_9 a2 a3 gZ gS
    rcases List.mem_cons.mp hp with rfl | hp
    · obtain rfl := hp_y0 hys
      cases v_9 with
      | none => cases gS
      | some wz =>
        obtain ⟨y0, t0, s0_9, q0, -⟩ := hp_gSi (z := (0 + 0)) gS rfl
        cases s0_9
        exact r0 h' y0 (by omega) a1_9 a2 a3
    cases hp
theorem tvK6_k : hq_chk [288] 283 10 3 [(0, (-9223372036854775808), 9223372036854775807), (1, (-2147483648), 2147483647), (2, (-2147483648), 2147483647)] [] [(0, .inr (.inr (.inl (some 94)))), (1, .inl (6, [])), (2, .inr (.inl (0, [(0, 1)]))), (4, .inl (0, [(1, 1)])), (5, .inl (0, [(2, 1)]))] [.inl ((-1), [])] [] [] 3 [] [([], 3, [(0, (-9223372036854775808), 9223372036854775807), (1, (-2147483648), 2147483647), (2, (-2147483648), 2147483647)], [], [], [.inl (0, [])], [])] = true := by decide +kernel
theorem tvK6 {cst : am_K} {strs : List Nat} {Φ : am_Q → Prop} {D : Nat} {M : am_M} {h : am_H} {l : am_L} (c : hp_C cst strs D) (hM : m_P[283]? = some M) (hD : (3 : Int) ≤ (D : Int) + 1) (hy : ly_hy m_tt ly_TH h) (d y s : Int) (x0 : Int32) (hx0 : x0.toInt = (-1)) (b0 : (-9223372036854775808) ≤ d) (t0 : d ≤ 9223372036854775807) (b1 : (-2147483648) ≤ y) (t1 : y ≤ 2147483647) (b2 : (-2147483648) ≤ s) (t2 : s ≤ 2147483647) (l0 : hp_a l 0 94) (l1 : hp_i l 1 6) (l2 : hp_j l 2 (d)) (l4 : hp_i l 4 (y)) (l5 : hp_i l 5 (s)) (r0 : ∀ (h' : am_H) (y0 : Int32), y0.toInt = 0 → ly_hy m_tt ly_TH h' → ly_fr cst [] h h' → h.length ≤ h'.length → Φ (some (.int y0), h', 0, 0)) : hp_F cst strs Φ D M 10 l [.int x0] h := by
  refine hq_arc c hM tvK6_k hD [d, y, s] rfl hy (hp_Bc (z := d) rfl b0 t0 (hp_Bc (z := y) rfl b1 t1 (hp_Bc (z := s) rfl b2 t2 hp_Bn))) hp_Fn hp_Kn (hp_La l0 (hp_Li (z := (6 + 0)) l1 rfl (by omega) (hp_Lj (z := (0 + (1 * d + 0))) l2 rfl (by omega) (hp_Li (z := (0 + (1 * y + 0))) l4 rfl (by omega) (hp_Li (z := (0 + (1 * s + 0))) l5 rfl (by omega) hp_Ln))))) (hp_Si (z := ((-1) + 0)) rfl (by omega) trivial) ?_ ?_
  · intro p_9 hp ys l' st' h' hys a1_9 a2 a3 gZ gL gS
    cases hp
  · intro p_9 hp ys v_9 h' hys a1_9 a2 a3 gZ gS
    rcases List.mem_cons.mp hp with rfl | hp
    · obtain rfl := hp_y0 hys
      cases v_9 with
      | none => cases gS
      | some wz =>
        obtain ⟨y0, t0, s0_9, q0, -⟩ := hp_gSi (z := (0 + 0)) gS rfl
        cases s0_9
        exact r0 h' y0 (by omega) a1_9 a2 a3
    cases hp
theorem tvK7_k : hq_chk [288] 283 10 3 [(0, (-9223372036854775808), 9223372036854775807), (1, (-2147483648), 2147483647), (2, (-2147483648), 2147483647)] [] [(0, .inr (.inr (.inl (some 94)))), (1, .inl (7, [])), (2, .inr (.inl (0, [(0, 1)]))), (4, .inl (0, [(1, 1)])), (5, .inl (0, [(2, 1)]))] [.inl ((-1), [])] [] [] 3 [] [([], 3, [(0, (-9223372036854775808), 9223372036854775807), (1, (-2147483648), 2147483647), (2, (-2147483648), 2147483647)], [], [], [.inl (6, [])], [])] = true := by decide +kernel
theorem tvK7 {cst : am_K} {strs : List Nat} {Φ : am_Q → Prop} {D : Nat} {M : am_M} {h : am_H} {l : am_L} (c : hp_C cst strs D) (hM : m_P[283]? = some M) (hD : (3 : Int) ≤ (D : Int) + 1) (hy : ly_hy m_tt ly_TH h) (d y s : Int) (x0 : Int32) (hx0 : x0.toInt = (-1)) (b0 : (-9223372036854775808) ≤ d) (t0 : d ≤ 9223372036854775807) (b1 : (-2147483648) ≤ y) (t1 : y ≤ 2147483647) (b2 : (-2147483648) ≤ s) (t2 : s ≤ 2147483647) (l0 : hp_a l 0 94) (l1 : hp_i l 1 7) (l2 : hp_j l 2 (d)) (l4 : hp_i l 4 (y)) (l5 : hp_i l 5 (s)) (r0 : ∀ (h' : am_H) (y0 : Int32), y0.toInt = 6 → ly_hy m_tt ly_TH h' → ly_fr cst [] h h' → h.length ≤ h'.length → Φ (some (.int y0), h', 0, 0)) : hp_F cst strs Φ D M 10 l [.int x0] h := by
  refine hq_arc c hM tvK7_k hD [d, y, s] rfl hy (hp_Bc (z := d) rfl b0 t0 (hp_Bc (z := y) rfl b1 t1 (hp_Bc (z := s) rfl b2 t2 hp_Bn))) hp_Fn hp_Kn (hp_La l0 (hp_Li (z := (7 + 0)) l1 rfl (by omega) (hp_Lj (z := (0 + (1 * d + 0))) l2 rfl (by omega) (hp_Li (z := (0 + (1 * y + 0))) l4 rfl (by omega) (hp_Li (z := (0 + (1 * s + 0))) l5 rfl (by omega) hp_Ln))))) (hp_Si (z := ((-1) + 0)) rfl (by omega) trivial) ?_ ?_
  · intro p_9 hp ys l' st' h' hys a1_9 a2 a3 gZ gL gS
    cases hp
  · intro p_9 hp ys v_9 h' hys a1_9 a2 a3 gZ gS
    rcases List.mem_cons.mp hp with rfl | hp
    · obtain rfl := hp_y0 hys
      cases v_9 with
      | none => cases gS
      | some wz =>
        obtain ⟨y0, t0, s0_9, q0, -⟩ := hp_gSi (z := (6 + 0)) gS rfl
        cases s0_9
        exact r0 h' y0 (by omega) a1_9 a2 a3
    cases hp
theorem tvK8_k : hq_chk [288] 283 10 3 [(0, (-9223372036854775808), 9223372036854775807), (1, (-2147483648), 2147483647), (2, (-2147483648), 2147483647)] [] [(0, .inr (.inr (.inl (some 94)))), (1, .inl (8, [])), (2, .inr (.inl (0, [(0, 1)]))), (4, .inl (0, [(1, 1)])), (5, .inl (0, [(2, 1)]))] [.inl ((-1), [])] [] [] 3 [] [([], 3, [(0, (-9223372036854775808), 9223372036854775807), (1, (-2147483648), 2147483647), (2, (-2147483648), 2147483647)], [], [], [.inl (20, [])], [])] = true := by decide +kernel
theorem tvK8 {cst : am_K} {strs : List Nat} {Φ : am_Q → Prop} {D : Nat} {M : am_M} {h : am_H} {l : am_L} (c : hp_C cst strs D) (hM : m_P[283]? = some M) (hD : (3 : Int) ≤ (D : Int) + 1) (hy : ly_hy m_tt ly_TH h) (d y s : Int) (x0 : Int32) (hx0 : x0.toInt = (-1)) (b0 : (-9223372036854775808) ≤ d) (t0 : d ≤ 9223372036854775807) (b1 : (-2147483648) ≤ y) (t1 : y ≤ 2147483647) (b2 : (-2147483648) ≤ s) (t2 : s ≤ 2147483647) (l0 : hp_a l 0 94) (l1 : hp_i l 1 8) (l2 : hp_j l 2 (d)) (l4 : hp_i l 4 (y)) (l5 : hp_i l 5 (s)) (r0 : ∀ (h' : am_H) (y0 : Int32), y0.toInt = 20 → ly_hy m_tt ly_TH h' → ly_fr cst [] h h' → h.length ≤ h'.length → Φ (some (.int y0), h', 0, 0)) : hp_F cst strs Φ D M 10 l [.int x0] h := by
  refine hq_arc c hM tvK8_k hD [d, y, s] rfl hy (hp_Bc (z := d) rfl b0 t0 (hp_Bc (z := y) rfl b1 t1 (hp_Bc (z := s) rfl b2 t2 hp_Bn))) hp_Fn hp_Kn (hp_La l0 (hp_Li (z := (8 + 0)) l1 rfl (by omega) (hp_Lj (z := (0 + (1 * d + 0))) l2 rfl (by omega) (hp_Li (z := (0 + (1 * y + 0))) l4 rfl (by omega) (hp_Li (z := (0 + (1 * s + 0))) l5 rfl (by omega) hp_Ln))))) (hp_Si (z := ((-1) + 0)) rfl (by omega) trivial) ?_ ?_
  · intro p_9 hp ys l' st' h' hys a1_9 a2 a3 gZ gL gS
    cases hp
  · intro p_9 hp ys v_9 h' hys a1_9 a2 a3 gZ gS
    rcases List.mem_cons.mp hp with rfl | hp
    · obtain rfl := hp_y0 hys
      cases v_9 with
      | none => cases gS
      | some wz =>
        obtain ⟨y0, t0, s0_9, q0, -⟩ := hp_gSi (z := (20 + 0)) gS rfl
        cases s0_9
        exact r0 h' y0 (by omega) a1_9 a2 a3
    cases hp
theorem tvK9_k : hq_chk [288] 283 10 3 [(0, (-9223372036854775808), 9223372036854775807), (1, (-2147483648), 2147483647), (2, (-2147483648), 2147483647)] [] [(0, .inr (.inr (.inl (some 94)))), (1, .inl (9, [])), (2, .inr (.inl (0, [(0, 1)]))), (4, .inl (0, [(1, 1)])), (5, .inl (0, [(2, 1)]))] [.inl ((-1), [])] [] [] 3 [] [([], 3, [(0, (-9223372036854775808), 9223372036854775807), (1, (-2147483648), 2147483647), (2, (-2147483648), 2147483647)], [], [], [.inl (2, [])], [])] = true := by decide +kernel
theorem tvK9 {cst : am_K} {strs : List Nat} {Φ : am_Q → Prop} {D : Nat} {M : am_M} {h : am_H} {l : am_L} (c : hp_C cst strs D) (hM : m_P[283]? = some M) (hD : (3 : Int) ≤ (D : Int) + 1) (hy : ly_hy m_tt ly_TH h) (d y s : Int) (x0 : Int32) (hx0 : x0.toInt = (-1)) (b0 : (-9223372036854775808) ≤ d) (t0 : d ≤ 9223372036854775807) (b1 : (-2147483648) ≤ y) (t1 : y ≤ 2147483647) (b2 : (-2147483648) ≤ s) (t2 : s ≤ 2147483647) (l0 : hp_a l 0 94) (l1 : hp_i l 1 9) (l2 : hp_j l 2 (d)) (l4 : hp_i l 4 (y)) (l5 : hp_i l 5 (s)) (r0 : ∀ (h' : am_H) (y0 : Int32), y0.toInt = 2 → ly_hy m_tt ly_TH h' → ly_fr cst [] h h' → h.length ≤ h'.length → Φ (some (.int y0), h', 0, 0)) : hp_F cst strs Φ D M 10 l [.int x0] h := by
  refine hq_arc c hM tvK9_k hD [d, y, s] rfl hy (hp_Bc (z := d) rfl b0 t0 (hp_Bc (z := y) rfl b1 t1 (hp_Bc (z := s) rfl b2 t2 hp_Bn))) hp_Fn hp_Kn (hp_La l0 (hp_Li (z := (9 + 0)) l1 rfl (by omega) (hp_Lj (z := (0 + (1 * d + 0))) l2 rfl (by omega) (hp_Li (z := (0 + (1 * y + 0))) l4 rfl (by omega) (hp_Li (z := (0 + (1 * s + 0))) l5 rfl (by omega) hp_Ln))))) (hp_Si (z := ((-1) + 0)) rfl (by omega) trivial) ?_ ?_
  · intro p_9 hp ys l' st' h' hys a1_9 a2 a3 gZ gL gS
    cases hp
  · intro p_9 hp ys v_9 h' hys a1_9 a2 a3 gZ gS
    rcases List.mem_cons.mp hp with rfl | hp
    · obtain rfl := hp_y0 hys
      cases v_9 with
      | none => cases gS
      | some wz =>
        obtain ⟨y0, t0, s0_9, q0, -⟩ := hp_gSi (z := (2 + 0)) gS rfl
        cases s0_9
        exact r0 h' y0 (by omega) a1_9 a2 a3
    cases hp
theorem tvK10_k : hq_chk [288] 283 10 3 [(0, (-9223372036854775808), 9223372036854775807), (1, (-2147483648), 2147483647), (2, (-2147483648), 2147483647)] [] [(0, .inr (.inr (.inl (some 94)))), (1, .inl (10, [])), (2, .inr (.inl (0, [(0, 1)]))), (4, .inl (0, [(1, 1)])), (5, .inl (0, [(2, 1)]))] [.inl ((-1), [])] [] [] 3 [] [([], 3, [(0, (-9223372036854775808), 9223372036854775807), (1, (-2147483648), 2147483647), (2, (-2147483648), 2147483647)], [], [], [.inl (2, [])], [])] = true := by decide +kernel
theorem tvK10 {cst : am_K} {strs : List Nat} {Φ : am_Q → Prop} {D : Nat} {M : am_M} {h : am_H} {l : am_L} (c : hp_C cst strs D) (hM : m_P[283]? = some M) (hD : (3 : Int) ≤ (D : Int) + 1) (hy : ly_hy m_tt ly_TH h) (d y s : Int) (x0 : Int32) (hx0 : x0.toInt = (-1)) (b0 : (-9223372036854775808) ≤ d) (t0 : d ≤ 9223372036854775807) (b1 : (-2147483648) ≤ y) (t1 : y ≤ 2147483647) (b2 : (-2147483648) ≤ s) (t2 : s ≤ 2147483647) (l0 : hp_a l 0 94) (l1 : hp_i l 1 10) (l2 : hp_j l 2 (d)) (l4 : hp_i l 4 (y)) (l5 : hp_i l 5 (s)) (r0 : ∀ (h' : am_H) (y0 : Int32), y0.toInt = 2 → ly_hy m_tt ly_TH h' → ly_fr cst [] h h' → h.length ≤ h'.length → Φ (some (.int y0), h', 0, 0)) : hp_F cst strs Φ D M 10 l [.int x0] h := by
  refine hq_arc c hM tvK10_k hD [d, y, s] rfl hy (hp_Bc (z := d) rfl b0 t0 (hp_Bc (z := y) rfl b1 t1 (hp_Bc (z := s) rfl b2 t2 hp_Bn))) hp_Fn hp_Kn (hp_La l0 (hp_Li (z := (10 + 0)) l1 rfl (by omega) (hp_Lj (z := (0 + (1 * d + 0))) l2 rfl (by omega) (hp_Li (z := (0 + (1 * y + 0))) l4 rfl (by omega) (hp_Li (z := (0 + (1 * s + 0))) l5 rfl (by omega) hp_Ln))))) (hp_Si (z := ((-1) + 0)) rfl (by omega) trivial) ?_ ?_
  · intro p_9 hp ys l' st' h' hys a1_9 a2 a3 gZ gL gS
    cases hp
  · intro p_9 hp ys v_9 h' hys a1_9 a2 a3 gZ gS
    rcases List.mem_cons.mp hp with rfl | hp
    · obtain rfl := hp_y0 hys
      cases v_9 with
      | none => cases gS
      | some wz =>
        obtain ⟨y0, t0, s0_9, q0, -⟩ := hp_gSi (z := (2 + 0)) gS rfl
        cases s0_9
        exact r0 h' y0 (by omega) a1_9 a2 a3
    cases hp
theorem tvK11_k : hq_chk [288] 283 10 3 [(0, (-9223372036854775808), 9223372036854775807), (1, (-2147483648), 2147483647), (2, (-2147483648), 2147483647)] [] [(0, .inr (.inr (.inl (some 94)))), (1, .inl (11, [])), (2, .inr (.inl (0, [(0, 1)]))), (4, .inl (0, [(1, 1)])), (5, .inl (0, [(2, 1)]))] [.inl ((-1), [])] [] [] 3 [] [([], 3, [(0, (-9223372036854775808), 9223372036854775807), (1, (-2147483648), 2147483647), (2, (-2147483648), 2147483647)], [], [], [.inl (1, [])], [])] = true := by decide +kernel
theorem tvK11 {cst : am_K} {strs : List Nat} {Φ : am_Q → Prop} {D : Nat} {M : am_M} {h : am_H} {l : am_L} (c : hp_C cst strs D) (hM : m_P[283]? = some M) (hD : (3 : Int) ≤ (D : Int) + 1) (hy : ly_hy m_tt ly_TH h) (d y s : Int) (x0 : Int32) (hx0 : x0.toInt = (-1)) (b0 : (-9223372036854775808) ≤ d) (t0 : d ≤ 9223372036854775807) (b1 : (-2147483648) ≤ y) (t1 : y ≤ 2147483647) (b2 : (-2147483648) ≤ s) (t2 : s ≤ 2147483647) (l0 : hp_a l 0 94) (l1 : hp_i l 1 11) (l2 : hp_j l 2 (d)) (l4 : hp_i l 4 (y)) (l5 : hp_i l 5 (s)) (r0 : ∀ (h' : am_H) (y0 : Int32), y0.toInt = 1 → ly_hy m_tt ly_TH h' → ly_fr cst [] h h' → h.length ≤ h'.length → Φ (some (.int y0), h', 0, 0)) : hp_F cst strs Φ D M 10 l [.int x0] h := by
  refine hq_arc c hM tvK11_k hD [d, y, s] rfl hy (hp_Bc (z := d) rfl b0 t0 (hp_Bc (z := y) rfl b1 t1 (hp_Bc (z := s) rfl b2 t2 hp_Bn))) hp_Fn hp_Kn (hp_La l0 (hp_Li (z := (11 + 0)) l1 rfl (by omega) (hp_Lj (z := (0 + (1 * d + 0))) l2 rfl (by omega) (hp_Li (z := (0 + (1 * y + 0))) l4 rfl (by omega) (hp_Li (z := (0 + (1 * s + 0))) l5 rfl (by omega) hp_Ln))))) (hp_Si (z := ((-1) + 0)) rfl (by omega) trivial) ?_ ?_
  · intro p_9 hp ys l' st' h' hys a1_9 a2 a3 gZ gL gS
    cases hp
  · intro p_9 hp ys v_9 h' hys a1_9 a2 a3 gZ gS
    rcases List.mem_cons.mp hp with rfl | hp
    · obtain rfl := hp_y0 hys
      cases v_9 with
      | none => cases gS
      | some wz =>
        obtain ⟨y0, t0, s0_9, q0, -⟩ := hp_gSi (z := (1 + 0)) gS rfl
        cases s0_9
        exact r0 h' y0 (by omega) a1_9 a2 a3
    cases hp
theorem tvK12_k : hq_chk [288] 283 10 3 [(0, (-9223372036854775808), 9223372036854775807), (1, (-2147483648), 2147483647), (2, (-2147483648), 2147483647)] [] [(0, .inr (.inr (.inl (some 94)))), (1, .inl (12, [])), (2, .inr (.inl (0, [(0, 1)]))), (4, .inl (0, [(1, 1)])), (5, .inl (0, [(2, 1)]))] [.inl ((-1), [])] [] [] 3 [] [([], 3, [(0, (-9223372036854775808), 9223372036854775807), (1, (-2147483648), 2147483647), (2, (-2147483648), 2147483647)], [], [], [.inl (12, [])], [])] = true := by decide +kernel
theorem tvK12 {cst : am_K} {strs : List Nat} {Φ : am_Q → Prop} {D : Nat} {M : am_M} {h : am_H} {l : am_L} (c : hp_C cst strs D) (hM : m_P[283]? = some M) (hD : (3 : Int) ≤ (D : Int) + 1) (hy : ly_hy m_tt ly_TH h) (d y s : Int) (x0 : Int32) (hx0 : x0.toInt = (-1)) (b0 : (-9223372036854775808) ≤ d) (t0 : d ≤ 9223372036854775807) (b1 : (-2147483648) ≤ y) (t1 : y ≤ 2147483647) (b2 : (-2147483648) ≤ s) (t2 : s ≤ 2147483647) (l0 : hp_a l 0 94) (l1 : hp_i l 1 12) (l2 : hp_j l 2 (d)) (l4 : hp_i l 4 (y)) (l5 : hp_i l 5 (s)) (r0 : ∀ (h' : am_H) (y0 : Int32), y0.toInt = 12 → ly_hy m_tt ly_TH h' → ly_fr cst [] h h' → h.length ≤ h'.length → Φ (some (.int y0), h', 0, 0)) : hp_F cst strs Φ D M 10 l [.int x0] h := by
  refine hq_arc c hM tvK12_k hD [d, y, s] rfl hy (hp_Bc (z := d) rfl b0 t0 (hp_Bc (z := y) rfl b1 t1 (hp_Bc (z := s) rfl b2 t2 hp_Bn))) hp_Fn hp_Kn (hp_La l0 (hp_Li (z := (12 + 0)) l1 rfl (by omega) (hp_Lj (z := (0 + (1 * d + 0))) l2 rfl (by omega) (hp_Li (z := (0 + (1 * y + 0))) l4 rfl (by omega) (hp_Li (z := (0 + (1 * s + 0))) l5 rfl (by omega) hp_Ln))))) (hp_Si (z := ((-1) + 0)) rfl (by omega) trivial) ?_ ?_
  · intro p_9 hp ys l' st' h' hys a1_9 a2 a3 gZ gL gS
    cases hp
  · intro p_9 hp ys v_9 h' hys a1_9 a2 a3 gZ gS
    rcases List.mem_cons.mp hp with rfl | hp
    · obtain rfl := hp_y0 hys
      cases v_9 with
      | none => cases gS
      | some wz =>
        obtain ⟨y0, t0, s0_9, q0, -⟩ := hp_gSi (z := (12 + 0)) gS rfl
        cases s0_9
        exact r0 h' y0 (by omega) a1_9 a2 a3
    cases hp
theorem tvK13_k : hq_chk [288] 283 10 3 [(0, (-9223372036854775808), 9223372036854775807), (1, (-2147483648), 2147483647), (2, (-2147483648), 2147483647)] [] [(0, .inr (.inr (.inl (some 94)))), (1, .inl (13, [])), (2, .inr (.inl (0, [(0, 1)]))), (4, .inl (0, [(1, 1)])), (5, .inl (0, [(2, 1)]))] [.inl ((-1), [])] [] [] 3 [] [([], 3, [(0, (-9223372036854775808), 9223372036854775807), (1, (-2147483648), 2147483647), (2, (-2147483648), 2147483647)], [], [], [.inl (0, [])], [])] = true := by decide +kernel
theorem tvK13 {cst : am_K} {strs : List Nat} {Φ : am_Q → Prop} {D : Nat} {M : am_M} {h : am_H} {l : am_L} (c : hp_C cst strs D) (hM : m_P[283]? = some M) (hD : (3 : Int) ≤ (D : Int) + 1) (hy : ly_hy m_tt ly_TH h) (d y s : Int) (x0 : Int32) (hx0 : x0.toInt = (-1)) (b0 : (-9223372036854775808) ≤ d) (t0 : d ≤ 9223372036854775807) (b1 : (-2147483648) ≤ y) (t1 : y ≤ 2147483647) (b2 : (-2147483648) ≤ s) (t2 : s ≤ 2147483647) (l0 : hp_a l 0 94) (l1 : hp_i l 1 13) (l2 : hp_j l 2 (d)) (l4 : hp_i l 4 (y)) (l5 : hp_i l 5 (s)) (r0 : ∀ (h' : am_H) (y0 : Int32), y0.toInt = 0 → ly_hy m_tt ly_TH h' → ly_fr cst [] h h' → h.length ≤ h'.length → Φ (some (.int y0), h', 0, 0)) : hp_F cst strs Φ D M 10 l [.int x0] h := by
  refine hq_arc c hM tvK13_k hD [d, y, s] rfl hy (hp_Bc (z := d) rfl b0 t0 (hp_Bc (z := y) rfl b1 t1 (hp_Bc (z := s) rfl b2 t2 hp_Bn))) hp_Fn hp_Kn (hp_La l0 (hp_Li (z := (13 + 0)) l1 rfl (by omega) (hp_Lj (z := (0 + (1 * d + 0))) l2 rfl (by omega) (hp_Li (z := (0 + (1 * y + 0))) l4 rfl (by omega) (hp_Li (z := (0 + (1 * s + 0))) l5 rfl (by omega) hp_Ln))))) (hp_Si (z := ((-1) + 0)) rfl (by omega) trivial) ?_ ?_
  · intro p_9 hp ys l' st' h' hys a1_9 a2 a3 gZ gL gS
    cases hp
  · intro p_9 hp ys v_9 h' hys a1_9 a2 a3 gZ gS
    rcases List.mem_cons.mp hp with rfl | hp
    · obtain rfl := hp_y0 hys
      cases v_9 with
      | none => cases gS
      | some wz =>
        obtain ⟨y0, t0, s0_9, q0, -⟩ := hp_gSi (z := (0 + 0)) gS rfl
        cases s0_9
        exact r0 h' y0 (by omega) a1_9 a2 a3
    cases hp
/-- the deed that the law is asked for: none from jury on -/
def dz (k d : Int) : Int := if k < 7 then d else 0
theorem q40 {cst : am_K} {h : am_H} {a j : Nat} (hj : j < 40) : ly_hv cst h 62040 (40 * (a : Int) + (j : Int)) = some (a : Int) := by
  have z_9 : ly_hv cst h 62040 (40 * (a : Int) + (j : Int)) = some ((40 * (a : Int) + (j : Int)).tdiv 40) := hp_pure 40 _ (by decide)
  rw [Int.tdiv_eq_ediv_of_nonneg (by omega), show (40 * (a : Int) + (j : Int)) / 40 = (a : Int) by omega] at z_9
  exact z_9
/-- the rows of a clause -/
theorem rc_at {cst : am_K} {h : am_H} {X : List rX} (R : rA cst h X) {a : Nat} (ha : a < X.length) {j : Nat} (hj : j < (X[a]).2.2.1.length) : ly_hv cst h 23552 (40 * (a : Int) + (j : Int)) = some ((X[a]).2.2.1[j]).1 ∧ ly_hv cst h 23808 (40 * (a : Int) + (j : Int)) = some ((X[a]).2.2.1[j]).2.1 ∧ ly_hv cst h 24064 (40 * (a : Int) + (j : Int)) = some (rz_n ((X[a]).2.2.1[j])) ∧ ly_hv cst h 24576 (40 * (a : Int) + (j : Int)) = some (rz_m ((X[a]).2.2.1[j])) := by
  obtain ⟨c1_9, c2_9, c3_9, c4_9, -⟩ := (R.2 a ha).2.1
  have z1 := c1_9 j (by rw [List.length_map]; exact hj)
  have z2 := c2_9 j (by rw [List.length_map]; exact hj)
  have z3 := c3_9 j (by rw [List.length_map]; exact hj)
  have z4 := c4_9 j (by rw [List.length_map]; exact hj)
  rw [List.getElem_map] at z1 z2 z3 z4
  exact ⟨z1, z2, z3, z4⟩
theorem rc_ln {cst : am_K} {h : am_H} {X : List rX} (R : rA cst h X) {a : Nat} (ha : a < X.length) : ly_hv cst h 23296 (a : Int) = some ((X[a]).2.2.1.length : Int) ∧ (X[a]).2.2.1.length ≤ 40 := ⟨(R.2 a ha).1.2.2, (R.2 a ha).2.2.2.2.2.2.1⟩
/-- a clause strikes the act a, or its deed d -/
def sb (d : Int) (a : Nat) (x : cl) : Prop := x.1 = 14 ∧ x.2.2.1 = (a : Int) ∧ (x.2.1 = 0 ∨ x.2.1 = d)
theorem stk_b {X : List rX} {y s d : Int} {a b i : Nat} (hb : b < X.length) (hi : i < (X[b]).2.2.1.length) (ab : a < b) (g : bgn y s (X[b]) = true) (z : sb d a ((X[b]).2.2.1[i])) : stk X y s d a := ⟨b, i, hb, hi, ab, g, z.1, z.2.1, z.2.2⟩
/-- no act from a + 1 up to b strikes -/
def nst (X : List rX) (y s d : Int) (a b : Nat) : Prop := ∀ b' i (hb : b' < X.length) (hi : i < (X[b']).2.2.1.length), a < b' → b' < b → bgn y s (X[b']) = true → ¬ sb d a ((X[b']).2.2.1[i])
theorem nst_0 (X : List rX) (y s d : Int) (a : Nat) : nst X y s d a (a + 1) := fun b' i_9 hb_9 hi_9 h1 h2 => by omega
theorem nst_e {X : List rX} {y s d : Int} {a : Nat} (z : nst X y s d a X.length) : ¬ stk X y s d a := by
  rintro ⟨b_9, i_9, hb_9, hi_9, h1, h2, h3, h4, h5⟩
  exact z b_9 i_9 hb_9 hi_9 h1 hb_9 h2 ⟨h3, h4, h5⟩
theorem nst_n {X : List rX} {y s d : Int} {a b : Nat} (z : nst X y s d a b) (hb : b < X.length) (k : bgn y s (X[b]) = true → ∀ i (hi : i < (X[b]).2.2.1.length), ¬ sb d a ((X[b]).2.2.1[i])) : nst X y s d a (b + 1) := by
  intro b' i hb' hi h1 h2 h3
  by_cases e_9 : b' = b
  · subst e_9
    exact k h3 i hi
  · exact z b' i hb' hi h1 (by omega) h3
set_option maxRecDepth 8000 in
theorem rs_in {cst : am_K} {strs : List Nat} {D : Nat} {M : am_M} {h0 : am_H} (c : hp_C cst strs D) (hM : m_P[287]? = some M) (hD : 1 ≤ D) {X : List rX} (R : rA cst h0 X) (x30 : X.length ≤ 30) {a j : Nat} (ha : a < X.length) (hj : j < (X[a]).2.2.1.length) {y s d : Int} (ed : ((X[a]).2.2.1[j]).2.1 = d) (dd : 7 ≤ ((X[a]).2.2.1[j]).1 → d = 0) (y0 : -2147483648 ≤ y) (y1 : y ≤ 2147483647) (s0 : -2147483648 ≤ s) (s1 : s ≤ 2147483647) {b : Nat} (hb : b < X.length) (ab : a < b) (g : bgn y s (X[b]) = true)
    (kx : ∀ (h : am_H) (l : am_L), ly_hy m_tt ly_TH h → ly_fr cst [] h0 h → (∀ i (hi : i < (X[b]).2.2.1.length), ¬ sb d a ((X[b]).2.2.1[i])) → hp_a l 0 94 → hp_i l 1 (40 * (a : Int) + (j : Int)) → hp_i l 2 y → hp_i l 3 s → hp_i l 4 (a : Int) → hp_i l 5 ((b : Int) + 1) → hp_F cst strs (fun r : am_Q => ∃ w : Int32, r.1 = some (.int w) ∧ r.2.2.1 = 0 ∧ r.2.2.2 = 0 ∧ ly_hy m_tt ly_TH r.2.1 ∧ ly_fr cst [] h0 r.2.1 ∧ ((stk X y s d a ∧ w.toInt = 1) ∨ (¬ stk X y s d a ∧ w.toInt = 0))) D M 12 l [] h) :
    ∀ (Q : Nat) (h : am_H) (l : am_L) (i : Nat), (X[b]).2.2.1.length - i < Q → i ≤ (X[b]).2.2.1.length → ly_hy m_tt ly_TH h → ly_fr cst [] h0 h → (∀ i' (hi : i' < (X[b]).2.2.1.length), i' < i → ¬ sb d a ((X[b]).2.2.1[i'])) → hp_a l 0 94 → hp_i l 1 (40 * (a : Int) + (j : Int)) → hp_i l 2 y → hp_i l 3 s → hp_i l 4 (a : Int) → hp_i l 5 (b : Int) → hp_i l 6 (40 * (b : Int) + (i : Int)) → hp_F cst strs (fun r : am_Q => ∃ w : Int32, r.1 = some (.int w) ∧ r.2.2.1 = 0 ∧ r.2.2.2 = 0 ∧ ly_hy m_tt ly_TH r.2.1 ∧ ly_fr cst [] h0 r.2.1 ∧ ((stk X y s d a ∧ w.toInt = 1) ∨ (¬ stk X y s d a ∧ w.toInt = 0))) D M 42 l [] h := by
  obtain ⟨kA_9, lA⟩ := rc_ln R ha
  obtain ⟨kB_9, lB⟩ := rc_ln R hb
  intro Q
  induction Q with
  | zero => intro h l i hN_9; omega
  | succ Q ih_9 =>
    intro h l i hN_9 hi hy fr_9 no_9 l0 l1 l2 l3 l4 l5 l6
    have kE : ly_hv cst h 23296 (b : Int) = some ((X[b]).2.2.1.length : Int) := fr_9 _ _ _ rfl kB_9
    by_cases z_9 : i = (X[b]).2.2.1.length
    · rw [z_9] at l6
      exact srE c hM (by omega) hy (40 * (a : Int) + (j : Int)) (a : Int) y s (b : Int) ((X[b]).2.2.1.length : Int) (by omega) (by omega) (by omega) (by omega) y0 y1 s0 s1 (by omega) (by omega) (by omega) (by omega) kE l0 l1 l2 l3 l4 l5 l6 (fun l2' h2 u1_9 u2_9 u3 m0_9 m1_9 m2_9 m3_9 m4_9 m5_9 => kx h2 l2' u1_9 (ly_fr_tr fr_9 u2_9) (fun i' hi' => no_9 i' hi' (by omega)) m0_9 m1_9 m2_9 m3_9 m4_9 m5_9)
    have hl : i < (X[b]).2.2.1.length := by omega
    obtain ⟨k1_9, k2_9, k3_9, -⟩ := rc_at R hb hl
    have k1_9 := fr_9 _ _ _ rfl k1_9
    have k2_9 := fr_9 _ _ _ rfl k2_9
    have k3_9 := fr_9 _ _ _ rfl k3_9
    obtain ⟨v_9, kv, v0_9, v1_9⟩ := hp_row (cst := cst) (i := 40 * (b : Int) + (i : Int)) hy (show ly_ths ly_TH 92 = some (.inl (.int, 1240, 0, 14)) from rfl) (by omega) (by omega)
    have kv : ly_hv cst h 23552 (40 * (b : Int) + (i : Int)) = some v_9 := kv
    have ev_9 := Option.some.inj (k1_9.symm.trans kv)
    obtain ⟨v', kv', v0', v1'⟩ := hp_row (cst := cst) (i := 40 * (b : Int) + (i : Int)) hy (show ly_ths ly_TH 94 = some (.inl (.int, 1240, 0, 9999)) from rfl) (by omega) (by omega)
    have kv' : ly_hv cst h 24064 (40 * (b : Int) + (i : Int)) = some v' := kv'
    have ev' := Option.some.inj (k3_9.symm.trans kv')
    obtain ⟨w, kw', w0_9, w1_9⟩ := hp_rowj (cst := cst) (i := 40 * (b : Int) + (i : Int)) hy (show ly_ths ly_TH 93 = some (.inl (.long, 1240, 0, 0)) from rfl) (by omega) (by omega)
    have kw' : ly_hv cst h 23808 (40 * (b : Int) + (i : Int)) = some w := kw'
    have ew := Option.some.inj (k2_9.symm.trans kw')
    have w0_9 : -9223372036854775808 ≤ w := w0_9
    have w1_9 : w ≤ 9223372036854775807 := w1_9
    have nx : ¬ sb d a ((X[b]).2.2.1[i]) → ∀ (l3 : am_L) (h3 : am_H), ly_hy m_tt ly_TH h3 → ly_fr cst [] h h3 → h.length ≤ h3.length → hp_a l3 0 94 → hp_i l3 1 (40 * (a : Int) + (j : Int)) → hp_i l3 2 y → hp_i l3 3 s → hp_i l3 4 (a : Int) → hp_i l3 5 (b : Int) → hp_i l3 6 (40 * (b : Int) + (i : Int) + 1) → hp_F cst strs (fun r : am_Q => ∃ w : Int32, r.1 = some (.int w) ∧ r.2.2.1 = 0 ∧ r.2.2.2 = 0 ∧ ly_hy m_tt ly_TH r.2.1 ∧ ly_fr cst [] h0 r.2.1 ∧ ((stk X y s d a ∧ w.toInt = 1) ∨ (¬ stk X y s d a ∧ w.toInt = 0))) D M 42 l3 [] h3 := fun e_9 l3 h3 u1_9 u2_9 u3 m0_9 m1_9 m2_9 m3_9 m4_9 m5_9 m6_9 => ih_9 h3 l3 (i + 1) (by omega) (by omega) u1_9 (ly_fr_tr fr_9 u2_9) (fun i' hi' t_9 => if w : i' = i then by subst w; exact e_9 else no_9 i' hi' (by omega)) m0_9 m1_9 m2_9 m3_9 m4_9 m5_9 (by rw [show (40 * (b : Int) + ((i + 1 : Nat) : Int)) = 40 * (b : Int) + (i : Int) + 1 by omega]; exact m6_9)
    by_cases e1_9 : ((X[b]).2.2.1[i]).1 = 14
    rotate_left
    · exact srF c hM (by omega) hy (40 * (a : Int) + (j : Int)) (a : Int) y s (b : Int) ((X[b]).2.2.1.length : Int) (i : Int) ((X[b]).2.2.1[i]).1 (by omega) (by omega) (by omega) (by omega) y0 y1 s0 s1 (by omega) (by omega) (by omega) (by omega) (by omega) (by omega) (by omega) (by omega) (by omega) kE k1_9 (hp_ne (by omega)) l0 l1 l2 l3 l4 l5 l6 (nx (fun t_9 => e1_9 t_9.1))
    rw [e1_9] at k1_9
    have er : rz_n ((X[b]).2.2.1[i]) = ((X[b]).2.2.1[i]).2.2.1 := if_neg (by rw [e1_9]; decide)
    rw [er] at k3_9 ev'
    by_cases e2_9 : ((X[b]).2.2.1[i]).2.2.1 = (a : Int)
    rotate_left
    · exact srG c hM (by omega) hy (40 * (a : Int) + (j : Int)) (a : Int) y s (b : Int) ((X[b]).2.2.1.length : Int) (i : Int) ((X[b]).2.2.1[i]).2.2.1 (by omega) (by omega) (by omega) (by omega) y0 y1 s0 s1 (by omega) (by omega) (by omega) (by omega) (by omega) (by omega) (by omega) (by omega) (by omega) kE k1_9 k3_9 (hp_ne (by omega)) l0 l1 l2 l3 l4 l5 l6 (nx (fun t_9 => e2_9 t_9.2.1))
    rw [e2_9] at k3_9
    by_cases e3_9 : ((X[b]).2.2.1[i]).2.1 = 0
    · rw [e3_9] at k2_9
      exact srH c hM (by omega) hy (40 * (a : Int) + (j : Int)) (a : Int) y s (b : Int) ((X[b]).2.2.1.length : Int) (i : Int) (by omega) (by omega) (by omega) (by omega) y0 y1 s0 s1 (by omega) (by omega) (by omega) (by omega) (by omega) (by omega) (by omega) kE k1_9 k3_9 k2_9 l0 l1 l2 l3 l4 l5 l6 (fun h2 w2_9 hw2 u1_9 u2_9 u3 => ⟨w2_9, rfl, rfl, rfl, u1_9, ly_fr_tr fr_9 u2_9, Or.inl ⟨stk_b hb hl ab g ⟨e1_9, e2_9, Or.inl e3_9⟩, hw2⟩⟩)
    obtain ⟨p1_9, p2_9, -⟩ := rc_at R ha hj
    have p1_9 := fr_9 _ _ _ rfl p1_9
    have p2_9 := fr_9 _ _ _ rfl p2_9
    rw [ed] at p2_9
    obtain ⟨q_9, kq, q0, q1_9⟩ := hp_row (cst := cst) (i := 40 * (a : Int) + (j : Int)) hy (show ly_ths ly_TH 92 = some (.inl (.int, 1240, 0, 14)) from rfl) (by omega) (by omega)
    have kq : ly_hv cst h 23552 (40 * (a : Int) + (j : Int)) = some q_9 := kq
    have eq_9 := Option.some.inj (p1_9.symm.trans kq)
    obtain ⟨u_9, ku, u0, u1_9⟩ := hp_rowj (cst := cst) (i := 40 * (a : Int) + (j : Int)) hy (show ly_ths ly_TH 93 = some (.inl (.long, 1240, 0, 0)) from rfl) (by omega) (by omega)
    have ku : ly_hv cst h 23808 (40 * (a : Int) + (j : Int)) = some u_9 := ku
    have eu := Option.some.inj (p2_9.symm.trans ku)
    have u0 : -9223372036854775808 ≤ u_9 := u0
    have u1_9 : u_9 ≤ 9223372036854775807 := u1_9
    by_cases e4_9 : 7 ≤ ((X[a]).2.2.1[j]).1
    · exact srI c hM (by omega) hy (40 * (a : Int) + (j : Int)) (a : Int) y s (b : Int) ((X[b]).2.2.1.length : Int) (i : Int) ((X[b]).2.2.1[i]).2.1 ((X[a]).2.2.1[j]).1 (by omega) (by omega) (by omega) (by omega) y0 y1 s0 s1 (by omega) (by omega) (by omega) (by omega) (by omega) (by omega) (by omega) (by omega) (by omega) (by omega) (by omega) kE k1_9 k3_9 k2_9 (hp_ne e3_9) p1_9 l0 l1 l2 l3 l4 l5 l6 (nx (fun t_9 => t_9.2.2.elim e3_9 (fun t' => e3_9 (by rw [t', dd e4_9]))))
    by_cases e5_9 : ((X[b]).2.2.1[i]).2.1 = d
    · rw [e5_9] at k2_9 e3_9
      exact srK c hM (by omega) hy (40 * (a : Int) + (j : Int)) (a : Int) y s (b : Int) ((X[b]).2.2.1.length : Int) (i : Int) ((X[a]).2.2.1[j]).1 d (by omega) (by omega) (by omega) (by omega) y0 y1 s0 s1 (by omega) (by omega) (by omega) (by omega) (by omega) (by omega) (by omega) (by omega) (by omega) (by omega) (by omega) kE k1_9 k3_9 k2_9 (hp_ne e3_9) p1_9 p2_9 l0 l1 l2 l3 l4 l5 l6 (fun h2 w2_9 hw2 u1_9 u2_9 u3 => ⟨w2_9, rfl, rfl, rfl, u1_9, ly_fr_tr fr_9 u2_9, Or.inl ⟨stk_b hb hl ab g ⟨e1_9, e2_9, Or.inr e5_9⟩, hw2⟩⟩)
    · exact srJ c hM (by omega) hy (40 * (a : Int) + (j : Int)) (a : Int) y s (b : Int) ((X[b]).2.2.1.length : Int) (i : Int) ((X[b]).2.2.1[i]).2.1 ((X[a]).2.2.1[j]).1 d (by omega) (by omega) (by omega) (by omega) y0 y1 s0 s1 (by omega) (by omega) (by omega) (by omega) (by omega) (by omega) (by omega) (by omega) (by omega) (by omega) (by omega) (by omega) (by omega) kE k1_9 k3_9 k2_9 (hp_ne e3_9) p1_9 p2_9 (hp_ne (by omega)) l0 l1 l2 l3 l4 l5 l6 (nx (fun t_9 => t_9.2.2.elim e3_9 e5_9))
set_option maxRecDepth 8000 in
theorem rs_lp {cst : am_K} {strs : List Nat} {D : Nat} {M : am_M} {h0 : am_H} (cc : ∀ d, hp_C cst strs d) (hM : m_P[287]? = some M) (hD : 1 ≤ D) {X : List rX} (R : rA cst h0 X) (x30 : X.length ≤ 30) {a j : Nat} (ha : a < X.length) (hj : j < (X[a]).2.2.1.length) {y s d : Int} (ed : ((X[a]).2.2.1[j]).2.1 = d) (dd : 7 ≤ ((X[a]).2.2.1[j]).1 → d = 0) (y0 : -2147483648 ≤ y) (y1 : y ≤ 2147483647) (s0 : -2147483648 ≤ s) (s1 : s ≤ 2147483647) :
    ∀ (Q : Nat) (h : am_H) (l : am_L) (b : Nat), X.length - b < Q → b ≤ X.length → a < b → ly_hy m_tt ly_TH h → ly_fr cst [] h0 h → nst X y s d a b → hp_a l 0 94 → hp_i l 1 (40 * (a : Int) + (j : Int)) → hp_i l 2 y → hp_i l 3 s → hp_i l 4 (a : Int) → hp_i l 5 (b : Int) → hp_F cst strs (fun r : am_Q => ∃ w : Int32, r.1 = some (.int w) ∧ r.2.2.1 = 0 ∧ r.2.2.2 = 0 ∧ ly_hy m_tt ly_TH r.2.1 ∧ ly_fr cst [] h0 r.2.1 ∧ ((stk X y s d a ∧ w.toInt = 1) ∨ (¬ stk X y s d a ∧ w.toInt = 0))) (D + 1) M 12 l [] h := by
  have c : hp_C cst strs (D + 1) := cc _
  obtain ⟨-, lA⟩ := rc_ln R ha
  intro Q
  induction Q with
  | zero => intro h l b hN_9; omega
  | succ Q ih_9 =>
    intro h l b hN_9 hb_9 ab hy fr_9 no_9 l0 l1 l2 l3 l4 l5
    have kn_9 : ly_hv cst h 19989 0 = some (X.length : Int) := fr_9 _ _ _ rfl R.1
    by_cases z_9 : b = X.length
    · rw [z_9] at l5 no_9
      exact srA c hM (by omega) hy (40 * (a : Int) + (j : Int)) (a : Int) y s (X.length : Int) (by omega) (by omega) (by omega) (by omega) y0 y1 s0 s1 (by omega) (by omega) kn_9 l0 l1 l2 l3 l4 l5 (fun h2 w hw u1_9 u2_9 u3 => ⟨w, rfl, rfl, rfl, u1_9, ly_fr_tr fr_9 u2_9, Or.inr ⟨nst_e no_9, hw⟩⟩)
    have hl : b < X.length := by omega
    refine srB c hM (by omega) hy (40 * (a : Int) + (j : Int)) (a : Int) y s (X.length : Int) (b : Int) (by omega) (by omega) (by omega) (by omega) y0 y1 s0 s1 (by omega) (by omega) (by omega) (by omega) (by omega) kn_9 l0 l1 l2 l3 l4 l5 (fun l1' h1 z0 z1 z2 e0_9 e1_9 e2_9 u1_9 u2_9 u3 m0_9 m1_9 m2_9 m3_9 m4_9 m5_9 => ?_)
    have F1_9 : ly_fr cst [] h0 h1 := ly_fr_tr fr_9 u2_9
    obtain ⟨r, hrun, v_9, r1_9, r2, r3, rhy, rfr, ev_9⟩ := ib_run (D := D) (cc _) hD u1_9 (rA_f3 R F1_9) x30 hl (xa := z2) (xd := z1) (xk := z0) e2_9
    refine hp_call (mi := 287) (pc := 26) (tg := 286) (na := 4) (c := 78) (ci := 12) (st0 := [.int z0, .int z1, .int z2, .ref 94]) (st := []) (av := [.int z2, .int z1, .int z0]) hM (by decide +kernel) u1_9 rfl rfl rfl (by decide) hrun r2 r3 ?_
    rw [r1_9]
    rw [e0_9, e1_9] at ev_9
    have F2 : ly_fr cst [] h0 r.2.1 := ly_fr_tr F1_9 rfr
    have nb : ((b + 1 : Nat) : Int) = (b : Int) + 1 := by omega
    cases g_9 : bgn y s (X[b])
    · rw [g_9] at ev_9
      exact srC c hM (by omega) rhy (40 * (a : Int) + (j : Int)) (a : Int) y s (b : Int) v_9 ev_9 (by omega) (by omega) (by omega) (by omega) y0 y1 s0 s1 (by omega) (by omega) m0_9 m1_9 m2_9 m3_9 m4_9 m5_9 (fun l3 h3 w1_9 w2_9 w3_9 n0_9 n1_9 n2_9 n3_9 n4_9 n5_9 => ih_9 h3 l3 (b + 1) (by omega) (by omega) (by omega) w1_9 (ly_fr_tr F2 w2_9) (nst_n no_9 hl (fun t_9 => by rw [g_9] at t_9; cases t_9)) n0_9 n1_9 n2_9 n3_9 n4_9 (by rw [nb]; exact n5_9))
    · rw [g_9] at ev_9
      refine srD c hM (by omega) rhy (40 * (a : Int) + (j : Int)) (a : Int) y s (b : Int) v_9 ev_9 (by omega) (by omega) (by omega) (by omega) y0 y1 s0 s1 (by omega) (by omega) m0_9 m1_9 m2_9 m3_9 m4_9 m5_9 (fun l3 h3 w1_9 w2_9 w3_9 n0_9 n1_9 n2_9 n3_9 n4_9 n5_9 n6_9 => ?_)
      exact rs_in c hM (by omega) R x30 ha hj ed dd y0 y1 s0 s1 hl ab g_9 (fun h4 l4' v1_9 v2 v3 o0_9 o1 o2 o3_9 o4_9 o5_9 => ih_9 h4 l4' (b + 1) (by omega) (by omega) (by omega) v1_9 v2 (nst_n no_9 hl (fun _ => v3)) o0_9 o1 o2 o3_9 o4_9 (by rw [nb]; exact o5_9)) ((X[b]).2.2.1.length + 1) h3 l3 0 (by omega) (by omega) w1_9 (ly_fr_tr F2 w2_9) (fun i' hi' t_9 => absurd t_9 (Nat.not_lt_zero _)) n0_9 n1_9 n2_9 n3_9 n4_9 n5_9 (by rw [show (40 * (b : Int) + ((0 : Nat) : Int)) = 40 * (b : Int) by omega]; exact n6_9)
/-- isStruck of the reference -/
theorem rs_run {cst : am_K} {strs : List Nat} {D : Nat} {h0 : am_H} (cc : ∀ d, hp_C cst strs d) (hD : 1 ≤ D) (hy : ly_hy m_tt ly_TH h0) {X : List rX} (R : rA cst h0 X) (x30 : X.length ≤ 30) {a j : Nat} (ha : a < X.length) (hj : j < (X[a]).2.2.1.length) {y s d : Int} (ed : ((X[a]).2.2.1[j]).2.1 = d) (dd : 7 ≤ ((X[a]).2.2.1[j]).1 → d = 0) {xc xy xs : Int32} (ec : xc.toInt = 40 * (a : Int) + (j : Int)) (ey : xy.toInt = y) (es : xs.toInt = s) :
    ∃ r, am_Run cst m_cl m_tt m_P strs sx_bi (D + 2) 287 [.ref 94, .int xc, .int xy, .int xs] h0 r ∧ (fun r : am_Q => ∃ w : Int32, r.1 = some (.int w) ∧ r.2.2.1 = 0 ∧ r.2.2.2 = 0 ∧ ly_hy m_tt ly_TH r.2.1 ∧ ly_fr cst [] h0 r.2.1 ∧ ((stk X y s d a ∧ w.toInt = 1) ∨ (¬ stk X y s d a ∧ w.toInt = 0))) r := by
  obtain ⟨M_9, hM_9, hl⟩ := hp_M (mi := 287) (k := 4) (by decide +kernel)
  have c_9 : hp_C cst strs (D + 1) := cc _
  obtain ⟨-, lA⟩ := rc_ln R ha
  have y0 : -2147483648 ≤ y := by rw [← ey]; exact xy.le_toInt
  have y1 : y ≤ 2147483647 := by rw [← ey]; exact xy.toInt_le
  have s0_9 : -2147483648 ≤ s := by rw [← es]; exact xs.le_toInt
  have s1_9 : s ≤ 2147483647 := by rw [← es]; exact xs.toInt_le
  have go_9 : hp_F cst strs (fun r : am_Q => ∃ w : Int32, r.1 = some (.int w) ∧ r.2.2.1 = 0 ∧ r.2.2.2 = 0 ∧ ly_hy m_tt ly_TH r.2.1 ∧ ly_fr cst [] h0 r.2.1 ∧ ((stk X y s d a ∧ w.toInt = 1) ∨ (¬ stk X y s d a ∧ w.toInt = 0))) (D + 1) M_9 0 (lv_args 0 [.ref 94, .int xc, .int xy, .int xs]) [] h0 := sr0 c_9 hM_9 (by omega) hy (40 * (a : Int) + (j : Int)) (a : Int) y s (by omega) (by omega) (by omega) (by omega) y0 y1 s0_9 s1_9 (q40 (by omega)) rfl ⟨xc, rfl, ec⟩ ⟨xy, rfl, ey⟩ ⟨xs, rfl, es⟩ (fun l1 h1 u1_9 u2_9 u3 m0_9 m1_9 m2_9 m3_9 m4_9 m5_9 => rs_lp cc hM_9 hD R x30 ha hj ed dd y0 y1 s0_9 s1_9 (X.length + 1) h1 l1 (a + 1) (by omega) (by omega) (by omega) u1_9 u2_9 (nst_0 X y s d a) m0_9 m1_9 m2_9 m3_9 m4_9 (by rw [show ((a + 1 : Nat) : Int) = (a : Int) + 1 by omega]; exact m5_9))
  obtain ⟨n', r, hgo, w, r1_9, r2, r3, r4⟩ := go_9
  simp only [Nat.zero_add] at r2 r3
  exact ⟨r, Or.inr ⟨M_9, n', hM_9, hl, hgo⟩, w, r1_9, r2, r3, r4⟩
set_option maxRecDepth 8000 in
theorem co_lp {cst : am_K} {strs : List Nat} {D : Nat} {M : am_M} {h0 : am_H} (cc : ∀ d, hp_C cst strs d) (hM : m_P[285]? = some M) (hD : 1 ≤ D) {X : List rX} (R : rA cst h0 X) (x30 : X.length ≤ 30) {a : Nat} (ha : a < X.length) (wd : wD (X[a]).2.2.1) {y s k d : Int} (k0 : 0 ≤ k) (k1 : k ≤ 13) (d0 : -9223372036854775808 ≤ d) (d1 : d ≤ 9223372036854775807) (y0 : -2147483648 ≤ y) (y1 : y ≤ 2147483647) (s0 : -2147483648 ≤ s) (s1 : s ≤ 2147483647) (g : bgn y s (X[a]) = true) :
    ∀ (Q : Nat) (h : am_H) (l : am_L) (i : Nat), (X[a]).2.2.1.length - i < Q → i ≤ (X[a]).2.2.1.length → ly_hy m_tt ly_TH h → ly_fr cst [] h0 h → (∀ i' (hi : i' < (X[a]).2.2.1.length), i' < i → ¬ (((X[a]).2.2.1[i']).1 = k ∧ ((X[a]).2.2.1[i']).2.1 = dz k d)) → hp_a l 0 94 → hp_i l 1 (a : Int) → hp_i l 2 k → hp_j l 3 d → hp_i l 5 y → hp_i l 6 s → hp_i l 7 (40 * (a : Int) + (i : Int)) → hp_F cst strs (fun r : am_Q => ∃ w : Int32, r.1 = some (.int w) ∧ r.2.2.1 = 0 ∧ r.2.2.2 = 0 ∧ ly_hy m_tt ly_TH r.2.1 ∧ ly_fr cst [] h0 r.2.1 ∧ ((∃ j, hol X k (dz k d) y s a j ∧ w.toInt = 40 * (a : Int) + (j : Int)) ∨ ((∀ j, ¬ hol X k (dz k d) y s a j) ∧ w.toInt = -1))) (D + 2) M 20 l [] h := by
  have c : hp_C cst strs (D + 2) := cc _
  obtain ⟨kA_9, lA⟩ := rc_ln R ha
  intro Q
  induction Q with
  | zero => intro h l i hN_9; omega
  | succ Q ih_9 =>
    intro h l i hN_9 hi hy fr_9 no_9 l0 l1 l2 l3 l5 l6 l7
    have kE : ly_hv cst h 23296 (a : Int) = some ((X[a]).2.2.1.length : Int) := fr_9 _ _ _ rfl kA_9
    by_cases z_9 : i = (X[a]).2.2.1.length
    · rw [z_9] at l7
      exact co3 c hM (by omega) hy (a : Int) k d y s ((X[a]).2.2.1.length : Int) (by omega) (by omega) k0 k1 d0 d1 y0 y1 s0 s1 (by omega) (by omega) kE l0 l1 l2 l3 l5 l6 l7 (fun h2 w hw u1_9 u2_9 u3 => ⟨w, rfl, rfl, rfl, u1_9, ly_fr_tr fr_9 u2_9, Or.inr ⟨fun j t_9 => by
        obtain ⟨_, _, ⟨hj, t1_9, t2_9, _⟩, _⟩ := t_9
        exact no_9 j hj (by omega) ⟨t1_9, t2_9⟩, hw⟩⟩)
    have hl : i < (X[a]).2.2.1.length := by omega
    obtain ⟨p1_9, p2_9, -⟩ := rc_at R ha hl
    have p1_9 := fr_9 _ _ _ rfl p1_9
    have p2_9 := fr_9 _ _ _ rfl p2_9
    obtain ⟨v_9, kv, v0_9, v1_9⟩ := hp_row (cst := cst) (i := 40 * (a : Int) + (i : Int)) hy (show ly_ths ly_TH 92 = some (.inl (.int, 1240, 0, 14)) from rfl) (by omega) (by omega)
    have kv : ly_hv cst h 23552 (40 * (a : Int) + (i : Int)) = some v_9 := kv
    have ev_9 := Option.some.inj (p1_9.symm.trans kv)
    obtain ⟨w, kw', w0_9, w1_9⟩ := hp_rowj (cst := cst) (i := 40 * (a : Int) + (i : Int)) hy (show ly_ths ly_TH 93 = some (.inl (.long, 1240, 0, 0)) from rfl) (by omega) (by omega)
    have kw' : ly_hv cst h 23808 (40 * (a : Int) + (i : Int)) = some w := kw'
    have ew := Option.some.inj (p2_9.symm.trans kw')
    have w0_9 : -9223372036854775808 ≤ w := w0_9
    have w1_9 : w ≤ 9223372036854775807 := w1_9
    have nx : ¬ (((X[a]).2.2.1[i]).1 = k ∧ ((X[a]).2.2.1[i]).2.1 = dz k d) → ∀ (l3 : am_L) (h3 : am_H), ly_hy m_tt ly_TH h3 → ly_fr cst [] h h3 → h.length ≤ h3.length → hp_a l3 0 94 → hp_i l3 1 (a : Int) → hp_i l3 2 k → hp_j l3 3 d → hp_i l3 5 y → hp_i l3 6 s → hp_i l3 7 (40 * (a : Int) + (i : Int) + 1) → hp_F cst strs (fun r : am_Q => ∃ w : Int32, r.1 = some (.int w) ∧ r.2.2.1 = 0 ∧ r.2.2.2 = 0 ∧ ly_hy m_tt ly_TH r.2.1 ∧ ly_fr cst [] h0 r.2.1 ∧ ((∃ j, hol X k (dz k d) y s a j ∧ w.toInt = 40 * (a : Int) + (j : Int)) ∨ ((∀ j, ¬ hol X k (dz k d) y s a j) ∧ w.toInt = -1))) (D + 2) M 20 l3 [] h3 := fun e_9 l3 h3 u1_9 u2_9 u3 m0_9 m1_9 m2_9 m3_9 m5_9 m6_9 m7_9 => ih_9 h3 l3 (i + 1) (by omega) (by omega) u1_9 (ly_fr_tr fr_9 u2_9) (fun i' hi' t_9 => if w : i' = i then by subst w; exact e_9 else no_9 i' hi' (by omega)) m0_9 m1_9 m2_9 m3_9 m5_9 m6_9 (by rw [show (40 * (a : Int) + ((i + 1 : Nat) : Int)) = 40 * (a : Int) + (i : Int) + 1 by omega]; exact m7_9)
    by_cases e1_9 : ((X[a]).2.2.1[i]).1 = k
    rotate_left
    · exact co4 c hM (by omega) hy (a : Int) k d y s ((X[a]).2.2.1.length : Int) (i : Int) ((X[a]).2.2.1[i]).1 (by omega) (by omega) k0 k1 d0 d1 y0 y1 s0 s1 (by omega) (by omega) (by omega) (by omega) (by omega) (by omega) (by omega) kE p1_9 (hp_ne (by omega)) l0 l1 l2 l3 l5 l6 l7 (nx (fun t_9 => e1_9 t_9.1))
    rw [e1_9] at p1_9
    have hit_9 : ((X[a]).2.2.1[i]).2.1 = dz k d → ∀ (l3 : am_L) (h3 : am_H) (z0 z1 z2 : Int32), z0.toInt = s → z1.toInt = y → z2.toInt = 40 * (a : Int) + (i : Int) → ly_hy m_tt ly_TH h3 → ly_fr cst [] h h3 → h.length ≤ h3.length → hp_a l3 0 94 → hp_i l3 1 (a : Int) → hp_i l3 2 k → hp_j l3 3 d → hp_i l3 5 y → hp_i l3 6 s → hp_i l3 7 (40 * (a : Int) + (i : Int)) → hp_F cst strs (fun r : am_Q => ∃ w : Int32, r.1 = some (.int w) ∧ r.2.2.1 = 0 ∧ r.2.2.2 = 0 ∧ ly_hy m_tt ly_TH r.2.1 ∧ ly_fr cst [] h0 r.2.1 ∧ ((∃ j, hol X k (dz k d) y s a j ∧ w.toInt = 40 * (a : Int) + (j : Int)) ∨ ((∀ j, ¬ hol X k (dz k d) y s a j) ∧ w.toInt = -1))) (D + 2) M 72 l3 [.int z0, .int z1, .int z2, .ref 94] h3 := by
      intro e2_9 l3 h3 z0 z1 z2 f0_9 f1_9 f2_9 u1_9 u2_9 u3 m0_9 m1_9 m2_9 m3_9 m5_9 m6_9 m7_9
      have F3 : ly_fr cst [] h0 h3 := ly_fr_tr fr_9 u2_9
      obtain ⟨r, hrun, w, r1_9, r2, r3, rhy, rfr, rres⟩ := rs_run (D := D) cc hD u1_9 (rA_f3 R F3) x30 ha hl (y := y) (s := s) (d := dz k d) e2_9 (fun t_9 => by rw [e1_9] at t_9; unfold dz; rw [if_neg (by omega)]) (xc := z2) (xy := z1) (xs := z0) f2_9 f1_9 f0_9
      refine hp_call (mi := 285) (pc := 72) (tg := 287) (na := 4) (c := 78) (ci := 12) (st0 := [.int z0, .int z1, .int z2, .ref 94]) (st := []) (av := [.int z2, .int z1, .int z0]) hM (by decide +kernel) u1_9 rfl rfl rfl (by decide) hrun r2 r3 ?_
      rw [r1_9]
      have F4 : ly_fr cst [] h0 r.2.1 := ly_fr_tr F3 rfr
      have fc_9 : fcl k (dz k d) (X[a]).2.2.1 i := ⟨hl, e1_9, e2_9, fun i' hi' t_9 => no_9 i' hi' t_9⟩
      rcases rres with ⟨sk, ew⟩ | ⟨sk, ew⟩
      · exact co8 c hM (by omega) rhy (a : Int) k d y s (i : Int) w ew (by omega) (by omega) k0 k1 d0 d1 y0 y1 s0 s1 (by omega) (by omega) m0_9 m1_9 m2_9 m3_9 m5_9 m6_9 m7_9 (fun h5 w5 hw5 v1_9 v2 v3 => ⟨w5, rfl, rfl, rfl, v1_9, ly_fr_tr F4 v2, Or.inr ⟨fun j t_9 => by
          obtain ⟨_, _, _, t4_9⟩ := t_9
          exact t4_9 sk, hw5⟩⟩)
      · exact co9 c hM (by omega) rhy (a : Int) k d y s (i : Int) w ew (by omega) (by omega) k0 k1 d0 d1 y0 y1 s0 s1 (by omega) (by omega) m0_9 m1_9 m2_9 m3_9 m5_9 m6_9 m7_9 (fun h5 w5 hw5 v1_9 v2 v3 => ⟨w5, rfl, rfl, rfl, v1_9, ly_fr_tr F4 v2, Or.inl ⟨i, ⟨ha, g, fc_9, sk⟩, hw5⟩⟩)
    by_cases q_9 : k ≤ 6
    · have ez : dz k d = d := if_pos (by omega)
      by_cases e2_9 : ((X[a]).2.2.1[i]).2.1 = d
      · rw [e2_9] at p2_9
        exact co6 c hM (by omega) hy (a : Int) k d y s ((X[a]).2.2.1.length : Int) (i : Int) (by omega) (by omega) k0 q_9 d0 d1 y0 y1 s0 s1 (by omega) (by omega) (by omega) (by omega) (by omega) kE p1_9 p2_9 l0 l1 l2 l3 l5 l6 l7 (hit_9 (by rw [ez]; exact e2_9))
      · exact co5 c hM (by omega) hy (a : Int) k d y s ((X[a]).2.2.1.length : Int) (i : Int) ((X[a]).2.2.1[i]).2.1 (by omega) (by omega) k0 q_9 d0 d1 y0 y1 s0 s1 (by omega) (by omega) (by omega) (by omega) (by omega) (by omega) (by omega) kE p1_9 p2_9 (hp_ne (by omega)) l0 l1 l2 l3 l5 l6 l7 (nx (fun t_9 => e2_9 (by rw [ez] at t_9; exact t_9.2)))
    · have ez : dz k d = 0 := if_neg (by omega)
      exact co7 c hM (by omega) hy (a : Int) k d y s ((X[a]).2.2.1.length : Int) (i : Int) (by omega) (by omega) (by omega) k1 d0 d1 y0 y1 s0 s1 (by omega) (by omega) (by omega) (by omega) (by omega) kE p1_9 l0 l1 l2 l3 l5 l6 l7 (hit_9 (by rw [ez]; exact wd _ (List.getElem_mem hl) (by omega) (by omega)))
/-- clauseOf of the reference -/
theorem co_run {cst : am_K} {strs : List Nat} {D : Nat} {h0 : am_H} (cc : ∀ d, hp_C cst strs d) (hD : 1 ≤ D) (hy : ly_hy m_tt ly_TH h0) {X : List rX} (R : rA cst h0 X) (x30 : X.length ≤ 30) {a : Nat} (ha : a < X.length) (wd : wD (X[a]).2.2.1) {y s k d : Int} (k0 : 0 ≤ k) (k1 : k ≤ 13) {xa xk xy xs : Int32} {xd : Int64} (ea : xa.toInt = (a : Int)) (ek : xk.toInt = k) (ed : xd.toInt = d) (ey : xy.toInt = y) (es : xs.toInt = s) :
    ∃ r, am_Run cst m_cl m_tt m_P strs sx_bi (D + 3) 285 [.ref 94, .int xa, .int xk, .long xd, .int xy, .int xs] h0 r ∧ (fun r : am_Q => ∃ w : Int32, r.1 = some (.int w) ∧ r.2.2.1 = 0 ∧ r.2.2.2 = 0 ∧ ly_hy m_tt ly_TH r.2.1 ∧ ly_fr cst [] h0 r.2.1 ∧ ((∃ j, hol X k (dz k d) y s a j ∧ w.toInt = 40 * (a : Int) + (j : Int)) ∨ ((∀ j, ¬ hol X k (dz k d) y s a j) ∧ w.toInt = -1))) r := by
  obtain ⟨M_9, hM_9, hl⟩ := hp_M (mi := 285) (k := 7) (by decide +kernel)
  have c : hp_C cst strs (D + 2) := cc _
  have d0_9 : -9223372036854775808 ≤ d := by rw [← ed]; exact xd.le_toInt
  have d1_9 : d ≤ 9223372036854775807 := by rw [← ed]; exact xd.toInt_le
  have y0 : -2147483648 ≤ y := by rw [← ey]; exact xy.le_toInt
  have y1 : y ≤ 2147483647 := by rw [← ey]; exact xy.toInt_le
  have s0_9 : -2147483648 ≤ s := by rw [← es]; exact xs.le_toInt
  have s1_9 : s ≤ 2147483647 := by rw [← es]; exact xs.toInt_le
  have go_9 : hp_F cst strs (fun r : am_Q => ∃ w : Int32, r.1 = some (.int w) ∧ r.2.2.1 = 0 ∧ r.2.2.2 = 0 ∧ ly_hy m_tt ly_TH r.2.1 ∧ ly_fr cst [] h0 r.2.1 ∧ ((∃ j, hol X k (dz k d) y s a j ∧ w.toInt = 40 * (a : Int) + (j : Int)) ∨ ((∀ j, ¬ hol X k (dz k d) y s a j) ∧ w.toInt = -1))) (D + 2) M_9 0 (lv_args 0 [.ref 94, .int xa, .int xk, .long xd, .int xy, .int xs]) [] h0 := by
    refine co0 c hM_9 (by omega) hy (a : Int) k d y s (by omega) (by omega) k0 k1 d0_9 d1_9 y0 y1 s0_9 s1_9 rfl ⟨xa, rfl, ea⟩ ⟨xk, rfl, ek⟩ ⟨xd, rfl, ed⟩ ⟨xy, rfl, ey⟩ ⟨xs, rfl, es⟩ (fun l1 h1 z0 z1 z2 e0_9 e1_9 e2_9 u1_9 u2_9 u3 m0_9 m1_9 m2_9 m3_9 m5_9 m6_9 => ?_)
    obtain ⟨r, hrun, v_9, r1_9, r2, r3, rhy, rfr, ev_9⟩ := ib_run (D := D + 1) (cc _) (by omega) u1_9 (rA_f3 R u2_9) x30 ha (xa := z2) (xd := z1) (xk := z0) e2_9
    refine hp_call (mi := 285) (pc := 6) (tg := 286) (na := 4) (c := 78) (ci := 12) (st0 := [.int z0, .int z1, .int z2, .ref 94]) (st := []) (av := [.int z2, .int z1, .int z0]) hM_9 (by decide +kernel) u1_9 rfl rfl rfl (by decide) hrun r2 r3 ?_
    rw [r1_9]
    rw [e0_9, e1_9] at ev_9
    have F2 : ly_fr cst [] h0 r.2.1 := ly_fr_tr u2_9 rfr
    cases g_9 : bgn y s (X[a])
    · rw [g_9] at ev_9
      exact co1 c hM_9 (by omega) rhy (a : Int) k d y s v_9 ev_9 (by omega) (by omega) k0 k1 d0_9 d1_9 y0 y1 s0_9 s1_9 m0_9 m1_9 m2_9 m3_9 m5_9 m6_9 (fun h3 w hw w1_9 w2_9 w3_9 => ⟨w, rfl, rfl, rfl, w1_9, ly_fr_tr F2 w2_9, Or.inr ⟨fun j t_9 => by
        obtain ⟨_, t1_9, _⟩ := t_9
        rw [g_9] at t1_9
        exact absurd t1_9 (by decide), hw⟩⟩)
    · rw [g_9] at ev_9
      exact co2 c hM_9 (by omega) rhy (a : Int) k d y s v_9 ev_9 (by omega) (by omega) k0 k1 d0_9 d1_9 y0 y1 s0_9 s1_9 m0_9 m1_9 m2_9 m3_9 m5_9 m6_9 (fun l3 h3 w1_9 w2_9 w3_9 n0_9 n1_9 n2_9 n3_9 n5_9 n6_9 n7 => co_lp cc hM_9 hD R x30 ha wd k0 k1 d0_9 d1_9 y0 y1 s0_9 s1_9 g_9 ((X[a]).2.2.1.length + 1) h3 l3 0 (by omega) (by omega) w1_9 (ly_fr_tr F2 w2_9) (fun i' hi' t_9 => absurd t_9 (Nat.not_lt_zero _)) n0_9 n1_9 n2_9 n3_9 n5_9 n6_9 (by rw [show (40 * (a : Int) + ((0 : Nat) : Int)) = 40 * (a : Int) by omega]; exact n7))
  obtain ⟨n', r, hgo, w, r1_9, r2, r3, r4⟩ := go_9
  simp only [Nat.zero_add] at r2 r3
  exact ⟨r, Or.inr ⟨M_9, n', hM_9, hl, hgo⟩, w, r1_9, r2, r3, r4⟩
set_option maxRecDepth 8000 in
theorem lo_lp {cst : am_K} {strs : List Nat} {D : Nat} {M : am_M} {h0 : am_H} (cc : ∀ d, hp_C cst strs d) (hM : m_P[284]? = some M) (hD : 1 ≤ D) {X : List rX} (R : rA cst h0 X) (x30 : X.length ≤ 30) (wd : ∀ a (ha : a < X.length), wD (X[a]).2.2.1) {y s k d : Int} (k0 : 0 ≤ k) (k1 : k ≤ 13) (d0 : -9223372036854775808 ≤ d) (d1 : d ≤ 9223372036854775807) (y0 : -2147483648 ≤ y) (y1 : y ≤ 2147483647) (s0 : -2147483648 ≤ s) (s1 : s ≤ 2147483647) : ∀ (m : Nat) (h : am_H) (l : am_L), m ≤ X.length → ly_hy m_tt ly_TH h → ly_fr cst [] h0 h → (∀ a' j', m ≤ a' → ¬ hol X k (dz k d) y s a' j') → hp_a l 0 94 → hp_i l 1 k → hp_j l 2 d → hp_i l 4 y → hp_i l 5 s → hp_i l 6 ((m : Int) - 1) → hp_F cst strs (fun r : am_Q => ∃ w : Int32, r.1 = some (.int w) ∧ r.2.2.1 = 0 ∧ r.2.2.2 = 0 ∧ ly_hy m_tt ly_TH r.2.1 ∧ ly_fr cst [] h0 r.2.1 ∧ ((∃ a j, inF X k (dz k d) y s a j ∧ w.toInt = 40 * (a : Int) + (j : Int)) ∨ (noF X k (dz k d) y s ∧ w.toInt = -1))) (D + 3) M 8 l [] h := by
  have c : hp_C cst strs (D + 3) := cc _
  intro m
  induction m with
  | zero =>
    intro h l hm_9 hy fr_9 no_9 l0 l1 l2 l4 l5 l6
    exact lo1 c hM (by omega) hy k d y s k0 k1 d0 d1 y0 y1 s0 s1 l0 l1 l2 l4 l5 l6 (fun h2 w hw u1_9 u2_9 u3 => ⟨w, rfl, rfl, rfl, u1_9, ly_fr_tr fr_9 u2_9, Or.inr ⟨fun a j => no_9 a j (Nat.zero_le _), hw⟩⟩)
  | succ m ih_9 =>
    intro h l hm_9 hy fr_9 no_9 l0 l1 l2 l4 l5 l6
    rw [show ((m + 1 : Nat) : Int) - 1 = (m : Int) by omega] at l6
    refine lo2 c hM (by omega) hy k d y s (m : Int) k0 k1 d0 d1 y0 y1 s0 s1 (by omega) (by omega) l0 l1 l2 l4 l5 l6 (fun l1' h1 z0 z1 z2 z3 z4 e0_9 e1_9 e2_9 e3_9 e4_9 u1_9 u2_9 u3 m0_9 m1_9 m2_9 m4_9 m5_9 m6_9 => ?_)
    have F1_9 : ly_fr cst [] h0 h1 := ly_fr_tr fr_9 u2_9
    have hm' : m < X.length := by omega
    obtain ⟨r, hrun, w, r1_9, r2, r3, rhy, rfr, rres⟩ := co_run (D := D) cc hD u1_9 (rA_f3 R F1_9) x30 hm' (wd m hm') (y := y) (s := s) (k := k) (d := d) k0 k1 (xa := z4) (xk := z3) (xd := z2) (xy := z1) (xs := z0) e4_9 e3_9 e2_9 e1_9 e0_9
    refine hp_call (mi := 284) (pc := 22) (tg := 285) (na := 6) (c := 78) (ci := 12) (st0 := [.int z0, .int z1, .long z2, .int z3, .int z4, .ref 94]) (st := []) (av := [.int z4, .int z3, .long z2, .int z1, .int z0]) hM (by decide +kernel) u1_9 rfl rfl rfl (by decide) hrun r2 r3 ?_
    rw [r1_9]
    have F2 : ly_fr cst [] h0 r.2.1 := ly_fr_tr F1_9 rfr
    rcases rres with ⟨j, hj, ew⟩ | ⟨nh, ew⟩
    · obtain ⟨ha, -, ⟨hl, -⟩, -⟩ := id hj
      have lA := (rc_ln R ha).2
      exact lo4 c hM (by omega) rhy k d y s (m : Int) (40 * (m : Int) + (j : Int)) w ew k0 k1 d0 d1 y0 y1 s0 s1 (by omega) (by omega) (by omega) (by omega) m0_9 m1_9 m2_9 m4_9 m5_9 m6_9 (fun h3 w3_9 hw3 v1_9 v2 v3 => ⟨w3_9, rfl, rfl, rfl, v1_9, ly_fr_tr F2 v2, Or.inl ⟨m, j, ⟨hj, fun a' j' lt_9 => no_9 a' j' lt_9⟩, hw3⟩⟩)
    · exact lo3 c hM (by omega) rhy k d y s (m : Int) w ew k0 k1 d0 d1 y0 y1 s0 s1 (by omega) (by omega) m0_9 m1_9 m2_9 m4_9 m5_9 m6_9 (fun l3 h3 v1_9 v2 v3 o0_9 o1 o2 o4_9 o5_9 o6 => ih_9 h3 l3 (by omega) v1_9 (ly_fr_tr F2 v2) (fun a' j' lt_9 => if z : a' = m then by subst z; exact nh j' else no_9 a' j' (by omega)) o0_9 o1 o2 o4_9 o5_9 o6)
/-- lawOf of the reference -/
theorem lo_run {cst : am_K} {strs : List Nat} {D : Nat} {h0 : am_H} (cc : ∀ d, hp_C cst strs d) (hD : 1 ≤ D) (hy : ly_hy m_tt ly_TH h0) {X : List rX} (R : rA cst h0 X) (x30 : X.length ≤ 30) (wd : ∀ a (ha : a < X.length), wD (X[a]).2.2.1) {y s k d : Int} (k0 : 0 ≤ k) (k1 : k ≤ 13) {xk xy xs : Int32} {xd : Int64} (ek : xk.toInt = k) (ed : xd.toInt = d) (ey : xy.toInt = y) (es : xs.toInt = s) :
    ∃ r, am_Run cst m_cl m_tt m_P strs sx_bi (D + 4) 284 [.ref 94, .int xk, .long xd, .int xy, .int xs] h0 r ∧ (fun r : am_Q => ∃ w : Int32, r.1 = some (.int w) ∧ r.2.2.1 = 0 ∧ r.2.2.2 = 0 ∧ ly_hy m_tt ly_TH r.2.1 ∧ ly_fr cst [] h0 r.2.1 ∧ ((∃ a j, inF X k (dz k d) y s a j ∧ w.toInt = 40 * (a : Int) + (j : Int)) ∨ (noF X k (dz k d) y s ∧ w.toInt = -1))) r := by
  obtain ⟨M_9, hM_9, hl⟩ := hp_M (mi := 284) (k := 6) (by decide +kernel)
  have c_9 : hp_C cst strs (D + 3) := cc _
  have d0_9 : -9223372036854775808 ≤ d := by rw [← ed]; exact xd.le_toInt
  have d1_9 : d ≤ 9223372036854775807 := by rw [← ed]; exact xd.toInt_le
  have y0 : -2147483648 ≤ y := by rw [← ey]; exact xy.le_toInt
  have y1 : y ≤ 2147483647 := by rw [← ey]; exact xy.toInt_le
  have s0_9 : -2147483648 ≤ s := by rw [← es]; exact xs.le_toInt
  have s1_9 : s ≤ 2147483647 := by rw [← es]; exact xs.toInt_le
  have go_9 : hp_F cst strs (fun r : am_Q => ∃ w : Int32, r.1 = some (.int w) ∧ r.2.2.1 = 0 ∧ r.2.2.2 = 0 ∧ ly_hy m_tt ly_TH r.2.1 ∧ ly_fr cst [] h0 r.2.1 ∧ ((∃ a j, inF X k (dz k d) y s a j ∧ w.toInt = 40 * (a : Int) + (j : Int)) ∨ (noF X k (dz k d) y s ∧ w.toInt = -1))) (D + 3) M_9 0 (lv_args 0 [.ref 94, .int xk, .long xd, .int xy, .int xs]) [] h0 := lo0 c_9 hM_9 (by omega) hy k d y s (X.length : Int) k0 k1 d0_9 d1_9 y0 y1 s0_9 s1_9 (by omega) (by omega) R.1 rfl ⟨xk, rfl, ek⟩ ⟨xd, rfl, ed⟩ ⟨xy, rfl, ey⟩ ⟨xs, rfl, es⟩ (fun l1 h1 u1_9 u2_9 u3 m0_9 m1_9 m2_9 m4_9 m5_9 m6_9 => lo_lp cc hM_9 hD R x30 wd k0 k1 d0_9 d1_9 y0 y1 s0_9 s1_9 X.length h1 l1 (Nat.le_refl _) u1_9 u2_9 (fun a' j' lt_9 t_9 => by
      obtain ⟨ha, -⟩ := t_9
      omega) m0_9 m1_9 m2_9 m4_9 m5_9 m6_9)
  obtain ⟨n', r, hgo, w, r1_9, r2, r3, r4⟩ := go_9
  simp only [Nat.zero_add] at r2 r3
  exact ⟨r, Or.inr ⟨M_9, n', hM_9, hl, hgo⟩, w, r1_9, r2, r3, r4⟩
/-- tellsAt of the reference -/
theorem tv_run {cst : am_K} {strs : List Nat} {D : Nat} {h0 : am_H} (cc : ∀ d, hp_C cst strs d) (hD : 1 ≤ D) (hy : ly_hy m_tt ly_TH h0) {X : List rX} (R : rA cst h0 X) (x30 : X.length ≤ 30) (wd : ∀ a (ha : a < X.length), wD (X[a]).2.2.1) {y s k d : Int} (k0 : 0 ≤ k) (k1 : k ≤ 13) {xk xy xs : Int32} {xd : Int64} (ek : xk.toInt = k) (ed : xd.toInt = d) (ey : xy.toInt = y) (es : xs.toInt = s) :
    ∃ r, am_Run cst m_cl m_tt m_P strs sx_bi (D + 5) 283 [.ref 94, .int xk, .long xd, .int xy, .int xs] h0 r ∧ (fun r : am_Q => ∃ w : Int32, r.1 = some (.int w) ∧ r.2.2.1 = 0 ∧ r.2.2.2 = 0 ∧ ly_hy m_tt ly_TH r.2.1 ∧ ly_fr cst [] h0 r.2.1 ∧ ((∃ (a j : Nat) (ha : a < X.length) (hj : j < (X[a]).2.2.1.length), inF X k (dz k d) y s a j ∧ w.toInt = ((X[a]).2.2.1[j]).2.2.1) ∨ (noF X k (dz k d) y s ∧ w.toInt = nwo k))) r := by
  obtain ⟨M_9, hM_9, hl⟩ := hp_M (mi := 283) (k := 6) (by decide +kernel)
  have c : hp_C cst strs (D + 4) := cc _
  have d0_9 : -9223372036854775808 ≤ d := by rw [← ed]; exact xd.le_toInt
  have d1_9 : d ≤ 9223372036854775807 := by rw [← ed]; exact xd.toInt_le
  have y0 : -2147483648 ≤ y := by rw [← ey]; exact xy.le_toInt
  have y1 : y ≤ 2147483647 := by rw [← ey]; exact xy.toInt_le
  have s0_9 : -2147483648 ≤ s := by rw [← es]; exact xs.le_toInt
  have s1_9 : s ≤ 2147483647 := by rw [← es]; exact xs.toInt_le
  have go_9 : hp_F cst strs (fun r : am_Q => ∃ w : Int32, r.1 = some (.int w) ∧ r.2.2.1 = 0 ∧ r.2.2.2 = 0 ∧ ly_hy m_tt ly_TH r.2.1 ∧ ly_fr cst [] h0 r.2.1 ∧ ((∃ (a j : Nat) (ha : a < X.length) (hj : j < (X[a]).2.2.1.length), inF X k (dz k d) y s a j ∧ w.toInt = ((X[a]).2.2.1[j]).2.2.1) ∨ (noF X k (dz k d) y s ∧ w.toInt = nwo k))) (D + 4) M_9 0 (lv_args 0 [.ref 94, .int xk, .long xd, .int xy, .int xs]) [] h0 := by
    refine tv0 c hM_9 (by omega) hy k d y s k0 k1 d0_9 d1_9 y0 y1 s0_9 s1_9 rfl ⟨xk, rfl, ek⟩ ⟨xd, rfl, ed⟩ ⟨xy, rfl, ey⟩ ⟨xs, rfl, es⟩ (fun l1 h1 z0 z1 z2 z3 e0_9 e1_9 e2_9 e3_9 u1_9 u2_9 u3 m0_9 m1_9 m2_9 m4_9 m5_9 => ?_)
    obtain ⟨r, hrun, w, r1_9, r2, r3, rhy, rfr, rres⟩ := lo_run (D := D) cc hD u1_9 (rA_f3 R u2_9) x30 wd (y := y) (s := s) (k := k) (d := d) k0 k1 (xk := z3) (xd := z2) (xy := z1) (xs := z0) e3_9 e2_9 e1_9 e0_9
    refine hp_call (mi := 283) (pc := 7) (tg := 284) (na := 5) (c := 78) (ci := 12) (st0 := [.int z0, .int z1, .long z2, .int z3, .ref 94]) (st := []) (av := [.int z3, .long z2, .int z1, .int z0]) hM_9 (by decide +kernel) u1_9 rfl rfl rfl (by decide) hrun r2 r3 ?_
    rw [r1_9]
    have F2 : ly_fr cst [] h0 r.2.1 := ly_fr_tr u2_9 rfr
    rcases rres with ⟨a, j, hf, ew⟩ | ⟨nf_9, ew⟩
    · obtain ⟨⟨ha, -, ⟨hj, ek', -⟩, -⟩, -⟩ := id hf
      have lA := (rc_ln R ha).2
      obtain ⟨-, -, k3_9, k4_9⟩ := rc_at R ha hj
      have k3_9 := F2 _ _ _ rfl k3_9
      have k4_9 := F2 _ _ _ rfl k4_9
      by_cases q_9 : k ≤ 1
      · have er : rz_m ((X[a]).2.2.1[j]) = ((X[a]).2.2.1[j]).2.2.1 := if_pos (by rw [ek']; omega)
        rw [er] at k4_9
        obtain ⟨v_9, kv, v0_9, v1_9⟩ := hp_row (cst := cst) (i := 40 * (a : Int) + (j : Int)) rhy (show ly_ths ly_TH 96 = some (.inl (.int, 1240, 0, 20)) from rfl) (by omega) (by omega)
        have kv : ly_hv cst r.2.1 24576 (40 * (a : Int) + (j : Int)) = some v_9 := kv
        have ev_9 := Option.some.inj (k4_9.symm.trans kv)
        exact tv1 c hM_9 (by omega) rhy k d y s (40 * (a : Int) + (j : Int)) ((X[a]).2.2.1[j]).2.2.1 w ew k0 q_9 d0_9 d1_9 y0 y1 s0_9 s1_9 (by omega) (by omega) (by omega) (by omega) k4_9 m0_9 m1_9 m2_9 m4_9 m5_9 (fun h3 w3_9 hw3 v1_9 v2 v3 => ⟨w3_9, rfl, rfl, rfl, v1_9, ly_fr_tr F2 v2, Or.inl ⟨a, j, ha, hj, hf, hw3⟩⟩)
      · have er : rz_n ((X[a]).2.2.1[j]) = ((X[a]).2.2.1[j]).2.2.1 := if_neg (by rw [ek']; omega)
        rw [er] at k3_9
        obtain ⟨v_9, kv, v0_9, v1_9⟩ := hp_row (cst := cst) (i := 40 * (a : Int) + (j : Int)) rhy (show ly_ths ly_TH 94 = some (.inl (.int, 1240, 0, 9999)) from rfl) (by omega) (by omega)
        have kv : ly_hv cst r.2.1 24064 (40 * (a : Int) + (j : Int)) = some v_9 := kv
        have ev_9 := Option.some.inj (k3_9.symm.trans kv)
        exact tv2 c hM_9 (by omega) rhy k d y s (40 * (a : Int) + (j : Int)) ((X[a]).2.2.1[j]).2.2.1 w ew (by omega) k1 d0_9 d1_9 y0 y1 s0_9 s1_9 (by omega) (by omega) (by omega) (by omega) k3_9 m0_9 m1_9 m2_9 m4_9 m5_9 (fun h3 w3_9 hw3 v1_9 v2 v3 => ⟨w3_9, rfl, rfl, rfl, v1_9, ly_fr_tr F2 v2, Or.inl ⟨a, j, ha, hj, hf, hw3⟩⟩)
    by_cases q0 : k = 0
    · rw [q0] at m1_9
      exact tvK0 c hM_9 (by omega) rhy d y s w ew d0_9 d1_9 y0 y1 s0_9 s1_9 m0_9 m1_9 m2_9 m4_9 m5_9 (fun h3 w3_9 hw3 v1_9 v2 v3 => ⟨w3_9, rfl, rfl, rfl, v1_9, ly_fr_tr F2 v2, Or.inr ⟨nf_9, by rw [hw3, q0]; decide⟩⟩)
    by_cases q1_9 : k = 1
    · rw [q1_9] at m1_9
      exact tvK1 c hM_9 (by omega) rhy d y s w ew d0_9 d1_9 y0 y1 s0_9 s1_9 m0_9 m1_9 m2_9 m4_9 m5_9 (fun h3 w3_9 hw3 v1_9 v2 v3 => ⟨w3_9, rfl, rfl, rfl, v1_9, ly_fr_tr F2 v2, Or.inr ⟨nf_9, by rw [hw3, q1_9]; decide⟩⟩)
    by_cases q2_9 : k = 2
    · rw [q2_9] at m1_9
      exact tvK2 c hM_9 (by omega) rhy d y s w ew d0_9 d1_9 y0 y1 s0_9 s1_9 m0_9 m1_9 m2_9 m4_9 m5_9 (fun h3 w3_9 hw3 v1_9 v2 v3 => ⟨w3_9, rfl, rfl, rfl, v1_9, ly_fr_tr F2 v2, Or.inr ⟨nf_9, by rw [hw3, q2_9]; decide⟩⟩)
    by_cases q3_9 : k = 3
    · rw [q3_9] at m1_9
      exact tvK3 c hM_9 (by omega) rhy d y s w ew d0_9 d1_9 y0 y1 s0_9 s1_9 m0_9 m1_9 m2_9 m4_9 m5_9 (fun h3 w3_9 hw3 v1_9 v2 v3 => ⟨w3_9, rfl, rfl, rfl, v1_9, ly_fr_tr F2 v2, Or.inr ⟨nf_9, by rw [hw3, q3_9]; decide⟩⟩)
    by_cases q4_9 : k = 4
    · rw [q4_9] at m1_9
      exact tvK4 c hM_9 (by omega) rhy d y s w ew d0_9 d1_9 y0 y1 s0_9 s1_9 m0_9 m1_9 m2_9 m4_9 m5_9 (fun h3 w3_9 hw3 v1_9 v2 v3 => ⟨w3_9, rfl, rfl, rfl, v1_9, ly_fr_tr F2 v2, Or.inr ⟨nf_9, by rw [hw3, q4_9]; decide⟩⟩)
    by_cases q5_9 : k = 5
    · rw [q5_9] at m1_9
      exact tvK5 c hM_9 (by omega) rhy d y s w ew d0_9 d1_9 y0 y1 s0_9 s1_9 m0_9 m1_9 m2_9 m4_9 m5_9 (fun h3 w3_9 hw3 v1_9 v2 v3 => ⟨w3_9, rfl, rfl, rfl, v1_9, ly_fr_tr F2 v2, Or.inr ⟨nf_9, by rw [hw3, q5_9]; decide⟩⟩)
    by_cases q6_9 : k = 6
    · rw [q6_9] at m1_9
      exact tvK6 c hM_9 (by omega) rhy d y s w ew d0_9 d1_9 y0 y1 s0_9 s1_9 m0_9 m1_9 m2_9 m4_9 m5_9 (fun h3 w3_9 hw3 v1_9 v2 v3 => ⟨w3_9, rfl, rfl, rfl, v1_9, ly_fr_tr F2 v2, Or.inr ⟨nf_9, by rw [hw3, q6_9]; decide⟩⟩)
    by_cases q7_9 : k = 7
    · rw [q7_9] at m1_9
      exact tvK7 c hM_9 (by omega) rhy d y s w ew d0_9 d1_9 y0 y1 s0_9 s1_9 m0_9 m1_9 m2_9 m4_9 m5_9 (fun h3 w3_9 hw3 v1_9 v2 v3 => ⟨w3_9, rfl, rfl, rfl, v1_9, ly_fr_tr F2 v2, Or.inr ⟨nf_9, by rw [hw3, q7_9]; decide⟩⟩)
    by_cases q8_9 : k = 8
    · rw [q8_9] at m1_9
      exact tvK8 c hM_9 (by omega) rhy d y s w ew d0_9 d1_9 y0 y1 s0_9 s1_9 m0_9 m1_9 m2_9 m4_9 m5_9 (fun h3 w3_9 hw3 v1_9 v2 v3 => ⟨w3_9, rfl, rfl, rfl, v1_9, ly_fr_tr F2 v2, Or.inr ⟨nf_9, by rw [hw3, q8_9]; decide⟩⟩)
    by_cases q9_9 : k = 9
    · rw [q9_9] at m1_9
      exact tvK9 c hM_9 (by omega) rhy d y s w ew d0_9 d1_9 y0 y1 s0_9 s1_9 m0_9 m1_9 m2_9 m4_9 m5_9 (fun h3 w3_9 hw3 v1_9 v2 v3 => ⟨w3_9, rfl, rfl, rfl, v1_9, ly_fr_tr F2 v2, Or.inr ⟨nf_9, by rw [hw3, q9_9]; decide⟩⟩)
    by_cases q10_9 : k = 10
    · rw [q10_9] at m1_9
      exact tvK10 c hM_9 (by omega) rhy d y s w ew d0_9 d1_9 y0 y1 s0_9 s1_9 m0_9 m1_9 m2_9 m4_9 m5_9 (fun h3 w3_9 hw3 v1_9 v2 v3 => ⟨w3_9, rfl, rfl, rfl, v1_9, ly_fr_tr F2 v2, Or.inr ⟨nf_9, by rw [hw3, q10_9]; decide⟩⟩)
    by_cases q11_9 : k = 11
    · rw [q11_9] at m1_9
      exact tvK11 c hM_9 (by omega) rhy d y s w ew d0_9 d1_9 y0 y1 s0_9 s1_9 m0_9 m1_9 m2_9 m4_9 m5_9 (fun h3 w3_9 hw3 v1_9 v2 v3 => ⟨w3_9, rfl, rfl, rfl, v1_9, ly_fr_tr F2 v2, Or.inr ⟨nf_9, by rw [hw3, q11_9]; decide⟩⟩)
    by_cases q12_9 : k = 12
    · rw [q12_9] at m1_9
      exact tvK12 c hM_9 (by omega) rhy d y s w ew d0_9 d1_9 y0 y1 s0_9 s1_9 m0_9 m1_9 m2_9 m4_9 m5_9 (fun h3 w3_9 hw3 v1_9 v2 v3 => ⟨w3_9, rfl, rfl, rfl, v1_9, ly_fr_tr F2 v2, Or.inr ⟨nf_9, by rw [hw3, q12_9]; decide⟩⟩)
    by_cases q13_9 : k = 13
    · rw [q13_9] at m1_9
      exact tvK13 c hM_9 (by omega) rhy d y s w ew d0_9 d1_9 y0 y1 s0_9 s1_9 m0_9 m1_9 m2_9 m4_9 m5_9 (fun h3 w3_9 hw3 v1_9 v2 v3 => ⟨w3_9, rfl, rfl, rfl, v1_9, ly_fr_tr F2 v2, Or.inr ⟨nf_9, by rw [hw3, q13_9]; decide⟩⟩)
    omega
  obtain ⟨n', r, hgo, w, r1_9, r2, r3, r4⟩ := go_9
  simp only [Nat.zero_add] at r2 r3
  exact ⟨r, Or.inr ⟨M_9, n', hM_9, hl, hgo⟩, w, r1_9, r2, r3, r4⟩
