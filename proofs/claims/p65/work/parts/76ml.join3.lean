/-! PRINTED by wip/p2/hp_join3.py: join's rows of the reference, exactly -/
theorem jx0_1_k : hp_chk 411 286 12 [(0, 0, 10), (1, 0, 10), (2, 0, 10), (3, 0, 10), (4, 0, 10), (5, 0, 10), (6, 0, 12), (7, 0, 360), (8, 0, 29), (9, 0, 2147483647), (10, 0, 2147483647), (11, 0, 2147483647)] [((-1), [(0, (-1)), (3, 1)]), ((-1), [(1, (-1)), (4, 1)]), ((-1), [(2, (-1)), (5, 1)])] [(0, .inr (.inr (.inl (some 94)))), (1, .inl (0, [(0, 1)])), (2, .inl (0, [(1, 1)])), (3, .inl (0, [(2, 1)])), (4, .inl (0, [])), (5, .inl (0, [])), (6, .inl (7, []))] [.inl (0, [(6, 1)])] [(44288, (0, []), (0, [(3, 1)])), (44288, (1, []), (0, [(4, 1)])), (44288, (2, []), (0, [(5, 1)])), (45056, (133, [(0, 121), (1, 11), (2, 1)]), (0, [(7, 1)])), (45056, (0, [(0, 121), (1, 11), (2, 1)]), (0, [(6, 1), (7, 1)])), (20104, (0, []), (0, [(8, 1)])), (44032, (0, [(0, 1)]), (0, [(9, 1)])), (44032, (10, [(1, 1)]), (0, [(10, 1)])), (44032, (20, [(2, 1)]), (0, [(11, 1)]))] [] 5 [(438, ([], 12, [(0, 0, 10), (1, 0, 10), (2, 0, 10), (3, 0, 10), (4, 0, 10), (5, 0, 10), (6, 0, 12), (7, 0, 360), (8, 0, 29), (9, 0, 2147483647), (10, 0, 2147483647), (11, 0, 2147483647)], [], [(0, .inr (.inr (.inl (some 94)))), (1, .inl (0, [(0, 1)])), (2, .inl (0, [(1, 1)])), (3, .inl (0, [(2, 1)])), (4, .inl (7, [])), (5, .inl (0, [(9, 1)])), (6, .inl (0, [(10, 1)])), (7, .inl (0, [(11, 1)]))], [.inl (0, [(0, 1)]), .inl (0, [(8, 3)]), .inr (.inr (.inl (some 190)))], [(20104, (0, []), (0, [(8, 1)]))]))] [] = true := by decide +kernel
theorem jx0_1 {cst : am_K} {strs : List Nat} {Φ : am_Q → Prop} {D : Nat} {M : am_M} {h : am_H} {l : am_L} (c : hp_C cst strs D) (hM : m_P[411]? = some M) (hD : (5 : Int) ≤ (D : Int) + 1) (hy : ly_hy m_tt ly_TH h) (a b d ma mb md k y n u v w : Int) (x0 : Int32) (hx0 : x0.toInt = (k)) (b0 : 0 ≤ a) (t0 : a ≤ 10) (b1 : 0 ≤ b) (t1 : b ≤ 10) (b2 : 0 ≤ d) (t2 : d ≤ 10) (b3 : 0 ≤ ma) (t3 : ma ≤ 10) (b4 : 0 ≤ mb) (t4 : mb ≤ 10) (b5 : 0 ≤ md) (t5 : md ≤ 10) (b6 : 0 ≤ k) (t6 : k ≤ 12) (b7 : 0 ≤ y) (t7 : y ≤ 360) (b8 : 0 ≤ n) (t8 : n ≤ 29) (b9 : 0 ≤ u) (t9 : u ≤ 2147483647) (b10 : 0 ≤ v) (t10 : v ≤ 2147483647) (b11 : 0 ≤ w) (t11 : w ≤ 2147483647) (f0 : 0 ≤ (ma - a - 1)) (f1 : 0 ≤ (mb - b - 1)) (f2 : 0 ≤ (md - d - 1)) (k0 : ly_hv cst h 44288 0 = some (ma)) (k1 : ly_hv cst h 44288 1 = some (mb)) (k2 : ly_hv cst h 44288 2 = some (md)) (k3 : ly_hv cst h 45056 (121 * a + 11 * b + d + 133) = some (y)) (k4 : ly_hv cst h 45056 (121 * a + 11 * b + d) = some (k + y)) (k5 : ly_hv cst h 20104 0 = some (n)) (k6 : ly_hv cst h 44032 (a) = some (u)) (k7 : ly_hv cst h 44032 (b + 10) = some (v)) (k8 : ly_hv cst h 44032 (d + 20) = some (w)) (l0 : hp_a l 0 94) (l1 : hp_i l 1 (a)) (l2 : hp_i l 2 (b)) (l3 : hp_i l 3 (d)) (l4 : hp_i l 4 0) (l5 : hp_i l 5 0) (l6 : hp_i l 6 7) (e0 : ∀ (l' : am_L) (h' : am_H) (y0 : Int32) (y1 : Int32), y0.toInt = (a) → y1.toInt = (3 * n) → ly_hy m_tt ly_TH h' → ly_fr cst [] h h' → h.length ≤ h'.length → ly_hv cst h' 20104 0 = some (n) → hp_a l' 0 94 → hp_i l' 1 (a) → hp_i l' 2 (b) → hp_i l' 3 (d) → hp_i l' 4 7 → hp_i l' 5 (u) → hp_i l' 6 (v) → hp_i l' 7 (w) → hp_F cst strs Φ D M 438 l' [.int y0, .int y1, .ref 190] h') : hp_F cst strs Φ D M 286 l [.int x0] h := by
  refine hp_arc c hM jx0_1_k hD [a, b, d, ma, mb, md, k, y, n, u, v, w] rfl hy (hp_Bc (z := a) rfl b0 t0 (hp_Bc (z := b) rfl b1 t1 (hp_Bc (z := d) rfl b2 t2 (hp_Bc (z := ma) rfl b3 t3 (hp_Bc (z := mb) rfl b4 t4 (hp_Bc (z := md) rfl b5 t5 (hp_Bc (z := k) rfl b6 t6 (hp_Bc (z := y) rfl b7 t7 (hp_Bc (z := n) rfl b8 t8 (hp_Bc (z := u) rfl b9 t9 (hp_Bc (z := v) rfl b10 t10 (hp_Bc (z := w) rfl b11 t11 hp_Bn)))))))))))) (hp_Fc (z := ((-1) + ((-1) * a + (1 * ma + 0)))) rfl (by omega) (hp_Fc (z := ((-1) + ((-1) * b + (1 * mb + 0)))) rfl (by omega) (hp_Fc (z := ((-1) + ((-1) * d + (1 * md + 0)))) rfl (by omega) hp_Fn))) (hp_Kc (zi := (0 + 0)) (zv := (0 + (1 * ma + 0))) k0 rfl rfl (by omega) (by omega) (hp_Kc (zi := (1 + 0)) (zv := (0 + (1 * mb + 0))) k1 rfl rfl (by omega) (by omega) (hp_Kc (zi := (2 + 0)) (zv := (0 + (1 * md + 0))) k2 rfl rfl (by omega) (by omega) (hp_Kc (zi := (133 + (121 * a + (11 * b + (1 * d + 0))))) (zv := (0 + (1 * y + 0))) k3 rfl rfl (by omega) (by omega) (hp_Kc (zi := (0 + (121 * a + (11 * b + (1 * d + 0))))) (zv := (0 + (1 * k + (1 * y + 0)))) k4 rfl rfl (by omega) (by omega) (hp_Kc (zi := (0 + 0)) (zv := (0 + (1 * n + 0))) k5 rfl rfl (by omega) (by omega) (hp_Kc (zi := (0 + (1 * a + 0))) (zv := (0 + (1 * u + 0))) k6 rfl rfl (by omega) (by omega) (hp_Kc (zi := (10 + (1 * b + 0))) (zv := (0 + (1 * v + 0))) k7 rfl rfl (by omega) (by omega) (hp_Kc (zi := (20 + (1 * d + 0))) (zv := (0 + (1 * w + 0))) k8 rfl rfl (by omega) (by omega) hp_Kn))))))))) (hp_La l0 (hp_Li (z := (0 + (1 * a + 0))) l1 rfl (by omega) (hp_Li (z := (0 + (1 * b + 0))) l2 rfl (by omega) (hp_Li (z := (0 + (1 * d + 0))) l3 rfl (by omega) (hp_Li (z := (0 + 0)) l4 rfl (by omega) (hp_Li (z := (0 + 0)) l5 rfl (by omega) (hp_Li (z := (7 + 0)) l6 rfl (by omega) hp_Ln))))))) (hp_Si (z := (0 + (1 * k + 0))) rfl (by omega) trivial) ?_ ?_
  · intro p hp ys l' st' h' hys a1 a2 a3 gZ gL gS
    rcases List.mem_cons.mp hp with rfl | hp
    · obtain rfl := hp_y0 hys
      obtain ⟨y0, t0, rfl, q0, g0⟩ := hp_gSi (z := (0 + (1 * a + 0))) gS rfl
      obtain ⟨y1, t1, rfl, q1, g1⟩ := hp_gSi (z := (0 + (3 * n + 0))) g0 rfl
      obtain ⟨t2, rfl, g2⟩ := hp_gSa g1 (by decide)
      cases hp_gSn g2
      exact e0 l' h' y0 y1 (by omega) (by omega) a1 a2 a3 (hp_gK (zi := (0 + 0)) (zv := (0 + (1 * n + 0))) gZ.2.2.2 (List.mem_of_getElem? (i := 0) rfl) rfl rfl (by omega) (by omega)) (hp_gLa gL (List.mem_of_getElem? (i := 0) rfl) (by decide)) (hp_gLi (z := (0 + (1 * a + 0))) gL (List.mem_of_getElem? (i := 1) rfl) rfl (by omega)) (hp_gLi (z := (0 + (1 * b + 0))) gL (List.mem_of_getElem? (i := 2) rfl) rfl (by omega)) (hp_gLi (z := (0 + (1 * d + 0))) gL (List.mem_of_getElem? (i := 3) rfl) rfl (by omega)) (hp_gLi (z := (7 + 0)) gL (List.mem_of_getElem? (i := 4) rfl) rfl (by omega)) (hp_gLi (z := (0 + (1 * u + 0))) gL (List.mem_of_getElem? (i := 5) rfl) rfl (by omega)) (hp_gLi (z := (0 + (1 * v + 0))) gL (List.mem_of_getElem? (i := 6) rfl) rfl (by omega)) (hp_gLi (z := (0 + (1 * w + 0))) gL (List.mem_of_getElem? (i := 7) rfl) rfl (by omega))
    cases hp
  · intro p hp ys v h' hys a1 a2 a3 gZ gS
    cases hp
theorem jx0_2_k : hp_chk 411 439 7 [(0, 0, 10), (1, 0, 10), (2, 0, 10), (3, 0, 29), (4, 0, 2147483647), (5, 0, 2147483647), (6, 0, 2147483647)] [] [(0, .inr (.inr (.inl (some 94)))), (1, .inl (0, [(0, 1)])), (2, .inl (0, [(1, 1)])), (3, .inl (0, [(2, 1)])), (4, .inl (7, [])), (5, .inl (0, [(4, 1)])), (6, .inl (0, [(5, 1)])), (7, .inl (0, [(6, 1)]))] [] [(20104, (0, []), (0, [(3, 1)]))] [] 5 [(465, ([], 7, [(0, 0, 10), (1, 0, 10), (2, 0, 10), (3, 0, 29), (4, 0, 2147483647), (5, 0, 2147483647), (6, 0, 2147483647)], [], [(0, .inr (.inr (.inl (some 94)))), (1, .inl (0, [(0, 1)])), (2, .inl (0, [(1, 1)])), (3, .inl (0, [(2, 1)])), (4, .inl (7, [])), (5, .inl (0, [(4, 1)])), (6, .inl (0, [(5, 1)])), (7, .inl (0, [(6, 1)]))], [.inl (0, [(1, 1)]), .inl (1, [(3, 3)]), .inr (.inr (.inl (some 190)))], [(20104, (0, []), (0, [(3, 1)]))]))] [] = true := by decide +kernel
theorem jx0_2 {cst : am_K} {strs : List Nat} {Φ : am_Q → Prop} {D : Nat} {M : am_M} {h : am_H} {l : am_L} (c : hp_C cst strs D) (hM : m_P[411]? = some M) (hD : (5 : Int) ≤ (D : Int) + 1) (hy : ly_hy m_tt ly_TH h) (a b d n u v w : Int) (b0 : 0 ≤ a) (t0 : a ≤ 10) (b1 : 0 ≤ b) (t1 : b ≤ 10) (b2 : 0 ≤ d) (t2 : d ≤ 10) (b3 : 0 ≤ n) (t3 : n ≤ 29) (b4 : 0 ≤ u) (t4 : u ≤ 2147483647) (b5 : 0 ≤ v) (t5 : v ≤ 2147483647) (b6 : 0 ≤ w) (t6 : w ≤ 2147483647) (k0 : ly_hv cst h 20104 0 = some (n)) (l0 : hp_a l 0 94) (l1 : hp_i l 1 (a)) (l2 : hp_i l 2 (b)) (l3 : hp_i l 3 (d)) (l4 : hp_i l 4 7) (l5 : hp_i l 5 (u)) (l6 : hp_i l 6 (v)) (l7 : hp_i l 7 (w)) (e0 : ∀ (l' : am_L) (h' : am_H) (y0 : Int32) (y1 : Int32), y0.toInt = (b) → y1.toInt = (3 * n + 1) → ly_hy m_tt ly_TH h' → ly_fr cst [] h h' → h.length ≤ h'.length → ly_hv cst h' 20104 0 = some (n) → hp_a l' 0 94 → hp_i l' 1 (a) → hp_i l' 2 (b) → hp_i l' 3 (d) → hp_i l' 4 7 → hp_i l' 5 (u) → hp_i l' 6 (v) → hp_i l' 7 (w) → hp_F cst strs Φ D M 465 l' [.int y0, .int y1, .ref 190] h') : hp_F cst strs Φ D M 439 l [] h := by
  refine hp_arc c hM jx0_2_k hD [a, b, d, n, u, v, w] rfl hy (hp_Bc (z := a) rfl b0 t0 (hp_Bc (z := b) rfl b1 t1 (hp_Bc (z := d) rfl b2 t2 (hp_Bc (z := n) rfl b3 t3 (hp_Bc (z := u) rfl b4 t4 (hp_Bc (z := v) rfl b5 t5 (hp_Bc (z := w) rfl b6 t6 hp_Bn))))))) hp_Fn (hp_Kc (zi := (0 + 0)) (zv := (0 + (1 * n + 0))) k0 rfl rfl (by omega) (by omega) hp_Kn) (hp_La l0 (hp_Li (z := (0 + (1 * a + 0))) l1 rfl (by omega) (hp_Li (z := (0 + (1 * b + 0))) l2 rfl (by omega) (hp_Li (z := (0 + (1 * d + 0))) l3 rfl (by omega) (hp_Li (z := (7 + 0)) l4 rfl (by omega) (hp_Li (z := (0 + (1 * u + 0))) l5 rfl (by omega) (hp_Li (z := (0 + (1 * v + 0))) l6 rfl (by omega) (hp_Li (z := (0 + (1 * w + 0))) l7 rfl (by omega) hp_Ln)))))))) trivial ?_ ?_
  · intro p hp ys l' st' h' hys a1 a2 a3 gZ gL gS
    rcases List.mem_cons.mp hp with rfl | hp
    · obtain rfl := hp_y0 hys
      obtain ⟨y0, t0, rfl, q0, g0⟩ := hp_gSi (z := (0 + (1 * b + 0))) gS rfl
      obtain ⟨y1, t1, rfl, q1, g1⟩ := hp_gSi (z := (1 + (3 * n + 0))) g0 rfl
      obtain ⟨t2, rfl, g2⟩ := hp_gSa g1 (by decide)
      cases hp_gSn g2
      exact e0 l' h' y0 y1 (by omega) (by omega) a1 a2 a3 (hp_gK (zi := (0 + 0)) (zv := (0 + (1 * n + 0))) gZ.2.2.2 (List.mem_of_getElem? (i := 0) rfl) rfl rfl (by omega) (by omega)) (hp_gLa gL (List.mem_of_getElem? (i := 0) rfl) (by decide)) (hp_gLi (z := (0 + (1 * a + 0))) gL (List.mem_of_getElem? (i := 1) rfl) rfl (by omega)) (hp_gLi (z := (0 + (1 * b + 0))) gL (List.mem_of_getElem? (i := 2) rfl) rfl (by omega)) (hp_gLi (z := (0 + (1 * d + 0))) gL (List.mem_of_getElem? (i := 3) rfl) rfl (by omega)) (hp_gLi (z := (7 + 0)) gL (List.mem_of_getElem? (i := 4) rfl) rfl (by omega)) (hp_gLi (z := (0 + (1 * u + 0))) gL (List.mem_of_getElem? (i := 5) rfl) rfl (by omega)) (hp_gLi (z := (0 + (1 * v + 0))) gL (List.mem_of_getElem? (i := 6) rfl) rfl (by omega)) (hp_gLi (z := (0 + (1 * w + 0))) gL (List.mem_of_getElem? (i := 7) rfl) rfl (by omega))
    cases hp
  · intro p hp ys v h' hys a1 a2 a3 gZ gS
    cases hp
theorem jx0_3_k : hp_chk 411 466 7 [(0, 0, 10), (1, 0, 10), (2, 0, 10), (3, 0, 29), (4, 0, 2147483647), (5, 0, 2147483647), (6, 0, 2147483647)] [] [(0, .inr (.inr (.inl (some 94)))), (1, .inl (0, [(0, 1)])), (2, .inl (0, [(1, 1)])), (3, .inl (0, [(2, 1)])), (4, .inl (7, [])), (5, .inl (0, [(4, 1)])), (6, .inl (0, [(5, 1)])), (7, .inl (0, [(6, 1)]))] [] [(20104, (0, []), (0, [(3, 1)]))] [] 5 [(492, ([], 7, [(0, 0, 10), (1, 0, 10), (2, 0, 10), (3, 0, 29), (4, 0, 2147483647), (5, 0, 2147483647), (6, 0, 2147483647)], [], [(0, .inr (.inr (.inl (some 94)))), (1, .inl (0, [(0, 1)])), (2, .inl (0, [(1, 1)])), (3, .inl (0, [(2, 1)])), (4, .inl (7, [])), (5, .inl (0, [(4, 1)])), (6, .inl (0, [(5, 1)])), (7, .inl (0, [(6, 1)]))], [.inl (0, [(2, 1)]), .inl (2, [(3, 3)]), .inr (.inr (.inl (some 190)))], [(20104, (0, []), (0, [(3, 1)]))]))] [] = true := by decide +kernel
theorem jx0_3 {cst : am_K} {strs : List Nat} {Φ : am_Q → Prop} {D : Nat} {M : am_M} {h : am_H} {l : am_L} (c : hp_C cst strs D) (hM : m_P[411]? = some M) (hD : (5 : Int) ≤ (D : Int) + 1) (hy : ly_hy m_tt ly_TH h) (a b d n u v w : Int) (b0 : 0 ≤ a) (t0 : a ≤ 10) (b1 : 0 ≤ b) (t1 : b ≤ 10) (b2 : 0 ≤ d) (t2 : d ≤ 10) (b3 : 0 ≤ n) (t3 : n ≤ 29) (b4 : 0 ≤ u) (t4 : u ≤ 2147483647) (b5 : 0 ≤ v) (t5 : v ≤ 2147483647) (b6 : 0 ≤ w) (t6 : w ≤ 2147483647) (k0 : ly_hv cst h 20104 0 = some (n)) (l0 : hp_a l 0 94) (l1 : hp_i l 1 (a)) (l2 : hp_i l 2 (b)) (l3 : hp_i l 3 (d)) (l4 : hp_i l 4 7) (l5 : hp_i l 5 (u)) (l6 : hp_i l 6 (v)) (l7 : hp_i l 7 (w)) (e0 : ∀ (l' : am_L) (h' : am_H) (y0 : Int32) (y1 : Int32), y0.toInt = (d) → y1.toInt = (3 * n + 2) → ly_hy m_tt ly_TH h' → ly_fr cst [] h h' → h.length ≤ h'.length → ly_hv cst h' 20104 0 = some (n) → hp_a l' 0 94 → hp_i l' 1 (a) → hp_i l' 2 (b) → hp_i l' 3 (d) → hp_i l' 4 7 → hp_i l' 5 (u) → hp_i l' 6 (v) → hp_i l' 7 (w) → hp_F cst strs Φ D M 492 l' [.int y0, .int y1, .ref 190] h') : hp_F cst strs Φ D M 466 l [] h := by
  refine hp_arc c hM jx0_3_k hD [a, b, d, n, u, v, w] rfl hy (hp_Bc (z := a) rfl b0 t0 (hp_Bc (z := b) rfl b1 t1 (hp_Bc (z := d) rfl b2 t2 (hp_Bc (z := n) rfl b3 t3 (hp_Bc (z := u) rfl b4 t4 (hp_Bc (z := v) rfl b5 t5 (hp_Bc (z := w) rfl b6 t6 hp_Bn))))))) hp_Fn (hp_Kc (zi := (0 + 0)) (zv := (0 + (1 * n + 0))) k0 rfl rfl (by omega) (by omega) hp_Kn) (hp_La l0 (hp_Li (z := (0 + (1 * a + 0))) l1 rfl (by omega) (hp_Li (z := (0 + (1 * b + 0))) l2 rfl (by omega) (hp_Li (z := (0 + (1 * d + 0))) l3 rfl (by omega) (hp_Li (z := (7 + 0)) l4 rfl (by omega) (hp_Li (z := (0 + (1 * u + 0))) l5 rfl (by omega) (hp_Li (z := (0 + (1 * v + 0))) l6 rfl (by omega) (hp_Li (z := (0 + (1 * w + 0))) l7 rfl (by omega) hp_Ln)))))))) trivial ?_ ?_
  · intro p hp ys l' st' h' hys a1 a2 a3 gZ gL gS
    rcases List.mem_cons.mp hp with rfl | hp
    · obtain rfl := hp_y0 hys
      obtain ⟨y0, t0, rfl, q0, g0⟩ := hp_gSi (z := (0 + (1 * d + 0))) gS rfl
      obtain ⟨y1, t1, rfl, q1, g1⟩ := hp_gSi (z := (2 + (3 * n + 0))) g0 rfl
      obtain ⟨t2, rfl, g2⟩ := hp_gSa g1 (by decide)
      cases hp_gSn g2
      exact e0 l' h' y0 y1 (by omega) (by omega) a1 a2 a3 (hp_gK (zi := (0 + 0)) (zv := (0 + (1 * n + 0))) gZ.2.2.2 (List.mem_of_getElem? (i := 0) rfl) rfl rfl (by omega) (by omega)) (hp_gLa gL (List.mem_of_getElem? (i := 0) rfl) (by decide)) (hp_gLi (z := (0 + (1 * a + 0))) gL (List.mem_of_getElem? (i := 1) rfl) rfl (by omega)) (hp_gLi (z := (0 + (1 * b + 0))) gL (List.mem_of_getElem? (i := 2) rfl) rfl (by omega)) (hp_gLi (z := (0 + (1 * d + 0))) gL (List.mem_of_getElem? (i := 3) rfl) rfl (by omega)) (hp_gLi (z := (7 + 0)) gL (List.mem_of_getElem? (i := 4) rfl) rfl (by omega)) (hp_gLi (z := (0 + (1 * u + 0))) gL (List.mem_of_getElem? (i := 5) rfl) rfl (by omega)) (hp_gLi (z := (0 + (1 * v + 0))) gL (List.mem_of_getElem? (i := 6) rfl) rfl (by omega)) (hp_gLi (z := (0 + (1 * w + 0))) gL (List.mem_of_getElem? (i := 7) rfl) rfl (by omega))
    cases hp
  · intro p hp ys v h' hys a1 a2 a3 gZ gS
    cases hp
theorem jx0_4e_k : hp_chk 411 493 6 [(0, 0, 10), (1, 0, 10), (2, 0, 10), (3, 0, 29), (4, 0, 2147483647), (5, 0, 2147483647)] [] [(0, .inr (.inr (.inl (some 94)))), (1, .inl (0, [(0, 1)])), (2, .inl (0, [(1, 1)])), (3, .inl (0, [(2, 1)])), (4, .inl (7, [])), (5, .inl (0, [(4, 1)])), (6, .inl (0, [(4, 1)])), (7, .inl (0, [(5, 1)]))] [] [(20104, (0, []), (0, [(3, 1)]))] [] 5 [(539, ([], 6, [(0, 0, 10), (1, 0, 10), (2, 0, 10), (3, 0, 29), (4, 0, 2147483647), (5, 0, 2147483647)], [], [(0, .inr (.inr (.inl (some 94)))), (1, .inl (0, [(0, 1)])), (2, .inl (0, [(1, 1)])), (3, .inl (0, [(2, 1)])), (4, .inl (7, []))], [.inl (1, []), .inl (0, [(3, 1)]), .inr (.inr (.inl (some 191)))], [(20104, (0, []), (0, [(3, 1)]))]))] [] = true := by decide +kernel
theorem jx0_4e {cst : am_K} {strs : List Nat} {Φ : am_Q → Prop} {D : Nat} {M : am_M} {h : am_H} {l : am_L} (c : hp_C cst strs D) (hM : m_P[411]? = some M) (hD : (5 : Int) ≤ (D : Int) + 1) (hy : ly_hy m_tt ly_TH h) (a b d n u w : Int) (b0 : 0 ≤ a) (t0 : a ≤ 10) (b1 : 0 ≤ b) (t1 : b ≤ 10) (b2 : 0 ≤ d) (t2 : d ≤ 10) (b3 : 0 ≤ n) (t3 : n ≤ 29) (b4 : 0 ≤ u) (t4 : u ≤ 2147483647) (b5 : 0 ≤ w) (t5 : w ≤ 2147483647) (k0 : ly_hv cst h 20104 0 = some (n)) (l0 : hp_a l 0 94) (l1 : hp_i l 1 (a)) (l2 : hp_i l 2 (b)) (l3 : hp_i l 3 (d)) (l4 : hp_i l 4 7) (l5 : hp_i l 5 (u)) (l6 : hp_i l 6 (u)) (l7 : hp_i l 7 (w)) (e0 : ∀ (l' : am_L) (h' : am_H) (y0 : Int32) (y1 : Int32), y0.toInt = 1 → y1.toInt = (n) → ly_hy m_tt ly_TH h' → ly_fr cst [] h h' → h.length ≤ h'.length → ly_hv cst h' 20104 0 = some (n) → hp_a l' 0 94 → hp_i l' 1 (a) → hp_i l' 2 (b) → hp_i l' 3 (d) → hp_i l' 4 7 → hp_F cst strs Φ D M 539 l' [.int y0, .int y1, .ref 191] h') : hp_F cst strs Φ D M 493 l [] h := by
  refine hp_arc c hM jx0_4e_k hD [a, b, d, n, u, w] rfl hy (hp_Bc (z := a) rfl b0 t0 (hp_Bc (z := b) rfl b1 t1 (hp_Bc (z := d) rfl b2 t2 (hp_Bc (z := n) rfl b3 t3 (hp_Bc (z := u) rfl b4 t4 (hp_Bc (z := w) rfl b5 t5 hp_Bn)))))) hp_Fn (hp_Kc (zi := (0 + 0)) (zv := (0 + (1 * n + 0))) k0 rfl rfl (by omega) (by omega) hp_Kn) (hp_La l0 (hp_Li (z := (0 + (1 * a + 0))) l1 rfl (by omega) (hp_Li (z := (0 + (1 * b + 0))) l2 rfl (by omega) (hp_Li (z := (0 + (1 * d + 0))) l3 rfl (by omega) (hp_Li (z := (7 + 0)) l4 rfl (by omega) (hp_Li (z := (0 + (1 * u + 0))) l5 rfl (by omega) (hp_Li (z := (0 + (1 * u + 0))) l6 rfl (by omega) (hp_Li (z := (0 + (1 * w + 0))) l7 rfl (by omega) hp_Ln)))))))) trivial ?_ ?_
  · intro p hp ys l' st' h' hys a1 a2 a3 gZ gL gS
    rcases List.mem_cons.mp hp with rfl | hp
    · obtain rfl := hp_y0 hys
      obtain ⟨y0, t0, rfl, q0, g0⟩ := hp_gSi (z := (1 + 0)) gS rfl
      obtain ⟨y1, t1, rfl, q1, g1⟩ := hp_gSi (z := (0 + (1 * n + 0))) g0 rfl
      obtain ⟨t2, rfl, g2⟩ := hp_gSa g1 (by decide)
      cases hp_gSn g2
      exact e0 l' h' y0 y1 (by omega) (by omega) a1 a2 a3 (hp_gK (zi := (0 + 0)) (zv := (0 + (1 * n + 0))) gZ.2.2.2 (List.mem_of_getElem? (i := 0) rfl) rfl rfl (by omega) (by omega)) (hp_gLa gL (List.mem_of_getElem? (i := 0) rfl) (by decide)) (hp_gLi (z := (0 + (1 * a + 0))) gL (List.mem_of_getElem? (i := 1) rfl) rfl (by omega)) (hp_gLi (z := (0 + (1 * b + 0))) gL (List.mem_of_getElem? (i := 2) rfl) rfl (by omega)) (hp_gLi (z := (0 + (1 * d + 0))) gL (List.mem_of_getElem? (i := 3) rfl) rfl (by omega)) (hp_gLi (z := (7 + 0)) gL (List.mem_of_getElem? (i := 4) rfl) rfl (by omega))
    cases hp
  · intro p hp ys v h' hys a1 a2 a3 gZ gS
    cases hp
theorem jx0_4f_k : hp_chk 411 493 6 [(0, 0, 10), (1, 0, 10), (2, 0, 10), (3, 0, 29), (4, 0, 2147483647), (5, 0, 2147483647)] [] [(0, .inr (.inr (.inl (some 94)))), (1, .inl (0, [(0, 1)])), (2, .inl (0, [(1, 1)])), (3, .inl (0, [(2, 1)])), (4, .inl (7, [])), (5, .inl (0, [(4, 1)])), (6, .inl (0, [(5, 1)])), (7, .inl (0, [(4, 1)]))] [] [(20104, (0, []), (0, [(3, 1)])), (61000, (0, [(4, 1), (5, (-1))]), (1, []))] [] 5 [(539, ([], 6, [(0, 0, 10), (1, 0, 10), (2, 0, 10), (3, 0, 29), (4, 0, 2147483647), (5, 0, 2147483647)], [], [(0, .inr (.inr (.inl (some 94)))), (1, .inl (0, [(0, 1)])), (2, .inl (0, [(1, 1)])), (3, .inl (0, [(2, 1)])), (4, .inl (7, []))], [.inl (1, []), .inl (0, [(3, 1)]), .inr (.inr (.inl (some 191)))], [(20104, (0, []), (0, [(3, 1)]))]))] [] = true := by decide +kernel
theorem jx0_4f {cst : am_K} {strs : List Nat} {Φ : am_Q → Prop} {D : Nat} {M : am_M} {h : am_H} {l : am_L} (c : hp_C cst strs D) (hM : m_P[411]? = some M) (hD : (5 : Int) ≤ (D : Int) + 1) (hy : ly_hy m_tt ly_TH h) (a b d n u v : Int) (b0 : 0 ≤ a) (t0 : a ≤ 10) (b1 : 0 ≤ b) (t1 : b ≤ 10) (b2 : 0 ≤ d) (t2 : d ≤ 10) (b3 : 0 ≤ n) (t3 : n ≤ 29) (b4 : 0 ≤ u) (t4 : u ≤ 2147483647) (b5 : 0 ≤ v) (t5 : v ≤ 2147483647) (k0 : ly_hv cst h 20104 0 = some (n)) (k1 : ly_hv cst h 61000 (u - v) = some 1) (l0 : hp_a l 0 94) (l1 : hp_i l 1 (a)) (l2 : hp_i l 2 (b)) (l3 : hp_i l 3 (d)) (l4 : hp_i l 4 7) (l5 : hp_i l 5 (u)) (l6 : hp_i l 6 (v)) (l7 : hp_i l 7 (u)) (e0 : ∀ (l' : am_L) (h' : am_H) (y0 : Int32) (y1 : Int32), y0.toInt = 1 → y1.toInt = (n) → ly_hy m_tt ly_TH h' → ly_fr cst [] h h' → h.length ≤ h'.length → ly_hv cst h' 20104 0 = some (n) → hp_a l' 0 94 → hp_i l' 1 (a) → hp_i l' 2 (b) → hp_i l' 3 (d) → hp_i l' 4 7 → hp_F cst strs Φ D M 539 l' [.int y0, .int y1, .ref 191] h') : hp_F cst strs Φ D M 493 l [] h := by
  refine hp_arc c hM jx0_4f_k hD [a, b, d, n, u, v] rfl hy (hp_Bc (z := a) rfl b0 t0 (hp_Bc (z := b) rfl b1 t1 (hp_Bc (z := d) rfl b2 t2 (hp_Bc (z := n) rfl b3 t3 (hp_Bc (z := u) rfl b4 t4 (hp_Bc (z := v) rfl b5 t5 hp_Bn)))))) hp_Fn (hp_Kc (zi := (0 + 0)) (zv := (0 + (1 * n + 0))) k0 rfl rfl (by omega) (by omega) (hp_Kc (zi := (0 + (1 * u + ((-1) * v + 0)))) (zv := (1 + 0)) k1 rfl rfl (by omega) (by omega) hp_Kn)) (hp_La l0 (hp_Li (z := (0 + (1 * a + 0))) l1 rfl (by omega) (hp_Li (z := (0 + (1 * b + 0))) l2 rfl (by omega) (hp_Li (z := (0 + (1 * d + 0))) l3 rfl (by omega) (hp_Li (z := (7 + 0)) l4 rfl (by omega) (hp_Li (z := (0 + (1 * u + 0))) l5 rfl (by omega) (hp_Li (z := (0 + (1 * v + 0))) l6 rfl (by omega) (hp_Li (z := (0 + (1 * u + 0))) l7 rfl (by omega) hp_Ln)))))))) trivial ?_ ?_
  · intro p hp ys l' st' h' hys a1 a2 a3 gZ gL gS
    rcases List.mem_cons.mp hp with rfl | hp
    · obtain rfl := hp_y0 hys
      obtain ⟨y0, t0, rfl, q0, g0⟩ := hp_gSi (z := (1 + 0)) gS rfl
      obtain ⟨y1, t1, rfl, q1, g1⟩ := hp_gSi (z := (0 + (1 * n + 0))) g0 rfl
      obtain ⟨t2, rfl, g2⟩ := hp_gSa g1 (by decide)
      cases hp_gSn g2
      exact e0 l' h' y0 y1 (by omega) (by omega) a1 a2 a3 (hp_gK (zi := (0 + 0)) (zv := (0 + (1 * n + 0))) gZ.2.2.2 (List.mem_of_getElem? (i := 0) rfl) rfl rfl (by omega) (by omega)) (hp_gLa gL (List.mem_of_getElem? (i := 0) rfl) (by decide)) (hp_gLi (z := (0 + (1 * a + 0))) gL (List.mem_of_getElem? (i := 1) rfl) rfl (by omega)) (hp_gLi (z := (0 + (1 * b + 0))) gL (List.mem_of_getElem? (i := 2) rfl) rfl (by omega)) (hp_gLi (z := (0 + (1 * d + 0))) gL (List.mem_of_getElem? (i := 3) rfl) rfl (by omega)) (hp_gLi (z := (7 + 0)) gL (List.mem_of_getElem? (i := 4) rfl) rfl (by omega))
    cases hp
  · intro p hp ys v h' hys a1 a2 a3 gZ gS
    cases hp
theorem jx0_4g_k : hp_chk 411 493 6 [(0, 0, 10), (1, 0, 10), (2, 0, 10), (3, 0, 29), (4, 0, 2147483647), (5, 0, 2147483647)] [] [(0, .inr (.inr (.inl (some 94)))), (1, .inl (0, [(0, 1)])), (2, .inl (0, [(1, 1)])), (3, .inl (0, [(2, 1)])), (4, .inl (7, [])), (5, .inl (0, [(4, 1)])), (6, .inl (0, [(5, 1)])), (7, .inl (0, [(5, 1)]))] [] [(20104, (0, []), (0, [(3, 1)])), (61000, (0, [(4, 1), (5, (-1))]), (1, []))] [] 5 [(539, ([], 6, [(0, 0, 10), (1, 0, 10), (2, 0, 10), (3, 0, 29), (4, 0, 2147483647), (5, 0, 2147483647)], [], [(0, .inr (.inr (.inl (some 94)))), (1, .inl (0, [(0, 1)])), (2, .inl (0, [(1, 1)])), (3, .inl (0, [(2, 1)])), (4, .inl (7, []))], [.inl (1, []), .inl (0, [(3, 1)]), .inr (.inr (.inl (some 191)))], [(20104, (0, []), (0, [(3, 1)]))]))] [] = true := by decide +kernel
theorem jx0_4g {cst : am_K} {strs : List Nat} {Φ : am_Q → Prop} {D : Nat} {M : am_M} {h : am_H} {l : am_L} (c : hp_C cst strs D) (hM : m_P[411]? = some M) (hD : (5 : Int) ≤ (D : Int) + 1) (hy : ly_hy m_tt ly_TH h) (a b d n u v : Int) (b0 : 0 ≤ a) (t0 : a ≤ 10) (b1 : 0 ≤ b) (t1 : b ≤ 10) (b2 : 0 ≤ d) (t2 : d ≤ 10) (b3 : 0 ≤ n) (t3 : n ≤ 29) (b4 : 0 ≤ u) (t4 : u ≤ 2147483647) (b5 : 0 ≤ v) (t5 : v ≤ 2147483647) (k0 : ly_hv cst h 20104 0 = some (n)) (k1 : ly_hv cst h 61000 (u - v) = some 1) (l0 : hp_a l 0 94) (l1 : hp_i l 1 (a)) (l2 : hp_i l 2 (b)) (l3 : hp_i l 3 (d)) (l4 : hp_i l 4 7) (l5 : hp_i l 5 (u)) (l6 : hp_i l 6 (v)) (l7 : hp_i l 7 (v)) (e0 : ∀ (l' : am_L) (h' : am_H) (y0 : Int32) (y1 : Int32), y0.toInt = 1 → y1.toInt = (n) → ly_hy m_tt ly_TH h' → ly_fr cst [] h h' → h.length ≤ h'.length → ly_hv cst h' 20104 0 = some (n) → hp_a l' 0 94 → hp_i l' 1 (a) → hp_i l' 2 (b) → hp_i l' 3 (d) → hp_i l' 4 7 → hp_F cst strs Φ D M 539 l' [.int y0, .int y1, .ref 191] h') : hp_F cst strs Φ D M 493 l [] h := by
  refine hp_arc c hM jx0_4g_k hD [a, b, d, n, u, v] rfl hy (hp_Bc (z := a) rfl b0 t0 (hp_Bc (z := b) rfl b1 t1 (hp_Bc (z := d) rfl b2 t2 (hp_Bc (z := n) rfl b3 t3 (hp_Bc (z := u) rfl b4 t4 (hp_Bc (z := v) rfl b5 t5 hp_Bn)))))) hp_Fn (hp_Kc (zi := (0 + 0)) (zv := (0 + (1 * n + 0))) k0 rfl rfl (by omega) (by omega) (hp_Kc (zi := (0 + (1 * u + ((-1) * v + 0)))) (zv := (1 + 0)) k1 rfl rfl (by omega) (by omega) hp_Kn)) (hp_La l0 (hp_Li (z := (0 + (1 * a + 0))) l1 rfl (by omega) (hp_Li (z := (0 + (1 * b + 0))) l2 rfl (by omega) (hp_Li (z := (0 + (1 * d + 0))) l3 rfl (by omega) (hp_Li (z := (7 + 0)) l4 rfl (by omega) (hp_Li (z := (0 + (1 * u + 0))) l5 rfl (by omega) (hp_Li (z := (0 + (1 * v + 0))) l6 rfl (by omega) (hp_Li (z := (0 + (1 * v + 0))) l7 rfl (by omega) hp_Ln)))))))) trivial ?_ ?_
  · intro p hp ys l' st' h' hys a1 a2 a3 gZ gL gS
    rcases List.mem_cons.mp hp with rfl | hp
    · obtain rfl := hp_y0 hys
      obtain ⟨y0, t0, rfl, q0, g0⟩ := hp_gSi (z := (1 + 0)) gS rfl
      obtain ⟨y1, t1, rfl, q1, g1⟩ := hp_gSi (z := (0 + (1 * n + 0))) g0 rfl
      obtain ⟨t2, rfl, g2⟩ := hp_gSa g1 (by decide)
      cases hp_gSn g2
      exact e0 l' h' y0 y1 (by omega) (by omega) a1 a2 a3 (hp_gK (zi := (0 + 0)) (zv := (0 + (1 * n + 0))) gZ.2.2.2 (List.mem_of_getElem? (i := 0) rfl) rfl rfl (by omega) (by omega)) (hp_gLa gL (List.mem_of_getElem? (i := 0) rfl) (by decide)) (hp_gLi (z := (0 + (1 * a + 0))) gL (List.mem_of_getElem? (i := 1) rfl) rfl (by omega)) (hp_gLi (z := (0 + (1 * b + 0))) gL (List.mem_of_getElem? (i := 2) rfl) rfl (by omega)) (hp_gLi (z := (0 + (1 * d + 0))) gL (List.mem_of_getElem? (i := 3) rfl) rfl (by omega)) (hp_gLi (z := (7 + 0)) gL (List.mem_of_getElem? (i := 4) rfl) rfl (by omega))
    cases hp
  · intro p hp ys v h' hys a1 a2 a3 gZ gS
    cases hp
theorem jx0_4n_k : hp_chk 411 493 7 [(0, 0, 10), (1, 0, 10), (2, 0, 10), (3, 0, 29), (4, 0, 2147483647), (5, 0, 2147483647), (6, 0, 2147483647)] [] [(0, .inr (.inr (.inl (some 94)))), (1, .inl (0, [(0, 1)])), (2, .inl (0, [(1, 1)])), (3, .inl (0, [(2, 1)])), (4, .inl (7, [])), (5, .inl (0, [(4, 1)])), (6, .inl (0, [(5, 1)])), (7, .inl (0, [(6, 1)]))] [] [(20104, (0, []), (0, [(3, 1)])), (61000, (0, [(4, 1), (5, (-1))]), (1, [])), (61000, (0, [(4, 1), (6, (-1))]), (1, [])), (61000, (0, [(5, 1), (6, (-1))]), (1, []))] [] 5 [(539, ([], 7, [(0, 0, 10), (1, 0, 10), (2, 0, 10), (3, 0, 29), (4, 0, 2147483647), (5, 0, 2147483647), (6, 0, 2147483647)], [], [(0, .inr (.inr (.inl (some 94)))), (1, .inl (0, [(0, 1)])), (2, .inl (0, [(1, 1)])), (3, .inl (0, [(2, 1)])), (4, .inl (7, []))], [.inl (0, []), .inl (0, [(3, 1)]), .inr (.inr (.inl (some 191)))], [(20104, (0, []), (0, [(3, 1)]))]))] [] = true := by decide +kernel
theorem jx0_4n {cst : am_K} {strs : List Nat} {Φ : am_Q → Prop} {D : Nat} {M : am_M} {h : am_H} {l : am_L} (c : hp_C cst strs D) (hM : m_P[411]? = some M) (hD : (5 : Int) ≤ (D : Int) + 1) (hy : ly_hy m_tt ly_TH h) (a b d n u v w : Int) (b0 : 0 ≤ a) (t0 : a ≤ 10) (b1 : 0 ≤ b) (t1 : b ≤ 10) (b2 : 0 ≤ d) (t2 : d ≤ 10) (b3 : 0 ≤ n) (t3 : n ≤ 29) (b4 : 0 ≤ u) (t4 : u ≤ 2147483647) (b5 : 0 ≤ v) (t5 : v ≤ 2147483647) (b6 : 0 ≤ w) (t6 : w ≤ 2147483647) (k0 : ly_hv cst h 20104 0 = some (n)) (k1 : ly_hv cst h 61000 (u - v) = some 1) (k2 : ly_hv cst h 61000 (u - w) = some 1) (k3 : ly_hv cst h 61000 (v - w) = some 1) (l0 : hp_a l 0 94) (l1 : hp_i l 1 (a)) (l2 : hp_i l 2 (b)) (l3 : hp_i l 3 (d)) (l4 : hp_i l 4 7) (l5 : hp_i l 5 (u)) (l6 : hp_i l 6 (v)) (l7 : hp_i l 7 (w)) (e0 : ∀ (l' : am_L) (h' : am_H) (y0 : Int32) (y1 : Int32), y0.toInt = 0 → y1.toInt = (n) → ly_hy m_tt ly_TH h' → ly_fr cst [] h h' → h.length ≤ h'.length → ly_hv cst h' 20104 0 = some (n) → hp_a l' 0 94 → hp_i l' 1 (a) → hp_i l' 2 (b) → hp_i l' 3 (d) → hp_i l' 4 7 → hp_F cst strs Φ D M 539 l' [.int y0, .int y1, .ref 191] h') : hp_F cst strs Φ D M 493 l [] h := by
  refine hp_arc c hM jx0_4n_k hD [a, b, d, n, u, v, w] rfl hy (hp_Bc (z := a) rfl b0 t0 (hp_Bc (z := b) rfl b1 t1 (hp_Bc (z := d) rfl b2 t2 (hp_Bc (z := n) rfl b3 t3 (hp_Bc (z := u) rfl b4 t4 (hp_Bc (z := v) rfl b5 t5 (hp_Bc (z := w) rfl b6 t6 hp_Bn))))))) hp_Fn (hp_Kc (zi := (0 + 0)) (zv := (0 + (1 * n + 0))) k0 rfl rfl (by omega) (by omega) (hp_Kc (zi := (0 + (1 * u + ((-1) * v + 0)))) (zv := (1 + 0)) k1 rfl rfl (by omega) (by omega) (hp_Kc (zi := (0 + (1 * u + ((-1) * w + 0)))) (zv := (1 + 0)) k2 rfl rfl (by omega) (by omega) (hp_Kc (zi := (0 + (1 * v + ((-1) * w + 0)))) (zv := (1 + 0)) k3 rfl rfl (by omega) (by omega) hp_Kn)))) (hp_La l0 (hp_Li (z := (0 + (1 * a + 0))) l1 rfl (by omega) (hp_Li (z := (0 + (1 * b + 0))) l2 rfl (by omega) (hp_Li (z := (0 + (1 * d + 0))) l3 rfl (by omega) (hp_Li (z := (7 + 0)) l4 rfl (by omega) (hp_Li (z := (0 + (1 * u + 0))) l5 rfl (by omega) (hp_Li (z := (0 + (1 * v + 0))) l6 rfl (by omega) (hp_Li (z := (0 + (1 * w + 0))) l7 rfl (by omega) hp_Ln)))))))) trivial ?_ ?_
  · intro p hp ys l' st' h' hys a1 a2 a3 gZ gL gS
    rcases List.mem_cons.mp hp with rfl | hp
    · obtain rfl := hp_y0 hys
      obtain ⟨y0, t0, rfl, q0, g0⟩ := hp_gSi (z := (0 + 0)) gS rfl
      obtain ⟨y1, t1, rfl, q1, g1⟩ := hp_gSi (z := (0 + (1 * n + 0))) g0 rfl
      obtain ⟨t2, rfl, g2⟩ := hp_gSa g1 (by decide)
      cases hp_gSn g2
      exact e0 l' h' y0 y1 (by omega) (by omega) a1 a2 a3 (hp_gK (zi := (0 + 0)) (zv := (0 + (1 * n + 0))) gZ.2.2.2 (List.mem_of_getElem? (i := 0) rfl) rfl rfl (by omega) (by omega)) (hp_gLa gL (List.mem_of_getElem? (i := 0) rfl) (by decide)) (hp_gLi (z := (0 + (1 * a + 0))) gL (List.mem_of_getElem? (i := 1) rfl) rfl (by omega)) (hp_gLi (z := (0 + (1 * b + 0))) gL (List.mem_of_getElem? (i := 2) rfl) rfl (by omega)) (hp_gLi (z := (0 + (1 * d + 0))) gL (List.mem_of_getElem? (i := 3) rfl) rfl (by omega)) (hp_gLi (z := (7 + 0)) gL (List.mem_of_getElem? (i := 4) rfl) rfl (by omega))
    cases hp
  · intro p hp ys v h' hys a1 a2 a3 gZ gS
    cases hp
theorem jx0_5_k : hp_chk 411 540 7 [(0, 0, 10), (1, 0, 10), (2, 0, 10), (3, 0, 10), (4, 0, 10), (5, 0, 10), (6, 0, 29)] [((-1), [(0, (-1)), (3, 1)]), ((-1), [(1, (-1)), (4, 1)]), ((-1), [(2, (-1)), (5, 1)])] [(0, .inr (.inr (.inl (some 94)))), (1, .inl (0, [(0, 1)])), (2, .inl (0, [(1, 1)])), (3, .inl (0, [(2, 1)])), (4, .inl (7, []))] [] [(20104, (0, []), (0, [(6, 1)]))] [20104] 5 [(216, ([], 7, [(0, 0, 10), (1, 0, 10), (2, 0, 10), (3, 0, 10), (4, 0, 10), (5, 0, 10), (6, 0, 29)], [], [(0, .inr (.inr (.inl (some 94)))), (1, .inl (1, [(0, 1)])), (2, .inl (1, [(1, 1)])), (3, .inl (1, [(2, 1)]))], [], [(20104, (0, []), (1, [(6, 1)]))]))] [] = true := by decide +kernel
theorem jx0_5 {cst : am_K} {strs : List Nat} {Φ : am_Q → Prop} {D : Nat} {M : am_M} {h : am_H} {l : am_L} (c : hp_C cst strs D) (hM : m_P[411]? = some M) (hD : (5 : Int) ≤ (D : Int) + 1) (hy : ly_hy m_tt ly_TH h) (a b d ma mb md n : Int) (b0 : 0 ≤ a) (t0 : a ≤ 10) (b1 : 0 ≤ b) (t1 : b ≤ 10) (b2 : 0 ≤ d) (t2 : d ≤ 10) (b3 : 0 ≤ ma) (t3 : ma ≤ 10) (b4 : 0 ≤ mb) (t4 : mb ≤ 10) (b5 : 0 ≤ md) (t5 : md ≤ 10) (b6 : 0 ≤ n) (t6 : n ≤ 29) (f0 : 0 ≤ (ma - a - 1)) (f1 : 0 ≤ (mb - b - 1)) (f2 : 0 ≤ (md - d - 1)) (k0 : ly_hv cst h 20104 0 = some (n)) (l0 : hp_a l 0 94) (l1 : hp_i l 1 (a)) (l2 : hp_i l 2 (b)) (l3 : hp_i l 3 (d)) (l4 : hp_i l 4 7) (e0 : ∀ (l' : am_L) (h' : am_H), ly_hy m_tt ly_TH h' → ly_fr cst [20104] h h' → h.length ≤ h'.length → ly_hv cst h' 20104 0 = some (n + 1) → hp_a l' 0 94 → hp_i l' 1 (a + 1) → hp_i l' 2 (b + 1) → hp_i l' 3 (d + 1) → hp_F cst strs Φ D M 216 l' [] h') : hp_F cst strs Φ D M 540 l [] h := by
  refine hp_arc c hM jx0_5_k hD [a, b, d, ma, mb, md, n] rfl hy (hp_Bc (z := a) rfl b0 t0 (hp_Bc (z := b) rfl b1 t1 (hp_Bc (z := d) rfl b2 t2 (hp_Bc (z := ma) rfl b3 t3 (hp_Bc (z := mb) rfl b4 t4 (hp_Bc (z := md) rfl b5 t5 (hp_Bc (z := n) rfl b6 t6 hp_Bn))))))) (hp_Fc (z := ((-1) + ((-1) * a + (1 * ma + 0)))) rfl (by omega) (hp_Fc (z := ((-1) + ((-1) * b + (1 * mb + 0)))) rfl (by omega) (hp_Fc (z := ((-1) + ((-1) * d + (1 * md + 0)))) rfl (by omega) hp_Fn))) (hp_Kc (zi := (0 + 0)) (zv := (0 + (1 * n + 0))) k0 rfl rfl (by omega) (by omega) hp_Kn) (hp_La l0 (hp_Li (z := (0 + (1 * a + 0))) l1 rfl (by omega) (hp_Li (z := (0 + (1 * b + 0))) l2 rfl (by omega) (hp_Li (z := (0 + (1 * d + 0))) l3 rfl (by omega) (hp_Li (z := (7 + 0)) l4 rfl (by omega) hp_Ln))))) trivial ?_ ?_
  · intro p hp ys l' st' h' hys a1 a2 a3 gZ gL gS
    rcases List.mem_cons.mp hp with rfl | hp
    · obtain rfl := hp_y0 hys
      cases hp_gSn gS
      exact e0 l' h' a1 a2 a3 (hp_gK (zi := (0 + 0)) (zv := (1 + (1 * n + 0))) gZ.2.2.2 (List.mem_of_getElem? (i := 0) rfl) rfl rfl (by omega) (by omega)) (hp_gLa gL (List.mem_of_getElem? (i := 0) rfl) (by decide)) (hp_gLi (z := (1 + (1 * a + 0))) gL (List.mem_of_getElem? (i := 1) rfl) rfl (by omega)) (hp_gLi (z := (1 + (1 * b + 0))) gL (List.mem_of_getElem? (i := 2) rfl) rfl (by omega)) (hp_gLi (z := (1 + (1 * d + 0))) gL (List.mem_of_getElem? (i := 3) rfl) rfl (by omega))
    cases hp
  · intro p hp ys v h' hys a1 a2 a3 gZ gS
    cases hp
theorem jx1_1_k : hp_chk 411 286 11 [(0, 0, 10), (1, 0, 10), (2, 0, 10), (3, 0, 10), (4, 0, 10), (5, 0, 10), (6, 0, 12), (7, 0, 360), (8, 0, 29), (9, 0, 2147483647), (10, 0, 2147483647)] [((-1), [(0, (-1)), (3, 1)]), ((-1), [(1, (-1)), (4, 1)])] [(0, .inr (.inr (.inl (some 94)))), (1, .inl (0, [(0, 1)])), (2, .inl (0, [(1, 1)])), (3, .inl (0, [(2, 1)])), (4, .inl (0, [])), (5, .inl (1, [])), (6, .inl (3, []))] [.inl (0, [(6, 1)])] [(44288, (0, []), (0, [(3, 1)])), (44288, (1, []), (0, [(4, 1)])), (44288, (2, []), (0, [(5, 1)])), (45056, (132, [(0, 121), (1, 11), (2, 1)]), (0, [(7, 1)])), (45056, (0, [(0, 121), (1, 11), (2, 1)]), (0, [(6, 1), (7, 1)])), (20104, (0, []), (0, [(8, 1)])), (44032, (0, [(0, 1)]), (0, [(9, 1)])), (44032, (10, [(1, 1)]), (0, [(10, 1)]))] [] 5 [(438, ([], 11, [(0, 0, 10), (1, 0, 10), (2, 0, 10), (3, 0, 10), (4, 0, 10), (5, 0, 10), (6, 0, 12), (7, 0, 360), (8, 0, 29), (9, 0, 2147483647), (10, 0, 2147483647)], [], [(0, .inr (.inr (.inl (some 94)))), (1, .inl (0, [(0, 1)])), (2, .inl (0, [(1, 1)])), (3, .inl (0, [(2, 1)])), (4, .inl (3, [])), (5, .inl (0, [(9, 1)])), (6, .inl (0, [(10, 1)])), (7, .inl ((-1), []))], [.inl (0, [(0, 1)]), .inl (0, [(8, 3)]), .inr (.inr (.inl (some 190)))], [(20104, (0, []), (0, [(8, 1)]))]))] [] = true := by decide +kernel
theorem jx1_1 {cst : am_K} {strs : List Nat} {Φ : am_Q → Prop} {D : Nat} {M : am_M} {h : am_H} {l : am_L} (c : hp_C cst strs D) (hM : m_P[411]? = some M) (hD : (5 : Int) ≤ (D : Int) + 1) (hy : ly_hy m_tt ly_TH h) (a b d ma mb md k y n u v : Int) (x0 : Int32) (hx0 : x0.toInt = (k)) (b0 : 0 ≤ a) (t0 : a ≤ 10) (b1 : 0 ≤ b) (t1 : b ≤ 10) (b2 : 0 ≤ d) (t2 : d ≤ 10) (b3 : 0 ≤ ma) (t3 : ma ≤ 10) (b4 : 0 ≤ mb) (t4 : mb ≤ 10) (b5 : 0 ≤ md) (t5 : md ≤ 10) (b6 : 0 ≤ k) (t6 : k ≤ 12) (b7 : 0 ≤ y) (t7 : y ≤ 360) (b8 : 0 ≤ n) (t8 : n ≤ 29) (b9 : 0 ≤ u) (t9 : u ≤ 2147483647) (b10 : 0 ≤ v) (t10 : v ≤ 2147483647) (f0 : 0 ≤ (ma - a - 1)) (f1 : 0 ≤ (mb - b - 1)) (k0 : ly_hv cst h 44288 0 = some (ma)) (k1 : ly_hv cst h 44288 1 = some (mb)) (k2 : ly_hv cst h 44288 2 = some (md)) (k3 : ly_hv cst h 45056 (121 * a + 11 * b + d + 132) = some (y)) (k4 : ly_hv cst h 45056 (121 * a + 11 * b + d) = some (k + y)) (k5 : ly_hv cst h 20104 0 = some (n)) (k6 : ly_hv cst h 44032 (a) = some (u)) (k7 : ly_hv cst h 44032 (b + 10) = some (v)) (l0 : hp_a l 0 94) (l1 : hp_i l 1 (a)) (l2 : hp_i l 2 (b)) (l3 : hp_i l 3 (d)) (l4 : hp_i l 4 0) (l5 : hp_i l 5 1) (l6 : hp_i l 6 3) (e0 : ∀ (l' : am_L) (h' : am_H) (y0 : Int32) (y1 : Int32), y0.toInt = (a) → y1.toInt = (3 * n) → ly_hy m_tt ly_TH h' → ly_fr cst [] h h' → h.length ≤ h'.length → ly_hv cst h' 20104 0 = some (n) → hp_a l' 0 94 → hp_i l' 1 (a) → hp_i l' 2 (b) → hp_i l' 3 (d) → hp_i l' 4 3 → hp_i l' 5 (u) → hp_i l' 6 (v) → hp_i l' 7 (-1) → hp_F cst strs Φ D M 438 l' [.int y0, .int y1, .ref 190] h') : hp_F cst strs Φ D M 286 l [.int x0] h := by
  refine hp_arc c hM jx1_1_k hD [a, b, d, ma, mb, md, k, y, n, u, v] rfl hy (hp_Bc (z := a) rfl b0 t0 (hp_Bc (z := b) rfl b1 t1 (hp_Bc (z := d) rfl b2 t2 (hp_Bc (z := ma) rfl b3 t3 (hp_Bc (z := mb) rfl b4 t4 (hp_Bc (z := md) rfl b5 t5 (hp_Bc (z := k) rfl b6 t6 (hp_Bc (z := y) rfl b7 t7 (hp_Bc (z := n) rfl b8 t8 (hp_Bc (z := u) rfl b9 t9 (hp_Bc (z := v) rfl b10 t10 hp_Bn))))))))))) (hp_Fc (z := ((-1) + ((-1) * a + (1 * ma + 0)))) rfl (by omega) (hp_Fc (z := ((-1) + ((-1) * b + (1 * mb + 0)))) rfl (by omega) hp_Fn)) (hp_Kc (zi := (0 + 0)) (zv := (0 + (1 * ma + 0))) k0 rfl rfl (by omega) (by omega) (hp_Kc (zi := (1 + 0)) (zv := (0 + (1 * mb + 0))) k1 rfl rfl (by omega) (by omega) (hp_Kc (zi := (2 + 0)) (zv := (0 + (1 * md + 0))) k2 rfl rfl (by omega) (by omega) (hp_Kc (zi := (132 + (121 * a + (11 * b + (1 * d + 0))))) (zv := (0 + (1 * y + 0))) k3 rfl rfl (by omega) (by omega) (hp_Kc (zi := (0 + (121 * a + (11 * b + (1 * d + 0))))) (zv := (0 + (1 * k + (1 * y + 0)))) k4 rfl rfl (by omega) (by omega) (hp_Kc (zi := (0 + 0)) (zv := (0 + (1 * n + 0))) k5 rfl rfl (by omega) (by omega) (hp_Kc (zi := (0 + (1 * a + 0))) (zv := (0 + (1 * u + 0))) k6 rfl rfl (by omega) (by omega) (hp_Kc (zi := (10 + (1 * b + 0))) (zv := (0 + (1 * v + 0))) k7 rfl rfl (by omega) (by omega) hp_Kn)))))))) (hp_La l0 (hp_Li (z := (0 + (1 * a + 0))) l1 rfl (by omega) (hp_Li (z := (0 + (1 * b + 0))) l2 rfl (by omega) (hp_Li (z := (0 + (1 * d + 0))) l3 rfl (by omega) (hp_Li (z := (0 + 0)) l4 rfl (by omega) (hp_Li (z := (1 + 0)) l5 rfl (by omega) (hp_Li (z := (3 + 0)) l6 rfl (by omega) hp_Ln))))))) (hp_Si (z := (0 + (1 * k + 0))) rfl (by omega) trivial) ?_ ?_
  · intro p hp ys l' st' h' hys a1 a2 a3 gZ gL gS
    rcases List.mem_cons.mp hp with rfl | hp
    · obtain rfl := hp_y0 hys
      obtain ⟨y0, t0, rfl, q0, g0⟩ := hp_gSi (z := (0 + (1 * a + 0))) gS rfl
      obtain ⟨y1, t1, rfl, q1, g1⟩ := hp_gSi (z := (0 + (3 * n + 0))) g0 rfl
      obtain ⟨t2, rfl, g2⟩ := hp_gSa g1 (by decide)
      cases hp_gSn g2
      exact e0 l' h' y0 y1 (by omega) (by omega) a1 a2 a3 (hp_gK (zi := (0 + 0)) (zv := (0 + (1 * n + 0))) gZ.2.2.2 (List.mem_of_getElem? (i := 0) rfl) rfl rfl (by omega) (by omega)) (hp_gLa gL (List.mem_of_getElem? (i := 0) rfl) (by decide)) (hp_gLi (z := (0 + (1 * a + 0))) gL (List.mem_of_getElem? (i := 1) rfl) rfl (by omega)) (hp_gLi (z := (0 + (1 * b + 0))) gL (List.mem_of_getElem? (i := 2) rfl) rfl (by omega)) (hp_gLi (z := (0 + (1 * d + 0))) gL (List.mem_of_getElem? (i := 3) rfl) rfl (by omega)) (hp_gLi (z := (3 + 0)) gL (List.mem_of_getElem? (i := 4) rfl) rfl (by omega)) (hp_gLi (z := (0 + (1 * u + 0))) gL (List.mem_of_getElem? (i := 5) rfl) rfl (by omega)) (hp_gLi (z := (0 + (1 * v + 0))) gL (List.mem_of_getElem? (i := 6) rfl) rfl (by omega)) (hp_gLi (z := ((-1) + 0)) gL (List.mem_of_getElem? (i := 7) rfl) rfl (by omega))
    cases hp
  · intro p hp ys v h' hys a1 a2 a3 gZ gS
    cases hp
theorem jx1_2_k : hp_chk 411 439 6 [(0, 0, 10), (1, 0, 10), (2, 0, 10), (3, 0, 29), (4, 0, 2147483647), (5, 0, 2147483647)] [] [(0, .inr (.inr (.inl (some 94)))), (1, .inl (0, [(0, 1)])), (2, .inl (0, [(1, 1)])), (3, .inl (0, [(2, 1)])), (4, .inl (3, [])), (5, .inl (0, [(4, 1)])), (6, .inl (0, [(5, 1)])), (7, .inl ((-1), []))] [] [(20104, (0, []), (0, [(3, 1)]))] [] 5 [(465, ([], 6, [(0, 0, 10), (1, 0, 10), (2, 0, 10), (3, 0, 29), (4, 0, 2147483647), (5, 0, 2147483647)], [], [(0, .inr (.inr (.inl (some 94)))), (1, .inl (0, [(0, 1)])), (2, .inl (0, [(1, 1)])), (3, .inl (0, [(2, 1)])), (4, .inl (3, [])), (5, .inl (0, [(4, 1)])), (6, .inl (0, [(5, 1)])), (7, .inl ((-1), []))], [.inl (0, [(1, 1)]), .inl (1, [(3, 3)]), .inr (.inr (.inl (some 190)))], [(20104, (0, []), (0, [(3, 1)]))]))] [] = true := by decide +kernel
theorem jx1_2 {cst : am_K} {strs : List Nat} {Φ : am_Q → Prop} {D : Nat} {M : am_M} {h : am_H} {l : am_L} (c : hp_C cst strs D) (hM : m_P[411]? = some M) (hD : (5 : Int) ≤ (D : Int) + 1) (hy : ly_hy m_tt ly_TH h) (a b d n u v : Int) (b0 : 0 ≤ a) (t0 : a ≤ 10) (b1 : 0 ≤ b) (t1 : b ≤ 10) (b2 : 0 ≤ d) (t2 : d ≤ 10) (b3 : 0 ≤ n) (t3 : n ≤ 29) (b4 : 0 ≤ u) (t4 : u ≤ 2147483647) (b5 : 0 ≤ v) (t5 : v ≤ 2147483647) (k0 : ly_hv cst h 20104 0 = some (n)) (l0 : hp_a l 0 94) (l1 : hp_i l 1 (a)) (l2 : hp_i l 2 (b)) (l3 : hp_i l 3 (d)) (l4 : hp_i l 4 3) (l5 : hp_i l 5 (u)) (l6 : hp_i l 6 (v)) (l7 : hp_i l 7 (-1)) (e0 : ∀ (l' : am_L) (h' : am_H) (y0 : Int32) (y1 : Int32), y0.toInt = (b) → y1.toInt = (3 * n + 1) → ly_hy m_tt ly_TH h' → ly_fr cst [] h h' → h.length ≤ h'.length → ly_hv cst h' 20104 0 = some (n) → hp_a l' 0 94 → hp_i l' 1 (a) → hp_i l' 2 (b) → hp_i l' 3 (d) → hp_i l' 4 3 → hp_i l' 5 (u) → hp_i l' 6 (v) → hp_i l' 7 (-1) → hp_F cst strs Φ D M 465 l' [.int y0, .int y1, .ref 190] h') : hp_F cst strs Φ D M 439 l [] h := by
  refine hp_arc c hM jx1_2_k hD [a, b, d, n, u, v] rfl hy (hp_Bc (z := a) rfl b0 t0 (hp_Bc (z := b) rfl b1 t1 (hp_Bc (z := d) rfl b2 t2 (hp_Bc (z := n) rfl b3 t3 (hp_Bc (z := u) rfl b4 t4 (hp_Bc (z := v) rfl b5 t5 hp_Bn)))))) hp_Fn (hp_Kc (zi := (0 + 0)) (zv := (0 + (1 * n + 0))) k0 rfl rfl (by omega) (by omega) hp_Kn) (hp_La l0 (hp_Li (z := (0 + (1 * a + 0))) l1 rfl (by omega) (hp_Li (z := (0 + (1 * b + 0))) l2 rfl (by omega) (hp_Li (z := (0 + (1 * d + 0))) l3 rfl (by omega) (hp_Li (z := (3 + 0)) l4 rfl (by omega) (hp_Li (z := (0 + (1 * u + 0))) l5 rfl (by omega) (hp_Li (z := (0 + (1 * v + 0))) l6 rfl (by omega) (hp_Li (z := ((-1) + 0)) l7 rfl (by omega) hp_Ln)))))))) trivial ?_ ?_
  · intro p hp ys l' st' h' hys a1 a2 a3 gZ gL gS
    rcases List.mem_cons.mp hp with rfl | hp
    · obtain rfl := hp_y0 hys
      obtain ⟨y0, t0, rfl, q0, g0⟩ := hp_gSi (z := (0 + (1 * b + 0))) gS rfl
      obtain ⟨y1, t1, rfl, q1, g1⟩ := hp_gSi (z := (1 + (3 * n + 0))) g0 rfl
      obtain ⟨t2, rfl, g2⟩ := hp_gSa g1 (by decide)
      cases hp_gSn g2
      exact e0 l' h' y0 y1 (by omega) (by omega) a1 a2 a3 (hp_gK (zi := (0 + 0)) (zv := (0 + (1 * n + 0))) gZ.2.2.2 (List.mem_of_getElem? (i := 0) rfl) rfl rfl (by omega) (by omega)) (hp_gLa gL (List.mem_of_getElem? (i := 0) rfl) (by decide)) (hp_gLi (z := (0 + (1 * a + 0))) gL (List.mem_of_getElem? (i := 1) rfl) rfl (by omega)) (hp_gLi (z := (0 + (1 * b + 0))) gL (List.mem_of_getElem? (i := 2) rfl) rfl (by omega)) (hp_gLi (z := (0 + (1 * d + 0))) gL (List.mem_of_getElem? (i := 3) rfl) rfl (by omega)) (hp_gLi (z := (3 + 0)) gL (List.mem_of_getElem? (i := 4) rfl) rfl (by omega)) (hp_gLi (z := (0 + (1 * u + 0))) gL (List.mem_of_getElem? (i := 5) rfl) rfl (by omega)) (hp_gLi (z := (0 + (1 * v + 0))) gL (List.mem_of_getElem? (i := 6) rfl) rfl (by omega)) (hp_gLi (z := ((-1) + 0)) gL (List.mem_of_getElem? (i := 7) rfl) rfl (by omega))
    cases hp
  · intro p hp ys v h' hys a1 a2 a3 gZ gS
    cases hp
theorem jx1_3_k : hp_chk 411 466 6 [(0, 0, 10), (1, 0, 10), (2, 0, 10), (3, 0, 29), (4, 0, 2147483647), (5, 0, 2147483647)] [] [(0, .inr (.inr (.inl (some 94)))), (1, .inl (0, [(0, 1)])), (2, .inl (0, [(1, 1)])), (3, .inl (0, [(2, 1)])), (4, .inl (3, [])), (5, .inl (0, [(4, 1)])), (6, .inl (0, [(5, 1)])), (7, .inl ((-1), []))] [] [(20104, (0, []), (0, [(3, 1)]))] [] 5 [(492, ([], 6, [(0, 0, 10), (1, 0, 10), (2, 0, 10), (3, 0, 29), (4, 0, 2147483647), (5, 0, 2147483647)], [], [(0, .inr (.inr (.inl (some 94)))), (1, .inl (0, [(0, 1)])), (2, .inl (0, [(1, 1)])), (3, .inl (0, [(2, 1)])), (4, .inl (3, [])), (5, .inl (0, [(4, 1)])), (6, .inl (0, [(5, 1)])), (7, .inl ((-1), []))], [.inl ((-1), []), .inl (2, [(3, 3)]), .inr (.inr (.inl (some 190)))], [(20104, (0, []), (0, [(3, 1)]))]))] [] = true := by decide +kernel
theorem jx1_3 {cst : am_K} {strs : List Nat} {Φ : am_Q → Prop} {D : Nat} {M : am_M} {h : am_H} {l : am_L} (c : hp_C cst strs D) (hM : m_P[411]? = some M) (hD : (5 : Int) ≤ (D : Int) + 1) (hy : ly_hy m_tt ly_TH h) (a b d n u v : Int) (b0 : 0 ≤ a) (t0 : a ≤ 10) (b1 : 0 ≤ b) (t1 : b ≤ 10) (b2 : 0 ≤ d) (t2 : d ≤ 10) (b3 : 0 ≤ n) (t3 : n ≤ 29) (b4 : 0 ≤ u) (t4 : u ≤ 2147483647) (b5 : 0 ≤ v) (t5 : v ≤ 2147483647) (k0 : ly_hv cst h 20104 0 = some (n)) (l0 : hp_a l 0 94) (l1 : hp_i l 1 (a)) (l2 : hp_i l 2 (b)) (l3 : hp_i l 3 (d)) (l4 : hp_i l 4 3) (l5 : hp_i l 5 (u)) (l6 : hp_i l 6 (v)) (l7 : hp_i l 7 (-1)) (e0 : ∀ (l' : am_L) (h' : am_H) (y0 : Int32) (y1 : Int32), y0.toInt = (-1) → y1.toInt = (3 * n + 2) → ly_hy m_tt ly_TH h' → ly_fr cst [] h h' → h.length ≤ h'.length → ly_hv cst h' 20104 0 = some (n) → hp_a l' 0 94 → hp_i l' 1 (a) → hp_i l' 2 (b) → hp_i l' 3 (d) → hp_i l' 4 3 → hp_i l' 5 (u) → hp_i l' 6 (v) → hp_i l' 7 (-1) → hp_F cst strs Φ D M 492 l' [.int y0, .int y1, .ref 190] h') : hp_F cst strs Φ D M 466 l [] h := by
  refine hp_arc c hM jx1_3_k hD [a, b, d, n, u, v] rfl hy (hp_Bc (z := a) rfl b0 t0 (hp_Bc (z := b) rfl b1 t1 (hp_Bc (z := d) rfl b2 t2 (hp_Bc (z := n) rfl b3 t3 (hp_Bc (z := u) rfl b4 t4 (hp_Bc (z := v) rfl b5 t5 hp_Bn)))))) hp_Fn (hp_Kc (zi := (0 + 0)) (zv := (0 + (1 * n + 0))) k0 rfl rfl (by omega) (by omega) hp_Kn) (hp_La l0 (hp_Li (z := (0 + (1 * a + 0))) l1 rfl (by omega) (hp_Li (z := (0 + (1 * b + 0))) l2 rfl (by omega) (hp_Li (z := (0 + (1 * d + 0))) l3 rfl (by omega) (hp_Li (z := (3 + 0)) l4 rfl (by omega) (hp_Li (z := (0 + (1 * u + 0))) l5 rfl (by omega) (hp_Li (z := (0 + (1 * v + 0))) l6 rfl (by omega) (hp_Li (z := ((-1) + 0)) l7 rfl (by omega) hp_Ln)))))))) trivial ?_ ?_
  · intro p hp ys l' st' h' hys a1 a2 a3 gZ gL gS
    rcases List.mem_cons.mp hp with rfl | hp
    · obtain rfl := hp_y0 hys
      obtain ⟨y0, t0, rfl, q0, g0⟩ := hp_gSi (z := ((-1) + 0)) gS rfl
      obtain ⟨y1, t1, rfl, q1, g1⟩ := hp_gSi (z := (2 + (3 * n + 0))) g0 rfl
      obtain ⟨t2, rfl, g2⟩ := hp_gSa g1 (by decide)
      cases hp_gSn g2
      exact e0 l' h' y0 y1 (by omega) (by omega) a1 a2 a3 (hp_gK (zi := (0 + 0)) (zv := (0 + (1 * n + 0))) gZ.2.2.2 (List.mem_of_getElem? (i := 0) rfl) rfl rfl (by omega) (by omega)) (hp_gLa gL (List.mem_of_getElem? (i := 0) rfl) (by decide)) (hp_gLi (z := (0 + (1 * a + 0))) gL (List.mem_of_getElem? (i := 1) rfl) rfl (by omega)) (hp_gLi (z := (0 + (1 * b + 0))) gL (List.mem_of_getElem? (i := 2) rfl) rfl (by omega)) (hp_gLi (z := (0 + (1 * d + 0))) gL (List.mem_of_getElem? (i := 3) rfl) rfl (by omega)) (hp_gLi (z := (3 + 0)) gL (List.mem_of_getElem? (i := 4) rfl) rfl (by omega)) (hp_gLi (z := (0 + (1 * u + 0))) gL (List.mem_of_getElem? (i := 5) rfl) rfl (by omega)) (hp_gLi (z := (0 + (1 * v + 0))) gL (List.mem_of_getElem? (i := 6) rfl) rfl (by omega)) (hp_gLi (z := ((-1) + 0)) gL (List.mem_of_getElem? (i := 7) rfl) rfl (by omega))
    cases hp
  · intro p hp ys v h' hys a1 a2 a3 gZ gS
    cases hp
theorem jx1_4e_k : hp_chk 411 493 5 [(0, 0, 10), (1, 0, 10), (2, 0, 10), (3, 0, 29), (4, 0, 2147483647)] [] [(0, .inr (.inr (.inl (some 94)))), (1, .inl (0, [(0, 1)])), (2, .inl (0, [(1, 1)])), (3, .inl (0, [(2, 1)])), (4, .inl (3, [])), (5, .inl (0, [(4, 1)])), (6, .inl (0, [(4, 1)])), (7, .inl ((-1), []))] [] [(20104, (0, []), (0, [(3, 1)]))] [] 5 [(539, ([], 5, [(0, 0, 10), (1, 0, 10), (2, 0, 10), (3, 0, 29), (4, 0, 2147483647)], [], [(0, .inr (.inr (.inl (some 94)))), (1, .inl (0, [(0, 1)])), (2, .inl (0, [(1, 1)])), (3, .inl (0, [(2, 1)])), (4, .inl (3, []))], [.inl (1, []), .inl (0, [(3, 1)]), .inr (.inr (.inl (some 191)))], [(20104, (0, []), (0, [(3, 1)]))]))] [] = true := by decide +kernel
theorem jx1_4e {cst : am_K} {strs : List Nat} {Φ : am_Q → Prop} {D : Nat} {M : am_M} {h : am_H} {l : am_L} (c : hp_C cst strs D) (hM : m_P[411]? = some M) (hD : (5 : Int) ≤ (D : Int) + 1) (hy : ly_hy m_tt ly_TH h) (a b d n u : Int) (b0 : 0 ≤ a) (t0 : a ≤ 10) (b1 : 0 ≤ b) (t1 : b ≤ 10) (b2 : 0 ≤ d) (t2 : d ≤ 10) (b3 : 0 ≤ n) (t3 : n ≤ 29) (b4 : 0 ≤ u) (t4 : u ≤ 2147483647) (k0 : ly_hv cst h 20104 0 = some (n)) (l0 : hp_a l 0 94) (l1 : hp_i l 1 (a)) (l2 : hp_i l 2 (b)) (l3 : hp_i l 3 (d)) (l4 : hp_i l 4 3) (l5 : hp_i l 5 (u)) (l6 : hp_i l 6 (u)) (l7 : hp_i l 7 (-1)) (e0 : ∀ (l' : am_L) (h' : am_H) (y0 : Int32) (y1 : Int32), y0.toInt = 1 → y1.toInt = (n) → ly_hy m_tt ly_TH h' → ly_fr cst [] h h' → h.length ≤ h'.length → ly_hv cst h' 20104 0 = some (n) → hp_a l' 0 94 → hp_i l' 1 (a) → hp_i l' 2 (b) → hp_i l' 3 (d) → hp_i l' 4 3 → hp_F cst strs Φ D M 539 l' [.int y0, .int y1, .ref 191] h') : hp_F cst strs Φ D M 493 l [] h := by
  refine hp_arc c hM jx1_4e_k hD [a, b, d, n, u] rfl hy (hp_Bc (z := a) rfl b0 t0 (hp_Bc (z := b) rfl b1 t1 (hp_Bc (z := d) rfl b2 t2 (hp_Bc (z := n) rfl b3 t3 (hp_Bc (z := u) rfl b4 t4 hp_Bn))))) hp_Fn (hp_Kc (zi := (0 + 0)) (zv := (0 + (1 * n + 0))) k0 rfl rfl (by omega) (by omega) hp_Kn) (hp_La l0 (hp_Li (z := (0 + (1 * a + 0))) l1 rfl (by omega) (hp_Li (z := (0 + (1 * b + 0))) l2 rfl (by omega) (hp_Li (z := (0 + (1 * d + 0))) l3 rfl (by omega) (hp_Li (z := (3 + 0)) l4 rfl (by omega) (hp_Li (z := (0 + (1 * u + 0))) l5 rfl (by omega) (hp_Li (z := (0 + (1 * u + 0))) l6 rfl (by omega) (hp_Li (z := ((-1) + 0)) l7 rfl (by omega) hp_Ln)))))))) trivial ?_ ?_
  · intro p hp ys l' st' h' hys a1 a2 a3 gZ gL gS
    rcases List.mem_cons.mp hp with rfl | hp
    · obtain rfl := hp_y0 hys
      obtain ⟨y0, t0, rfl, q0, g0⟩ := hp_gSi (z := (1 + 0)) gS rfl
      obtain ⟨y1, t1, rfl, q1, g1⟩ := hp_gSi (z := (0 + (1 * n + 0))) g0 rfl
      obtain ⟨t2, rfl, g2⟩ := hp_gSa g1 (by decide)
      cases hp_gSn g2
      exact e0 l' h' y0 y1 (by omega) (by omega) a1 a2 a3 (hp_gK (zi := (0 + 0)) (zv := (0 + (1 * n + 0))) gZ.2.2.2 (List.mem_of_getElem? (i := 0) rfl) rfl rfl (by omega) (by omega)) (hp_gLa gL (List.mem_of_getElem? (i := 0) rfl) (by decide)) (hp_gLi (z := (0 + (1 * a + 0))) gL (List.mem_of_getElem? (i := 1) rfl) rfl (by omega)) (hp_gLi (z := (0 + (1 * b + 0))) gL (List.mem_of_getElem? (i := 2) rfl) rfl (by omega)) (hp_gLi (z := (0 + (1 * d + 0))) gL (List.mem_of_getElem? (i := 3) rfl) rfl (by omega)) (hp_gLi (z := (3 + 0)) gL (List.mem_of_getElem? (i := 4) rfl) rfl (by omega))
    cases hp
  · intro p hp ys v h' hys a1 a2 a3 gZ gS
    cases hp
theorem jx1_4n_k : hp_chk 411 493 6 [(0, 0, 10), (1, 0, 10), (2, 0, 10), (3, 0, 29), (4, 0, 2147483647), (5, 0, 2147483647)] [] [(0, .inr (.inr (.inl (some 94)))), (1, .inl (0, [(0, 1)])), (2, .inl (0, [(1, 1)])), (3, .inl (0, [(2, 1)])), (4, .inl (3, [])), (5, .inl (0, [(4, 1)])), (6, .inl (0, [(5, 1)])), (7, .inl ((-1), []))] [] [(20104, (0, []), (0, [(3, 1)])), (61000, (0, [(4, 1), (5, (-1))]), (1, []))] [] 5 [(539, ([], 6, [(0, 0, 10), (1, 0, 10), (2, 0, 10), (3, 0, 29), (4, 0, 2147483647), (5, 0, 2147483647)], [], [(0, .inr (.inr (.inl (some 94)))), (1, .inl (0, [(0, 1)])), (2, .inl (0, [(1, 1)])), (3, .inl (0, [(2, 1)])), (4, .inl (3, []))], [.inl (0, []), .inl (0, [(3, 1)]), .inr (.inr (.inl (some 191)))], [(20104, (0, []), (0, [(3, 1)]))]))] [] = true := by decide +kernel
theorem jx1_4n {cst : am_K} {strs : List Nat} {Φ : am_Q → Prop} {D : Nat} {M : am_M} {h : am_H} {l : am_L} (c : hp_C cst strs D) (hM : m_P[411]? = some M) (hD : (5 : Int) ≤ (D : Int) + 1) (hy : ly_hy m_tt ly_TH h) (a b d n u v : Int) (b0 : 0 ≤ a) (t0 : a ≤ 10) (b1 : 0 ≤ b) (t1 : b ≤ 10) (b2 : 0 ≤ d) (t2 : d ≤ 10) (b3 : 0 ≤ n) (t3 : n ≤ 29) (b4 : 0 ≤ u) (t4 : u ≤ 2147483647) (b5 : 0 ≤ v) (t5 : v ≤ 2147483647) (k0 : ly_hv cst h 20104 0 = some (n)) (k1 : ly_hv cst h 61000 (u - v) = some 1) (l0 : hp_a l 0 94) (l1 : hp_i l 1 (a)) (l2 : hp_i l 2 (b)) (l3 : hp_i l 3 (d)) (l4 : hp_i l 4 3) (l5 : hp_i l 5 (u)) (l6 : hp_i l 6 (v)) (l7 : hp_i l 7 (-1)) (e0 : ∀ (l' : am_L) (h' : am_H) (y0 : Int32) (y1 : Int32), y0.toInt = 0 → y1.toInt = (n) → ly_hy m_tt ly_TH h' → ly_fr cst [] h h' → h.length ≤ h'.length → ly_hv cst h' 20104 0 = some (n) → hp_a l' 0 94 → hp_i l' 1 (a) → hp_i l' 2 (b) → hp_i l' 3 (d) → hp_i l' 4 3 → hp_F cst strs Φ D M 539 l' [.int y0, .int y1, .ref 191] h') : hp_F cst strs Φ D M 493 l [] h := by
  refine hp_arc c hM jx1_4n_k hD [a, b, d, n, u, v] rfl hy (hp_Bc (z := a) rfl b0 t0 (hp_Bc (z := b) rfl b1 t1 (hp_Bc (z := d) rfl b2 t2 (hp_Bc (z := n) rfl b3 t3 (hp_Bc (z := u) rfl b4 t4 (hp_Bc (z := v) rfl b5 t5 hp_Bn)))))) hp_Fn (hp_Kc (zi := (0 + 0)) (zv := (0 + (1 * n + 0))) k0 rfl rfl (by omega) (by omega) (hp_Kc (zi := (0 + (1 * u + ((-1) * v + 0)))) (zv := (1 + 0)) k1 rfl rfl (by omega) (by omega) hp_Kn)) (hp_La l0 (hp_Li (z := (0 + (1 * a + 0))) l1 rfl (by omega) (hp_Li (z := (0 + (1 * b + 0))) l2 rfl (by omega) (hp_Li (z := (0 + (1 * d + 0))) l3 rfl (by omega) (hp_Li (z := (3 + 0)) l4 rfl (by omega) (hp_Li (z := (0 + (1 * u + 0))) l5 rfl (by omega) (hp_Li (z := (0 + (1 * v + 0))) l6 rfl (by omega) (hp_Li (z := ((-1) + 0)) l7 rfl (by omega) hp_Ln)))))))) trivial ?_ ?_
  · intro p hp ys l' st' h' hys a1 a2 a3 gZ gL gS
    rcases List.mem_cons.mp hp with rfl | hp
    · obtain rfl := hp_y0 hys
      obtain ⟨y0, t0, rfl, q0, g0⟩ := hp_gSi (z := (0 + 0)) gS rfl
      obtain ⟨y1, t1, rfl, q1, g1⟩ := hp_gSi (z := (0 + (1 * n + 0))) g0 rfl
      obtain ⟨t2, rfl, g2⟩ := hp_gSa g1 (by decide)
      cases hp_gSn g2
      exact e0 l' h' y0 y1 (by omega) (by omega) a1 a2 a3 (hp_gK (zi := (0 + 0)) (zv := (0 + (1 * n + 0))) gZ.2.2.2 (List.mem_of_getElem? (i := 0) rfl) rfl rfl (by omega) (by omega)) (hp_gLa gL (List.mem_of_getElem? (i := 0) rfl) (by decide)) (hp_gLi (z := (0 + (1 * a + 0))) gL (List.mem_of_getElem? (i := 1) rfl) rfl (by omega)) (hp_gLi (z := (0 + (1 * b + 0))) gL (List.mem_of_getElem? (i := 2) rfl) rfl (by omega)) (hp_gLi (z := (0 + (1 * d + 0))) gL (List.mem_of_getElem? (i := 3) rfl) rfl (by omega)) (hp_gLi (z := (3 + 0)) gL (List.mem_of_getElem? (i := 4) rfl) rfl (by omega))
    cases hp
  · intro p hp ys v h' hys a1 a2 a3 gZ gS
    cases hp
theorem jx1_5_k : hp_chk 411 540 7 [(0, 0, 10), (1, 0, 10), (2, 0, 10), (3, 0, 10), (4, 0, 10), (5, 0, 10), (6, 0, 29)] [((-1), [(0, (-1)), (3, 1)]), ((-1), [(1, (-1)), (4, 1)])] [(0, .inr (.inr (.inl (some 94)))), (1, .inl (0, [(0, 1)])), (2, .inl (0, [(1, 1)])), (3, .inl (0, [(2, 1)])), (4, .inl (3, []))] [] [(20104, (0, []), (0, [(6, 1)]))] [20104] 5 [(216, ([], 7, [(0, 0, 10), (1, 0, 10), (2, 0, 10), (3, 0, 10), (4, 0, 10), (5, 0, 10), (6, 0, 29)], [], [(0, .inr (.inr (.inl (some 94)))), (1, .inl (1, [(0, 1)])), (2, .inl (1, [(1, 1)])), (3, .inl (0, [(2, 1)]))], [], [(20104, (0, []), (1, [(6, 1)]))]))] [] = true := by decide +kernel
theorem jx1_5 {cst : am_K} {strs : List Nat} {Φ : am_Q → Prop} {D : Nat} {M : am_M} {h : am_H} {l : am_L} (c : hp_C cst strs D) (hM : m_P[411]? = some M) (hD : (5 : Int) ≤ (D : Int) + 1) (hy : ly_hy m_tt ly_TH h) (a b d ma mb md n : Int) (b0 : 0 ≤ a) (t0 : a ≤ 10) (b1 : 0 ≤ b) (t1 : b ≤ 10) (b2 : 0 ≤ d) (t2 : d ≤ 10) (b3 : 0 ≤ ma) (t3 : ma ≤ 10) (b4 : 0 ≤ mb) (t4 : mb ≤ 10) (b5 : 0 ≤ md) (t5 : md ≤ 10) (b6 : 0 ≤ n) (t6 : n ≤ 29) (f0 : 0 ≤ (ma - a - 1)) (f1 : 0 ≤ (mb - b - 1)) (k0 : ly_hv cst h 20104 0 = some (n)) (l0 : hp_a l 0 94) (l1 : hp_i l 1 (a)) (l2 : hp_i l 2 (b)) (l3 : hp_i l 3 (d)) (l4 : hp_i l 4 3) (e0 : ∀ (l' : am_L) (h' : am_H), ly_hy m_tt ly_TH h' → ly_fr cst [20104] h h' → h.length ≤ h'.length → ly_hv cst h' 20104 0 = some (n + 1) → hp_a l' 0 94 → hp_i l' 1 (a + 1) → hp_i l' 2 (b + 1) → hp_i l' 3 (d) → hp_F cst strs Φ D M 216 l' [] h') : hp_F cst strs Φ D M 540 l [] h := by
  refine hp_arc c hM jx1_5_k hD [a, b, d, ma, mb, md, n] rfl hy (hp_Bc (z := a) rfl b0 t0 (hp_Bc (z := b) rfl b1 t1 (hp_Bc (z := d) rfl b2 t2 (hp_Bc (z := ma) rfl b3 t3 (hp_Bc (z := mb) rfl b4 t4 (hp_Bc (z := md) rfl b5 t5 (hp_Bc (z := n) rfl b6 t6 hp_Bn))))))) (hp_Fc (z := ((-1) + ((-1) * a + (1 * ma + 0)))) rfl (by omega) (hp_Fc (z := ((-1) + ((-1) * b + (1 * mb + 0)))) rfl (by omega) hp_Fn)) (hp_Kc (zi := (0 + 0)) (zv := (0 + (1 * n + 0))) k0 rfl rfl (by omega) (by omega) hp_Kn) (hp_La l0 (hp_Li (z := (0 + (1 * a + 0))) l1 rfl (by omega) (hp_Li (z := (0 + (1 * b + 0))) l2 rfl (by omega) (hp_Li (z := (0 + (1 * d + 0))) l3 rfl (by omega) (hp_Li (z := (3 + 0)) l4 rfl (by omega) hp_Ln))))) trivial ?_ ?_
  · intro p hp ys l' st' h' hys a1 a2 a3 gZ gL gS
    rcases List.mem_cons.mp hp with rfl | hp
    · obtain rfl := hp_y0 hys
      cases hp_gSn gS
      exact e0 l' h' a1 a2 a3 (hp_gK (zi := (0 + 0)) (zv := (1 + (1 * n + 0))) gZ.2.2.2 (List.mem_of_getElem? (i := 0) rfl) rfl rfl (by omega) (by omega)) (hp_gLa gL (List.mem_of_getElem? (i := 0) rfl) (by decide)) (hp_gLi (z := (1 + (1 * a + 0))) gL (List.mem_of_getElem? (i := 1) rfl) rfl (by omega)) (hp_gLi (z := (1 + (1 * b + 0))) gL (List.mem_of_getElem? (i := 2) rfl) rfl (by omega)) (hp_gLi (z := (0 + (1 * d + 0))) gL (List.mem_of_getElem? (i := 3) rfl) rfl (by omega))
    cases hp
  · intro p hp ys v h' hys a1 a2 a3 gZ gS
    cases hp
theorem jx2_1_k : hp_chk 411 286 11 [(0, 0, 10), (1, 0, 10), (2, 0, 10), (3, 0, 10), (4, 0, 10), (5, 0, 10), (6, 0, 12), (7, 0, 360), (8, 0, 29), (9, 0, 2147483647), (10, 0, 2147483647)] [((-1), [(0, (-1)), (3, 1)]), ((-1), [(2, (-1)), (5, 1)])] [(0, .inr (.inr (.inl (some 94)))), (1, .inl (0, [(0, 1)])), (2, .inl (0, [(1, 1)])), (3, .inl (0, [(2, 1)])), (4, .inl (0, [])), (5, .inl (2, [])), (6, .inl (5, []))] [.inl (0, [(6, 1)])] [(44288, (0, []), (0, [(3, 1)])), (44288, (1, []), (0, [(4, 1)])), (44288, (2, []), (0, [(5, 1)])), (45056, (122, [(0, 121), (1, 11), (2, 1)]), (0, [(7, 1)])), (45056, (0, [(0, 121), (1, 11), (2, 1)]), (0, [(6, 1), (7, 1)])), (20104, (0, []), (0, [(8, 1)])), (44032, (0, [(0, 1)]), (0, [(9, 1)])), (44032, (20, [(2, 1)]), (0, [(10, 1)]))] [] 5 [(438, ([], 11, [(0, 0, 10), (1, 0, 10), (2, 0, 10), (3, 0, 10), (4, 0, 10), (5, 0, 10), (6, 0, 12), (7, 0, 360), (8, 0, 29), (9, 0, 2147483647), (10, 0, 2147483647)], [], [(0, .inr (.inr (.inl (some 94)))), (1, .inl (0, [(0, 1)])), (2, .inl (0, [(1, 1)])), (3, .inl (0, [(2, 1)])), (4, .inl (5, [])), (5, .inl (0, [(9, 1)])), (6, .inl ((-1), [])), (7, .inl (0, [(10, 1)]))], [.inl (0, [(0, 1)]), .inl (0, [(8, 3)]), .inr (.inr (.inl (some 190)))], [(20104, (0, []), (0, [(8, 1)]))]))] [] = true := by decide +kernel
theorem jx2_1 {cst : am_K} {strs : List Nat} {Φ : am_Q → Prop} {D : Nat} {M : am_M} {h : am_H} {l : am_L} (c : hp_C cst strs D) (hM : m_P[411]? = some M) (hD : (5 : Int) ≤ (D : Int) + 1) (hy : ly_hy m_tt ly_TH h) (a b d ma mb md k y n u w : Int) (x0 : Int32) (hx0 : x0.toInt = (k)) (b0 : 0 ≤ a) (t0 : a ≤ 10) (b1 : 0 ≤ b) (t1 : b ≤ 10) (b2 : 0 ≤ d) (t2 : d ≤ 10) (b3 : 0 ≤ ma) (t3 : ma ≤ 10) (b4 : 0 ≤ mb) (t4 : mb ≤ 10) (b5 : 0 ≤ md) (t5 : md ≤ 10) (b6 : 0 ≤ k) (t6 : k ≤ 12) (b7 : 0 ≤ y) (t7 : y ≤ 360) (b8 : 0 ≤ n) (t8 : n ≤ 29) (b9 : 0 ≤ u) (t9 : u ≤ 2147483647) (b10 : 0 ≤ w) (t10 : w ≤ 2147483647) (f0 : 0 ≤ (ma - a - 1)) (f1 : 0 ≤ (md - d - 1)) (k0 : ly_hv cst h 44288 0 = some (ma)) (k1 : ly_hv cst h 44288 1 = some (mb)) (k2 : ly_hv cst h 44288 2 = some (md)) (k3 : ly_hv cst h 45056 (121 * a + 11 * b + d + 122) = some (y)) (k4 : ly_hv cst h 45056 (121 * a + 11 * b + d) = some (k + y)) (k5 : ly_hv cst h 20104 0 = some (n)) (k6 : ly_hv cst h 44032 (a) = some (u)) (k7 : ly_hv cst h 44032 (d + 20) = some (w)) (l0 : hp_a l 0 94) (l1 : hp_i l 1 (a)) (l2 : hp_i l 2 (b)) (l3 : hp_i l 3 (d)) (l4 : hp_i l 4 0) (l5 : hp_i l 5 2) (l6 : hp_i l 6 5) (e0 : ∀ (l' : am_L) (h' : am_H) (y0 : Int32) (y1 : Int32), y0.toInt = (a) → y1.toInt = (3 * n) → ly_hy m_tt ly_TH h' → ly_fr cst [] h h' → h.length ≤ h'.length → ly_hv cst h' 20104 0 = some (n) → hp_a l' 0 94 → hp_i l' 1 (a) → hp_i l' 2 (b) → hp_i l' 3 (d) → hp_i l' 4 5 → hp_i l' 5 (u) → hp_i l' 6 (-1) → hp_i l' 7 (w) → hp_F cst strs Φ D M 438 l' [.int y0, .int y1, .ref 190] h') : hp_F cst strs Φ D M 286 l [.int x0] h := by
  refine hp_arc c hM jx2_1_k hD [a, b, d, ma, mb, md, k, y, n, u, w] rfl hy (hp_Bc (z := a) rfl b0 t0 (hp_Bc (z := b) rfl b1 t1 (hp_Bc (z := d) rfl b2 t2 (hp_Bc (z := ma) rfl b3 t3 (hp_Bc (z := mb) rfl b4 t4 (hp_Bc (z := md) rfl b5 t5 (hp_Bc (z := k) rfl b6 t6 (hp_Bc (z := y) rfl b7 t7 (hp_Bc (z := n) rfl b8 t8 (hp_Bc (z := u) rfl b9 t9 (hp_Bc (z := w) rfl b10 t10 hp_Bn))))))))))) (hp_Fc (z := ((-1) + ((-1) * a + (1 * ma + 0)))) rfl (by omega) (hp_Fc (z := ((-1) + ((-1) * d + (1 * md + 0)))) rfl (by omega) hp_Fn)) (hp_Kc (zi := (0 + 0)) (zv := (0 + (1 * ma + 0))) k0 rfl rfl (by omega) (by omega) (hp_Kc (zi := (1 + 0)) (zv := (0 + (1 * mb + 0))) k1 rfl rfl (by omega) (by omega) (hp_Kc (zi := (2 + 0)) (zv := (0 + (1 * md + 0))) k2 rfl rfl (by omega) (by omega) (hp_Kc (zi := (122 + (121 * a + (11 * b + (1 * d + 0))))) (zv := (0 + (1 * y + 0))) k3 rfl rfl (by omega) (by omega) (hp_Kc (zi := (0 + (121 * a + (11 * b + (1 * d + 0))))) (zv := (0 + (1 * k + (1 * y + 0)))) k4 rfl rfl (by omega) (by omega) (hp_Kc (zi := (0 + 0)) (zv := (0 + (1 * n + 0))) k5 rfl rfl (by omega) (by omega) (hp_Kc (zi := (0 + (1 * a + 0))) (zv := (0 + (1 * u + 0))) k6 rfl rfl (by omega) (by omega) (hp_Kc (zi := (20 + (1 * d + 0))) (zv := (0 + (1 * w + 0))) k7 rfl rfl (by omega) (by omega) hp_Kn)))))))) (hp_La l0 (hp_Li (z := (0 + (1 * a + 0))) l1 rfl (by omega) (hp_Li (z := (0 + (1 * b + 0))) l2 rfl (by omega) (hp_Li (z := (0 + (1 * d + 0))) l3 rfl (by omega) (hp_Li (z := (0 + 0)) l4 rfl (by omega) (hp_Li (z := (2 + 0)) l5 rfl (by omega) (hp_Li (z := (5 + 0)) l6 rfl (by omega) hp_Ln))))))) (hp_Si (z := (0 + (1 * k + 0))) rfl (by omega) trivial) ?_ ?_
  · intro p hp ys l' st' h' hys a1 a2 a3 gZ gL gS
    rcases List.mem_cons.mp hp with rfl | hp
    · obtain rfl := hp_y0 hys
      obtain ⟨y0, t0, rfl, q0, g0⟩ := hp_gSi (z := (0 + (1 * a + 0))) gS rfl
      obtain ⟨y1, t1, rfl, q1, g1⟩ := hp_gSi (z := (0 + (3 * n + 0))) g0 rfl
      obtain ⟨t2, rfl, g2⟩ := hp_gSa g1 (by decide)
      cases hp_gSn g2
      exact e0 l' h' y0 y1 (by omega) (by omega) a1 a2 a3 (hp_gK (zi := (0 + 0)) (zv := (0 + (1 * n + 0))) gZ.2.2.2 (List.mem_of_getElem? (i := 0) rfl) rfl rfl (by omega) (by omega)) (hp_gLa gL (List.mem_of_getElem? (i := 0) rfl) (by decide)) (hp_gLi (z := (0 + (1 * a + 0))) gL (List.mem_of_getElem? (i := 1) rfl) rfl (by omega)) (hp_gLi (z := (0 + (1 * b + 0))) gL (List.mem_of_getElem? (i := 2) rfl) rfl (by omega)) (hp_gLi (z := (0 + (1 * d + 0))) gL (List.mem_of_getElem? (i := 3) rfl) rfl (by omega)) (hp_gLi (z := (5 + 0)) gL (List.mem_of_getElem? (i := 4) rfl) rfl (by omega)) (hp_gLi (z := (0 + (1 * u + 0))) gL (List.mem_of_getElem? (i := 5) rfl) rfl (by omega)) (hp_gLi (z := ((-1) + 0)) gL (List.mem_of_getElem? (i := 6) rfl) rfl (by omega)) (hp_gLi (z := (0 + (1 * w + 0))) gL (List.mem_of_getElem? (i := 7) rfl) rfl (by omega))
    cases hp
  · intro p hp ys v h' hys a1 a2 a3 gZ gS
    cases hp
theorem jx2_2_k : hp_chk 411 439 6 [(0, 0, 10), (1, 0, 10), (2, 0, 10), (3, 0, 29), (4, 0, 2147483647), (5, 0, 2147483647)] [] [(0, .inr (.inr (.inl (some 94)))), (1, .inl (0, [(0, 1)])), (2, .inl (0, [(1, 1)])), (3, .inl (0, [(2, 1)])), (4, .inl (5, [])), (5, .inl (0, [(4, 1)])), (6, .inl ((-1), [])), (7, .inl (0, [(5, 1)]))] [] [(20104, (0, []), (0, [(3, 1)]))] [] 5 [(465, ([], 6, [(0, 0, 10), (1, 0, 10), (2, 0, 10), (3, 0, 29), (4, 0, 2147483647), (5, 0, 2147483647)], [], [(0, .inr (.inr (.inl (some 94)))), (1, .inl (0, [(0, 1)])), (2, .inl (0, [(1, 1)])), (3, .inl (0, [(2, 1)])), (4, .inl (5, [])), (5, .inl (0, [(4, 1)])), (6, .inl ((-1), [])), (7, .inl (0, [(5, 1)]))], [.inl ((-1), []), .inl (1, [(3, 3)]), .inr (.inr (.inl (some 190)))], [(20104, (0, []), (0, [(3, 1)]))]))] [] = true := by decide +kernel
theorem jx2_2 {cst : am_K} {strs : List Nat} {Φ : am_Q → Prop} {D : Nat} {M : am_M} {h : am_H} {l : am_L} (c : hp_C cst strs D) (hM : m_P[411]? = some M) (hD : (5 : Int) ≤ (D : Int) + 1) (hy : ly_hy m_tt ly_TH h) (a b d n u w : Int) (b0 : 0 ≤ a) (t0 : a ≤ 10) (b1 : 0 ≤ b) (t1 : b ≤ 10) (b2 : 0 ≤ d) (t2 : d ≤ 10) (b3 : 0 ≤ n) (t3 : n ≤ 29) (b4 : 0 ≤ u) (t4 : u ≤ 2147483647) (b5 : 0 ≤ w) (t5 : w ≤ 2147483647) (k0 : ly_hv cst h 20104 0 = some (n)) (l0 : hp_a l 0 94) (l1 : hp_i l 1 (a)) (l2 : hp_i l 2 (b)) (l3 : hp_i l 3 (d)) (l4 : hp_i l 4 5) (l5 : hp_i l 5 (u)) (l6 : hp_i l 6 (-1)) (l7 : hp_i l 7 (w)) (e0 : ∀ (l' : am_L) (h' : am_H) (y0 : Int32) (y1 : Int32), y0.toInt = (-1) → y1.toInt = (3 * n + 1) → ly_hy m_tt ly_TH h' → ly_fr cst [] h h' → h.length ≤ h'.length → ly_hv cst h' 20104 0 = some (n) → hp_a l' 0 94 → hp_i l' 1 (a) → hp_i l' 2 (b) → hp_i l' 3 (d) → hp_i l' 4 5 → hp_i l' 5 (u) → hp_i l' 6 (-1) → hp_i l' 7 (w) → hp_F cst strs Φ D M 465 l' [.int y0, .int y1, .ref 190] h') : hp_F cst strs Φ D M 439 l [] h := by
  refine hp_arc c hM jx2_2_k hD [a, b, d, n, u, w] rfl hy (hp_Bc (z := a) rfl b0 t0 (hp_Bc (z := b) rfl b1 t1 (hp_Bc (z := d) rfl b2 t2 (hp_Bc (z := n) rfl b3 t3 (hp_Bc (z := u) rfl b4 t4 (hp_Bc (z := w) rfl b5 t5 hp_Bn)))))) hp_Fn (hp_Kc (zi := (0 + 0)) (zv := (0 + (1 * n + 0))) k0 rfl rfl (by omega) (by omega) hp_Kn) (hp_La l0 (hp_Li (z := (0 + (1 * a + 0))) l1 rfl (by omega) (hp_Li (z := (0 + (1 * b + 0))) l2 rfl (by omega) (hp_Li (z := (0 + (1 * d + 0))) l3 rfl (by omega) (hp_Li (z := (5 + 0)) l4 rfl (by omega) (hp_Li (z := (0 + (1 * u + 0))) l5 rfl (by omega) (hp_Li (z := ((-1) + 0)) l6 rfl (by omega) (hp_Li (z := (0 + (1 * w + 0))) l7 rfl (by omega) hp_Ln)))))))) trivial ?_ ?_
  · intro p hp ys l' st' h' hys a1 a2 a3 gZ gL gS
    rcases List.mem_cons.mp hp with rfl | hp
    · obtain rfl := hp_y0 hys
      obtain ⟨y0, t0, rfl, q0, g0⟩ := hp_gSi (z := ((-1) + 0)) gS rfl
      obtain ⟨y1, t1, rfl, q1, g1⟩ := hp_gSi (z := (1 + (3 * n + 0))) g0 rfl
      obtain ⟨t2, rfl, g2⟩ := hp_gSa g1 (by decide)
      cases hp_gSn g2
      exact e0 l' h' y0 y1 (by omega) (by omega) a1 a2 a3 (hp_gK (zi := (0 + 0)) (zv := (0 + (1 * n + 0))) gZ.2.2.2 (List.mem_of_getElem? (i := 0) rfl) rfl rfl (by omega) (by omega)) (hp_gLa gL (List.mem_of_getElem? (i := 0) rfl) (by decide)) (hp_gLi (z := (0 + (1 * a + 0))) gL (List.mem_of_getElem? (i := 1) rfl) rfl (by omega)) (hp_gLi (z := (0 + (1 * b + 0))) gL (List.mem_of_getElem? (i := 2) rfl) rfl (by omega)) (hp_gLi (z := (0 + (1 * d + 0))) gL (List.mem_of_getElem? (i := 3) rfl) rfl (by omega)) (hp_gLi (z := (5 + 0)) gL (List.mem_of_getElem? (i := 4) rfl) rfl (by omega)) (hp_gLi (z := (0 + (1 * u + 0))) gL (List.mem_of_getElem? (i := 5) rfl) rfl (by omega)) (hp_gLi (z := ((-1) + 0)) gL (List.mem_of_getElem? (i := 6) rfl) rfl (by omega)) (hp_gLi (z := (0 + (1 * w + 0))) gL (List.mem_of_getElem? (i := 7) rfl) rfl (by omega))
    cases hp
  · intro p hp ys v h' hys a1 a2 a3 gZ gS
    cases hp
theorem jx2_3_k : hp_chk 411 466 6 [(0, 0, 10), (1, 0, 10), (2, 0, 10), (3, 0, 29), (4, 0, 2147483647), (5, 0, 2147483647)] [] [(0, .inr (.inr (.inl (some 94)))), (1, .inl (0, [(0, 1)])), (2, .inl (0, [(1, 1)])), (3, .inl (0, [(2, 1)])), (4, .inl (5, [])), (5, .inl (0, [(4, 1)])), (6, .inl ((-1), [])), (7, .inl (0, [(5, 1)]))] [] [(20104, (0, []), (0, [(3, 1)]))] [] 5 [(492, ([], 6, [(0, 0, 10), (1, 0, 10), (2, 0, 10), (3, 0, 29), (4, 0, 2147483647), (5, 0, 2147483647)], [], [(0, .inr (.inr (.inl (some 94)))), (1, .inl (0, [(0, 1)])), (2, .inl (0, [(1, 1)])), (3, .inl (0, [(2, 1)])), (4, .inl (5, [])), (5, .inl (0, [(4, 1)])), (6, .inl ((-1), [])), (7, .inl (0, [(5, 1)]))], [.inl (0, [(2, 1)]), .inl (2, [(3, 3)]), .inr (.inr (.inl (some 190)))], [(20104, (0, []), (0, [(3, 1)]))]))] [] = true := by decide +kernel
theorem jx2_3 {cst : am_K} {strs : List Nat} {Φ : am_Q → Prop} {D : Nat} {M : am_M} {h : am_H} {l : am_L} (c : hp_C cst strs D) (hM : m_P[411]? = some M) (hD : (5 : Int) ≤ (D : Int) + 1) (hy : ly_hy m_tt ly_TH h) (a b d n u w : Int) (b0 : 0 ≤ a) (t0 : a ≤ 10) (b1 : 0 ≤ b) (t1 : b ≤ 10) (b2 : 0 ≤ d) (t2 : d ≤ 10) (b3 : 0 ≤ n) (t3 : n ≤ 29) (b4 : 0 ≤ u) (t4 : u ≤ 2147483647) (b5 : 0 ≤ w) (t5 : w ≤ 2147483647) (k0 : ly_hv cst h 20104 0 = some (n)) (l0 : hp_a l 0 94) (l1 : hp_i l 1 (a)) (l2 : hp_i l 2 (b)) (l3 : hp_i l 3 (d)) (l4 : hp_i l 4 5) (l5 : hp_i l 5 (u)) (l6 : hp_i l 6 (-1)) (l7 : hp_i l 7 (w)) (e0 : ∀ (l' : am_L) (h' : am_H) (y0 : Int32) (y1 : Int32), y0.toInt = (d) → y1.toInt = (3 * n + 2) → ly_hy m_tt ly_TH h' → ly_fr cst [] h h' → h.length ≤ h'.length → ly_hv cst h' 20104 0 = some (n) → hp_a l' 0 94 → hp_i l' 1 (a) → hp_i l' 2 (b) → hp_i l' 3 (d) → hp_i l' 4 5 → hp_i l' 5 (u) → hp_i l' 6 (-1) → hp_i l' 7 (w) → hp_F cst strs Φ D M 492 l' [.int y0, .int y1, .ref 190] h') : hp_F cst strs Φ D M 466 l [] h := by
  refine hp_arc c hM jx2_3_k hD [a, b, d, n, u, w] rfl hy (hp_Bc (z := a) rfl b0 t0 (hp_Bc (z := b) rfl b1 t1 (hp_Bc (z := d) rfl b2 t2 (hp_Bc (z := n) rfl b3 t3 (hp_Bc (z := u) rfl b4 t4 (hp_Bc (z := w) rfl b5 t5 hp_Bn)))))) hp_Fn (hp_Kc (zi := (0 + 0)) (zv := (0 + (1 * n + 0))) k0 rfl rfl (by omega) (by omega) hp_Kn) (hp_La l0 (hp_Li (z := (0 + (1 * a + 0))) l1 rfl (by omega) (hp_Li (z := (0 + (1 * b + 0))) l2 rfl (by omega) (hp_Li (z := (0 + (1 * d + 0))) l3 rfl (by omega) (hp_Li (z := (5 + 0)) l4 rfl (by omega) (hp_Li (z := (0 + (1 * u + 0))) l5 rfl (by omega) (hp_Li (z := ((-1) + 0)) l6 rfl (by omega) (hp_Li (z := (0 + (1 * w + 0))) l7 rfl (by omega) hp_Ln)))))))) trivial ?_ ?_
  · intro p hp ys l' st' h' hys a1 a2 a3 gZ gL gS
    rcases List.mem_cons.mp hp with rfl | hp
    · obtain rfl := hp_y0 hys
      obtain ⟨y0, t0, rfl, q0, g0⟩ := hp_gSi (z := (0 + (1 * d + 0))) gS rfl
      obtain ⟨y1, t1, rfl, q1, g1⟩ := hp_gSi (z := (2 + (3 * n + 0))) g0 rfl
      obtain ⟨t2, rfl, g2⟩ := hp_gSa g1 (by decide)
      cases hp_gSn g2
      exact e0 l' h' y0 y1 (by omega) (by omega) a1 a2 a3 (hp_gK (zi := (0 + 0)) (zv := (0 + (1 * n + 0))) gZ.2.2.2 (List.mem_of_getElem? (i := 0) rfl) rfl rfl (by omega) (by omega)) (hp_gLa gL (List.mem_of_getElem? (i := 0) rfl) (by decide)) (hp_gLi (z := (0 + (1 * a + 0))) gL (List.mem_of_getElem? (i := 1) rfl) rfl (by omega)) (hp_gLi (z := (0 + (1 * b + 0))) gL (List.mem_of_getElem? (i := 2) rfl) rfl (by omega)) (hp_gLi (z := (0 + (1 * d + 0))) gL (List.mem_of_getElem? (i := 3) rfl) rfl (by omega)) (hp_gLi (z := (5 + 0)) gL (List.mem_of_getElem? (i := 4) rfl) rfl (by omega)) (hp_gLi (z := (0 + (1 * u + 0))) gL (List.mem_of_getElem? (i := 5) rfl) rfl (by omega)) (hp_gLi (z := ((-1) + 0)) gL (List.mem_of_getElem? (i := 6) rfl) rfl (by omega)) (hp_gLi (z := (0 + (1 * w + 0))) gL (List.mem_of_getElem? (i := 7) rfl) rfl (by omega))
    cases hp
  · intro p hp ys v h' hys a1 a2 a3 gZ gS
    cases hp
theorem jx2_4e_k : hp_chk 411 493 5 [(0, 0, 10), (1, 0, 10), (2, 0, 10), (3, 0, 29), (4, 0, 2147483647)] [] [(0, .inr (.inr (.inl (some 94)))), (1, .inl (0, [(0, 1)])), (2, .inl (0, [(1, 1)])), (3, .inl (0, [(2, 1)])), (4, .inl (5, [])), (5, .inl (0, [(4, 1)])), (6, .inl ((-1), [])), (7, .inl (0, [(4, 1)]))] [] [(20104, (0, []), (0, [(3, 1)]))] [] 5 [(539, ([], 5, [(0, 0, 10), (1, 0, 10), (2, 0, 10), (3, 0, 29), (4, 0, 2147483647)], [], [(0, .inr (.inr (.inl (some 94)))), (1, .inl (0, [(0, 1)])), (2, .inl (0, [(1, 1)])), (3, .inl (0, [(2, 1)])), (4, .inl (5, []))], [.inl (1, []), .inl (0, [(3, 1)]), .inr (.inr (.inl (some 191)))], [(20104, (0, []), (0, [(3, 1)]))]))] [] = true := by decide +kernel
theorem jx2_4e {cst : am_K} {strs : List Nat} {Φ : am_Q → Prop} {D : Nat} {M : am_M} {h : am_H} {l : am_L} (c : hp_C cst strs D) (hM : m_P[411]? = some M) (hD : (5 : Int) ≤ (D : Int) + 1) (hy : ly_hy m_tt ly_TH h) (a b d n u : Int) (b0 : 0 ≤ a) (t0 : a ≤ 10) (b1 : 0 ≤ b) (t1 : b ≤ 10) (b2 : 0 ≤ d) (t2 : d ≤ 10) (b3 : 0 ≤ n) (t3 : n ≤ 29) (b4 : 0 ≤ u) (t4 : u ≤ 2147483647) (k0 : ly_hv cst h 20104 0 = some (n)) (l0 : hp_a l 0 94) (l1 : hp_i l 1 (a)) (l2 : hp_i l 2 (b)) (l3 : hp_i l 3 (d)) (l4 : hp_i l 4 5) (l5 : hp_i l 5 (u)) (l6 : hp_i l 6 (-1)) (l7 : hp_i l 7 (u)) (e0 : ∀ (l' : am_L) (h' : am_H) (y0 : Int32) (y1 : Int32), y0.toInt = 1 → y1.toInt = (n) → ly_hy m_tt ly_TH h' → ly_fr cst [] h h' → h.length ≤ h'.length → ly_hv cst h' 20104 0 = some (n) → hp_a l' 0 94 → hp_i l' 1 (a) → hp_i l' 2 (b) → hp_i l' 3 (d) → hp_i l' 4 5 → hp_F cst strs Φ D M 539 l' [.int y0, .int y1, .ref 191] h') : hp_F cst strs Φ D M 493 l [] h := by
  refine hp_arc c hM jx2_4e_k hD [a, b, d, n, u] rfl hy (hp_Bc (z := a) rfl b0 t0 (hp_Bc (z := b) rfl b1 t1 (hp_Bc (z := d) rfl b2 t2 (hp_Bc (z := n) rfl b3 t3 (hp_Bc (z := u) rfl b4 t4 hp_Bn))))) hp_Fn (hp_Kc (zi := (0 + 0)) (zv := (0 + (1 * n + 0))) k0 rfl rfl (by omega) (by omega) hp_Kn) (hp_La l0 (hp_Li (z := (0 + (1 * a + 0))) l1 rfl (by omega) (hp_Li (z := (0 + (1 * b + 0))) l2 rfl (by omega) (hp_Li (z := (0 + (1 * d + 0))) l3 rfl (by omega) (hp_Li (z := (5 + 0)) l4 rfl (by omega) (hp_Li (z := (0 + (1 * u + 0))) l5 rfl (by omega) (hp_Li (z := ((-1) + 0)) l6 rfl (by omega) (hp_Li (z := (0 + (1 * u + 0))) l7 rfl (by omega) hp_Ln)))))))) trivial ?_ ?_
  · intro p hp ys l' st' h' hys a1 a2 a3 gZ gL gS
    rcases List.mem_cons.mp hp with rfl | hp
    · obtain rfl := hp_y0 hys
      obtain ⟨y0, t0, rfl, q0, g0⟩ := hp_gSi (z := (1 + 0)) gS rfl
      obtain ⟨y1, t1, rfl, q1, g1⟩ := hp_gSi (z := (0 + (1 * n + 0))) g0 rfl
      obtain ⟨t2, rfl, g2⟩ := hp_gSa g1 (by decide)
      cases hp_gSn g2
      exact e0 l' h' y0 y1 (by omega) (by omega) a1 a2 a3 (hp_gK (zi := (0 + 0)) (zv := (0 + (1 * n + 0))) gZ.2.2.2 (List.mem_of_getElem? (i := 0) rfl) rfl rfl (by omega) (by omega)) (hp_gLa gL (List.mem_of_getElem? (i := 0) rfl) (by decide)) (hp_gLi (z := (0 + (1 * a + 0))) gL (List.mem_of_getElem? (i := 1) rfl) rfl (by omega)) (hp_gLi (z := (0 + (1 * b + 0))) gL (List.mem_of_getElem? (i := 2) rfl) rfl (by omega)) (hp_gLi (z := (0 + (1 * d + 0))) gL (List.mem_of_getElem? (i := 3) rfl) rfl (by omega)) (hp_gLi (z := (5 + 0)) gL (List.mem_of_getElem? (i := 4) rfl) rfl (by omega))
    cases hp
  · intro p hp ys v h' hys a1 a2 a3 gZ gS
    cases hp
theorem jx2_4n_k : hp_chk 411 493 6 [(0, 0, 10), (1, 0, 10), (2, 0, 10), (3, 0, 29), (4, 0, 2147483647), (5, 0, 2147483647)] [] [(0, .inr (.inr (.inl (some 94)))), (1, .inl (0, [(0, 1)])), (2, .inl (0, [(1, 1)])), (3, .inl (0, [(2, 1)])), (4, .inl (5, [])), (5, .inl (0, [(4, 1)])), (6, .inl ((-1), [])), (7, .inl (0, [(5, 1)]))] [] [(20104, (0, []), (0, [(3, 1)])), (61000, (0, [(4, 1), (5, (-1))]), (1, []))] [] 5 [(539, ([], 6, [(0, 0, 10), (1, 0, 10), (2, 0, 10), (3, 0, 29), (4, 0, 2147483647), (5, 0, 2147483647)], [], [(0, .inr (.inr (.inl (some 94)))), (1, .inl (0, [(0, 1)])), (2, .inl (0, [(1, 1)])), (3, .inl (0, [(2, 1)])), (4, .inl (5, []))], [.inl (0, []), .inl (0, [(3, 1)]), .inr (.inr (.inl (some 191)))], [(20104, (0, []), (0, [(3, 1)]))]))] [] = true := by decide +kernel
theorem jx2_4n {cst : am_K} {strs : List Nat} {Φ : am_Q → Prop} {D : Nat} {M : am_M} {h : am_H} {l : am_L} (c : hp_C cst strs D) (hM : m_P[411]? = some M) (hD : (5 : Int) ≤ (D : Int) + 1) (hy : ly_hy m_tt ly_TH h) (a b d n u w : Int) (b0 : 0 ≤ a) (t0 : a ≤ 10) (b1 : 0 ≤ b) (t1 : b ≤ 10) (b2 : 0 ≤ d) (t2 : d ≤ 10) (b3 : 0 ≤ n) (t3 : n ≤ 29) (b4 : 0 ≤ u) (t4 : u ≤ 2147483647) (b5 : 0 ≤ w) (t5 : w ≤ 2147483647) (k0 : ly_hv cst h 20104 0 = some (n)) (k1 : ly_hv cst h 61000 (u - w) = some 1) (l0 : hp_a l 0 94) (l1 : hp_i l 1 (a)) (l2 : hp_i l 2 (b)) (l3 : hp_i l 3 (d)) (l4 : hp_i l 4 5) (l5 : hp_i l 5 (u)) (l6 : hp_i l 6 (-1)) (l7 : hp_i l 7 (w)) (e0 : ∀ (l' : am_L) (h' : am_H) (y0 : Int32) (y1 : Int32), y0.toInt = 0 → y1.toInt = (n) → ly_hy m_tt ly_TH h' → ly_fr cst [] h h' → h.length ≤ h'.length → ly_hv cst h' 20104 0 = some (n) → hp_a l' 0 94 → hp_i l' 1 (a) → hp_i l' 2 (b) → hp_i l' 3 (d) → hp_i l' 4 5 → hp_F cst strs Φ D M 539 l' [.int y0, .int y1, .ref 191] h') : hp_F cst strs Φ D M 493 l [] h := by
  refine hp_arc c hM jx2_4n_k hD [a, b, d, n, u, w] rfl hy (hp_Bc (z := a) rfl b0 t0 (hp_Bc (z := b) rfl b1 t1 (hp_Bc (z := d) rfl b2 t2 (hp_Bc (z := n) rfl b3 t3 (hp_Bc (z := u) rfl b4 t4 (hp_Bc (z := w) rfl b5 t5 hp_Bn)))))) hp_Fn (hp_Kc (zi := (0 + 0)) (zv := (0 + (1 * n + 0))) k0 rfl rfl (by omega) (by omega) (hp_Kc (zi := (0 + (1 * u + ((-1) * w + 0)))) (zv := (1 + 0)) k1 rfl rfl (by omega) (by omega) hp_Kn)) (hp_La l0 (hp_Li (z := (0 + (1 * a + 0))) l1 rfl (by omega) (hp_Li (z := (0 + (1 * b + 0))) l2 rfl (by omega) (hp_Li (z := (0 + (1 * d + 0))) l3 rfl (by omega) (hp_Li (z := (5 + 0)) l4 rfl (by omega) (hp_Li (z := (0 + (1 * u + 0))) l5 rfl (by omega) (hp_Li (z := ((-1) + 0)) l6 rfl (by omega) (hp_Li (z := (0 + (1 * w + 0))) l7 rfl (by omega) hp_Ln)))))))) trivial ?_ ?_
  · intro p hp ys l' st' h' hys a1 a2 a3 gZ gL gS
    rcases List.mem_cons.mp hp with rfl | hp
    · obtain rfl := hp_y0 hys
      obtain ⟨y0, t0, rfl, q0, g0⟩ := hp_gSi (z := (0 + 0)) gS rfl
      obtain ⟨y1, t1, rfl, q1, g1⟩ := hp_gSi (z := (0 + (1 * n + 0))) g0 rfl
      obtain ⟨t2, rfl, g2⟩ := hp_gSa g1 (by decide)
      cases hp_gSn g2
      exact e0 l' h' y0 y1 (by omega) (by omega) a1 a2 a3 (hp_gK (zi := (0 + 0)) (zv := (0 + (1 * n + 0))) gZ.2.2.2 (List.mem_of_getElem? (i := 0) rfl) rfl rfl (by omega) (by omega)) (hp_gLa gL (List.mem_of_getElem? (i := 0) rfl) (by decide)) (hp_gLi (z := (0 + (1 * a + 0))) gL (List.mem_of_getElem? (i := 1) rfl) rfl (by omega)) (hp_gLi (z := (0 + (1 * b + 0))) gL (List.mem_of_getElem? (i := 2) rfl) rfl (by omega)) (hp_gLi (z := (0 + (1 * d + 0))) gL (List.mem_of_getElem? (i := 3) rfl) rfl (by omega)) (hp_gLi (z := (5 + 0)) gL (List.mem_of_getElem? (i := 4) rfl) rfl (by omega))
    cases hp
  · intro p hp ys v h' hys a1 a2 a3 gZ gS
    cases hp
theorem jx2_5_k : hp_chk 411 540 7 [(0, 0, 10), (1, 0, 10), (2, 0, 10), (3, 0, 10), (4, 0, 10), (5, 0, 10), (6, 0, 29)] [((-1), [(0, (-1)), (3, 1)]), ((-1), [(2, (-1)), (5, 1)])] [(0, .inr (.inr (.inl (some 94)))), (1, .inl (0, [(0, 1)])), (2, .inl (0, [(1, 1)])), (3, .inl (0, [(2, 1)])), (4, .inl (5, []))] [] [(20104, (0, []), (0, [(6, 1)]))] [20104] 5 [(216, ([], 7, [(0, 0, 10), (1, 0, 10), (2, 0, 10), (3, 0, 10), (4, 0, 10), (5, 0, 10), (6, 0, 29)], [], [(0, .inr (.inr (.inl (some 94)))), (1, .inl (1, [(0, 1)])), (2, .inl (0, [(1, 1)])), (3, .inl (1, [(2, 1)]))], [], [(20104, (0, []), (1, [(6, 1)]))]))] [] = true := by decide +kernel
theorem jx2_5 {cst : am_K} {strs : List Nat} {Φ : am_Q → Prop} {D : Nat} {M : am_M} {h : am_H} {l : am_L} (c : hp_C cst strs D) (hM : m_P[411]? = some M) (hD : (5 : Int) ≤ (D : Int) + 1) (hy : ly_hy m_tt ly_TH h) (a b d ma mb md n : Int) (b0 : 0 ≤ a) (t0 : a ≤ 10) (b1 : 0 ≤ b) (t1 : b ≤ 10) (b2 : 0 ≤ d) (t2 : d ≤ 10) (b3 : 0 ≤ ma) (t3 : ma ≤ 10) (b4 : 0 ≤ mb) (t4 : mb ≤ 10) (b5 : 0 ≤ md) (t5 : md ≤ 10) (b6 : 0 ≤ n) (t6 : n ≤ 29) (f0 : 0 ≤ (ma - a - 1)) (f1 : 0 ≤ (md - d - 1)) (k0 : ly_hv cst h 20104 0 = some (n)) (l0 : hp_a l 0 94) (l1 : hp_i l 1 (a)) (l2 : hp_i l 2 (b)) (l3 : hp_i l 3 (d)) (l4 : hp_i l 4 5) (e0 : ∀ (l' : am_L) (h' : am_H), ly_hy m_tt ly_TH h' → ly_fr cst [20104] h h' → h.length ≤ h'.length → ly_hv cst h' 20104 0 = some (n + 1) → hp_a l' 0 94 → hp_i l' 1 (a + 1) → hp_i l' 2 (b) → hp_i l' 3 (d + 1) → hp_F cst strs Φ D M 216 l' [] h') : hp_F cst strs Φ D M 540 l [] h := by
  refine hp_arc c hM jx2_5_k hD [a, b, d, ma, mb, md, n] rfl hy (hp_Bc (z := a) rfl b0 t0 (hp_Bc (z := b) rfl b1 t1 (hp_Bc (z := d) rfl b2 t2 (hp_Bc (z := ma) rfl b3 t3 (hp_Bc (z := mb) rfl b4 t4 (hp_Bc (z := md) rfl b5 t5 (hp_Bc (z := n) rfl b6 t6 hp_Bn))))))) (hp_Fc (z := ((-1) + ((-1) * a + (1 * ma + 0)))) rfl (by omega) (hp_Fc (z := ((-1) + ((-1) * d + (1 * md + 0)))) rfl (by omega) hp_Fn)) (hp_Kc (zi := (0 + 0)) (zv := (0 + (1 * n + 0))) k0 rfl rfl (by omega) (by omega) hp_Kn) (hp_La l0 (hp_Li (z := (0 + (1 * a + 0))) l1 rfl (by omega) (hp_Li (z := (0 + (1 * b + 0))) l2 rfl (by omega) (hp_Li (z := (0 + (1 * d + 0))) l3 rfl (by omega) (hp_Li (z := (5 + 0)) l4 rfl (by omega) hp_Ln))))) trivial ?_ ?_
  · intro p hp ys l' st' h' hys a1 a2 a3 gZ gL gS
    rcases List.mem_cons.mp hp with rfl | hp
    · obtain rfl := hp_y0 hys
      cases hp_gSn gS
      exact e0 l' h' a1 a2 a3 (hp_gK (zi := (0 + 0)) (zv := (1 + (1 * n + 0))) gZ.2.2.2 (List.mem_of_getElem? (i := 0) rfl) rfl rfl (by omega) (by omega)) (hp_gLa gL (List.mem_of_getElem? (i := 0) rfl) (by decide)) (hp_gLi (z := (1 + (1 * a + 0))) gL (List.mem_of_getElem? (i := 1) rfl) rfl (by omega)) (hp_gLi (z := (0 + (1 * b + 0))) gL (List.mem_of_getElem? (i := 2) rfl) rfl (by omega)) (hp_gLi (z := (1 + (1 * d + 0))) gL (List.mem_of_getElem? (i := 3) rfl) rfl (by omega))
    cases hp
  · intro p hp ys v h' hys a1 a2 a3 gZ gS
    cases hp
theorem jx3_1_k : hp_chk 411 286 11 [(0, 0, 10), (1, 0, 10), (2, 0, 10), (3, 0, 10), (4, 0, 10), (5, 0, 10), (6, 0, 12), (7, 0, 360), (8, 0, 29), (9, 0, 2147483647), (10, 0, 2147483647)] [((-1), [(1, (-1)), (4, 1)]), ((-1), [(2, (-1)), (5, 1)])] [(0, .inr (.inr (.inl (some 94)))), (1, .inl (0, [(0, 1)])), (2, .inl (0, [(1, 1)])), (3, .inl (0, [(2, 1)])), (4, .inl (0, [])), (5, .inl (3, [])), (6, .inl (6, []))] [.inl (0, [(6, 1)])] [(44288, (0, []), (0, [(3, 1)])), (44288, (1, []), (0, [(4, 1)])), (44288, (2, []), (0, [(5, 1)])), (45056, (12, [(0, 121), (1, 11), (2, 1)]), (0, [(7, 1)])), (45056, (0, [(0, 121), (1, 11), (2, 1)]), (0, [(6, 1), (7, 1)])), (20104, (0, []), (0, [(8, 1)])), (44032, (10, [(1, 1)]), (0, [(9, 1)])), (44032, (20, [(2, 1)]), (0, [(10, 1)]))] [] 5 [(438, ([], 11, [(0, 0, 10), (1, 0, 10), (2, 0, 10), (3, 0, 10), (4, 0, 10), (5, 0, 10), (6, 0, 12), (7, 0, 360), (8, 0, 29), (9, 0, 2147483647), (10, 0, 2147483647)], [], [(0, .inr (.inr (.inl (some 94)))), (1, .inl (0, [(0, 1)])), (2, .inl (0, [(1, 1)])), (3, .inl (0, [(2, 1)])), (4, .inl (6, [])), (5, .inl ((-1), [])), (6, .inl (0, [(9, 1)])), (7, .inl (0, [(10, 1)]))], [.inl ((-1), []), .inl (0, [(8, 3)]), .inr (.inr (.inl (some 190)))], [(20104, (0, []), (0, [(8, 1)]))]))] [] = true := by decide +kernel
theorem jx3_1 {cst : am_K} {strs : List Nat} {Φ : am_Q → Prop} {D : Nat} {M : am_M} {h : am_H} {l : am_L} (c : hp_C cst strs D) (hM : m_P[411]? = some M) (hD : (5 : Int) ≤ (D : Int) + 1) (hy : ly_hy m_tt ly_TH h) (a b d ma mb md k y n v w : Int) (x0 : Int32) (hx0 : x0.toInt = (k)) (b0 : 0 ≤ a) (t0 : a ≤ 10) (b1 : 0 ≤ b) (t1 : b ≤ 10) (b2 : 0 ≤ d) (t2 : d ≤ 10) (b3 : 0 ≤ ma) (t3 : ma ≤ 10) (b4 : 0 ≤ mb) (t4 : mb ≤ 10) (b5 : 0 ≤ md) (t5 : md ≤ 10) (b6 : 0 ≤ k) (t6 : k ≤ 12) (b7 : 0 ≤ y) (t7 : y ≤ 360) (b8 : 0 ≤ n) (t8 : n ≤ 29) (b9 : 0 ≤ v) (t9 : v ≤ 2147483647) (b10 : 0 ≤ w) (t10 : w ≤ 2147483647) (f0 : 0 ≤ (mb - b - 1)) (f1 : 0 ≤ (md - d - 1)) (k0 : ly_hv cst h 44288 0 = some (ma)) (k1 : ly_hv cst h 44288 1 = some (mb)) (k2 : ly_hv cst h 44288 2 = some (md)) (k3 : ly_hv cst h 45056 (121 * a + 11 * b + d + 12) = some (y)) (k4 : ly_hv cst h 45056 (121 * a + 11 * b + d) = some (k + y)) (k5 : ly_hv cst h 20104 0 = some (n)) (k6 : ly_hv cst h 44032 (b + 10) = some (v)) (k7 : ly_hv cst h 44032 (d + 20) = some (w)) (l0 : hp_a l 0 94) (l1 : hp_i l 1 (a)) (l2 : hp_i l 2 (b)) (l3 : hp_i l 3 (d)) (l4 : hp_i l 4 0) (l5 : hp_i l 5 3) (l6 : hp_i l 6 6) (e0 : ∀ (l' : am_L) (h' : am_H) (y0 : Int32) (y1 : Int32), y0.toInt = (-1) → y1.toInt = (3 * n) → ly_hy m_tt ly_TH h' → ly_fr cst [] h h' → h.length ≤ h'.length → ly_hv cst h' 20104 0 = some (n) → hp_a l' 0 94 → hp_i l' 1 (a) → hp_i l' 2 (b) → hp_i l' 3 (d) → hp_i l' 4 6 → hp_i l' 5 (-1) → hp_i l' 6 (v) → hp_i l' 7 (w) → hp_F cst strs Φ D M 438 l' [.int y0, .int y1, .ref 190] h') : hp_F cst strs Φ D M 286 l [.int x0] h := by
  refine hp_arc c hM jx3_1_k hD [a, b, d, ma, mb, md, k, y, n, v, w] rfl hy (hp_Bc (z := a) rfl b0 t0 (hp_Bc (z := b) rfl b1 t1 (hp_Bc (z := d) rfl b2 t2 (hp_Bc (z := ma) rfl b3 t3 (hp_Bc (z := mb) rfl b4 t4 (hp_Bc (z := md) rfl b5 t5 (hp_Bc (z := k) rfl b6 t6 (hp_Bc (z := y) rfl b7 t7 (hp_Bc (z := n) rfl b8 t8 (hp_Bc (z := v) rfl b9 t9 (hp_Bc (z := w) rfl b10 t10 hp_Bn))))))))))) (hp_Fc (z := ((-1) + ((-1) * b + (1 * mb + 0)))) rfl (by omega) (hp_Fc (z := ((-1) + ((-1) * d + (1 * md + 0)))) rfl (by omega) hp_Fn)) (hp_Kc (zi := (0 + 0)) (zv := (0 + (1 * ma + 0))) k0 rfl rfl (by omega) (by omega) (hp_Kc (zi := (1 + 0)) (zv := (0 + (1 * mb + 0))) k1 rfl rfl (by omega) (by omega) (hp_Kc (zi := (2 + 0)) (zv := (0 + (1 * md + 0))) k2 rfl rfl (by omega) (by omega) (hp_Kc (zi := (12 + (121 * a + (11 * b + (1 * d + 0))))) (zv := (0 + (1 * y + 0))) k3 rfl rfl (by omega) (by omega) (hp_Kc (zi := (0 + (121 * a + (11 * b + (1 * d + 0))))) (zv := (0 + (1 * k + (1 * y + 0)))) k4 rfl rfl (by omega) (by omega) (hp_Kc (zi := (0 + 0)) (zv := (0 + (1 * n + 0))) k5 rfl rfl (by omega) (by omega) (hp_Kc (zi := (10 + (1 * b + 0))) (zv := (0 + (1 * v + 0))) k6 rfl rfl (by omega) (by omega) (hp_Kc (zi := (20 + (1 * d + 0))) (zv := (0 + (1 * w + 0))) k7 rfl rfl (by omega) (by omega) hp_Kn)))))))) (hp_La l0 (hp_Li (z := (0 + (1 * a + 0))) l1 rfl (by omega) (hp_Li (z := (0 + (1 * b + 0))) l2 rfl (by omega) (hp_Li (z := (0 + (1 * d + 0))) l3 rfl (by omega) (hp_Li (z := (0 + 0)) l4 rfl (by omega) (hp_Li (z := (3 + 0)) l5 rfl (by omega) (hp_Li (z := (6 + 0)) l6 rfl (by omega) hp_Ln))))))) (hp_Si (z := (0 + (1 * k + 0))) rfl (by omega) trivial) ?_ ?_
  · intro p hp ys l' st' h' hys a1 a2 a3 gZ gL gS
    rcases List.mem_cons.mp hp with rfl | hp
    · obtain rfl := hp_y0 hys
      obtain ⟨y0, t0, rfl, q0, g0⟩ := hp_gSi (z := ((-1) + 0)) gS rfl
      obtain ⟨y1, t1, rfl, q1, g1⟩ := hp_gSi (z := (0 + (3 * n + 0))) g0 rfl
      obtain ⟨t2, rfl, g2⟩ := hp_gSa g1 (by decide)
      cases hp_gSn g2
      exact e0 l' h' y0 y1 (by omega) (by omega) a1 a2 a3 (hp_gK (zi := (0 + 0)) (zv := (0 + (1 * n + 0))) gZ.2.2.2 (List.mem_of_getElem? (i := 0) rfl) rfl rfl (by omega) (by omega)) (hp_gLa gL (List.mem_of_getElem? (i := 0) rfl) (by decide)) (hp_gLi (z := (0 + (1 * a + 0))) gL (List.mem_of_getElem? (i := 1) rfl) rfl (by omega)) (hp_gLi (z := (0 + (1 * b + 0))) gL (List.mem_of_getElem? (i := 2) rfl) rfl (by omega)) (hp_gLi (z := (0 + (1 * d + 0))) gL (List.mem_of_getElem? (i := 3) rfl) rfl (by omega)) (hp_gLi (z := (6 + 0)) gL (List.mem_of_getElem? (i := 4) rfl) rfl (by omega)) (hp_gLi (z := ((-1) + 0)) gL (List.mem_of_getElem? (i := 5) rfl) rfl (by omega)) (hp_gLi (z := (0 + (1 * v + 0))) gL (List.mem_of_getElem? (i := 6) rfl) rfl (by omega)) (hp_gLi (z := (0 + (1 * w + 0))) gL (List.mem_of_getElem? (i := 7) rfl) rfl (by omega))
    cases hp
  · intro p hp ys v h' hys a1 a2 a3 gZ gS
    cases hp
theorem jx3_2_k : hp_chk 411 439 6 [(0, 0, 10), (1, 0, 10), (2, 0, 10), (3, 0, 29), (4, 0, 2147483647), (5, 0, 2147483647)] [] [(0, .inr (.inr (.inl (some 94)))), (1, .inl (0, [(0, 1)])), (2, .inl (0, [(1, 1)])), (3, .inl (0, [(2, 1)])), (4, .inl (6, [])), (5, .inl ((-1), [])), (6, .inl (0, [(4, 1)])), (7, .inl (0, [(5, 1)]))] [] [(20104, (0, []), (0, [(3, 1)]))] [] 5 [(465, ([], 6, [(0, 0, 10), (1, 0, 10), (2, 0, 10), (3, 0, 29), (4, 0, 2147483647), (5, 0, 2147483647)], [], [(0, .inr (.inr (.inl (some 94)))), (1, .inl (0, [(0, 1)])), (2, .inl (0, [(1, 1)])), (3, .inl (0, [(2, 1)])), (4, .inl (6, [])), (5, .inl ((-1), [])), (6, .inl (0, [(4, 1)])), (7, .inl (0, [(5, 1)]))], [.inl (0, [(1, 1)]), .inl (1, [(3, 3)]), .inr (.inr (.inl (some 190)))], [(20104, (0, []), (0, [(3, 1)]))]))] [] = true := by decide +kernel
theorem jx3_2 {cst : am_K} {strs : List Nat} {Φ : am_Q → Prop} {D : Nat} {M : am_M} {h : am_H} {l : am_L} (c : hp_C cst strs D) (hM : m_P[411]? = some M) (hD : (5 : Int) ≤ (D : Int) + 1) (hy : ly_hy m_tt ly_TH h) (a b d n v w : Int) (b0 : 0 ≤ a) (t0 : a ≤ 10) (b1 : 0 ≤ b) (t1 : b ≤ 10) (b2 : 0 ≤ d) (t2 : d ≤ 10) (b3 : 0 ≤ n) (t3 : n ≤ 29) (b4 : 0 ≤ v) (t4 : v ≤ 2147483647) (b5 : 0 ≤ w) (t5 : w ≤ 2147483647) (k0 : ly_hv cst h 20104 0 = some (n)) (l0 : hp_a l 0 94) (l1 : hp_i l 1 (a)) (l2 : hp_i l 2 (b)) (l3 : hp_i l 3 (d)) (l4 : hp_i l 4 6) (l5 : hp_i l 5 (-1)) (l6 : hp_i l 6 (v)) (l7 : hp_i l 7 (w)) (e0 : ∀ (l' : am_L) (h' : am_H) (y0 : Int32) (y1 : Int32), y0.toInt = (b) → y1.toInt = (3 * n + 1) → ly_hy m_tt ly_TH h' → ly_fr cst [] h h' → h.length ≤ h'.length → ly_hv cst h' 20104 0 = some (n) → hp_a l' 0 94 → hp_i l' 1 (a) → hp_i l' 2 (b) → hp_i l' 3 (d) → hp_i l' 4 6 → hp_i l' 5 (-1) → hp_i l' 6 (v) → hp_i l' 7 (w) → hp_F cst strs Φ D M 465 l' [.int y0, .int y1, .ref 190] h') : hp_F cst strs Φ D M 439 l [] h := by
  refine hp_arc c hM jx3_2_k hD [a, b, d, n, v, w] rfl hy (hp_Bc (z := a) rfl b0 t0 (hp_Bc (z := b) rfl b1 t1 (hp_Bc (z := d) rfl b2 t2 (hp_Bc (z := n) rfl b3 t3 (hp_Bc (z := v) rfl b4 t4 (hp_Bc (z := w) rfl b5 t5 hp_Bn)))))) hp_Fn (hp_Kc (zi := (0 + 0)) (zv := (0 + (1 * n + 0))) k0 rfl rfl (by omega) (by omega) hp_Kn) (hp_La l0 (hp_Li (z := (0 + (1 * a + 0))) l1 rfl (by omega) (hp_Li (z := (0 + (1 * b + 0))) l2 rfl (by omega) (hp_Li (z := (0 + (1 * d + 0))) l3 rfl (by omega) (hp_Li (z := (6 + 0)) l4 rfl (by omega) (hp_Li (z := ((-1) + 0)) l5 rfl (by omega) (hp_Li (z := (0 + (1 * v + 0))) l6 rfl (by omega) (hp_Li (z := (0 + (1 * w + 0))) l7 rfl (by omega) hp_Ln)))))))) trivial ?_ ?_
  · intro p hp ys l' st' h' hys a1 a2 a3 gZ gL gS
    rcases List.mem_cons.mp hp with rfl | hp
    · obtain rfl := hp_y0 hys
      obtain ⟨y0, t0, rfl, q0, g0⟩ := hp_gSi (z := (0 + (1 * b + 0))) gS rfl
      obtain ⟨y1, t1, rfl, q1, g1⟩ := hp_gSi (z := (1 + (3 * n + 0))) g0 rfl
      obtain ⟨t2, rfl, g2⟩ := hp_gSa g1 (by decide)
      cases hp_gSn g2
      exact e0 l' h' y0 y1 (by omega) (by omega) a1 a2 a3 (hp_gK (zi := (0 + 0)) (zv := (0 + (1 * n + 0))) gZ.2.2.2 (List.mem_of_getElem? (i := 0) rfl) rfl rfl (by omega) (by omega)) (hp_gLa gL (List.mem_of_getElem? (i := 0) rfl) (by decide)) (hp_gLi (z := (0 + (1 * a + 0))) gL (List.mem_of_getElem? (i := 1) rfl) rfl (by omega)) (hp_gLi (z := (0 + (1 * b + 0))) gL (List.mem_of_getElem? (i := 2) rfl) rfl (by omega)) (hp_gLi (z := (0 + (1 * d + 0))) gL (List.mem_of_getElem? (i := 3) rfl) rfl (by omega)) (hp_gLi (z := (6 + 0)) gL (List.mem_of_getElem? (i := 4) rfl) rfl (by omega)) (hp_gLi (z := ((-1) + 0)) gL (List.mem_of_getElem? (i := 5) rfl) rfl (by omega)) (hp_gLi (z := (0 + (1 * v + 0))) gL (List.mem_of_getElem? (i := 6) rfl) rfl (by omega)) (hp_gLi (z := (0 + (1 * w + 0))) gL (List.mem_of_getElem? (i := 7) rfl) rfl (by omega))
    cases hp
  · intro p hp ys v h' hys a1 a2 a3 gZ gS
    cases hp
theorem jx3_3_k : hp_chk 411 466 6 [(0, 0, 10), (1, 0, 10), (2, 0, 10), (3, 0, 29), (4, 0, 2147483647), (5, 0, 2147483647)] [] [(0, .inr (.inr (.inl (some 94)))), (1, .inl (0, [(0, 1)])), (2, .inl (0, [(1, 1)])), (3, .inl (0, [(2, 1)])), (4, .inl (6, [])), (5, .inl ((-1), [])), (6, .inl (0, [(4, 1)])), (7, .inl (0, [(5, 1)]))] [] [(20104, (0, []), (0, [(3, 1)]))] [] 5 [(492, ([], 6, [(0, 0, 10), (1, 0, 10), (2, 0, 10), (3, 0, 29), (4, 0, 2147483647), (5, 0, 2147483647)], [], [(0, .inr (.inr (.inl (some 94)))), (1, .inl (0, [(0, 1)])), (2, .inl (0, [(1, 1)])), (3, .inl (0, [(2, 1)])), (4, .inl (6, [])), (5, .inl ((-1), [])), (6, .inl (0, [(4, 1)])), (7, .inl (0, [(5, 1)]))], [.inl (0, [(2, 1)]), .inl (2, [(3, 3)]), .inr (.inr (.inl (some 190)))], [(20104, (0, []), (0, [(3, 1)]))]))] [] = true := by decide +kernel
theorem jx3_3 {cst : am_K} {strs : List Nat} {Φ : am_Q → Prop} {D : Nat} {M : am_M} {h : am_H} {l : am_L} (c : hp_C cst strs D) (hM : m_P[411]? = some M) (hD : (5 : Int) ≤ (D : Int) + 1) (hy : ly_hy m_tt ly_TH h) (a b d n v w : Int) (b0 : 0 ≤ a) (t0 : a ≤ 10) (b1 : 0 ≤ b) (t1 : b ≤ 10) (b2 : 0 ≤ d) (t2 : d ≤ 10) (b3 : 0 ≤ n) (t3 : n ≤ 29) (b4 : 0 ≤ v) (t4 : v ≤ 2147483647) (b5 : 0 ≤ w) (t5 : w ≤ 2147483647) (k0 : ly_hv cst h 20104 0 = some (n)) (l0 : hp_a l 0 94) (l1 : hp_i l 1 (a)) (l2 : hp_i l 2 (b)) (l3 : hp_i l 3 (d)) (l4 : hp_i l 4 6) (l5 : hp_i l 5 (-1)) (l6 : hp_i l 6 (v)) (l7 : hp_i l 7 (w)) (e0 : ∀ (l' : am_L) (h' : am_H) (y0 : Int32) (y1 : Int32), y0.toInt = (d) → y1.toInt = (3 * n + 2) → ly_hy m_tt ly_TH h' → ly_fr cst [] h h' → h.length ≤ h'.length → ly_hv cst h' 20104 0 = some (n) → hp_a l' 0 94 → hp_i l' 1 (a) → hp_i l' 2 (b) → hp_i l' 3 (d) → hp_i l' 4 6 → hp_i l' 5 (-1) → hp_i l' 6 (v) → hp_i l' 7 (w) → hp_F cst strs Φ D M 492 l' [.int y0, .int y1, .ref 190] h') : hp_F cst strs Φ D M 466 l [] h := by
  refine hp_arc c hM jx3_3_k hD [a, b, d, n, v, w] rfl hy (hp_Bc (z := a) rfl b0 t0 (hp_Bc (z := b) rfl b1 t1 (hp_Bc (z := d) rfl b2 t2 (hp_Bc (z := n) rfl b3 t3 (hp_Bc (z := v) rfl b4 t4 (hp_Bc (z := w) rfl b5 t5 hp_Bn)))))) hp_Fn (hp_Kc (zi := (0 + 0)) (zv := (0 + (1 * n + 0))) k0 rfl rfl (by omega) (by omega) hp_Kn) (hp_La l0 (hp_Li (z := (0 + (1 * a + 0))) l1 rfl (by omega) (hp_Li (z := (0 + (1 * b + 0))) l2 rfl (by omega) (hp_Li (z := (0 + (1 * d + 0))) l3 rfl (by omega) (hp_Li (z := (6 + 0)) l4 rfl (by omega) (hp_Li (z := ((-1) + 0)) l5 rfl (by omega) (hp_Li (z := (0 + (1 * v + 0))) l6 rfl (by omega) (hp_Li (z := (0 + (1 * w + 0))) l7 rfl (by omega) hp_Ln)))))))) trivial ?_ ?_
  · intro p hp ys l' st' h' hys a1 a2 a3 gZ gL gS
    rcases List.mem_cons.mp hp with rfl | hp
    · obtain rfl := hp_y0 hys
      obtain ⟨y0, t0, rfl, q0, g0⟩ := hp_gSi (z := (0 + (1 * d + 0))) gS rfl
      obtain ⟨y1, t1, rfl, q1, g1⟩ := hp_gSi (z := (2 + (3 * n + 0))) g0 rfl
      obtain ⟨t2, rfl, g2⟩ := hp_gSa g1 (by decide)
      cases hp_gSn g2
      exact e0 l' h' y0 y1 (by omega) (by omega) a1 a2 a3 (hp_gK (zi := (0 + 0)) (zv := (0 + (1 * n + 0))) gZ.2.2.2 (List.mem_of_getElem? (i := 0) rfl) rfl rfl (by omega) (by omega)) (hp_gLa gL (List.mem_of_getElem? (i := 0) rfl) (by decide)) (hp_gLi (z := (0 + (1 * a + 0))) gL (List.mem_of_getElem? (i := 1) rfl) rfl (by omega)) (hp_gLi (z := (0 + (1 * b + 0))) gL (List.mem_of_getElem? (i := 2) rfl) rfl (by omega)) (hp_gLi (z := (0 + (1 * d + 0))) gL (List.mem_of_getElem? (i := 3) rfl) rfl (by omega)) (hp_gLi (z := (6 + 0)) gL (List.mem_of_getElem? (i := 4) rfl) rfl (by omega)) (hp_gLi (z := ((-1) + 0)) gL (List.mem_of_getElem? (i := 5) rfl) rfl (by omega)) (hp_gLi (z := (0 + (1 * v + 0))) gL (List.mem_of_getElem? (i := 6) rfl) rfl (by omega)) (hp_gLi (z := (0 + (1 * w + 0))) gL (List.mem_of_getElem? (i := 7) rfl) rfl (by omega))
    cases hp
  · intro p hp ys v h' hys a1 a2 a3 gZ gS
    cases hp
theorem jx3_4e_k : hp_chk 411 493 5 [(0, 0, 10), (1, 0, 10), (2, 0, 10), (3, 0, 29), (4, 0, 2147483647)] [] [(0, .inr (.inr (.inl (some 94)))), (1, .inl (0, [(0, 1)])), (2, .inl (0, [(1, 1)])), (3, .inl (0, [(2, 1)])), (4, .inl (6, [])), (5, .inl ((-1), [])), (6, .inl (0, [(4, 1)])), (7, .inl (0, [(4, 1)]))] [] [(20104, (0, []), (0, [(3, 1)]))] [] 5 [(539, ([], 5, [(0, 0, 10), (1, 0, 10), (2, 0, 10), (3, 0, 29), (4, 0, 2147483647)], [], [(0, .inr (.inr (.inl (some 94)))), (1, .inl (0, [(0, 1)])), (2, .inl (0, [(1, 1)])), (3, .inl (0, [(2, 1)])), (4, .inl (6, []))], [.inl (1, []), .inl (0, [(3, 1)]), .inr (.inr (.inl (some 191)))], [(20104, (0, []), (0, [(3, 1)]))]))] [] = true := by decide +kernel
theorem jx3_4e {cst : am_K} {strs : List Nat} {Φ : am_Q → Prop} {D : Nat} {M : am_M} {h : am_H} {l : am_L} (c : hp_C cst strs D) (hM : m_P[411]? = some M) (hD : (5 : Int) ≤ (D : Int) + 1) (hy : ly_hy m_tt ly_TH h) (a b d n v : Int) (b0 : 0 ≤ a) (t0 : a ≤ 10) (b1 : 0 ≤ b) (t1 : b ≤ 10) (b2 : 0 ≤ d) (t2 : d ≤ 10) (b3 : 0 ≤ n) (t3 : n ≤ 29) (b4 : 0 ≤ v) (t4 : v ≤ 2147483647) (k0 : ly_hv cst h 20104 0 = some (n)) (l0 : hp_a l 0 94) (l1 : hp_i l 1 (a)) (l2 : hp_i l 2 (b)) (l3 : hp_i l 3 (d)) (l4 : hp_i l 4 6) (l5 : hp_i l 5 (-1)) (l6 : hp_i l 6 (v)) (l7 : hp_i l 7 (v)) (e0 : ∀ (l' : am_L) (h' : am_H) (y0 : Int32) (y1 : Int32), y0.toInt = 1 → y1.toInt = (n) → ly_hy m_tt ly_TH h' → ly_fr cst [] h h' → h.length ≤ h'.length → ly_hv cst h' 20104 0 = some (n) → hp_a l' 0 94 → hp_i l' 1 (a) → hp_i l' 2 (b) → hp_i l' 3 (d) → hp_i l' 4 6 → hp_F cst strs Φ D M 539 l' [.int y0, .int y1, .ref 191] h') : hp_F cst strs Φ D M 493 l [] h := by
  refine hp_arc c hM jx3_4e_k hD [a, b, d, n, v] rfl hy (hp_Bc (z := a) rfl b0 t0 (hp_Bc (z := b) rfl b1 t1 (hp_Bc (z := d) rfl b2 t2 (hp_Bc (z := n) rfl b3 t3 (hp_Bc (z := v) rfl b4 t4 hp_Bn))))) hp_Fn (hp_Kc (zi := (0 + 0)) (zv := (0 + (1 * n + 0))) k0 rfl rfl (by omega) (by omega) hp_Kn) (hp_La l0 (hp_Li (z := (0 + (1 * a + 0))) l1 rfl (by omega) (hp_Li (z := (0 + (1 * b + 0))) l2 rfl (by omega) (hp_Li (z := (0 + (1 * d + 0))) l3 rfl (by omega) (hp_Li (z := (6 + 0)) l4 rfl (by omega) (hp_Li (z := ((-1) + 0)) l5 rfl (by omega) (hp_Li (z := (0 + (1 * v + 0))) l6 rfl (by omega) (hp_Li (z := (0 + (1 * v + 0))) l7 rfl (by omega) hp_Ln)))))))) trivial ?_ ?_
  · intro p hp ys l' st' h' hys a1 a2 a3 gZ gL gS
    rcases List.mem_cons.mp hp with rfl | hp
    · obtain rfl := hp_y0 hys
      obtain ⟨y0, t0, rfl, q0, g0⟩ := hp_gSi (z := (1 + 0)) gS rfl
      obtain ⟨y1, t1, rfl, q1, g1⟩ := hp_gSi (z := (0 + (1 * n + 0))) g0 rfl
      obtain ⟨t2, rfl, g2⟩ := hp_gSa g1 (by decide)
      cases hp_gSn g2
      exact e0 l' h' y0 y1 (by omega) (by omega) a1 a2 a3 (hp_gK (zi := (0 + 0)) (zv := (0 + (1 * n + 0))) gZ.2.2.2 (List.mem_of_getElem? (i := 0) rfl) rfl rfl (by omega) (by omega)) (hp_gLa gL (List.mem_of_getElem? (i := 0) rfl) (by decide)) (hp_gLi (z := (0 + (1 * a + 0))) gL (List.mem_of_getElem? (i := 1) rfl) rfl (by omega)) (hp_gLi (z := (0 + (1 * b + 0))) gL (List.mem_of_getElem? (i := 2) rfl) rfl (by omega)) (hp_gLi (z := (0 + (1 * d + 0))) gL (List.mem_of_getElem? (i := 3) rfl) rfl (by omega)) (hp_gLi (z := (6 + 0)) gL (List.mem_of_getElem? (i := 4) rfl) rfl (by omega))
    cases hp
  · intro p hp ys v h' hys a1 a2 a3 gZ gS
    cases hp
theorem jx3_4n_k : hp_chk 411 493 6 [(0, 0, 10), (1, 0, 10), (2, 0, 10), (3, 0, 29), (4, 0, 2147483647), (5, 0, 2147483647)] [] [(0, .inr (.inr (.inl (some 94)))), (1, .inl (0, [(0, 1)])), (2, .inl (0, [(1, 1)])), (3, .inl (0, [(2, 1)])), (4, .inl (6, [])), (5, .inl ((-1), [])), (6, .inl (0, [(4, 1)])), (7, .inl (0, [(5, 1)]))] [] [(20104, (0, []), (0, [(3, 1)])), (61000, (0, [(4, 1), (5, (-1))]), (1, []))] [] 5 [(539, ([], 6, [(0, 0, 10), (1, 0, 10), (2, 0, 10), (3, 0, 29), (4, 0, 2147483647), (5, 0, 2147483647)], [], [(0, .inr (.inr (.inl (some 94)))), (1, .inl (0, [(0, 1)])), (2, .inl (0, [(1, 1)])), (3, .inl (0, [(2, 1)])), (4, .inl (6, []))], [.inl (0, []), .inl (0, [(3, 1)]), .inr (.inr (.inl (some 191)))], [(20104, (0, []), (0, [(3, 1)]))]))] [] = true := by decide +kernel
theorem jx3_4n {cst : am_K} {strs : List Nat} {Φ : am_Q → Prop} {D : Nat} {M : am_M} {h : am_H} {l : am_L} (c : hp_C cst strs D) (hM : m_P[411]? = some M) (hD : (5 : Int) ≤ (D : Int) + 1) (hy : ly_hy m_tt ly_TH h) (a b d n v w : Int) (b0 : 0 ≤ a) (t0 : a ≤ 10) (b1 : 0 ≤ b) (t1 : b ≤ 10) (b2 : 0 ≤ d) (t2 : d ≤ 10) (b3 : 0 ≤ n) (t3 : n ≤ 29) (b4 : 0 ≤ v) (t4 : v ≤ 2147483647) (b5 : 0 ≤ w) (t5 : w ≤ 2147483647) (k0 : ly_hv cst h 20104 0 = some (n)) (k1 : ly_hv cst h 61000 (v - w) = some 1) (l0 : hp_a l 0 94) (l1 : hp_i l 1 (a)) (l2 : hp_i l 2 (b)) (l3 : hp_i l 3 (d)) (l4 : hp_i l 4 6) (l5 : hp_i l 5 (-1)) (l6 : hp_i l 6 (v)) (l7 : hp_i l 7 (w)) (e0 : ∀ (l' : am_L) (h' : am_H) (y0 : Int32) (y1 : Int32), y0.toInt = 0 → y1.toInt = (n) → ly_hy m_tt ly_TH h' → ly_fr cst [] h h' → h.length ≤ h'.length → ly_hv cst h' 20104 0 = some (n) → hp_a l' 0 94 → hp_i l' 1 (a) → hp_i l' 2 (b) → hp_i l' 3 (d) → hp_i l' 4 6 → hp_F cst strs Φ D M 539 l' [.int y0, .int y1, .ref 191] h') : hp_F cst strs Φ D M 493 l [] h := by
  refine hp_arc c hM jx3_4n_k hD [a, b, d, n, v, w] rfl hy (hp_Bc (z := a) rfl b0 t0 (hp_Bc (z := b) rfl b1 t1 (hp_Bc (z := d) rfl b2 t2 (hp_Bc (z := n) rfl b3 t3 (hp_Bc (z := v) rfl b4 t4 (hp_Bc (z := w) rfl b5 t5 hp_Bn)))))) hp_Fn (hp_Kc (zi := (0 + 0)) (zv := (0 + (1 * n + 0))) k0 rfl rfl (by omega) (by omega) (hp_Kc (zi := (0 + (1 * v + ((-1) * w + 0)))) (zv := (1 + 0)) k1 rfl rfl (by omega) (by omega) hp_Kn)) (hp_La l0 (hp_Li (z := (0 + (1 * a + 0))) l1 rfl (by omega) (hp_Li (z := (0 + (1 * b + 0))) l2 rfl (by omega) (hp_Li (z := (0 + (1 * d + 0))) l3 rfl (by omega) (hp_Li (z := (6 + 0)) l4 rfl (by omega) (hp_Li (z := ((-1) + 0)) l5 rfl (by omega) (hp_Li (z := (0 + (1 * v + 0))) l6 rfl (by omega) (hp_Li (z := (0 + (1 * w + 0))) l7 rfl (by omega) hp_Ln)))))))) trivial ?_ ?_
  · intro p hp ys l' st' h' hys a1 a2 a3 gZ gL gS
    rcases List.mem_cons.mp hp with rfl | hp
    · obtain rfl := hp_y0 hys
      obtain ⟨y0, t0, rfl, q0, g0⟩ := hp_gSi (z := (0 + 0)) gS rfl
      obtain ⟨y1, t1, rfl, q1, g1⟩ := hp_gSi (z := (0 + (1 * n + 0))) g0 rfl
      obtain ⟨t2, rfl, g2⟩ := hp_gSa g1 (by decide)
      cases hp_gSn g2
      exact e0 l' h' y0 y1 (by omega) (by omega) a1 a2 a3 (hp_gK (zi := (0 + 0)) (zv := (0 + (1 * n + 0))) gZ.2.2.2 (List.mem_of_getElem? (i := 0) rfl) rfl rfl (by omega) (by omega)) (hp_gLa gL (List.mem_of_getElem? (i := 0) rfl) (by decide)) (hp_gLi (z := (0 + (1 * a + 0))) gL (List.mem_of_getElem? (i := 1) rfl) rfl (by omega)) (hp_gLi (z := (0 + (1 * b + 0))) gL (List.mem_of_getElem? (i := 2) rfl) rfl (by omega)) (hp_gLi (z := (0 + (1 * d + 0))) gL (List.mem_of_getElem? (i := 3) rfl) rfl (by omega)) (hp_gLi (z := (6 + 0)) gL (List.mem_of_getElem? (i := 4) rfl) rfl (by omega))
    cases hp
  · intro p hp ys v h' hys a1 a2 a3 gZ gS
    cases hp
theorem jx3_5_k : hp_chk 411 540 7 [(0, 0, 10), (1, 0, 10), (2, 0, 10), (3, 0, 10), (4, 0, 10), (5, 0, 10), (6, 0, 29)] [((-1), [(1, (-1)), (4, 1)]), ((-1), [(2, (-1)), (5, 1)])] [(0, .inr (.inr (.inl (some 94)))), (1, .inl (0, [(0, 1)])), (2, .inl (0, [(1, 1)])), (3, .inl (0, [(2, 1)])), (4, .inl (6, []))] [] [(20104, (0, []), (0, [(6, 1)]))] [20104] 5 [(216, ([], 7, [(0, 0, 10), (1, 0, 10), (2, 0, 10), (3, 0, 10), (4, 0, 10), (5, 0, 10), (6, 0, 29)], [], [(0, .inr (.inr (.inl (some 94)))), (1, .inl (0, [(0, 1)])), (2, .inl (1, [(1, 1)])), (3, .inl (1, [(2, 1)]))], [], [(20104, (0, []), (1, [(6, 1)]))]))] [] = true := by decide +kernel
theorem jx3_5 {cst : am_K} {strs : List Nat} {Φ : am_Q → Prop} {D : Nat} {M : am_M} {h : am_H} {l : am_L} (c : hp_C cst strs D) (hM : m_P[411]? = some M) (hD : (5 : Int) ≤ (D : Int) + 1) (hy : ly_hy m_tt ly_TH h) (a b d ma mb md n : Int) (b0 : 0 ≤ a) (t0 : a ≤ 10) (b1 : 0 ≤ b) (t1 : b ≤ 10) (b2 : 0 ≤ d) (t2 : d ≤ 10) (b3 : 0 ≤ ma) (t3 : ma ≤ 10) (b4 : 0 ≤ mb) (t4 : mb ≤ 10) (b5 : 0 ≤ md) (t5 : md ≤ 10) (b6 : 0 ≤ n) (t6 : n ≤ 29) (f0 : 0 ≤ (mb - b - 1)) (f1 : 0 ≤ (md - d - 1)) (k0 : ly_hv cst h 20104 0 = some (n)) (l0 : hp_a l 0 94) (l1 : hp_i l 1 (a)) (l2 : hp_i l 2 (b)) (l3 : hp_i l 3 (d)) (l4 : hp_i l 4 6) (e0 : ∀ (l' : am_L) (h' : am_H), ly_hy m_tt ly_TH h' → ly_fr cst [20104] h h' → h.length ≤ h'.length → ly_hv cst h' 20104 0 = some (n + 1) → hp_a l' 0 94 → hp_i l' 1 (a) → hp_i l' 2 (b + 1) → hp_i l' 3 (d + 1) → hp_F cst strs Φ D M 216 l' [] h') : hp_F cst strs Φ D M 540 l [] h := by
  refine hp_arc c hM jx3_5_k hD [a, b, d, ma, mb, md, n] rfl hy (hp_Bc (z := a) rfl b0 t0 (hp_Bc (z := b) rfl b1 t1 (hp_Bc (z := d) rfl b2 t2 (hp_Bc (z := ma) rfl b3 t3 (hp_Bc (z := mb) rfl b4 t4 (hp_Bc (z := md) rfl b5 t5 (hp_Bc (z := n) rfl b6 t6 hp_Bn))))))) (hp_Fc (z := ((-1) + ((-1) * b + (1 * mb + 0)))) rfl (by omega) (hp_Fc (z := ((-1) + ((-1) * d + (1 * md + 0)))) rfl (by omega) hp_Fn)) (hp_Kc (zi := (0 + 0)) (zv := (0 + (1 * n + 0))) k0 rfl rfl (by omega) (by omega) hp_Kn) (hp_La l0 (hp_Li (z := (0 + (1 * a + 0))) l1 rfl (by omega) (hp_Li (z := (0 + (1 * b + 0))) l2 rfl (by omega) (hp_Li (z := (0 + (1 * d + 0))) l3 rfl (by omega) (hp_Li (z := (6 + 0)) l4 rfl (by omega) hp_Ln))))) trivial ?_ ?_
  · intro p hp ys l' st' h' hys a1 a2 a3 gZ gL gS
    rcases List.mem_cons.mp hp with rfl | hp
    · obtain rfl := hp_y0 hys
      cases hp_gSn gS
      exact e0 l' h' a1 a2 a3 (hp_gK (zi := (0 + 0)) (zv := (1 + (1 * n + 0))) gZ.2.2.2 (List.mem_of_getElem? (i := 0) rfl) rfl rfl (by omega) (by omega)) (hp_gLa gL (List.mem_of_getElem? (i := 0) rfl) (by decide)) (hp_gLi (z := (0 + (1 * a + 0))) gL (List.mem_of_getElem? (i := 1) rfl) rfl (by omega)) (hp_gLi (z := (1 + (1 * b + 0))) gL (List.mem_of_getElem? (i := 2) rfl) rfl (by omega)) (hp_gLi (z := (1 + (1 * d + 0))) gL (List.mem_of_getElem? (i := 3) rfl) rfl (by omega))
    cases hp
  · intro p hp ys v h' hys a1 a2 a3 gZ gS
    cases hp
theorem jx4_1_k : hp_chk 411 286 10 [(0, 0, 10), (1, 0, 10), (2, 0, 10), (3, 0, 10), (4, 0, 10), (5, 0, 10), (6, 0, 12), (7, 0, 360), (8, 0, 29), (9, 0, 2147483647)] [((-1), [(0, (-1)), (3, 1)])] [(0, .inr (.inr (.inl (some 94)))), (1, .inl (0, [(0, 1)])), (2, .inl (0, [(1, 1)])), (3, .inl (0, [(2, 1)])), (4, .inl (0, [])), (5, .inl (4, [])), (6, .inl (1, []))] [.inl (0, [(6, 1)])] [(44288, (0, []), (0, [(3, 1)])), (44288, (1, []), (0, [(4, 1)])), (44288, (2, []), (0, [(5, 1)])), (45056, (121, [(0, 121), (1, 11), (2, 1)]), (0, [(7, 1)])), (45056, (0, [(0, 121), (1, 11), (2, 1)]), (0, [(6, 1), (7, 1)])), (20104, (0, []), (0, [(8, 1)])), (44032, (0, [(0, 1)]), (0, [(9, 1)]))] [] 5 [(438, ([], 10, [(0, 0, 10), (1, 0, 10), (2, 0, 10), (3, 0, 10), (4, 0, 10), (5, 0, 10), (6, 0, 12), (7, 0, 360), (8, 0, 29), (9, 0, 2147483647)], [], [(0, .inr (.inr (.inl (some 94)))), (1, .inl (0, [(0, 1)])), (2, .inl (0, [(1, 1)])), (3, .inl (0, [(2, 1)])), (4, .inl (1, [])), (5, .inl (0, [(9, 1)])), (6, .inl ((-1), [])), (7, .inl ((-1), []))], [.inl (0, [(0, 1)]), .inl (0, [(8, 3)]), .inr (.inr (.inl (some 190)))], [(20104, (0, []), (0, [(8, 1)]))]))] [] = true := by decide +kernel
theorem jx4_1 {cst : am_K} {strs : List Nat} {Φ : am_Q → Prop} {D : Nat} {M : am_M} {h : am_H} {l : am_L} (c : hp_C cst strs D) (hM : m_P[411]? = some M) (hD : (5 : Int) ≤ (D : Int) + 1) (hy : ly_hy m_tt ly_TH h) (a b d ma mb md k y n u : Int) (x0 : Int32) (hx0 : x0.toInt = (k)) (b0 : 0 ≤ a) (t0 : a ≤ 10) (b1 : 0 ≤ b) (t1 : b ≤ 10) (b2 : 0 ≤ d) (t2 : d ≤ 10) (b3 : 0 ≤ ma) (t3 : ma ≤ 10) (b4 : 0 ≤ mb) (t4 : mb ≤ 10) (b5 : 0 ≤ md) (t5 : md ≤ 10) (b6 : 0 ≤ k) (t6 : k ≤ 12) (b7 : 0 ≤ y) (t7 : y ≤ 360) (b8 : 0 ≤ n) (t8 : n ≤ 29) (b9 : 0 ≤ u) (t9 : u ≤ 2147483647) (f0 : 0 ≤ (ma - a - 1)) (k0 : ly_hv cst h 44288 0 = some (ma)) (k1 : ly_hv cst h 44288 1 = some (mb)) (k2 : ly_hv cst h 44288 2 = some (md)) (k3 : ly_hv cst h 45056 (121 * a + 11 * b + d + 121) = some (y)) (k4 : ly_hv cst h 45056 (121 * a + 11 * b + d) = some (k + y)) (k5 : ly_hv cst h 20104 0 = some (n)) (k6 : ly_hv cst h 44032 (a) = some (u)) (l0 : hp_a l 0 94) (l1 : hp_i l 1 (a)) (l2 : hp_i l 2 (b)) (l3 : hp_i l 3 (d)) (l4 : hp_i l 4 0) (l5 : hp_i l 5 4) (l6 : hp_i l 6 1) (e0 : ∀ (l' : am_L) (h' : am_H) (y0 : Int32) (y1 : Int32), y0.toInt = (a) → y1.toInt = (3 * n) → ly_hy m_tt ly_TH h' → ly_fr cst [] h h' → h.length ≤ h'.length → ly_hv cst h' 20104 0 = some (n) → hp_a l' 0 94 → hp_i l' 1 (a) → hp_i l' 2 (b) → hp_i l' 3 (d) → hp_i l' 4 1 → hp_i l' 5 (u) → hp_i l' 6 (-1) → hp_i l' 7 (-1) → hp_F cst strs Φ D M 438 l' [.int y0, .int y1, .ref 190] h') : hp_F cst strs Φ D M 286 l [.int x0] h := by
  refine hp_arc c hM jx4_1_k hD [a, b, d, ma, mb, md, k, y, n, u] rfl hy (hp_Bc (z := a) rfl b0 t0 (hp_Bc (z := b) rfl b1 t1 (hp_Bc (z := d) rfl b2 t2 (hp_Bc (z := ma) rfl b3 t3 (hp_Bc (z := mb) rfl b4 t4 (hp_Bc (z := md) rfl b5 t5 (hp_Bc (z := k) rfl b6 t6 (hp_Bc (z := y) rfl b7 t7 (hp_Bc (z := n) rfl b8 t8 (hp_Bc (z := u) rfl b9 t9 hp_Bn)))))))))) (hp_Fc (z := ((-1) + ((-1) * a + (1 * ma + 0)))) rfl (by omega) hp_Fn) (hp_Kc (zi := (0 + 0)) (zv := (0 + (1 * ma + 0))) k0 rfl rfl (by omega) (by omega) (hp_Kc (zi := (1 + 0)) (zv := (0 + (1 * mb + 0))) k1 rfl rfl (by omega) (by omega) (hp_Kc (zi := (2 + 0)) (zv := (0 + (1 * md + 0))) k2 rfl rfl (by omega) (by omega) (hp_Kc (zi := (121 + (121 * a + (11 * b + (1 * d + 0))))) (zv := (0 + (1 * y + 0))) k3 rfl rfl (by omega) (by omega) (hp_Kc (zi := (0 + (121 * a + (11 * b + (1 * d + 0))))) (zv := (0 + (1 * k + (1 * y + 0)))) k4 rfl rfl (by omega) (by omega) (hp_Kc (zi := (0 + 0)) (zv := (0 + (1 * n + 0))) k5 rfl rfl (by omega) (by omega) (hp_Kc (zi := (0 + (1 * a + 0))) (zv := (0 + (1 * u + 0))) k6 rfl rfl (by omega) (by omega) hp_Kn))))))) (hp_La l0 (hp_Li (z := (0 + (1 * a + 0))) l1 rfl (by omega) (hp_Li (z := (0 + (1 * b + 0))) l2 rfl (by omega) (hp_Li (z := (0 + (1 * d + 0))) l3 rfl (by omega) (hp_Li (z := (0 + 0)) l4 rfl (by omega) (hp_Li (z := (4 + 0)) l5 rfl (by omega) (hp_Li (z := (1 + 0)) l6 rfl (by omega) hp_Ln))))))) (hp_Si (z := (0 + (1 * k + 0))) rfl (by omega) trivial) ?_ ?_
  · intro p hp ys l' st' h' hys a1 a2 a3 gZ gL gS
    rcases List.mem_cons.mp hp with rfl | hp
    · obtain rfl := hp_y0 hys
      obtain ⟨y0, t0, rfl, q0, g0⟩ := hp_gSi (z := (0 + (1 * a + 0))) gS rfl
      obtain ⟨y1, t1, rfl, q1, g1⟩ := hp_gSi (z := (0 + (3 * n + 0))) g0 rfl
      obtain ⟨t2, rfl, g2⟩ := hp_gSa g1 (by decide)
      cases hp_gSn g2
      exact e0 l' h' y0 y1 (by omega) (by omega) a1 a2 a3 (hp_gK (zi := (0 + 0)) (zv := (0 + (1 * n + 0))) gZ.2.2.2 (List.mem_of_getElem? (i := 0) rfl) rfl rfl (by omega) (by omega)) (hp_gLa gL (List.mem_of_getElem? (i := 0) rfl) (by decide)) (hp_gLi (z := (0 + (1 * a + 0))) gL (List.mem_of_getElem? (i := 1) rfl) rfl (by omega)) (hp_gLi (z := (0 + (1 * b + 0))) gL (List.mem_of_getElem? (i := 2) rfl) rfl (by omega)) (hp_gLi (z := (0 + (1 * d + 0))) gL (List.mem_of_getElem? (i := 3) rfl) rfl (by omega)) (hp_gLi (z := (1 + 0)) gL (List.mem_of_getElem? (i := 4) rfl) rfl (by omega)) (hp_gLi (z := (0 + (1 * u + 0))) gL (List.mem_of_getElem? (i := 5) rfl) rfl (by omega)) (hp_gLi (z := ((-1) + 0)) gL (List.mem_of_getElem? (i := 6) rfl) rfl (by omega)) (hp_gLi (z := ((-1) + 0)) gL (List.mem_of_getElem? (i := 7) rfl) rfl (by omega))
    cases hp
  · intro p hp ys v h' hys a1 a2 a3 gZ gS
    cases hp
theorem jx4_2_k : hp_chk 411 439 5 [(0, 0, 10), (1, 0, 10), (2, 0, 10), (3, 0, 29), (4, 0, 2147483647)] [] [(0, .inr (.inr (.inl (some 94)))), (1, .inl (0, [(0, 1)])), (2, .inl (0, [(1, 1)])), (3, .inl (0, [(2, 1)])), (4, .inl (1, [])), (5, .inl (0, [(4, 1)])), (6, .inl ((-1), [])), (7, .inl ((-1), []))] [] [(20104, (0, []), (0, [(3, 1)]))] [] 5 [(465, ([], 5, [(0, 0, 10), (1, 0, 10), (2, 0, 10), (3, 0, 29), (4, 0, 2147483647)], [], [(0, .inr (.inr (.inl (some 94)))), (1, .inl (0, [(0, 1)])), (2, .inl (0, [(1, 1)])), (3, .inl (0, [(2, 1)])), (4, .inl (1, [])), (5, .inl (0, [(4, 1)])), (6, .inl ((-1), [])), (7, .inl ((-1), []))], [.inl ((-1), []), .inl (1, [(3, 3)]), .inr (.inr (.inl (some 190)))], [(20104, (0, []), (0, [(3, 1)]))]))] [] = true := by decide +kernel
theorem jx4_2 {cst : am_K} {strs : List Nat} {Φ : am_Q → Prop} {D : Nat} {M : am_M} {h : am_H} {l : am_L} (c : hp_C cst strs D) (hM : m_P[411]? = some M) (hD : (5 : Int) ≤ (D : Int) + 1) (hy : ly_hy m_tt ly_TH h) (a b d n u : Int) (b0 : 0 ≤ a) (t0 : a ≤ 10) (b1 : 0 ≤ b) (t1 : b ≤ 10) (b2 : 0 ≤ d) (t2 : d ≤ 10) (b3 : 0 ≤ n) (t3 : n ≤ 29) (b4 : 0 ≤ u) (t4 : u ≤ 2147483647) (k0 : ly_hv cst h 20104 0 = some (n)) (l0 : hp_a l 0 94) (l1 : hp_i l 1 (a)) (l2 : hp_i l 2 (b)) (l3 : hp_i l 3 (d)) (l4 : hp_i l 4 1) (l5 : hp_i l 5 (u)) (l6 : hp_i l 6 (-1)) (l7 : hp_i l 7 (-1)) (e0 : ∀ (l' : am_L) (h' : am_H) (y0 : Int32) (y1 : Int32), y0.toInt = (-1) → y1.toInt = (3 * n + 1) → ly_hy m_tt ly_TH h' → ly_fr cst [] h h' → h.length ≤ h'.length → ly_hv cst h' 20104 0 = some (n) → hp_a l' 0 94 → hp_i l' 1 (a) → hp_i l' 2 (b) → hp_i l' 3 (d) → hp_i l' 4 1 → hp_i l' 5 (u) → hp_i l' 6 (-1) → hp_i l' 7 (-1) → hp_F cst strs Φ D M 465 l' [.int y0, .int y1, .ref 190] h') : hp_F cst strs Φ D M 439 l [] h := by
  refine hp_arc c hM jx4_2_k hD [a, b, d, n, u] rfl hy (hp_Bc (z := a) rfl b0 t0 (hp_Bc (z := b) rfl b1 t1 (hp_Bc (z := d) rfl b2 t2 (hp_Bc (z := n) rfl b3 t3 (hp_Bc (z := u) rfl b4 t4 hp_Bn))))) hp_Fn (hp_Kc (zi := (0 + 0)) (zv := (0 + (1 * n + 0))) k0 rfl rfl (by omega) (by omega) hp_Kn) (hp_La l0 (hp_Li (z := (0 + (1 * a + 0))) l1 rfl (by omega) (hp_Li (z := (0 + (1 * b + 0))) l2 rfl (by omega) (hp_Li (z := (0 + (1 * d + 0))) l3 rfl (by omega) (hp_Li (z := (1 + 0)) l4 rfl (by omega) (hp_Li (z := (0 + (1 * u + 0))) l5 rfl (by omega) (hp_Li (z := ((-1) + 0)) l6 rfl (by omega) (hp_Li (z := ((-1) + 0)) l7 rfl (by omega) hp_Ln)))))))) trivial ?_ ?_
  · intro p hp ys l' st' h' hys a1 a2 a3 gZ gL gS
    rcases List.mem_cons.mp hp with rfl | hp
    · obtain rfl := hp_y0 hys
      obtain ⟨y0, t0, rfl, q0, g0⟩ := hp_gSi (z := ((-1) + 0)) gS rfl
      obtain ⟨y1, t1, rfl, q1, g1⟩ := hp_gSi (z := (1 + (3 * n + 0))) g0 rfl
      obtain ⟨t2, rfl, g2⟩ := hp_gSa g1 (by decide)
      cases hp_gSn g2
      exact e0 l' h' y0 y1 (by omega) (by omega) a1 a2 a3 (hp_gK (zi := (0 + 0)) (zv := (0 + (1 * n + 0))) gZ.2.2.2 (List.mem_of_getElem? (i := 0) rfl) rfl rfl (by omega) (by omega)) (hp_gLa gL (List.mem_of_getElem? (i := 0) rfl) (by decide)) (hp_gLi (z := (0 + (1 * a + 0))) gL (List.mem_of_getElem? (i := 1) rfl) rfl (by omega)) (hp_gLi (z := (0 + (1 * b + 0))) gL (List.mem_of_getElem? (i := 2) rfl) rfl (by omega)) (hp_gLi (z := (0 + (1 * d + 0))) gL (List.mem_of_getElem? (i := 3) rfl) rfl (by omega)) (hp_gLi (z := (1 + 0)) gL (List.mem_of_getElem? (i := 4) rfl) rfl (by omega)) (hp_gLi (z := (0 + (1 * u + 0))) gL (List.mem_of_getElem? (i := 5) rfl) rfl (by omega)) (hp_gLi (z := ((-1) + 0)) gL (List.mem_of_getElem? (i := 6) rfl) rfl (by omega)) (hp_gLi (z := ((-1) + 0)) gL (List.mem_of_getElem? (i := 7) rfl) rfl (by omega))
    cases hp
  · intro p hp ys v h' hys a1 a2 a3 gZ gS
    cases hp
theorem jx4_3_k : hp_chk 411 466 5 [(0, 0, 10), (1, 0, 10), (2, 0, 10), (3, 0, 29), (4, 0, 2147483647)] [] [(0, .inr (.inr (.inl (some 94)))), (1, .inl (0, [(0, 1)])), (2, .inl (0, [(1, 1)])), (3, .inl (0, [(2, 1)])), (4, .inl (1, [])), (5, .inl (0, [(4, 1)])), (6, .inl ((-1), [])), (7, .inl ((-1), []))] [] [(20104, (0, []), (0, [(3, 1)]))] [] 5 [(492, ([], 5, [(0, 0, 10), (1, 0, 10), (2, 0, 10), (3, 0, 29), (4, 0, 2147483647)], [], [(0, .inr (.inr (.inl (some 94)))), (1, .inl (0, [(0, 1)])), (2, .inl (0, [(1, 1)])), (3, .inl (0, [(2, 1)])), (4, .inl (1, [])), (5, .inl (0, [(4, 1)])), (6, .inl ((-1), [])), (7, .inl ((-1), []))], [.inl ((-1), []), .inl (2, [(3, 3)]), .inr (.inr (.inl (some 190)))], [(20104, (0, []), (0, [(3, 1)]))]))] [] = true := by decide +kernel
theorem jx4_3 {cst : am_K} {strs : List Nat} {Φ : am_Q → Prop} {D : Nat} {M : am_M} {h : am_H} {l : am_L} (c : hp_C cst strs D) (hM : m_P[411]? = some M) (hD : (5 : Int) ≤ (D : Int) + 1) (hy : ly_hy m_tt ly_TH h) (a b d n u : Int) (b0 : 0 ≤ a) (t0 : a ≤ 10) (b1 : 0 ≤ b) (t1 : b ≤ 10) (b2 : 0 ≤ d) (t2 : d ≤ 10) (b3 : 0 ≤ n) (t3 : n ≤ 29) (b4 : 0 ≤ u) (t4 : u ≤ 2147483647) (k0 : ly_hv cst h 20104 0 = some (n)) (l0 : hp_a l 0 94) (l1 : hp_i l 1 (a)) (l2 : hp_i l 2 (b)) (l3 : hp_i l 3 (d)) (l4 : hp_i l 4 1) (l5 : hp_i l 5 (u)) (l6 : hp_i l 6 (-1)) (l7 : hp_i l 7 (-1)) (e0 : ∀ (l' : am_L) (h' : am_H) (y0 : Int32) (y1 : Int32), y0.toInt = (-1) → y1.toInt = (3 * n + 2) → ly_hy m_tt ly_TH h' → ly_fr cst [] h h' → h.length ≤ h'.length → ly_hv cst h' 20104 0 = some (n) → hp_a l' 0 94 → hp_i l' 1 (a) → hp_i l' 2 (b) → hp_i l' 3 (d) → hp_i l' 4 1 → hp_i l' 5 (u) → hp_i l' 6 (-1) → hp_i l' 7 (-1) → hp_F cst strs Φ D M 492 l' [.int y0, .int y1, .ref 190] h') : hp_F cst strs Φ D M 466 l [] h := by
  refine hp_arc c hM jx4_3_k hD [a, b, d, n, u] rfl hy (hp_Bc (z := a) rfl b0 t0 (hp_Bc (z := b) rfl b1 t1 (hp_Bc (z := d) rfl b2 t2 (hp_Bc (z := n) rfl b3 t3 (hp_Bc (z := u) rfl b4 t4 hp_Bn))))) hp_Fn (hp_Kc (zi := (0 + 0)) (zv := (0 + (1 * n + 0))) k0 rfl rfl (by omega) (by omega) hp_Kn) (hp_La l0 (hp_Li (z := (0 + (1 * a + 0))) l1 rfl (by omega) (hp_Li (z := (0 + (1 * b + 0))) l2 rfl (by omega) (hp_Li (z := (0 + (1 * d + 0))) l3 rfl (by omega) (hp_Li (z := (1 + 0)) l4 rfl (by omega) (hp_Li (z := (0 + (1 * u + 0))) l5 rfl (by omega) (hp_Li (z := ((-1) + 0)) l6 rfl (by omega) (hp_Li (z := ((-1) + 0)) l7 rfl (by omega) hp_Ln)))))))) trivial ?_ ?_
  · intro p hp ys l' st' h' hys a1 a2 a3 gZ gL gS
    rcases List.mem_cons.mp hp with rfl | hp
    · obtain rfl := hp_y0 hys
      obtain ⟨y0, t0, rfl, q0, g0⟩ := hp_gSi (z := ((-1) + 0)) gS rfl
      obtain ⟨y1, t1, rfl, q1, g1⟩ := hp_gSi (z := (2 + (3 * n + 0))) g0 rfl
      obtain ⟨t2, rfl, g2⟩ := hp_gSa g1 (by decide)
      cases hp_gSn g2
      exact e0 l' h' y0 y1 (by omega) (by omega) a1 a2 a3 (hp_gK (zi := (0 + 0)) (zv := (0 + (1 * n + 0))) gZ.2.2.2 (List.mem_of_getElem? (i := 0) rfl) rfl rfl (by omega) (by omega)) (hp_gLa gL (List.mem_of_getElem? (i := 0) rfl) (by decide)) (hp_gLi (z := (0 + (1 * a + 0))) gL (List.mem_of_getElem? (i := 1) rfl) rfl (by omega)) (hp_gLi (z := (0 + (1 * b + 0))) gL (List.mem_of_getElem? (i := 2) rfl) rfl (by omega)) (hp_gLi (z := (0 + (1 * d + 0))) gL (List.mem_of_getElem? (i := 3) rfl) rfl (by omega)) (hp_gLi (z := (1 + 0)) gL (List.mem_of_getElem? (i := 4) rfl) rfl (by omega)) (hp_gLi (z := (0 + (1 * u + 0))) gL (List.mem_of_getElem? (i := 5) rfl) rfl (by omega)) (hp_gLi (z := ((-1) + 0)) gL (List.mem_of_getElem? (i := 6) rfl) rfl (by omega)) (hp_gLi (z := ((-1) + 0)) gL (List.mem_of_getElem? (i := 7) rfl) rfl (by omega))
    cases hp
  · intro p hp ys v h' hys a1 a2 a3 gZ gS
    cases hp
theorem jx4_4n_k : hp_chk 411 493 5 [(0, 0, 10), (1, 0, 10), (2, 0, 10), (3, 0, 29), (4, 0, 2147483647)] [] [(0, .inr (.inr (.inl (some 94)))), (1, .inl (0, [(0, 1)])), (2, .inl (0, [(1, 1)])), (3, .inl (0, [(2, 1)])), (4, .inl (1, [])), (5, .inl (0, [(4, 1)])), (6, .inl ((-1), [])), (7, .inl ((-1), []))] [] [(20104, (0, []), (0, [(3, 1)]))] [] 5 [(539, ([], 5, [(0, 0, 10), (1, 0, 10), (2, 0, 10), (3, 0, 29), (4, 0, 2147483647)], [], [(0, .inr (.inr (.inl (some 94)))), (1, .inl (0, [(0, 1)])), (2, .inl (0, [(1, 1)])), (3, .inl (0, [(2, 1)])), (4, .inl (1, []))], [.inl (0, []), .inl (0, [(3, 1)]), .inr (.inr (.inl (some 191)))], [(20104, (0, []), (0, [(3, 1)]))]))] [] = true := by decide +kernel
theorem jx4_4n {cst : am_K} {strs : List Nat} {Φ : am_Q → Prop} {D : Nat} {M : am_M} {h : am_H} {l : am_L} (c : hp_C cst strs D) (hM : m_P[411]? = some M) (hD : (5 : Int) ≤ (D : Int) + 1) (hy : ly_hy m_tt ly_TH h) (a b d n u : Int) (b0 : 0 ≤ a) (t0 : a ≤ 10) (b1 : 0 ≤ b) (t1 : b ≤ 10) (b2 : 0 ≤ d) (t2 : d ≤ 10) (b3 : 0 ≤ n) (t3 : n ≤ 29) (b4 : 0 ≤ u) (t4 : u ≤ 2147483647) (k0 : ly_hv cst h 20104 0 = some (n)) (l0 : hp_a l 0 94) (l1 : hp_i l 1 (a)) (l2 : hp_i l 2 (b)) (l3 : hp_i l 3 (d)) (l4 : hp_i l 4 1) (l5 : hp_i l 5 (u)) (l6 : hp_i l 6 (-1)) (l7 : hp_i l 7 (-1)) (e0 : ∀ (l' : am_L) (h' : am_H) (y0 : Int32) (y1 : Int32), y0.toInt = 0 → y1.toInt = (n) → ly_hy m_tt ly_TH h' → ly_fr cst [] h h' → h.length ≤ h'.length → ly_hv cst h' 20104 0 = some (n) → hp_a l' 0 94 → hp_i l' 1 (a) → hp_i l' 2 (b) → hp_i l' 3 (d) → hp_i l' 4 1 → hp_F cst strs Φ D M 539 l' [.int y0, .int y1, .ref 191] h') : hp_F cst strs Φ D M 493 l [] h := by
  refine hp_arc c hM jx4_4n_k hD [a, b, d, n, u] rfl hy (hp_Bc (z := a) rfl b0 t0 (hp_Bc (z := b) rfl b1 t1 (hp_Bc (z := d) rfl b2 t2 (hp_Bc (z := n) rfl b3 t3 (hp_Bc (z := u) rfl b4 t4 hp_Bn))))) hp_Fn (hp_Kc (zi := (0 + 0)) (zv := (0 + (1 * n + 0))) k0 rfl rfl (by omega) (by omega) hp_Kn) (hp_La l0 (hp_Li (z := (0 + (1 * a + 0))) l1 rfl (by omega) (hp_Li (z := (0 + (1 * b + 0))) l2 rfl (by omega) (hp_Li (z := (0 + (1 * d + 0))) l3 rfl (by omega) (hp_Li (z := (1 + 0)) l4 rfl (by omega) (hp_Li (z := (0 + (1 * u + 0))) l5 rfl (by omega) (hp_Li (z := ((-1) + 0)) l6 rfl (by omega) (hp_Li (z := ((-1) + 0)) l7 rfl (by omega) hp_Ln)))))))) trivial ?_ ?_
  · intro p hp ys l' st' h' hys a1 a2 a3 gZ gL gS
    rcases List.mem_cons.mp hp with rfl | hp
    · obtain rfl := hp_y0 hys
      obtain ⟨y0, t0, rfl, q0, g0⟩ := hp_gSi (z := (0 + 0)) gS rfl
      obtain ⟨y1, t1, rfl, q1, g1⟩ := hp_gSi (z := (0 + (1 * n + 0))) g0 rfl
      obtain ⟨t2, rfl, g2⟩ := hp_gSa g1 (by decide)
      cases hp_gSn g2
      exact e0 l' h' y0 y1 (by omega) (by omega) a1 a2 a3 (hp_gK (zi := (0 + 0)) (zv := (0 + (1 * n + 0))) gZ.2.2.2 (List.mem_of_getElem? (i := 0) rfl) rfl rfl (by omega) (by omega)) (hp_gLa gL (List.mem_of_getElem? (i := 0) rfl) (by decide)) (hp_gLi (z := (0 + (1 * a + 0))) gL (List.mem_of_getElem? (i := 1) rfl) rfl (by omega)) (hp_gLi (z := (0 + (1 * b + 0))) gL (List.mem_of_getElem? (i := 2) rfl) rfl (by omega)) (hp_gLi (z := (0 + (1 * d + 0))) gL (List.mem_of_getElem? (i := 3) rfl) rfl (by omega)) (hp_gLi (z := (1 + 0)) gL (List.mem_of_getElem? (i := 4) rfl) rfl (by omega))
    cases hp
  · intro p hp ys v h' hys a1 a2 a3 gZ gS
    cases hp
theorem jx4_5_k : hp_chk 411 540 7 [(0, 0, 10), (1, 0, 10), (2, 0, 10), (3, 0, 10), (4, 0, 10), (5, 0, 10), (6, 0, 29)] [((-1), [(0, (-1)), (3, 1)])] [(0, .inr (.inr (.inl (some 94)))), (1, .inl (0, [(0, 1)])), (2, .inl (0, [(1, 1)])), (3, .inl (0, [(2, 1)])), (4, .inl (1, []))] [] [(20104, (0, []), (0, [(6, 1)]))] [20104] 5 [(216, ([], 7, [(0, 0, 10), (1, 0, 10), (2, 0, 10), (3, 0, 10), (4, 0, 10), (5, 0, 10), (6, 0, 29)], [], [(0, .inr (.inr (.inl (some 94)))), (1, .inl (1, [(0, 1)])), (2, .inl (0, [(1, 1)])), (3, .inl (0, [(2, 1)]))], [], [(20104, (0, []), (1, [(6, 1)]))]))] [] = true := by decide +kernel
theorem jx4_5 {cst : am_K} {strs : List Nat} {Φ : am_Q → Prop} {D : Nat} {M : am_M} {h : am_H} {l : am_L} (c : hp_C cst strs D) (hM : m_P[411]? = some M) (hD : (5 : Int) ≤ (D : Int) + 1) (hy : ly_hy m_tt ly_TH h) (a b d ma mb md n : Int) (b0 : 0 ≤ a) (t0 : a ≤ 10) (b1 : 0 ≤ b) (t1 : b ≤ 10) (b2 : 0 ≤ d) (t2 : d ≤ 10) (b3 : 0 ≤ ma) (t3 : ma ≤ 10) (b4 : 0 ≤ mb) (t4 : mb ≤ 10) (b5 : 0 ≤ md) (t5 : md ≤ 10) (b6 : 0 ≤ n) (t6 : n ≤ 29) (f0 : 0 ≤ (ma - a - 1)) (k0 : ly_hv cst h 20104 0 = some (n)) (l0 : hp_a l 0 94) (l1 : hp_i l 1 (a)) (l2 : hp_i l 2 (b)) (l3 : hp_i l 3 (d)) (l4 : hp_i l 4 1) (e0 : ∀ (l' : am_L) (h' : am_H), ly_hy m_tt ly_TH h' → ly_fr cst [20104] h h' → h.length ≤ h'.length → ly_hv cst h' 20104 0 = some (n + 1) → hp_a l' 0 94 → hp_i l' 1 (a + 1) → hp_i l' 2 (b) → hp_i l' 3 (d) → hp_F cst strs Φ D M 216 l' [] h') : hp_F cst strs Φ D M 540 l [] h := by
  refine hp_arc c hM jx4_5_k hD [a, b, d, ma, mb, md, n] rfl hy (hp_Bc (z := a) rfl b0 t0 (hp_Bc (z := b) rfl b1 t1 (hp_Bc (z := d) rfl b2 t2 (hp_Bc (z := ma) rfl b3 t3 (hp_Bc (z := mb) rfl b4 t4 (hp_Bc (z := md) rfl b5 t5 (hp_Bc (z := n) rfl b6 t6 hp_Bn))))))) (hp_Fc (z := ((-1) + ((-1) * a + (1 * ma + 0)))) rfl (by omega) hp_Fn) (hp_Kc (zi := (0 + 0)) (zv := (0 + (1 * n + 0))) k0 rfl rfl (by omega) (by omega) hp_Kn) (hp_La l0 (hp_Li (z := (0 + (1 * a + 0))) l1 rfl (by omega) (hp_Li (z := (0 + (1 * b + 0))) l2 rfl (by omega) (hp_Li (z := (0 + (1 * d + 0))) l3 rfl (by omega) (hp_Li (z := (1 + 0)) l4 rfl (by omega) hp_Ln))))) trivial ?_ ?_
  · intro p hp ys l' st' h' hys a1 a2 a3 gZ gL gS
    rcases List.mem_cons.mp hp with rfl | hp
    · obtain rfl := hp_y0 hys
      cases hp_gSn gS
      exact e0 l' h' a1 a2 a3 (hp_gK (zi := (0 + 0)) (zv := (1 + (1 * n + 0))) gZ.2.2.2 (List.mem_of_getElem? (i := 0) rfl) rfl rfl (by omega) (by omega)) (hp_gLa gL (List.mem_of_getElem? (i := 0) rfl) (by decide)) (hp_gLi (z := (1 + (1 * a + 0))) gL (List.mem_of_getElem? (i := 1) rfl) rfl (by omega)) (hp_gLi (z := (0 + (1 * b + 0))) gL (List.mem_of_getElem? (i := 2) rfl) rfl (by omega)) (hp_gLi (z := (0 + (1 * d + 0))) gL (List.mem_of_getElem? (i := 3) rfl) rfl (by omega))
    cases hp
  · intro p hp ys v h' hys a1 a2 a3 gZ gS
    cases hp
theorem jx5_1_k : hp_chk 411 286 10 [(0, 0, 10), (1, 0, 10), (2, 0, 10), (3, 0, 10), (4, 0, 10), (5, 0, 10), (6, 0, 12), (7, 0, 360), (8, 0, 29), (9, 0, 2147483647)] [((-1), [(1, (-1)), (4, 1)])] [(0, .inr (.inr (.inl (some 94)))), (1, .inl (0, [(0, 1)])), (2, .inl (0, [(1, 1)])), (3, .inl (0, [(2, 1)])), (4, .inl (0, [])), (5, .inl (5, [])), (6, .inl (2, []))] [.inl (0, [(6, 1)])] [(44288, (0, []), (0, [(3, 1)])), (44288, (1, []), (0, [(4, 1)])), (44288, (2, []), (0, [(5, 1)])), (45056, (11, [(0, 121), (1, 11), (2, 1)]), (0, [(7, 1)])), (45056, (0, [(0, 121), (1, 11), (2, 1)]), (0, [(6, 1), (7, 1)])), (20104, (0, []), (0, [(8, 1)])), (44032, (10, [(1, 1)]), (0, [(9, 1)]))] [] 5 [(438, ([], 10, [(0, 0, 10), (1, 0, 10), (2, 0, 10), (3, 0, 10), (4, 0, 10), (5, 0, 10), (6, 0, 12), (7, 0, 360), (8, 0, 29), (9, 0, 2147483647)], [], [(0, .inr (.inr (.inl (some 94)))), (1, .inl (0, [(0, 1)])), (2, .inl (0, [(1, 1)])), (3, .inl (0, [(2, 1)])), (4, .inl (2, [])), (5, .inl ((-1), [])), (6, .inl (0, [(9, 1)])), (7, .inl ((-1), []))], [.inl ((-1), []), .inl (0, [(8, 3)]), .inr (.inr (.inl (some 190)))], [(20104, (0, []), (0, [(8, 1)]))]))] [] = true := by decide +kernel
theorem jx5_1 {cst : am_K} {strs : List Nat} {Φ : am_Q → Prop} {D : Nat} {M : am_M} {h : am_H} {l : am_L} (c : hp_C cst strs D) (hM : m_P[411]? = some M) (hD : (5 : Int) ≤ (D : Int) + 1) (hy : ly_hy m_tt ly_TH h) (a b d ma mb md k y n v : Int) (x0 : Int32) (hx0 : x0.toInt = (k)) (b0 : 0 ≤ a) (t0 : a ≤ 10) (b1 : 0 ≤ b) (t1 : b ≤ 10) (b2 : 0 ≤ d) (t2 : d ≤ 10) (b3 : 0 ≤ ma) (t3 : ma ≤ 10) (b4 : 0 ≤ mb) (t4 : mb ≤ 10) (b5 : 0 ≤ md) (t5 : md ≤ 10) (b6 : 0 ≤ k) (t6 : k ≤ 12) (b7 : 0 ≤ y) (t7 : y ≤ 360) (b8 : 0 ≤ n) (t8 : n ≤ 29) (b9 : 0 ≤ v) (t9 : v ≤ 2147483647) (f0 : 0 ≤ (mb - b - 1)) (k0 : ly_hv cst h 44288 0 = some (ma)) (k1 : ly_hv cst h 44288 1 = some (mb)) (k2 : ly_hv cst h 44288 2 = some (md)) (k3 : ly_hv cst h 45056 (121 * a + 11 * b + d + 11) = some (y)) (k4 : ly_hv cst h 45056 (121 * a + 11 * b + d) = some (k + y)) (k5 : ly_hv cst h 20104 0 = some (n)) (k6 : ly_hv cst h 44032 (b + 10) = some (v)) (l0 : hp_a l 0 94) (l1 : hp_i l 1 (a)) (l2 : hp_i l 2 (b)) (l3 : hp_i l 3 (d)) (l4 : hp_i l 4 0) (l5 : hp_i l 5 5) (l6 : hp_i l 6 2) (e0 : ∀ (l' : am_L) (h' : am_H) (y0 : Int32) (y1 : Int32), y0.toInt = (-1) → y1.toInt = (3 * n) → ly_hy m_tt ly_TH h' → ly_fr cst [] h h' → h.length ≤ h'.length → ly_hv cst h' 20104 0 = some (n) → hp_a l' 0 94 → hp_i l' 1 (a) → hp_i l' 2 (b) → hp_i l' 3 (d) → hp_i l' 4 2 → hp_i l' 5 (-1) → hp_i l' 6 (v) → hp_i l' 7 (-1) → hp_F cst strs Φ D M 438 l' [.int y0, .int y1, .ref 190] h') : hp_F cst strs Φ D M 286 l [.int x0] h := by
  refine hp_arc c hM jx5_1_k hD [a, b, d, ma, mb, md, k, y, n, v] rfl hy (hp_Bc (z := a) rfl b0 t0 (hp_Bc (z := b) rfl b1 t1 (hp_Bc (z := d) rfl b2 t2 (hp_Bc (z := ma) rfl b3 t3 (hp_Bc (z := mb) rfl b4 t4 (hp_Bc (z := md) rfl b5 t5 (hp_Bc (z := k) rfl b6 t6 (hp_Bc (z := y) rfl b7 t7 (hp_Bc (z := n) rfl b8 t8 (hp_Bc (z := v) rfl b9 t9 hp_Bn)))))))))) (hp_Fc (z := ((-1) + ((-1) * b + (1 * mb + 0)))) rfl (by omega) hp_Fn) (hp_Kc (zi := (0 + 0)) (zv := (0 + (1 * ma + 0))) k0 rfl rfl (by omega) (by omega) (hp_Kc (zi := (1 + 0)) (zv := (0 + (1 * mb + 0))) k1 rfl rfl (by omega) (by omega) (hp_Kc (zi := (2 + 0)) (zv := (0 + (1 * md + 0))) k2 rfl rfl (by omega) (by omega) (hp_Kc (zi := (11 + (121 * a + (11 * b + (1 * d + 0))))) (zv := (0 + (1 * y + 0))) k3 rfl rfl (by omega) (by omega) (hp_Kc (zi := (0 + (121 * a + (11 * b + (1 * d + 0))))) (zv := (0 + (1 * k + (1 * y + 0)))) k4 rfl rfl (by omega) (by omega) (hp_Kc (zi := (0 + 0)) (zv := (0 + (1 * n + 0))) k5 rfl rfl (by omega) (by omega) (hp_Kc (zi := (10 + (1 * b + 0))) (zv := (0 + (1 * v + 0))) k6 rfl rfl (by omega) (by omega) hp_Kn))))))) (hp_La l0 (hp_Li (z := (0 + (1 * a + 0))) l1 rfl (by omega) (hp_Li (z := (0 + (1 * b + 0))) l2 rfl (by omega) (hp_Li (z := (0 + (1 * d + 0))) l3 rfl (by omega) (hp_Li (z := (0 + 0)) l4 rfl (by omega) (hp_Li (z := (5 + 0)) l5 rfl (by omega) (hp_Li (z := (2 + 0)) l6 rfl (by omega) hp_Ln))))))) (hp_Si (z := (0 + (1 * k + 0))) rfl (by omega) trivial) ?_ ?_
  · intro p hp ys l' st' h' hys a1 a2 a3 gZ gL gS
    rcases List.mem_cons.mp hp with rfl | hp
    · obtain rfl := hp_y0 hys
      obtain ⟨y0, t0, rfl, q0, g0⟩ := hp_gSi (z := ((-1) + 0)) gS rfl
      obtain ⟨y1, t1, rfl, q1, g1⟩ := hp_gSi (z := (0 + (3 * n + 0))) g0 rfl
      obtain ⟨t2, rfl, g2⟩ := hp_gSa g1 (by decide)
      cases hp_gSn g2
      exact e0 l' h' y0 y1 (by omega) (by omega) a1 a2 a3 (hp_gK (zi := (0 + 0)) (zv := (0 + (1 * n + 0))) gZ.2.2.2 (List.mem_of_getElem? (i := 0) rfl) rfl rfl (by omega) (by omega)) (hp_gLa gL (List.mem_of_getElem? (i := 0) rfl) (by decide)) (hp_gLi (z := (0 + (1 * a + 0))) gL (List.mem_of_getElem? (i := 1) rfl) rfl (by omega)) (hp_gLi (z := (0 + (1 * b + 0))) gL (List.mem_of_getElem? (i := 2) rfl) rfl (by omega)) (hp_gLi (z := (0 + (1 * d + 0))) gL (List.mem_of_getElem? (i := 3) rfl) rfl (by omega)) (hp_gLi (z := (2 + 0)) gL (List.mem_of_getElem? (i := 4) rfl) rfl (by omega)) (hp_gLi (z := ((-1) + 0)) gL (List.mem_of_getElem? (i := 5) rfl) rfl (by omega)) (hp_gLi (z := (0 + (1 * v + 0))) gL (List.mem_of_getElem? (i := 6) rfl) rfl (by omega)) (hp_gLi (z := ((-1) + 0)) gL (List.mem_of_getElem? (i := 7) rfl) rfl (by omega))
    cases hp
  · intro p hp ys v h' hys a1 a2 a3 gZ gS
    cases hp
theorem jx5_2_k : hp_chk 411 439 5 [(0, 0, 10), (1, 0, 10), (2, 0, 10), (3, 0, 29), (4, 0, 2147483647)] [] [(0, .inr (.inr (.inl (some 94)))), (1, .inl (0, [(0, 1)])), (2, .inl (0, [(1, 1)])), (3, .inl (0, [(2, 1)])), (4, .inl (2, [])), (5, .inl ((-1), [])), (6, .inl (0, [(4, 1)])), (7, .inl ((-1), []))] [] [(20104, (0, []), (0, [(3, 1)]))] [] 5 [(465, ([], 5, [(0, 0, 10), (1, 0, 10), (2, 0, 10), (3, 0, 29), (4, 0, 2147483647)], [], [(0, .inr (.inr (.inl (some 94)))), (1, .inl (0, [(0, 1)])), (2, .inl (0, [(1, 1)])), (3, .inl (0, [(2, 1)])), (4, .inl (2, [])), (5, .inl ((-1), [])), (6, .inl (0, [(4, 1)])), (7, .inl ((-1), []))], [.inl (0, [(1, 1)]), .inl (1, [(3, 3)]), .inr (.inr (.inl (some 190)))], [(20104, (0, []), (0, [(3, 1)]))]))] [] = true := by decide +kernel
theorem jx5_2 {cst : am_K} {strs : List Nat} {Φ : am_Q → Prop} {D : Nat} {M : am_M} {h : am_H} {l : am_L} (c : hp_C cst strs D) (hM : m_P[411]? = some M) (hD : (5 : Int) ≤ (D : Int) + 1) (hy : ly_hy m_tt ly_TH h) (a b d n v : Int) (b0 : 0 ≤ a) (t0 : a ≤ 10) (b1 : 0 ≤ b) (t1 : b ≤ 10) (b2 : 0 ≤ d) (t2 : d ≤ 10) (b3 : 0 ≤ n) (t3 : n ≤ 29) (b4 : 0 ≤ v) (t4 : v ≤ 2147483647) (k0 : ly_hv cst h 20104 0 = some (n)) (l0 : hp_a l 0 94) (l1 : hp_i l 1 (a)) (l2 : hp_i l 2 (b)) (l3 : hp_i l 3 (d)) (l4 : hp_i l 4 2) (l5 : hp_i l 5 (-1)) (l6 : hp_i l 6 (v)) (l7 : hp_i l 7 (-1)) (e0 : ∀ (l' : am_L) (h' : am_H) (y0 : Int32) (y1 : Int32), y0.toInt = (b) → y1.toInt = (3 * n + 1) → ly_hy m_tt ly_TH h' → ly_fr cst [] h h' → h.length ≤ h'.length → ly_hv cst h' 20104 0 = some (n) → hp_a l' 0 94 → hp_i l' 1 (a) → hp_i l' 2 (b) → hp_i l' 3 (d) → hp_i l' 4 2 → hp_i l' 5 (-1) → hp_i l' 6 (v) → hp_i l' 7 (-1) → hp_F cst strs Φ D M 465 l' [.int y0, .int y1, .ref 190] h') : hp_F cst strs Φ D M 439 l [] h := by
  refine hp_arc c hM jx5_2_k hD [a, b, d, n, v] rfl hy (hp_Bc (z := a) rfl b0 t0 (hp_Bc (z := b) rfl b1 t1 (hp_Bc (z := d) rfl b2 t2 (hp_Bc (z := n) rfl b3 t3 (hp_Bc (z := v) rfl b4 t4 hp_Bn))))) hp_Fn (hp_Kc (zi := (0 + 0)) (zv := (0 + (1 * n + 0))) k0 rfl rfl (by omega) (by omega) hp_Kn) (hp_La l0 (hp_Li (z := (0 + (1 * a + 0))) l1 rfl (by omega) (hp_Li (z := (0 + (1 * b + 0))) l2 rfl (by omega) (hp_Li (z := (0 + (1 * d + 0))) l3 rfl (by omega) (hp_Li (z := (2 + 0)) l4 rfl (by omega) (hp_Li (z := ((-1) + 0)) l5 rfl (by omega) (hp_Li (z := (0 + (1 * v + 0))) l6 rfl (by omega) (hp_Li (z := ((-1) + 0)) l7 rfl (by omega) hp_Ln)))))))) trivial ?_ ?_
  · intro p hp ys l' st' h' hys a1 a2 a3 gZ gL gS
    rcases List.mem_cons.mp hp with rfl | hp
    · obtain rfl := hp_y0 hys
      obtain ⟨y0, t0, rfl, q0, g0⟩ := hp_gSi (z := (0 + (1 * b + 0))) gS rfl
      obtain ⟨y1, t1, rfl, q1, g1⟩ := hp_gSi (z := (1 + (3 * n + 0))) g0 rfl
      obtain ⟨t2, rfl, g2⟩ := hp_gSa g1 (by decide)
      cases hp_gSn g2
      exact e0 l' h' y0 y1 (by omega) (by omega) a1 a2 a3 (hp_gK (zi := (0 + 0)) (zv := (0 + (1 * n + 0))) gZ.2.2.2 (List.mem_of_getElem? (i := 0) rfl) rfl rfl (by omega) (by omega)) (hp_gLa gL (List.mem_of_getElem? (i := 0) rfl) (by decide)) (hp_gLi (z := (0 + (1 * a + 0))) gL (List.mem_of_getElem? (i := 1) rfl) rfl (by omega)) (hp_gLi (z := (0 + (1 * b + 0))) gL (List.mem_of_getElem? (i := 2) rfl) rfl (by omega)) (hp_gLi (z := (0 + (1 * d + 0))) gL (List.mem_of_getElem? (i := 3) rfl) rfl (by omega)) (hp_gLi (z := (2 + 0)) gL (List.mem_of_getElem? (i := 4) rfl) rfl (by omega)) (hp_gLi (z := ((-1) + 0)) gL (List.mem_of_getElem? (i := 5) rfl) rfl (by omega)) (hp_gLi (z := (0 + (1 * v + 0))) gL (List.mem_of_getElem? (i := 6) rfl) rfl (by omega)) (hp_gLi (z := ((-1) + 0)) gL (List.mem_of_getElem? (i := 7) rfl) rfl (by omega))
    cases hp
  · intro p hp ys v h' hys a1 a2 a3 gZ gS
    cases hp
theorem jx5_3_k : hp_chk 411 466 5 [(0, 0, 10), (1, 0, 10), (2, 0, 10), (3, 0, 29), (4, 0, 2147483647)] [] [(0, .inr (.inr (.inl (some 94)))), (1, .inl (0, [(0, 1)])), (2, .inl (0, [(1, 1)])), (3, .inl (0, [(2, 1)])), (4, .inl (2, [])), (5, .inl ((-1), [])), (6, .inl (0, [(4, 1)])), (7, .inl ((-1), []))] [] [(20104, (0, []), (0, [(3, 1)]))] [] 5 [(492, ([], 5, [(0, 0, 10), (1, 0, 10), (2, 0, 10), (3, 0, 29), (4, 0, 2147483647)], [], [(0, .inr (.inr (.inl (some 94)))), (1, .inl (0, [(0, 1)])), (2, .inl (0, [(1, 1)])), (3, .inl (0, [(2, 1)])), (4, .inl (2, [])), (5, .inl ((-1), [])), (6, .inl (0, [(4, 1)])), (7, .inl ((-1), []))], [.inl ((-1), []), .inl (2, [(3, 3)]), .inr (.inr (.inl (some 190)))], [(20104, (0, []), (0, [(3, 1)]))]))] [] = true := by decide +kernel
theorem jx5_3 {cst : am_K} {strs : List Nat} {Φ : am_Q → Prop} {D : Nat} {M : am_M} {h : am_H} {l : am_L} (c : hp_C cst strs D) (hM : m_P[411]? = some M) (hD : (5 : Int) ≤ (D : Int) + 1) (hy : ly_hy m_tt ly_TH h) (a b d n v : Int) (b0 : 0 ≤ a) (t0 : a ≤ 10) (b1 : 0 ≤ b) (t1 : b ≤ 10) (b2 : 0 ≤ d) (t2 : d ≤ 10) (b3 : 0 ≤ n) (t3 : n ≤ 29) (b4 : 0 ≤ v) (t4 : v ≤ 2147483647) (k0 : ly_hv cst h 20104 0 = some (n)) (l0 : hp_a l 0 94) (l1 : hp_i l 1 (a)) (l2 : hp_i l 2 (b)) (l3 : hp_i l 3 (d)) (l4 : hp_i l 4 2) (l5 : hp_i l 5 (-1)) (l6 : hp_i l 6 (v)) (l7 : hp_i l 7 (-1)) (e0 : ∀ (l' : am_L) (h' : am_H) (y0 : Int32) (y1 : Int32), y0.toInt = (-1) → y1.toInt = (3 * n + 2) → ly_hy m_tt ly_TH h' → ly_fr cst [] h h' → h.length ≤ h'.length → ly_hv cst h' 20104 0 = some (n) → hp_a l' 0 94 → hp_i l' 1 (a) → hp_i l' 2 (b) → hp_i l' 3 (d) → hp_i l' 4 2 → hp_i l' 5 (-1) → hp_i l' 6 (v) → hp_i l' 7 (-1) → hp_F cst strs Φ D M 492 l' [.int y0, .int y1, .ref 190] h') : hp_F cst strs Φ D M 466 l [] h := by
  refine hp_arc c hM jx5_3_k hD [a, b, d, n, v] rfl hy (hp_Bc (z := a) rfl b0 t0 (hp_Bc (z := b) rfl b1 t1 (hp_Bc (z := d) rfl b2 t2 (hp_Bc (z := n) rfl b3 t3 (hp_Bc (z := v) rfl b4 t4 hp_Bn))))) hp_Fn (hp_Kc (zi := (0 + 0)) (zv := (0 + (1 * n + 0))) k0 rfl rfl (by omega) (by omega) hp_Kn) (hp_La l0 (hp_Li (z := (0 + (1 * a + 0))) l1 rfl (by omega) (hp_Li (z := (0 + (1 * b + 0))) l2 rfl (by omega) (hp_Li (z := (0 + (1 * d + 0))) l3 rfl (by omega) (hp_Li (z := (2 + 0)) l4 rfl (by omega) (hp_Li (z := ((-1) + 0)) l5 rfl (by omega) (hp_Li (z := (0 + (1 * v + 0))) l6 rfl (by omega) (hp_Li (z := ((-1) + 0)) l7 rfl (by omega) hp_Ln)))))))) trivial ?_ ?_
  · intro p hp ys l' st' h' hys a1 a2 a3 gZ gL gS
    rcases List.mem_cons.mp hp with rfl | hp
    · obtain rfl := hp_y0 hys
      obtain ⟨y0, t0, rfl, q0, g0⟩ := hp_gSi (z := ((-1) + 0)) gS rfl
      obtain ⟨y1, t1, rfl, q1, g1⟩ := hp_gSi (z := (2 + (3 * n + 0))) g0 rfl
      obtain ⟨t2, rfl, g2⟩ := hp_gSa g1 (by decide)
      cases hp_gSn g2
      exact e0 l' h' y0 y1 (by omega) (by omega) a1 a2 a3 (hp_gK (zi := (0 + 0)) (zv := (0 + (1 * n + 0))) gZ.2.2.2 (List.mem_of_getElem? (i := 0) rfl) rfl rfl (by omega) (by omega)) (hp_gLa gL (List.mem_of_getElem? (i := 0) rfl) (by decide)) (hp_gLi (z := (0 + (1 * a + 0))) gL (List.mem_of_getElem? (i := 1) rfl) rfl (by omega)) (hp_gLi (z := (0 + (1 * b + 0))) gL (List.mem_of_getElem? (i := 2) rfl) rfl (by omega)) (hp_gLi (z := (0 + (1 * d + 0))) gL (List.mem_of_getElem? (i := 3) rfl) rfl (by omega)) (hp_gLi (z := (2 + 0)) gL (List.mem_of_getElem? (i := 4) rfl) rfl (by omega)) (hp_gLi (z := ((-1) + 0)) gL (List.mem_of_getElem? (i := 5) rfl) rfl (by omega)) (hp_gLi (z := (0 + (1 * v + 0))) gL (List.mem_of_getElem? (i := 6) rfl) rfl (by omega)) (hp_gLi (z := ((-1) + 0)) gL (List.mem_of_getElem? (i := 7) rfl) rfl (by omega))
    cases hp
  · intro p hp ys v h' hys a1 a2 a3 gZ gS
    cases hp
theorem jx5_4n_k : hp_chk 411 493 5 [(0, 0, 10), (1, 0, 10), (2, 0, 10), (3, 0, 29), (4, 0, 2147483647)] [] [(0, .inr (.inr (.inl (some 94)))), (1, .inl (0, [(0, 1)])), (2, .inl (0, [(1, 1)])), (3, .inl (0, [(2, 1)])), (4, .inl (2, [])), (5, .inl ((-1), [])), (6, .inl (0, [(4, 1)])), (7, .inl ((-1), []))] [] [(20104, (0, []), (0, [(3, 1)]))] [] 5 [(539, ([], 5, [(0, 0, 10), (1, 0, 10), (2, 0, 10), (3, 0, 29), (4, 0, 2147483647)], [], [(0, .inr (.inr (.inl (some 94)))), (1, .inl (0, [(0, 1)])), (2, .inl (0, [(1, 1)])), (3, .inl (0, [(2, 1)])), (4, .inl (2, []))], [.inl (0, []), .inl (0, [(3, 1)]), .inr (.inr (.inl (some 191)))], [(20104, (0, []), (0, [(3, 1)]))]))] [] = true := by decide +kernel
theorem jx5_4n {cst : am_K} {strs : List Nat} {Φ : am_Q → Prop} {D : Nat} {M : am_M} {h : am_H} {l : am_L} (c : hp_C cst strs D) (hM : m_P[411]? = some M) (hD : (5 : Int) ≤ (D : Int) + 1) (hy : ly_hy m_tt ly_TH h) (a b d n v : Int) (b0 : 0 ≤ a) (t0 : a ≤ 10) (b1 : 0 ≤ b) (t1 : b ≤ 10) (b2 : 0 ≤ d) (t2 : d ≤ 10) (b3 : 0 ≤ n) (t3 : n ≤ 29) (b4 : 0 ≤ v) (t4 : v ≤ 2147483647) (k0 : ly_hv cst h 20104 0 = some (n)) (l0 : hp_a l 0 94) (l1 : hp_i l 1 (a)) (l2 : hp_i l 2 (b)) (l3 : hp_i l 3 (d)) (l4 : hp_i l 4 2) (l5 : hp_i l 5 (-1)) (l6 : hp_i l 6 (v)) (l7 : hp_i l 7 (-1)) (e0 : ∀ (l' : am_L) (h' : am_H) (y0 : Int32) (y1 : Int32), y0.toInt = 0 → y1.toInt = (n) → ly_hy m_tt ly_TH h' → ly_fr cst [] h h' → h.length ≤ h'.length → ly_hv cst h' 20104 0 = some (n) → hp_a l' 0 94 → hp_i l' 1 (a) → hp_i l' 2 (b) → hp_i l' 3 (d) → hp_i l' 4 2 → hp_F cst strs Φ D M 539 l' [.int y0, .int y1, .ref 191] h') : hp_F cst strs Φ D M 493 l [] h := by
  refine hp_arc c hM jx5_4n_k hD [a, b, d, n, v] rfl hy (hp_Bc (z := a) rfl b0 t0 (hp_Bc (z := b) rfl b1 t1 (hp_Bc (z := d) rfl b2 t2 (hp_Bc (z := n) rfl b3 t3 (hp_Bc (z := v) rfl b4 t4 hp_Bn))))) hp_Fn (hp_Kc (zi := (0 + 0)) (zv := (0 + (1 * n + 0))) k0 rfl rfl (by omega) (by omega) hp_Kn) (hp_La l0 (hp_Li (z := (0 + (1 * a + 0))) l1 rfl (by omega) (hp_Li (z := (0 + (1 * b + 0))) l2 rfl (by omega) (hp_Li (z := (0 + (1 * d + 0))) l3 rfl (by omega) (hp_Li (z := (2 + 0)) l4 rfl (by omega) (hp_Li (z := ((-1) + 0)) l5 rfl (by omega) (hp_Li (z := (0 + (1 * v + 0))) l6 rfl (by omega) (hp_Li (z := ((-1) + 0)) l7 rfl (by omega) hp_Ln)))))))) trivial ?_ ?_
  · intro p hp ys l' st' h' hys a1 a2 a3 gZ gL gS
    rcases List.mem_cons.mp hp with rfl | hp
    · obtain rfl := hp_y0 hys
      obtain ⟨y0, t0, rfl, q0, g0⟩ := hp_gSi (z := (0 + 0)) gS rfl
      obtain ⟨y1, t1, rfl, q1, g1⟩ := hp_gSi (z := (0 + (1 * n + 0))) g0 rfl
      obtain ⟨t2, rfl, g2⟩ := hp_gSa g1 (by decide)
      cases hp_gSn g2
      exact e0 l' h' y0 y1 (by omega) (by omega) a1 a2 a3 (hp_gK (zi := (0 + 0)) (zv := (0 + (1 * n + 0))) gZ.2.2.2 (List.mem_of_getElem? (i := 0) rfl) rfl rfl (by omega) (by omega)) (hp_gLa gL (List.mem_of_getElem? (i := 0) rfl) (by decide)) (hp_gLi (z := (0 + (1 * a + 0))) gL (List.mem_of_getElem? (i := 1) rfl) rfl (by omega)) (hp_gLi (z := (0 + (1 * b + 0))) gL (List.mem_of_getElem? (i := 2) rfl) rfl (by omega)) (hp_gLi (z := (0 + (1 * d + 0))) gL (List.mem_of_getElem? (i := 3) rfl) rfl (by omega)) (hp_gLi (z := (2 + 0)) gL (List.mem_of_getElem? (i := 4) rfl) rfl (by omega))
    cases hp
  · intro p hp ys v h' hys a1 a2 a3 gZ gS
    cases hp
theorem jx5_5_k : hp_chk 411 540 7 [(0, 0, 10), (1, 0, 10), (2, 0, 10), (3, 0, 10), (4, 0, 10), (5, 0, 10), (6, 0, 29)] [((-1), [(1, (-1)), (4, 1)])] [(0, .inr (.inr (.inl (some 94)))), (1, .inl (0, [(0, 1)])), (2, .inl (0, [(1, 1)])), (3, .inl (0, [(2, 1)])), (4, .inl (2, []))] [] [(20104, (0, []), (0, [(6, 1)]))] [20104] 5 [(216, ([], 7, [(0, 0, 10), (1, 0, 10), (2, 0, 10), (3, 0, 10), (4, 0, 10), (5, 0, 10), (6, 0, 29)], [], [(0, .inr (.inr (.inl (some 94)))), (1, .inl (0, [(0, 1)])), (2, .inl (1, [(1, 1)])), (3, .inl (0, [(2, 1)]))], [], [(20104, (0, []), (1, [(6, 1)]))]))] [] = true := by decide +kernel
theorem jx5_5 {cst : am_K} {strs : List Nat} {Φ : am_Q → Prop} {D : Nat} {M : am_M} {h : am_H} {l : am_L} (c : hp_C cst strs D) (hM : m_P[411]? = some M) (hD : (5 : Int) ≤ (D : Int) + 1) (hy : ly_hy m_tt ly_TH h) (a b d ma mb md n : Int) (b0 : 0 ≤ a) (t0 : a ≤ 10) (b1 : 0 ≤ b) (t1 : b ≤ 10) (b2 : 0 ≤ d) (t2 : d ≤ 10) (b3 : 0 ≤ ma) (t3 : ma ≤ 10) (b4 : 0 ≤ mb) (t4 : mb ≤ 10) (b5 : 0 ≤ md) (t5 : md ≤ 10) (b6 : 0 ≤ n) (t6 : n ≤ 29) (f0 : 0 ≤ (mb - b - 1)) (k0 : ly_hv cst h 20104 0 = some (n)) (l0 : hp_a l 0 94) (l1 : hp_i l 1 (a)) (l2 : hp_i l 2 (b)) (l3 : hp_i l 3 (d)) (l4 : hp_i l 4 2) (e0 : ∀ (l' : am_L) (h' : am_H), ly_hy m_tt ly_TH h' → ly_fr cst [20104] h h' → h.length ≤ h'.length → ly_hv cst h' 20104 0 = some (n + 1) → hp_a l' 0 94 → hp_i l' 1 (a) → hp_i l' 2 (b + 1) → hp_i l' 3 (d) → hp_F cst strs Φ D M 216 l' [] h') : hp_F cst strs Φ D M 540 l [] h := by
  refine hp_arc c hM jx5_5_k hD [a, b, d, ma, mb, md, n] rfl hy (hp_Bc (z := a) rfl b0 t0 (hp_Bc (z := b) rfl b1 t1 (hp_Bc (z := d) rfl b2 t2 (hp_Bc (z := ma) rfl b3 t3 (hp_Bc (z := mb) rfl b4 t4 (hp_Bc (z := md) rfl b5 t5 (hp_Bc (z := n) rfl b6 t6 hp_Bn))))))) (hp_Fc (z := ((-1) + ((-1) * b + (1 * mb + 0)))) rfl (by omega) hp_Fn) (hp_Kc (zi := (0 + 0)) (zv := (0 + (1 * n + 0))) k0 rfl rfl (by omega) (by omega) hp_Kn) (hp_La l0 (hp_Li (z := (0 + (1 * a + 0))) l1 rfl (by omega) (hp_Li (z := (0 + (1 * b + 0))) l2 rfl (by omega) (hp_Li (z := (0 + (1 * d + 0))) l3 rfl (by omega) (hp_Li (z := (2 + 0)) l4 rfl (by omega) hp_Ln))))) trivial ?_ ?_
  · intro p hp ys l' st' h' hys a1 a2 a3 gZ gL gS
    rcases List.mem_cons.mp hp with rfl | hp
    · obtain rfl := hp_y0 hys
      cases hp_gSn gS
      exact e0 l' h' a1 a2 a3 (hp_gK (zi := (0 + 0)) (zv := (1 + (1 * n + 0))) gZ.2.2.2 (List.mem_of_getElem? (i := 0) rfl) rfl rfl (by omega) (by omega)) (hp_gLa gL (List.mem_of_getElem? (i := 0) rfl) (by decide)) (hp_gLi (z := (0 + (1 * a + 0))) gL (List.mem_of_getElem? (i := 1) rfl) rfl (by omega)) (hp_gLi (z := (1 + (1 * b + 0))) gL (List.mem_of_getElem? (i := 2) rfl) rfl (by omega)) (hp_gLi (z := (0 + (1 * d + 0))) gL (List.mem_of_getElem? (i := 3) rfl) rfl (by omega))
    cases hp
  · intro p hp ys v h' hys a1 a2 a3 gZ gS
    cases hp
theorem jx6_1_k : hp_chk 411 286 10 [(0, 0, 10), (1, 0, 10), (2, 0, 10), (3, 0, 10), (4, 0, 10), (5, 0, 10), (6, 0, 12), (7, 0, 360), (8, 0, 29), (9, 0, 2147483647)] [((-1), [(2, (-1)), (5, 1)])] [(0, .inr (.inr (.inl (some 94)))), (1, .inl (0, [(0, 1)])), (2, .inl (0, [(1, 1)])), (3, .inl (0, [(2, 1)])), (4, .inl (0, [])), (5, .inl (6, [])), (6, .inl (4, []))] [.inl (0, [(6, 1)])] [(44288, (0, []), (0, [(3, 1)])), (44288, (1, []), (0, [(4, 1)])), (44288, (2, []), (0, [(5, 1)])), (45056, (1, [(0, 121), (1, 11), (2, 1)]), (0, [(7, 1)])), (45056, (0, [(0, 121), (1, 11), (2, 1)]), (0, [(6, 1), (7, 1)])), (20104, (0, []), (0, [(8, 1)])), (44032, (20, [(2, 1)]), (0, [(9, 1)]))] [] 5 [(438, ([], 10, [(0, 0, 10), (1, 0, 10), (2, 0, 10), (3, 0, 10), (4, 0, 10), (5, 0, 10), (6, 0, 12), (7, 0, 360), (8, 0, 29), (9, 0, 2147483647)], [], [(0, .inr (.inr (.inl (some 94)))), (1, .inl (0, [(0, 1)])), (2, .inl (0, [(1, 1)])), (3, .inl (0, [(2, 1)])), (4, .inl (4, [])), (5, .inl ((-1), [])), (6, .inl ((-1), [])), (7, .inl (0, [(9, 1)]))], [.inl ((-1), []), .inl (0, [(8, 3)]), .inr (.inr (.inl (some 190)))], [(20104, (0, []), (0, [(8, 1)]))]))] [] = true := by decide +kernel
theorem jx6_1 {cst : am_K} {strs : List Nat} {Φ : am_Q → Prop} {D : Nat} {M : am_M} {h : am_H} {l : am_L} (c : hp_C cst strs D) (hM : m_P[411]? = some M) (hD : (5 : Int) ≤ (D : Int) + 1) (hy : ly_hy m_tt ly_TH h) (a b d ma mb md k y n w : Int) (x0 : Int32) (hx0 : x0.toInt = (k)) (b0 : 0 ≤ a) (t0 : a ≤ 10) (b1 : 0 ≤ b) (t1 : b ≤ 10) (b2 : 0 ≤ d) (t2 : d ≤ 10) (b3 : 0 ≤ ma) (t3 : ma ≤ 10) (b4 : 0 ≤ mb) (t4 : mb ≤ 10) (b5 : 0 ≤ md) (t5 : md ≤ 10) (b6 : 0 ≤ k) (t6 : k ≤ 12) (b7 : 0 ≤ y) (t7 : y ≤ 360) (b8 : 0 ≤ n) (t8 : n ≤ 29) (b9 : 0 ≤ w) (t9 : w ≤ 2147483647) (f0 : 0 ≤ (md - d - 1)) (k0 : ly_hv cst h 44288 0 = some (ma)) (k1 : ly_hv cst h 44288 1 = some (mb)) (k2 : ly_hv cst h 44288 2 = some (md)) (k3 : ly_hv cst h 45056 (121 * a + 11 * b + d + 1) = some (y)) (k4 : ly_hv cst h 45056 (121 * a + 11 * b + d) = some (k + y)) (k5 : ly_hv cst h 20104 0 = some (n)) (k6 : ly_hv cst h 44032 (d + 20) = some (w)) (l0 : hp_a l 0 94) (l1 : hp_i l 1 (a)) (l2 : hp_i l 2 (b)) (l3 : hp_i l 3 (d)) (l4 : hp_i l 4 0) (l5 : hp_i l 5 6) (l6 : hp_i l 6 4) (e0 : ∀ (l' : am_L) (h' : am_H) (y0 : Int32) (y1 : Int32), y0.toInt = (-1) → y1.toInt = (3 * n) → ly_hy m_tt ly_TH h' → ly_fr cst [] h h' → h.length ≤ h'.length → ly_hv cst h' 20104 0 = some (n) → hp_a l' 0 94 → hp_i l' 1 (a) → hp_i l' 2 (b) → hp_i l' 3 (d) → hp_i l' 4 4 → hp_i l' 5 (-1) → hp_i l' 6 (-1) → hp_i l' 7 (w) → hp_F cst strs Φ D M 438 l' [.int y0, .int y1, .ref 190] h') : hp_F cst strs Φ D M 286 l [.int x0] h := by
  refine hp_arc c hM jx6_1_k hD [a, b, d, ma, mb, md, k, y, n, w] rfl hy (hp_Bc (z := a) rfl b0 t0 (hp_Bc (z := b) rfl b1 t1 (hp_Bc (z := d) rfl b2 t2 (hp_Bc (z := ma) rfl b3 t3 (hp_Bc (z := mb) rfl b4 t4 (hp_Bc (z := md) rfl b5 t5 (hp_Bc (z := k) rfl b6 t6 (hp_Bc (z := y) rfl b7 t7 (hp_Bc (z := n) rfl b8 t8 (hp_Bc (z := w) rfl b9 t9 hp_Bn)))))))))) (hp_Fc (z := ((-1) + ((-1) * d + (1 * md + 0)))) rfl (by omega) hp_Fn) (hp_Kc (zi := (0 + 0)) (zv := (0 + (1 * ma + 0))) k0 rfl rfl (by omega) (by omega) (hp_Kc (zi := (1 + 0)) (zv := (0 + (1 * mb + 0))) k1 rfl rfl (by omega) (by omega) (hp_Kc (zi := (2 + 0)) (zv := (0 + (1 * md + 0))) k2 rfl rfl (by omega) (by omega) (hp_Kc (zi := (1 + (121 * a + (11 * b + (1 * d + 0))))) (zv := (0 + (1 * y + 0))) k3 rfl rfl (by omega) (by omega) (hp_Kc (zi := (0 + (121 * a + (11 * b + (1 * d + 0))))) (zv := (0 + (1 * k + (1 * y + 0)))) k4 rfl rfl (by omega) (by omega) (hp_Kc (zi := (0 + 0)) (zv := (0 + (1 * n + 0))) k5 rfl rfl (by omega) (by omega) (hp_Kc (zi := (20 + (1 * d + 0))) (zv := (0 + (1 * w + 0))) k6 rfl rfl (by omega) (by omega) hp_Kn))))))) (hp_La l0 (hp_Li (z := (0 + (1 * a + 0))) l1 rfl (by omega) (hp_Li (z := (0 + (1 * b + 0))) l2 rfl (by omega) (hp_Li (z := (0 + (1 * d + 0))) l3 rfl (by omega) (hp_Li (z := (0 + 0)) l4 rfl (by omega) (hp_Li (z := (6 + 0)) l5 rfl (by omega) (hp_Li (z := (4 + 0)) l6 rfl (by omega) hp_Ln))))))) (hp_Si (z := (0 + (1 * k + 0))) rfl (by omega) trivial) ?_ ?_
  · intro p hp ys l' st' h' hys a1 a2 a3 gZ gL gS
    rcases List.mem_cons.mp hp with rfl | hp
    · obtain rfl := hp_y0 hys
      obtain ⟨y0, t0, rfl, q0, g0⟩ := hp_gSi (z := ((-1) + 0)) gS rfl
      obtain ⟨y1, t1, rfl, q1, g1⟩ := hp_gSi (z := (0 + (3 * n + 0))) g0 rfl
      obtain ⟨t2, rfl, g2⟩ := hp_gSa g1 (by decide)
      cases hp_gSn g2
      exact e0 l' h' y0 y1 (by omega) (by omega) a1 a2 a3 (hp_gK (zi := (0 + 0)) (zv := (0 + (1 * n + 0))) gZ.2.2.2 (List.mem_of_getElem? (i := 0) rfl) rfl rfl (by omega) (by omega)) (hp_gLa gL (List.mem_of_getElem? (i := 0) rfl) (by decide)) (hp_gLi (z := (0 + (1 * a + 0))) gL (List.mem_of_getElem? (i := 1) rfl) rfl (by omega)) (hp_gLi (z := (0 + (1 * b + 0))) gL (List.mem_of_getElem? (i := 2) rfl) rfl (by omega)) (hp_gLi (z := (0 + (1 * d + 0))) gL (List.mem_of_getElem? (i := 3) rfl) rfl (by omega)) (hp_gLi (z := (4 + 0)) gL (List.mem_of_getElem? (i := 4) rfl) rfl (by omega)) (hp_gLi (z := ((-1) + 0)) gL (List.mem_of_getElem? (i := 5) rfl) rfl (by omega)) (hp_gLi (z := ((-1) + 0)) gL (List.mem_of_getElem? (i := 6) rfl) rfl (by omega)) (hp_gLi (z := (0 + (1 * w + 0))) gL (List.mem_of_getElem? (i := 7) rfl) rfl (by omega))
    cases hp
  · intro p hp ys v h' hys a1 a2 a3 gZ gS
    cases hp
theorem jx6_2_k : hp_chk 411 439 5 [(0, 0, 10), (1, 0, 10), (2, 0, 10), (3, 0, 29), (4, 0, 2147483647)] [] [(0, .inr (.inr (.inl (some 94)))), (1, .inl (0, [(0, 1)])), (2, .inl (0, [(1, 1)])), (3, .inl (0, [(2, 1)])), (4, .inl (4, [])), (5, .inl ((-1), [])), (6, .inl ((-1), [])), (7, .inl (0, [(4, 1)]))] [] [(20104, (0, []), (0, [(3, 1)]))] [] 5 [(465, ([], 5, [(0, 0, 10), (1, 0, 10), (2, 0, 10), (3, 0, 29), (4, 0, 2147483647)], [], [(0, .inr (.inr (.inl (some 94)))), (1, .inl (0, [(0, 1)])), (2, .inl (0, [(1, 1)])), (3, .inl (0, [(2, 1)])), (4, .inl (4, [])), (5, .inl ((-1), [])), (6, .inl ((-1), [])), (7, .inl (0, [(4, 1)]))], [.inl ((-1), []), .inl (1, [(3, 3)]), .inr (.inr (.inl (some 190)))], [(20104, (0, []), (0, [(3, 1)]))]))] [] = true := by decide +kernel
theorem jx6_2 {cst : am_K} {strs : List Nat} {Φ : am_Q → Prop} {D : Nat} {M : am_M} {h : am_H} {l : am_L} (c : hp_C cst strs D) (hM : m_P[411]? = some M) (hD : (5 : Int) ≤ (D : Int) + 1) (hy : ly_hy m_tt ly_TH h) (a b d n w : Int) (b0 : 0 ≤ a) (t0 : a ≤ 10) (b1 : 0 ≤ b) (t1 : b ≤ 10) (b2 : 0 ≤ d) (t2 : d ≤ 10) (b3 : 0 ≤ n) (t3 : n ≤ 29) (b4 : 0 ≤ w) (t4 : w ≤ 2147483647) (k0 : ly_hv cst h 20104 0 = some (n)) (l0 : hp_a l 0 94) (l1 : hp_i l 1 (a)) (l2 : hp_i l 2 (b)) (l3 : hp_i l 3 (d)) (l4 : hp_i l 4 4) (l5 : hp_i l 5 (-1)) (l6 : hp_i l 6 (-1)) (l7 : hp_i l 7 (w)) (e0 : ∀ (l' : am_L) (h' : am_H) (y0 : Int32) (y1 : Int32), y0.toInt = (-1) → y1.toInt = (3 * n + 1) → ly_hy m_tt ly_TH h' → ly_fr cst [] h h' → h.length ≤ h'.length → ly_hv cst h' 20104 0 = some (n) → hp_a l' 0 94 → hp_i l' 1 (a) → hp_i l' 2 (b) → hp_i l' 3 (d) → hp_i l' 4 4 → hp_i l' 5 (-1) → hp_i l' 6 (-1) → hp_i l' 7 (w) → hp_F cst strs Φ D M 465 l' [.int y0, .int y1, .ref 190] h') : hp_F cst strs Φ D M 439 l [] h := by
  refine hp_arc c hM jx6_2_k hD [a, b, d, n, w] rfl hy (hp_Bc (z := a) rfl b0 t0 (hp_Bc (z := b) rfl b1 t1 (hp_Bc (z := d) rfl b2 t2 (hp_Bc (z := n) rfl b3 t3 (hp_Bc (z := w) rfl b4 t4 hp_Bn))))) hp_Fn (hp_Kc (zi := (0 + 0)) (zv := (0 + (1 * n + 0))) k0 rfl rfl (by omega) (by omega) hp_Kn) (hp_La l0 (hp_Li (z := (0 + (1 * a + 0))) l1 rfl (by omega) (hp_Li (z := (0 + (1 * b + 0))) l2 rfl (by omega) (hp_Li (z := (0 + (1 * d + 0))) l3 rfl (by omega) (hp_Li (z := (4 + 0)) l4 rfl (by omega) (hp_Li (z := ((-1) + 0)) l5 rfl (by omega) (hp_Li (z := ((-1) + 0)) l6 rfl (by omega) (hp_Li (z := (0 + (1 * w + 0))) l7 rfl (by omega) hp_Ln)))))))) trivial ?_ ?_
  · intro p hp ys l' st' h' hys a1 a2 a3 gZ gL gS
    rcases List.mem_cons.mp hp with rfl | hp
    · obtain rfl := hp_y0 hys
      obtain ⟨y0, t0, rfl, q0, g0⟩ := hp_gSi (z := ((-1) + 0)) gS rfl
      obtain ⟨y1, t1, rfl, q1, g1⟩ := hp_gSi (z := (1 + (3 * n + 0))) g0 rfl
      obtain ⟨t2, rfl, g2⟩ := hp_gSa g1 (by decide)
      cases hp_gSn g2
      exact e0 l' h' y0 y1 (by omega) (by omega) a1 a2 a3 (hp_gK (zi := (0 + 0)) (zv := (0 + (1 * n + 0))) gZ.2.2.2 (List.mem_of_getElem? (i := 0) rfl) rfl rfl (by omega) (by omega)) (hp_gLa gL (List.mem_of_getElem? (i := 0) rfl) (by decide)) (hp_gLi (z := (0 + (1 * a + 0))) gL (List.mem_of_getElem? (i := 1) rfl) rfl (by omega)) (hp_gLi (z := (0 + (1 * b + 0))) gL (List.mem_of_getElem? (i := 2) rfl) rfl (by omega)) (hp_gLi (z := (0 + (1 * d + 0))) gL (List.mem_of_getElem? (i := 3) rfl) rfl (by omega)) (hp_gLi (z := (4 + 0)) gL (List.mem_of_getElem? (i := 4) rfl) rfl (by omega)) (hp_gLi (z := ((-1) + 0)) gL (List.mem_of_getElem? (i := 5) rfl) rfl (by omega)) (hp_gLi (z := ((-1) + 0)) gL (List.mem_of_getElem? (i := 6) rfl) rfl (by omega)) (hp_gLi (z := (0 + (1 * w + 0))) gL (List.mem_of_getElem? (i := 7) rfl) rfl (by omega))
    cases hp
  · intro p hp ys v h' hys a1 a2 a3 gZ gS
    cases hp
theorem jx6_3_k : hp_chk 411 466 5 [(0, 0, 10), (1, 0, 10), (2, 0, 10), (3, 0, 29), (4, 0, 2147483647)] [] [(0, .inr (.inr (.inl (some 94)))), (1, .inl (0, [(0, 1)])), (2, .inl (0, [(1, 1)])), (3, .inl (0, [(2, 1)])), (4, .inl (4, [])), (5, .inl ((-1), [])), (6, .inl ((-1), [])), (7, .inl (0, [(4, 1)]))] [] [(20104, (0, []), (0, [(3, 1)]))] [] 5 [(492, ([], 5, [(0, 0, 10), (1, 0, 10), (2, 0, 10), (3, 0, 29), (4, 0, 2147483647)], [], [(0, .inr (.inr (.inl (some 94)))), (1, .inl (0, [(0, 1)])), (2, .inl (0, [(1, 1)])), (3, .inl (0, [(2, 1)])), (4, .inl (4, [])), (5, .inl ((-1), [])), (6, .inl ((-1), [])), (7, .inl (0, [(4, 1)]))], [.inl (0, [(2, 1)]), .inl (2, [(3, 3)]), .inr (.inr (.inl (some 190)))], [(20104, (0, []), (0, [(3, 1)]))]))] [] = true := by decide +kernel
theorem jx6_3 {cst : am_K} {strs : List Nat} {Φ : am_Q → Prop} {D : Nat} {M : am_M} {h : am_H} {l : am_L} (c : hp_C cst strs D) (hM : m_P[411]? = some M) (hD : (5 : Int) ≤ (D : Int) + 1) (hy : ly_hy m_tt ly_TH h) (a b d n w : Int) (b0 : 0 ≤ a) (t0 : a ≤ 10) (b1 : 0 ≤ b) (t1 : b ≤ 10) (b2 : 0 ≤ d) (t2 : d ≤ 10) (b3 : 0 ≤ n) (t3 : n ≤ 29) (b4 : 0 ≤ w) (t4 : w ≤ 2147483647) (k0 : ly_hv cst h 20104 0 = some (n)) (l0 : hp_a l 0 94) (l1 : hp_i l 1 (a)) (l2 : hp_i l 2 (b)) (l3 : hp_i l 3 (d)) (l4 : hp_i l 4 4) (l5 : hp_i l 5 (-1)) (l6 : hp_i l 6 (-1)) (l7 : hp_i l 7 (w)) (e0 : ∀ (l' : am_L) (h' : am_H) (y0 : Int32) (y1 : Int32), y0.toInt = (d) → y1.toInt = (3 * n + 2) → ly_hy m_tt ly_TH h' → ly_fr cst [] h h' → h.length ≤ h'.length → ly_hv cst h' 20104 0 = some (n) → hp_a l' 0 94 → hp_i l' 1 (a) → hp_i l' 2 (b) → hp_i l' 3 (d) → hp_i l' 4 4 → hp_i l' 5 (-1) → hp_i l' 6 (-1) → hp_i l' 7 (w) → hp_F cst strs Φ D M 492 l' [.int y0, .int y1, .ref 190] h') : hp_F cst strs Φ D M 466 l [] h := by
  refine hp_arc c hM jx6_3_k hD [a, b, d, n, w] rfl hy (hp_Bc (z := a) rfl b0 t0 (hp_Bc (z := b) rfl b1 t1 (hp_Bc (z := d) rfl b2 t2 (hp_Bc (z := n) rfl b3 t3 (hp_Bc (z := w) rfl b4 t4 hp_Bn))))) hp_Fn (hp_Kc (zi := (0 + 0)) (zv := (0 + (1 * n + 0))) k0 rfl rfl (by omega) (by omega) hp_Kn) (hp_La l0 (hp_Li (z := (0 + (1 * a + 0))) l1 rfl (by omega) (hp_Li (z := (0 + (1 * b + 0))) l2 rfl (by omega) (hp_Li (z := (0 + (1 * d + 0))) l3 rfl (by omega) (hp_Li (z := (4 + 0)) l4 rfl (by omega) (hp_Li (z := ((-1) + 0)) l5 rfl (by omega) (hp_Li (z := ((-1) + 0)) l6 rfl (by omega) (hp_Li (z := (0 + (1 * w + 0))) l7 rfl (by omega) hp_Ln)))))))) trivial ?_ ?_
  · intro p hp ys l' st' h' hys a1 a2 a3 gZ gL gS
    rcases List.mem_cons.mp hp with rfl | hp
    · obtain rfl := hp_y0 hys
      obtain ⟨y0, t0, rfl, q0, g0⟩ := hp_gSi (z := (0 + (1 * d + 0))) gS rfl
      obtain ⟨y1, t1, rfl, q1, g1⟩ := hp_gSi (z := (2 + (3 * n + 0))) g0 rfl
      obtain ⟨t2, rfl, g2⟩ := hp_gSa g1 (by decide)
      cases hp_gSn g2
      exact e0 l' h' y0 y1 (by omega) (by omega) a1 a2 a3 (hp_gK (zi := (0 + 0)) (zv := (0 + (1 * n + 0))) gZ.2.2.2 (List.mem_of_getElem? (i := 0) rfl) rfl rfl (by omega) (by omega)) (hp_gLa gL (List.mem_of_getElem? (i := 0) rfl) (by decide)) (hp_gLi (z := (0 + (1 * a + 0))) gL (List.mem_of_getElem? (i := 1) rfl) rfl (by omega)) (hp_gLi (z := (0 + (1 * b + 0))) gL (List.mem_of_getElem? (i := 2) rfl) rfl (by omega)) (hp_gLi (z := (0 + (1 * d + 0))) gL (List.mem_of_getElem? (i := 3) rfl) rfl (by omega)) (hp_gLi (z := (4 + 0)) gL (List.mem_of_getElem? (i := 4) rfl) rfl (by omega)) (hp_gLi (z := ((-1) + 0)) gL (List.mem_of_getElem? (i := 5) rfl) rfl (by omega)) (hp_gLi (z := ((-1) + 0)) gL (List.mem_of_getElem? (i := 6) rfl) rfl (by omega)) (hp_gLi (z := (0 + (1 * w + 0))) gL (List.mem_of_getElem? (i := 7) rfl) rfl (by omega))
    cases hp
  · intro p hp ys v h' hys a1 a2 a3 gZ gS
    cases hp
theorem jx6_4n_k : hp_chk 411 493 5 [(0, 0, 10), (1, 0, 10), (2, 0, 10), (3, 0, 29), (4, 0, 2147483647)] [] [(0, .inr (.inr (.inl (some 94)))), (1, .inl (0, [(0, 1)])), (2, .inl (0, [(1, 1)])), (3, .inl (0, [(2, 1)])), (4, .inl (4, [])), (5, .inl ((-1), [])), (6, .inl ((-1), [])), (7, .inl (0, [(4, 1)]))] [] [(20104, (0, []), (0, [(3, 1)]))] [] 5 [(539, ([], 5, [(0, 0, 10), (1, 0, 10), (2, 0, 10), (3, 0, 29), (4, 0, 2147483647)], [], [(0, .inr (.inr (.inl (some 94)))), (1, .inl (0, [(0, 1)])), (2, .inl (0, [(1, 1)])), (3, .inl (0, [(2, 1)])), (4, .inl (4, []))], [.inl (0, []), .inl (0, [(3, 1)]), .inr (.inr (.inl (some 191)))], [(20104, (0, []), (0, [(3, 1)]))]))] [] = true := by decide +kernel
theorem jx6_4n {cst : am_K} {strs : List Nat} {Φ : am_Q → Prop} {D : Nat} {M : am_M} {h : am_H} {l : am_L} (c : hp_C cst strs D) (hM : m_P[411]? = some M) (hD : (5 : Int) ≤ (D : Int) + 1) (hy : ly_hy m_tt ly_TH h) (a b d n w : Int) (b0 : 0 ≤ a) (t0 : a ≤ 10) (b1 : 0 ≤ b) (t1 : b ≤ 10) (b2 : 0 ≤ d) (t2 : d ≤ 10) (b3 : 0 ≤ n) (t3 : n ≤ 29) (b4 : 0 ≤ w) (t4 : w ≤ 2147483647) (k0 : ly_hv cst h 20104 0 = some (n)) (l0 : hp_a l 0 94) (l1 : hp_i l 1 (a)) (l2 : hp_i l 2 (b)) (l3 : hp_i l 3 (d)) (l4 : hp_i l 4 4) (l5 : hp_i l 5 (-1)) (l6 : hp_i l 6 (-1)) (l7 : hp_i l 7 (w)) (e0 : ∀ (l' : am_L) (h' : am_H) (y0 : Int32) (y1 : Int32), y0.toInt = 0 → y1.toInt = (n) → ly_hy m_tt ly_TH h' → ly_fr cst [] h h' → h.length ≤ h'.length → ly_hv cst h' 20104 0 = some (n) → hp_a l' 0 94 → hp_i l' 1 (a) → hp_i l' 2 (b) → hp_i l' 3 (d) → hp_i l' 4 4 → hp_F cst strs Φ D M 539 l' [.int y0, .int y1, .ref 191] h') : hp_F cst strs Φ D M 493 l [] h := by
  refine hp_arc c hM jx6_4n_k hD [a, b, d, n, w] rfl hy (hp_Bc (z := a) rfl b0 t0 (hp_Bc (z := b) rfl b1 t1 (hp_Bc (z := d) rfl b2 t2 (hp_Bc (z := n) rfl b3 t3 (hp_Bc (z := w) rfl b4 t4 hp_Bn))))) hp_Fn (hp_Kc (zi := (0 + 0)) (zv := (0 + (1 * n + 0))) k0 rfl rfl (by omega) (by omega) hp_Kn) (hp_La l0 (hp_Li (z := (0 + (1 * a + 0))) l1 rfl (by omega) (hp_Li (z := (0 + (1 * b + 0))) l2 rfl (by omega) (hp_Li (z := (0 + (1 * d + 0))) l3 rfl (by omega) (hp_Li (z := (4 + 0)) l4 rfl (by omega) (hp_Li (z := ((-1) + 0)) l5 rfl (by omega) (hp_Li (z := ((-1) + 0)) l6 rfl (by omega) (hp_Li (z := (0 + (1 * w + 0))) l7 rfl (by omega) hp_Ln)))))))) trivial ?_ ?_
  · intro p hp ys l' st' h' hys a1 a2 a3 gZ gL gS
    rcases List.mem_cons.mp hp with rfl | hp
    · obtain rfl := hp_y0 hys
      obtain ⟨y0, t0, rfl, q0, g0⟩ := hp_gSi (z := (0 + 0)) gS rfl
      obtain ⟨y1, t1, rfl, q1, g1⟩ := hp_gSi (z := (0 + (1 * n + 0))) g0 rfl
      obtain ⟨t2, rfl, g2⟩ := hp_gSa g1 (by decide)
      cases hp_gSn g2
      exact e0 l' h' y0 y1 (by omega) (by omega) a1 a2 a3 (hp_gK (zi := (0 + 0)) (zv := (0 + (1 * n + 0))) gZ.2.2.2 (List.mem_of_getElem? (i := 0) rfl) rfl rfl (by omega) (by omega)) (hp_gLa gL (List.mem_of_getElem? (i := 0) rfl) (by decide)) (hp_gLi (z := (0 + (1 * a + 0))) gL (List.mem_of_getElem? (i := 1) rfl) rfl (by omega)) (hp_gLi (z := (0 + (1 * b + 0))) gL (List.mem_of_getElem? (i := 2) rfl) rfl (by omega)) (hp_gLi (z := (0 + (1 * d + 0))) gL (List.mem_of_getElem? (i := 3) rfl) rfl (by omega)) (hp_gLi (z := (4 + 0)) gL (List.mem_of_getElem? (i := 4) rfl) rfl (by omega))
    cases hp
  · intro p hp ys v h' hys a1 a2 a3 gZ gS
    cases hp
theorem jx6_5_k : hp_chk 411 540 7 [(0, 0, 10), (1, 0, 10), (2, 0, 10), (3, 0, 10), (4, 0, 10), (5, 0, 10), (6, 0, 29)] [((-1), [(2, (-1)), (5, 1)])] [(0, .inr (.inr (.inl (some 94)))), (1, .inl (0, [(0, 1)])), (2, .inl (0, [(1, 1)])), (3, .inl (0, [(2, 1)])), (4, .inl (4, []))] [] [(20104, (0, []), (0, [(6, 1)]))] [20104] 5 [(216, ([], 7, [(0, 0, 10), (1, 0, 10), (2, 0, 10), (3, 0, 10), (4, 0, 10), (5, 0, 10), (6, 0, 29)], [], [(0, .inr (.inr (.inl (some 94)))), (1, .inl (0, [(0, 1)])), (2, .inl (0, [(1, 1)])), (3, .inl (1, [(2, 1)]))], [], [(20104, (0, []), (1, [(6, 1)]))]))] [] = true := by decide +kernel
theorem jx6_5 {cst : am_K} {strs : List Nat} {Φ : am_Q → Prop} {D : Nat} {M : am_M} {h : am_H} {l : am_L} (c : hp_C cst strs D) (hM : m_P[411]? = some M) (hD : (5 : Int) ≤ (D : Int) + 1) (hy : ly_hy m_tt ly_TH h) (a b d ma mb md n : Int) (b0 : 0 ≤ a) (t0 : a ≤ 10) (b1 : 0 ≤ b) (t1 : b ≤ 10) (b2 : 0 ≤ d) (t2 : d ≤ 10) (b3 : 0 ≤ ma) (t3 : ma ≤ 10) (b4 : 0 ≤ mb) (t4 : mb ≤ 10) (b5 : 0 ≤ md) (t5 : md ≤ 10) (b6 : 0 ≤ n) (t6 : n ≤ 29) (f0 : 0 ≤ (md - d - 1)) (k0 : ly_hv cst h 20104 0 = some (n)) (l0 : hp_a l 0 94) (l1 : hp_i l 1 (a)) (l2 : hp_i l 2 (b)) (l3 : hp_i l 3 (d)) (l4 : hp_i l 4 4) (e0 : ∀ (l' : am_L) (h' : am_H), ly_hy m_tt ly_TH h' → ly_fr cst [20104] h h' → h.length ≤ h'.length → ly_hv cst h' 20104 0 = some (n + 1) → hp_a l' 0 94 → hp_i l' 1 (a) → hp_i l' 2 (b) → hp_i l' 3 (d + 1) → hp_F cst strs Φ D M 216 l' [] h') : hp_F cst strs Φ D M 540 l [] h := by
  refine hp_arc c hM jx6_5_k hD [a, b, d, ma, mb, md, n] rfl hy (hp_Bc (z := a) rfl b0 t0 (hp_Bc (z := b) rfl b1 t1 (hp_Bc (z := d) rfl b2 t2 (hp_Bc (z := ma) rfl b3 t3 (hp_Bc (z := mb) rfl b4 t4 (hp_Bc (z := md) rfl b5 t5 (hp_Bc (z := n) rfl b6 t6 hp_Bn))))))) (hp_Fc (z := ((-1) + ((-1) * d + (1 * md + 0)))) rfl (by omega) hp_Fn) (hp_Kc (zi := (0 + 0)) (zv := (0 + (1 * n + 0))) k0 rfl rfl (by omega) (by omega) hp_Kn) (hp_La l0 (hp_Li (z := (0 + (1 * a + 0))) l1 rfl (by omega) (hp_Li (z := (0 + (1 * b + 0))) l2 rfl (by omega) (hp_Li (z := (0 + (1 * d + 0))) l3 rfl (by omega) (hp_Li (z := (4 + 0)) l4 rfl (by omega) hp_Ln))))) trivial ?_ ?_
  · intro p hp ys l' st' h' hys a1 a2 a3 gZ gL gS
    rcases List.mem_cons.mp hp with rfl | hp
    · obtain rfl := hp_y0 hys
      cases hp_gSn gS
      exact e0 l' h' a1 a2 a3 (hp_gK (zi := (0 + 0)) (zv := (1 + (1 * n + 0))) gZ.2.2.2 (List.mem_of_getElem? (i := 0) rfl) rfl rfl (by omega) (by omega)) (hp_gLa gL (List.mem_of_getElem? (i := 0) rfl) (by decide)) (hp_gLi (z := (0 + (1 * a + 0))) gL (List.mem_of_getElem? (i := 1) rfl) rfl (by omega)) (hp_gLi (z := (0 + (1 * b + 0))) gL (List.mem_of_getElem? (i := 2) rfl) rfl (by omega)) (hp_gLi (z := (1 + (1 * d + 0))) gL (List.mem_of_getElem? (i := 3) rfl) rfl (by omega))
    cases hp
  · intro p hp ys v h' hys a1 a2 a3 gZ gS
    cases hp
theorem jx_9_k : hp_chk 411 216 4 [(0, 0, 10), (1, 0, 10), (2, 0, 10), (3, (-2147483648), 2147483647)] [] [(0, .inr (.inr (.inl (some 94)))), (1, .inl (0, [(0, 1)])), (2, .inl (0, [(1, 1)])), (3, .inl (0, [(2, 1)]))] [] [(44288, (0, []), (0, [(0, 1)])), (44288, (1, []), (0, [(1, 1)])), (44288, (2, []), (0, [(2, 1)])), (45056, (0, []), (0, [(3, 1)]))] [20103] 2 [] [([], 4, [(0, 0, 10), (1, 0, 10), (2, 0, 10), (3, (-2147483648), 2147483647)], [], [], [.inl (0, [(3, 1)])], [(20103, (0, []), (1, []))])] = true := by decide +kernel
theorem jx_9 {cst : am_K} {strs : List Nat} {Φ : am_Q → Prop} {D : Nat} {M : am_M} {h : am_H} {l : am_L} (c : hp_C cst strs D) (hM : m_P[411]? = some M) (hD : (2 : Int) ≤ (D : Int) + 1) (hy : ly_hy m_tt ly_TH h) (ma mb md y : Int) (b0 : 0 ≤ ma) (t0 : ma ≤ 10) (b1 : 0 ≤ mb) (t1 : mb ≤ 10) (b2 : 0 ≤ md) (t2 : md ≤ 10) (b3 : (-2147483648) ≤ y) (t3 : y ≤ 2147483647) (k0 : ly_hv cst h 44288 0 = some (ma)) (k1 : ly_hv cst h 44288 1 = some (mb)) (k2 : ly_hv cst h 44288 2 = some (md)) (k3 : ly_hv cst h 45056 0 = some (y)) (l0 : hp_a l 0 94) (l1 : hp_i l 1 (ma)) (l2 : hp_i l 2 (mb)) (l3 : hp_i l 3 (md)) (r0 : ∀ (h' : am_H) (y0 : Int32), y0.toInt = (y) → ly_hy m_tt ly_TH h' → ly_fr cst [20103] h h' → h.length ≤ h'.length → ly_hv cst h' 20103 0 = some 1 → Φ (some (.int y0), h', 0, 0)) : hp_F cst strs Φ D M 216 l [] h := by
  refine hp_arc c hM jx_9_k hD [ma, mb, md, y] rfl hy (hp_Bc (z := ma) rfl b0 t0 (hp_Bc (z := mb) rfl b1 t1 (hp_Bc (z := md) rfl b2 t2 (hp_Bc (z := y) rfl b3 t3 hp_Bn)))) hp_Fn (hp_Kc (zi := (0 + 0)) (zv := (0 + (1 * ma + 0))) k0 rfl rfl (by omega) (by omega) (hp_Kc (zi := (1 + 0)) (zv := (0 + (1 * mb + 0))) k1 rfl rfl (by omega) (by omega) (hp_Kc (zi := (2 + 0)) (zv := (0 + (1 * md + 0))) k2 rfl rfl (by omega) (by omega) (hp_Kc (zi := (0 + 0)) (zv := (0 + (1 * y + 0))) k3 rfl rfl (by omega) (by omega) hp_Kn)))) (hp_La l0 (hp_Li (z := (0 + (1 * ma + 0))) l1 rfl (by omega) (hp_Li (z := (0 + (1 * mb + 0))) l2 rfl (by omega) (hp_Li (z := (0 + (1 * md + 0))) l3 rfl (by omega) hp_Ln)))) trivial ?_ ?_
  · intro p hp ys l' st' h' hys a1 a2 a3 gZ gL gS
    cases hp
  · intro p hp ys v h' hys a1 a2 a3 gZ gS
    rcases List.mem_cons.mp hp with rfl | hp
    · obtain rfl := hp_y0 hys
      cases v with
      | none => cases gS
      | some w =>
        obtain ⟨y0, t0, s0, q0, -⟩ := hp_gSi (z := (0 + (1 * y + 0))) gS rfl
        cases s0
        exact r0 h' y0 (by omega) a1 a2 a3 (hp_gK (zi := (0 + 0)) (zv := (1 + 0)) gZ.2.2.2 (List.mem_of_getElem? (i := 0) rfl) rfl rfl (by omega) (by omega))
    cases hp
theorem jy0_k : hp_chk 414 0 2 [(0, (-2147483648), 2147483647), (1, (-2147483648), 2147483647)] [] [(0, .inr (.inr (.inl (some 94)))), (1, .inl (0, [(0, 1)])), (2, .inl (0, [(1, 1)]))] [] [(20103, (0, []), (0, []))] [] 4 [] [([], 2, [(0, (-2147483648), 2147483647), (1, (-2147483648), 2147483647)], [], [], [.inl ((-9), [])], [])] = true := by decide +kernel
theorem jy0 {cst : am_K} {strs : List Nat} {Φ : am_Q → Prop} {D : Nat} {M : am_M} {h : am_H} {l : am_L} (c : hp_C cst strs D) (hM : m_P[414]? = some M) (hD : (4 : Int) ≤ (D : Int) + 1) (hy : ly_hy m_tt ly_TH h) (i w : Int) (b0 : (-2147483648) ≤ i) (t0 : i ≤ 2147483647) (b1 : (-2147483648) ≤ w) (t1 : w ≤ 2147483647) (k0 : ly_hv cst h 20103 0 = some 0) (l0 : hp_a l 0 94) (l1 : hp_i l 1 (i)) (l2 : hp_i l 2 (w)) (r0 : ∀ (h' : am_H) (y0 : Int32), y0.toInt = (-9) → ly_hy m_tt ly_TH h' → ly_fr cst [] h h' → h.length ≤ h'.length → Φ (some (.int y0), h', 0, 0)) : hp_F cst strs Φ D M 0 l [] h := by
  refine hp_arc c hM jy0_k hD [i, w] rfl hy (hp_Bc (z := i) rfl b0 t0 (hp_Bc (z := w) rfl b1 t1 hp_Bn)) hp_Fn (hp_Kc (zi := (0 + 0)) (zv := (0 + 0)) k0 rfl rfl (by omega) (by omega) hp_Kn) (hp_La l0 (hp_Li (z := (0 + (1 * i + 0))) l1 rfl (by omega) (hp_Li (z := (0 + (1 * w + 0))) l2 rfl (by omega) hp_Ln))) trivial ?_ ?_
  · intro p hp ys l' st' h' hys a1 a2 a3 gZ gL gS
    cases hp
  · intro p hp ys v h' hys a1 a2 a3 gZ gS
    rcases List.mem_cons.mp hp with rfl | hp
    · obtain rfl := hp_y0 hys
      cases v with
      | none => cases gS
      | some w =>
        obtain ⟨y0, t0, s0, q0, -⟩ := hp_gSi (z := ((-9) + 0)) gS rfl
        cases s0
        exact r0 h' y0 (by omega) a1 a2 a3
    cases hp
theorem jy1_k : hp_chk 414 0 3 [(0, (-2147483648), (-1)), (1, (-2147483648), 2147483647), (2, 0, 30)] [] [(0, .inr (.inr (.inl (some 94)))), (1, .inl (0, [(0, 1)])), (2, .inl (0, [(1, 1)]))] [] [(20103, (0, []), (1, [])), (20104, (0, []), (0, [(2, 1)]))] [] 4 [] [([], 3, [(0, (-2147483648), (-1)), (1, (-2147483648), 2147483647), (2, 0, 30)], [], [], [.inl ((-9), [])], [])] = true := by decide +kernel
theorem jy1 {cst : am_K} {strs : List Nat} {Φ : am_Q → Prop} {D : Nat} {M : am_M} {h : am_H} {l : am_L} (c : hp_C cst strs D) (hM : m_P[414]? = some M) (hD : (4 : Int) ≤ (D : Int) + 1) (hy : ly_hy m_tt ly_TH h) (i w n : Int) (b0 : (-2147483648) ≤ i) (t0 : i ≤ (-1)) (b1 : (-2147483648) ≤ w) (t1 : w ≤ 2147483647) (b2 : 0 ≤ n) (t2 : n ≤ 30) (k0 : ly_hv cst h 20103 0 = some 1) (k1 : ly_hv cst h 20104 0 = some (n)) (l0 : hp_a l 0 94) (l1 : hp_i l 1 (i)) (l2 : hp_i l 2 (w)) (r0 : ∀ (h' : am_H) (y0 : Int32), y0.toInt = (-9) → ly_hy m_tt ly_TH h' → ly_fr cst [] h h' → h.length ≤ h'.length → Φ (some (.int y0), h', 0, 0)) : hp_F cst strs Φ D M 0 l [] h := by
  refine hp_arc c hM jy1_k hD [i, w, n] rfl hy (hp_Bc (z := i) rfl b0 t0 (hp_Bc (z := w) rfl b1 t1 (hp_Bc (z := n) rfl b2 t2 hp_Bn))) hp_Fn (hp_Kc (zi := (0 + 0)) (zv := (1 + 0)) k0 rfl rfl (by omega) (by omega) (hp_Kc (zi := (0 + 0)) (zv := (0 + (1 * n + 0))) k1 rfl rfl (by omega) (by omega) hp_Kn)) (hp_La l0 (hp_Li (z := (0 + (1 * i + 0))) l1 rfl (by omega) (hp_Li (z := (0 + (1 * w + 0))) l2 rfl (by omega) hp_Ln))) trivial ?_ ?_
  · intro p hp ys l' st' h' hys a1 a2 a3 gZ gL gS
    cases hp
  · intro p hp ys v h' hys a1 a2 a3 gZ gS
    rcases List.mem_cons.mp hp with rfl | hp
    · obtain rfl := hp_y0 hys
      cases v with
      | none => cases gS
      | some w =>
        obtain ⟨y0, t0, s0, q0, -⟩ := hp_gSi (z := ((-9) + 0)) gS rfl
        cases s0
        exact r0 h' y0 (by omega) a1 a2 a3
    cases hp
theorem jy2_k : hp_chk 414 0 3 [(0, 0, 2147483647), (1, (-2147483648), 2147483647), (2, 0, 30)] [(0, [(0, 1), (2, (-1))])] [(0, .inr (.inr (.inl (some 94)))), (1, .inl (0, [(0, 1)])), (2, .inl (0, [(1, 1)]))] [] [(20103, (0, []), (1, [])), (20104, (0, []), (0, [(2, 1)]))] [] 4 [] [([], 3, [(0, 0, 2147483647), (1, (-2147483648), 2147483647), (2, 0, 30)], [], [], [.inl ((-9), [])], [])] = true := by decide +kernel
theorem jy2 {cst : am_K} {strs : List Nat} {Φ : am_Q → Prop} {D : Nat} {M : am_M} {h : am_H} {l : am_L} (c : hp_C cst strs D) (hM : m_P[414]? = some M) (hD : (4 : Int) ≤ (D : Int) + 1) (hy : ly_hy m_tt ly_TH h) (i w n : Int) (b0 : 0 ≤ i) (t0 : i ≤ 2147483647) (b1 : (-2147483648) ≤ w) (t1 : w ≤ 2147483647) (b2 : 0 ≤ n) (t2 : n ≤ 30) (f0 : 0 ≤ (i - n)) (k0 : ly_hv cst h 20103 0 = some 1) (k1 : ly_hv cst h 20104 0 = some (n)) (l0 : hp_a l 0 94) (l1 : hp_i l 1 (i)) (l2 : hp_i l 2 (w)) (r0 : ∀ (h' : am_H) (y0 : Int32), y0.toInt = (-9) → ly_hy m_tt ly_TH h' → ly_fr cst [] h h' → h.length ≤ h'.length → Φ (some (.int y0), h', 0, 0)) : hp_F cst strs Φ D M 0 l [] h := by
  refine hp_arc c hM jy2_k hD [i, w, n] rfl hy (hp_Bc (z := i) rfl b0 t0 (hp_Bc (z := w) rfl b1 t1 (hp_Bc (z := n) rfl b2 t2 hp_Bn))) (hp_Fc (z := (0 + (1 * i + ((-1) * n + 0)))) rfl (by omega) hp_Fn) (hp_Kc (zi := (0 + 0)) (zv := (1 + 0)) k0 rfl rfl (by omega) (by omega) (hp_Kc (zi := (0 + 0)) (zv := (0 + (1 * n + 0))) k1 rfl rfl (by omega) (by omega) hp_Kn)) (hp_La l0 (hp_Li (z := (0 + (1 * i + 0))) l1 rfl (by omega) (hp_Li (z := (0 + (1 * w + 0))) l2 rfl (by omega) hp_Ln))) trivial ?_ ?_
  · intro p hp ys l' st' h' hys a1 a2 a3 gZ gL gS
    cases hp
  · intro p hp ys v h' hys a1 a2 a3 gZ gS
    rcases List.mem_cons.mp hp with rfl | hp
    · obtain rfl := hp_y0 hys
      cases v with
      | none => cases gS
      | some w =>
        obtain ⟨y0, t0, s0, q0, -⟩ := hp_gSi (z := ((-9) + 0)) gS rfl
        cases s0
        exact r0 h' y0 (by omega) a1 a2 a3
    cases hp
theorem jy3_k : hp_chk 414 0 3 [(0, 0, 29), (1, (-2147483648), (-1)), (2, 0, 30)] [((-1), [(0, (-1)), (2, 1)])] [(0, .inr (.inr (.inl (some 94)))), (1, .inl (0, [(0, 1)])), (2, .inl (0, [(1, 1)]))] [] [(20103, (0, []), (1, [])), (20104, (0, []), (0, [(2, 1)]))] [] 4 [] [([], 3, [(0, 0, 29), (1, (-2147483648), (-1)), (2, 0, 30)], [], [], [.inl ((-9), [])], [])] = true := by decide +kernel
theorem jy3 {cst : am_K} {strs : List Nat} {Φ : am_Q → Prop} {D : Nat} {M : am_M} {h : am_H} {l : am_L} (c : hp_C cst strs D) (hM : m_P[414]? = some M) (hD : (4 : Int) ≤ (D : Int) + 1) (hy : ly_hy m_tt ly_TH h) (i w n : Int) (b0 : 0 ≤ i) (t0 : i ≤ 29) (b1 : (-2147483648) ≤ w) (t1 : w ≤ (-1)) (b2 : 0 ≤ n) (t2 : n ≤ 30) (f0 : 0 ≤ (n - i - 1)) (k0 : ly_hv cst h 20103 0 = some 1) (k1 : ly_hv cst h 20104 0 = some (n)) (l0 : hp_a l 0 94) (l1 : hp_i l 1 (i)) (l2 : hp_i l 2 (w)) (r0 : ∀ (h' : am_H) (y0 : Int32), y0.toInt = (-9) → ly_hy m_tt ly_TH h' → ly_fr cst [] h h' → h.length ≤ h'.length → Φ (some (.int y0), h', 0, 0)) : hp_F cst strs Φ D M 0 l [] h := by
  refine hp_arc c hM jy3_k hD [i, w, n] rfl hy (hp_Bc (z := i) rfl b0 t0 (hp_Bc (z := w) rfl b1 t1 (hp_Bc (z := n) rfl b2 t2 hp_Bn))) (hp_Fc (z := ((-1) + ((-1) * i + (1 * n + 0)))) rfl (by omega) hp_Fn) (hp_Kc (zi := (0 + 0)) (zv := (1 + 0)) k0 rfl rfl (by omega) (by omega) (hp_Kc (zi := (0 + 0)) (zv := (0 + (1 * n + 0))) k1 rfl rfl (by omega) (by omega) hp_Kn)) (hp_La l0 (hp_Li (z := (0 + (1 * i + 0))) l1 rfl (by omega) (hp_Li (z := (0 + (1 * w + 0))) l2 rfl (by omega) hp_Ln))) trivial ?_ ?_
  · intro p hp ys l' st' h' hys a1 a2 a3 gZ gL gS
    cases hp
  · intro p hp ys v h' hys a1 a2 a3 gZ gS
    rcases List.mem_cons.mp hp with rfl | hp
    · obtain rfl := hp_y0 hys
      cases v with
      | none => cases gS
      | some w =>
        obtain ⟨y0, t0, s0, q0, -⟩ := hp_gSi (z := ((-9) + 0)) gS rfl
        cases s0
        exact r0 h' y0 (by omega) a1 a2 a3
    cases hp
theorem jy4_k : hp_chk 414 0 3 [(0, 0, 29), (1, 4, 2147483647), (2, 0, 30)] [((-1), [(0, (-1)), (2, 1)])] [(0, .inr (.inr (.inl (some 94)))), (1, .inl (0, [(0, 1)])), (2, .inl (0, [(1, 1)]))] [] [(20103, (0, []), (1, [])), (20104, (0, []), (0, [(2, 1)]))] [] 4 [] [([], 3, [(0, 0, 29), (1, 4, 2147483647), (2, 0, 30)], [], [], [.inl ((-9), [])], [])] = true := by decide +kernel
theorem jy4 {cst : am_K} {strs : List Nat} {Φ : am_Q → Prop} {D : Nat} {M : am_M} {h : am_H} {l : am_L} (c : hp_C cst strs D) (hM : m_P[414]? = some M) (hD : (4 : Int) ≤ (D : Int) + 1) (hy : ly_hy m_tt ly_TH h) (i w n : Int) (b0 : 0 ≤ i) (t0 : i ≤ 29) (b1 : 4 ≤ w) (t1 : w ≤ 2147483647) (b2 : 0 ≤ n) (t2 : n ≤ 30) (f0 : 0 ≤ (n - i - 1)) (k0 : ly_hv cst h 20103 0 = some 1) (k1 : ly_hv cst h 20104 0 = some (n)) (l0 : hp_a l 0 94) (l1 : hp_i l 1 (i)) (l2 : hp_i l 2 (w)) (r0 : ∀ (h' : am_H) (y0 : Int32), y0.toInt = (-9) → ly_hy m_tt ly_TH h' → ly_fr cst [] h h' → h.length ≤ h'.length → Φ (some (.int y0), h', 0, 0)) : hp_F cst strs Φ D M 0 l [] h := by
  refine hp_arc c hM jy4_k hD [i, w, n] rfl hy (hp_Bc (z := i) rfl b0 t0 (hp_Bc (z := w) rfl b1 t1 (hp_Bc (z := n) rfl b2 t2 hp_Bn))) (hp_Fc (z := ((-1) + ((-1) * i + (1 * n + 0)))) rfl (by omega) hp_Fn) (hp_Kc (zi := (0 + 0)) (zv := (1 + 0)) k0 rfl rfl (by omega) (by omega) (hp_Kc (zi := (0 + 0)) (zv := (0 + (1 * n + 0))) k1 rfl rfl (by omega) (by omega) hp_Kn)) (hp_La l0 (hp_Li (z := (0 + (1 * i + 0))) l1 rfl (by omega) (hp_Li (z := (0 + (1 * w + 0))) l2 rfl (by omega) hp_Ln))) trivial ?_ ?_
  · intro p hp ys l' st' h' hys a1 a2 a3 gZ gL gS
    cases hp
  · intro p hp ys v h' hys a1 a2 a3 gZ gS
    rcases List.mem_cons.mp hp with rfl | hp
    · obtain rfl := hp_y0 hys
      cases v with
      | none => cases gS
      | some w =>
        obtain ⟨y0, t0, s0, q0, -⟩ := hp_gSi (z := ((-9) + 0)) gS rfl
        cases s0
        exact r0 h' y0 (by omega) a1 a2 a3
    cases hp
theorem jy5_k : hp_chk 414 0 4 [(0, 0, 29), (1, 0, 2), (2, 0, 30), (3, (-1), 9)] [((-1), [(0, (-1)), (2, 1)])] [(0, .inr (.inr (.inl (some 94)))), (1, .inl (0, [(0, 1)])), (2, .inl (0, [(1, 1)]))] [] [(20103, (0, []), (1, [])), (20104, (0, []), (0, [(2, 1)])), (44544, (0, [(0, 3), (1, 1)]), (0, [(3, 1)]))] [] 4 [] [([], 4, [(0, 0, 29), (1, 0, 2), (2, 0, 30), (3, (-1), 9)], [], [], [.inl (0, [(3, 1)])], [])] = true := by decide +kernel
theorem jy5 {cst : am_K} {strs : List Nat} {Φ : am_Q → Prop} {D : Nat} {M : am_M} {h : am_H} {l : am_L} (c : hp_C cst strs D) (hM : m_P[414]? = some M) (hD : (4 : Int) ≤ (D : Int) + 1) (hy : ly_hy m_tt ly_TH h) (i w n v : Int) (b0 : 0 ≤ i) (t0 : i ≤ 29) (b1 : 0 ≤ w) (t1 : w ≤ 2) (b2 : 0 ≤ n) (t2 : n ≤ 30) (b3 : (-1) ≤ v) (t3 : v ≤ 9) (f0 : 0 ≤ (n - i - 1)) (k0 : ly_hv cst h 20103 0 = some 1) (k1 : ly_hv cst h 20104 0 = some (n)) (k2 : ly_hv cst h 44544 (3 * i + w) = some (v)) (l0 : hp_a l 0 94) (l1 : hp_i l 1 (i)) (l2 : hp_i l 2 (w)) (r0 : ∀ (h' : am_H) (y0 : Int32), y0.toInt = (v) → ly_hy m_tt ly_TH h' → ly_fr cst [] h h' → h.length ≤ h'.length → Φ (some (.int y0), h', 0, 0)) : hp_F cst strs Φ D M 0 l [] h := by
  refine hp_arc c hM jy5_k hD [i, w, n, v] rfl hy (hp_Bc (z := i) rfl b0 t0 (hp_Bc (z := w) rfl b1 t1 (hp_Bc (z := n) rfl b2 t2 (hp_Bc (z := v) rfl b3 t3 hp_Bn)))) (hp_Fc (z := ((-1) + ((-1) * i + (1 * n + 0)))) rfl (by omega) hp_Fn) (hp_Kc (zi := (0 + 0)) (zv := (1 + 0)) k0 rfl rfl (by omega) (by omega) (hp_Kc (zi := (0 + 0)) (zv := (0 + (1 * n + 0))) k1 rfl rfl (by omega) (by omega) (hp_Kc (zi := (0 + (3 * i + (1 * w + 0)))) (zv := (0 + (1 * v + 0))) k2 rfl rfl (by omega) (by omega) hp_Kn))) (hp_La l0 (hp_Li (z := (0 + (1 * i + 0))) l1 rfl (by omega) (hp_Li (z := (0 + (1 * w + 0))) l2 rfl (by omega) hp_Ln))) trivial ?_ ?_
  · intro p hp ys l' st' h' hys a1 a2 a3 gZ gL gS
    cases hp
  · intro p hp ys v h' hys a1 a2 a3 gZ gS
    rcases List.mem_cons.mp hp with rfl | hp
    · obtain rfl := hp_y0 hys
      cases v with
      | none => cases gS
      | some w =>
        obtain ⟨y0, t0, s0, q0, -⟩ := hp_gSi (z := (0 + (1 * v + 0))) gS rfl
        cases s0
        exact r0 h' y0 (by omega) a1 a2 a3
    cases hp
theorem jy60_k : hp_chk 414 0 2 [(0, 0, 29), (1, 0, 30)] [((-1), [(0, (-1)), (1, 1)])] [(0, .inr (.inr (.inl (some 94)))), (1, .inl (0, [(0, 1)])), (2, .inl (3, []))] [] [(20103, (0, []), (1, [])), (20104, (0, []), (0, [(1, 1)])), (44800, (0, [(0, 1)]), (0, []))] [] 4 [] [([], 2, [(0, 0, 29), (1, 0, 30)], [], [], [.inl (0, [])], [])] = true := by decide +kernel
theorem jy60 {cst : am_K} {strs : List Nat} {Φ : am_Q → Prop} {D : Nat} {M : am_M} {h : am_H} {l : am_L} (c : hp_C cst strs D) (hM : m_P[414]? = some M) (hD : (4 : Int) ≤ (D : Int) + 1) (hy : ly_hy m_tt ly_TH h) (i n : Int) (b0 : 0 ≤ i) (t0 : i ≤ 29) (b1 : 0 ≤ n) (t1 : n ≤ 30) (f0 : 0 ≤ (n - i - 1)) (k0 : ly_hv cst h 20103 0 = some 1) (k1 : ly_hv cst h 20104 0 = some (n)) (k2 : ly_hv cst h 44800 (i) = some 0) (l0 : hp_a l 0 94) (l1 : hp_i l 1 (i)) (l2 : hp_i l 2 3) (r0 : ∀ (h' : am_H) (y0 : Int32), y0.toInt = 0 → ly_hy m_tt ly_TH h' → ly_fr cst [] h h' → h.length ≤ h'.length → Φ (some (.int y0), h', 0, 0)) : hp_F cst strs Φ D M 0 l [] h := by
  refine hp_arc c hM jy60_k hD [i, n] rfl hy (hp_Bc (z := i) rfl b0 t0 (hp_Bc (z := n) rfl b1 t1 hp_Bn)) (hp_Fc (z := ((-1) + ((-1) * i + (1 * n + 0)))) rfl (by omega) hp_Fn) (hp_Kc (zi := (0 + 0)) (zv := (1 + 0)) k0 rfl rfl (by omega) (by omega) (hp_Kc (zi := (0 + 0)) (zv := (0 + (1 * n + 0))) k1 rfl rfl (by omega) (by omega) (hp_Kc (zi := (0 + (1 * i + 0))) (zv := (0 + 0)) k2 rfl rfl (by omega) (by omega) hp_Kn))) (hp_La l0 (hp_Li (z := (0 + (1 * i + 0))) l1 rfl (by omega) (hp_Li (z := (3 + 0)) l2 rfl (by omega) hp_Ln))) trivial ?_ ?_
  · intro p hp ys l' st' h' hys a1 a2 a3 gZ gL gS
    cases hp
  · intro p hp ys v h' hys a1 a2 a3 gZ gS
    rcases List.mem_cons.mp hp with rfl | hp
    · obtain rfl := hp_y0 hys
      cases v with
      | none => cases gS
      | some w =>
        obtain ⟨y0, t0, s0, q0, -⟩ := hp_gSi (z := (0 + 0)) gS rfl
        cases s0
        exact r0 h' y0 (by omega) a1 a2 a3
    cases hp
theorem jy61_k : hp_chk 414 0 2 [(0, 0, 29), (1, 0, 30)] [((-1), [(0, (-1)), (1, 1)])] [(0, .inr (.inr (.inl (some 94)))), (1, .inl (0, [(0, 1)])), (2, .inl (3, []))] [] [(20103, (0, []), (1, [])), (20104, (0, []), (0, [(1, 1)])), (44800, (0, [(0, 1)]), (1, []))] [] 4 [] [([], 2, [(0, 0, 29), (1, 0, 30)], [], [], [.inl (1, [])], [])] = true := by decide +kernel
theorem jy61 {cst : am_K} {strs : List Nat} {Φ : am_Q → Prop} {D : Nat} {M : am_M} {h : am_H} {l : am_L} (c : hp_C cst strs D) (hM : m_P[414]? = some M) (hD : (4 : Int) ≤ (D : Int) + 1) (hy : ly_hy m_tt ly_TH h) (i n : Int) (b0 : 0 ≤ i) (t0 : i ≤ 29) (b1 : 0 ≤ n) (t1 : n ≤ 30) (f0 : 0 ≤ (n - i - 1)) (k0 : ly_hv cst h 20103 0 = some 1) (k1 : ly_hv cst h 20104 0 = some (n)) (k2 : ly_hv cst h 44800 (i) = some 1) (l0 : hp_a l 0 94) (l1 : hp_i l 1 (i)) (l2 : hp_i l 2 3) (r0 : ∀ (h' : am_H) (y0 : Int32), y0.toInt = 1 → ly_hy m_tt ly_TH h' → ly_fr cst [] h h' → h.length ≤ h'.length → Φ (some (.int y0), h', 0, 0)) : hp_F cst strs Φ D M 0 l [] h := by
  refine hp_arc c hM jy61_k hD [i, n] rfl hy (hp_Bc (z := i) rfl b0 t0 (hp_Bc (z := n) rfl b1 t1 hp_Bn)) (hp_Fc (z := ((-1) + ((-1) * i + (1 * n + 0)))) rfl (by omega) hp_Fn) (hp_Kc (zi := (0 + 0)) (zv := (1 + 0)) k0 rfl rfl (by omega) (by omega) (hp_Kc (zi := (0 + 0)) (zv := (0 + (1 * n + 0))) k1 rfl rfl (by omega) (by omega) (hp_Kc (zi := (0 + (1 * i + 0))) (zv := (1 + 0)) k2 rfl rfl (by omega) (by omega) hp_Kn))) (hp_La l0 (hp_Li (z := (0 + (1 * i + 0))) l1 rfl (by omega) (hp_Li (z := (3 + 0)) l2 rfl (by omega) hp_Ln))) trivial ?_ ?_
  · intro p hp ys l' st' h' hys a1 a2 a3 gZ gL gS
    cases hp
  · intro p hp ys v h' hys a1 a2 a3 gZ gS
    rcases List.mem_cons.mp hp with rfl | hp
    · obtain rfl := hp_y0 hys
      cases v with
      | none => cases gS
      | some w =>
        obtain ⟨y0, t0, s0, q0, -⟩ := hp_gSi (z := (1 + 0)) gS rfl
        cases s0
        exact r0 h' y0 (by omega) a1 a2 a3
    cases hp
/-- the set that the next row takes: the first that costs least -/
def wk_t (f g j : Int → Option Int) (a b d : Int) : Int := if (0 ≤ rc f g 7 a b d ∧ j (121 * a + 11 * b + d + 133) = some ((j (121 * a + 11 * b + d)).getD 0 - rc f g 7 a b d)) then 7 else if (0 ≤ rc f g 3 a b d ∧ j (121 * a + 11 * b + d + 132) = some ((j (121 * a + 11 * b + d)).getD 0 - rc f g 3 a b d)) then 3 else if (0 ≤ rc f g 5 a b d ∧ j (121 * a + 11 * b + d + 122) = some ((j (121 * a + 11 * b + d)).getD 0 - rc f g 5 a b d)) then 5 else if (0 ≤ rc f g 6 a b d ∧ j (121 * a + 11 * b + d + 12) = some ((j (121 * a + 11 * b + d)).getD 0 - rc f g 6 a b d)) then 6 else if (0 ≤ rc f g 1 a b d ∧ j (121 * a + 11 * b + d + 121) = some ((j (121 * a + 11 * b + d)).getD 0 - rc f g 1 a b d)) then 1 else if (0 ≤ rc f g 2 a b d ∧ j (121 * a + 11 * b + d + 11) = some ((j (121 * a + 11 * b + d)).getD 0 - rc f g 2 a b d)) then 2 else if (0 ≤ rc f g 4 a b d ∧ j (121 * a + 11 * b + d + 1) = some ((j (121 * a + 11 * b + d)).getD 0 - rc f g 4 a b d)) then 4 else 0
theorem wk_t_0 {f g j : Int → Option Int} {a b d e : Int} (hj : j (121 * a + 11 * b + d) = some e) (w : jn_w f g j a b d e 7 133) (F : ju_F f g j a b d e 0) : wk_t f g j a b d = 7 := by
  unfold wk_t
  rw [hj]
  rw [if_pos (by exact ⟨w.1, by obtain ⟨_, y', h1, h2⟩ := w; rw [h1]; exact congrArg some (show y' = e - rc f g 7 a b d by omega)⟩)]
theorem wk_t_1 {f g j : Int → Option Int} {a b d e : Int} (hj : j (121 * a + 11 * b + d) = some e) (w : jn_w f g j a b d e 3 132) (F : ju_F f g j a b d e 1) : wk_t f g j a b d = 3 := by
  unfold wk_t
  rw [hj]
  rw [if_neg (by exact fun h => absurd (show rc f g 7 a b d + (e - rc f g 7 a b d) = e by omega) (F.1 (by decide) h.1 _ h.2)), if_pos (by exact ⟨w.1, by obtain ⟨_, y', h1, h2⟩ := w; rw [h1]; exact congrArg some (show y' = e - rc f g 3 a b d by omega)⟩)]
theorem wk_t_2 {f g j : Int → Option Int} {a b d e : Int} (hj : j (121 * a + 11 * b + d) = some e) (w : jn_w f g j a b d e 5 122) (F : ju_F f g j a b d e 2) : wk_t f g j a b d = 5 := by
  unfold wk_t
  rw [hj]
  rw [if_neg (by exact fun h => absurd (show rc f g 7 a b d + (e - rc f g 7 a b d) = e by omega) (F.1 (by decide) h.1 _ h.2)), if_neg (by exact fun h => absurd (show rc f g 3 a b d + (e - rc f g 3 a b d) = e by omega) (F.2.1 (by decide) h.1 _ h.2)), if_pos (by exact ⟨w.1, by obtain ⟨_, y', h1, h2⟩ := w; rw [h1]; exact congrArg some (show y' = e - rc f g 5 a b d by omega)⟩)]
theorem wk_t_3 {f g j : Int → Option Int} {a b d e : Int} (hj : j (121 * a + 11 * b + d) = some e) (w : jn_w f g j a b d e 6 12) (F : ju_F f g j a b d e 3) : wk_t f g j a b d = 6 := by
  unfold wk_t
  rw [hj]
  rw [if_neg (by exact fun h => absurd (show rc f g 7 a b d + (e - rc f g 7 a b d) = e by omega) (F.1 (by decide) h.1 _ h.2)), if_neg (by exact fun h => absurd (show rc f g 3 a b d + (e - rc f g 3 a b d) = e by omega) (F.2.1 (by decide) h.1 _ h.2)), if_neg (by exact fun h => absurd (show rc f g 5 a b d + (e - rc f g 5 a b d) = e by omega) (F.2.2.1 (by decide) h.1 _ h.2)), if_pos (by exact ⟨w.1, by obtain ⟨_, y', h1, h2⟩ := w; rw [h1]; exact congrArg some (show y' = e - rc f g 6 a b d by omega)⟩)]
theorem wk_t_4 {f g j : Int → Option Int} {a b d e : Int} (hj : j (121 * a + 11 * b + d) = some e) (w : jn_w f g j a b d e 1 121) (F : ju_F f g j a b d e 4) : wk_t f g j a b d = 1 := by
  unfold wk_t
  rw [hj]
  rw [if_neg (by exact fun h => absurd (show rc f g 7 a b d + (e - rc f g 7 a b d) = e by omega) (F.1 (by decide) h.1 _ h.2)), if_neg (by exact fun h => absurd (show rc f g 3 a b d + (e - rc f g 3 a b d) = e by omega) (F.2.1 (by decide) h.1 _ h.2)), if_neg (by exact fun h => absurd (show rc f g 5 a b d + (e - rc f g 5 a b d) = e by omega) (F.2.2.1 (by decide) h.1 _ h.2)), if_neg (by exact fun h => absurd (show rc f g 6 a b d + (e - rc f g 6 a b d) = e by omega) (F.2.2.2.1 (by decide) h.1 _ h.2)), if_pos (by exact ⟨w.1, by obtain ⟨_, y', h1, h2⟩ := w; rw [h1]; exact congrArg some (show y' = e - rc f g 1 a b d by omega)⟩)]
theorem wk_t_5 {f g j : Int → Option Int} {a b d e : Int} (hj : j (121 * a + 11 * b + d) = some e) (w : jn_w f g j a b d e 2 11) (F : ju_F f g j a b d e 5) : wk_t f g j a b d = 2 := by
  unfold wk_t
  rw [hj]
  rw [if_neg (by exact fun h => absurd (show rc f g 7 a b d + (e - rc f g 7 a b d) = e by omega) (F.1 (by decide) h.1 _ h.2)), if_neg (by exact fun h => absurd (show rc f g 3 a b d + (e - rc f g 3 a b d) = e by omega) (F.2.1 (by decide) h.1 _ h.2)), if_neg (by exact fun h => absurd (show rc f g 5 a b d + (e - rc f g 5 a b d) = e by omega) (F.2.2.1 (by decide) h.1 _ h.2)), if_neg (by exact fun h => absurd (show rc f g 6 a b d + (e - rc f g 6 a b d) = e by omega) (F.2.2.2.1 (by decide) h.1 _ h.2)), if_neg (by exact fun h => absurd (show rc f g 1 a b d + (e - rc f g 1 a b d) = e by omega) (F.2.2.2.2.1 (by decide) h.1 _ h.2)), if_pos (by exact ⟨w.1, by obtain ⟨_, y', h1, h2⟩ := w; rw [h1]; exact congrArg some (show y' = e - rc f g 2 a b d by omega)⟩)]
theorem wk_t_6 {f g j : Int → Option Int} {a b d e : Int} (hj : j (121 * a + 11 * b + d) = some e) (w : jn_w f g j a b d e 4 1) (F : ju_F f g j a b d e 6) : wk_t f g j a b d = 4 := by
  unfold wk_t
  rw [hj]
  rw [if_neg (by exact fun h => absurd (show rc f g 7 a b d + (e - rc f g 7 a b d) = e by omega) (F.1 (by decide) h.1 _ h.2)), if_neg (by exact fun h => absurd (show rc f g 3 a b d + (e - rc f g 3 a b d) = e by omega) (F.2.1 (by decide) h.1 _ h.2)), if_neg (by exact fun h => absurd (show rc f g 5 a b d + (e - rc f g 5 a b d) = e by omega) (F.2.2.1 (by decide) h.1 _ h.2)), if_neg (by exact fun h => absurd (show rc f g 6 a b d + (e - rc f g 6 a b d) = e by omega) (F.2.2.2.1 (by decide) h.1 _ h.2)), if_neg (by exact fun h => absurd (show rc f g 1 a b d + (e - rc f g 1 a b d) = e by omega) (F.2.2.2.2.1 (by decide) h.1 _ h.2)), if_neg (by exact fun h => absurd (show rc f g 2 a b d + (e - rc f g 2 a b d) = e by omega) (F.2.2.2.2.2.1 (by decide) h.1 _ h.2)), if_pos (by exact ⟨w.1, by obtain ⟨_, y', h1, h2⟩ := w; rw [h1]; exact congrArg some (show y' = e - rc f g 4 a b d by omega)⟩)]
theorem wk_t_none {f g j : Int → Option Int} {a b d : Int} (A : ju_A f g j a b d (-1) 7) : wk_t f g j a b d = 0 := by
  unfold wk_t
  rw [if_neg (by exact fun h => absurd rfl (A.1 (by decide) h.1).1), if_neg (by exact fun h => absurd rfl (A.2.1 (by decide) h.1).1), if_neg (by exact fun h => absurd rfl (A.2.2.1 (by decide) h.1).1), if_neg (by exact fun h => absurd rfl (A.2.2.2.1 (by decide) h.1).1), if_neg (by exact fun h => absurd rfl (A.2.2.2.2.1 (by decide) h.1).1), if_neg (by exact fun h => absurd rfl (A.2.2.2.2.2.1 (by decide) h.1).1), if_neg (by exact fun h => absurd rfl (A.2.2.2.2.2.2 (by decide) h.1).1)]
theorem wk_t_or {f g j : Int → Option Int} {a b d : Int} : wk_t f g j a b d = 0 ∨ (wk_t f g j a b d = 7 ∧ 0 ≤ rc f g 7 a b d) ∨ (wk_t f g j a b d = 3 ∧ 0 ≤ rc f g 3 a b d) ∨ (wk_t f g j a b d = 5 ∧ 0 ≤ rc f g 5 a b d) ∨ (wk_t f g j a b d = 6 ∧ 0 ≤ rc f g 6 a b d) ∨ (wk_t f g j a b d = 1 ∧ 0 ≤ rc f g 1 a b d) ∨ (wk_t f g j a b d = 2 ∧ 0 ≤ rc f g 2 a b d) ∨ (wk_t f g j a b d = 4 ∧ 0 ≤ rc f g 4 a b d) := by
  unfold wk_t
  by_cases h0 : (0 ≤ rc f g 7 a b d ∧ j (121 * a + 11 * b + d + 133) = some ((j (121 * a + 11 * b + d)).getD 0 - rc f g 7 a b d))
  · rw [if_pos h0]
    exact Or.inr (Or.inl ⟨rfl, h0.1⟩)
  rw [if_neg h0]
  by_cases h1 : (0 ≤ rc f g 3 a b d ∧ j (121 * a + 11 * b + d + 132) = some ((j (121 * a + 11 * b + d)).getD 0 - rc f g 3 a b d))
  · rw [if_pos h1]
    exact Or.inr (Or.inr (Or.inl ⟨rfl, h1.1⟩))
  rw [if_neg h1]
  by_cases h2 : (0 ≤ rc f g 5 a b d ∧ j (121 * a + 11 * b + d + 122) = some ((j (121 * a + 11 * b + d)).getD 0 - rc f g 5 a b d))
  · rw [if_pos h2]
    exact Or.inr (Or.inr (Or.inr (Or.inl ⟨rfl, h2.1⟩)))
  rw [if_neg h2]
  by_cases h3 : (0 ≤ rc f g 6 a b d ∧ j (121 * a + 11 * b + d + 12) = some ((j (121 * a + 11 * b + d)).getD 0 - rc f g 6 a b d))
  · rw [if_pos h3]
    exact Or.inr (Or.inr (Or.inr (Or.inr (Or.inl ⟨rfl, h3.1⟩))))
  rw [if_neg h3]
  by_cases h4 : (0 ≤ rc f g 1 a b d ∧ j (121 * a + 11 * b + d + 121) = some ((j (121 * a + 11 * b + d)).getD 0 - rc f g 1 a b d))
  · rw [if_pos h4]
    exact Or.inr (Or.inr (Or.inr (Or.inr (Or.inr (Or.inl ⟨rfl, h4.1⟩)))))
  rw [if_neg h4]
  by_cases h5 : (0 ≤ rc f g 2 a b d ∧ j (121 * a + 11 * b + d + 11) = some ((j (121 * a + 11 * b + d)).getD 0 - rc f g 2 a b d))
  · rw [if_pos h5]
    exact Or.inr (Or.inr (Or.inr (Or.inr (Or.inr (Or.inr (Or.inl ⟨rfl, h5.1⟩))))))
  rw [if_neg h5]
  by_cases h6 : (0 ≤ rc f g 4 a b d ∧ j (121 * a + 11 * b + d + 1) = some ((j (121 * a + 11 * b + d)).getD 0 - rc f g 4 a b d))
  · rw [if_pos h6]
    exact Or.inr (Or.inr (Or.inr (Or.inr (Or.inr (Or.inr (Or.inr (⟨rfl, h6.1⟩)))))))
  rw [if_neg h6]
  exact Or.inl rfl
theorem hp_upd_eq {f : Int → Option Int} {k v i : Int} (h : i = k) : hp_upd f k v i = some v := if_pos h
theorem hp_upd_ne {f : Int → Option Int} {k v i : Int} (h : ¬ i = k) : hp_upd f k v i = f i := if_neg h
def wk_b0 (s : Int) : Int := if s = 7 ∨ s = 3 ∨ s = 5 ∨ s = 1 then 1 else 0
def wk_b1 (s : Int) : Int := if s = 7 ∨ s = 3 ∨ s = 6 ∨ s = 2 then 1 else 0
def wk_b2 (s : Int) : Int := if s = 7 ∨ s = 5 ∨ s = 6 ∨ s = 4 then 1 else 0
def wk_v (c x : Int) : Int := if c = 1 then x else -1
def wk_u (R : Int → Option Int) (n x y z : Int) : Int → Option Int := hp_upd (hp_upd (hp_upd R (3 * n) x) (3 * n + 1) y) (3 * n + 2) z
/-- the rows, one after another -/
def wk (f g j : Int → Option Int) : Nat → Int → Int → Int → Int → (Int → Option Int) → Int × (Int → Option Int)
  | 0, _, _, _, n, R => (n, R)
  | N + 1, a, b, d, n, R => if wk_t f g j a b d = 0 then (n, R) else wk f g j N (a + wk_b0 (wk_t f g j a b d)) (b + wk_b1 (wk_t f g j a b d)) (d + wk_b2 (wk_t f g j a b d)) (n + 1) (wk_u R n (wk_v (wk_b0 (wk_t f g j a b d)) a) (wk_v (wk_b1 (wk_t f g j a b d)) b) (wk_v (wk_b2 (wk_t f g j a b d)) d))
theorem wk_stop {f g j : Int → Option Int} {a b d n : Int} {R : Int → Option Int} {N : Nat} (h : wk_t f g j a b d = 0) : wk f g j (N + 1) a b d n R = (n, R) := by
  show (if _ then _ else _) = _
  rw [if_pos h]
theorem wk_go7 {f g j : Int → Option Int} {a b d n : Int} {R : Int → Option Int} {N : Nat} (h : wk_t f g j a b d = 7) : wk f g j (N + 1) a b d n R = wk f g j N (a + 1) (b + 1) (d + 1) (n + 1) (wk_u R n a b d) := by
  show (if _ then _ else _) = _
  rw [if_neg (by rw [h]; decide), h, show wk_b0 7 = 1 from by decide, show wk_b1 7 = 1 from by decide, show wk_b2 7 = 1 from by decide]
  rfl
theorem wk_go3 {f g j : Int → Option Int} {a b d n : Int} {R : Int → Option Int} {N : Nat} (h : wk_t f g j a b d = 3) : wk f g j (N + 1) a b d n R = wk f g j N (a + 1) (b + 1) (d + 0) (n + 1) (wk_u R n a b (-1)) := by
  show (if _ then _ else _) = _
  rw [if_neg (by rw [h]; decide), h, show wk_b0 3 = 1 from by decide, show wk_b1 3 = 1 from by decide, show wk_b2 3 = 0 from by decide]
  rfl
theorem wk_go5 {f g j : Int → Option Int} {a b d n : Int} {R : Int → Option Int} {N : Nat} (h : wk_t f g j a b d = 5) : wk f g j (N + 1) a b d n R = wk f g j N (a + 1) (b + 0) (d + 1) (n + 1) (wk_u R n a (-1) d) := by
  show (if _ then _ else _) = _
  rw [if_neg (by rw [h]; decide), h, show wk_b0 5 = 1 from by decide, show wk_b1 5 = 0 from by decide, show wk_b2 5 = 1 from by decide]
  rfl
theorem wk_go6 {f g j : Int → Option Int} {a b d n : Int} {R : Int → Option Int} {N : Nat} (h : wk_t f g j a b d = 6) : wk f g j (N + 1) a b d n R = wk f g j N (a + 0) (b + 1) (d + 1) (n + 1) (wk_u R n (-1) b d) := by
  show (if _ then _ else _) = _
  rw [if_neg (by rw [h]; decide), h, show wk_b0 6 = 0 from by decide, show wk_b1 6 = 1 from by decide, show wk_b2 6 = 1 from by decide]
  rfl
theorem wk_go1 {f g j : Int → Option Int} {a b d n : Int} {R : Int → Option Int} {N : Nat} (h : wk_t f g j a b d = 1) : wk f g j (N + 1) a b d n R = wk f g j N (a + 1) (b + 0) (d + 0) (n + 1) (wk_u R n a (-1) (-1)) := by
  show (if _ then _ else _) = _
  rw [if_neg (by rw [h]; decide), h, show wk_b0 1 = 1 from by decide, show wk_b1 1 = 0 from by decide, show wk_b2 1 = 0 from by decide]
  rfl
theorem wk_go2 {f g j : Int → Option Int} {a b d n : Int} {R : Int → Option Int} {N : Nat} (h : wk_t f g j a b d = 2) : wk f g j (N + 1) a b d n R = wk f g j N (a + 0) (b + 1) (d + 0) (n + 1) (wk_u R n (-1) b (-1)) := by
  show (if _ then _ else _) = _
  rw [if_neg (by rw [h]; decide), h, show wk_b0 2 = 0 from by decide, show wk_b1 2 = 1 from by decide, show wk_b2 2 = 0 from by decide]
  rfl
theorem wk_go4 {f g j : Int → Option Int} {a b d n : Int} {R : Int → Option Int} {N : Nat} (h : wk_t f g j a b d = 4) : wk f g j (N + 1) a b d n R = wk f g j N (a + 0) (b + 0) (d + 1) (n + 1) (wk_u R n (-1) (-1) d) := by
  show (if _ then _ else _) = _
  rw [if_neg (by rw [h]; decide), h, show wk_b0 4 = 0 from by decide, show wk_b1 4 = 0 from by decide, show wk_b2 4 = 1 from by decide]
  rfl
theorem wk_t_eq {f g j j' : Int → Option Int} {ma mb md a b d : Int} (k0 : g 0 = some ma) (k1 : g 1 = some mb) (k2 : g 2 = some md) (a0 : 0 ≤ a) (a1 : a ≤ ma) (b0 : 0 ≤ b) (b1 : b ≤ mb) (d0 : 0 ≤ d) (d1 : d ≤ md) (E : ∀ a b d, 0 ≤ a → a ≤ ma → 0 ≤ b → b ≤ mb → 0 ≤ d → d ≤ md → j (121 * a + 11 * b + d) = j' (121 * a + 11 * b + d)) : wk_t f g j a b d = wk_t f g j' a b d := by
  have ec := E a b d a0 a1 b0 b1 d0 d1
  have h0 : (0 ≤ rc f g 7 a b d ∧ j (121 * a + 11 * b + d + 133) = some ((j (121 * a + 11 * b + d)).getD 0 - rc f g 7 a b d)) ↔ (0 ≤ rc f g 7 a b d ∧ j' (121 * a + 11 * b + d + 133) = some ((j' (121 * a + 11 * b + d)).getD 0 - rc f g 7 a b d)) := by
    have nx : 0 ≤ rc f g 7 a b d → j (121 * a + 11 * b + d + 133) = j' (121 * a + 11 * b + d + 133) := fun h0 => by
      rcases rcb7 (f := f) (a := a) (b := b) (d := d) k0 k1 k2 with hk | ⟨-, -, ⟨p0, p1, p2⟩⟩
      · rw [hk] at h0
        exact absurd h0 (by decide)
      · have z := E (a + 1) (b + 1) (d + 1) (by omega) (by omega) (by omega) (by omega) (by omega) (by omega)
        rw [show 121 * (a + 1) + 11 * (b + 1) + (d + 1) = 121 * a + 11 * b + d + 133 by omega] at z
        exact z
    constructor
    · rintro ⟨h0, h1⟩
      exact ⟨h0, by rw [← nx h0, ← ec]; exact h1⟩
    · rintro ⟨h0, h1⟩
      exact ⟨h0, by rw [nx h0, ec]; exact h1⟩
  have h1 : (0 ≤ rc f g 3 a b d ∧ j (121 * a + 11 * b + d + 132) = some ((j (121 * a + 11 * b + d)).getD 0 - rc f g 3 a b d)) ↔ (0 ≤ rc f g 3 a b d ∧ j' (121 * a + 11 * b + d + 132) = some ((j' (121 * a + 11 * b + d)).getD 0 - rc f g 3 a b d)) := by
    have nx : 0 ≤ rc f g 3 a b d → j (121 * a + 11 * b + d + 132) = j' (121 * a + 11 * b + d + 132) := fun h0 => by
      rcases rcb3 (f := f) (a := a) (b := b) (d := d) k0 k1 k2 with hk | ⟨-, -, ⟨p0, p1⟩⟩
      · rw [hk] at h0
        exact absurd h0 (by decide)
      · have z := E (a + 1) (b + 1) (d + 0) (by omega) (by omega) (by omega) (by omega) (by omega) (by omega)
        rw [show 121 * (a + 1) + 11 * (b + 1) + (d + 0) = 121 * a + 11 * b + d + 132 by omega] at z
        exact z
    constructor
    · rintro ⟨h0, h1⟩
      exact ⟨h0, by rw [← nx h0, ← ec]; exact h1⟩
    · rintro ⟨h0, h1⟩
      exact ⟨h0, by rw [nx h0, ec]; exact h1⟩
  have h2 : (0 ≤ rc f g 5 a b d ∧ j (121 * a + 11 * b + d + 122) = some ((j (121 * a + 11 * b + d)).getD 0 - rc f g 5 a b d)) ↔ (0 ≤ rc f g 5 a b d ∧ j' (121 * a + 11 * b + d + 122) = some ((j' (121 * a + 11 * b + d)).getD 0 - rc f g 5 a b d)) := by
    have nx : 0 ≤ rc f g 5 a b d → j (121 * a + 11 * b + d + 122) = j' (121 * a + 11 * b + d + 122) := fun h0 => by
      rcases rcb5 (f := f) (a := a) (b := b) (d := d) k0 k1 k2 with hk | ⟨-, -, ⟨p0, p1⟩⟩
      · rw [hk] at h0
        exact absurd h0 (by decide)
      · have z := E (a + 1) (b + 0) (d + 1) (by omega) (by omega) (by omega) (by omega) (by omega) (by omega)
        rw [show 121 * (a + 1) + 11 * (b + 0) + (d + 1) = 121 * a + 11 * b + d + 122 by omega] at z
        exact z
    constructor
    · rintro ⟨h0, h1⟩
      exact ⟨h0, by rw [← nx h0, ← ec]; exact h1⟩
    · rintro ⟨h0, h1⟩
      exact ⟨h0, by rw [nx h0, ec]; exact h1⟩
  have h3 : (0 ≤ rc f g 6 a b d ∧ j (121 * a + 11 * b + d + 12) = some ((j (121 * a + 11 * b + d)).getD 0 - rc f g 6 a b d)) ↔ (0 ≤ rc f g 6 a b d ∧ j' (121 * a + 11 * b + d + 12) = some ((j' (121 * a + 11 * b + d)).getD 0 - rc f g 6 a b d)) := by
    have nx : 0 ≤ rc f g 6 a b d → j (121 * a + 11 * b + d + 12) = j' (121 * a + 11 * b + d + 12) := fun h0 => by
      rcases rcb6 (f := f) (a := a) (b := b) (d := d) k0 k1 k2 with hk | ⟨-, -, ⟨p0, p1⟩⟩
      · rw [hk] at h0
        exact absurd h0 (by decide)
      · have z := E (a + 0) (b + 1) (d + 1) (by omega) (by omega) (by omega) (by omega) (by omega) (by omega)
        rw [show 121 * (a + 0) + 11 * (b + 1) + (d + 1) = 121 * a + 11 * b + d + 12 by omega] at z
        exact z
    constructor
    · rintro ⟨h0, h1⟩
      exact ⟨h0, by rw [← nx h0, ← ec]; exact h1⟩
    · rintro ⟨h0, h1⟩
      exact ⟨h0, by rw [nx h0, ec]; exact h1⟩
  have h4 : (0 ≤ rc f g 1 a b d ∧ j (121 * a + 11 * b + d + 121) = some ((j (121 * a + 11 * b + d)).getD 0 - rc f g 1 a b d)) ↔ (0 ≤ rc f g 1 a b d ∧ j' (121 * a + 11 * b + d + 121) = some ((j' (121 * a + 11 * b + d)).getD 0 - rc f g 1 a b d)) := by
    have nx : 0 ≤ rc f g 1 a b d → j (121 * a + 11 * b + d + 121) = j' (121 * a + 11 * b + d + 121) := fun h0 => by
      rcases rcb1 (f := f) (a := a) (b := b) (d := d) k0 k1 k2 with hk | ⟨-, -, p0⟩
      · rw [hk] at h0
        exact absurd h0 (by decide)
      · have z := E (a + 1) (b + 0) (d + 0) (by omega) (by omega) (by omega) (by omega) (by omega) (by omega)
        rw [show 121 * (a + 1) + 11 * (b + 0) + (d + 0) = 121 * a + 11 * b + d + 121 by omega] at z
        exact z
    constructor
    · rintro ⟨h0, h1⟩
      exact ⟨h0, by rw [← nx h0, ← ec]; exact h1⟩
    · rintro ⟨h0, h1⟩
      exact ⟨h0, by rw [nx h0, ec]; exact h1⟩
  have h5 : (0 ≤ rc f g 2 a b d ∧ j (121 * a + 11 * b + d + 11) = some ((j (121 * a + 11 * b + d)).getD 0 - rc f g 2 a b d)) ↔ (0 ≤ rc f g 2 a b d ∧ j' (121 * a + 11 * b + d + 11) = some ((j' (121 * a + 11 * b + d)).getD 0 - rc f g 2 a b d)) := by
    have nx : 0 ≤ rc f g 2 a b d → j (121 * a + 11 * b + d + 11) = j' (121 * a + 11 * b + d + 11) := fun h0 => by
      rcases rcb2 (f := f) (a := a) (b := b) (d := d) k0 k1 k2 with hk | ⟨-, -, p0⟩
      · rw [hk] at h0
        exact absurd h0 (by decide)
      · have z := E (a + 0) (b + 1) (d + 0) (by omega) (by omega) (by omega) (by omega) (by omega) (by omega)
        rw [show 121 * (a + 0) + 11 * (b + 1) + (d + 0) = 121 * a + 11 * b + d + 11 by omega] at z
        exact z
    constructor
    · rintro ⟨h0, h1⟩
      exact ⟨h0, by rw [← nx h0, ← ec]; exact h1⟩
    · rintro ⟨h0, h1⟩
      exact ⟨h0, by rw [nx h0, ec]; exact h1⟩
  have h6 : (0 ≤ rc f g 4 a b d ∧ j (121 * a + 11 * b + d + 1) = some ((j (121 * a + 11 * b + d)).getD 0 - rc f g 4 a b d)) ↔ (0 ≤ rc f g 4 a b d ∧ j' (121 * a + 11 * b + d + 1) = some ((j' (121 * a + 11 * b + d)).getD 0 - rc f g 4 a b d)) := by
    have nx : 0 ≤ rc f g 4 a b d → j (121 * a + 11 * b + d + 1) = j' (121 * a + 11 * b + d + 1) := fun h0 => by
      rcases rcb4 (f := f) (a := a) (b := b) (d := d) k0 k1 k2 with hk | ⟨-, -, p0⟩
      · rw [hk] at h0
        exact absurd h0 (by decide)
      · have z := E (a + 0) (b + 0) (d + 1) (by omega) (by omega) (by omega) (by omega) (by omega) (by omega)
        rw [show 121 * (a + 0) + 11 * (b + 0) + (d + 1) = 121 * a + 11 * b + d + 1 by omega] at z
        exact z
    constructor
    · rintro ⟨h0, h1⟩
      exact ⟨h0, by rw [← nx h0, ← ec]; exact h1⟩
    · rintro ⟨h0, h1⟩
      exact ⟨h0, by rw [nx h0, ec]; exact h1⟩
  unfold wk_t
  by_cases c0 : (0 ≤ rc f g 7 a b d ∧ j (121 * a + 11 * b + d + 133) = some ((j (121 * a + 11 * b + d)).getD 0 - rc f g 7 a b d))
  · rw [if_pos c0, if_pos (h0.mp c0)]
  rw [if_neg c0, if_neg (fun z => c0 (h0.mpr z))]
  by_cases c1 : (0 ≤ rc f g 3 a b d ∧ j (121 * a + 11 * b + d + 132) = some ((j (121 * a + 11 * b + d)).getD 0 - rc f g 3 a b d))
  · rw [if_pos c1, if_pos (h1.mp c1)]
  rw [if_neg c1, if_neg (fun z => c1 (h1.mpr z))]
  by_cases c2 : (0 ≤ rc f g 5 a b d ∧ j (121 * a + 11 * b + d + 122) = some ((j (121 * a + 11 * b + d)).getD 0 - rc f g 5 a b d))
  · rw [if_pos c2, if_pos (h2.mp c2)]
  rw [if_neg c2, if_neg (fun z => c2 (h2.mpr z))]
  by_cases c3 : (0 ≤ rc f g 6 a b d ∧ j (121 * a + 11 * b + d + 12) = some ((j (121 * a + 11 * b + d)).getD 0 - rc f g 6 a b d))
  · rw [if_pos c3, if_pos (h3.mp c3)]
  rw [if_neg c3, if_neg (fun z => c3 (h3.mpr z))]
  by_cases c4 : (0 ≤ rc f g 1 a b d ∧ j (121 * a + 11 * b + d + 121) = some ((j (121 * a + 11 * b + d)).getD 0 - rc f g 1 a b d))
  · rw [if_pos c4, if_pos (h4.mp c4)]
  rw [if_neg c4, if_neg (fun z => c4 (h4.mpr z))]
  by_cases c5 : (0 ≤ rc f g 2 a b d ∧ j (121 * a + 11 * b + d + 11) = some ((j (121 * a + 11 * b + d)).getD 0 - rc f g 2 a b d))
  · rw [if_pos c5, if_pos (h5.mp c5)]
  rw [if_neg c5, if_neg (fun z => c5 (h5.mpr z))]
  by_cases c6 : (0 ≤ rc f g 4 a b d ∧ j (121 * a + 11 * b + d + 1) = some ((j (121 * a + 11 * b + d)).getD 0 - rc f g 4 a b d))
  · rw [if_pos c6, if_pos (h6.mp c6)]
  rw [if_neg c6, if_neg (fun z => c6 (h6.mpr z))]
theorem wk_u_eq {R R' : Int → Option Int} {n x y z : Int} (H : ∀ k, 0 ≤ k → k < 3 * n → R k = R' k) : ∀ k, 0 ≤ k → k < 3 * (n + 1) → wk_u R n x y z k = wk_u R' n x y z k := by
  intro k h0 h1
  show hp_upd (hp_upd (hp_upd R (3 * n) x) (3 * n + 1) y) (3 * n + 2) z k = hp_upd (hp_upd (hp_upd R' (3 * n) x) (3 * n + 1) y) (3 * n + 2) z k
  by_cases e2 : k = 3 * n + 2
  · exact (hp_upd_eq e2).trans (hp_upd_eq e2).symm
  refine (hp_upd_ne e2).trans (Eq.trans ?_ (hp_upd_ne e2).symm)
  by_cases e1 : k = 3 * n + 1
  · exact (hp_upd_eq e1).trans (hp_upd_eq e1).symm
  refine (hp_upd_ne e1).trans (Eq.trans ?_ (hp_upd_ne e1).symm)
  by_cases e0 : k = 3 * n
  · exact (hp_upd_eq e0).trans (hp_upd_eq e0).symm
  refine (hp_upd_ne e0).trans (Eq.trans ?_ (hp_upd_ne e0).symm)
  exact H k h0 (by omega)
theorem wk_eq {f g j j' : Int → Option Int} {ma mb md : Int} (k0 : g 0 = some ma) (k1 : g 1 = some mb) (k2 : g 2 = some md) (E : ∀ a b d, 0 ≤ a → a ≤ ma → 0 ≤ b → b ≤ mb → 0 ≤ d → d ≤ md → j (121 * a + 11 * b + d) = j' (121 * a + 11 * b + d)) : ∀ (N : Nat) (a b d n : Int) (R R' : Int → Option Int), 0 ≤ a → a ≤ ma → 0 ≤ b → b ≤ mb → 0 ≤ d → d ≤ md → (∀ k, 0 ≤ k → k < 3 * n → R k = R' k) → (wk f g j N a b d n R).1 = (wk f g j' N a b d n R').1 ∧ ∀ k, 0 ≤ k → k < 3 * (wk f g j N a b d n R).1 → (wk f g j N a b d n R).2 k = (wk f g j' N a b d n R').2 k := by
  intro N
  induction N with
  | zero => intro a b d n R R' _ _ _ _ _ _ H; exact ⟨rfl, H⟩
  | succ N ih =>
    intro a b d n R R' a0 a1 b0 b1 d0 d1 H
    have et := wk_t_eq (f := f) (a := a) (b := b) (d := d) k0 k1 k2 a0 a1 b0 b1 d0 d1 E
    rcases wk_t_or (f := f) (g := g) (j := j) (a := a) (b := b) (d := d) with h | h | h | h | h | h | h | h
    · rw [wk_stop h, wk_stop (et.symm.trans h)]
      exact ⟨rfl, H⟩
    · rcases rcb7 (f := f) (a := a) (b := b) (d := d) k0 k1 k2 with hk | ⟨-, -, ⟨p0, p1, p2⟩⟩
      · have := h.2
        rw [hk] at this
        exact absurd this (by decide)
      · rw [wk_go7 h.1, wk_go7 (et.symm.trans h.1)]
        exact ih _ _ _ _ _ _ (by omega) (by omega) (by omega) (by omega) (by omega) (by omega) (wk_u_eq H)
    · rcases rcb3 (f := f) (a := a) (b := b) (d := d) k0 k1 k2 with hk | ⟨-, -, ⟨p0, p1⟩⟩
      · have := h.2
        rw [hk] at this
        exact absurd this (by decide)
      · rw [wk_go3 h.1, wk_go3 (et.symm.trans h.1)]
        exact ih _ _ _ _ _ _ (by omega) (by omega) (by omega) (by omega) (by omega) (by omega) (wk_u_eq H)
    · rcases rcb5 (f := f) (a := a) (b := b) (d := d) k0 k1 k2 with hk | ⟨-, -, ⟨p0, p1⟩⟩
      · have := h.2
        rw [hk] at this
        exact absurd this (by decide)
      · rw [wk_go5 h.1, wk_go5 (et.symm.trans h.1)]
        exact ih _ _ _ _ _ _ (by omega) (by omega) (by omega) (by omega) (by omega) (by omega) (wk_u_eq H)
    · rcases rcb6 (f := f) (a := a) (b := b) (d := d) k0 k1 k2 with hk | ⟨-, -, ⟨p0, p1⟩⟩
      · have := h.2
        rw [hk] at this
        exact absurd this (by decide)
      · rw [wk_go6 h.1, wk_go6 (et.symm.trans h.1)]
        exact ih _ _ _ _ _ _ (by omega) (by omega) (by omega) (by omega) (by omega) (by omega) (wk_u_eq H)
    · rcases rcb1 (f := f) (a := a) (b := b) (d := d) k0 k1 k2 with hk | ⟨-, -, p0⟩
      · have := h.2
        rw [hk] at this
        exact absurd this (by decide)
      · rw [wk_go1 h.1, wk_go1 (et.symm.trans h.1)]
        exact ih _ _ _ _ _ _ (by omega) (by omega) (by omega) (by omega) (by omega) (by omega) (wk_u_eq H)
    · rcases rcb2 (f := f) (a := a) (b := b) (d := d) k0 k1 k2 with hk | ⟨-, -, p0⟩
      · have := h.2
        rw [hk] at this
        exact absurd this (by decide)
      · rw [wk_go2 h.1, wk_go2 (et.symm.trans h.1)]
        exact ih _ _ _ _ _ _ (by omega) (by omega) (by omega) (by omega) (by omega) (by omega) (wk_u_eq H)
    · rcases rcb4 (f := f) (a := a) (b := b) (d := d) k0 k1 k2 with hk | ⟨-, -, p0⟩
      · have := h.2
        rw [hk] at this
        exact absurd this (by decide)
      · rw [wk_go4 h.1, wk_go4 (et.symm.trans h.1)]
        exact ih _ _ _ _ _ _ (by omega) (by omega) (by omega) (by omega) (by omega) (by omega) (wk_u_eq H)
theorem ju_Fn0 {f g j : Int → Option Int} {a b d e : Int} (F : ju_F f g j a b d e 0) (new : ju_N f g j a b d e 7 133) : ju_F f g j a b d e 1 := ⟨fun _ => new, fun t => absurd t (by omega), fun t => absurd t (by omega), fun t => absurd t (by omega), fun t => absurd t (by omega), fun t => absurd t (by omega), fun t => absurd t (by omega)⟩
theorem ju_Fn1 {f g j : Int → Option Int} {a b d e : Int} (F : ju_F f g j a b d e 1) (new : ju_N f g j a b d e 3 132) : ju_F f g j a b d e 2 := ⟨fun _ => F.1 (by decide), fun _ => new, fun t => absurd t (by omega), fun t => absurd t (by omega), fun t => absurd t (by omega), fun t => absurd t (by omega), fun t => absurd t (by omega)⟩
theorem ju_Fn2 {f g j : Int → Option Int} {a b d e : Int} (F : ju_F f g j a b d e 2) (new : ju_N f g j a b d e 5 122) : ju_F f g j a b d e 3 := ⟨fun _ => F.1 (by decide), fun _ => F.2.1 (by decide), fun _ => new, fun t => absurd t (by omega), fun t => absurd t (by omega), fun t => absurd t (by omega), fun t => absurd t (by omega)⟩
theorem ju_Fn3 {f g j : Int → Option Int} {a b d e : Int} (F : ju_F f g j a b d e 3) (new : ju_N f g j a b d e 6 12) : ju_F f g j a b d e 4 := ⟨fun _ => F.1 (by decide), fun _ => F.2.1 (by decide), fun _ => F.2.2.1 (by decide), fun _ => new, fun t => absurd t (by omega), fun t => absurd t (by omega), fun t => absurd t (by omega)⟩
theorem ju_Fn4 {f g j : Int → Option Int} {a b d e : Int} (F : ju_F f g j a b d e 4) (new : ju_N f g j a b d e 1 121) : ju_F f g j a b d e 5 := ⟨fun _ => F.1 (by decide), fun _ => F.2.1 (by decide), fun _ => F.2.2.1 (by decide), fun _ => F.2.2.2.1 (by decide), fun _ => new, fun t => absurd t (by omega), fun t => absurd t (by omega)⟩
theorem ju_Fn5 {f g j : Int → Option Int} {a b d e : Int} (F : ju_F f g j a b d e 5) (new : ju_N f g j a b d e 2 11) : ju_F f g j a b d e 6 := ⟨fun _ => F.1 (by decide), fun _ => F.2.1 (by decide), fun _ => F.2.2.1 (by decide), fun _ => F.2.2.2.1 (by decide), fun _ => F.2.2.2.2.1 (by decide), fun _ => new, fun t => absurd t (by omega)⟩
theorem ju_Fn6 {f g j : Int → Option Int} {a b d e : Int} (F : ju_F f g j a b d e 6) (new : ju_N f g j a b d e 4 1) : ju_F f g j a b d e 7 := ⟨fun _ => F.1 (by decide), fun _ => F.2.1 (by decide), fun _ => F.2.2.1 (by decide), fun _ => F.2.2.2.1 (by decide), fun _ => F.2.2.2.2.1 (by decide), fun _ => F.2.2.2.2.2.1 (by decide), fun _ => new⟩
/-- whether two of a row's lines are one -/
def sr (F : Int → Option Int) (x y z : Int) : Int := if (x ≠ -1 ∧ y ≠ -1 ∧ F x = F (y + 10)) ∨ (x ≠ -1 ∧ z ≠ -1 ∧ F x = F (z + 20)) ∨ (y ≠ -1 ∧ z ≠ -1 ∧ F (y + 10) = F (z + 20)) then 1 else 0
theorem th_RW : ly_ths ly_TH 174 = some (.inl (.int, 90, -2147483648, 2147483647)) := rfl
theorem hRW {cst : am_K} {h h' : am_H} {ms : List Nat} (hm : ly_has 44544 ms = false) (hy : ly_hy m_tt ly_TH h) (hy' : ly_hy m_tt ly_TH h') (fr : ly_fr cst ms h h') : ly_hv cst h' 44544 = ly_hv cst h 44544 := hp_same th_RW hm hy hy' fr
theorem th_RS : ly_ths ly_TH 175 = some (.inl (.boolean, 30, 0, 1)) := rfl
theorem hp_stz {cst : am_K} {strs : List Nat} {Φ : am_Q → Prop} {D mi pc : Nat} {M : am_M} {l : am_L} {st : List Value} {h : am_H} {c n : Nat} {lo hi : Int} {x i : Int32} (hM : m_P[mi]? = some M) (hI : hp_isBs mi pc = true) (hy : ly_hy m_tt ly_TH h) (ht : ly_ths ly_TH c = some (.inl (.boolean, n, lo, hi))) (hg : ly_dg (256 * c) = []) (h0 : 0 ≤ i.toInt) (h1 : i.toInt < (n : Int)) (v0 : lo ≤ (vp_nar .boolean x).toInt) (v1 : (vp_nar .boolean x).toInt ≤ hi)
    (k : ∀ h', ly_hy m_tt ly_TH h' → h'.length = h.length → hp_put cst (256 * c) i.toInt (vp_nar .boolean x).toInt h h' → hp_F cst strs Φ D M (pc + 1) l st h') : hp_F cst strs Φ D M pc l (.int x :: .int i :: .ref (16 + c) :: st) h := by
  have hc := ly_ths_lt ht
  obtain ⟨xc, hx, cc, rfl, f, rfl, hf⟩ := hy.2.1 _ _ ht
  unfold hp_isBs at hI
  split at hI
  case h_2 => cases hI
  rename_i m hm
  rw [Bool.and_eq_true, sx_beqn] at hI
  obtain ⟨c0, hI⟩ := hI
  split at hI
  case h_2 => cases hI
  rename_i X hX
  obtain ⟨M', hM', hmok, -⟩ := sx_tok_m mi m hm c0
  rw [hM] at hM'
  cases hM'
  have hfind := hmok.2.2 _ _ hX
  have en : i.toNatClampNeg = i.toInt.toNat := rfl
  have hlt : ¬ (i < 0 ∨ n ≤ i.toNatClampNeg) := by
    rintro (q | q)
    · have := Int32.lt_iff_toInt_lt.mp q
      have z : (0 : Int32).toInt = 0 := rfl
      omega
    · omega
  have hs : am_s cst m_cl m_tt .bastore X pc l (.int x :: .int i :: .ref (16 + c) :: st) h = some (pc + 1, l, st, h.set c (.inl (.boolean, n, .inl (upd f i.toNatClampNeg (vp_nar .boolean x))))) := by
    have e16 : 16 + c - 16 = c := by omega
    have g16 : ¬ 16 + c < 16 := by omega
    simp only [am_s, if_neg g16, e16, hx, if_neg hlt]
  have up : ∀ j, upd f i.toNatClampNeg (vp_nar .boolean x) j = if j = i.toNatClampNeg then vp_nar .boolean x else f j := fun j => rfl
  refine sx_Fin_step rfl (fun n r hgo => ⟨_, X, hfind, Or.inl ⟨_, hs, hgo⟩⟩) (k _ (ly_hy_set1 hy hc fun t ht' => ?_) (by rw [List.length_set]) (hp_put_of (n := n) hg hc hx ?_ ?_))
  · rw [ht] at ht'
    cases ht'
    refine ⟨_, rfl, _, rfl, fun j hj => ?_⟩
    rw [up]
    by_cases ej : j = i.toNatClampNeg
    · rw [if_pos ej]; exact ⟨v0, v1⟩
    · rw [if_neg ej]; exact hf j hj
  · simp only [ly_hs]
    rw [if_pos ⟨trivial, h0, by omega⟩, up, if_pos (by omega)]
  · intro k i' hne
    simp only [ly_hs]
    by_cases hk : k = 0 ∧ 0 ≤ i' ∧ i'.toNat < n
    · rw [if_pos hk, if_pos hk, up, if_neg]
      have := hne.resolve_left (fun q => q hk.1)
      omega
    · rw [if_neg hk, if_neg hk]
theorem vz_0 {x : Int32} (h : x.toInt = 0) : (vp_nar .boolean x).toInt = 0 := by
  have : x = 0 := Int32.toInt_inj.mp h
  subst this
  rfl
theorem vz_1 {x : Int32} (h : x.toInt = 1) : (vp_nar .boolean x).toInt = 1 := by
  have : x = 1 := Int32.toInt_inj.mp h
  subst this
  rfl
def js_S (cst : am_K) (F : Int → Option Int) (h : am_H) (n : Int) : Prop := ∀ i, 0 ≤ i → i < n → ∃ x y z, ly_hv cst h 44544 (3 * i) = some x ∧ ly_hv cst h 44544 (3 * i + 1) = some y ∧ ly_hv cst h 44544 (3 * i + 2) = some z ∧ ly_hv cst h 44800 i = some (sr F x y z)
theorem js_mv {cst : am_K} {F : Int → Option Int} {h h' : am_H} {n : Int} {ms : List Nat} (S : js_S cst F h n) (f : ly_fr cst ms h h') (q1 : ly_has 44544 ms = false) (q2 : ly_has 44800 ms = false) : js_S cst F h' n := fun i i0 i1 => by
  obtain ⟨x, y, z, e1, e2, e3, e4⟩ := S i i0 i1
  exact ⟨x, y, z, f _ _ _ q1 e1, f _ _ _ q1 e2, f _ _ _ q1 e3, f _ _ _ q2 e4⟩
theorem js_pR {cst : am_K} {F : Int → Option Int} {h h' : am_H} {n k v : Int} (S : js_S cst F h n) (p : hp_put cst 44544 k v h h') (hk : 3 * n ≤ k) : js_S cst F h' n := fun i i0 i1 => by
  obtain ⟨x, y, z, e1, e2, e3, e4⟩ := S i i0 i1
  refine ⟨x, y, z, ?_, ?_, ?_, ?_⟩
  · rw [p.2 44544 (3 * i) (Or.inr (by omega))]; exact e1
  · rw [p.2 44544 (3 * i + 1) (Or.inr (by omega))]; exact e2
  · rw [p.2 44544 (3 * i + 2) (Or.inr (by omega))]; exact e3
  · rw [p.2 44800 i (Or.inl (by decide))]; exact e4
theorem js_pS {cst : am_K} {F : Int → Option Int} {h h' : am_H} {n v x y z : Int} (S : js_S cst F h n) (p : hp_put cst 44800 n v h h') (e1 : ly_hv cst h 44544 (3 * n) = some x) (e2 : ly_hv cst h 44544 (3 * n + 1) = some y) (e3 : ly_hv cst h 44544 (3 * n + 2) = some z) (ev : v = sr F x y z) : js_S cst F h' (n + 1) := fun i i0 i1 => by
  by_cases q : i = n
  · subst q
    refine ⟨x, y, z, ?_, ?_, ?_, ?_⟩
    · rw [p.2 44544 (3 * i) (Or.inl (by decide))]; exact e1
    · rw [p.2 44544 (3 * i + 1) (Or.inl (by decide))]; exact e2
    · rw [p.2 44544 (3 * i + 2) (Or.inl (by decide))]; exact e3
    · rw [← ev]; exact p.1
  · obtain ⟨x', y', z', g1, g2, g3, g4⟩ := S i i0 (by omega)
    refine ⟨x', y', z', ?_, ?_, ?_, ?_⟩
    · rw [p.2 44544 (3 * i) (Or.inl (by decide))]; exact g1
    · rw [p.2 44544 (3 * i + 1) (Or.inl (by decide))]; exact g2
    · rw [p.2 44544 (3 * i + 2) (Or.inl (by decide))]; exact g3
    · rw [p.2 44800 i (Or.inr q)]; exact g4
theorem hp_fr0 {cst : am_K} {a b : am_H} {ms : List Nat} (f : ly_fr cst [] a b) : ly_fr cst ms a b := fun r i v _ e => f r i v rfl e
abbrev js_mods : List Nat := [20104, 44544, 44800]
section JS
variable {cst : am_K} {strs : List Nat} {D : Nat} {M : am_M} {h1 : am_H} {ma mb md : Int} {Φ : am_Q → Prop} {N : Nat} {W : Int × (Int → Option Int)}
theorem je0 (c1 : hp_C cst strs D) (c : hp_C cst strs (D + 1)) (hM : m_P[411]? = some M) (hD : (5 : Int) ≤ ((D + 1 : Nat) : Int) + 1) (A0 : 0 ≤ ma) (A1 : ma ≤ 10) (B0 : 0 ≤ mb) (B1 : mb ≤ 10) (D0 : 0 ≤ md) (D1 : md ≤ 10) (hy1 : ly_hy m_tt ly_TH h1) (k0 : ly_hv cst h1 44288 0 = some ma) (k1 : ly_hv cst h1 44288 1 = some mb) (k2 : ly_hv cst h1 44288 2 = some md) (LP : ∀ k v, ly_hv cst h1 44032 k = some v → 0 ≤ v) {a b d n y : Int} (a0 : 0 ≤ a) (a1 : a ≤ ma) (b0 : 0 ≤ b) (b1 : b ≤ mb) (d0 : 0 ≤ d) (d1 : d ≤ md) (val : a < ma ∧ b < mb ∧ d < md) (n0 : 0 ≤ n) (n1 : n ≤ a + b + d) (yy0 : 0 ≤ y) (yy1 : y ≤ 360) (ih : ∀ (h : am_H) (l : am_L) (a' b' d' n' : Int), a' + b' + d' > a + b + d → 0 ≤ a' → a' ≤ ma → 0 ≤ b' → b' ≤ mb → 0 ≤ d' → d' ≤ md → n' ≤ a' + b' + d' → 0 ≤ n' → ly_hy m_tt ly_TH h → ly_fr cst js_mods h1 h → h1.length ≤ h.length → ly_hv cst h 20104 0 = some n' → wk (ly_hv cst h1 44032) (ly_hv cst h1 44288) (ly_hv cst h1 45056) N a' b' d' n' (ly_hv cst h 44544) = W → js_S cst (ly_hv cst h1 44032) h n' → hp_a l 0 94 → hp_i l 1 a' → hp_i l 2 b' → hp_i l 3 d' → hp_F cst strs Φ (D + 1) M 216 l [] h) (h : am_H) (l : am_L) (x' : Int32) (kk0 : 0 ≤ x'.toInt) (kk1 : x'.toInt ≤ 12) (hy : ly_hy m_tt ly_TH h) (fr : ly_fr cst js_mods h1 h) (len : h1.length ≤ h.length) (hn : ly_hv cst h 20104 0 = some n) (hyv : ly_hv cst h1 45056 (121 * a + 11 * b + d + 133) = some y) (hxv : ly_hv cst h1 45056 (121 * a + 11 * b + d) = some (x'.toInt + y)) (hW : wk (ly_hv cst h1 44032) (ly_hv cst h1 44288) (ly_hv cst h1 45056) N (a + 1) (b + 1) (d + 1) (n + 1) (wk_u (ly_hv cst h 44544) n a b d) = W) (S : js_S cst (ly_hv cst h1 44032) h n) (l0 : hp_a l 0 94) (l1 : hp_i l 1 a) (l2 : hp_i l 2 b) (l3 : hp_i l 3 d) (l4 : hp_i l 4 0) (l5 : hp_i l 5 0) (l6 : hp_i l 6 7) : hp_F cst strs Φ (D + 1) M 286 l [.int x'] h := by
  obtain ⟨u, hu, -, uh⟩ := hp_row (cst := cst) (i := a) hy1 th_RL (by omega) (by omega)
  have ul := LP _ _ hu
  obtain ⟨v, hv, -, vh⟩ := hp_row (cst := cst) (i := b + 10) hy1 th_RL (by omega) (by omega)
  have vl := LP _ _ hv
  obtain ⟨w, hw, -, wh⟩ := hp_row (cst := cst) (i := d + 20) hy1 th_RL (by omega) (by omega)
  have wl := LP _ _ hw
  refine jx0_1 c hM (by omega) hy a b d ma mb md x'.toInt y n u v w x' rfl a0 (by omega) b0 (by omega) d0 (by omega) A0 A1 B0 B1 D0 D1 kk0 kk1 yy0 yy1 n0 (by omega) ul uh vl vh wl wh (by omega) (by omega) (by omega) (fr _ _ _ rfl k0) (fr _ _ _ rfl k1) (fr _ _ _ rfl k2) (fr _ _ _ rfl hyv) (fr _ _ _ rfl hxv) hn (fr _ _ _ rfl hu) (fr _ _ _ rfl hv) (fr _ _ _ rfl hw) l0 l1 l2 l3 l4 l5 l6 (fun la ha y0 y1 f0 f1 a1' a2' a3' an v0 v1 v2 v3 v4 v5 v6 v7 => ?_)
  refine hp_st (c := 174) hM (by decide +kernel) a1' th_RW rfl (by omega) (by omega) (by omega) (by omega) (fun hb b1' b2' b3' => ?_)
  rw [f0, f1] at b3'
  have Sb := js_pR (js_mv S a2' rfl rfl) b3' (Int.le_refl _)
  have bn : ly_hv cst hb 20104 0 = some n := by rw [hp_put_ne (r' := 20104) b3' (by decide)]; exact an
  have Rb := (hp_put_eq b3').trans (hp_upd_c (hRW rfl hy a1' a2') rfl rfl)
  refine jx0_2 c hM (by omega) b1' a b d n u v w a0 (by omega) b0 (by omega) d0 (by omega) n0 (by omega) ul uh vl vh wl wh bn v0 v1 v2 v3 v4 v5 v6 v7 (fun lb hc y2 y3 f2 f3 c1' c2' c3' cn w0 w1 w2 w3 w4 w5 w6 w7 => ?_)
  refine hp_st (c := 174) hM (by decide +kernel) c1' th_RW rfl (by omega) (by omega) (by omega) (by omega) (fun hd d1' d2' d3' => ?_)
  rw [f2, f3] at d3'
  have Sd := js_pR (js_mv Sb c2' rfl rfl) d3' (by omega)
  have dn : ly_hv cst hd 20104 0 = some n := by rw [hp_put_ne (r' := 20104) d3' (by decide)]; exact cn
  have Rd := (hp_put_eq d3').trans (hp_upd_c ((hRW rfl b1' c1' c2').trans Rb) rfl rfl)
  refine jx0_3 c hM (by omega) d1' a b d n u v w a0 (by omega) b0 (by omega) d0 (by omega) n0 (by omega) ul uh vl vh wl wh dn w0 w1 w2 w3 w4 w5 w6 w7 (fun lc he y4 y5 f4 f5 e1' e2' e3' en z0 z1 z2 z3 z4 z5 z6 z7 => ?_)
  refine hp_st (c := 174) hM (by decide +kernel) e1' th_RW rfl (by omega) (by omega) (by omega) (by omega) (fun hf g1' g2' g3' => ?_)
  rw [f4, f5] at g3'
  have Sf := js_pR (js_mv Sd e2' rfl rfl) g3' (by omega)
  have fn : ly_hv cst hf 20104 0 = some n := by rw [hp_put_ne (r' := 20104) g3' (by decide)]; exact en
  have Rf : ly_hv cst hf 44544 = wk_u (ly_hv cst h 44544) n a b d := (hp_put_eq g3').trans (hp_upd_c ((hRW rfl d1' e1' e2').trans Rd) rfl rfl)
  have ff : ly_fr cst js_mods h1 hf := ly_fr_tr fr (ly_fr_tr (hp_fr0 a2') (ly_fr_tr (hp_put_fr (by rfl) b3') (ly_fr_tr (hp_fr0 c2') (ly_fr_tr (hp_put_fr (by rfl) d3') (ly_fr_tr (hp_fr0 e2') (hp_put_fr (by rfl) g3'))))))
  have lf : h1.length ≤ hf.length := by omega
  have r0 : ly_hv cst hf 44544 (3 * n) = some a := by rw [Rf]; exact (hp_upd_ne (by omega)).trans ((hp_upd_ne (by omega)).trans (hp_upd_eq rfl))
  have r1 : ly_hv cst hf 44544 (3 * n + 1) = some b := by rw [Rf]; exact (hp_upd_ne (by omega)).trans (hp_upd_eq rfl)
  have r2 : ly_hv cst hf 44544 (3 * n + 2) = some d := by rw [Rf]; exact hp_upd_eq rfl
  have last : ∀ (ld : am_L) (hg : am_H) (yv yi : Int32), ly_hy m_tt ly_TH hg → ly_fr cst [] hf hg → hf.length ≤ hg.length → ly_hv cst hg 20104 0 = some n → yi.toInt = n → (vp_nar .boolean yv).toInt = sr (ly_hv cst h1 44032) a b d → 0 ≤ (vp_nar .boolean yv).toInt → (vp_nar .boolean yv).toInt ≤ 1 → hp_a ld 0 94 → hp_i ld 1 a → hp_i ld 2 b → hp_i ld 3 d → hp_i ld 4 7 → hp_F cst strs Φ (D + 1) M 539 ld [.int yv, .int yi, .ref 191] hg := by
    intro ld hg yv yi q1 q2 q3 q4 q5 q6 q7 q8 t0 t1 t2 t3 t4
    refine hp_stz (c := 175) hM (by decide +kernel) q1 th_RS rfl (by omega) (by omega) q7 q8 (fun hh s1 s2 s3 => ?_)
    rw [q5] at s3
    have hn' : ly_hv cst hh 20104 0 = some n := by rw [hp_put_ne (r' := 20104) s3 (by decide)]; exact q4
    have Sh := js_pS (js_mv Sf q2 rfl rfl) s3 (q2 _ _ _ rfl r0) (q2 _ _ _ rfl r1) (q2 _ _ _ rfl r2) q6
    exact jx0_5 c hM (by omega) s1 a b d ma mb md n a0 (by omega) b0 (by omega) d0 (by omega) A0 A1 B0 B1 D0 D1 n0 (by omega) (by omega) (by omega) (by omega) hn' t0 t1 t2 t3 t4 (fun le hi i1 i2 i3 ni o0 o1 o2 o3 => ih hi le (a + 1) (b + 1) (d + 1) (n + 1) (by omega) (by omega) (by omega) (by omega) (by omega) (by omega) (by omega) (by omega) (by omega) i1 (ly_fr_tr ff (ly_fr_tr (hp_fr0 q2) (ly_fr_tr (hp_put_fr (by rfl) s3) (hp_sub2 rfl i2)))) (by omega) ni (by rw [hRW rfl s1 i1 i2, hp_put_ne (r' := 44544) s3 (by decide), hRW rfl g1' q1 q2, Rf]; exact hW) (js_mv Sh i2 rfl rfl) o0 o1 o2 o3)
  by_cases e : u = v
  · exact jx0_4e c hM (by omega) g1' a b d n u w a0 (by omega) b0 (by omega) d0 (by omega) n0 (by omega) ul uh wl wh fn  z0 z1 z2 z3 z4 z5 (by rw [e]; exact z6) z7 (fun ld hg yv yi fv fi q1 q2 q3 q4 t0 t1 t2 t3 t4 => last ld hg yv yi q1 q2 q3 q4 fi (by rw [vz_1 fv, show sr (ly_hv cst h1 44032) a b d = 1 from by unfold sr; rw [if_pos (Or.inl ⟨by omega, by omega, by rw [show ly_hv cst h1 44032 a = some u from hu, show ly_hv cst h1 44032 (b + 10) = some v from hv, e]⟩)]]) (by rw [vz_1 fv]; decide) (by rw [vz_1 fv]; decide) t0 t1 t2 t3 t4)
  by_cases e2 : u = w
  · exact jx0_4f c hM (by omega) g1' a b d n u v a0 (by omega) b0 (by omega) d0 (by omega) n0 (by omega) ul uh vl vh fn (hp_ne (by omega)) z0 z1 z2 z3 z4 z5 z6 (by rw [e2]; exact z7) (fun ld hg yv yi fv fi q1 q2 q3 q4 t0 t1 t2 t3 t4 => last ld hg yv yi q1 q2 q3 q4 fi (by rw [vz_1 fv, show sr (ly_hv cst h1 44032) a b d = 1 from by unfold sr; rw [if_pos (Or.inr (Or.inl ⟨by omega, by omega, by rw [show ly_hv cst h1 44032 a = some u from hu, show ly_hv cst h1 44032 (d + 20) = some w from hw, e2]⟩))]]) (by rw [vz_1 fv]; decide) (by rw [vz_1 fv]; decide) t0 t1 t2 t3 t4)
  by_cases e3 : v = w
  · exact jx0_4g c hM (by omega) g1' a b d n u v a0 (by omega) b0 (by omega) d0 (by omega) n0 (by omega) ul uh vl vh fn (hp_ne (by omega)) z0 z1 z2 z3 z4 z5 z6 (by rw [e3]; exact z7) (fun ld hg yv yi fv fi q1 q2 q3 q4 t0 t1 t2 t3 t4 => last ld hg yv yi q1 q2 q3 q4 fi (by rw [vz_1 fv, show sr (ly_hv cst h1 44032) a b d = 1 from by unfold sr; rw [if_pos (Or.inr (Or.inr ⟨by omega, by omega, by rw [show ly_hv cst h1 44032 (b + 10) = some v from hv, show ly_hv cst h1 44032 (d + 20) = some w from hw, e3]⟩))]]) (by rw [vz_1 fv]; decide) (by rw [vz_1 fv]; decide) t0 t1 t2 t3 t4)
  exact jx0_4n c hM (by omega) g1' a b d n u v w a0 (by omega) b0 (by omega) d0 (by omega) n0 (by omega) ul uh vl vh wl wh fn (hp_ne (by omega)) (hp_ne (by omega)) (hp_ne (by omega)) z0 z1 z2 z3 z4 z5 z6 z7 (fun ld hg yv yi fv fi q1 q2 q3 q4 t0 t1 t2 t3 t4 => last ld hg yv yi q1 q2 q3 q4 fi (by rw [vz_0 fv, show sr (ly_hv cst h1 44032) a b d = 0 from by unfold sr; rw [if_neg (by exact fun k => by rcases k with k | k | k; exact e (Option.some.inj ((show ly_hv cst h1 44032 a = some u from hu).symm.trans (k.2.2.trans hv))); exact e2 (Option.some.inj ((show ly_hv cst h1 44032 a = some u from hu).symm.trans (k.2.2.trans hw))); exact e3 (Option.some.inj ((show ly_hv cst h1 44032 (b + 10) = some v from hv).symm.trans (k.2.2.trans hw))))]]) (by rw [vz_0 fv]; decide) (by rw [vz_0 fv]; decide) t0 t1 t2 t3 t4)
theorem je1 (c1 : hp_C cst strs D) (c : hp_C cst strs (D + 1)) (hM : m_P[411]? = some M) (hD : (5 : Int) ≤ ((D + 1 : Nat) : Int) + 1) (A0 : 0 ≤ ma) (A1 : ma ≤ 10) (B0 : 0 ≤ mb) (B1 : mb ≤ 10) (D0 : 0 ≤ md) (D1 : md ≤ 10) (hy1 : ly_hy m_tt ly_TH h1) (k0 : ly_hv cst h1 44288 0 = some ma) (k1 : ly_hv cst h1 44288 1 = some mb) (k2 : ly_hv cst h1 44288 2 = some md) (LP : ∀ k v, ly_hv cst h1 44032 k = some v → 0 ≤ v) {a b d n y : Int} (a0 : 0 ≤ a) (a1 : a ≤ ma) (b0 : 0 ≤ b) (b1 : b ≤ mb) (d0 : 0 ≤ d) (d1 : d ≤ md) (val : a < ma ∧ b < mb) (n0 : 0 ≤ n) (n1 : n ≤ a + b + d) (yy0 : 0 ≤ y) (yy1 : y ≤ 360) (ih : ∀ (h : am_H) (l : am_L) (a' b' d' n' : Int), a' + b' + d' > a + b + d → 0 ≤ a' → a' ≤ ma → 0 ≤ b' → b' ≤ mb → 0 ≤ d' → d' ≤ md → n' ≤ a' + b' + d' → 0 ≤ n' → ly_hy m_tt ly_TH h → ly_fr cst js_mods h1 h → h1.length ≤ h.length → ly_hv cst h 20104 0 = some n' → wk (ly_hv cst h1 44032) (ly_hv cst h1 44288) (ly_hv cst h1 45056) N a' b' d' n' (ly_hv cst h 44544) = W → js_S cst (ly_hv cst h1 44032) h n' → hp_a l 0 94 → hp_i l 1 a' → hp_i l 2 b' → hp_i l 3 d' → hp_F cst strs Φ (D + 1) M 216 l [] h) (h : am_H) (l : am_L) (x' : Int32) (kk0 : 0 ≤ x'.toInt) (kk1 : x'.toInt ≤ 12) (hy : ly_hy m_tt ly_TH h) (fr : ly_fr cst js_mods h1 h) (len : h1.length ≤ h.length) (hn : ly_hv cst h 20104 0 = some n) (hyv : ly_hv cst h1 45056 (121 * a + 11 * b + d + 132) = some y) (hxv : ly_hv cst h1 45056 (121 * a + 11 * b + d) = some (x'.toInt + y)) (hW : wk (ly_hv cst h1 44032) (ly_hv cst h1 44288) (ly_hv cst h1 45056) N (a + 1) (b + 1) (d + 0) (n + 1) (wk_u (ly_hv cst h 44544) n a b (-1)) = W) (S : js_S cst (ly_hv cst h1 44032) h n) (l0 : hp_a l 0 94) (l1 : hp_i l 1 a) (l2 : hp_i l 2 b) (l3 : hp_i l 3 d) (l4 : hp_i l 4 0) (l5 : hp_i l 5 1) (l6 : hp_i l 6 3) : hp_F cst strs Φ (D + 1) M 286 l [.int x'] h := by
  obtain ⟨u, hu, -, uh⟩ := hp_row (cst := cst) (i := a) hy1 th_RL (by omega) (by omega)
  have ul := LP _ _ hu
  obtain ⟨v, hv, -, vh⟩ := hp_row (cst := cst) (i := b + 10) hy1 th_RL (by omega) (by omega)
  have vl := LP _ _ hv
  refine jx1_1 c hM (by omega) hy a b d ma mb md x'.toInt y n u v x' rfl a0 (by omega) b0 (by omega) d0 (by omega) A0 A1 B0 B1 D0 D1 kk0 kk1 yy0 yy1 n0 (by omega) ul uh vl vh (by omega) (by omega) (fr _ _ _ rfl k0) (fr _ _ _ rfl k1) (fr _ _ _ rfl k2) (fr _ _ _ rfl hyv) (fr _ _ _ rfl hxv) hn (fr _ _ _ rfl hu) (fr _ _ _ rfl hv) l0 l1 l2 l3 l4 l5 l6 (fun la ha y0 y1 f0 f1 a1' a2' a3' an v0 v1 v2 v3 v4 v5 v6 v7 => ?_)
  refine hp_st (c := 174) hM (by decide +kernel) a1' th_RW rfl (by omega) (by omega) (by omega) (by omega) (fun hb b1' b2' b3' => ?_)
  rw [f0, f1] at b3'
  have Sb := js_pR (js_mv S a2' rfl rfl) b3' (Int.le_refl _)
  have bn : ly_hv cst hb 20104 0 = some n := by rw [hp_put_ne (r' := 20104) b3' (by decide)]; exact an
  have Rb := (hp_put_eq b3').trans (hp_upd_c (hRW rfl hy a1' a2') rfl rfl)
  refine jx1_2 c hM (by omega) b1' a b d n u v a0 (by omega) b0 (by omega) d0 (by omega) n0 (by omega) ul uh vl vh bn v0 v1 v2 v3 v4 v5 v6 v7 (fun lb hc y2 y3 f2 f3 c1' c2' c3' cn w0 w1 w2 w3 w4 w5 w6 w7 => ?_)
  refine hp_st (c := 174) hM (by decide +kernel) c1' th_RW rfl (by omega) (by omega) (by omega) (by omega) (fun hd d1' d2' d3' => ?_)
  rw [f2, f3] at d3'
  have Sd := js_pR (js_mv Sb c2' rfl rfl) d3' (by omega)
  have dn : ly_hv cst hd 20104 0 = some n := by rw [hp_put_ne (r' := 20104) d3' (by decide)]; exact cn
  have Rd := (hp_put_eq d3').trans (hp_upd_c ((hRW rfl b1' c1' c2').trans Rb) rfl rfl)
  refine jx1_3 c hM (by omega) d1' a b d n u v a0 (by omega) b0 (by omega) d0 (by omega) n0 (by omega) ul uh vl vh dn w0 w1 w2 w3 w4 w5 w6 w7 (fun lc he y4 y5 f4 f5 e1' e2' e3' en z0 z1 z2 z3 z4 z5 z6 z7 => ?_)
  refine hp_st (c := 174) hM (by decide +kernel) e1' th_RW rfl (by omega) (by omega) (by omega) (by omega) (fun hf g1' g2' g3' => ?_)
  rw [f4, f5] at g3'
  have Sf := js_pR (js_mv Sd e2' rfl rfl) g3' (by omega)
  have fn : ly_hv cst hf 20104 0 = some n := by rw [hp_put_ne (r' := 20104) g3' (by decide)]; exact en
  have Rf : ly_hv cst hf 44544 = wk_u (ly_hv cst h 44544) n a b (-1) := (hp_put_eq g3').trans (hp_upd_c ((hRW rfl d1' e1' e2').trans Rd) rfl rfl)
  have ff : ly_fr cst js_mods h1 hf := ly_fr_tr fr (ly_fr_tr (hp_fr0 a2') (ly_fr_tr (hp_put_fr (by rfl) b3') (ly_fr_tr (hp_fr0 c2') (ly_fr_tr (hp_put_fr (by rfl) d3') (ly_fr_tr (hp_fr0 e2') (hp_put_fr (by rfl) g3'))))))
  have lf : h1.length ≤ hf.length := by omega
  have r0 : ly_hv cst hf 44544 (3 * n) = some a := by rw [Rf]; exact (hp_upd_ne (by omega)).trans ((hp_upd_ne (by omega)).trans (hp_upd_eq rfl))
  have r1 : ly_hv cst hf 44544 (3 * n + 1) = some b := by rw [Rf]; exact (hp_upd_ne (by omega)).trans (hp_upd_eq rfl)
  have r2 : ly_hv cst hf 44544 (3 * n + 2) = some (-1) := by rw [Rf]; exact hp_upd_eq rfl
  have last : ∀ (ld : am_L) (hg : am_H) (yv yi : Int32), ly_hy m_tt ly_TH hg → ly_fr cst [] hf hg → hf.length ≤ hg.length → ly_hv cst hg 20104 0 = some n → yi.toInt = n → (vp_nar .boolean yv).toInt = sr (ly_hv cst h1 44032) a b (-1) → 0 ≤ (vp_nar .boolean yv).toInt → (vp_nar .boolean yv).toInt ≤ 1 → hp_a ld 0 94 → hp_i ld 1 a → hp_i ld 2 b → hp_i ld 3 d → hp_i ld 4 3 → hp_F cst strs Φ (D + 1) M 539 ld [.int yv, .int yi, .ref 191] hg := by
    intro ld hg yv yi q1 q2 q3 q4 q5 q6 q7 q8 t0 t1 t2 t3 t4
    refine hp_stz (c := 175) hM (by decide +kernel) q1 th_RS rfl (by omega) (by omega) q7 q8 (fun hh s1 s2 s3 => ?_)
    rw [q5] at s3
    have hn' : ly_hv cst hh 20104 0 = some n := by rw [hp_put_ne (r' := 20104) s3 (by decide)]; exact q4
    have Sh := js_pS (js_mv Sf q2 rfl rfl) s3 (q2 _ _ _ rfl r0) (q2 _ _ _ rfl r1) (q2 _ _ _ rfl r2) q6
    exact jx1_5 c hM (by omega) s1 a b d ma mb md n a0 (by omega) b0 (by omega) d0 (by omega) A0 A1 B0 B1 D0 D1 n0 (by omega) (by omega) (by omega) hn' t0 t1 t2 t3 t4 (fun le hi i1 i2 i3 ni o0 o1 o2 o3 => ih hi le (a + 1) (b + 1) (d + 0) (n + 1) (by omega) (by omega) (by omega) (by omega) (by omega) (by omega) (by omega) (by omega) (by omega) i1 (ly_fr_tr ff (ly_fr_tr (hp_fr0 q2) (ly_fr_tr (hp_put_fr (by rfl) s3) (hp_sub2 rfl i2)))) (by omega) ni (by rw [hRW rfl s1 i1 i2, hp_put_ne (r' := 44544) s3 (by decide), hRW rfl g1' q1 q2, Rf]; exact hW) (js_mv Sh i2 rfl rfl) o0 o1 o2 (by rw [Int.add_zero]; exact o3))
  by_cases e : u = v
  · exact jx1_4e c hM (by omega) g1' a b d n u a0 (by omega) b0 (by omega) d0 (by omega) n0 (by omega) ul uh fn  z0 z1 z2 z3 z4 z5 (by rw [e]; exact z6) z7 (fun ld hg yv yi fv fi q1 q2 q3 q4 t0 t1 t2 t3 t4 => last ld hg yv yi q1 q2 q3 q4 fi (by rw [vz_1 fv, show sr (ly_hv cst h1 44032) a b (-1) = 1 from by unfold sr; rw [if_pos (Or.inl ⟨by omega, by omega, by rw [show ly_hv cst h1 44032 (a) = some u from hu, show ly_hv cst h1 44032 (b + 10) = some v from hv, e]⟩)]]) (by rw [vz_1 fv]; decide) (by rw [vz_1 fv]; decide) t0 t1 t2 t3 t4)
  · exact jx1_4n c hM (by omega) g1' a b d n u v a0 (by omega) b0 (by omega) d0 (by omega) n0 (by omega) ul uh vl vh fn (hp_ne (by omega)) z0 z1 z2 z3 z4 z5 z6 z7 (fun ld hg yv yi fv fi q1 q2 q3 q4 t0 t1 t2 t3 t4 => last ld hg yv yi q1 q2 q3 q4 fi (by rw [vz_0 fv, show sr (ly_hv cst h1 44032) a b (-1) = 0 from by unfold sr; rw [if_neg (by exact fun k => by rcases k with k | k | k <;> first | omega | exact e (Option.some.inj ((show ly_hv cst h1 44032 (a) = some u from hu).symm.trans (k.2.2.trans hv))))]]) (by rw [vz_0 fv]; decide) (by rw [vz_0 fv]; decide) t0 t1 t2 t3 t4)
theorem je2 (c1 : hp_C cst strs D) (c : hp_C cst strs (D + 1)) (hM : m_P[411]? = some M) (hD : (5 : Int) ≤ ((D + 1 : Nat) : Int) + 1) (A0 : 0 ≤ ma) (A1 : ma ≤ 10) (B0 : 0 ≤ mb) (B1 : mb ≤ 10) (D0 : 0 ≤ md) (D1 : md ≤ 10) (hy1 : ly_hy m_tt ly_TH h1) (k0 : ly_hv cst h1 44288 0 = some ma) (k1 : ly_hv cst h1 44288 1 = some mb) (k2 : ly_hv cst h1 44288 2 = some md) (LP : ∀ k v, ly_hv cst h1 44032 k = some v → 0 ≤ v) {a b d n y : Int} (a0 : 0 ≤ a) (a1 : a ≤ ma) (b0 : 0 ≤ b) (b1 : b ≤ mb) (d0 : 0 ≤ d) (d1 : d ≤ md) (val : a < ma ∧ d < md) (n0 : 0 ≤ n) (n1 : n ≤ a + b + d) (yy0 : 0 ≤ y) (yy1 : y ≤ 360) (ih : ∀ (h : am_H) (l : am_L) (a' b' d' n' : Int), a' + b' + d' > a + b + d → 0 ≤ a' → a' ≤ ma → 0 ≤ b' → b' ≤ mb → 0 ≤ d' → d' ≤ md → n' ≤ a' + b' + d' → 0 ≤ n' → ly_hy m_tt ly_TH h → ly_fr cst js_mods h1 h → h1.length ≤ h.length → ly_hv cst h 20104 0 = some n' → wk (ly_hv cst h1 44032) (ly_hv cst h1 44288) (ly_hv cst h1 45056) N a' b' d' n' (ly_hv cst h 44544) = W → js_S cst (ly_hv cst h1 44032) h n' → hp_a l 0 94 → hp_i l 1 a' → hp_i l 2 b' → hp_i l 3 d' → hp_F cst strs Φ (D + 1) M 216 l [] h) (h : am_H) (l : am_L) (x' : Int32) (kk0 : 0 ≤ x'.toInt) (kk1 : x'.toInt ≤ 12) (hy : ly_hy m_tt ly_TH h) (fr : ly_fr cst js_mods h1 h) (len : h1.length ≤ h.length) (hn : ly_hv cst h 20104 0 = some n) (hyv : ly_hv cst h1 45056 (121 * a + 11 * b + d + 122) = some y) (hxv : ly_hv cst h1 45056 (121 * a + 11 * b + d) = some (x'.toInt + y)) (hW : wk (ly_hv cst h1 44032) (ly_hv cst h1 44288) (ly_hv cst h1 45056) N (a + 1) (b + 0) (d + 1) (n + 1) (wk_u (ly_hv cst h 44544) n a (-1) d) = W) (S : js_S cst (ly_hv cst h1 44032) h n) (l0 : hp_a l 0 94) (l1 : hp_i l 1 a) (l2 : hp_i l 2 b) (l3 : hp_i l 3 d) (l4 : hp_i l 4 0) (l5 : hp_i l 5 2) (l6 : hp_i l 6 5) : hp_F cst strs Φ (D + 1) M 286 l [.int x'] h := by
  obtain ⟨u, hu, -, uh⟩ := hp_row (cst := cst) (i := a) hy1 th_RL (by omega) (by omega)
  have ul := LP _ _ hu
  obtain ⟨w, hw, -, wh⟩ := hp_row (cst := cst) (i := d + 20) hy1 th_RL (by omega) (by omega)
  have wl := LP _ _ hw
  refine jx2_1 c hM (by omega) hy a b d ma mb md x'.toInt y n u w x' rfl a0 (by omega) b0 (by omega) d0 (by omega) A0 A1 B0 B1 D0 D1 kk0 kk1 yy0 yy1 n0 (by omega) ul uh wl wh (by omega) (by omega) (fr _ _ _ rfl k0) (fr _ _ _ rfl k1) (fr _ _ _ rfl k2) (fr _ _ _ rfl hyv) (fr _ _ _ rfl hxv) hn (fr _ _ _ rfl hu) (fr _ _ _ rfl hw) l0 l1 l2 l3 l4 l5 l6 (fun la ha y0 y1 f0 f1 a1' a2' a3' an v0 v1 v2 v3 v4 v5 v6 v7 => ?_)
  refine hp_st (c := 174) hM (by decide +kernel) a1' th_RW rfl (by omega) (by omega) (by omega) (by omega) (fun hb b1' b2' b3' => ?_)
  rw [f0, f1] at b3'
  have Sb := js_pR (js_mv S a2' rfl rfl) b3' (Int.le_refl _)
  have bn : ly_hv cst hb 20104 0 = some n := by rw [hp_put_ne (r' := 20104) b3' (by decide)]; exact an
  have Rb := (hp_put_eq b3').trans (hp_upd_c (hRW rfl hy a1' a2') rfl rfl)
  refine jx2_2 c hM (by omega) b1' a b d n u w a0 (by omega) b0 (by omega) d0 (by omega) n0 (by omega) ul uh wl wh bn v0 v1 v2 v3 v4 v5 v6 v7 (fun lb hc y2 y3 f2 f3 c1' c2' c3' cn w0 w1 w2 w3 w4 w5 w6 w7 => ?_)
  refine hp_st (c := 174) hM (by decide +kernel) c1' th_RW rfl (by omega) (by omega) (by omega) (by omega) (fun hd d1' d2' d3' => ?_)
  rw [f2, f3] at d3'
  have Sd := js_pR (js_mv Sb c2' rfl rfl) d3' (by omega)
  have dn : ly_hv cst hd 20104 0 = some n := by rw [hp_put_ne (r' := 20104) d3' (by decide)]; exact cn
  have Rd := (hp_put_eq d3').trans (hp_upd_c ((hRW rfl b1' c1' c2').trans Rb) rfl rfl)
  refine jx2_3 c hM (by omega) d1' a b d n u w a0 (by omega) b0 (by omega) d0 (by omega) n0 (by omega) ul uh wl wh dn w0 w1 w2 w3 w4 w5 w6 w7 (fun lc he y4 y5 f4 f5 e1' e2' e3' en z0 z1 z2 z3 z4 z5 z6 z7 => ?_)
  refine hp_st (c := 174) hM (by decide +kernel) e1' th_RW rfl (by omega) (by omega) (by omega) (by omega) (fun hf g1' g2' g3' => ?_)
  rw [f4, f5] at g3'
  have Sf := js_pR (js_mv Sd e2' rfl rfl) g3' (by omega)
  have fn : ly_hv cst hf 20104 0 = some n := by rw [hp_put_ne (r' := 20104) g3' (by decide)]; exact en
  have Rf : ly_hv cst hf 44544 = wk_u (ly_hv cst h 44544) n a (-1) d := (hp_put_eq g3').trans (hp_upd_c ((hRW rfl d1' e1' e2').trans Rd) rfl rfl)
  have ff : ly_fr cst js_mods h1 hf := ly_fr_tr fr (ly_fr_tr (hp_fr0 a2') (ly_fr_tr (hp_put_fr (by rfl) b3') (ly_fr_tr (hp_fr0 c2') (ly_fr_tr (hp_put_fr (by rfl) d3') (ly_fr_tr (hp_fr0 e2') (hp_put_fr (by rfl) g3'))))))
  have lf : h1.length ≤ hf.length := by omega
  have r0 : ly_hv cst hf 44544 (3 * n) = some a := by rw [Rf]; exact (hp_upd_ne (by omega)).trans ((hp_upd_ne (by omega)).trans (hp_upd_eq rfl))
  have r1 : ly_hv cst hf 44544 (3 * n + 1) = some (-1) := by rw [Rf]; exact (hp_upd_ne (by omega)).trans (hp_upd_eq rfl)
  have r2 : ly_hv cst hf 44544 (3 * n + 2) = some d := by rw [Rf]; exact hp_upd_eq rfl
  have last : ∀ (ld : am_L) (hg : am_H) (yv yi : Int32), ly_hy m_tt ly_TH hg → ly_fr cst [] hf hg → hf.length ≤ hg.length → ly_hv cst hg 20104 0 = some n → yi.toInt = n → (vp_nar .boolean yv).toInt = sr (ly_hv cst h1 44032) a (-1) d → 0 ≤ (vp_nar .boolean yv).toInt → (vp_nar .boolean yv).toInt ≤ 1 → hp_a ld 0 94 → hp_i ld 1 a → hp_i ld 2 b → hp_i ld 3 d → hp_i ld 4 5 → hp_F cst strs Φ (D + 1) M 539 ld [.int yv, .int yi, .ref 191] hg := by
    intro ld hg yv yi q1 q2 q3 q4 q5 q6 q7 q8 t0 t1 t2 t3 t4
    refine hp_stz (c := 175) hM (by decide +kernel) q1 th_RS rfl (by omega) (by omega) q7 q8 (fun hh s1 s2 s3 => ?_)
    rw [q5] at s3
    have hn' : ly_hv cst hh 20104 0 = some n := by rw [hp_put_ne (r' := 20104) s3 (by decide)]; exact q4
    have Sh := js_pS (js_mv Sf q2 rfl rfl) s3 (q2 _ _ _ rfl r0) (q2 _ _ _ rfl r1) (q2 _ _ _ rfl r2) q6
    exact jx2_5 c hM (by omega) s1 a b d ma mb md n a0 (by omega) b0 (by omega) d0 (by omega) A0 A1 B0 B1 D0 D1 n0 (by omega) (by omega) (by omega) hn' t0 t1 t2 t3 t4 (fun le hi i1 i2 i3 ni o0 o1 o2 o3 => ih hi le (a + 1) (b + 0) (d + 1) (n + 1) (by omega) (by omega) (by omega) (by omega) (by omega) (by omega) (by omega) (by omega) (by omega) i1 (ly_fr_tr ff (ly_fr_tr (hp_fr0 q2) (ly_fr_tr (hp_put_fr (by rfl) s3) (hp_sub2 rfl i2)))) (by omega) ni (by rw [hRW rfl s1 i1 i2, hp_put_ne (r' := 44544) s3 (by decide), hRW rfl g1' q1 q2, Rf]; exact hW) (js_mv Sh i2 rfl rfl) o0 o1 (by rw [Int.add_zero]; exact o2) o3)
  by_cases e : u = w
  · exact jx2_4e c hM (by omega) g1' a b d n u a0 (by omega) b0 (by omega) d0 (by omega) n0 (by omega) ul uh fn  z0 z1 z2 z3 z4 z5 z6 (by rw [e]; exact z7) (fun ld hg yv yi fv fi q1 q2 q3 q4 t0 t1 t2 t3 t4 => last ld hg yv yi q1 q2 q3 q4 fi (by rw [vz_1 fv, show sr (ly_hv cst h1 44032) a (-1) d = 1 from by unfold sr; rw [if_pos (Or.inr (Or.inl ⟨by omega, by omega, by rw [show ly_hv cst h1 44032 (a) = some u from hu, show ly_hv cst h1 44032 (d + 20) = some w from hw, e]⟩))]]) (by rw [vz_1 fv]; decide) (by rw [vz_1 fv]; decide) t0 t1 t2 t3 t4)
  · exact jx2_4n c hM (by omega) g1' a b d n u w a0 (by omega) b0 (by omega) d0 (by omega) n0 (by omega) ul uh wl wh fn (hp_ne (by omega)) z0 z1 z2 z3 z4 z5 z6 z7 (fun ld hg yv yi fv fi q1 q2 q3 q4 t0 t1 t2 t3 t4 => last ld hg yv yi q1 q2 q3 q4 fi (by rw [vz_0 fv, show sr (ly_hv cst h1 44032) a (-1) d = 0 from by unfold sr; rw [if_neg (by exact fun k => by rcases k with k | k | k <;> first | omega | exact e (Option.some.inj ((show ly_hv cst h1 44032 (a) = some u from hu).symm.trans (k.2.2.trans hw))))]]) (by rw [vz_0 fv]; decide) (by rw [vz_0 fv]; decide) t0 t1 t2 t3 t4)
theorem je3 (c1 : hp_C cst strs D) (c : hp_C cst strs (D + 1)) (hM : m_P[411]? = some M) (hD : (5 : Int) ≤ ((D + 1 : Nat) : Int) + 1) (A0 : 0 ≤ ma) (A1 : ma ≤ 10) (B0 : 0 ≤ mb) (B1 : mb ≤ 10) (D0 : 0 ≤ md) (D1 : md ≤ 10) (hy1 : ly_hy m_tt ly_TH h1) (k0 : ly_hv cst h1 44288 0 = some ma) (k1 : ly_hv cst h1 44288 1 = some mb) (k2 : ly_hv cst h1 44288 2 = some md) (LP : ∀ k v, ly_hv cst h1 44032 k = some v → 0 ≤ v) {a b d n y : Int} (a0 : 0 ≤ a) (a1 : a ≤ ma) (b0 : 0 ≤ b) (b1 : b ≤ mb) (d0 : 0 ≤ d) (d1 : d ≤ md) (val : b < mb ∧ d < md) (n0 : 0 ≤ n) (n1 : n ≤ a + b + d) (yy0 : 0 ≤ y) (yy1 : y ≤ 360) (ih : ∀ (h : am_H) (l : am_L) (a' b' d' n' : Int), a' + b' + d' > a + b + d → 0 ≤ a' → a' ≤ ma → 0 ≤ b' → b' ≤ mb → 0 ≤ d' → d' ≤ md → n' ≤ a' + b' + d' → 0 ≤ n' → ly_hy m_tt ly_TH h → ly_fr cst js_mods h1 h → h1.length ≤ h.length → ly_hv cst h 20104 0 = some n' → wk (ly_hv cst h1 44032) (ly_hv cst h1 44288) (ly_hv cst h1 45056) N a' b' d' n' (ly_hv cst h 44544) = W → js_S cst (ly_hv cst h1 44032) h n' → hp_a l 0 94 → hp_i l 1 a' → hp_i l 2 b' → hp_i l 3 d' → hp_F cst strs Φ (D + 1) M 216 l [] h) (h : am_H) (l : am_L) (x' : Int32) (kk0 : 0 ≤ x'.toInt) (kk1 : x'.toInt ≤ 12) (hy : ly_hy m_tt ly_TH h) (fr : ly_fr cst js_mods h1 h) (len : h1.length ≤ h.length) (hn : ly_hv cst h 20104 0 = some n) (hyv : ly_hv cst h1 45056 (121 * a + 11 * b + d + 12) = some y) (hxv : ly_hv cst h1 45056 (121 * a + 11 * b + d) = some (x'.toInt + y)) (hW : wk (ly_hv cst h1 44032) (ly_hv cst h1 44288) (ly_hv cst h1 45056) N (a + 0) (b + 1) (d + 1) (n + 1) (wk_u (ly_hv cst h 44544) n (-1) b d) = W) (S : js_S cst (ly_hv cst h1 44032) h n) (l0 : hp_a l 0 94) (l1 : hp_i l 1 a) (l2 : hp_i l 2 b) (l3 : hp_i l 3 d) (l4 : hp_i l 4 0) (l5 : hp_i l 5 3) (l6 : hp_i l 6 6) : hp_F cst strs Φ (D + 1) M 286 l [.int x'] h := by
  obtain ⟨v, hv, -, vh⟩ := hp_row (cst := cst) (i := b + 10) hy1 th_RL (by omega) (by omega)
  have vl := LP _ _ hv
  obtain ⟨w, hw, -, wh⟩ := hp_row (cst := cst) (i := d + 20) hy1 th_RL (by omega) (by omega)
  have wl := LP _ _ hw
  refine jx3_1 c hM (by omega) hy a b d ma mb md x'.toInt y n v w x' rfl a0 (by omega) b0 (by omega) d0 (by omega) A0 A1 B0 B1 D0 D1 kk0 kk1 yy0 yy1 n0 (by omega) vl vh wl wh (by omega) (by omega) (fr _ _ _ rfl k0) (fr _ _ _ rfl k1) (fr _ _ _ rfl k2) (fr _ _ _ rfl hyv) (fr _ _ _ rfl hxv) hn (fr _ _ _ rfl hv) (fr _ _ _ rfl hw) l0 l1 l2 l3 l4 l5 l6 (fun la ha y0 y1 f0 f1 a1' a2' a3' an v0 v1 v2 v3 v4 v5 v6 v7 => ?_)
  refine hp_st (c := 174) hM (by decide +kernel) a1' th_RW rfl (by omega) (by omega) (by omega) (by omega) (fun hb b1' b2' b3' => ?_)
  rw [f0, f1] at b3'
  have Sb := js_pR (js_mv S a2' rfl rfl) b3' (Int.le_refl _)
  have bn : ly_hv cst hb 20104 0 = some n := by rw [hp_put_ne (r' := 20104) b3' (by decide)]; exact an
  have Rb := (hp_put_eq b3').trans (hp_upd_c (hRW rfl hy a1' a2') rfl rfl)
  refine jx3_2 c hM (by omega) b1' a b d n v w a0 (by omega) b0 (by omega) d0 (by omega) n0 (by omega) vl vh wl wh bn v0 v1 v2 v3 v4 v5 v6 v7 (fun lb hc y2 y3 f2 f3 c1' c2' c3' cn w0 w1 w2 w3 w4 w5 w6 w7 => ?_)
  refine hp_st (c := 174) hM (by decide +kernel) c1' th_RW rfl (by omega) (by omega) (by omega) (by omega) (fun hd d1' d2' d3' => ?_)
  rw [f2, f3] at d3'
  have Sd := js_pR (js_mv Sb c2' rfl rfl) d3' (by omega)
  have dn : ly_hv cst hd 20104 0 = some n := by rw [hp_put_ne (r' := 20104) d3' (by decide)]; exact cn
  have Rd := (hp_put_eq d3').trans (hp_upd_c ((hRW rfl b1' c1' c2').trans Rb) rfl rfl)
  refine jx3_3 c hM (by omega) d1' a b d n v w a0 (by omega) b0 (by omega) d0 (by omega) n0 (by omega) vl vh wl wh dn w0 w1 w2 w3 w4 w5 w6 w7 (fun lc he y4 y5 f4 f5 e1' e2' e3' en z0 z1 z2 z3 z4 z5 z6 z7 => ?_)
  refine hp_st (c := 174) hM (by decide +kernel) e1' th_RW rfl (by omega) (by omega) (by omega) (by omega) (fun hf g1' g2' g3' => ?_)
  rw [f4, f5] at g3'
  have Sf := js_pR (js_mv Sd e2' rfl rfl) g3' (by omega)
  have fn : ly_hv cst hf 20104 0 = some n := by rw [hp_put_ne (r' := 20104) g3' (by decide)]; exact en
  have Rf : ly_hv cst hf 44544 = wk_u (ly_hv cst h 44544) n (-1) b d := (hp_put_eq g3').trans (hp_upd_c ((hRW rfl d1' e1' e2').trans Rd) rfl rfl)
  have ff : ly_fr cst js_mods h1 hf := ly_fr_tr fr (ly_fr_tr (hp_fr0 a2') (ly_fr_tr (hp_put_fr (by rfl) b3') (ly_fr_tr (hp_fr0 c2') (ly_fr_tr (hp_put_fr (by rfl) d3') (ly_fr_tr (hp_fr0 e2') (hp_put_fr (by rfl) g3'))))))
  have lf : h1.length ≤ hf.length := by omega
  have r0 : ly_hv cst hf 44544 (3 * n) = some (-1) := by rw [Rf]; exact (hp_upd_ne (by omega)).trans ((hp_upd_ne (by omega)).trans (hp_upd_eq rfl))
  have r1 : ly_hv cst hf 44544 (3 * n + 1) = some b := by rw [Rf]; exact (hp_upd_ne (by omega)).trans (hp_upd_eq rfl)
  have r2 : ly_hv cst hf 44544 (3 * n + 2) = some d := by rw [Rf]; exact hp_upd_eq rfl
  have last : ∀ (ld : am_L) (hg : am_H) (yv yi : Int32), ly_hy m_tt ly_TH hg → ly_fr cst [] hf hg → hf.length ≤ hg.length → ly_hv cst hg 20104 0 = some n → yi.toInt = n → (vp_nar .boolean yv).toInt = sr (ly_hv cst h1 44032) (-1) b d → 0 ≤ (vp_nar .boolean yv).toInt → (vp_nar .boolean yv).toInt ≤ 1 → hp_a ld 0 94 → hp_i ld 1 a → hp_i ld 2 b → hp_i ld 3 d → hp_i ld 4 6 → hp_F cst strs Φ (D + 1) M 539 ld [.int yv, .int yi, .ref 191] hg := by
    intro ld hg yv yi q1 q2 q3 q4 q5 q6 q7 q8 t0 t1 t2 t3 t4
    refine hp_stz (c := 175) hM (by decide +kernel) q1 th_RS rfl (by omega) (by omega) q7 q8 (fun hh s1 s2 s3 => ?_)
    rw [q5] at s3
    have hn' : ly_hv cst hh 20104 0 = some n := by rw [hp_put_ne (r' := 20104) s3 (by decide)]; exact q4
    have Sh := js_pS (js_mv Sf q2 rfl rfl) s3 (q2 _ _ _ rfl r0) (q2 _ _ _ rfl r1) (q2 _ _ _ rfl r2) q6
    exact jx3_5 c hM (by omega) s1 a b d ma mb md n a0 (by omega) b0 (by omega) d0 (by omega) A0 A1 B0 B1 D0 D1 n0 (by omega) (by omega) (by omega) hn' t0 t1 t2 t3 t4 (fun le hi i1 i2 i3 ni o0 o1 o2 o3 => ih hi le (a + 0) (b + 1) (d + 1) (n + 1) (by omega) (by omega) (by omega) (by omega) (by omega) (by omega) (by omega) (by omega) (by omega) i1 (ly_fr_tr ff (ly_fr_tr (hp_fr0 q2) (ly_fr_tr (hp_put_fr (by rfl) s3) (hp_sub2 rfl i2)))) (by omega) ni (by rw [hRW rfl s1 i1 i2, hp_put_ne (r' := 44544) s3 (by decide), hRW rfl g1' q1 q2, Rf]; exact hW) (js_mv Sh i2 rfl rfl) o0 (by rw [Int.add_zero]; exact o1) o2 o3)
  by_cases e : v = w
  · exact jx3_4e c hM (by omega) g1' a b d n v a0 (by omega) b0 (by omega) d0 (by omega) n0 (by omega) vl vh fn  z0 z1 z2 z3 z4 z5 z6 (by rw [e]; exact z7) (fun ld hg yv yi fv fi q1 q2 q3 q4 t0 t1 t2 t3 t4 => last ld hg yv yi q1 q2 q3 q4 fi (by rw [vz_1 fv, show sr (ly_hv cst h1 44032) (-1) b d = 1 from by unfold sr; rw [if_pos (Or.inr (Or.inr ⟨by omega, by omega, by rw [show ly_hv cst h1 44032 (b + 10) = some v from hv, show ly_hv cst h1 44032 (d + 20) = some w from hw, e]⟩))]]) (by rw [vz_1 fv]; decide) (by rw [vz_1 fv]; decide) t0 t1 t2 t3 t4)
  · exact jx3_4n c hM (by omega) g1' a b d n v w a0 (by omega) b0 (by omega) d0 (by omega) n0 (by omega) vl vh wl wh fn (hp_ne (by omega)) z0 z1 z2 z3 z4 z5 z6 z7 (fun ld hg yv yi fv fi q1 q2 q3 q4 t0 t1 t2 t3 t4 => last ld hg yv yi q1 q2 q3 q4 fi (by rw [vz_0 fv, show sr (ly_hv cst h1 44032) (-1) b d = 0 from by unfold sr; rw [if_neg (by exact fun k => by rcases k with k | k | k <;> first | omega | exact e (Option.some.inj ((show ly_hv cst h1 44032 (b + 10) = some v from hv).symm.trans (k.2.2.trans hw))))]]) (by rw [vz_0 fv]; decide) (by rw [vz_0 fv]; decide) t0 t1 t2 t3 t4)
theorem je4 (c1 : hp_C cst strs D) (c : hp_C cst strs (D + 1)) (hM : m_P[411]? = some M) (hD : (5 : Int) ≤ ((D + 1 : Nat) : Int) + 1) (A0 : 0 ≤ ma) (A1 : ma ≤ 10) (B0 : 0 ≤ mb) (B1 : mb ≤ 10) (D0 : 0 ≤ md) (D1 : md ≤ 10) (hy1 : ly_hy m_tt ly_TH h1) (k0 : ly_hv cst h1 44288 0 = some ma) (k1 : ly_hv cst h1 44288 1 = some mb) (k2 : ly_hv cst h1 44288 2 = some md) (LP : ∀ k v, ly_hv cst h1 44032 k = some v → 0 ≤ v) {a b d n y : Int} (a0 : 0 ≤ a) (a1 : a ≤ ma) (b0 : 0 ≤ b) (b1 : b ≤ mb) (d0 : 0 ≤ d) (d1 : d ≤ md) (val : a < ma) (n0 : 0 ≤ n) (n1 : n ≤ a + b + d) (yy0 : 0 ≤ y) (yy1 : y ≤ 360) (ih : ∀ (h : am_H) (l : am_L) (a' b' d' n' : Int), a' + b' + d' > a + b + d → 0 ≤ a' → a' ≤ ma → 0 ≤ b' → b' ≤ mb → 0 ≤ d' → d' ≤ md → n' ≤ a' + b' + d' → 0 ≤ n' → ly_hy m_tt ly_TH h → ly_fr cst js_mods h1 h → h1.length ≤ h.length → ly_hv cst h 20104 0 = some n' → wk (ly_hv cst h1 44032) (ly_hv cst h1 44288) (ly_hv cst h1 45056) N a' b' d' n' (ly_hv cst h 44544) = W → js_S cst (ly_hv cst h1 44032) h n' → hp_a l 0 94 → hp_i l 1 a' → hp_i l 2 b' → hp_i l 3 d' → hp_F cst strs Φ (D + 1) M 216 l [] h) (h : am_H) (l : am_L) (x' : Int32) (kk0 : 0 ≤ x'.toInt) (kk1 : x'.toInt ≤ 12) (hy : ly_hy m_tt ly_TH h) (fr : ly_fr cst js_mods h1 h) (len : h1.length ≤ h.length) (hn : ly_hv cst h 20104 0 = some n) (hyv : ly_hv cst h1 45056 (121 * a + 11 * b + d + 121) = some y) (hxv : ly_hv cst h1 45056 (121 * a + 11 * b + d) = some (x'.toInt + y)) (hW : wk (ly_hv cst h1 44032) (ly_hv cst h1 44288) (ly_hv cst h1 45056) N (a + 1) (b + 0) (d + 0) (n + 1) (wk_u (ly_hv cst h 44544) n a (-1) (-1)) = W) (S : js_S cst (ly_hv cst h1 44032) h n) (l0 : hp_a l 0 94) (l1 : hp_i l 1 a) (l2 : hp_i l 2 b) (l3 : hp_i l 3 d) (l4 : hp_i l 4 0) (l5 : hp_i l 5 4) (l6 : hp_i l 6 1) : hp_F cst strs Φ (D + 1) M 286 l [.int x'] h := by
  obtain ⟨u, hu, -, uh⟩ := hp_row (cst := cst) (i := a) hy1 th_RL (by omega) (by omega)
  have ul := LP _ _ hu
  refine jx4_1 c hM (by omega) hy a b d ma mb md x'.toInt y n u x' rfl a0 (by omega) b0 (by omega) d0 (by omega) A0 A1 B0 B1 D0 D1 kk0 kk1 yy0 yy1 n0 (by omega) ul uh (by omega) (fr _ _ _ rfl k0) (fr _ _ _ rfl k1) (fr _ _ _ rfl k2) (fr _ _ _ rfl hyv) (fr _ _ _ rfl hxv) hn (fr _ _ _ rfl hu) l0 l1 l2 l3 l4 l5 l6 (fun la ha y0 y1 f0 f1 a1' a2' a3' an v0 v1 v2 v3 v4 v5 v6 v7 => ?_)
  refine hp_st (c := 174) hM (by decide +kernel) a1' th_RW rfl (by omega) (by omega) (by omega) (by omega) (fun hb b1' b2' b3' => ?_)
  rw [f0, f1] at b3'
  have Sb := js_pR (js_mv S a2' rfl rfl) b3' (Int.le_refl _)
  have bn : ly_hv cst hb 20104 0 = some n := by rw [hp_put_ne (r' := 20104) b3' (by decide)]; exact an
  have Rb := (hp_put_eq b3').trans (hp_upd_c (hRW rfl hy a1' a2') rfl rfl)
  refine jx4_2 c hM (by omega) b1' a b d n u a0 (by omega) b0 (by omega) d0 (by omega) n0 (by omega) ul uh bn v0 v1 v2 v3 v4 v5 v6 v7 (fun lb hc y2 y3 f2 f3 c1' c2' c3' cn w0 w1 w2 w3 w4 w5 w6 w7 => ?_)
  refine hp_st (c := 174) hM (by decide +kernel) c1' th_RW rfl (by omega) (by omega) (by omega) (by omega) (fun hd d1' d2' d3' => ?_)
  rw [f2, f3] at d3'
  have Sd := js_pR (js_mv Sb c2' rfl rfl) d3' (by omega)
  have dn : ly_hv cst hd 20104 0 = some n := by rw [hp_put_ne (r' := 20104) d3' (by decide)]; exact cn
  have Rd := (hp_put_eq d3').trans (hp_upd_c ((hRW rfl b1' c1' c2').trans Rb) rfl rfl)
  refine jx4_3 c hM (by omega) d1' a b d n u a0 (by omega) b0 (by omega) d0 (by omega) n0 (by omega) ul uh dn w0 w1 w2 w3 w4 w5 w6 w7 (fun lc he y4 y5 f4 f5 e1' e2' e3' en z0 z1 z2 z3 z4 z5 z6 z7 => ?_)
  refine hp_st (c := 174) hM (by decide +kernel) e1' th_RW rfl (by omega) (by omega) (by omega) (by omega) (fun hf g1' g2' g3' => ?_)
  rw [f4, f5] at g3'
  have Sf := js_pR (js_mv Sd e2' rfl rfl) g3' (by omega)
  have fn : ly_hv cst hf 20104 0 = some n := by rw [hp_put_ne (r' := 20104) g3' (by decide)]; exact en
  have Rf : ly_hv cst hf 44544 = wk_u (ly_hv cst h 44544) n a (-1) (-1) := (hp_put_eq g3').trans (hp_upd_c ((hRW rfl d1' e1' e2').trans Rd) rfl rfl)
  have ff : ly_fr cst js_mods h1 hf := ly_fr_tr fr (ly_fr_tr (hp_fr0 a2') (ly_fr_tr (hp_put_fr (by rfl) b3') (ly_fr_tr (hp_fr0 c2') (ly_fr_tr (hp_put_fr (by rfl) d3') (ly_fr_tr (hp_fr0 e2') (hp_put_fr (by rfl) g3'))))))
  have lf : h1.length ≤ hf.length := by omega
  have r0 : ly_hv cst hf 44544 (3 * n) = some a := by rw [Rf]; exact (hp_upd_ne (by omega)).trans ((hp_upd_ne (by omega)).trans (hp_upd_eq rfl))
  have r1 : ly_hv cst hf 44544 (3 * n + 1) = some (-1) := by rw [Rf]; exact (hp_upd_ne (by omega)).trans (hp_upd_eq rfl)
  have r2 : ly_hv cst hf 44544 (3 * n + 2) = some (-1) := by rw [Rf]; exact hp_upd_eq rfl
  have last : ∀ (ld : am_L) (hg : am_H) (yv yi : Int32), ly_hy m_tt ly_TH hg → ly_fr cst [] hf hg → hf.length ≤ hg.length → ly_hv cst hg 20104 0 = some n → yi.toInt = n → (vp_nar .boolean yv).toInt = sr (ly_hv cst h1 44032) a (-1) (-1) → 0 ≤ (vp_nar .boolean yv).toInt → (vp_nar .boolean yv).toInt ≤ 1 → hp_a ld 0 94 → hp_i ld 1 a → hp_i ld 2 b → hp_i ld 3 d → hp_i ld 4 1 → hp_F cst strs Φ (D + 1) M 539 ld [.int yv, .int yi, .ref 191] hg := by
    intro ld hg yv yi q1 q2 q3 q4 q5 q6 q7 q8 t0 t1 t2 t3 t4
    refine hp_stz (c := 175) hM (by decide +kernel) q1 th_RS rfl (by omega) (by omega) q7 q8 (fun hh s1 s2 s3 => ?_)
    rw [q5] at s3
    have hn' : ly_hv cst hh 20104 0 = some n := by rw [hp_put_ne (r' := 20104) s3 (by decide)]; exact q4
    have Sh := js_pS (js_mv Sf q2 rfl rfl) s3 (q2 _ _ _ rfl r0) (q2 _ _ _ rfl r1) (q2 _ _ _ rfl r2) q6
    exact jx4_5 c hM (by omega) s1 a b d ma mb md n a0 (by omega) b0 (by omega) d0 (by omega) A0 A1 B0 B1 D0 D1 n0 (by omega) (by omega) hn' t0 t1 t2 t3 t4 (fun le hi i1 i2 i3 ni o0 o1 o2 o3 => ih hi le (a + 1) (b + 0) (d + 0) (n + 1) (by omega) (by omega) (by omega) (by omega) (by omega) (by omega) (by omega) (by omega) (by omega) i1 (ly_fr_tr ff (ly_fr_tr (hp_fr0 q2) (ly_fr_tr (hp_put_fr (by rfl) s3) (hp_sub2 rfl i2)))) (by omega) ni (by rw [hRW rfl s1 i1 i2, hp_put_ne (r' := 44544) s3 (by decide), hRW rfl g1' q1 q2, Rf]; exact hW) (js_mv Sh i2 rfl rfl) o0 o1 (by rw [Int.add_zero]; exact o2) (by rw [Int.add_zero]; exact o3))
  exact jx4_4n c hM (by omega) g1' a b d n u a0 (by omega) b0 (by omega) d0 (by omega) n0 (by omega) ul uh fn  z0 z1 z2 z3 z4 z5 z6 z7 (fun ld hg yv yi fv fi q1 q2 q3 q4 t0 t1 t2 t3 t4 => last ld hg yv yi q1 q2 q3 q4 fi (by rw [vz_0 fv, show sr (ly_hv cst h1 44032) a (-1) (-1) = 0 from by unfold sr; rw [if_neg (by omega)]]) (by rw [vz_0 fv]; decide) (by rw [vz_0 fv]; decide) t0 t1 t2 t3 t4)
theorem je5 (c1 : hp_C cst strs D) (c : hp_C cst strs (D + 1)) (hM : m_P[411]? = some M) (hD : (5 : Int) ≤ ((D + 1 : Nat) : Int) + 1) (A0 : 0 ≤ ma) (A1 : ma ≤ 10) (B0 : 0 ≤ mb) (B1 : mb ≤ 10) (D0 : 0 ≤ md) (D1 : md ≤ 10) (hy1 : ly_hy m_tt ly_TH h1) (k0 : ly_hv cst h1 44288 0 = some ma) (k1 : ly_hv cst h1 44288 1 = some mb) (k2 : ly_hv cst h1 44288 2 = some md) (LP : ∀ k v, ly_hv cst h1 44032 k = some v → 0 ≤ v) {a b d n y : Int} (a0 : 0 ≤ a) (a1 : a ≤ ma) (b0 : 0 ≤ b) (b1 : b ≤ mb) (d0 : 0 ≤ d) (d1 : d ≤ md) (val : b < mb) (n0 : 0 ≤ n) (n1 : n ≤ a + b + d) (yy0 : 0 ≤ y) (yy1 : y ≤ 360) (ih : ∀ (h : am_H) (l : am_L) (a' b' d' n' : Int), a' + b' + d' > a + b + d → 0 ≤ a' → a' ≤ ma → 0 ≤ b' → b' ≤ mb → 0 ≤ d' → d' ≤ md → n' ≤ a' + b' + d' → 0 ≤ n' → ly_hy m_tt ly_TH h → ly_fr cst js_mods h1 h → h1.length ≤ h.length → ly_hv cst h 20104 0 = some n' → wk (ly_hv cst h1 44032) (ly_hv cst h1 44288) (ly_hv cst h1 45056) N a' b' d' n' (ly_hv cst h 44544) = W → js_S cst (ly_hv cst h1 44032) h n' → hp_a l 0 94 → hp_i l 1 a' → hp_i l 2 b' → hp_i l 3 d' → hp_F cst strs Φ (D + 1) M 216 l [] h) (h : am_H) (l : am_L) (x' : Int32) (kk0 : 0 ≤ x'.toInt) (kk1 : x'.toInt ≤ 12) (hy : ly_hy m_tt ly_TH h) (fr : ly_fr cst js_mods h1 h) (len : h1.length ≤ h.length) (hn : ly_hv cst h 20104 0 = some n) (hyv : ly_hv cst h1 45056 (121 * a + 11 * b + d + 11) = some y) (hxv : ly_hv cst h1 45056 (121 * a + 11 * b + d) = some (x'.toInt + y)) (hW : wk (ly_hv cst h1 44032) (ly_hv cst h1 44288) (ly_hv cst h1 45056) N (a + 0) (b + 1) (d + 0) (n + 1) (wk_u (ly_hv cst h 44544) n (-1) b (-1)) = W) (S : js_S cst (ly_hv cst h1 44032) h n) (l0 : hp_a l 0 94) (l1 : hp_i l 1 a) (l2 : hp_i l 2 b) (l3 : hp_i l 3 d) (l4 : hp_i l 4 0) (l5 : hp_i l 5 5) (l6 : hp_i l 6 2) : hp_F cst strs Φ (D + 1) M 286 l [.int x'] h := by
  obtain ⟨v, hv, -, vh⟩ := hp_row (cst := cst) (i := b + 10) hy1 th_RL (by omega) (by omega)
  have vl := LP _ _ hv
  refine jx5_1 c hM (by omega) hy a b d ma mb md x'.toInt y n v x' rfl a0 (by omega) b0 (by omega) d0 (by omega) A0 A1 B0 B1 D0 D1 kk0 kk1 yy0 yy1 n0 (by omega) vl vh (by omega) (fr _ _ _ rfl k0) (fr _ _ _ rfl k1) (fr _ _ _ rfl k2) (fr _ _ _ rfl hyv) (fr _ _ _ rfl hxv) hn (fr _ _ _ rfl hv) l0 l1 l2 l3 l4 l5 l6 (fun la ha y0 y1 f0 f1 a1' a2' a3' an v0 v1 v2 v3 v4 v5 v6 v7 => ?_)
  refine hp_st (c := 174) hM (by decide +kernel) a1' th_RW rfl (by omega) (by omega) (by omega) (by omega) (fun hb b1' b2' b3' => ?_)
  rw [f0, f1] at b3'
  have Sb := js_pR (js_mv S a2' rfl rfl) b3' (Int.le_refl _)
  have bn : ly_hv cst hb 20104 0 = some n := by rw [hp_put_ne (r' := 20104) b3' (by decide)]; exact an
  have Rb := (hp_put_eq b3').trans (hp_upd_c (hRW rfl hy a1' a2') rfl rfl)
  refine jx5_2 c hM (by omega) b1' a b d n v a0 (by omega) b0 (by omega) d0 (by omega) n0 (by omega) vl vh bn v0 v1 v2 v3 v4 v5 v6 v7 (fun lb hc y2 y3 f2 f3 c1' c2' c3' cn w0 w1 w2 w3 w4 w5 w6 w7 => ?_)
  refine hp_st (c := 174) hM (by decide +kernel) c1' th_RW rfl (by omega) (by omega) (by omega) (by omega) (fun hd d1' d2' d3' => ?_)
  rw [f2, f3] at d3'
  have Sd := js_pR (js_mv Sb c2' rfl rfl) d3' (by omega)
  have dn : ly_hv cst hd 20104 0 = some n := by rw [hp_put_ne (r' := 20104) d3' (by decide)]; exact cn
  have Rd := (hp_put_eq d3').trans (hp_upd_c ((hRW rfl b1' c1' c2').trans Rb) rfl rfl)
  refine jx5_3 c hM (by omega) d1' a b d n v a0 (by omega) b0 (by omega) d0 (by omega) n0 (by omega) vl vh dn w0 w1 w2 w3 w4 w5 w6 w7 (fun lc he y4 y5 f4 f5 e1' e2' e3' en z0 z1 z2 z3 z4 z5 z6 z7 => ?_)
  refine hp_st (c := 174) hM (by decide +kernel) e1' th_RW rfl (by omega) (by omega) (by omega) (by omega) (fun hf g1' g2' g3' => ?_)
  rw [f4, f5] at g3'
  have Sf := js_pR (js_mv Sd e2' rfl rfl) g3' (by omega)
  have fn : ly_hv cst hf 20104 0 = some n := by rw [hp_put_ne (r' := 20104) g3' (by decide)]; exact en
  have Rf : ly_hv cst hf 44544 = wk_u (ly_hv cst h 44544) n (-1) b (-1) := (hp_put_eq g3').trans (hp_upd_c ((hRW rfl d1' e1' e2').trans Rd) rfl rfl)
  have ff : ly_fr cst js_mods h1 hf := ly_fr_tr fr (ly_fr_tr (hp_fr0 a2') (ly_fr_tr (hp_put_fr (by rfl) b3') (ly_fr_tr (hp_fr0 c2') (ly_fr_tr (hp_put_fr (by rfl) d3') (ly_fr_tr (hp_fr0 e2') (hp_put_fr (by rfl) g3'))))))
  have lf : h1.length ≤ hf.length := by omega
  have r0 : ly_hv cst hf 44544 (3 * n) = some (-1) := by rw [Rf]; exact (hp_upd_ne (by omega)).trans ((hp_upd_ne (by omega)).trans (hp_upd_eq rfl))
  have r1 : ly_hv cst hf 44544 (3 * n + 1) = some b := by rw [Rf]; exact (hp_upd_ne (by omega)).trans (hp_upd_eq rfl)
  have r2 : ly_hv cst hf 44544 (3 * n + 2) = some (-1) := by rw [Rf]; exact hp_upd_eq rfl
  have last : ∀ (ld : am_L) (hg : am_H) (yv yi : Int32), ly_hy m_tt ly_TH hg → ly_fr cst [] hf hg → hf.length ≤ hg.length → ly_hv cst hg 20104 0 = some n → yi.toInt = n → (vp_nar .boolean yv).toInt = sr (ly_hv cst h1 44032) (-1) b (-1) → 0 ≤ (vp_nar .boolean yv).toInt → (vp_nar .boolean yv).toInt ≤ 1 → hp_a ld 0 94 → hp_i ld 1 a → hp_i ld 2 b → hp_i ld 3 d → hp_i ld 4 2 → hp_F cst strs Φ (D + 1) M 539 ld [.int yv, .int yi, .ref 191] hg := by
    intro ld hg yv yi q1 q2 q3 q4 q5 q6 q7 q8 t0 t1 t2 t3 t4
    refine hp_stz (c := 175) hM (by decide +kernel) q1 th_RS rfl (by omega) (by omega) q7 q8 (fun hh s1 s2 s3 => ?_)
    rw [q5] at s3
    have hn' : ly_hv cst hh 20104 0 = some n := by rw [hp_put_ne (r' := 20104) s3 (by decide)]; exact q4
    have Sh := js_pS (js_mv Sf q2 rfl rfl) s3 (q2 _ _ _ rfl r0) (q2 _ _ _ rfl r1) (q2 _ _ _ rfl r2) q6
    exact jx5_5 c hM (by omega) s1 a b d ma mb md n a0 (by omega) b0 (by omega) d0 (by omega) A0 A1 B0 B1 D0 D1 n0 (by omega) (by omega) hn' t0 t1 t2 t3 t4 (fun le hi i1 i2 i3 ni o0 o1 o2 o3 => ih hi le (a + 0) (b + 1) (d + 0) (n + 1) (by omega) (by omega) (by omega) (by omega) (by omega) (by omega) (by omega) (by omega) (by omega) i1 (ly_fr_tr ff (ly_fr_tr (hp_fr0 q2) (ly_fr_tr (hp_put_fr (by rfl) s3) (hp_sub2 rfl i2)))) (by omega) ni (by rw [hRW rfl s1 i1 i2, hp_put_ne (r' := 44544) s3 (by decide), hRW rfl g1' q1 q2, Rf]; exact hW) (js_mv Sh i2 rfl rfl) o0 (by rw [Int.add_zero]; exact o1) o2 (by rw [Int.add_zero]; exact o3))
  exact jx5_4n c hM (by omega) g1' a b d n v a0 (by omega) b0 (by omega) d0 (by omega) n0 (by omega) vl vh fn  z0 z1 z2 z3 z4 z5 z6 z7 (fun ld hg yv yi fv fi q1 q2 q3 q4 t0 t1 t2 t3 t4 => last ld hg yv yi q1 q2 q3 q4 fi (by rw [vz_0 fv, show sr (ly_hv cst h1 44032) (-1) b (-1) = 0 from by unfold sr; rw [if_neg (by omega)]]) (by rw [vz_0 fv]; decide) (by rw [vz_0 fv]; decide) t0 t1 t2 t3 t4)
theorem je6 (c1 : hp_C cst strs D) (c : hp_C cst strs (D + 1)) (hM : m_P[411]? = some M) (hD : (5 : Int) ≤ ((D + 1 : Nat) : Int) + 1) (A0 : 0 ≤ ma) (A1 : ma ≤ 10) (B0 : 0 ≤ mb) (B1 : mb ≤ 10) (D0 : 0 ≤ md) (D1 : md ≤ 10) (hy1 : ly_hy m_tt ly_TH h1) (k0 : ly_hv cst h1 44288 0 = some ma) (k1 : ly_hv cst h1 44288 1 = some mb) (k2 : ly_hv cst h1 44288 2 = some md) (LP : ∀ k v, ly_hv cst h1 44032 k = some v → 0 ≤ v) {a b d n y : Int} (a0 : 0 ≤ a) (a1 : a ≤ ma) (b0 : 0 ≤ b) (b1 : b ≤ mb) (d0 : 0 ≤ d) (d1 : d ≤ md) (val : d < md) (n0 : 0 ≤ n) (n1 : n ≤ a + b + d) (yy0 : 0 ≤ y) (yy1 : y ≤ 360) (ih : ∀ (h : am_H) (l : am_L) (a' b' d' n' : Int), a' + b' + d' > a + b + d → 0 ≤ a' → a' ≤ ma → 0 ≤ b' → b' ≤ mb → 0 ≤ d' → d' ≤ md → n' ≤ a' + b' + d' → 0 ≤ n' → ly_hy m_tt ly_TH h → ly_fr cst js_mods h1 h → h1.length ≤ h.length → ly_hv cst h 20104 0 = some n' → wk (ly_hv cst h1 44032) (ly_hv cst h1 44288) (ly_hv cst h1 45056) N a' b' d' n' (ly_hv cst h 44544) = W → js_S cst (ly_hv cst h1 44032) h n' → hp_a l 0 94 → hp_i l 1 a' → hp_i l 2 b' → hp_i l 3 d' → hp_F cst strs Φ (D + 1) M 216 l [] h) (h : am_H) (l : am_L) (x' : Int32) (kk0 : 0 ≤ x'.toInt) (kk1 : x'.toInt ≤ 12) (hy : ly_hy m_tt ly_TH h) (fr : ly_fr cst js_mods h1 h) (len : h1.length ≤ h.length) (hn : ly_hv cst h 20104 0 = some n) (hyv : ly_hv cst h1 45056 (121 * a + 11 * b + d + 1) = some y) (hxv : ly_hv cst h1 45056 (121 * a + 11 * b + d) = some (x'.toInt + y)) (hW : wk (ly_hv cst h1 44032) (ly_hv cst h1 44288) (ly_hv cst h1 45056) N (a + 0) (b + 0) (d + 1) (n + 1) (wk_u (ly_hv cst h 44544) n (-1) (-1) d) = W) (S : js_S cst (ly_hv cst h1 44032) h n) (l0 : hp_a l 0 94) (l1 : hp_i l 1 a) (l2 : hp_i l 2 b) (l3 : hp_i l 3 d) (l4 : hp_i l 4 0) (l5 : hp_i l 5 6) (l6 : hp_i l 6 4) : hp_F cst strs Φ (D + 1) M 286 l [.int x'] h := by
  obtain ⟨w, hw, -, wh⟩ := hp_row (cst := cst) (i := d + 20) hy1 th_RL (by omega) (by omega)
  have wl := LP _ _ hw
  refine jx6_1 c hM (by omega) hy a b d ma mb md x'.toInt y n w x' rfl a0 (by omega) b0 (by omega) d0 (by omega) A0 A1 B0 B1 D0 D1 kk0 kk1 yy0 yy1 n0 (by omega) wl wh (by omega) (fr _ _ _ rfl k0) (fr _ _ _ rfl k1) (fr _ _ _ rfl k2) (fr _ _ _ rfl hyv) (fr _ _ _ rfl hxv) hn (fr _ _ _ rfl hw) l0 l1 l2 l3 l4 l5 l6 (fun la ha y0 y1 f0 f1 a1' a2' a3' an v0 v1 v2 v3 v4 v5 v6 v7 => ?_)
  refine hp_st (c := 174) hM (by decide +kernel) a1' th_RW rfl (by omega) (by omega) (by omega) (by omega) (fun hb b1' b2' b3' => ?_)
  rw [f0, f1] at b3'
  have Sb := js_pR (js_mv S a2' rfl rfl) b3' (Int.le_refl _)
  have bn : ly_hv cst hb 20104 0 = some n := by rw [hp_put_ne (r' := 20104) b3' (by decide)]; exact an
  have Rb := (hp_put_eq b3').trans (hp_upd_c (hRW rfl hy a1' a2') rfl rfl)
  refine jx6_2 c hM (by omega) b1' a b d n w a0 (by omega) b0 (by omega) d0 (by omega) n0 (by omega) wl wh bn v0 v1 v2 v3 v4 v5 v6 v7 (fun lb hc y2 y3 f2 f3 c1' c2' c3' cn w0 w1 w2 w3 w4 w5 w6 w7 => ?_)
  refine hp_st (c := 174) hM (by decide +kernel) c1' th_RW rfl (by omega) (by omega) (by omega) (by omega) (fun hd d1' d2' d3' => ?_)
  rw [f2, f3] at d3'
  have Sd := js_pR (js_mv Sb c2' rfl rfl) d3' (by omega)
  have dn : ly_hv cst hd 20104 0 = some n := by rw [hp_put_ne (r' := 20104) d3' (by decide)]; exact cn
  have Rd := (hp_put_eq d3').trans (hp_upd_c ((hRW rfl b1' c1' c2').trans Rb) rfl rfl)
  refine jx6_3 c hM (by omega) d1' a b d n w a0 (by omega) b0 (by omega) d0 (by omega) n0 (by omega) wl wh dn w0 w1 w2 w3 w4 w5 w6 w7 (fun lc he y4 y5 f4 f5 e1' e2' e3' en z0 z1 z2 z3 z4 z5 z6 z7 => ?_)
  refine hp_st (c := 174) hM (by decide +kernel) e1' th_RW rfl (by omega) (by omega) (by omega) (by omega) (fun hf g1' g2' g3' => ?_)
  rw [f4, f5] at g3'
  have Sf := js_pR (js_mv Sd e2' rfl rfl) g3' (by omega)
  have fn : ly_hv cst hf 20104 0 = some n := by rw [hp_put_ne (r' := 20104) g3' (by decide)]; exact en
  have Rf : ly_hv cst hf 44544 = wk_u (ly_hv cst h 44544) n (-1) (-1) d := (hp_put_eq g3').trans (hp_upd_c ((hRW rfl d1' e1' e2').trans Rd) rfl rfl)
  have ff : ly_fr cst js_mods h1 hf := ly_fr_tr fr (ly_fr_tr (hp_fr0 a2') (ly_fr_tr (hp_put_fr (by rfl) b3') (ly_fr_tr (hp_fr0 c2') (ly_fr_tr (hp_put_fr (by rfl) d3') (ly_fr_tr (hp_fr0 e2') (hp_put_fr (by rfl) g3'))))))
  have lf : h1.length ≤ hf.length := by omega
  have r0 : ly_hv cst hf 44544 (3 * n) = some (-1) := by rw [Rf]; exact (hp_upd_ne (by omega)).trans ((hp_upd_ne (by omega)).trans (hp_upd_eq rfl))
  have r1 : ly_hv cst hf 44544 (3 * n + 1) = some (-1) := by rw [Rf]; exact (hp_upd_ne (by omega)).trans (hp_upd_eq rfl)
  have r2 : ly_hv cst hf 44544 (3 * n + 2) = some d := by rw [Rf]; exact hp_upd_eq rfl
  have last : ∀ (ld : am_L) (hg : am_H) (yv yi : Int32), ly_hy m_tt ly_TH hg → ly_fr cst [] hf hg → hf.length ≤ hg.length → ly_hv cst hg 20104 0 = some n → yi.toInt = n → (vp_nar .boolean yv).toInt = sr (ly_hv cst h1 44032) (-1) (-1) d → 0 ≤ (vp_nar .boolean yv).toInt → (vp_nar .boolean yv).toInt ≤ 1 → hp_a ld 0 94 → hp_i ld 1 a → hp_i ld 2 b → hp_i ld 3 d → hp_i ld 4 4 → hp_F cst strs Φ (D + 1) M 539 ld [.int yv, .int yi, .ref 191] hg := by
    intro ld hg yv yi q1 q2 q3 q4 q5 q6 q7 q8 t0 t1 t2 t3 t4
    refine hp_stz (c := 175) hM (by decide +kernel) q1 th_RS rfl (by omega) (by omega) q7 q8 (fun hh s1 s2 s3 => ?_)
    rw [q5] at s3
    have hn' : ly_hv cst hh 20104 0 = some n := by rw [hp_put_ne (r' := 20104) s3 (by decide)]; exact q4
    have Sh := js_pS (js_mv Sf q2 rfl rfl) s3 (q2 _ _ _ rfl r0) (q2 _ _ _ rfl r1) (q2 _ _ _ rfl r2) q6
    exact jx6_5 c hM (by omega) s1 a b d ma mb md n a0 (by omega) b0 (by omega) d0 (by omega) A0 A1 B0 B1 D0 D1 n0 (by omega) (by omega) hn' t0 t1 t2 t3 t4 (fun le hi i1 i2 i3 ni o0 o1 o2 o3 => ih hi le (a + 0) (b + 0) (d + 1) (n + 1) (by omega) (by omega) (by omega) (by omega) (by omega) (by omega) (by omega) (by omega) (by omega) i1 (ly_fr_tr ff (ly_fr_tr (hp_fr0 q2) (ly_fr_tr (hp_put_fr (by rfl) s3) (hp_sub2 rfl i2)))) (by omega) ni (by rw [hRW rfl s1 i1 i2, hp_put_ne (r' := 44544) s3 (by decide), hRW rfl g1' q1 q2, Rf]; exact hW) (js_mv Sh i2 rfl rfl) o0 (by rw [Int.add_zero]; exact o1) (by rw [Int.add_zero]; exact o2) o3)
  exact jx6_4n c hM (by omega) g1' a b d n w a0 (by omega) b0 (by omega) d0 (by omega) n0 (by omega) wl wh fn  z0 z1 z2 z3 z4 z5 z6 z7 (fun ld hg yv yi fv fi q1 q2 q3 q4 t0 t1 t2 t3 t4 => last ld hg yv yi q1 q2 q3 q4 fi (by rw [vz_0 fv, show sr (ly_hv cst h1 44032) (-1) (-1) d = 0 from by unfold sr; rw [if_neg (by omega)]]) (by rw [vz_0 fv]; decide) (by rw [vz_0 fv]; decide) t0 t1 t2 t3 t4)
theorem jr6 (c1 : hp_C cst strs D) (c : hp_C cst strs (D + 1)) (hM : m_P[411]? = some M) (hD : (5 : Int) ≤ ((D + 1 : Nat) : Int) + 1) (A0 : 0 ≤ ma) (A1 : ma ≤ 10) (B0 : 0 ≤ mb) (B1 : mb ≤ 10) (D0 : 0 ≤ md) (D1 : md ≤ 10) (hy1 : ly_hy m_tt ly_TH h1) (k0 : ly_hv cst h1 44288 0 = some ma) (k1 : ly_hv cst h1 44288 1 = some mb) (k2 : ly_hv cst h1 44288 2 = some md) (LP : ∀ k v, ly_hv cst h1 44032 k = some v → 0 ≤ v) (T : ju_T (ly_hv cst h1 44032) (ly_hv cst h1 44288) (ly_hv cst h1 45056) ma mb md (-1)) {a b d n x : Int} (a0 : 0 ≤ a) (a1 : a ≤ ma) (b0 : 0 ≤ b) (b1 : b ≤ mb) (d0 : 0 ≤ d) (d1 : d ≤ md) (n0 : 0 ≤ n) (n1 : n ≤ a + b + d) (ih : ∀ (h : am_H) (l : am_L) (a' b' d' n' : Int), a' + b' + d' > a + b + d → 0 ≤ a' → a' ≤ ma → 0 ≤ b' → b' ≤ mb → 0 ≤ d' → d' ≤ md → n' ≤ a' + b' + d' → 0 ≤ n' → ly_hy m_tt ly_TH h → ly_fr cst js_mods h1 h → h1.length ≤ h.length → ly_hv cst h 20104 0 = some n' → wk (ly_hv cst h1 44032) (ly_hv cst h1 44288) (ly_hv cst h1 45056) N a' b' d' n' (ly_hv cst h 44544) = W → js_S cst (ly_hv cst h1 44032) h n' → hp_a l 0 94 → hp_i l 1 a' → hp_i l 2 b' → hp_i l 3 d' → hp_F cst strs Φ (D + 1) M 216 l [] h) (h : am_H) (l : am_L) (y0 y1 y2 y3 : Int32) (hy0 : y0.toInt = d) (hy1' : y1.toInt = b) (hy2 : y2.toInt = a) (hy3 : y3.toInt = 4) (hy : ly_hy m_tt ly_TH h) (fr : ly_fr cst js_mods h1 h) (len : h1.length ≤ h.length) (hn : ly_hv cst h 20104 0 = some n) (hxv : ly_hv cst h1 45056 (121 * a + 11 * b + d) = some x) (x0 : 0 ≤ x) (x1 : x ≤ 360) (R : jn_w (ly_hv cst h1 44032) (ly_hv cst h1 44288) (ly_hv cst h1 45056) a b d x 4 1) (FF : ju_F (ly_hv cst h1 44032) (ly_hv cst h1 44288) (ly_hv cst h1 45056) a b d x 6) (hW : wk (ly_hv cst h1 44032) (ly_hv cst h1 44288) (ly_hv cst h1 45056) (N + 1) a b d n (ly_hv cst h 44544) = W) (S : js_S cst (ly_hv cst h1 44032) h n) (l0 : hp_a l 0 94) (l1 : hp_i l 1 a) (l2 : hp_i l 2 b) (l3 : hp_i l 3 d) (l4 : hp_i l 4 0) (l5 : hp_i l 5 6) (l6 : hp_i l 6 4) : hp_F cst strs Φ (D + 1) M 283 l [.int y0, .int y1, .int y2, .int y3, .ref 94] h := by
  obtain ⟨r, hrun, ⟨x', r1, hx⟩, r2, r3, rhy, rfr, rlen⟩ := rc_run c1 (by omega) hy (xs := y3) (xa := y2) (xb := y1) (xd := y0) (by omega) (by omega) (by omega) (by omega) (by omega) (by omega) (by omega)
  refine hp_call (mi := 411) (pc := 283) (tg := 412) (na := 5) (c := 78) (ci := 12) (st0 := [.int y0, .int y1, .int y2, .int y3, .ref 94]) (st := []) (av := [.int y3, .int y2, .int y1, .int y0]) hM (by decide +kernel) hy rfl rfl rfl (by decide) hrun r2 r3 ?_
  rw [r1]
  rw [hy0, hy1', hy2, hy3, hRL rfl hy1 hy fr, hRM rfl hy1 hy fr] at hx
  have fr2 : ly_fr cst js_mods h1 r.2.1 := ly_fr_tr fr (hp_fr0 rfr)
  have len2 := Nat.le_trans len rlen
  have hn2 := rfr _ _ _ rfl hn
  have hW2 := hW
  rw [← hRW rfl hy rhy rfr] at hW2
  have S2 := js_mv S rfr rfl rfl
  rcases rcb4 (f := (ly_hv cst h1 44032)) (a := a) (b := b) (d := d) k0 k1 k2 with hk | ⟨kk0, kk1, p0⟩
  · exact absurd R.1 (by rw [hk]; decide)
  · obtain ⟨y, hyv, yy0, yy1, -⟩ := T (a + 0) (b + 0) (d + 1) (by omega) (by omega) (by omega) (by omega) (by omega) (by omega) (by omega)
    rw [show 121 * (a + 0) + 11 * (b + 0) + (d + 1) = 121 * a + 11 * b + d + 1 by omega] at hyv
    have he : x'.toInt + y = x := by
      obtain ⟨-, y2, h1, h2⟩ := R
      rw [hyv] at h1
      cases h1
      omega
    exact je6 c1 c hM hD A0 A1 B0 B1 D0 D1 hy1 k0 k1 k2 LP a0 a1 b0 b1 d0 d1 p0 n0 n1 yy0 (by omega) ih r.2.1 l x' (by omega) (by omega) rhy fr2 len2 hn2 hyv (by rw [he]; exact hxv) (by rw [← wk_go4 (wk_t_6 hxv ⟨kk0, y, hyv, by omega⟩ FF)]; exact hW2) S2 l0 l1 l2 l3 l4 l5 l6
theorem jr5 (c1 : hp_C cst strs D) (c : hp_C cst strs (D + 1)) (hM : m_P[411]? = some M) (hD : (5 : Int) ≤ ((D + 1 : Nat) : Int) + 1) (A0 : 0 ≤ ma) (A1 : ma ≤ 10) (B0 : 0 ≤ mb) (B1 : mb ≤ 10) (D0 : 0 ≤ md) (D1 : md ≤ 10) (hy1 : ly_hy m_tt ly_TH h1) (k0 : ly_hv cst h1 44288 0 = some ma) (k1 : ly_hv cst h1 44288 1 = some mb) (k2 : ly_hv cst h1 44288 2 = some md) (LP : ∀ k v, ly_hv cst h1 44032 k = some v → 0 ≤ v) (T : ju_T (ly_hv cst h1 44032) (ly_hv cst h1 44288) (ly_hv cst h1 45056) ma mb md (-1)) {a b d n x : Int} (a0 : 0 ≤ a) (a1 : a ≤ ma) (b0 : 0 ≤ b) (b1 : b ≤ mb) (d0 : 0 ≤ d) (d1 : d ≤ md) (n0 : 0 ≤ n) (n1 : n ≤ a + b + d) (ih : ∀ (h : am_H) (l : am_L) (a' b' d' n' : Int), a' + b' + d' > a + b + d → 0 ≤ a' → a' ≤ ma → 0 ≤ b' → b' ≤ mb → 0 ≤ d' → d' ≤ md → n' ≤ a' + b' + d' → 0 ≤ n' → ly_hy m_tt ly_TH h → ly_fr cst js_mods h1 h → h1.length ≤ h.length → ly_hv cst h 20104 0 = some n' → wk (ly_hv cst h1 44032) (ly_hv cst h1 44288) (ly_hv cst h1 45056) N a' b' d' n' (ly_hv cst h 44544) = W → js_S cst (ly_hv cst h1 44032) h n' → hp_a l 0 94 → hp_i l 1 a' → hp_i l 2 b' → hp_i l 3 d' → hp_F cst strs Φ (D + 1) M 216 l [] h) (h : am_H) (l : am_L) (y0 y1 y2 y3 : Int32) (hy0 : y0.toInt = d) (hy1' : y1.toInt = b) (hy2 : y2.toInt = a) (hy3 : y3.toInt = 2) (hy : ly_hy m_tt ly_TH h) (fr : ly_fr cst js_mods h1 h) (len : h1.length ≤ h.length) (hn : ly_hv cst h 20104 0 = some n) (hxv : ly_hv cst h1 45056 (121 * a + 11 * b + d) = some x) (x0 : 0 ≤ x) (x1 : x ≤ 360) (R : jn_w (ly_hv cst h1 44032) (ly_hv cst h1 44288) (ly_hv cst h1 45056) a b d x 2 11 ∨ jn_w (ly_hv cst h1 44032) (ly_hv cst h1 44288) (ly_hv cst h1 45056) a b d x 4 1) (FF : ju_F (ly_hv cst h1 44032) (ly_hv cst h1 44288) (ly_hv cst h1 45056) a b d x 5) (hW : wk (ly_hv cst h1 44032) (ly_hv cst h1 44288) (ly_hv cst h1 45056) (N + 1) a b d n (ly_hv cst h 44544) = W) (S : js_S cst (ly_hv cst h1 44032) h n) (l0 : hp_a l 0 94) (l1 : hp_i l 1 a) (l2 : hp_i l 2 b) (l3 : hp_i l 3 d) (l4 : hp_i l 4 0) (l5 : hp_i l 5 5) (l6 : hp_i l 6 2) : hp_F cst strs Φ (D + 1) M 283 l [.int y0, .int y1, .int y2, .int y3, .ref 94] h := by
  obtain ⟨r, hrun, ⟨x', r1, hx⟩, r2, r3, rhy, rfr, rlen⟩ := rc_run c1 (by omega) hy (xs := y3) (xa := y2) (xb := y1) (xd := y0) (by omega) (by omega) (by omega) (by omega) (by omega) (by omega) (by omega)
  refine hp_call (mi := 411) (pc := 283) (tg := 412) (na := 5) (c := 78) (ci := 12) (st0 := [.int y0, .int y1, .int y2, .int y3, .ref 94]) (st := []) (av := [.int y3, .int y2, .int y1, .int y0]) hM (by decide +kernel) hy rfl rfl rfl (by decide) hrun r2 r3 ?_
  rw [r1]
  rw [hy0, hy1', hy2, hy3, hRL rfl hy1 hy fr, hRM rfl hy1 hy fr] at hx
  have fr2 : ly_fr cst js_mods h1 r.2.1 := ly_fr_tr fr (hp_fr0 rfr)
  have len2 := Nat.le_trans len rlen
  have hn2 := rfr _ _ _ rfl hn
  have hW2 := hW
  rw [← hRW rfl hy rhy rfr] at hW2
  have S2 := js_mv S rfr rfl rfl
  rcases rcb2 (f := (ly_hv cst h1 44032)) (a := a) (b := b) (d := d) k0 k1 k2 with hk | ⟨kk0, kk1, p0⟩
  · have R2 := R.resolve_left (fun w => by have := w.1; rw [hk] at this; exact absurd this (by decide))
    have F2 := ju_Fn5 FF (fun t => absurd t (by rw [hk]; decide))
    exact jw5n c hM hD rhy a b d ma mb md x' (by omega) a0 (by omega) b0 (by omega) d0 (by omega) A0 A1 B0 B1 D0 D1 l0 l1 l2 l3 l4 l5 l6 (fun l' h2 z0 z1 z2 z3 w0 w1 w2 w3 u1 u2 u3 v0 v1 v2 v3 v4 v5 v6 => jr6 c1 c hM hD A0 A1 B0 B1 D0 D1 hy1 k0 k1 k2 LP T a0 a1 b0 b1 d0 d1 n0 n1 ih h2 l' z0 z1 z2 z3 w0 w1 w2 w3 u1 (ly_fr_tr fr2 (hp_fr0 u2)) (Nat.le_trans len2 u3) (u2 _ _ _ rfl hn2) hxv x0 x1 R2 F2 (by rw [hRW rfl rhy u1 u2]; exact hW2) (js_mv S2 u2 rfl rfl) v0 v1 v2 v3 v4 v5 v6)
  · obtain ⟨y, hyv, yy0, yy1, -⟩ := T (a + 0) (b + 1) (d + 0) (by omega) (by omega) (by omega) (by omega) (by omega) (by omega) (by omega)
    rw [show 121 * (a + 0) + 11 * (b + 1) + (d + 0) = 121 * a + 11 * b + d + 11 by omega] at hyv
    by_cases he : x'.toInt + y = x
    · exact je5 c1 c hM hD A0 A1 B0 B1 D0 D1 hy1 k0 k1 k2 LP a0 a1 b0 b1 d0 d1 p0 n0 n1 yy0 (by omega) ih r.2.1 l x' (by omega) (by omega) rhy fr2 len2 hn2 hyv (by rw [he]; exact hxv) (by rw [← wk_go2 (wk_t_5 hxv ⟨kk0, y, hyv, by omega⟩ FF)]; exact hW2) S2 l0 l1 l2 l3 l4 l5 l6
    · have R2 := R.resolve_left (fun w => by
        obtain ⟨-, y2, h1, h2⟩ := w
        rw [hyv] at h1
        cases h1
        exact he (by omega))
      have F2 := ju_Fn5 FF (fun _ y2 h2 => by rw [hyv] at h2; cases h2; omega)
      exact jw5q c hM hD rhy a b d ma mb md x'.toInt y x x' rfl a0 (by omega) b0 (by omega) d0 (by omega) A0 A1 B0 B1 D0 D1 (by omega) (by omega) yy0 (by omega) x0 x1 (by omega) (fr2 _ _ _ rfl k0) (fr2 _ _ _ rfl k1) (fr2 _ _ _ rfl k2) (fr2 _ _ _ rfl hyv) (fr2 _ _ _ rfl hxv) (hp_ne (by omega)) l0 l1 l2 l3 l4 l5 l6 (fun l' h2 z0 z1 z2 z3 w0 w1 w2 w3 u1 u2 u3 v0 v1 v2 v3 v4 v5 v6 => jr6 c1 c hM hD A0 A1 B0 B1 D0 D1 hy1 k0 k1 k2 LP T a0 a1 b0 b1 d0 d1 n0 n1 ih h2 l' z0 z1 z2 z3 w0 w1 w2 w3 u1 (ly_fr_tr fr2 (hp_fr0 u2)) (Nat.le_trans len2 u3) (u2 _ _ _ rfl hn2) hxv x0 x1 R2 F2 (by rw [hRW rfl rhy u1 u2]; exact hW2) (js_mv S2 u2 rfl rfl) v0 v1 v2 v3 v4 v5 v6)
theorem jr4 (c1 : hp_C cst strs D) (c : hp_C cst strs (D + 1)) (hM : m_P[411]? = some M) (hD : (5 : Int) ≤ ((D + 1 : Nat) : Int) + 1) (A0 : 0 ≤ ma) (A1 : ma ≤ 10) (B0 : 0 ≤ mb) (B1 : mb ≤ 10) (D0 : 0 ≤ md) (D1 : md ≤ 10) (hy1 : ly_hy m_tt ly_TH h1) (k0 : ly_hv cst h1 44288 0 = some ma) (k1 : ly_hv cst h1 44288 1 = some mb) (k2 : ly_hv cst h1 44288 2 = some md) (LP : ∀ k v, ly_hv cst h1 44032 k = some v → 0 ≤ v) (T : ju_T (ly_hv cst h1 44032) (ly_hv cst h1 44288) (ly_hv cst h1 45056) ma mb md (-1)) {a b d n x : Int} (a0 : 0 ≤ a) (a1 : a ≤ ma) (b0 : 0 ≤ b) (b1 : b ≤ mb) (d0 : 0 ≤ d) (d1 : d ≤ md) (n0 : 0 ≤ n) (n1 : n ≤ a + b + d) (ih : ∀ (h : am_H) (l : am_L) (a' b' d' n' : Int), a' + b' + d' > a + b + d → 0 ≤ a' → a' ≤ ma → 0 ≤ b' → b' ≤ mb → 0 ≤ d' → d' ≤ md → n' ≤ a' + b' + d' → 0 ≤ n' → ly_hy m_tt ly_TH h → ly_fr cst js_mods h1 h → h1.length ≤ h.length → ly_hv cst h 20104 0 = some n' → wk (ly_hv cst h1 44032) (ly_hv cst h1 44288) (ly_hv cst h1 45056) N a' b' d' n' (ly_hv cst h 44544) = W → js_S cst (ly_hv cst h1 44032) h n' → hp_a l 0 94 → hp_i l 1 a' → hp_i l 2 b' → hp_i l 3 d' → hp_F cst strs Φ (D + 1) M 216 l [] h) (h : am_H) (l : am_L) (y0 y1 y2 y3 : Int32) (hy0 : y0.toInt = d) (hy1' : y1.toInt = b) (hy2 : y2.toInt = a) (hy3 : y3.toInt = 1) (hy : ly_hy m_tt ly_TH h) (fr : ly_fr cst js_mods h1 h) (len : h1.length ≤ h.length) (hn : ly_hv cst h 20104 0 = some n) (hxv : ly_hv cst h1 45056 (121 * a + 11 * b + d) = some x) (x0 : 0 ≤ x) (x1 : x ≤ 360) (R : jn_w (ly_hv cst h1 44032) (ly_hv cst h1 44288) (ly_hv cst h1 45056) a b d x 1 121 ∨ jn_w (ly_hv cst h1 44032) (ly_hv cst h1 44288) (ly_hv cst h1 45056) a b d x 2 11 ∨ jn_w (ly_hv cst h1 44032) (ly_hv cst h1 44288) (ly_hv cst h1 45056) a b d x 4 1) (FF : ju_F (ly_hv cst h1 44032) (ly_hv cst h1 44288) (ly_hv cst h1 45056) a b d x 4) (hW : wk (ly_hv cst h1 44032) (ly_hv cst h1 44288) (ly_hv cst h1 45056) (N + 1) a b d n (ly_hv cst h 44544) = W) (S : js_S cst (ly_hv cst h1 44032) h n) (l0 : hp_a l 0 94) (l1 : hp_i l 1 a) (l2 : hp_i l 2 b) (l3 : hp_i l 3 d) (l4 : hp_i l 4 0) (l5 : hp_i l 5 4) (l6 : hp_i l 6 1) : hp_F cst strs Φ (D + 1) M 283 l [.int y0, .int y1, .int y2, .int y3, .ref 94] h := by
  obtain ⟨r, hrun, ⟨x', r1, hx⟩, r2, r3, rhy, rfr, rlen⟩ := rc_run c1 (by omega) hy (xs := y3) (xa := y2) (xb := y1) (xd := y0) (by omega) (by omega) (by omega) (by omega) (by omega) (by omega) (by omega)
  refine hp_call (mi := 411) (pc := 283) (tg := 412) (na := 5) (c := 78) (ci := 12) (st0 := [.int y0, .int y1, .int y2, .int y3, .ref 94]) (st := []) (av := [.int y3, .int y2, .int y1, .int y0]) hM (by decide +kernel) hy rfl rfl rfl (by decide) hrun r2 r3 ?_
  rw [r1]
  rw [hy0, hy1', hy2, hy3, hRL rfl hy1 hy fr, hRM rfl hy1 hy fr] at hx
  have fr2 : ly_fr cst js_mods h1 r.2.1 := ly_fr_tr fr (hp_fr0 rfr)
  have len2 := Nat.le_trans len rlen
  have hn2 := rfr _ _ _ rfl hn
  have hW2 := hW
  rw [← hRW rfl hy rhy rfr] at hW2
  have S2 := js_mv S rfr rfl rfl
  rcases rcb1 (f := (ly_hv cst h1 44032)) (a := a) (b := b) (d := d) k0 k1 k2 with hk | ⟨kk0, kk1, p0⟩
  · have R2 := R.resolve_left (fun w => by have := w.1; rw [hk] at this; exact absurd this (by decide))
    have F2 := ju_Fn4 FF (fun t => absurd t (by rw [hk]; decide))
    exact jw4n c hM hD rhy a b d ma mb md x' (by omega) a0 (by omega) b0 (by omega) d0 (by omega) A0 A1 B0 B1 D0 D1 l0 l1 l2 l3 l4 l5 l6 (fun l' h2 z0 z1 z2 z3 w0 w1 w2 w3 u1 u2 u3 v0 v1 v2 v3 v4 v5 v6 => jr5 c1 c hM hD A0 A1 B0 B1 D0 D1 hy1 k0 k1 k2 LP T a0 a1 b0 b1 d0 d1 n0 n1 ih h2 l' z0 z1 z2 z3 w0 w1 w2 w3 u1 (ly_fr_tr fr2 (hp_fr0 u2)) (Nat.le_trans len2 u3) (u2 _ _ _ rfl hn2) hxv x0 x1 R2 F2 (by rw [hRW rfl rhy u1 u2]; exact hW2) (js_mv S2 u2 rfl rfl) v0 v1 v2 v3 v4 v5 v6)
  · obtain ⟨y, hyv, yy0, yy1, -⟩ := T (a + 1) (b + 0) (d + 0) (by omega) (by omega) (by omega) (by omega) (by omega) (by omega) (by omega)
    rw [show 121 * (a + 1) + 11 * (b + 0) + (d + 0) = 121 * a + 11 * b + d + 121 by omega] at hyv
    by_cases he : x'.toInt + y = x
    · exact je4 c1 c hM hD A0 A1 B0 B1 D0 D1 hy1 k0 k1 k2 LP a0 a1 b0 b1 d0 d1 p0 n0 n1 yy0 (by omega) ih r.2.1 l x' (by omega) (by omega) rhy fr2 len2 hn2 hyv (by rw [he]; exact hxv) (by rw [← wk_go1 (wk_t_4 hxv ⟨kk0, y, hyv, by omega⟩ FF)]; exact hW2) S2 l0 l1 l2 l3 l4 l5 l6
    · have R2 := R.resolve_left (fun w => by
        obtain ⟨-, y2, h1, h2⟩ := w
        rw [hyv] at h1
        cases h1
        exact he (by omega))
      have F2 := ju_Fn4 FF (fun _ y2 h2 => by rw [hyv] at h2; cases h2; omega)
      exact jw4q c hM hD rhy a b d ma mb md x'.toInt y x x' rfl a0 (by omega) b0 (by omega) d0 (by omega) A0 A1 B0 B1 D0 D1 (by omega) (by omega) yy0 (by omega) x0 x1 (by omega) (fr2 _ _ _ rfl k0) (fr2 _ _ _ rfl k1) (fr2 _ _ _ rfl k2) (fr2 _ _ _ rfl hyv) (fr2 _ _ _ rfl hxv) (hp_ne (by omega)) l0 l1 l2 l3 l4 l5 l6 (fun l' h2 z0 z1 z2 z3 w0 w1 w2 w3 u1 u2 u3 v0 v1 v2 v3 v4 v5 v6 => jr5 c1 c hM hD A0 A1 B0 B1 D0 D1 hy1 k0 k1 k2 LP T a0 a1 b0 b1 d0 d1 n0 n1 ih h2 l' z0 z1 z2 z3 w0 w1 w2 w3 u1 (ly_fr_tr fr2 (hp_fr0 u2)) (Nat.le_trans len2 u3) (u2 _ _ _ rfl hn2) hxv x0 x1 R2 F2 (by rw [hRW rfl rhy u1 u2]; exact hW2) (js_mv S2 u2 rfl rfl) v0 v1 v2 v3 v4 v5 v6)
theorem jr3 (c1 : hp_C cst strs D) (c : hp_C cst strs (D + 1)) (hM : m_P[411]? = some M) (hD : (5 : Int) ≤ ((D + 1 : Nat) : Int) + 1) (A0 : 0 ≤ ma) (A1 : ma ≤ 10) (B0 : 0 ≤ mb) (B1 : mb ≤ 10) (D0 : 0 ≤ md) (D1 : md ≤ 10) (hy1 : ly_hy m_tt ly_TH h1) (k0 : ly_hv cst h1 44288 0 = some ma) (k1 : ly_hv cst h1 44288 1 = some mb) (k2 : ly_hv cst h1 44288 2 = some md) (LP : ∀ k v, ly_hv cst h1 44032 k = some v → 0 ≤ v) (T : ju_T (ly_hv cst h1 44032) (ly_hv cst h1 44288) (ly_hv cst h1 45056) ma mb md (-1)) {a b d n x : Int} (a0 : 0 ≤ a) (a1 : a ≤ ma) (b0 : 0 ≤ b) (b1 : b ≤ mb) (d0 : 0 ≤ d) (d1 : d ≤ md) (n0 : 0 ≤ n) (n1 : n ≤ a + b + d) (ih : ∀ (h : am_H) (l : am_L) (a' b' d' n' : Int), a' + b' + d' > a + b + d → 0 ≤ a' → a' ≤ ma → 0 ≤ b' → b' ≤ mb → 0 ≤ d' → d' ≤ md → n' ≤ a' + b' + d' → 0 ≤ n' → ly_hy m_tt ly_TH h → ly_fr cst js_mods h1 h → h1.length ≤ h.length → ly_hv cst h 20104 0 = some n' → wk (ly_hv cst h1 44032) (ly_hv cst h1 44288) (ly_hv cst h1 45056) N a' b' d' n' (ly_hv cst h 44544) = W → js_S cst (ly_hv cst h1 44032) h n' → hp_a l 0 94 → hp_i l 1 a' → hp_i l 2 b' → hp_i l 3 d' → hp_F cst strs Φ (D + 1) M 216 l [] h) (h : am_H) (l : am_L) (y0 y1 y2 y3 : Int32) (hy0 : y0.toInt = d) (hy1' : y1.toInt = b) (hy2 : y2.toInt = a) (hy3 : y3.toInt = 6) (hy : ly_hy m_tt ly_TH h) (fr : ly_fr cst js_mods h1 h) (len : h1.length ≤ h.length) (hn : ly_hv cst h 20104 0 = some n) (hxv : ly_hv cst h1 45056 (121 * a + 11 * b + d) = some x) (x0 : 0 ≤ x) (x1 : x ≤ 360) (R : jn_w (ly_hv cst h1 44032) (ly_hv cst h1 44288) (ly_hv cst h1 45056) a b d x 6 12 ∨ jn_w (ly_hv cst h1 44032) (ly_hv cst h1 44288) (ly_hv cst h1 45056) a b d x 1 121 ∨ jn_w (ly_hv cst h1 44032) (ly_hv cst h1 44288) (ly_hv cst h1 45056) a b d x 2 11 ∨ jn_w (ly_hv cst h1 44032) (ly_hv cst h1 44288) (ly_hv cst h1 45056) a b d x 4 1) (FF : ju_F (ly_hv cst h1 44032) (ly_hv cst h1 44288) (ly_hv cst h1 45056) a b d x 3) (hW : wk (ly_hv cst h1 44032) (ly_hv cst h1 44288) (ly_hv cst h1 45056) (N + 1) a b d n (ly_hv cst h 44544) = W) (S : js_S cst (ly_hv cst h1 44032) h n) (l0 : hp_a l 0 94) (l1 : hp_i l 1 a) (l2 : hp_i l 2 b) (l3 : hp_i l 3 d) (l4 : hp_i l 4 0) (l5 : hp_i l 5 3) (l6 : hp_i l 6 6) : hp_F cst strs Φ (D + 1) M 283 l [.int y0, .int y1, .int y2, .int y3, .ref 94] h := by
  obtain ⟨r, hrun, ⟨x', r1, hx⟩, r2, r3, rhy, rfr, rlen⟩ := rc_run c1 (by omega) hy (xs := y3) (xa := y2) (xb := y1) (xd := y0) (by omega) (by omega) (by omega) (by omega) (by omega) (by omega) (by omega)
  refine hp_call (mi := 411) (pc := 283) (tg := 412) (na := 5) (c := 78) (ci := 12) (st0 := [.int y0, .int y1, .int y2, .int y3, .ref 94]) (st := []) (av := [.int y3, .int y2, .int y1, .int y0]) hM (by decide +kernel) hy rfl rfl rfl (by decide) hrun r2 r3 ?_
  rw [r1]
  rw [hy0, hy1', hy2, hy3, hRL rfl hy1 hy fr, hRM rfl hy1 hy fr] at hx
  have fr2 : ly_fr cst js_mods h1 r.2.1 := ly_fr_tr fr (hp_fr0 rfr)
  have len2 := Nat.le_trans len rlen
  have hn2 := rfr _ _ _ rfl hn
  have hW2 := hW
  rw [← hRW rfl hy rhy rfr] at hW2
  have S2 := js_mv S rfr rfl rfl
  rcases rcb6 (f := (ly_hv cst h1 44032)) (a := a) (b := b) (d := d) k0 k1 k2 with hk | ⟨kk0, kk1, ⟨p0, p1⟩⟩
  · have R2 := R.resolve_left (fun w => by have := w.1; rw [hk] at this; exact absurd this (by decide))
    have F2 := ju_Fn3 FF (fun t => absurd t (by rw [hk]; decide))
    exact jw3n c hM hD rhy a b d ma mb md x' (by omega) a0 (by omega) b0 (by omega) d0 (by omega) A0 A1 B0 B1 D0 D1 l0 l1 l2 l3 l4 l5 l6 (fun l' h2 z0 z1 z2 z3 w0 w1 w2 w3 u1 u2 u3 v0 v1 v2 v3 v4 v5 v6 => jr4 c1 c hM hD A0 A1 B0 B1 D0 D1 hy1 k0 k1 k2 LP T a0 a1 b0 b1 d0 d1 n0 n1 ih h2 l' z0 z1 z2 z3 w0 w1 w2 w3 u1 (ly_fr_tr fr2 (hp_fr0 u2)) (Nat.le_trans len2 u3) (u2 _ _ _ rfl hn2) hxv x0 x1 R2 F2 (by rw [hRW rfl rhy u1 u2]; exact hW2) (js_mv S2 u2 rfl rfl) v0 v1 v2 v3 v4 v5 v6)
  · obtain ⟨y, hyv, yy0, yy1, -⟩ := T (a + 0) (b + 1) (d + 1) (by omega) (by omega) (by omega) (by omega) (by omega) (by omega) (by omega)
    rw [show 121 * (a + 0) + 11 * (b + 1) + (d + 1) = 121 * a + 11 * b + d + 12 by omega] at hyv
    by_cases he : x'.toInt + y = x
    · exact je3 c1 c hM hD A0 A1 B0 B1 D0 D1 hy1 k0 k1 k2 LP a0 a1 b0 b1 d0 d1 ⟨p0, p1⟩ n0 n1 yy0 (by omega) ih r.2.1 l x' (by omega) (by omega) rhy fr2 len2 hn2 hyv (by rw [he]; exact hxv) (by rw [← wk_go6 (wk_t_3 hxv ⟨kk0, y, hyv, by omega⟩ FF)]; exact hW2) S2 l0 l1 l2 l3 l4 l5 l6
    · have R2 := R.resolve_left (fun w => by
        obtain ⟨-, y2, h1, h2⟩ := w
        rw [hyv] at h1
        cases h1
        exact he (by omega))
      have F2 := ju_Fn3 FF (fun _ y2 h2 => by rw [hyv] at h2; cases h2; omega)
      exact jw3q c hM hD rhy a b d ma mb md x'.toInt y x x' rfl a0 (by omega) b0 (by omega) d0 (by omega) A0 A1 B0 B1 D0 D1 (by omega) (by omega) yy0 (by omega) x0 x1 (by omega) (by omega) (fr2 _ _ _ rfl k0) (fr2 _ _ _ rfl k1) (fr2 _ _ _ rfl k2) (fr2 _ _ _ rfl hyv) (fr2 _ _ _ rfl hxv) (hp_ne (by omega)) l0 l1 l2 l3 l4 l5 l6 (fun l' h2 z0 z1 z2 z3 w0 w1 w2 w3 u1 u2 u3 v0 v1 v2 v3 v4 v5 v6 => jr4 c1 c hM hD A0 A1 B0 B1 D0 D1 hy1 k0 k1 k2 LP T a0 a1 b0 b1 d0 d1 n0 n1 ih h2 l' z0 z1 z2 z3 w0 w1 w2 w3 u1 (ly_fr_tr fr2 (hp_fr0 u2)) (Nat.le_trans len2 u3) (u2 _ _ _ rfl hn2) hxv x0 x1 R2 F2 (by rw [hRW rfl rhy u1 u2]; exact hW2) (js_mv S2 u2 rfl rfl) v0 v1 v2 v3 v4 v5 v6)
theorem jr2 (c1 : hp_C cst strs D) (c : hp_C cst strs (D + 1)) (hM : m_P[411]? = some M) (hD : (5 : Int) ≤ ((D + 1 : Nat) : Int) + 1) (A0 : 0 ≤ ma) (A1 : ma ≤ 10) (B0 : 0 ≤ mb) (B1 : mb ≤ 10) (D0 : 0 ≤ md) (D1 : md ≤ 10) (hy1 : ly_hy m_tt ly_TH h1) (k0 : ly_hv cst h1 44288 0 = some ma) (k1 : ly_hv cst h1 44288 1 = some mb) (k2 : ly_hv cst h1 44288 2 = some md) (LP : ∀ k v, ly_hv cst h1 44032 k = some v → 0 ≤ v) (T : ju_T (ly_hv cst h1 44032) (ly_hv cst h1 44288) (ly_hv cst h1 45056) ma mb md (-1)) {a b d n x : Int} (a0 : 0 ≤ a) (a1 : a ≤ ma) (b0 : 0 ≤ b) (b1 : b ≤ mb) (d0 : 0 ≤ d) (d1 : d ≤ md) (n0 : 0 ≤ n) (n1 : n ≤ a + b + d) (ih : ∀ (h : am_H) (l : am_L) (a' b' d' n' : Int), a' + b' + d' > a + b + d → 0 ≤ a' → a' ≤ ma → 0 ≤ b' → b' ≤ mb → 0 ≤ d' → d' ≤ md → n' ≤ a' + b' + d' → 0 ≤ n' → ly_hy m_tt ly_TH h → ly_fr cst js_mods h1 h → h1.length ≤ h.length → ly_hv cst h 20104 0 = some n' → wk (ly_hv cst h1 44032) (ly_hv cst h1 44288) (ly_hv cst h1 45056) N a' b' d' n' (ly_hv cst h 44544) = W → js_S cst (ly_hv cst h1 44032) h n' → hp_a l 0 94 → hp_i l 1 a' → hp_i l 2 b' → hp_i l 3 d' → hp_F cst strs Φ (D + 1) M 216 l [] h) (h : am_H) (l : am_L) (y0 y1 y2 y3 : Int32) (hy0 : y0.toInt = d) (hy1' : y1.toInt = b) (hy2 : y2.toInt = a) (hy3 : y3.toInt = 5) (hy : ly_hy m_tt ly_TH h) (fr : ly_fr cst js_mods h1 h) (len : h1.length ≤ h.length) (hn : ly_hv cst h 20104 0 = some n) (hxv : ly_hv cst h1 45056 (121 * a + 11 * b + d) = some x) (x0 : 0 ≤ x) (x1 : x ≤ 360) (R : jn_w (ly_hv cst h1 44032) (ly_hv cst h1 44288) (ly_hv cst h1 45056) a b d x 5 122 ∨ jn_w (ly_hv cst h1 44032) (ly_hv cst h1 44288) (ly_hv cst h1 45056) a b d x 6 12 ∨ jn_w (ly_hv cst h1 44032) (ly_hv cst h1 44288) (ly_hv cst h1 45056) a b d x 1 121 ∨ jn_w (ly_hv cst h1 44032) (ly_hv cst h1 44288) (ly_hv cst h1 45056) a b d x 2 11 ∨ jn_w (ly_hv cst h1 44032) (ly_hv cst h1 44288) (ly_hv cst h1 45056) a b d x 4 1) (FF : ju_F (ly_hv cst h1 44032) (ly_hv cst h1 44288) (ly_hv cst h1 45056) a b d x 2) (hW : wk (ly_hv cst h1 44032) (ly_hv cst h1 44288) (ly_hv cst h1 45056) (N + 1) a b d n (ly_hv cst h 44544) = W) (S : js_S cst (ly_hv cst h1 44032) h n) (l0 : hp_a l 0 94) (l1 : hp_i l 1 a) (l2 : hp_i l 2 b) (l3 : hp_i l 3 d) (l4 : hp_i l 4 0) (l5 : hp_i l 5 2) (l6 : hp_i l 6 5) : hp_F cst strs Φ (D + 1) M 283 l [.int y0, .int y1, .int y2, .int y3, .ref 94] h := by
  obtain ⟨r, hrun, ⟨x', r1, hx⟩, r2, r3, rhy, rfr, rlen⟩ := rc_run c1 (by omega) hy (xs := y3) (xa := y2) (xb := y1) (xd := y0) (by omega) (by omega) (by omega) (by omega) (by omega) (by omega) (by omega)
  refine hp_call (mi := 411) (pc := 283) (tg := 412) (na := 5) (c := 78) (ci := 12) (st0 := [.int y0, .int y1, .int y2, .int y3, .ref 94]) (st := []) (av := [.int y3, .int y2, .int y1, .int y0]) hM (by decide +kernel) hy rfl rfl rfl (by decide) hrun r2 r3 ?_
  rw [r1]
  rw [hy0, hy1', hy2, hy3, hRL rfl hy1 hy fr, hRM rfl hy1 hy fr] at hx
  have fr2 : ly_fr cst js_mods h1 r.2.1 := ly_fr_tr fr (hp_fr0 rfr)
  have len2 := Nat.le_trans len rlen
  have hn2 := rfr _ _ _ rfl hn
  have hW2 := hW
  rw [← hRW rfl hy rhy rfr] at hW2
  have S2 := js_mv S rfr rfl rfl
  rcases rcb5 (f := (ly_hv cst h1 44032)) (a := a) (b := b) (d := d) k0 k1 k2 with hk | ⟨kk0, kk1, ⟨p0, p1⟩⟩
  · have R2 := R.resolve_left (fun w => by have := w.1; rw [hk] at this; exact absurd this (by decide))
    have F2 := ju_Fn2 FF (fun t => absurd t (by rw [hk]; decide))
    exact jw2n c hM hD rhy a b d ma mb md x' (by omega) a0 (by omega) b0 (by omega) d0 (by omega) A0 A1 B0 B1 D0 D1 l0 l1 l2 l3 l4 l5 l6 (fun l' h2 z0 z1 z2 z3 w0 w1 w2 w3 u1 u2 u3 v0 v1 v2 v3 v4 v5 v6 => jr3 c1 c hM hD A0 A1 B0 B1 D0 D1 hy1 k0 k1 k2 LP T a0 a1 b0 b1 d0 d1 n0 n1 ih h2 l' z0 z1 z2 z3 w0 w1 w2 w3 u1 (ly_fr_tr fr2 (hp_fr0 u2)) (Nat.le_trans len2 u3) (u2 _ _ _ rfl hn2) hxv x0 x1 R2 F2 (by rw [hRW rfl rhy u1 u2]; exact hW2) (js_mv S2 u2 rfl rfl) v0 v1 v2 v3 v4 v5 v6)
  · obtain ⟨y, hyv, yy0, yy1, -⟩ := T (a + 1) (b + 0) (d + 1) (by omega) (by omega) (by omega) (by omega) (by omega) (by omega) (by omega)
    rw [show 121 * (a + 1) + 11 * (b + 0) + (d + 1) = 121 * a + 11 * b + d + 122 by omega] at hyv
    by_cases he : x'.toInt + y = x
    · exact je2 c1 c hM hD A0 A1 B0 B1 D0 D1 hy1 k0 k1 k2 LP a0 a1 b0 b1 d0 d1 ⟨p0, p1⟩ n0 n1 yy0 (by omega) ih r.2.1 l x' (by omega) (by omega) rhy fr2 len2 hn2 hyv (by rw [he]; exact hxv) (by rw [← wk_go5 (wk_t_2 hxv ⟨kk0, y, hyv, by omega⟩ FF)]; exact hW2) S2 l0 l1 l2 l3 l4 l5 l6
    · have R2 := R.resolve_left (fun w => by
        obtain ⟨-, y2, h1, h2⟩ := w
        rw [hyv] at h1
        cases h1
        exact he (by omega))
      have F2 := ju_Fn2 FF (fun _ y2 h2 => by rw [hyv] at h2; cases h2; omega)
      exact jw2q c hM hD rhy a b d ma mb md x'.toInt y x x' rfl a0 (by omega) b0 (by omega) d0 (by omega) A0 A1 B0 B1 D0 D1 (by omega) (by omega) yy0 (by omega) x0 x1 (by omega) (by omega) (fr2 _ _ _ rfl k0) (fr2 _ _ _ rfl k1) (fr2 _ _ _ rfl k2) (fr2 _ _ _ rfl hyv) (fr2 _ _ _ rfl hxv) (hp_ne (by omega)) l0 l1 l2 l3 l4 l5 l6 (fun l' h2 z0 z1 z2 z3 w0 w1 w2 w3 u1 u2 u3 v0 v1 v2 v3 v4 v5 v6 => jr3 c1 c hM hD A0 A1 B0 B1 D0 D1 hy1 k0 k1 k2 LP T a0 a1 b0 b1 d0 d1 n0 n1 ih h2 l' z0 z1 z2 z3 w0 w1 w2 w3 u1 (ly_fr_tr fr2 (hp_fr0 u2)) (Nat.le_trans len2 u3) (u2 _ _ _ rfl hn2) hxv x0 x1 R2 F2 (by rw [hRW rfl rhy u1 u2]; exact hW2) (js_mv S2 u2 rfl rfl) v0 v1 v2 v3 v4 v5 v6)
theorem jr1 (c1 : hp_C cst strs D) (c : hp_C cst strs (D + 1)) (hM : m_P[411]? = some M) (hD : (5 : Int) ≤ ((D + 1 : Nat) : Int) + 1) (A0 : 0 ≤ ma) (A1 : ma ≤ 10) (B0 : 0 ≤ mb) (B1 : mb ≤ 10) (D0 : 0 ≤ md) (D1 : md ≤ 10) (hy1 : ly_hy m_tt ly_TH h1) (k0 : ly_hv cst h1 44288 0 = some ma) (k1 : ly_hv cst h1 44288 1 = some mb) (k2 : ly_hv cst h1 44288 2 = some md) (LP : ∀ k v, ly_hv cst h1 44032 k = some v → 0 ≤ v) (T : ju_T (ly_hv cst h1 44032) (ly_hv cst h1 44288) (ly_hv cst h1 45056) ma mb md (-1)) {a b d n x : Int} (a0 : 0 ≤ a) (a1 : a ≤ ma) (b0 : 0 ≤ b) (b1 : b ≤ mb) (d0 : 0 ≤ d) (d1 : d ≤ md) (n0 : 0 ≤ n) (n1 : n ≤ a + b + d) (ih : ∀ (h : am_H) (l : am_L) (a' b' d' n' : Int), a' + b' + d' > a + b + d → 0 ≤ a' → a' ≤ ma → 0 ≤ b' → b' ≤ mb → 0 ≤ d' → d' ≤ md → n' ≤ a' + b' + d' → 0 ≤ n' → ly_hy m_tt ly_TH h → ly_fr cst js_mods h1 h → h1.length ≤ h.length → ly_hv cst h 20104 0 = some n' → wk (ly_hv cst h1 44032) (ly_hv cst h1 44288) (ly_hv cst h1 45056) N a' b' d' n' (ly_hv cst h 44544) = W → js_S cst (ly_hv cst h1 44032) h n' → hp_a l 0 94 → hp_i l 1 a' → hp_i l 2 b' → hp_i l 3 d' → hp_F cst strs Φ (D + 1) M 216 l [] h) (h : am_H) (l : am_L) (y0 y1 y2 y3 : Int32) (hy0 : y0.toInt = d) (hy1' : y1.toInt = b) (hy2 : y2.toInt = a) (hy3 : y3.toInt = 3) (hy : ly_hy m_tt ly_TH h) (fr : ly_fr cst js_mods h1 h) (len : h1.length ≤ h.length) (hn : ly_hv cst h 20104 0 = some n) (hxv : ly_hv cst h1 45056 (121 * a + 11 * b + d) = some x) (x0 : 0 ≤ x) (x1 : x ≤ 360) (R : jn_w (ly_hv cst h1 44032) (ly_hv cst h1 44288) (ly_hv cst h1 45056) a b d x 3 132 ∨ jn_w (ly_hv cst h1 44032) (ly_hv cst h1 44288) (ly_hv cst h1 45056) a b d x 5 122 ∨ jn_w (ly_hv cst h1 44032) (ly_hv cst h1 44288) (ly_hv cst h1 45056) a b d x 6 12 ∨ jn_w (ly_hv cst h1 44032) (ly_hv cst h1 44288) (ly_hv cst h1 45056) a b d x 1 121 ∨ jn_w (ly_hv cst h1 44032) (ly_hv cst h1 44288) (ly_hv cst h1 45056) a b d x 2 11 ∨ jn_w (ly_hv cst h1 44032) (ly_hv cst h1 44288) (ly_hv cst h1 45056) a b d x 4 1) (FF : ju_F (ly_hv cst h1 44032) (ly_hv cst h1 44288) (ly_hv cst h1 45056) a b d x 1) (hW : wk (ly_hv cst h1 44032) (ly_hv cst h1 44288) (ly_hv cst h1 45056) (N + 1) a b d n (ly_hv cst h 44544) = W) (S : js_S cst (ly_hv cst h1 44032) h n) (l0 : hp_a l 0 94) (l1 : hp_i l 1 a) (l2 : hp_i l 2 b) (l3 : hp_i l 3 d) (l4 : hp_i l 4 0) (l5 : hp_i l 5 1) (l6 : hp_i l 6 3) : hp_F cst strs Φ (D + 1) M 283 l [.int y0, .int y1, .int y2, .int y3, .ref 94] h := by
  obtain ⟨r, hrun, ⟨x', r1, hx⟩, r2, r3, rhy, rfr, rlen⟩ := rc_run c1 (by omega) hy (xs := y3) (xa := y2) (xb := y1) (xd := y0) (by omega) (by omega) (by omega) (by omega) (by omega) (by omega) (by omega)
  refine hp_call (mi := 411) (pc := 283) (tg := 412) (na := 5) (c := 78) (ci := 12) (st0 := [.int y0, .int y1, .int y2, .int y3, .ref 94]) (st := []) (av := [.int y3, .int y2, .int y1, .int y0]) hM (by decide +kernel) hy rfl rfl rfl (by decide) hrun r2 r3 ?_
  rw [r1]
  rw [hy0, hy1', hy2, hy3, hRL rfl hy1 hy fr, hRM rfl hy1 hy fr] at hx
  have fr2 : ly_fr cst js_mods h1 r.2.1 := ly_fr_tr fr (hp_fr0 rfr)
  have len2 := Nat.le_trans len rlen
  have hn2 := rfr _ _ _ rfl hn
  have hW2 := hW
  rw [← hRW rfl hy rhy rfr] at hW2
  have S2 := js_mv S rfr rfl rfl
  rcases rcb3 (f := (ly_hv cst h1 44032)) (a := a) (b := b) (d := d) k0 k1 k2 with hk | ⟨kk0, kk1, ⟨p0, p1⟩⟩
  · have R2 := R.resolve_left (fun w => by have := w.1; rw [hk] at this; exact absurd this (by decide))
    have F2 := ju_Fn1 FF (fun t => absurd t (by rw [hk]; decide))
    exact jw1n c hM hD rhy a b d ma mb md x' (by omega) a0 (by omega) b0 (by omega) d0 (by omega) A0 A1 B0 B1 D0 D1 l0 l1 l2 l3 l4 l5 l6 (fun l' h2 z0 z1 z2 z3 w0 w1 w2 w3 u1 u2 u3 v0 v1 v2 v3 v4 v5 v6 => jr2 c1 c hM hD A0 A1 B0 B1 D0 D1 hy1 k0 k1 k2 LP T a0 a1 b0 b1 d0 d1 n0 n1 ih h2 l' z0 z1 z2 z3 w0 w1 w2 w3 u1 (ly_fr_tr fr2 (hp_fr0 u2)) (Nat.le_trans len2 u3) (u2 _ _ _ rfl hn2) hxv x0 x1 R2 F2 (by rw [hRW rfl rhy u1 u2]; exact hW2) (js_mv S2 u2 rfl rfl) v0 v1 v2 v3 v4 v5 v6)
  · obtain ⟨y, hyv, yy0, yy1, -⟩ := T (a + 1) (b + 1) (d + 0) (by omega) (by omega) (by omega) (by omega) (by omega) (by omega) (by omega)
    rw [show 121 * (a + 1) + 11 * (b + 1) + (d + 0) = 121 * a + 11 * b + d + 132 by omega] at hyv
    by_cases he : x'.toInt + y = x
    · exact je1 c1 c hM hD A0 A1 B0 B1 D0 D1 hy1 k0 k1 k2 LP a0 a1 b0 b1 d0 d1 ⟨p0, p1⟩ n0 n1 yy0 (by omega) ih r.2.1 l x' (by omega) (by omega) rhy fr2 len2 hn2 hyv (by rw [he]; exact hxv) (by rw [← wk_go3 (wk_t_1 hxv ⟨kk0, y, hyv, by omega⟩ FF)]; exact hW2) S2 l0 l1 l2 l3 l4 l5 l6
    · have R2 := R.resolve_left (fun w => by
        obtain ⟨-, y2, h1, h2⟩ := w
        rw [hyv] at h1
        cases h1
        exact he (by omega))
      have F2 := ju_Fn1 FF (fun _ y2 h2 => by rw [hyv] at h2; cases h2; omega)
      exact jw1q c hM hD rhy a b d ma mb md x'.toInt y x x' rfl a0 (by omega) b0 (by omega) d0 (by omega) A0 A1 B0 B1 D0 D1 (by omega) (by omega) yy0 (by omega) x0 x1 (by omega) (by omega) (fr2 _ _ _ rfl k0) (fr2 _ _ _ rfl k1) (fr2 _ _ _ rfl k2) (fr2 _ _ _ rfl hyv) (fr2 _ _ _ rfl hxv) (hp_ne (by omega)) l0 l1 l2 l3 l4 l5 l6 (fun l' h2 z0 z1 z2 z3 w0 w1 w2 w3 u1 u2 u3 v0 v1 v2 v3 v4 v5 v6 => jr2 c1 c hM hD A0 A1 B0 B1 D0 D1 hy1 k0 k1 k2 LP T a0 a1 b0 b1 d0 d1 n0 n1 ih h2 l' z0 z1 z2 z3 w0 w1 w2 w3 u1 (ly_fr_tr fr2 (hp_fr0 u2)) (Nat.le_trans len2 u3) (u2 _ _ _ rfl hn2) hxv x0 x1 R2 F2 (by rw [hRW rfl rhy u1 u2]; exact hW2) (js_mv S2 u2 rfl rfl) v0 v1 v2 v3 v4 v5 v6)
theorem jr0 (c1 : hp_C cst strs D) (c : hp_C cst strs (D + 1)) (hM : m_P[411]? = some M) (hD : (5 : Int) ≤ ((D + 1 : Nat) : Int) + 1) (A0 : 0 ≤ ma) (A1 : ma ≤ 10) (B0 : 0 ≤ mb) (B1 : mb ≤ 10) (D0 : 0 ≤ md) (D1 : md ≤ 10) (hy1 : ly_hy m_tt ly_TH h1) (k0 : ly_hv cst h1 44288 0 = some ma) (k1 : ly_hv cst h1 44288 1 = some mb) (k2 : ly_hv cst h1 44288 2 = some md) (LP : ∀ k v, ly_hv cst h1 44032 k = some v → 0 ≤ v) (T : ju_T (ly_hv cst h1 44032) (ly_hv cst h1 44288) (ly_hv cst h1 45056) ma mb md (-1)) {a b d n x : Int} (a0 : 0 ≤ a) (a1 : a ≤ ma) (b0 : 0 ≤ b) (b1 : b ≤ mb) (d0 : 0 ≤ d) (d1 : d ≤ md) (n0 : 0 ≤ n) (n1 : n ≤ a + b + d) (ih : ∀ (h : am_H) (l : am_L) (a' b' d' n' : Int), a' + b' + d' > a + b + d → 0 ≤ a' → a' ≤ ma → 0 ≤ b' → b' ≤ mb → 0 ≤ d' → d' ≤ md → n' ≤ a' + b' + d' → 0 ≤ n' → ly_hy m_tt ly_TH h → ly_fr cst js_mods h1 h → h1.length ≤ h.length → ly_hv cst h 20104 0 = some n' → wk (ly_hv cst h1 44032) (ly_hv cst h1 44288) (ly_hv cst h1 45056) N a' b' d' n' (ly_hv cst h 44544) = W → js_S cst (ly_hv cst h1 44032) h n' → hp_a l 0 94 → hp_i l 1 a' → hp_i l 2 b' → hp_i l 3 d' → hp_F cst strs Φ (D + 1) M 216 l [] h) (h : am_H) (l : am_L) (y0 y1 y2 y3 : Int32) (hy0 : y0.toInt = d) (hy1' : y1.toInt = b) (hy2 : y2.toInt = a) (hy3 : y3.toInt = 7) (hy : ly_hy m_tt ly_TH h) (fr : ly_fr cst js_mods h1 h) (len : h1.length ≤ h.length) (hn : ly_hv cst h 20104 0 = some n) (hxv : ly_hv cst h1 45056 (121 * a + 11 * b + d) = some x) (x0 : 0 ≤ x) (x1 : x ≤ 360) (R : jn_w (ly_hv cst h1 44032) (ly_hv cst h1 44288) (ly_hv cst h1 45056) a b d x 7 133 ∨ jn_w (ly_hv cst h1 44032) (ly_hv cst h1 44288) (ly_hv cst h1 45056) a b d x 3 132 ∨ jn_w (ly_hv cst h1 44032) (ly_hv cst h1 44288) (ly_hv cst h1 45056) a b d x 5 122 ∨ jn_w (ly_hv cst h1 44032) (ly_hv cst h1 44288) (ly_hv cst h1 45056) a b d x 6 12 ∨ jn_w (ly_hv cst h1 44032) (ly_hv cst h1 44288) (ly_hv cst h1 45056) a b d x 1 121 ∨ jn_w (ly_hv cst h1 44032) (ly_hv cst h1 44288) (ly_hv cst h1 45056) a b d x 2 11 ∨ jn_w (ly_hv cst h1 44032) (ly_hv cst h1 44288) (ly_hv cst h1 45056) a b d x 4 1) (FF : ju_F (ly_hv cst h1 44032) (ly_hv cst h1 44288) (ly_hv cst h1 45056) a b d x 0) (hW : wk (ly_hv cst h1 44032) (ly_hv cst h1 44288) (ly_hv cst h1 45056) (N + 1) a b d n (ly_hv cst h 44544) = W) (S : js_S cst (ly_hv cst h1 44032) h n) (l0 : hp_a l 0 94) (l1 : hp_i l 1 a) (l2 : hp_i l 2 b) (l3 : hp_i l 3 d) (l4 : hp_i l 4 0) (l5 : hp_i l 5 0) (l6 : hp_i l 6 7) : hp_F cst strs Φ (D + 1) M 283 l [.int y0, .int y1, .int y2, .int y3, .ref 94] h := by
  obtain ⟨r, hrun, ⟨x', r1, hx⟩, r2, r3, rhy, rfr, rlen⟩ := rc_run c1 (by omega) hy (xs := y3) (xa := y2) (xb := y1) (xd := y0) (by omega) (by omega) (by omega) (by omega) (by omega) (by omega) (by omega)
  refine hp_call (mi := 411) (pc := 283) (tg := 412) (na := 5) (c := 78) (ci := 12) (st0 := [.int y0, .int y1, .int y2, .int y3, .ref 94]) (st := []) (av := [.int y3, .int y2, .int y1, .int y0]) hM (by decide +kernel) hy rfl rfl rfl (by decide) hrun r2 r3 ?_
  rw [r1]
  rw [hy0, hy1', hy2, hy3, hRL rfl hy1 hy fr, hRM rfl hy1 hy fr] at hx
  have fr2 : ly_fr cst js_mods h1 r.2.1 := ly_fr_tr fr (hp_fr0 rfr)
  have len2 := Nat.le_trans len rlen
  have hn2 := rfr _ _ _ rfl hn
  have hW2 := hW
  rw [← hRW rfl hy rhy rfr] at hW2
  have S2 := js_mv S rfr rfl rfl
  rcases rcb7 (f := (ly_hv cst h1 44032)) (a := a) (b := b) (d := d) k0 k1 k2 with hk | ⟨kk0, kk1, ⟨p0, p1, p2⟩⟩
  · have R2 := R.resolve_left (fun w => by have := w.1; rw [hk] at this; exact absurd this (by decide))
    have F2 := ju_Fn0 FF (fun t => absurd t (by rw [hk]; decide))
    exact jw0n c hM hD rhy a b d ma mb md x' (by omega) a0 (by omega) b0 (by omega) d0 (by omega) A0 A1 B0 B1 D0 D1 l0 l1 l2 l3 l4 l5 l6 (fun l' h2 z0 z1 z2 z3 w0 w1 w2 w3 u1 u2 u3 v0 v1 v2 v3 v4 v5 v6 => jr1 c1 c hM hD A0 A1 B0 B1 D0 D1 hy1 k0 k1 k2 LP T a0 a1 b0 b1 d0 d1 n0 n1 ih h2 l' z0 z1 z2 z3 w0 w1 w2 w3 u1 (ly_fr_tr fr2 (hp_fr0 u2)) (Nat.le_trans len2 u3) (u2 _ _ _ rfl hn2) hxv x0 x1 R2 F2 (by rw [hRW rfl rhy u1 u2]; exact hW2) (js_mv S2 u2 rfl rfl) v0 v1 v2 v3 v4 v5 v6)
  · obtain ⟨y, hyv, yy0, yy1, -⟩ := T (a + 1) (b + 1) (d + 1) (by omega) (by omega) (by omega) (by omega) (by omega) (by omega) (by omega)
    rw [show 121 * (a + 1) + 11 * (b + 1) + (d + 1) = 121 * a + 11 * b + d + 133 by omega] at hyv
    by_cases he : x'.toInt + y = x
    · exact je0 c1 c hM hD A0 A1 B0 B1 D0 D1 hy1 k0 k1 k2 LP a0 a1 b0 b1 d0 d1 ⟨p0, p1, p2⟩ n0 n1 yy0 (by omega) ih r.2.1 l x' (by omega) (by omega) rhy fr2 len2 hn2 hyv (by rw [he]; exact hxv) (by rw [← wk_go7 (wk_t_0 hxv ⟨kk0, y, hyv, by omega⟩ FF)]; exact hW2) S2 l0 l1 l2 l3 l4 l5 l6
    · have R2 := R.resolve_left (fun w => by
        obtain ⟨-, y2, h1, h2⟩ := w
        rw [hyv] at h1
        cases h1
        exact he (by omega))
      have F2 := ju_Fn0 FF (fun _ y2 h2 => by rw [hyv] at h2; cases h2; omega)
      exact jw0q c hM hD rhy a b d ma mb md x'.toInt y x x' rfl a0 (by omega) b0 (by omega) d0 (by omega) A0 A1 B0 B1 D0 D1 (by omega) (by omega) yy0 (by omega) x0 x1 (by omega) (by omega) (by omega) (fr2 _ _ _ rfl k0) (fr2 _ _ _ rfl k1) (fr2 _ _ _ rfl k2) (fr2 _ _ _ rfl hyv) (fr2 _ _ _ rfl hxv) (hp_ne (by omega)) l0 l1 l2 l3 l4 l5 l6 (fun l' h2 z0 z1 z2 z3 w0 w1 w2 w3 u1 u2 u3 v0 v1 v2 v3 v4 v5 v6 => jr1 c1 c hM hD A0 A1 B0 B1 D0 D1 hy1 k0 k1 k2 LP T a0 a1 b0 b1 d0 d1 n0 n1 ih h2 l' z0 z1 z2 z3 w0 w1 w2 w3 u1 (ly_fr_tr fr2 (hp_fr0 u2)) (Nat.le_trans len2 u3) (u2 _ _ _ rfl hn2) hxv x0 x1 R2 F2 (by rw [hRW rfl rhy u1 u2]; exact hW2) (js_mv S2 u2 rfl rfl) v0 v1 v2 v3 v4 v5 v6)
theorem rc_end {f g j : Int → Option Int} {a b d ma mb md : Int} (k0 : g 0 = some ma) (k1 : g 1 = some mb) (k2 : g 2 = some md) (e : a = ma ∧ b = mb ∧ d = md) : ju_A f g j a b d (-1) 7 := by
  obtain ⟨e0, e1, e2⟩ := e
  refine ⟨fun _ h => ?_, fun _ h => ?_, fun _ h => ?_, fun _ h => ?_, fun _ h => ?_, fun _ h => ?_, fun _ h => ?_⟩
  · rcases rcb7 (f := f) (a := a) (b := b) (d := d) k0 k1 k2 with hk | ⟨-, -, ⟨p0, p1, p2⟩⟩
    · rw [hk] at h
      exact absurd h (by decide)
    · omega
  · rcases rcb3 (f := f) (a := a) (b := b) (d := d) k0 k1 k2 with hk | ⟨-, -, ⟨p0, p1⟩⟩
    · rw [hk] at h
      exact absurd h (by decide)
    · omega
  · rcases rcb5 (f := f) (a := a) (b := b) (d := d) k0 k1 k2 with hk | ⟨-, -, ⟨p0, p1⟩⟩
    · rw [hk] at h
      exact absurd h (by decide)
    · omega
  · rcases rcb6 (f := f) (a := a) (b := b) (d := d) k0 k1 k2 with hk | ⟨-, -, ⟨p0, p1⟩⟩
    · rw [hk] at h
      exact absurd h (by decide)
    · omega
  · rcases rcb1 (f := f) (a := a) (b := b) (d := d) k0 k1 k2 with hk | ⟨-, -, p0⟩
    · rw [hk] at h
      exact absurd h (by decide)
    · omega
  · rcases rcb2 (f := f) (a := a) (b := b) (d := d) k0 k1 k2 with hk | ⟨-, -, p0⟩
    · rw [hk] at h
      exact absurd h (by decide)
    · omega
  · rcases rcb4 (f := f) (a := a) (b := b) (d := d) k0 k1 k2 with hk | ⟨-, -, p0⟩
    · rw [hk] at h
      exact absurd h (by decide)
    · omega
theorem jr_two (c1 : hp_C cst strs D) (c : hp_C cst strs (D + 1)) (hM : m_P[411]? = some M) (hD : (5 : Int) ≤ ((D + 1 : Nat) : Int) + 1) (A0 : 0 ≤ ma) (A1 : ma ≤ 10) (B0 : 0 ≤ mb) (B1 : mb ≤ 10) (D0 : 0 ≤ md) (D1 : md ≤ 10) (hy1 : ly_hy m_tt ly_TH h1) (k0 : ly_hv cst h1 44288 0 = some ma) (k1 : ly_hv cst h1 44288 1 = some mb) (k2 : ly_hv cst h1 44288 2 = some md) (LP : ∀ k v, ly_hv cst h1 44032 k = some v → 0 ≤ v) (T : ju_T (ly_hv cst h1 44032) (ly_hv cst h1 44288) (ly_hv cst h1 45056) ma mb md (-1))
    (fin : ∀ (h' : am_H) (x : Int32), ly_hy m_tt ly_TH h' → ly_fr cst [20103, 20104, 44544, 44800] h1 h' → h1.length ≤ h'.length → ly_hv cst h' 20103 0 = some 1 → ly_hv cst h' 20104 0 = some W.1 → 0 ≤ W.1 → W.1 ≤ 30 → ly_hv cst h' 44544 = W.2 → js_S cst (ly_hv cst h1 44032) h' W.1 → Φ (some (.int x), h', 0, 0)) :
    ∀ (N : Nat) (h : am_H) (l : am_L) (a b d n' : Int), (ma + mb + md - (a + b + d)).toNat < N → 0 ≤ a → a ≤ ma → 0 ≤ b → b ≤ mb → 0 ≤ d → d ≤ md → n' ≤ a + b + d → 0 ≤ n' → ly_hy m_tt ly_TH h → ly_fr cst js_mods h1 h → h1.length ≤ h.length → ly_hv cst h 20104 0 = some n' → wk (ly_hv cst h1 44032) (ly_hv cst h1 44288) (ly_hv cst h1 45056) N a b d n' (ly_hv cst h 44544) = W → js_S cst (ly_hv cst h1 44032) h n' → hp_a l 0 94 → hp_i l 1 a → hp_i l 2 b → hp_i l 3 d → hp_F cst strs Φ (D + 1) M 216 l [] h := by
  intro N
  induction N with
  | zero => intro h l a b d n hN; omega
  | succ N ih =>
    intro h l a b d n hN a0 a1 b0 b1 d0 d1 n1 n0 hy fr len hn hW S l0 l1 l2 l3
    have ih' : ∀ (h : am_H) (l : am_L) (a' b' d' n' : Int), a' + b' + d' > a + b + d → 0 ≤ a' → a' ≤ ma → 0 ≤ b' → b' ≤ mb → 0 ≤ d' → d' ≤ md → n' ≤ a' + b' + d' → 0 ≤ n' → ly_hy m_tt ly_TH h → ly_fr cst js_mods h1 h → h1.length ≤ h.length → ly_hv cst h 20104 0 = some n' → wk (ly_hv cst h1 44032) (ly_hv cst h1 44288) (ly_hv cst h1 45056) N a' b' d' n' (ly_hv cst h 44544) = W → js_S cst (ly_hv cst h1 44032) h n' → hp_a l 0 94 → hp_i l 1 a' → hp_i l 2 b' → hp_i l 3 d' → hp_F cst strs Φ (D + 1) M 216 l [] h := fun h l a' b' d' n' g p1 p2 p3 p4 p5 p6 => ih h l a' b' d' n' (by omega) p1 p2 p3 p4 p5 p6
    obtain ⟨x, hx, x0, x1, hend, -, hA⟩ := T a b d a0 a1 b0 b1 d0 d1 (by omega)
    have x3 : x ≤ 360 := by omega
    by_cases he : a = ma ∧ b = mb ∧ d = md
    · rw [wk_stop (wk_t_none (rc_end k0 k1 k2 he))] at hW
      obtain ⟨rfl, rfl, rfl⟩ := he
      subst hW
      obtain ⟨y, hyv, y0, y1⟩ := hp_row (cst := cst) (i := 0) hy th_JC (by omega) (by omega)
      exact jx_9 c hM (by omega) hy a b d y A0 A1 B0 B1 D0 D1 y0 y1 (fr _ _ _ rfl k0) (fr _ _ _ rfl k1) (fr _ _ _ rfl k2) hyv l0 l1 l2 l3 (fun h' z hz u1 u2 u3 kj => fin h' z u1 (ly_fr_tr (hp_sub2 rfl fr) (hp_sub2 rfl u2)) (Nat.le_trans len u3) kj (u2 _ _ _ rfl hn) n0 (by show n ≤ 30; omega) (hRW rfl hy u1 u2) (js_mv S u2 rfl rfl))
    · have X := hend.resolve_left he
      unfold jn_x at X
      have go : ∀ (l' : am_L) (h2 : am_H) (z0 z1 z2 z3 : Int32), z0.toInt = d → z1.toInt = b → z2.toInt = a → z3.toInt = 7 → ly_hy m_tt ly_TH h2 → ly_fr cst [] h h2 → h.length ≤ h2.length → hp_a l' 0 94 → hp_i l' 1 a → hp_i l' 2 b → hp_i l' 3 d → hp_i l' 4 0 → hp_i l' 5 0 → hp_i l' 6 7 → hp_F cst strs Φ (D + 1) M 283 l' [.int z0, .int z1, .int z2, .int z3, .ref 94] h2 := by
        intro l' h2 z0 z1 z2 z3 w0 w1 w2 w3 u1 u2 u3 v0 v1 v2 v3 v4 v5 v6
        exact jr0 c1 c hM hD A0 A1 B0 B1 D0 D1 hy1 k0 k1 k2 LP T a0 a1 b0 b1 d0 d1 n0 n1 ih' h2 l' z0 z1 z2 z3 w0 w1 w2 w3 u1 (ly_fr_tr fr (hp_fr0 u2)) (Nat.le_trans len u3) (u2 _ _ _ rfl hn) hx x0 x3 X ⟨fun q => absurd q (by decide), fun q => absurd q (by decide), fun q => absurd q (by decide), fun q => absurd q (by decide), fun q => absurd q (by decide), fun q => absurd q (by decide), fun q => absurd q (by decide)⟩ (by rw [hRW rfl hy u1 u2]; exact hW) (js_mv S u2 rfl rfl) v0 v1 v2 v3 v4 v5 v6
      by_cases p1 : a < ma
      · exact jna c hM hD hy a b d ma mb md a0 (by omega) b0 (by omega) d0 (by omega) A0 A1 B0 B1 D0 D1 (by omega) (by omega) (by omega) (fr _ _ _ rfl k0) (fr _ _ _ rfl k1) (fr _ _ _ rfl k2) l0 l1 l2 l3 go
      · have ea : a = ma := by omega
        subst ea
        by_cases p2 : b < mb
        · exact jnb c hM hD hy b d a mb md b0 (by omega) d0 (by omega) A0 A1 B0 B1 D0 D1 (by omega) (by omega) (fr _ _ _ rfl k0) (fr _ _ _ rfl k1) (fr _ _ _ rfl k2) l0 l1 l2 l3 go
        · have eb : b = mb := by omega
          subst eb
          exact jnc c hM hD hy d a b md d0 (by omega) A0 A1 B0 B1 D0 D1 (by omega) (fr _ _ _ rfl k0) (fr _ _ _ rfl k1) (fr _ _ _ rfl k2) l0 l1 l2 l3 go
end JS
/-- join of the reference: table, rows, what is sure -/
def jr_P (cst : am_K) (h h' : am_H) : Prop := ∃ ma mb md, (ly_hv cst h 44288 0 = some ma ∧ ly_hv cst h 44288 1 = some mb ∧ ly_hv cst h 44288 2 = some md ∧ 0 ≤ ma ∧ 0 ≤ mb ∧ 0 ≤ md) ∧ ∃ j R X Y, ju_T (ly_hv cst h 44032) (ly_hv cst h 44288) j ma mb md (-1) ∧ wk (ly_hv cst h 44032) (ly_hv cst h 44288) j 31 0 0 0 0 R = (X, Y) ∧ ly_hv cst h' 20103 0 = some 1 ∧ ly_hv cst h' 20104 0 = some X ∧ 0 ≤ X ∧ X ≤ 30 ∧ ly_hv cst h' 44544 = Y ∧ js_S cst (ly_hv cst h 44032) h' X
theorem jr_run {cst : am_K} {strs : List Nat} {D : Nat} {h : am_H} (c1 : hp_C cst strs D) (c : hp_C cst strs (D + 1)) (hD : (5 : Int) ≤ (D : Int) + 1) (hy : ly_hy m_tt ly_TH h) (LP : ∀ k v, ly_hv cst h 44032 k = some v → 0 ≤ v) : ∃ r, am_Run cst m_cl m_tt m_P strs sx_bi (D + 1 + 1) 411 [.ref 94] h r ∧ (∃ a : Int32, r.1 = some (.int a)) ∧ r.2.2.1 = 0 ∧ r.2.2.2 = 0 ∧ ly_hy m_tt ly_TH r.2.1 ∧ ly_fr cst [20103, 20104, 44544, 44800, 45056] h r.2.1 ∧ jr_P cst h r.2.1 := by
  obtain ⟨M, hM, hsl⟩ := hp_M (mi := 411) (k := 1) (by decide +kernel)
  obtain ⟨ma, k0, A0, A1⟩ := hp_row (cst := cst) (i := 0) hy th_RM (by omega) (by omega)
  obtain ⟨mb, k1, B0, B1⟩ := hp_row (cst := cst) (i := 1) hy th_RM (by omega) (by omega)
  obtain ⟨md, k2, D0, D1⟩ := hp_row (cst := cst) (i := 2) hy th_RM (by omega) (by omega)
  have fin : hp_F cst strs (fun r : am_Q => (∃ a : Int32, r.1 = some (.int a)) ∧ r.2.2.1 = 0 ∧ r.2.2.2 = 0 ∧ ly_hy m_tt ly_TH r.2.1 ∧ ly_fr cst [20103, 20104, 44544, 44800, 45056] h r.2.1 ∧ jr_P cst h r.2.1) (D + 1) M 0 (lv_args 0 [.ref 94]) [] h := by
    refine jn0 c hM (by omega) hy ma mb md A0 A1 B0 B1 D0 D1 k0 k1 k2 rfl (fun l' h' u1 u2 u3 v0 v1 v2 v3 => ?_)
    have I : ju_I cst h ma mb md h' (121 * ma + 11 * mb + md) := ju_I_0 (h := h) ⟨hy, ly_fr_rf h, Nat.le_refl _, k0, k1, k2, fun a' b' d' q1 q2 q3 q4 q5 q6 q7 => absurd q7 (by omega)⟩ u1 u2 u3
    refine ju_one c1 c hM (by omega) (fun h2 l2 I2 hn w0 w1 w2 w3 => ?_) A0 A1 B0 B1 D0 D1 ((200 * ma + 15 * mb + (md + 1)).toNat + 1) h' l' ma mb md (Nat.lt_succ_self _) A0 (by omega) B0 (by omega) (by omega) (by omega) I v0 v1 v2 v3
    obtain ⟨i1, i2, i3, i4, i5, i6, i7⟩ := I2
    have e1 : ly_hv cst h2 44032 = ly_hv cst h 44032 := hRL rfl hy i1 i2
    have e2 : ly_hv cst h2 44288 = ly_hv cst h 44288 := hRM rfl hy i1 i2
    refine jr_two (h1 := h2) (W := wk (ly_hv cst h2 44032) (ly_hv cst h2 44288) (ly_hv cst h2 45056) 31 0 0 0 0 (ly_hv cst h2 44544)) c1 c hM (by omega) A0 A1 B0 B1 D0 D1 i1 i4 i5 i6 (by rw [e1]; exact LP) i7 (fun h3 x g1 g2 g3 g4 g5 g6 g7 g8 g9 => ?_) 31 h2 l2 0 0 0 0 (by omega) (by omega) A0 (by omega) B0 (by omega) D0 (by omega) (by omega) i1 (ly_fr_rf h2) (Nat.le_refl _) hn rfl (fun i j0 j1 => by omega) w0 w1 w2 w3
    rw [e1, e2] at g5 g6 g7 g8 g9
    rw [e1, e2] at i7
    exact ⟨⟨x, rfl⟩, rfl, rfl, g1, ly_fr_tr i2 (hp_sub2 rfl g2), ma, mb, md, ⟨k0, k1, k2, A0, B0, D0⟩, _, _, _, _, i7, rfl, g4, g5, g6, g7, g8, g9⟩
  obtain ⟨n, r, hgo, hx, r2, r3, r4⟩ := fin
  simp only [Nat.zero_add] at r2 r3
  exact ⟨r, Or.inr ⟨M, n, hM, hsl, hgo⟩, hx, r2, r3, r4⟩
