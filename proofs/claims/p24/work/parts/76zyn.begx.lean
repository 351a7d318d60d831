/-! PRINTED by wip/p2/hp_begx.py: a matter begun, exactly -/
theorem nw0_k : hp_chk 133 0 7 [(0, (-2147483648), 2147483647), (1, (-2147483648), 2147483647), (2, (-2147483648), 2147483647), (3, (-2147483648), 2147483647), (4, (-2147483648), 2147483647), (5, (-2147483648), 2147483647), (6, 0, 1200)] [] [(0, .inr (.inr (.inl (some 16)))), (1, .inl (0, [(0, 1)])), (2, .inl (0, [(1, 1)])), (3, .inl (0, [(2, 1)])), (4, .inl (0, [(3, 1)])), (5, .inl (0, [(4, 1)])), (6, .inl (0, [(5, 1)]))] [] [(261, (0, []), (0, [(6, 1)])), (61000, ((-1), [(6, 1)]), (1, []))] [] 6 [] [([], 7, [(0, (-2147483648), 2147483647), (1, (-2147483648), 2147483647), (2, (-2147483648), 2147483647), (3, (-2147483648), 2147483647), (4, (-2147483648), 2147483647), (5, (-2147483648), 2147483647), (6, 0, 1200)], [], [], [.inl ((-1), [])], [])] = true := by decide +kernel
theorem nw0 {cst : am_K} {strs : List Nat} {Φ : am_Q → Prop} {D : Nat} {M : am_M} {h : am_H} {l : am_L} (c : hp_C cst strs D) (hM : m_P[133]? = some M) (hD : (6 : Int) ≤ (D : Int) + 1) (hy : ly_hy m_tt ly_TH h) (j1 j2 j3 j4 j5 j6 t : Int) (b0 : (-2147483648) ≤ j1) (t0 : j1 ≤ 2147483647) (b1 : (-2147483648) ≤ j2) (t1 : j2 ≤ 2147483647) (b2 : (-2147483648) ≤ j3) (t2 : j3 ≤ 2147483647) (b3 : (-2147483648) ≤ j4) (t3 : j4 ≤ 2147483647) (b4 : (-2147483648) ≤ j5) (t4 : j5 ≤ 2147483647) (b5 : (-2147483648) ≤ j6) (t5 : j6 ≤ 2147483647) (b6 : 0 ≤ t) (t6 : t ≤ 1200) (k0 : ly_hv cst h 261 0 = some (t)) (k1 : ly_hv cst h 61000 (t - 1) = some 1) (l0 : hp_a l 0 16) (l1 : hp_i l 1 (j1)) (l2 : hp_i l 2 (j2)) (l3 : hp_i l 3 (j3)) (l4 : hp_i l 4 (j4)) (l5 : hp_i l 5 (j5)) (l6 : hp_i l 6 (j6)) (r0 : ∀ (h_9' : am_H) (y0 : Int32), y0.toInt = (-1) → ly_hy m_tt ly_TH h_9' → ly_fr cst [] h h_9' → h.length ≤ h_9'.length → Φ (some (.int y0), h_9', 0, 0)) : hp_F cst strs Φ D M 0 l [] h := by
  refine hp_arc c hM nw0_k hD [j1, j2, j3, j4, j5, j6, t] rfl hy (hp_Bc (z := j1) rfl b0 t0 (hp_Bc (z := j2) rfl b1 t1 (hp_Bc (z := j3) rfl b2 t2 (hp_Bc (z := j4) rfl b3 t3 (hp_Bc (z := j5) rfl b4 t4 (hp_Bc (z := j6) rfl b5 t5 (hp_Bc (z := t) rfl b6 t6 hp_Bn))))))) hp_Fn (hp_Kc (zi := (0 + 0)) (zv := (0 + (1 * t + 0))) k0 rfl rfl (by omega) (by omega) (hp_Kc (zi := ((-1) + (1 * t + 0))) (zv := (1 + 0)) k1 rfl rfl (by omega) (by omega) hp_Kn)) (hp_La l0 (hp_Li (z := (0 + (1 * j1 + 0))) l1 rfl (by omega) (hp_Li (z := (0 + (1 * j2 + 0))) l2 rfl (by omega) (hp_Li (z := (0 + (1 * j3 + 0))) l3 rfl (by omega) (hp_Li (z := (0 + (1 * j4 + 0))) l4 rfl (by omega) (hp_Li (z := (0 + (1 * j5 + 0))) l5 rfl (by omega) (hp_Li (z := (0 + (1 * j6 + 0))) l6 rfl (by omega) hp_Ln))))))) trivial ?_ ?_
  · intro p_9 hp ys l' st_9' h_9' hys a1_9 a2 a3 gZ gL gS
    cases hp
  · intro p_9 hp ys v_9 h_9' hys a1_9 a2 a3 gZ gS
    rcases List.mem_cons.mp hp with rfl | hp
    · obtain rfl := hp_y0 hys
      cases v_9 with
      | none => cases gS
      | some wz =>
        obtain ⟨y0, t0, s0_9, q0, -⟩ := hp_gSi (z := ((-1) + 0)) gS rfl
        cases s0_9
        exact r0 h_9' y0 (by omega) a1_9 a2 a3
    cases hp
theorem nw1_k : hp_chk 133 0 7 [(0, (-2147483648), 2147483647), (1, (-2147483648), 2147483647), (2, (-2147483648), 2147483647), (3, (-2147483648), 2147483647), (4, (-2147483648), 2147483647), (5, (-2147483648), 2147483647), (6, 2, 255)] [] [(0, .inr (.inr (.inl (some 16)))), (1, .inl (0, [(0, 1)])), (2, .inl (0, [(1, 1)])), (3, .inl (0, [(2, 1)])), (4, .inl (0, [(3, 1)])), (5, .inl (0, [(4, 1)])), (6, .inl (0, [(5, 1)]))] [] [(261, (0, []), (1, [])), (768, (0, []), (0, [(6, 1)]))] [] 6 [] [([], 7, [(0, (-2147483648), 2147483647), (1, (-2147483648), 2147483647), (2, (-2147483648), 2147483647), (3, (-2147483648), 2147483647), (4, (-2147483648), 2147483647), (5, (-2147483648), 2147483647), (6, 2, 255)], [], [], [.inl ((-1), [])], [])] = true := by decide +kernel
theorem nw1 {cst : am_K} {strs : List Nat} {Φ : am_Q → Prop} {D : Nat} {M : am_M} {h : am_H} {l : am_L} (c : hp_C cst strs D) (hM : m_P[133]? = some M) (hD : (6 : Int) ≤ (D : Int) + 1) (hy : ly_hy m_tt ly_TH h) (j1 j2 j3 j4 j5 j6 kk : Int) (b0 : (-2147483648) ≤ j1) (t0 : j1 ≤ 2147483647) (b1 : (-2147483648) ≤ j2) (t1 : j2 ≤ 2147483647) (b2 : (-2147483648) ≤ j3) (t2 : j3 ≤ 2147483647) (b3 : (-2147483648) ≤ j4) (t3 : j4 ≤ 2147483647) (b4 : (-2147483648) ≤ j5) (t4 : j5 ≤ 2147483647) (b5 : (-2147483648) ≤ j6) (t5 : j6 ≤ 2147483647) (b6 : 2 ≤ kk) (t6 : kk ≤ 255) (k0 : ly_hv cst h 261 0 = some 1) (k1 : ly_hv cst h 768 0 = some (kk)) (l0 : hp_a l 0 16) (l1 : hp_i l 1 (j1)) (l2 : hp_i l 2 (j2)) (l3 : hp_i l 3 (j3)) (l4 : hp_i l 4 (j4)) (l5 : hp_i l 5 (j5)) (l6 : hp_i l 6 (j6)) (r0 : ∀ (h_9' : am_H) (y0 : Int32), y0.toInt = (-1) → ly_hy m_tt ly_TH h_9' → ly_fr cst [] h h_9' → h.length ≤ h_9'.length → Φ (some (.int y0), h_9', 0, 0)) : hp_F cst strs Φ D M 0 l [] h := by
  refine hp_arc c hM nw1_k hD [j1, j2, j3, j4, j5, j6, kk] rfl hy (hp_Bc (z := j1) rfl b0 t0 (hp_Bc (z := j2) rfl b1 t1 (hp_Bc (z := j3) rfl b2 t2 (hp_Bc (z := j4) rfl b3 t3 (hp_Bc (z := j5) rfl b4 t4 (hp_Bc (z := j6) rfl b5 t5 (hp_Bc (z := kk) rfl b6 t6 hp_Bn))))))) hp_Fn (hp_Kc (zi := (0 + 0)) (zv := (1 + 0)) k0 rfl rfl (by omega) (by omega) (hp_Kc (zi := (0 + 0)) (zv := (0 + (1 * kk + 0))) k1 rfl rfl (by omega) (by omega) hp_Kn)) (hp_La l0 (hp_Li (z := (0 + (1 * j1 + 0))) l1 rfl (by omega) (hp_Li (z := (0 + (1 * j2 + 0))) l2 rfl (by omega) (hp_Li (z := (0 + (1 * j3 + 0))) l3 rfl (by omega) (hp_Li (z := (0 + (1 * j4 + 0))) l4 rfl (by omega) (hp_Li (z := (0 + (1 * j5 + 0))) l5 rfl (by omega) (hp_Li (z := (0 + (1 * j6 + 0))) l6 rfl (by omega) hp_Ln))))))) trivial ?_ ?_
  · intro p_9 hp ys l' st_9' h_9' hys a1_9 a2 a3 gZ gL gS
    cases hp
  · intro p_9 hp ys v_9 h_9' hys a1_9 a2 a3 gZ gS
    rcases List.mem_cons.mp hp with rfl | hp
    · obtain rfl := hp_y0 hys
      cases v_9 with
      | none => cases gS
      | some wz =>
        obtain ⟨y0, t0, s0_9, q0, -⟩ := hp_gSi (z := ((-1) + 0)) gS rfl
        cases s0_9
        exact r0 h_9' y0 (by omega) a1_9 a2 a3
    cases hp
theorem nw2_k : hp_chk 133 0 7 [(0, (-2147483648), 2147483647), (1, (-2147483648), 2147483647), (2, (-2147483648), 2147483647), (3, (-2147483648), 2147483647), (4, (-2147483648), 2147483647), (5, (-2147483648), 2147483647), (6, 1, 1152921504606846976)] [] [(0, .inr (.inr (.inl (some 16)))), (1, .inl (0, [(0, 1)])), (2, .inl (0, [(1, 1)])), (3, .inl (0, [(2, 1)])), (4, .inl (0, [(3, 1)])), (5, .inl (0, [(4, 1)])), (6, .inl (0, [(5, 1)]))] [] [(261, (0, []), (1, [])), (768, (0, []), (1, [])), (1280, (0, []), (0, [(6, 1)])), (7170, (0, []), (100, []))] [] 6 [] [([], 7, [(0, (-2147483648), 2147483647), (1, (-2147483648), 2147483647), (2, (-2147483648), 2147483647), (3, (-2147483648), 2147483647), (4, (-2147483648), 2147483647), (5, (-2147483648), 2147483647), (6, 1, 1152921504606846976)], [], [], [.inl ((-3), [])], [])] = true := by decide +kernel
theorem nw2 {cst : am_K} {strs : List Nat} {Φ : am_Q → Prop} {D : Nat} {M : am_M} {h : am_H} {l : am_L} (c : hp_C cst strs D) (hM : m_P[133]? = some M) (hD : (6 : Int) ≤ (D : Int) + 1) (hy : ly_hy m_tt ly_TH h) (j1 j2 j3 j4 j5 j6 vv : Int) (b0 : (-2147483648) ≤ j1) (t0 : j1 ≤ 2147483647) (b1 : (-2147483648) ≤ j2) (t1 : j2 ≤ 2147483647) (b2 : (-2147483648) ≤ j3) (t2 : j3 ≤ 2147483647) (b3 : (-2147483648) ≤ j4) (t3 : j4 ≤ 2147483647) (b4 : (-2147483648) ≤ j5) (t4 : j5 ≤ 2147483647) (b5 : (-2147483648) ≤ j6) (t5 : j6 ≤ 2147483647) (b6 : 1 ≤ vv) (t6 : vv ≤ 1152921504606846976) (k0 : ly_hv cst h 261 0 = some 1) (k1 : ly_hv cst h 768 0 = some 1) (k2 : ly_hv cst h 1280 0 = some (vv)) (k3 : ly_hv cst h 7170 0 = some 100) (l0 : hp_a l 0 16) (l1 : hp_i l 1 (j1)) (l2 : hp_i l 2 (j2)) (l3 : hp_i l 3 (j3)) (l4 : hp_i l 4 (j4)) (l5 : hp_i l 5 (j5)) (l6 : hp_i l 6 (j6)) (r0 : ∀ (h_9' : am_H) (y0 : Int32), y0.toInt = (-3) → ly_hy m_tt ly_TH h_9' → ly_fr cst [] h h_9' → h.length ≤ h_9'.length → Φ (some (.int y0), h_9', 0, 0)) : hp_F cst strs Φ D M 0 l [] h := by
  refine hp_arc c hM nw2_k hD [j1, j2, j3, j4, j5, j6, vv] rfl hy (hp_Bc (z := j1) rfl b0 t0 (hp_Bc (z := j2) rfl b1 t1 (hp_Bc (z := j3) rfl b2 t2 (hp_Bc (z := j4) rfl b3 t3 (hp_Bc (z := j5) rfl b4 t4 (hp_Bc (z := j6) rfl b5 t5 (hp_Bc (z := vv) rfl b6 t6 hp_Bn))))))) hp_Fn (hp_Kc (zi := (0 + 0)) (zv := (1 + 0)) k0 rfl rfl (by omega) (by omega) (hp_Kc (zi := (0 + 0)) (zv := (1 + 0)) k1 rfl rfl (by omega) (by omega) (hp_Kc (zi := (0 + 0)) (zv := (0 + (1 * vv + 0))) k2 rfl rfl (by omega) (by omega) (hp_Kc (zi := (0 + 0)) (zv := (100 + 0)) k3 rfl rfl (by omega) (by omega) hp_Kn)))) (hp_La l0 (hp_Li (z := (0 + (1 * j1 + 0))) l1 rfl (by omega) (hp_Li (z := (0 + (1 * j2 + 0))) l2 rfl (by omega) (hp_Li (z := (0 + (1 * j3 + 0))) l3 rfl (by omega) (hp_Li (z := (0 + (1 * j4 + 0))) l4 rfl (by omega) (hp_Li (z := (0 + (1 * j5 + 0))) l5 rfl (by omega) (hp_Li (z := (0 + (1 * j6 + 0))) l6 rfl (by omega) hp_Ln))))))) trivial ?_ ?_
  · intro p_9 hp ys l' st_9' h_9' hys a1_9 a2 a3 gZ gL gS
    cases hp
  · intro p_9 hp ys v_9 h_9' hys a1_9 a2 a3 gZ gS
    rcases List.mem_cons.mp hp with rfl | hp
    · obtain rfl := hp_y0 hys
      cases v_9 with
      | none => cases gS
      | some wz =>
        obtain ⟨y0, t0, s0_9, q0, -⟩ := hp_gSi (z := ((-3) + 0)) gS rfl
        cases s0_9
        exact r0 h_9' y0 (by omega) a1_9 a2 a3
    cases hp
theorem nb0_k : hp_chk 335 0 10 [(0, 0, 1), (1, (-2147483648), 2147483647), (2, (-2147483648), 2147483647), (3, (-2147483648), 2147483647), (4, (-2147483648), 2147483647), (5, (-2147483648), 2147483647), (6, (-2147483648), 2147483647), (7, 0, 99), (8, 0, 399), (9, 1, 1152921504606846976)] [] [(0, .inr (.inr (.inl (some 94)))), (1, .inl (0, [(0, 1)])), (2, .inl (0, [(1, 1)])), (3, .inl (0, [(2, 1)])), (4, .inl (0, [(3, 1)])), (5, .inl (0, [(4, 1)])), (6, .inl (0, [(5, 1)])), (7, .inl (0, [(6, 1)]))] [] [(20024, (0, []), (0, [(7, 1)])), (19977, (0, []), (0, [(8, 1)])), (20017, (0, []), (0, [(9, 1)]))] [] 6 [(13, ([], 10, [(0, 0, 1), (1, (-2147483648), 2147483647), (2, (-2147483648), 2147483647), (3, (-2147483648), 2147483647), (4, (-2147483648), 2147483647), (5, (-2147483648), 2147483647), (6, (-2147483648), 2147483647), (7, 0, 99), (8, 0, 399), (9, 1, 1152921504606846976)], [], [(0, .inr (.inr (.inl (some 94)))), (1, .inl (0, [(0, 1)])), (2, .inl (0, [(1, 1)])), (3, .inl (0, [(2, 1)])), (4, .inl (0, [(3, 1)])), (5, .inl (0, [(4, 1)])), (6, .inl (0, [(5, 1)])), (7, .inl (0, [(6, 1)])), (8, .inl (0, [(7, 1)]))], [.inl (0, [(0, 1)]), .inl (0, [(7, 1)]), .inr (.inr (.inl (some 127)))], [(20024, (0, []), (0, [(7, 1)])), (19977, (0, []), (0, [(8, 1)])), (20017, (0, []), (0, [(9, 1)]))]))] [] = true := by decide +kernel
theorem nb0 {cst : am_K} {strs : List Nat} {Φ : am_Q → Prop} {D : Nat} {M : am_M} {h : am_H} {l : am_L} (c : hp_C cst strs D) (hM : m_P[335]? = some M) (hD : (6 : Int) ≤ (D : Int) + 1) (hy : ly_hy m_tt ly_TH h) (z p q s y d w m g vv : Int) (b0 : 0 ≤ z) (t0 : z ≤ 1) (b1 : (-2147483648) ≤ p) (t1 : p ≤ 2147483647) (b2 : (-2147483648) ≤ q) (t2 : q ≤ 2147483647) (b3 : (-2147483648) ≤ s) (t3 : s ≤ 2147483647) (b4 : (-2147483648) ≤ y) (t4 : y ≤ 2147483647) (b5 : (-2147483648) ≤ d) (t5 : d ≤ 2147483647) (b6 : (-2147483648) ≤ w) (t6 : w ≤ 2147483647) (b7 : 0 ≤ m) (t7 : m ≤ 99) (b8 : 0 ≤ g) (t8 : g ≤ 399) (b9 : 1 ≤ vv) (t9 : vv ≤ 1152921504606846976) (k0 : ly_hv cst h 20024 0 = some (m)) (k1 : ly_hv cst h 19977 0 = some (g)) (k2 : ly_hv cst h 20017 0 = some (vv)) (l0 : hp_a l 0 94) (l1 : hp_i l 1 (z)) (l2 : hp_i l 2 (p)) (l3 : hp_i l 3 (q)) (l4 : hp_i l 4 (s)) (l5 : hp_i l 5 (y)) (l6 : hp_i l 6 (d)) (l7 : hp_i l 7 (w)) (e0 : ∀ (l' : am_L) (h_9' : am_H) (y0 : Int32) (y1 : Int32), y0.toInt = (z) → y1.toInt = (m) → ly_hy m_tt ly_TH h_9' → ly_fr cst [] h h_9' → h.length ≤ h_9'.length → ly_hv cst h_9' 20024 0 = some (m) → ly_hv cst h_9' 19977 0 = some (g) → ly_hv cst h_9' 20017 0 = some (vv) → hp_a l' 0 94 → hp_i l' 1 (z) → hp_i l' 2 (p) → hp_i l' 3 (q) → hp_i l' 4 (s) → hp_i l' 5 (y) → hp_i l' 6 (d) → hp_i l' 7 (w) → hp_i l' 8 (m) → hp_F cst strs Φ D M 13 l' [.int y0, .int y1, .ref 127] h_9') : hp_F cst strs Φ D M 0 l [] h := by
  refine hp_arc c hM nb0_k hD [z, p, q, s, y, d, w, m, g, vv] rfl hy (hp_Bc (z := z) rfl b0 t0 (hp_Bc (z := p) rfl b1 t1 (hp_Bc (z := q) rfl b2 t2 (hp_Bc (z := s) rfl b3 t3 (hp_Bc (z := y) rfl b4 t4 (hp_Bc (z := d) rfl b5 t5 (hp_Bc (z := w) rfl b6 t6 (hp_Bc (z := m) rfl b7 t7 (hp_Bc (z := g) rfl b8 t8 (hp_Bc (z := vv) rfl b9 t9 hp_Bn)))))))))) hp_Fn (hp_Kc (zi := (0 + 0)) (zv := (0 + (1 * m + 0))) k0 rfl rfl (by omega) (by omega) (hp_Kc (zi := (0 + 0)) (zv := (0 + (1 * g + 0))) k1 rfl rfl (by omega) (by omega) (hp_Kc (zi := (0 + 0)) (zv := (0 + (1 * vv + 0))) k2 rfl rfl (by omega) (by omega) hp_Kn))) (hp_La l0 (hp_Li (z := (0 + (1 * z + 0))) l1 rfl (by omega) (hp_Li (z := (0 + (1 * p + 0))) l2 rfl (by omega) (hp_Li (z := (0 + (1 * q + 0))) l3 rfl (by omega) (hp_Li (z := (0 + (1 * s + 0))) l4 rfl (by omega) (hp_Li (z := (0 + (1 * y + 0))) l5 rfl (by omega) (hp_Li (z := (0 + (1 * d + 0))) l6 rfl (by omega) (hp_Li (z := (0 + (1 * w + 0))) l7 rfl (by omega) hp_Ln)))))))) trivial ?_ ?_
  · intro p hp ys l' st_9' h_9' hys a1_9 a2 a3 gZ gL gS
    rcases List.mem_cons.mp hp with rfl | hp
    · obtain rfl := hp_y0 hys
      obtain ⟨y0, t0, rfl, q0, g0⟩ := hp_gSi (z := (0 + (1 * z + 0))) gS rfl
      obtain ⟨y1, t1, rfl, q1_9, g1⟩ := hp_gSi (z := (0 + (1 * m + 0))) g0 rfl
      obtain ⟨t2, rfl, g2⟩ := hp_gSa g1 (by decide)
      cases hp_gSn g2
      exact e0 l' h_9' y0 y1 (by omega) (by omega) a1_9 a2 a3 (hp_gK (zi := (0 + 0)) (zv := (0 + (1 * m + 0))) gZ.2.2.2 (List.mem_of_getElem? (i := 0) rfl) rfl rfl (by omega) (by omega)) (hp_gK (zi := (0 + 0)) (zv := (0 + (1 * g + 0))) gZ.2.2.2 (List.mem_of_getElem? (i := 1) rfl) rfl rfl (by omega) (by omega)) (hp_gK (zi := (0 + 0)) (zv := (0 + (1 * vv + 0))) gZ.2.2.2 (List.mem_of_getElem? (i := 2) rfl) rfl rfl (by omega) (by omega)) (hp_gLa gL (List.mem_of_getElem? (i := 0) rfl) (by decide)) (hp_gLi (z := (0 + (1 * z + 0))) gL (List.mem_of_getElem? (i := 1) rfl) rfl (by omega)) (hp_gLi (z := (0 + (1 * p + 0))) gL (List.mem_of_getElem? (i := 2) rfl) rfl (by omega)) (hp_gLi (z := (0 + (1 * q + 0))) gL (List.mem_of_getElem? (i := 3) rfl) rfl (by omega)) (hp_gLi (z := (0 + (1 * s + 0))) gL (List.mem_of_getElem? (i := 4) rfl) rfl (by omega)) (hp_gLi (z := (0 + (1 * y + 0))) gL (List.mem_of_getElem? (i := 5) rfl) rfl (by omega)) (hp_gLi (z := (0 + (1 * d + 0))) gL (List.mem_of_getElem? (i := 6) rfl) rfl (by omega)) (hp_gLi (z := (0 + (1 * w + 0))) gL (List.mem_of_getElem? (i := 7) rfl) rfl (by omega)) (hp_gLi (z := (0 + (1 * m + 0))) gL (List.mem_of_getElem? (i := 8) rfl) rfl (by omega))
    cases hp
  · intro p hp ys v_9 h_9' hys a1_9 a2 a3 gZ gS
    cases hp
theorem nb1_k : hp_chk 335 14 10 [(0, 0, 1), (1, (-2147483648), 2147483647), (2, (-2147483648), 2147483647), (3, (-2147483648), 2147483647), (4, (-2147483648), 2147483647), (5, (-2147483648), 2147483647), (6, (-2147483648), 2147483647), (7, 0, 99), (8, 0, 399), (9, 1, 1152921504606846976)] [] [(0, .inr (.inr (.inl (some 94)))), (1, .inl (0, [(0, 1)])), (2, .inl (0, [(1, 1)])), (3, .inl (0, [(2, 1)])), (4, .inl (0, [(3, 1)])), (5, .inl (0, [(4, 1)])), (6, .inl (0, [(5, 1)])), (7, .inl (0, [(6, 1)])), (8, .inl (0, [(7, 1)]))] [] [(20024, (0, []), (0, [(7, 1)])), (19977, (0, []), (0, [(8, 1)])), (20017, (0, []), (0, [(9, 1)]))] [28672, 28928] 6 [(54, ([], 10, [(0, 0, 1), (1, (-2147483648), 2147483647), (2, (-2147483648), 2147483647), (3, (-2147483648), 2147483647), (4, (-2147483648), 2147483647), (5, (-2147483648), 2147483647), (6, (-2147483648), 2147483647), (7, 0, 99), (8, 0, 399), (9, 1, 1152921504606846976)], [], [(0, .inr (.inr (.inl (some 94)))), (1, .inl (0, [(0, 1)])), (2, .inl (0, [(1, 1)])), (3, .inl (0, [(2, 1)])), (4, .inl (0, [(3, 1)])), (5, .inl (0, [(4, 1)])), (6, .inl (0, [(5, 1)])), (7, .inl (0, [(6, 1)])), (8, .inl (0, [(7, 1)]))], [.inl (0, [(3, 1)]), .inl (0, [(7, 1)]), .inr (.inr (.inl (some 130)))], [(20024, (0, []), (0, [(7, 1)])), (19977, (0, []), (0, [(8, 1)])), (20017, (0, []), (0, [(9, 1)]))]))] [] = true := by decide +kernel
theorem nb1 {cst : am_K} {strs : List Nat} {Φ : am_Q → Prop} {D : Nat} {M : am_M} {h : am_H} {l : am_L} (c : hp_C cst strs D) (hM : m_P[335]? = some M) (hD : (6 : Int) ≤ (D : Int) + 1) (hy : ly_hy m_tt ly_TH h) (z p q s y d w m g vv : Int) (b0 : 0 ≤ z) (t0 : z ≤ 1) (b1 : (-2147483648) ≤ p) (t1 : p ≤ 2147483647) (b2 : (-2147483648) ≤ q) (t2 : q ≤ 2147483647) (b3 : (-2147483648) ≤ s) (t3 : s ≤ 2147483647) (b4 : (-2147483648) ≤ y) (t4 : y ≤ 2147483647) (b5 : (-2147483648) ≤ d) (t5 : d ≤ 2147483647) (b6 : (-2147483648) ≤ w) (t6 : w ≤ 2147483647) (b7 : 0 ≤ m) (t7 : m ≤ 99) (b8 : 0 ≤ g) (t8 : g ≤ 399) (b9 : 1 ≤ vv) (t9 : vv ≤ 1152921504606846976) (k0 : ly_hv cst h 20024 0 = some (m)) (k1 : ly_hv cst h 19977 0 = some (g)) (k2 : ly_hv cst h 20017 0 = some (vv)) (l0 : hp_a l 0 94) (l1 : hp_i l 1 (z)) (l2 : hp_i l 2 (p)) (l3 : hp_i l 3 (q)) (l4 : hp_i l 4 (s)) (l5 : hp_i l 5 (y)) (l6 : hp_i l 6 (d)) (l7 : hp_i l 7 (w)) (l8 : hp_i l 8 (m)) (e0 : ∀ (l' : am_L) (h_9' : am_H) (y0 : Int32) (y1 : Int32), y0.toInt = (s) → y1.toInt = (m) → ly_hy m_tt ly_TH h_9' → ly_fr cst [28672, 28928] h h_9' → h.length ≤ h_9'.length → ly_hv cst h_9' 20024 0 = some (m) → ly_hv cst h_9' 19977 0 = some (g) → ly_hv cst h_9' 20017 0 = some (vv) → hp_a l' 0 94 → hp_i l' 1 (z) → hp_i l' 2 (p) → hp_i l' 3 (q) → hp_i l' 4 (s) → hp_i l' 5 (y) → hp_i l' 6 (d) → hp_i l' 7 (w) → hp_i l' 8 (m) → hp_F cst strs Φ D M 54 l' [.int y0, .int y1, .ref 130] h_9') : hp_F cst strs Φ D M 14 l [] h := by
  refine hp_arc c hM nb1_k hD [z, p, q, s, y, d, w, m, g, vv] rfl hy (hp_Bc (z := z) rfl b0 t0 (hp_Bc (z := p) rfl b1 t1 (hp_Bc (z := q) rfl b2 t2 (hp_Bc (z := s) rfl b3 t3 (hp_Bc (z := y) rfl b4 t4 (hp_Bc (z := d) rfl b5 t5 (hp_Bc (z := w) rfl b6 t6 (hp_Bc (z := m) rfl b7 t7 (hp_Bc (z := g) rfl b8 t8 (hp_Bc (z := vv) rfl b9 t9 hp_Bn)))))))))) hp_Fn (hp_Kc (zi := (0 + 0)) (zv := (0 + (1 * m + 0))) k0 rfl rfl (by omega) (by omega) (hp_Kc (zi := (0 + 0)) (zv := (0 + (1 * g + 0))) k1 rfl rfl (by omega) (by omega) (hp_Kc (zi := (0 + 0)) (zv := (0 + (1 * vv + 0))) k2 rfl rfl (by omega) (by omega) hp_Kn))) (hp_La l0 (hp_Li (z := (0 + (1 * z + 0))) l1 rfl (by omega) (hp_Li (z := (0 + (1 * p + 0))) l2 rfl (by omega) (hp_Li (z := (0 + (1 * q + 0))) l3 rfl (by omega) (hp_Li (z := (0 + (1 * s + 0))) l4 rfl (by omega) (hp_Li (z := (0 + (1 * y + 0))) l5 rfl (by omega) (hp_Li (z := (0 + (1 * d + 0))) l6 rfl (by omega) (hp_Li (z := (0 + (1 * w + 0))) l7 rfl (by omega) (hp_Li (z := (0 + (1 * m + 0))) l8 rfl (by omega) hp_Ln))))))))) trivial ?_ ?_
  · intro p hp ys l' st_9' h_9' hys a1_9 a2 a3 gZ gL gS
    rcases List.mem_cons.mp hp with rfl | hp
    · obtain rfl := hp_y0 hys
      obtain ⟨y0, t0, rfl, q0, g0⟩ := hp_gSi (z := (0 + (1 * s + 0))) gS rfl
      obtain ⟨y1, t1, rfl, q1_9, g1⟩ := hp_gSi (z := (0 + (1 * m + 0))) g0 rfl
      obtain ⟨t2, rfl, g2⟩ := hp_gSa g1 (by decide)
      cases hp_gSn g2
      exact e0 l' h_9' y0 y1 (by omega) (by omega) a1_9 a2 a3 (hp_gK (zi := (0 + 0)) (zv := (0 + (1 * m + 0))) gZ.2.2.2 (List.mem_of_getElem? (i := 0) rfl) rfl rfl (by omega) (by omega)) (hp_gK (zi := (0 + 0)) (zv := (0 + (1 * g + 0))) gZ.2.2.2 (List.mem_of_getElem? (i := 1) rfl) rfl rfl (by omega) (by omega)) (hp_gK (zi := (0 + 0)) (zv := (0 + (1 * vv + 0))) gZ.2.2.2 (List.mem_of_getElem? (i := 2) rfl) rfl rfl (by omega) (by omega)) (hp_gLa gL (List.mem_of_getElem? (i := 0) rfl) (by decide)) (hp_gLi (z := (0 + (1 * z + 0))) gL (List.mem_of_getElem? (i := 1) rfl) rfl (by omega)) (hp_gLi (z := (0 + (1 * p + 0))) gL (List.mem_of_getElem? (i := 2) rfl) rfl (by omega)) (hp_gLi (z := (0 + (1 * q + 0))) gL (List.mem_of_getElem? (i := 3) rfl) rfl (by omega)) (hp_gLi (z := (0 + (1 * s + 0))) gL (List.mem_of_getElem? (i := 4) rfl) rfl (by omega)) (hp_gLi (z := (0 + (1 * y + 0))) gL (List.mem_of_getElem? (i := 5) rfl) rfl (by omega)) (hp_gLi (z := (0 + (1 * d + 0))) gL (List.mem_of_getElem? (i := 6) rfl) rfl (by omega)) (hp_gLi (z := (0 + (1 * w + 0))) gL (List.mem_of_getElem? (i := 7) rfl) rfl (by omega)) (hp_gLi (z := (0 + (1 * m + 0))) gL (List.mem_of_getElem? (i := 8) rfl) rfl (by omega))
    cases hp
  · intro p hp ys v_9 h_9' hys a1_9 a2 a3 gZ gS
    cases hp
theorem nb2_k : hp_chk 335 55 10 [(0, 0, 1), (1, (-2147483648), 2147483647), (2, (-2147483648), 2147483647), (3, (-2147483648), 2147483647), (4, (-2147483648), 2147483647), (5, (-2147483648), 2147483647), (6, (-2147483648), 2147483647), (7, 0, 99), (8, 0, 399), (9, 1, 1152921504606846976)] [] [(0, .inr (.inr (.inl (some 94)))), (1, .inl (0, [(0, 1)])), (2, .inl (0, [(1, 1)])), (3, .inl (0, [(2, 1)])), (4, .inl (0, [(3, 1)])), (5, .inl (0, [(4, 1)])), (6, .inl (0, [(5, 1)])), (7, .inl (0, [(6, 1)])), (8, .inl (0, [(7, 1)]))] [] [(20024, (0, []), (0, [(7, 1)])), (19977, (0, []), (0, [(8, 1)])), (20017, (0, []), (0, [(9, 1)]))] [29440] 6 [(72, ([], 10, [(0, 0, 1), (1, (-2147483648), 2147483647), (2, (-2147483648), 2147483647), (3, (-2147483648), 2147483647), (4, (-2147483648), 2147483647), (5, (-2147483648), 2147483647), (6, (-2147483648), 2147483647), (7, 0, 99), (8, 0, 399), (9, 1, 1152921504606846976)], [], [(0, .inr (.inr (.inl (some 94)))), (1, .inl (0, [(0, 1)])), (2, .inl (0, [(1, 1)])), (3, .inl (0, [(2, 1)])), (4, .inl (0, [(3, 1)])), (5, .inl (0, [(4, 1)])), (6, .inl (0, [(5, 1)])), (7, .inl (0, [(6, 1)])), (8, .inl (0, [(7, 1)]))], [.inl (0, [(5, 1)]), .inl (0, [(7, 1)]), .inr (.inr (.inl (some 132)))], [(20024, (0, []), (0, [(7, 1)])), (19977, (0, []), (0, [(8, 1)])), (20017, (0, []), (0, [(9, 1)]))]))] [] = true := by decide +kernel
theorem nb2 {cst : am_K} {strs : List Nat} {Φ : am_Q → Prop} {D : Nat} {M : am_M} {h : am_H} {l : am_L} (c : hp_C cst strs D) (hM : m_P[335]? = some M) (hD : (6 : Int) ≤ (D : Int) + 1) (hy : ly_hy m_tt ly_TH h) (z p q s y d w m g vv : Int) (b0 : 0 ≤ z) (t0 : z ≤ 1) (b1 : (-2147483648) ≤ p) (t1 : p ≤ 2147483647) (b2 : (-2147483648) ≤ q) (t2 : q ≤ 2147483647) (b3 : (-2147483648) ≤ s) (t3 : s ≤ 2147483647) (b4 : (-2147483648) ≤ y) (t4 : y ≤ 2147483647) (b5 : (-2147483648) ≤ d) (t5 : d ≤ 2147483647) (b6 : (-2147483648) ≤ w) (t6 : w ≤ 2147483647) (b7 : 0 ≤ m) (t7 : m ≤ 99) (b8 : 0 ≤ g) (t8 : g ≤ 399) (b9 : 1 ≤ vv) (t9 : vv ≤ 1152921504606846976) (k0 : ly_hv cst h 20024 0 = some (m)) (k1 : ly_hv cst h 19977 0 = some (g)) (k2 : ly_hv cst h 20017 0 = some (vv)) (l0 : hp_a l 0 94) (l1 : hp_i l 1 (z)) (l2 : hp_i l 2 (p)) (l3 : hp_i l 3 (q)) (l4 : hp_i l 4 (s)) (l5 : hp_i l 5 (y)) (l6 : hp_i l 6 (d)) (l7 : hp_i l 7 (w)) (l8 : hp_i l 8 (m)) (e0 : ∀ (l' : am_L) (h_9' : am_H) (y0 : Int32) (y1 : Int32), y0.toInt = (d) → y1.toInt = (m) → ly_hy m_tt ly_TH h_9' → ly_fr cst [29440] h h_9' → h.length ≤ h_9'.length → ly_hv cst h_9' 20024 0 = some (m) → ly_hv cst h_9' 19977 0 = some (g) → ly_hv cst h_9' 20017 0 = some (vv) → hp_a l' 0 94 → hp_i l' 1 (z) → hp_i l' 2 (p) → hp_i l' 3 (q) → hp_i l' 4 (s) → hp_i l' 5 (y) → hp_i l' 6 (d) → hp_i l' 7 (w) → hp_i l' 8 (m) → hp_F cst strs Φ D M 72 l' [.int y0, .int y1, .ref 132] h_9') : hp_F cst strs Φ D M 55 l [] h := by
  refine hp_arc c hM nb2_k hD [z, p, q, s, y, d, w, m, g, vv] rfl hy (hp_Bc (z := z) rfl b0 t0 (hp_Bc (z := p) rfl b1 t1 (hp_Bc (z := q) rfl b2 t2 (hp_Bc (z := s) rfl b3 t3 (hp_Bc (z := y) rfl b4 t4 (hp_Bc (z := d) rfl b5 t5 (hp_Bc (z := w) rfl b6 t6 (hp_Bc (z := m) rfl b7 t7 (hp_Bc (z := g) rfl b8 t8 (hp_Bc (z := vv) rfl b9 t9 hp_Bn)))))))))) hp_Fn (hp_Kc (zi := (0 + 0)) (zv := (0 + (1 * m + 0))) k0 rfl rfl (by omega) (by omega) (hp_Kc (zi := (0 + 0)) (zv := (0 + (1 * g + 0))) k1 rfl rfl (by omega) (by omega) (hp_Kc (zi := (0 + 0)) (zv := (0 + (1 * vv + 0))) k2 rfl rfl (by omega) (by omega) hp_Kn))) (hp_La l0 (hp_Li (z := (0 + (1 * z + 0))) l1 rfl (by omega) (hp_Li (z := (0 + (1 * p + 0))) l2 rfl (by omega) (hp_Li (z := (0 + (1 * q + 0))) l3 rfl (by omega) (hp_Li (z := (0 + (1 * s + 0))) l4 rfl (by omega) (hp_Li (z := (0 + (1 * y + 0))) l5 rfl (by omega) (hp_Li (z := (0 + (1 * d + 0))) l6 rfl (by omega) (hp_Li (z := (0 + (1 * w + 0))) l7 rfl (by omega) (hp_Li (z := (0 + (1 * m + 0))) l8 rfl (by omega) hp_Ln))))))))) trivial ?_ ?_
  · intro p hp ys l' st_9' h_9' hys a1_9 a2 a3 gZ gL gS
    rcases List.mem_cons.mp hp with rfl | hp
    · obtain rfl := hp_y0 hys
      obtain ⟨y0, t0, rfl, q0, g0⟩ := hp_gSi (z := (0 + (1 * d + 0))) gS rfl
      obtain ⟨y1, t1, rfl, q1_9, g1⟩ := hp_gSi (z := (0 + (1 * m + 0))) g0 rfl
      obtain ⟨t2, rfl, g2⟩ := hp_gSa g1 (by decide)
      cases hp_gSn g2
      exact e0 l' h_9' y0 y1 (by omega) (by omega) a1_9 a2 a3 (hp_gK (zi := (0 + 0)) (zv := (0 + (1 * m + 0))) gZ.2.2.2 (List.mem_of_getElem? (i := 0) rfl) rfl rfl (by omega) (by omega)) (hp_gK (zi := (0 + 0)) (zv := (0 + (1 * g + 0))) gZ.2.2.2 (List.mem_of_getElem? (i := 1) rfl) rfl rfl (by omega) (by omega)) (hp_gK (zi := (0 + 0)) (zv := (0 + (1 * vv + 0))) gZ.2.2.2 (List.mem_of_getElem? (i := 2) rfl) rfl rfl (by omega) (by omega)) (hp_gLa gL (List.mem_of_getElem? (i := 0) rfl) (by decide)) (hp_gLi (z := (0 + (1 * z + 0))) gL (List.mem_of_getElem? (i := 1) rfl) rfl (by omega)) (hp_gLi (z := (0 + (1 * p + 0))) gL (List.mem_of_getElem? (i := 2) rfl) rfl (by omega)) (hp_gLi (z := (0 + (1 * q + 0))) gL (List.mem_of_getElem? (i := 3) rfl) rfl (by omega)) (hp_gLi (z := (0 + (1 * s + 0))) gL (List.mem_of_getElem? (i := 4) rfl) rfl (by omega)) (hp_gLi (z := (0 + (1 * y + 0))) gL (List.mem_of_getElem? (i := 5) rfl) rfl (by omega)) (hp_gLi (z := (0 + (1 * d + 0))) gL (List.mem_of_getElem? (i := 6) rfl) rfl (by omega)) (hp_gLi (z := (0 + (1 * w + 0))) gL (List.mem_of_getElem? (i := 7) rfl) rfl (by omega)) (hp_gLi (z := (0 + (1 * m + 0))) gL (List.mem_of_getElem? (i := 8) rfl) rfl (by omega))
    cases hp
  · intro p hp ys v_9 h_9' hys a1_9 a2 a3 gZ gS
    cases hp
theorem nb3_k : hp_chk 335 73 10 [(0, 0, 1), (1, (-2147483648), 2147483647), (2, (-2147483648), 2147483647), (3, (-2147483648), 2147483647), (4, (-2147483648), 2147483647), (5, (-2147483648), 2147483647), (6, (-2147483648), 2147483647), (7, 0, 99), (8, 0, 399), (9, 1, 1152921504606846976)] [] [(0, .inr (.inr (.inl (some 94)))), (1, .inl (0, [(0, 1)])), (2, .inl (0, [(1, 1)])), (3, .inl (0, [(2, 1)])), (4, .inl (0, [(3, 1)])), (5, .inl (0, [(4, 1)])), (6, .inl (0, [(5, 1)])), (7, .inl (0, [(6, 1)])), (8, .inl (0, [(7, 1)]))] [] [(20024, (0, []), (0, [(7, 1)])), (19977, (0, []), (0, [(8, 1)])), (20017, (0, []), (0, [(9, 1)]))] [29952] 6 [(92, ([], 10, [(0, 0, 1), (1, (-2147483648), 2147483647), (2, (-2147483648), 2147483647), (3, (-2147483648), 2147483647), (4, (-2147483648), 2147483647), (5, (-2147483648), 2147483647), (6, (-2147483648), 2147483647), (7, 0, 99), (8, 0, 399), (9, 1, 1152921504606846976)], [], [(0, .inr (.inr (.inl (some 94)))), (1, .inl (0, [(0, 1)])), (2, .inl (0, [(1, 1)])), (3, .inl (0, [(2, 1)])), (4, .inl (0, [(3, 1)])), (5, .inl (0, [(4, 1)])), (6, .inl (0, [(5, 1)])), (7, .inl (0, [(6, 1)])), (8, .inl (0, [(7, 1)]))], [.inr (.inl (0, [(9, 1)])), .inl (0, [(7, 1)]), .inr (.inr (.inl (some 134)))], [(20024, (0, []), (0, [(7, 1)])), (19977, (0, []), (0, [(8, 1)])), (20017, (0, []), (0, [(9, 1)]))]))] [] = true := by decide +kernel
theorem nb3 {cst : am_K} {strs : List Nat} {Φ : am_Q → Prop} {D : Nat} {M : am_M} {h : am_H} {l : am_L} (c : hp_C cst strs D) (hM : m_P[335]? = some M) (hD : (6 : Int) ≤ (D : Int) + 1) (hy : ly_hy m_tt ly_TH h) (z p q s y d w m g vv : Int) (b0 : 0 ≤ z) (t0 : z ≤ 1) (b1 : (-2147483648) ≤ p) (t1 : p ≤ 2147483647) (b2 : (-2147483648) ≤ q) (t2 : q ≤ 2147483647) (b3 : (-2147483648) ≤ s) (t3 : s ≤ 2147483647) (b4 : (-2147483648) ≤ y) (t4 : y ≤ 2147483647) (b5 : (-2147483648) ≤ d) (t5 : d ≤ 2147483647) (b6 : (-2147483648) ≤ w) (t6 : w ≤ 2147483647) (b7 : 0 ≤ m) (t7 : m ≤ 99) (b8 : 0 ≤ g) (t8 : g ≤ 399) (b9 : 1 ≤ vv) (t9 : vv ≤ 1152921504606846976) (k0 : ly_hv cst h 20024 0 = some (m)) (k1 : ly_hv cst h 19977 0 = some (g)) (k2 : ly_hv cst h 20017 0 = some (vv)) (l0 : hp_a l 0 94) (l1 : hp_i l 1 (z)) (l2 : hp_i l 2 (p)) (l3 : hp_i l 3 (q)) (l4 : hp_i l 4 (s)) (l5 : hp_i l 5 (y)) (l6 : hp_i l 6 (d)) (l7 : hp_i l 7 (w)) (l8 : hp_i l 8 (m)) (e0 : ∀ (l' : am_L) (h_9' : am_H) (y0 : Int64) (y1 : Int32), y0.toInt = (vv) → y1.toInt = (m) → ly_hy m_tt ly_TH h_9' → ly_fr cst [29952] h h_9' → h.length ≤ h_9'.length → ly_hv cst h_9' 20024 0 = some (m) → ly_hv cst h_9' 19977 0 = some (g) → ly_hv cst h_9' 20017 0 = some (vv) → hp_a l' 0 94 → hp_i l' 1 (z) → hp_i l' 2 (p) → hp_i l' 3 (q) → hp_i l' 4 (s) → hp_i l' 5 (y) → hp_i l' 6 (d) → hp_i l' 7 (w) → hp_i l' 8 (m) → hp_F cst strs Φ D M 92 l' [.long y0, .int y1, .ref 134] h_9') : hp_F cst strs Φ D M 73 l [] h := by
  refine hp_arc c hM nb3_k hD [z, p, q, s, y, d, w, m, g, vv] rfl hy (hp_Bc (z := z) rfl b0 t0 (hp_Bc (z := p) rfl b1 t1 (hp_Bc (z := q) rfl b2 t2 (hp_Bc (z := s) rfl b3 t3 (hp_Bc (z := y) rfl b4 t4 (hp_Bc (z := d) rfl b5 t5 (hp_Bc (z := w) rfl b6 t6 (hp_Bc (z := m) rfl b7 t7 (hp_Bc (z := g) rfl b8 t8 (hp_Bc (z := vv) rfl b9 t9 hp_Bn)))))))))) hp_Fn (hp_Kc (zi := (0 + 0)) (zv := (0 + (1 * m + 0))) k0 rfl rfl (by omega) (by omega) (hp_Kc (zi := (0 + 0)) (zv := (0 + (1 * g + 0))) k1 rfl rfl (by omega) (by omega) (hp_Kc (zi := (0 + 0)) (zv := (0 + (1 * vv + 0))) k2 rfl rfl (by omega) (by omega) hp_Kn))) (hp_La l0 (hp_Li (z := (0 + (1 * z + 0))) l1 rfl (by omega) (hp_Li (z := (0 + (1 * p + 0))) l2 rfl (by omega) (hp_Li (z := (0 + (1 * q + 0))) l3 rfl (by omega) (hp_Li (z := (0 + (1 * s + 0))) l4 rfl (by omega) (hp_Li (z := (0 + (1 * y + 0))) l5 rfl (by omega) (hp_Li (z := (0 + (1 * d + 0))) l6 rfl (by omega) (hp_Li (z := (0 + (1 * w + 0))) l7 rfl (by omega) (hp_Li (z := (0 + (1 * m + 0))) l8 rfl (by omega) hp_Ln))))))))) trivial ?_ ?_
  · intro p hp ys l' st_9' h_9' hys a1_9 a2 a3 gZ gL gS
    rcases List.mem_cons.mp hp with rfl | hp
    · obtain rfl := hp_y0 hys
      obtain ⟨y0, t0, rfl, q0, g0⟩ := hp_gSj (z := (0 + (1 * vv + 0))) gS rfl
      obtain ⟨y1, t1, rfl, q1_9, g1⟩ := hp_gSi (z := (0 + (1 * m + 0))) g0 rfl
      obtain ⟨t2, rfl, g2⟩ := hp_gSa g1 (by decide)
      cases hp_gSn g2
      exact e0 l' h_9' y0 y1 (by omega) (by omega) a1_9 a2 a3 (hp_gK (zi := (0 + 0)) (zv := (0 + (1 * m + 0))) gZ.2.2.2 (List.mem_of_getElem? (i := 0) rfl) rfl rfl (by omega) (by omega)) (hp_gK (zi := (0 + 0)) (zv := (0 + (1 * g + 0))) gZ.2.2.2 (List.mem_of_getElem? (i := 1) rfl) rfl rfl (by omega) (by omega)) (hp_gK (zi := (0 + 0)) (zv := (0 + (1 * vv + 0))) gZ.2.2.2 (List.mem_of_getElem? (i := 2) rfl) rfl rfl (by omega) (by omega)) (hp_gLa gL (List.mem_of_getElem? (i := 0) rfl) (by decide)) (hp_gLi (z := (0 + (1 * z + 0))) gL (List.mem_of_getElem? (i := 1) rfl) rfl (by omega)) (hp_gLi (z := (0 + (1 * p + 0))) gL (List.mem_of_getElem? (i := 2) rfl) rfl (by omega)) (hp_gLi (z := (0 + (1 * q + 0))) gL (List.mem_of_getElem? (i := 3) rfl) rfl (by omega)) (hp_gLi (z := (0 + (1 * s + 0))) gL (List.mem_of_getElem? (i := 4) rfl) rfl (by omega)) (hp_gLi (z := (0 + (1 * y + 0))) gL (List.mem_of_getElem? (i := 5) rfl) rfl (by omega)) (hp_gLi (z := (0 + (1 * d + 0))) gL (List.mem_of_getElem? (i := 6) rfl) rfl (by omega)) (hp_gLi (z := (0 + (1 * w + 0))) gL (List.mem_of_getElem? (i := 7) rfl) rfl (by omega)) (hp_gLi (z := (0 + (1 * m + 0))) gL (List.mem_of_getElem? (i := 8) rfl) rfl (by omega))
    cases hp
  · intro p hp ys v_9 h_9' hys a1_9 a2 a3 gZ gS
    cases hp
theorem nb4_k : hp_chk 335 93 10 [(0, 0, 1), (1, (-2147483648), 2147483647), (2, (-2147483648), 2147483647), (3, (-2147483648), 2147483647), (4, (-2147483648), 2147483647), (5, (-2147483648), 2147483647), (6, (-2147483648), 2147483647), (7, 0, 99), (8, 0, 399), (9, 1, 1152921504606846976)] [] [(0, .inr (.inr (.inl (some 94)))), (1, .inl (0, [(0, 1)])), (2, .inl (0, [(1, 1)])), (3, .inl (0, [(2, 1)])), (4, .inl (0, [(3, 1)])), (5, .inl (0, [(4, 1)])), (6, .inl (0, [(5, 1)])), (7, .inl (0, [(6, 1)])), (8, .inl (0, [(7, 1)]))] [] [(20024, (0, []), (0, [(7, 1)])), (19977, (0, []), (0, [(8, 1)])), (20017, (0, []), (0, [(9, 1)]))] [20024, 32000, 32768] 6 [(123, ([], 10, [(0, 0, 1), (1, (-2147483648), 2147483647), (2, (-2147483648), 2147483647), (3, (-2147483648), 2147483647), (4, (-2147483648), 2147483647), (5, (-2147483648), 2147483647), (6, (-2147483648), 2147483647), (7, 0, 99), (8, 0, 399), (9, 1, 1152921504606846976)], [], [(0, .inr (.inr (.inl (some 94)))), (8, .inl (0, [(7, 1)]))], [.inl (0, []), .inl (0, [(7, 1)]), .inr (.inr (.inl (some 94)))], [(20024, (0, []), (1, [(7, 1)])), (19977, (0, []), (0, [(8, 1)]))]))] [] = true := by decide +kernel
theorem nb4 {cst : am_K} {strs : List Nat} {Φ : am_Q → Prop} {D : Nat} {M : am_M} {h : am_H} {l : am_L} (c : hp_C cst strs D) (hM : m_P[335]? = some M) (hD : (6 : Int) ≤ (D : Int) + 1) (hy : ly_hy m_tt ly_TH h) (z p q s y d w m g vv : Int) (b0 : 0 ≤ z) (t0 : z ≤ 1) (b1 : (-2147483648) ≤ p) (t1 : p ≤ 2147483647) (b2 : (-2147483648) ≤ q) (t2 : q ≤ 2147483647) (b3 : (-2147483648) ≤ s) (t3 : s ≤ 2147483647) (b4 : (-2147483648) ≤ y) (t4 : y ≤ 2147483647) (b5 : (-2147483648) ≤ d) (t5 : d ≤ 2147483647) (b6 : (-2147483648) ≤ w) (t6 : w ≤ 2147483647) (b7 : 0 ≤ m) (t7 : m ≤ 99) (b8 : 0 ≤ g) (t8 : g ≤ 399) (b9 : 1 ≤ vv) (t9 : vv ≤ 1152921504606846976) (k0 : ly_hv cst h 20024 0 = some (m)) (k1 : ly_hv cst h 19977 0 = some (g)) (k2 : ly_hv cst h 20017 0 = some (vv)) (l0 : hp_a l 0 94) (l1 : hp_i l 1 (z)) (l2 : hp_i l 2 (p)) (l3 : hp_i l 3 (q)) (l4 : hp_i l 4 (s)) (l5 : hp_i l 5 (y)) (l6 : hp_i l 6 (d)) (l7 : hp_i l 7 (w)) (l8 : hp_i l 8 (m)) (e0 : ∀ (l' : am_L) (h_9' : am_H) (y0 : Int32) (y1 : Int32), y0.toInt = 0 → y1.toInt = (m) → ly_hy m_tt ly_TH h_9' → ly_fr cst [20024, 32000, 32768] h h_9' → h.length ≤ h_9'.length → ly_hv cst h_9' 20024 0 = some (m + 1) → ly_hv cst h_9' 19977 0 = some (g) → hp_a l' 0 94 → hp_i l' 8 (m) → hp_F cst strs Φ D M 123 l' [.int y0, .int y1, .ref 94] h_9') : hp_F cst strs Φ D M 93 l [] h := by
  refine hp_arc c hM nb4_k hD [z, p, q, s, y, d, w, m, g, vv] rfl hy (hp_Bc (z := z) rfl b0 t0 (hp_Bc (z := p) rfl b1 t1 (hp_Bc (z := q) rfl b2 t2 (hp_Bc (z := s) rfl b3 t3 (hp_Bc (z := y) rfl b4 t4 (hp_Bc (z := d) rfl b5 t5 (hp_Bc (z := w) rfl b6 t6 (hp_Bc (z := m) rfl b7 t7 (hp_Bc (z := g) rfl b8 t8 (hp_Bc (z := vv) rfl b9 t9 hp_Bn)))))))))) hp_Fn (hp_Kc (zi := (0 + 0)) (zv := (0 + (1 * m + 0))) k0 rfl rfl (by omega) (by omega) (hp_Kc (zi := (0 + 0)) (zv := (0 + (1 * g + 0))) k1 rfl rfl (by omega) (by omega) (hp_Kc (zi := (0 + 0)) (zv := (0 + (1 * vv + 0))) k2 rfl rfl (by omega) (by omega) hp_Kn))) (hp_La l0 (hp_Li (z := (0 + (1 * z + 0))) l1 rfl (by omega) (hp_Li (z := (0 + (1 * p + 0))) l2 rfl (by omega) (hp_Li (z := (0 + (1 * q + 0))) l3 rfl (by omega) (hp_Li (z := (0 + (1 * s + 0))) l4 rfl (by omega) (hp_Li (z := (0 + (1 * y + 0))) l5 rfl (by omega) (hp_Li (z := (0 + (1 * d + 0))) l6 rfl (by omega) (hp_Li (z := (0 + (1 * w + 0))) l7 rfl (by omega) (hp_Li (z := (0 + (1 * m + 0))) l8 rfl (by omega) hp_Ln))))))))) trivial ?_ ?_
  · intro p hp ys l' st_9' h_9' hys a1_9 a2 a3 gZ gL gS
    rcases List.mem_cons.mp hp with rfl | hp
    · obtain rfl := hp_y0 hys
      obtain ⟨y0, t0, rfl, q0, g0⟩ := hp_gSi (z := (0 + 0)) gS rfl
      obtain ⟨y1, t1, rfl, q1_9, g1⟩ := hp_gSi (z := (0 + (1 * m + 0))) g0 rfl
      obtain ⟨t2, rfl, g2⟩ := hp_gSa g1 (by decide)
      cases hp_gSn g2
      exact e0 l' h_9' y0 y1 (by omega) (by omega) a1_9 a2 a3 (hp_gK (zi := (0 + 0)) (zv := (1 + (1 * m + 0))) gZ.2.2.2 (List.mem_of_getElem? (i := 0) rfl) rfl rfl (by omega) (by omega)) (hp_gK (zi := (0 + 0)) (zv := (0 + (1 * g + 0))) gZ.2.2.2 (List.mem_of_getElem? (i := 1) rfl) rfl rfl (by omega) (by omega)) (hp_gLa gL (List.mem_of_getElem? (i := 0) rfl) (by decide)) (hp_gLi (z := (0 + (1 * m + 0))) gL (List.mem_of_getElem? (i := 1) rfl) rfl (by omega))
    cases hp
  · intro p hp ys v_9 h_9' hys a1_9 a2 a3 gZ gS
    cases hp
theorem nb5_k : hp_chk 335 126 1 [(0, 0, 99)] [] [(0, .inr (.inr (.inl (some 94)))), (8, .inl (0, [(0, 1)]))] [] [] [] 6 [] [([], 1, [(0, 0, 99)], [], [], [.inl (0, [(0, 1)])], [])] = true := by decide +kernel
theorem nb5 {cst : am_K} {strs : List Nat} {Φ : am_Q → Prop} {D : Nat} {M : am_M} {h : am_H} {l : am_L} (c : hp_C cst strs D) (hM : m_P[335]? = some M) (hD : (6 : Int) ≤ (D : Int) + 1) (hy : ly_hy m_tt ly_TH h) (m : Int) (b0 : 0 ≤ m) (t0 : m ≤ 99) (l0 : hp_a l 0 94) (l8 : hp_i l 8 (m)) (r0 : ∀ (h_9' : am_H) (y0 : Int32), y0.toInt = (m) → ly_hy m_tt ly_TH h_9' → ly_fr cst [] h h_9' → h.length ≤ h_9'.length → Φ (some (.int y0), h_9', 0, 0)) : hp_F cst strs Φ D M 126 l [] h := by
  refine hp_arc c hM nb5_k hD [m] rfl hy (hp_Bc (z := m) rfl b0 t0 hp_Bn) hp_Fn hp_Kn (hp_La l0 (hp_Li (z := (0 + (1 * m + 0))) l8 rfl (by omega) hp_Ln)) trivial ?_ ?_
  · intro p_9 hp ys l' st_9' h_9' hys a1_9 a2 a3 gZ gL gS
    cases hp
  · intro p_9 hp ys v_9 h_9' hys a1_9 a2 a3 gZ gS
    rcases List.mem_cons.mp hp with rfl | hp
    · obtain rfl := hp_y0 hys
      cases v_9 with
      | none => cases gS
      | some wz =>
        obtain ⟨y0, t0, s0_9, q0, -⟩ := hp_gSi (z := (0 + (1 * m + 0))) gS rfl
        cases s0_9
        exact r0 h_9' y0 (by omega) a1_9 a2 a3
    cases hp
theorem ncc0_k : hp_chk 131 0 4 [(0, (-2147483648), 2147483647), (1, (-2147483648), 2147483647), (2, (-2147483648), 2147483647), (3, (-2147483648), 2147483647)] [] [(0, .inr (.inr (.inl (some 16)))), (1, .inl (0, [(0, 1)])), (2, .inl (0, [(1, 1)])), (3, .inl (0, [(2, 1)])), (4, .inl (0, [(3, 1)]))] [] [] [] 2 [(4, ([], 4, [(0, (-2147483648), 2147483647), (1, (-2147483648), 2147483647), (2, (-2147483648), 2147483647), (3, (-2147483648), 2147483647)], [], [(0, .inr (.inr (.inl (some 16)))), (1, .inl (0, [(0, 1)])), (2, .inl (0, [(1, 1)])), (3, .inl (0, [(2, 1)])), (4, .inl (0, [(3, 1)]))], [.inr (.inr (.inl (some 17)))], []))] [] = true := by decide +kernel
theorem ncc0 {cst : am_K} {strs : List Nat} {Φ : am_Q → Prop} {D : Nat} {M : am_M} {h : am_H} {l : am_L} (c : hp_C cst strs D) (hM : m_P[131]? = some M) (hD : (2 : Int) ≤ (D : Int) + 1) (hy : ly_hy m_tt ly_TH h) (p s y d : Int) (b0 : (-2147483648) ≤ p) (t0 : p ≤ 2147483647) (b1 : (-2147483648) ≤ s) (t1 : s ≤ 2147483647) (b2 : (-2147483648) ≤ y) (t2 : y ≤ 2147483647) (b3 : (-2147483648) ≤ d) (t3 : d ≤ 2147483647) (l0 : hp_a l 0 16) (l1 : hp_i l 1 (p)) (l2 : hp_i l 2 (s)) (l3 : hp_i l 3 (y)) (l4 : hp_i l 4 (d)) (e0 : ∀ (l' : am_L) (h_9' : am_H), ly_hy m_tt ly_TH h_9' → ly_fr cst [] h h_9' → h.length ≤ h_9'.length → hp_a l' 0 16 → hp_i l' 1 (p) → hp_i l' 2 (s) → hp_i l' 3 (y) → hp_i l' 4 (d) → hp_F cst strs Φ D M 4 l' [.ref 17] h_9') : hp_F cst strs Φ D M 0 l [] h := by
  refine hp_arc c hM ncc0_k hD [p, s, y, d] rfl hy (hp_Bc (z := p) rfl b0 t0 (hp_Bc (z := s) rfl b1 t1 (hp_Bc (z := y) rfl b2 t2 (hp_Bc (z := d) rfl b3 t3 hp_Bn)))) hp_Fn hp_Kn (hp_La l0 (hp_Li (z := (0 + (1 * p + 0))) l1 rfl (by omega) (hp_Li (z := (0 + (1 * s + 0))) l2 rfl (by omega) (hp_Li (z := (0 + (1 * y + 0))) l3 rfl (by omega) (hp_Li (z := (0 + (1 * d + 0))) l4 rfl (by omega) hp_Ln))))) trivial ?_ ?_
  · intro p hp ys l' st_9' h_9' hys a1_9 a2 a3 gZ gL gS
    rcases List.mem_cons.mp hp with rfl | hp
    · obtain rfl := hp_y0 hys
      obtain ⟨t0, rfl, g0⟩ := hp_gSa gS (by decide)
      cases hp_gSn g0
      exact e0 l' h_9' a1_9 a2 a3 (hp_gLa gL (List.mem_of_getElem? (i := 0) rfl) (by decide)) (hp_gLi (z := (0 + (1 * p + 0))) gL (List.mem_of_getElem? (i := 1) rfl) rfl (by omega)) (hp_gLi (z := (0 + (1 * s + 0))) gL (List.mem_of_getElem? (i := 2) rfl) rfl (by omega)) (hp_gLi (z := (0 + (1 * y + 0))) gL (List.mem_of_getElem? (i := 3) rfl) rfl (by omega)) (hp_gLi (z := (0 + (1 * d + 0))) gL (List.mem_of_getElem? (i := 4) rfl) rfl (by omega))
    cases hp
  · intro p hp ys v_9 h_9' hys a1_9 a2 a3 gZ gS
    cases hp
theorem nxc0_k : hp_chk 334 0 4 [(0, (-2147483648), 2147483647), (1, (-2147483648), 2147483647), (2, (-2147483648), 2147483647), (3, (-2147483648), 2147483647)] [] [(0, .inr (.inr (.inl (some 94)))), (1, .inl (0, [(0, 1)])), (2, .inl (0, [(1, 1)])), (3, .inl (0, [(2, 1)])), (4, .inl (0, [(3, 1)]))] [] [] [] 2 [(2, ([], 4, [(0, (-2147483648), 2147483647), (1, (-2147483648), 2147483647), (2, (-2147483648), 2147483647), (3, (-2147483648), 2147483647)], [], [(0, .inr (.inr (.inl (some 94)))), (1, .inl (0, [(0, 1)])), (2, .inl (0, [(1, 1)])), (3, .inl (0, [(2, 1)])), (4, .inl (0, [(3, 1)]))], [.inr (.inr (.inl (some 94))), .inr (.inr (.inl (some 94)))], []))] [] = true := by decide +kernel
theorem nxc0 {cst : am_K} {strs : List Nat} {Φ : am_Q → Prop} {D : Nat} {M : am_M} {h : am_H} {l : am_L} (c : hp_C cst strs D) (hM : m_P[334]? = some M) (hD : (2 : Int) ≤ (D : Int) + 1) (hy : ly_hy m_tt ly_TH h) (p s y d : Int) (b0 : (-2147483648) ≤ p) (t0 : p ≤ 2147483647) (b1 : (-2147483648) ≤ s) (t1 : s ≤ 2147483647) (b2 : (-2147483648) ≤ y) (t2 : y ≤ 2147483647) (b3 : (-2147483648) ≤ d) (t3 : d ≤ 2147483647) (l0 : hp_a l 0 94) (l1 : hp_i l 1 (p)) (l2 : hp_i l 2 (s)) (l3 : hp_i l 3 (y)) (l4 : hp_i l 4 (d)) (e0 : ∀ (l' : am_L) (h_9' : am_H), ly_hy m_tt ly_TH h_9' → ly_fr cst [] h h_9' → h.length ≤ h_9'.length → hp_a l' 0 94 → hp_i l' 1 (p) → hp_i l' 2 (s) → hp_i l' 3 (y) → hp_i l' 4 (d) → hp_F cst strs Φ D M 2 l' [.ref 94, .ref 94] h_9') : hp_F cst strs Φ D M 0 l [] h := by
  refine hp_arc c hM nxc0_k hD [p, s, y, d] rfl hy (hp_Bc (z := p) rfl b0 t0 (hp_Bc (z := s) rfl b1 t1 (hp_Bc (z := y) rfl b2 t2 (hp_Bc (z := d) rfl b3 t3 hp_Bn)))) hp_Fn hp_Kn (hp_La l0 (hp_Li (z := (0 + (1 * p + 0))) l1 rfl (by omega) (hp_Li (z := (0 + (1 * s + 0))) l2 rfl (by omega) (hp_Li (z := (0 + (1 * y + 0))) l3 rfl (by omega) (hp_Li (z := (0 + (1 * d + 0))) l4 rfl (by omega) hp_Ln))))) trivial ?_ ?_
  · intro p hp ys l' st_9' h_9' hys a1_9 a2 a3 gZ gL gS
    rcases List.mem_cons.mp hp with rfl | hp
    · obtain rfl := hp_y0 hys
      obtain ⟨t0, rfl, g0⟩ := hp_gSa gS (by decide)
      obtain ⟨t1, rfl, g1⟩ := hp_gSa g0 (by decide)
      cases hp_gSn g1
      exact e0 l' h_9' a1_9 a2 a3 (hp_gLa gL (List.mem_of_getElem? (i := 0) rfl) (by decide)) (hp_gLi (z := (0 + (1 * p + 0))) gL (List.mem_of_getElem? (i := 1) rfl) rfl (by omega)) (hp_gLi (z := (0 + (1 * s + 0))) gL (List.mem_of_getElem? (i := 2) rfl) rfl (by omega)) (hp_gLi (z := (0 + (1 * y + 0))) gL (List.mem_of_getElem? (i := 3) rfl) rfl (by omega)) (hp_gLi (z := (0 + (1 * d + 0))) gL (List.mem_of_getElem? (i := 4) rfl) rfl (by omega))
    cases hp
  · intro p hp ys v_9 h_9' hys a1_9 a2 a3 gZ gS
    cases hp
theorem nccg0_k : hp_chk 131 7 6 [(0, (-2147483648), (-1)), (1, (-2147483648), 2147483647), (2, (-2147483648), 2147483647), (3, (-2147483648), 2147483647), (4, 0, 120), (5, 0, 399)] [] [(0, .inr (.inr (.inl (some 16)))), (1, .inl (0, [(0, 1)])), (2, .inl (0, [(1, 1)])), (3, .inl (0, [(2, 1)])), (4, .inl (0, [(3, 1)]))] [] [(1536, (0, []), (0, [(4, 1)])), (10, (0, []), (0, [(5, 1)]))] [] 6 [] [([], 6, [(0, (-2147483648), (-1)), (1, (-2147483648), 2147483647), (2, (-2147483648), 2147483647), (3, (-2147483648), 2147483647), (4, 0, 120), (5, 0, 399)], [], [], [.inl ((-2), [])], [])] = true := by decide +kernel
theorem nccg0 {cst : am_K} {strs : List Nat} {Φ : am_Q → Prop} {D : Nat} {M : am_M} {h : am_H} {l : am_L} (c : hp_C cst strs D) (hM : m_P[131]? = some M) (hD : (6 : Int) ≤ (D : Int) + 1) (hy : ly_hy m_tt ly_TH h) (p s y d u g : Int) (b0 : (-2147483648) ≤ p) (t0 : p ≤ (-1)) (b1 : (-2147483648) ≤ s) (t1 : s ≤ 2147483647) (b2 : (-2147483648) ≤ y) (t2 : y ≤ 2147483647) (b3 : (-2147483648) ≤ d) (t3 : d ≤ 2147483647) (b4 : 0 ≤ u) (t4 : u ≤ 120) (b5 : 0 ≤ g) (t5 : g ≤ 399) (k0 : ly_hv cst h 1536 0 = some (u)) (k1 : ly_hv cst h 10 0 = some (g)) (l0 : hp_a l 0 16) (l1 : hp_i l 1 (p)) (l2 : hp_i l 2 (s)) (l3 : hp_i l 3 (y)) (l4 : hp_i l 4 (d)) (r0 : ∀ (h_9' : am_H) (y0 : Int32), y0.toInt = (-2) → ly_hy m_tt ly_TH h_9' → ly_fr cst [] h h_9' → h.length ≤ h_9'.length → Φ (some (.int y0), h_9', 0, 0)) : hp_F cst strs Φ D M 7 l [] h := by
  refine hp_arc c hM nccg0_k hD [p, s, y, d, u, g] rfl hy (hp_Bc (z := p) rfl b0 t0 (hp_Bc (z := s) rfl b1 t1 (hp_Bc (z := y) rfl b2 t2 (hp_Bc (z := d) rfl b3 t3 (hp_Bc (z := u) rfl b4 t4 (hp_Bc (z := g) rfl b5 t5 hp_Bn)))))) hp_Fn (hp_Kc (zi := (0 + 0)) (zv := (0 + (1 * u + 0))) k0 rfl rfl (by omega) (by omega) (hp_Kc (zi := (0 + 0)) (zv := (0 + (1 * g + 0))) k1 rfl rfl (by omega) (by omega) hp_Kn)) (hp_La l0 (hp_Li (z := (0 + (1 * p + 0))) l1 rfl (by omega) (hp_Li (z := (0 + (1 * s + 0))) l2 rfl (by omega) (hp_Li (z := (0 + (1 * y + 0))) l3 rfl (by omega) (hp_Li (z := (0 + (1 * d + 0))) l4 rfl (by omega) hp_Ln))))) trivial ?_ ?_
  · intro p hp ys l' st_9' h_9' hys a1_9 a2 a3 gZ gL gS
    cases hp
  · intro p hp ys v_9 h_9' hys a1_9 a2 a3 gZ gS
    rcases List.mem_cons.mp hp with rfl | hp
    · obtain rfl := hp_y0 hys
      cases v_9 with
      | none => cases gS
      | some wz =>
        obtain ⟨y0, t0, s0_9, q0, -⟩ := hp_gSi (z := ((-2) + 0)) gS rfl
        cases s0_9
        exact r0 h_9' y0 (by omega) a1_9 a2 a3
    cases hp
theorem nxcg0_k : hp_chk 334 5 7 [(0, (-2147483648), (-1)), (1, (-2147483648), 2147483647), (2, (-2147483648), 2147483647), (3, (-2147483648), 2147483647), (4, 0, 120), (5, 0, 399), (6, 0, 1152921504606846976)] [] [(0, .inr (.inr (.inl (some 94)))), (1, .inl (0, [(0, 1)])), (2, .inl (0, [(1, 1)])), (3, .inl (0, [(2, 1)])), (4, .inl (0, [(3, 1)]))] [.inr (.inl (0, [(6, 1)])), .inr (.inr (.inl (some 94)))] [(19978, (0, []), (0, [(4, 1)])), (19977, (0, []), (0, [(5, 1)]))] [20017] 6 [] [([], 7, [(0, (-2147483648), (-1)), (1, (-2147483648), 2147483647), (2, (-2147483648), 2147483647), (3, (-2147483648), 2147483647), (4, 0, 120), (5, 0, 399), (6, 0, 1152921504606846976)], [], [], [.inl ((-2), [])], [])] = true := by decide +kernel
theorem nxcg0 {cst : am_K} {strs : List Nat} {Φ : am_Q → Prop} {D : Nat} {M : am_M} {h : am_H} {l : am_L} (c : hp_C cst strs D) (hM : m_P[334]? = some M) (hD : (6 : Int) ≤ (D : Int) + 1) (hy : ly_hy m_tt ly_TH h) (p s y d u g vv : Int) (x0 : Int64) (hx0 : x0.toInt = (vv)) (b0 : (-2147483648) ≤ p) (t0 : p ≤ (-1)) (b1 : (-2147483648) ≤ s) (t1 : s ≤ 2147483647) (b2 : (-2147483648) ≤ y) (t2 : y ≤ 2147483647) (b3 : (-2147483648) ≤ d) (t3 : d ≤ 2147483647) (b4 : 0 ≤ u) (t4 : u ≤ 120) (b5 : 0 ≤ g) (t5 : g ≤ 399) (b6 : 0 ≤ vv) (t6 : vv ≤ 1152921504606846976) (k0 : ly_hv cst h 19978 0 = some (u)) (k1 : ly_hv cst h 19977 0 = some (g)) (l0 : hp_a l 0 94) (l1 : hp_i l 1 (p)) (l2 : hp_i l 2 (s)) (l3 : hp_i l 3 (y)) (l4 : hp_i l 4 (d)) (r0 : ∀ (h_9' : am_H) (y0 : Int32), y0.toInt = (-2) → ly_hy m_tt ly_TH h_9' → ly_fr cst [20017] h h_9' → h.length ≤ h_9'.length → Φ (some (.int y0), h_9', 0, 0)) : hp_F cst strs Φ D M 5 l [.long x0, .ref 94] h := by
  refine hp_arc c hM nxcg0_k hD [p, s, y, d, u, g, vv] rfl hy (hp_Bc (z := p) rfl b0 t0 (hp_Bc (z := s) rfl b1 t1 (hp_Bc (z := y) rfl b2 t2 (hp_Bc (z := d) rfl b3 t3 (hp_Bc (z := u) rfl b4 t4 (hp_Bc (z := g) rfl b5 t5 (hp_Bc (z := vv) rfl b6 t6 hp_Bn))))))) hp_Fn (hp_Kc (zi := (0 + 0)) (zv := (0 + (1 * u + 0))) k0 rfl rfl (by omega) (by omega) (hp_Kc (zi := (0 + 0)) (zv := (0 + (1 * g + 0))) k1 rfl rfl (by omega) (by omega) hp_Kn)) (hp_La l0 (hp_Li (z := (0 + (1 * p + 0))) l1 rfl (by omega) (hp_Li (z := (0 + (1 * s + 0))) l2 rfl (by omega) (hp_Li (z := (0 + (1 * y + 0))) l3 rfl (by omega) (hp_Li (z := (0 + (1 * d + 0))) l4 rfl (by omega) hp_Ln))))) (hp_Sj (z := (0 + (1 * vv + 0))) rfl (by omega) (hp_Sa trivial)) ?_ ?_
  · intro p hp ys l' st_9' h_9' hys a1_9 a2 a3 gZ gL gS
    cases hp
  · intro p hp ys v_9 h_9' hys a1_9 a2 a3 gZ gS
    rcases List.mem_cons.mp hp with rfl | hp
    · obtain rfl := hp_y0 hys
      cases v_9 with
      | none => cases gS
      | some wz =>
        obtain ⟨y0, t0, s0_9, q0, -⟩ := hp_gSi (z := ((-2) + 0)) gS rfl
        cases s0_9
        exact r0 h_9' y0 (by omega) a1_9 a2 a3
    cases hp
theorem nccg1_k : hp_chk 131 7 6 [(0, 0, 2147483647), (1, (-2147483648), 2147483647), (2, (-2147483648), 2147483647), (3, (-2147483648), 2147483647), (4, 0, 120), (5, 0, 399)] [(0, [(0, 1), (4, (-1))])] [(0, .inr (.inr (.inl (some 16)))), (1, .inl (0, [(0, 1)])), (2, .inl (0, [(1, 1)])), (3, .inl (0, [(2, 1)])), (4, .inl (0, [(3, 1)]))] [] [(1536, (0, []), (0, [(4, 1)])), (10, (0, []), (0, [(5, 1)]))] [] 6 [] [([], 6, [(0, 0, 2147483647), (1, (-2147483648), 2147483647), (2, (-2147483648), 2147483647), (3, (-2147483648), 2147483647), (4, 0, 120), (5, 0, 399)], [], [], [.inl ((-2), [])], [])] = true := by decide +kernel
theorem nccg1 {cst : am_K} {strs : List Nat} {Φ : am_Q → Prop} {D : Nat} {M : am_M} {h : am_H} {l : am_L} (c : hp_C cst strs D) (hM : m_P[131]? = some M) (hD : (6 : Int) ≤ (D : Int) + 1) (hy : ly_hy m_tt ly_TH h) (p s y d u g : Int) (b0 : 0 ≤ p) (t0 : p ≤ 2147483647) (b1 : (-2147483648) ≤ s) (t1 : s ≤ 2147483647) (b2 : (-2147483648) ≤ y) (t2 : y ≤ 2147483647) (b3 : (-2147483648) ≤ d) (t3 : d ≤ 2147483647) (b4 : 0 ≤ u) (t4 : u ≤ 120) (b5 : 0 ≤ g) (t5 : g ≤ 399) (f0 : 0 ≤ (p - u)) (k0 : ly_hv cst h 1536 0 = some (u)) (k1 : ly_hv cst h 10 0 = some (g)) (l0 : hp_a l 0 16) (l1 : hp_i l 1 (p)) (l2 : hp_i l 2 (s)) (l3 : hp_i l 3 (y)) (l4 : hp_i l 4 (d)) (r0 : ∀ (h_9' : am_H) (y0 : Int32), y0.toInt = (-2) → ly_hy m_tt ly_TH h_9' → ly_fr cst [] h h_9' → h.length ≤ h_9'.length → Φ (some (.int y0), h_9', 0, 0)) : hp_F cst strs Φ D M 7 l [] h := by
  refine hp_arc c hM nccg1_k hD [p, s, y, d, u, g] rfl hy (hp_Bc (z := p) rfl b0 t0 (hp_Bc (z := s) rfl b1 t1 (hp_Bc (z := y) rfl b2 t2 (hp_Bc (z := d) rfl b3 t3 (hp_Bc (z := u) rfl b4 t4 (hp_Bc (z := g) rfl b5 t5 hp_Bn)))))) (hp_Fc (z := (0 + (1 * p + ((-1) * u + 0)))) rfl (by omega) hp_Fn) (hp_Kc (zi := (0 + 0)) (zv := (0 + (1 * u + 0))) k0 rfl rfl (by omega) (by omega) (hp_Kc (zi := (0 + 0)) (zv := (0 + (1 * g + 0))) k1 rfl rfl (by omega) (by omega) hp_Kn)) (hp_La l0 (hp_Li (z := (0 + (1 * p + 0))) l1 rfl (by omega) (hp_Li (z := (0 + (1 * s + 0))) l2 rfl (by omega) (hp_Li (z := (0 + (1 * y + 0))) l3 rfl (by omega) (hp_Li (z := (0 + (1 * d + 0))) l4 rfl (by omega) hp_Ln))))) trivial ?_ ?_
  · intro p hp ys l' st_9' h_9' hys a1_9 a2 a3 gZ gL gS
    cases hp
  · intro p hp ys v_9 h_9' hys a1_9 a2 a3 gZ gS
    rcases List.mem_cons.mp hp with rfl | hp
    · obtain rfl := hp_y0 hys
      cases v_9 with
      | none => cases gS
      | some wz =>
        obtain ⟨y0, t0, s0_9, q0, -⟩ := hp_gSi (z := ((-2) + 0)) gS rfl
        cases s0_9
        exact r0 h_9' y0 (by omega) a1_9 a2 a3
    cases hp
theorem nxcg1_k : hp_chk 334 5 7 [(0, 0, 2147483647), (1, (-2147483648), 2147483647), (2, (-2147483648), 2147483647), (3, (-2147483648), 2147483647), (4, 0, 120), (5, 0, 399), (6, 0, 1152921504606846976)] [(0, [(0, 1), (4, (-1))])] [(0, .inr (.inr (.inl (some 94)))), (1, .inl (0, [(0, 1)])), (2, .inl (0, [(1, 1)])), (3, .inl (0, [(2, 1)])), (4, .inl (0, [(3, 1)]))] [.inr (.inl (0, [(6, 1)])), .inr (.inr (.inl (some 94)))] [(19978, (0, []), (0, [(4, 1)])), (19977, (0, []), (0, [(5, 1)]))] [20017] 6 [] [([], 7, [(0, 0, 2147483647), (1, (-2147483648), 2147483647), (2, (-2147483648), 2147483647), (3, (-2147483648), 2147483647), (4, 0, 120), (5, 0, 399), (6, 0, 1152921504606846976)], [], [], [.inl ((-2), [])], [])] = true := by decide +kernel
theorem nxcg1 {cst : am_K} {strs : List Nat} {Φ : am_Q → Prop} {D : Nat} {M : am_M} {h : am_H} {l : am_L} (c : hp_C cst strs D) (hM : m_P[334]? = some M) (hD : (6 : Int) ≤ (D : Int) + 1) (hy : ly_hy m_tt ly_TH h) (p s y d u g vv : Int) (x0 : Int64) (hx0 : x0.toInt = (vv)) (b0 : 0 ≤ p) (t0 : p ≤ 2147483647) (b1 : (-2147483648) ≤ s) (t1 : s ≤ 2147483647) (b2 : (-2147483648) ≤ y) (t2 : y ≤ 2147483647) (b3 : (-2147483648) ≤ d) (t3 : d ≤ 2147483647) (b4 : 0 ≤ u) (t4 : u ≤ 120) (b5 : 0 ≤ g) (t5 : g ≤ 399) (b6 : 0 ≤ vv) (t6 : vv ≤ 1152921504606846976) (f0 : 0 ≤ (p - u)) (k0 : ly_hv cst h 19978 0 = some (u)) (k1 : ly_hv cst h 19977 0 = some (g)) (l0 : hp_a l 0 94) (l1 : hp_i l 1 (p)) (l2 : hp_i l 2 (s)) (l3 : hp_i l 3 (y)) (l4 : hp_i l 4 (d)) (r0 : ∀ (h_9' : am_H) (y0 : Int32), y0.toInt = (-2) → ly_hy m_tt ly_TH h_9' → ly_fr cst [20017] h h_9' → h.length ≤ h_9'.length → Φ (some (.int y0), h_9', 0, 0)) : hp_F cst strs Φ D M 5 l [.long x0, .ref 94] h := by
  refine hp_arc c hM nxcg1_k hD [p, s, y, d, u, g, vv] rfl hy (hp_Bc (z := p) rfl b0 t0 (hp_Bc (z := s) rfl b1 t1 (hp_Bc (z := y) rfl b2 t2 (hp_Bc (z := d) rfl b3 t3 (hp_Bc (z := u) rfl b4 t4 (hp_Bc (z := g) rfl b5 t5 (hp_Bc (z := vv) rfl b6 t6 hp_Bn))))))) (hp_Fc (z := (0 + (1 * p + ((-1) * u + 0)))) rfl (by omega) hp_Fn) (hp_Kc (zi := (0 + 0)) (zv := (0 + (1 * u + 0))) k0 rfl rfl (by omega) (by omega) (hp_Kc (zi := (0 + 0)) (zv := (0 + (1 * g + 0))) k1 rfl rfl (by omega) (by omega) hp_Kn)) (hp_La l0 (hp_Li (z := (0 + (1 * p + 0))) l1 rfl (by omega) (hp_Li (z := (0 + (1 * s + 0))) l2 rfl (by omega) (hp_Li (z := (0 + (1 * y + 0))) l3 rfl (by omega) (hp_Li (z := (0 + (1 * d + 0))) l4 rfl (by omega) hp_Ln))))) (hp_Sj (z := (0 + (1 * vv + 0))) rfl (by omega) (hp_Sa trivial)) ?_ ?_
  · intro p hp ys l' st_9' h_9' hys a1_9 a2 a3 gZ gL gS
    cases hp
  · intro p hp ys v_9 h_9' hys a1_9 a2 a3 gZ gS
    rcases List.mem_cons.mp hp with rfl | hp
    · obtain rfl := hp_y0 hys
      cases v_9 with
      | none => cases gS
      | some wz =>
        obtain ⟨y0, t0, s0_9, q0, -⟩ := hp_gSi (z := ((-2) + 0)) gS rfl
        cases s0_9
        exact r0 h_9' y0 (by omega) a1_9 a2 a3
    cases hp
theorem nccg2_k : hp_chk 131 7 6 [(0, 0, 119), (1, (-2147483648), (-1)), (2, (-2147483648), 2147483647), (3, (-2147483648), 2147483647), (4, 0, 120), (5, 0, 399)] [((-1), [(0, (-1)), (4, 1)])] [(0, .inr (.inr (.inl (some 16)))), (1, .inl (0, [(0, 1)])), (2, .inl (0, [(1, 1)])), (3, .inl (0, [(2, 1)])), (4, .inl (0, [(3, 1)]))] [] [(1536, (0, []), (0, [(4, 1)])), (10, (0, []), (0, [(5, 1)]))] [] 6 [] [([], 6, [(0, 0, 119), (1, (-2147483648), (-1)), (2, (-2147483648), 2147483647), (3, (-2147483648), 2147483647), (4, 0, 120), (5, 0, 399)], [], [], [.inl ((-2), [])], [])] = true := by decide +kernel
theorem nccg2 {cst : am_K} {strs : List Nat} {Φ : am_Q → Prop} {D : Nat} {M : am_M} {h : am_H} {l : am_L} (c : hp_C cst strs D) (hM : m_P[131]? = some M) (hD : (6 : Int) ≤ (D : Int) + 1) (hy : ly_hy m_tt ly_TH h) (p s y d u g : Int) (b0 : 0 ≤ p) (t0 : p ≤ 119) (b1 : (-2147483648) ≤ s) (t1 : s ≤ (-1)) (b2 : (-2147483648) ≤ y) (t2 : y ≤ 2147483647) (b3 : (-2147483648) ≤ d) (t3 : d ≤ 2147483647) (b4 : 0 ≤ u) (t4 : u ≤ 120) (b5 : 0 ≤ g) (t5 : g ≤ 399) (f0 : 0 ≤ (u - p - 1)) (k0 : ly_hv cst h 1536 0 = some (u)) (k1 : ly_hv cst h 10 0 = some (g)) (l0 : hp_a l 0 16) (l1 : hp_i l 1 (p)) (l2 : hp_i l 2 (s)) (l3 : hp_i l 3 (y)) (l4 : hp_i l 4 (d)) (r0 : ∀ (h_9' : am_H) (y0 : Int32), y0.toInt = (-2) → ly_hy m_tt ly_TH h_9' → ly_fr cst [] h h_9' → h.length ≤ h_9'.length → Φ (some (.int y0), h_9', 0, 0)) : hp_F cst strs Φ D M 7 l [] h := by
  refine hp_arc c hM nccg2_k hD [p, s, y, d, u, g] rfl hy (hp_Bc (z := p) rfl b0 t0 (hp_Bc (z := s) rfl b1 t1 (hp_Bc (z := y) rfl b2 t2 (hp_Bc (z := d) rfl b3 t3 (hp_Bc (z := u) rfl b4 t4 (hp_Bc (z := g) rfl b5 t5 hp_Bn)))))) (hp_Fc (z := ((-1) + ((-1) * p + (1 * u + 0)))) rfl (by omega) hp_Fn) (hp_Kc (zi := (0 + 0)) (zv := (0 + (1 * u + 0))) k0 rfl rfl (by omega) (by omega) (hp_Kc (zi := (0 + 0)) (zv := (0 + (1 * g + 0))) k1 rfl rfl (by omega) (by omega) hp_Kn)) (hp_La l0 (hp_Li (z := (0 + (1 * p + 0))) l1 rfl (by omega) (hp_Li (z := (0 + (1 * s + 0))) l2 rfl (by omega) (hp_Li (z := (0 + (1 * y + 0))) l3 rfl (by omega) (hp_Li (z := (0 + (1 * d + 0))) l4 rfl (by omega) hp_Ln))))) trivial ?_ ?_
  · intro p hp ys l' st_9' h_9' hys a1_9 a2 a3 gZ gL gS
    cases hp
  · intro p hp ys v_9 h_9' hys a1_9 a2 a3 gZ gS
    rcases List.mem_cons.mp hp with rfl | hp
    · obtain rfl := hp_y0 hys
      cases v_9 with
      | none => cases gS
      | some wz =>
        obtain ⟨y0, t0, s0_9, q0, -⟩ := hp_gSi (z := ((-2) + 0)) gS rfl
        cases s0_9
        exact r0 h_9' y0 (by omega) a1_9 a2 a3
    cases hp
theorem nxcg2_k : hp_chk 334 5 7 [(0, 0, 119), (1, (-2147483648), (-1)), (2, (-2147483648), 2147483647), (3, (-2147483648), 2147483647), (4, 0, 120), (5, 0, 399), (6, 0, 1152921504606846976)] [((-1), [(0, (-1)), (4, 1)])] [(0, .inr (.inr (.inl (some 94)))), (1, .inl (0, [(0, 1)])), (2, .inl (0, [(1, 1)])), (3, .inl (0, [(2, 1)])), (4, .inl (0, [(3, 1)]))] [.inr (.inl (0, [(6, 1)])), .inr (.inr (.inl (some 94)))] [(19978, (0, []), (0, [(4, 1)])), (19977, (0, []), (0, [(5, 1)]))] [20017] 6 [] [([], 7, [(0, 0, 119), (1, (-2147483648), (-1)), (2, (-2147483648), 2147483647), (3, (-2147483648), 2147483647), (4, 0, 120), (5, 0, 399), (6, 0, 1152921504606846976)], [], [], [.inl ((-2), [])], [])] = true := by decide +kernel
theorem nxcg2 {cst : am_K} {strs : List Nat} {Φ : am_Q → Prop} {D : Nat} {M : am_M} {h : am_H} {l : am_L} (c : hp_C cst strs D) (hM : m_P[334]? = some M) (hD : (6 : Int) ≤ (D : Int) + 1) (hy : ly_hy m_tt ly_TH h) (p s y d u g vv : Int) (x0 : Int64) (hx0 : x0.toInt = (vv)) (b0 : 0 ≤ p) (t0 : p ≤ 119) (b1 : (-2147483648) ≤ s) (t1 : s ≤ (-1)) (b2 : (-2147483648) ≤ y) (t2 : y ≤ 2147483647) (b3 : (-2147483648) ≤ d) (t3 : d ≤ 2147483647) (b4 : 0 ≤ u) (t4 : u ≤ 120) (b5 : 0 ≤ g) (t5 : g ≤ 399) (b6 : 0 ≤ vv) (t6 : vv ≤ 1152921504606846976) (f0 : 0 ≤ (u - p - 1)) (k0 : ly_hv cst h 19978 0 = some (u)) (k1 : ly_hv cst h 19977 0 = some (g)) (l0 : hp_a l 0 94) (l1 : hp_i l 1 (p)) (l2 : hp_i l 2 (s)) (l3 : hp_i l 3 (y)) (l4 : hp_i l 4 (d)) (r0 : ∀ (h_9' : am_H) (y0 : Int32), y0.toInt = (-2) → ly_hy m_tt ly_TH h_9' → ly_fr cst [20017] h h_9' → h.length ≤ h_9'.length → Φ (some (.int y0), h_9', 0, 0)) : hp_F cst strs Φ D M 5 l [.long x0, .ref 94] h := by
  refine hp_arc c hM nxcg2_k hD [p, s, y, d, u, g, vv] rfl hy (hp_Bc (z := p) rfl b0 t0 (hp_Bc (z := s) rfl b1 t1 (hp_Bc (z := y) rfl b2 t2 (hp_Bc (z := d) rfl b3 t3 (hp_Bc (z := u) rfl b4 t4 (hp_Bc (z := g) rfl b5 t5 (hp_Bc (z := vv) rfl b6 t6 hp_Bn))))))) (hp_Fc (z := ((-1) + ((-1) * p + (1 * u + 0)))) rfl (by omega) hp_Fn) (hp_Kc (zi := (0 + 0)) (zv := (0 + (1 * u + 0))) k0 rfl rfl (by omega) (by omega) (hp_Kc (zi := (0 + 0)) (zv := (0 + (1 * g + 0))) k1 rfl rfl (by omega) (by omega) hp_Kn)) (hp_La l0 (hp_Li (z := (0 + (1 * p + 0))) l1 rfl (by omega) (hp_Li (z := (0 + (1 * s + 0))) l2 rfl (by omega) (hp_Li (z := (0 + (1 * y + 0))) l3 rfl (by omega) (hp_Li (z := (0 + (1 * d + 0))) l4 rfl (by omega) hp_Ln))))) (hp_Sj (z := (0 + (1 * vv + 0))) rfl (by omega) (hp_Sa trivial)) ?_ ?_
  · intro p hp ys l' st_9' h_9' hys a1_9 a2 a3 gZ gL gS
    cases hp
  · intro p hp ys v_9 h_9' hys a1_9 a2 a3 gZ gS
    rcases List.mem_cons.mp hp with rfl | hp
    · obtain rfl := hp_y0 hys
      cases v_9 with
      | none => cases gS
      | some wz =>
        obtain ⟨y0, t0, s0_9, q0, -⟩ := hp_gSi (z := ((-2) + 0)) gS rfl
        cases s0_9
        exact r0 h_9' y0 (by omega) a1_9 a2 a3
    cases hp
theorem nccg3_k : hp_chk 131 7 6 [(0, 0, 119), (1, 6, 2147483647), (2, (-2147483648), 2147483647), (3, (-2147483648), 2147483647), (4, 0, 120), (5, 0, 399)] [((-1), [(0, (-1)), (4, 1)])] [(0, .inr (.inr (.inl (some 16)))), (1, .inl (0, [(0, 1)])), (2, .inl (0, [(1, 1)])), (3, .inl (0, [(2, 1)])), (4, .inl (0, [(3, 1)]))] [] [(1536, (0, []), (0, [(4, 1)])), (10, (0, []), (0, [(5, 1)]))] [] 6 [] [([], 6, [(0, 0, 119), (1, 6, 2147483647), (2, (-2147483648), 2147483647), (3, (-2147483648), 2147483647), (4, 0, 120), (5, 0, 399)], [], [], [.inl ((-2), [])], [])] = true := by decide +kernel
theorem nccg3 {cst : am_K} {strs : List Nat} {Φ : am_Q → Prop} {D : Nat} {M : am_M} {h : am_H} {l : am_L} (c : hp_C cst strs D) (hM : m_P[131]? = some M) (hD : (6 : Int) ≤ (D : Int) + 1) (hy : ly_hy m_tt ly_TH h) (p s y d u g : Int) (b0 : 0 ≤ p) (t0 : p ≤ 119) (b1 : 6 ≤ s) (t1 : s ≤ 2147483647) (b2 : (-2147483648) ≤ y) (t2 : y ≤ 2147483647) (b3 : (-2147483648) ≤ d) (t3 : d ≤ 2147483647) (b4 : 0 ≤ u) (t4 : u ≤ 120) (b5 : 0 ≤ g) (t5 : g ≤ 399) (f0 : 0 ≤ (u - p - 1)) (k0 : ly_hv cst h 1536 0 = some (u)) (k1 : ly_hv cst h 10 0 = some (g)) (l0 : hp_a l 0 16) (l1 : hp_i l 1 (p)) (l2 : hp_i l 2 (s)) (l3 : hp_i l 3 (y)) (l4 : hp_i l 4 (d)) (r0 : ∀ (h_9' : am_H) (y0 : Int32), y0.toInt = (-2) → ly_hy m_tt ly_TH h_9' → ly_fr cst [] h h_9' → h.length ≤ h_9'.length → Φ (some (.int y0), h_9', 0, 0)) : hp_F cst strs Φ D M 7 l [] h := by
  refine hp_arc c hM nccg3_k hD [p, s, y, d, u, g] rfl hy (hp_Bc (z := p) rfl b0 t0 (hp_Bc (z := s) rfl b1 t1 (hp_Bc (z := y) rfl b2 t2 (hp_Bc (z := d) rfl b3 t3 (hp_Bc (z := u) rfl b4 t4 (hp_Bc (z := g) rfl b5 t5 hp_Bn)))))) (hp_Fc (z := ((-1) + ((-1) * p + (1 * u + 0)))) rfl (by omega) hp_Fn) (hp_Kc (zi := (0 + 0)) (zv := (0 + (1 * u + 0))) k0 rfl rfl (by omega) (by omega) (hp_Kc (zi := (0 + 0)) (zv := (0 + (1 * g + 0))) k1 rfl rfl (by omega) (by omega) hp_Kn)) (hp_La l0 (hp_Li (z := (0 + (1 * p + 0))) l1 rfl (by omega) (hp_Li (z := (0 + (1 * s + 0))) l2 rfl (by omega) (hp_Li (z := (0 + (1 * y + 0))) l3 rfl (by omega) (hp_Li (z := (0 + (1 * d + 0))) l4 rfl (by omega) hp_Ln))))) trivial ?_ ?_
  · intro p hp ys l' st_9' h_9' hys a1_9 a2 a3 gZ gL gS
    cases hp
  · intro p hp ys v_9 h_9' hys a1_9 a2 a3 gZ gS
    rcases List.mem_cons.mp hp with rfl | hp
    · obtain rfl := hp_y0 hys
      cases v_9 with
      | none => cases gS
      | some wz =>
        obtain ⟨y0, t0, s0_9, q0, -⟩ := hp_gSi (z := ((-2) + 0)) gS rfl
        cases s0_9
        exact r0 h_9' y0 (by omega) a1_9 a2 a3
    cases hp
theorem nxcg3_k : hp_chk 334 5 7 [(0, 0, 119), (1, 6, 2147483647), (2, (-2147483648), 2147483647), (3, (-2147483648), 2147483647), (4, 0, 120), (5, 0, 399), (6, 0, 1152921504606846976)] [((-1), [(0, (-1)), (4, 1)])] [(0, .inr (.inr (.inl (some 94)))), (1, .inl (0, [(0, 1)])), (2, .inl (0, [(1, 1)])), (3, .inl (0, [(2, 1)])), (4, .inl (0, [(3, 1)]))] [.inr (.inl (0, [(6, 1)])), .inr (.inr (.inl (some 94)))] [(19978, (0, []), (0, [(4, 1)])), (19977, (0, []), (0, [(5, 1)]))] [20017] 6 [] [([], 7, [(0, 0, 119), (1, 6, 2147483647), (2, (-2147483648), 2147483647), (3, (-2147483648), 2147483647), (4, 0, 120), (5, 0, 399), (6, 0, 1152921504606846976)], [], [], [.inl ((-2), [])], [])] = true := by decide +kernel
theorem nxcg3 {cst : am_K} {strs : List Nat} {Φ : am_Q → Prop} {D : Nat} {M : am_M} {h : am_H} {l : am_L} (c : hp_C cst strs D) (hM : m_P[334]? = some M) (hD : (6 : Int) ≤ (D : Int) + 1) (hy : ly_hy m_tt ly_TH h) (p s y d u g vv : Int) (x0 : Int64) (hx0 : x0.toInt = (vv)) (b0 : 0 ≤ p) (t0 : p ≤ 119) (b1 : 6 ≤ s) (t1 : s ≤ 2147483647) (b2 : (-2147483648) ≤ y) (t2 : y ≤ 2147483647) (b3 : (-2147483648) ≤ d) (t3 : d ≤ 2147483647) (b4 : 0 ≤ u) (t4 : u ≤ 120) (b5 : 0 ≤ g) (t5 : g ≤ 399) (b6 : 0 ≤ vv) (t6 : vv ≤ 1152921504606846976) (f0 : 0 ≤ (u - p - 1)) (k0 : ly_hv cst h 19978 0 = some (u)) (k1 : ly_hv cst h 19977 0 = some (g)) (l0 : hp_a l 0 94) (l1 : hp_i l 1 (p)) (l2 : hp_i l 2 (s)) (l3 : hp_i l 3 (y)) (l4 : hp_i l 4 (d)) (r0 : ∀ (h_9' : am_H) (y0 : Int32), y0.toInt = (-2) → ly_hy m_tt ly_TH h_9' → ly_fr cst [20017] h h_9' → h.length ≤ h_9'.length → Φ (some (.int y0), h_9', 0, 0)) : hp_F cst strs Φ D M 5 l [.long x0, .ref 94] h := by
  refine hp_arc c hM nxcg3_k hD [p, s, y, d, u, g, vv] rfl hy (hp_Bc (z := p) rfl b0 t0 (hp_Bc (z := s) rfl b1 t1 (hp_Bc (z := y) rfl b2 t2 (hp_Bc (z := d) rfl b3 t3 (hp_Bc (z := u) rfl b4 t4 (hp_Bc (z := g) rfl b5 t5 (hp_Bc (z := vv) rfl b6 t6 hp_Bn))))))) (hp_Fc (z := ((-1) + ((-1) * p + (1 * u + 0)))) rfl (by omega) hp_Fn) (hp_Kc (zi := (0 + 0)) (zv := (0 + (1 * u + 0))) k0 rfl rfl (by omega) (by omega) (hp_Kc (zi := (0 + 0)) (zv := (0 + (1 * g + 0))) k1 rfl rfl (by omega) (by omega) hp_Kn)) (hp_La l0 (hp_Li (z := (0 + (1 * p + 0))) l1 rfl (by omega) (hp_Li (z := (0 + (1 * s + 0))) l2 rfl (by omega) (hp_Li (z := (0 + (1 * y + 0))) l3 rfl (by omega) (hp_Li (z := (0 + (1 * d + 0))) l4 rfl (by omega) hp_Ln))))) (hp_Sj (z := (0 + (1 * vv + 0))) rfl (by omega) (hp_Sa trivial)) ?_ ?_
  · intro p hp ys l' st_9' h_9' hys a1_9 a2 a3 gZ gL gS
    cases hp
  · intro p hp ys v_9 h_9' hys a1_9 a2 a3 gZ gS
    rcases List.mem_cons.mp hp with rfl | hp
    · obtain rfl := hp_y0 hys
      cases v_9 with
      | none => cases gS
      | some wz =>
        obtain ⟨y0, t0, s0_9, q0, -⟩ := hp_gSi (z := ((-2) + 0)) gS rfl
        cases s0_9
        exact r0 h_9' y0 (by omega) a1_9 a2 a3
    cases hp
theorem nccg4_k : hp_chk 131 7 6 [(0, 0, 119), (1, 0, 5), (2, (-2147483648), (-1)), (3, (-2147483648), 2147483647), (4, 0, 120), (5, 0, 399)] [((-1), [(0, (-1)), (4, 1)])] [(0, .inr (.inr (.inl (some 16)))), (1, .inl (0, [(0, 1)])), (2, .inl (0, [(1, 1)])), (3, .inl (0, [(2, 1)])), (4, .inl (0, [(3, 1)]))] [] [(1536, (0, []), (0, [(4, 1)])), (10, (0, []), (0, [(5, 1)]))] [] 6 [] [([], 6, [(0, 0, 119), (1, 0, 5), (2, (-2147483648), (-1)), (3, (-2147483648), 2147483647), (4, 0, 120), (5, 0, 399)], [], [], [.inl ((-2), [])], [])] = true := by decide +kernel
theorem nccg4 {cst : am_K} {strs : List Nat} {Φ : am_Q → Prop} {D : Nat} {M : am_M} {h : am_H} {l : am_L} (c : hp_C cst strs D) (hM : m_P[131]? = some M) (hD : (6 : Int) ≤ (D : Int) + 1) (hy : ly_hy m_tt ly_TH h) (p s y d u g : Int) (b0 : 0 ≤ p) (t0 : p ≤ 119) (b1 : 0 ≤ s) (t1 : s ≤ 5) (b2 : (-2147483648) ≤ y) (t2 : y ≤ (-1)) (b3 : (-2147483648) ≤ d) (t3 : d ≤ 2147483647) (b4 : 0 ≤ u) (t4 : u ≤ 120) (b5 : 0 ≤ g) (t5 : g ≤ 399) (f0 : 0 ≤ (u - p - 1)) (k0 : ly_hv cst h 1536 0 = some (u)) (k1 : ly_hv cst h 10 0 = some (g)) (l0 : hp_a l 0 16) (l1 : hp_i l 1 (p)) (l2 : hp_i l 2 (s)) (l3 : hp_i l 3 (y)) (l4 : hp_i l 4 (d)) (r0 : ∀ (h_9' : am_H) (y0 : Int32), y0.toInt = (-2) → ly_hy m_tt ly_TH h_9' → ly_fr cst [] h h_9' → h.length ≤ h_9'.length → Φ (some (.int y0), h_9', 0, 0)) : hp_F cst strs Φ D M 7 l [] h := by
  refine hp_arc c hM nccg4_k hD [p, s, y, d, u, g] rfl hy (hp_Bc (z := p) rfl b0 t0 (hp_Bc (z := s) rfl b1 t1 (hp_Bc (z := y) rfl b2 t2 (hp_Bc (z := d) rfl b3 t3 (hp_Bc (z := u) rfl b4 t4 (hp_Bc (z := g) rfl b5 t5 hp_Bn)))))) (hp_Fc (z := ((-1) + ((-1) * p + (1 * u + 0)))) rfl (by omega) hp_Fn) (hp_Kc (zi := (0 + 0)) (zv := (0 + (1 * u + 0))) k0 rfl rfl (by omega) (by omega) (hp_Kc (zi := (0 + 0)) (zv := (0 + (1 * g + 0))) k1 rfl rfl (by omega) (by omega) hp_Kn)) (hp_La l0 (hp_Li (z := (0 + (1 * p + 0))) l1 rfl (by omega) (hp_Li (z := (0 + (1 * s + 0))) l2 rfl (by omega) (hp_Li (z := (0 + (1 * y + 0))) l3 rfl (by omega) (hp_Li (z := (0 + (1 * d + 0))) l4 rfl (by omega) hp_Ln))))) trivial ?_ ?_
  · intro p hp ys l' st_9' h_9' hys a1_9 a2 a3 gZ gL gS
    cases hp
  · intro p hp ys v_9 h_9' hys a1_9 a2 a3 gZ gS
    rcases List.mem_cons.mp hp with rfl | hp
    · obtain rfl := hp_y0 hys
      cases v_9 with
      | none => cases gS
      | some wz =>
        obtain ⟨y0, t0, s0_9, q0, -⟩ := hp_gSi (z := ((-2) + 0)) gS rfl
        cases s0_9
        exact r0 h_9' y0 (by omega) a1_9 a2 a3
    cases hp
theorem nxcg4_k : hp_chk 334 5 7 [(0, 0, 119), (1, 0, 5), (2, (-2147483648), (-1)), (3, (-2147483648), 2147483647), (4, 0, 120), (5, 0, 399), (6, 0, 1152921504606846976)] [((-1), [(0, (-1)), (4, 1)])] [(0, .inr (.inr (.inl (some 94)))), (1, .inl (0, [(0, 1)])), (2, .inl (0, [(1, 1)])), (3, .inl (0, [(2, 1)])), (4, .inl (0, [(3, 1)]))] [.inr (.inl (0, [(6, 1)])), .inr (.inr (.inl (some 94)))] [(19978, (0, []), (0, [(4, 1)])), (19977, (0, []), (0, [(5, 1)]))] [20017] 6 [] [([], 7, [(0, 0, 119), (1, 0, 5), (2, (-2147483648), (-1)), (3, (-2147483648), 2147483647), (4, 0, 120), (5, 0, 399), (6, 0, 1152921504606846976)], [], [], [.inl ((-2), [])], [])] = true := by decide +kernel
theorem nxcg4 {cst : am_K} {strs : List Nat} {Φ : am_Q → Prop} {D : Nat} {M : am_M} {h : am_H} {l : am_L} (c : hp_C cst strs D) (hM : m_P[334]? = some M) (hD : (6 : Int) ≤ (D : Int) + 1) (hy : ly_hy m_tt ly_TH h) (p s y d u g vv : Int) (x0 : Int64) (hx0 : x0.toInt = (vv)) (b0 : 0 ≤ p) (t0 : p ≤ 119) (b1 : 0 ≤ s) (t1 : s ≤ 5) (b2 : (-2147483648) ≤ y) (t2 : y ≤ (-1)) (b3 : (-2147483648) ≤ d) (t3 : d ≤ 2147483647) (b4 : 0 ≤ u) (t4 : u ≤ 120) (b5 : 0 ≤ g) (t5 : g ≤ 399) (b6 : 0 ≤ vv) (t6 : vv ≤ 1152921504606846976) (f0 : 0 ≤ (u - p - 1)) (k0 : ly_hv cst h 19978 0 = some (u)) (k1 : ly_hv cst h 19977 0 = some (g)) (l0 : hp_a l 0 94) (l1 : hp_i l 1 (p)) (l2 : hp_i l 2 (s)) (l3 : hp_i l 3 (y)) (l4 : hp_i l 4 (d)) (r0 : ∀ (h_9' : am_H) (y0 : Int32), y0.toInt = (-2) → ly_hy m_tt ly_TH h_9' → ly_fr cst [20017] h h_9' → h.length ≤ h_9'.length → Φ (some (.int y0), h_9', 0, 0)) : hp_F cst strs Φ D M 5 l [.long x0, .ref 94] h := by
  refine hp_arc c hM nxcg4_k hD [p, s, y, d, u, g, vv] rfl hy (hp_Bc (z := p) rfl b0 t0 (hp_Bc (z := s) rfl b1 t1 (hp_Bc (z := y) rfl b2 t2 (hp_Bc (z := d) rfl b3 t3 (hp_Bc (z := u) rfl b4 t4 (hp_Bc (z := g) rfl b5 t5 (hp_Bc (z := vv) rfl b6 t6 hp_Bn))))))) (hp_Fc (z := ((-1) + ((-1) * p + (1 * u + 0)))) rfl (by omega) hp_Fn) (hp_Kc (zi := (0 + 0)) (zv := (0 + (1 * u + 0))) k0 rfl rfl (by omega) (by omega) (hp_Kc (zi := (0 + 0)) (zv := (0 + (1 * g + 0))) k1 rfl rfl (by omega) (by omega) hp_Kn)) (hp_La l0 (hp_Li (z := (0 + (1 * p + 0))) l1 rfl (by omega) (hp_Li (z := (0 + (1 * s + 0))) l2 rfl (by omega) (hp_Li (z := (0 + (1 * y + 0))) l3 rfl (by omega) (hp_Li (z := (0 + (1 * d + 0))) l4 rfl (by omega) hp_Ln))))) (hp_Sj (z := (0 + (1 * vv + 0))) rfl (by omega) (hp_Sa trivial)) ?_ ?_
  · intro p hp ys l' st_9' h_9' hys a1_9 a2 a3 gZ gL gS
    cases hp
  · intro p hp ys v_9 h_9' hys a1_9 a2 a3 gZ gS
    rcases List.mem_cons.mp hp with rfl | hp
    · obtain rfl := hp_y0 hys
      cases v_9 with
      | none => cases gS
      | some wz =>
        obtain ⟨y0, t0, s0_9, q0, -⟩ := hp_gSi (z := ((-2) + 0)) gS rfl
        cases s0_9
        exact r0 h_9' y0 (by omega) a1_9 a2 a3
    cases hp
theorem nccg5_k : hp_chk 131 7 6 [(0, 0, 119), (1, 0, 5), (2, 10, 2147483647), (3, (-2147483648), 2147483647), (4, 0, 120), (5, 0, 399)] [((-1), [(0, (-1)), (4, 1)])] [(0, .inr (.inr (.inl (some 16)))), (1, .inl (0, [(0, 1)])), (2, .inl (0, [(1, 1)])), (3, .inl (0, [(2, 1)])), (4, .inl (0, [(3, 1)]))] [] [(1536, (0, []), (0, [(4, 1)])), (10, (0, []), (0, [(5, 1)]))] [] 6 [] [([], 6, [(0, 0, 119), (1, 0, 5), (2, 10, 2147483647), (3, (-2147483648), 2147483647), (4, 0, 120), (5, 0, 399)], [], [], [.inl ((-2), [])], [])] = true := by decide +kernel
theorem nccg5 {cst : am_K} {strs : List Nat} {Φ : am_Q → Prop} {D : Nat} {M : am_M} {h : am_H} {l : am_L} (c : hp_C cst strs D) (hM : m_P[131]? = some M) (hD : (6 : Int) ≤ (D : Int) + 1) (hy : ly_hy m_tt ly_TH h) (p s y d u g : Int) (b0 : 0 ≤ p) (t0 : p ≤ 119) (b1 : 0 ≤ s) (t1 : s ≤ 5) (b2 : 10 ≤ y) (t2 : y ≤ 2147483647) (b3 : (-2147483648) ≤ d) (t3 : d ≤ 2147483647) (b4 : 0 ≤ u) (t4 : u ≤ 120) (b5 : 0 ≤ g) (t5 : g ≤ 399) (f0 : 0 ≤ (u - p - 1)) (k0 : ly_hv cst h 1536 0 = some (u)) (k1 : ly_hv cst h 10 0 = some (g)) (l0 : hp_a l 0 16) (l1 : hp_i l 1 (p)) (l2 : hp_i l 2 (s)) (l3 : hp_i l 3 (y)) (l4 : hp_i l 4 (d)) (r0 : ∀ (h_9' : am_H) (y0 : Int32), y0.toInt = (-2) → ly_hy m_tt ly_TH h_9' → ly_fr cst [] h h_9' → h.length ≤ h_9'.length → Φ (some (.int y0), h_9', 0, 0)) : hp_F cst strs Φ D M 7 l [] h := by
  refine hp_arc c hM nccg5_k hD [p, s, y, d, u, g] rfl hy (hp_Bc (z := p) rfl b0 t0 (hp_Bc (z := s) rfl b1 t1 (hp_Bc (z := y) rfl b2 t2 (hp_Bc (z := d) rfl b3 t3 (hp_Bc (z := u) rfl b4 t4 (hp_Bc (z := g) rfl b5 t5 hp_Bn)))))) (hp_Fc (z := ((-1) + ((-1) * p + (1 * u + 0)))) rfl (by omega) hp_Fn) (hp_Kc (zi := (0 + 0)) (zv := (0 + (1 * u + 0))) k0 rfl rfl (by omega) (by omega) (hp_Kc (zi := (0 + 0)) (zv := (0 + (1 * g + 0))) k1 rfl rfl (by omega) (by omega) hp_Kn)) (hp_La l0 (hp_Li (z := (0 + (1 * p + 0))) l1 rfl (by omega) (hp_Li (z := (0 + (1 * s + 0))) l2 rfl (by omega) (hp_Li (z := (0 + (1 * y + 0))) l3 rfl (by omega) (hp_Li (z := (0 + (1 * d + 0))) l4 rfl (by omega) hp_Ln))))) trivial ?_ ?_
  · intro p hp ys l' st_9' h_9' hys a1_9 a2 a3 gZ gL gS
    cases hp
  · intro p hp ys v_9 h_9' hys a1_9 a2 a3 gZ gS
    rcases List.mem_cons.mp hp with rfl | hp
    · obtain rfl := hp_y0 hys
      cases v_9 with
      | none => cases gS
      | some wz =>
        obtain ⟨y0, t0, s0_9, q0, -⟩ := hp_gSi (z := ((-2) + 0)) gS rfl
        cases s0_9
        exact r0 h_9' y0 (by omega) a1_9 a2 a3
    cases hp
theorem nxcg5_k : hp_chk 334 5 7 [(0, 0, 119), (1, 0, 5), (2, 10, 2147483647), (3, (-2147483648), 2147483647), (4, 0, 120), (5, 0, 399), (6, 0, 1152921504606846976)] [((-1), [(0, (-1)), (4, 1)])] [(0, .inr (.inr (.inl (some 94)))), (1, .inl (0, [(0, 1)])), (2, .inl (0, [(1, 1)])), (3, .inl (0, [(2, 1)])), (4, .inl (0, [(3, 1)]))] [.inr (.inl (0, [(6, 1)])), .inr (.inr (.inl (some 94)))] [(19978, (0, []), (0, [(4, 1)])), (19977, (0, []), (0, [(5, 1)]))] [20017] 6 [] [([], 7, [(0, 0, 119), (1, 0, 5), (2, 10, 2147483647), (3, (-2147483648), 2147483647), (4, 0, 120), (5, 0, 399), (6, 0, 1152921504606846976)], [], [], [.inl ((-2), [])], [])] = true := by decide +kernel
theorem nxcg5 {cst : am_K} {strs : List Nat} {Φ : am_Q → Prop} {D : Nat} {M : am_M} {h : am_H} {l : am_L} (c : hp_C cst strs D) (hM : m_P[334]? = some M) (hD : (6 : Int) ≤ (D : Int) + 1) (hy : ly_hy m_tt ly_TH h) (p s y d u g vv : Int) (x0 : Int64) (hx0 : x0.toInt = (vv)) (b0 : 0 ≤ p) (t0 : p ≤ 119) (b1 : 0 ≤ s) (t1 : s ≤ 5) (b2 : 10 ≤ y) (t2 : y ≤ 2147483647) (b3 : (-2147483648) ≤ d) (t3 : d ≤ 2147483647) (b4 : 0 ≤ u) (t4 : u ≤ 120) (b5 : 0 ≤ g) (t5 : g ≤ 399) (b6 : 0 ≤ vv) (t6 : vv ≤ 1152921504606846976) (f0 : 0 ≤ (u - p - 1)) (k0 : ly_hv cst h 19978 0 = some (u)) (k1 : ly_hv cst h 19977 0 = some (g)) (l0 : hp_a l 0 94) (l1 : hp_i l 1 (p)) (l2 : hp_i l 2 (s)) (l3 : hp_i l 3 (y)) (l4 : hp_i l 4 (d)) (r0 : ∀ (h_9' : am_H) (y0 : Int32), y0.toInt = (-2) → ly_hy m_tt ly_TH h_9' → ly_fr cst [20017] h h_9' → h.length ≤ h_9'.length → Φ (some (.int y0), h_9', 0, 0)) : hp_F cst strs Φ D M 5 l [.long x0, .ref 94] h := by
  refine hp_arc c hM nxcg5_k hD [p, s, y, d, u, g, vv] rfl hy (hp_Bc (z := p) rfl b0 t0 (hp_Bc (z := s) rfl b1 t1 (hp_Bc (z := y) rfl b2 t2 (hp_Bc (z := d) rfl b3 t3 (hp_Bc (z := u) rfl b4 t4 (hp_Bc (z := g) rfl b5 t5 (hp_Bc (z := vv) rfl b6 t6 hp_Bn))))))) (hp_Fc (z := ((-1) + ((-1) * p + (1 * u + 0)))) rfl (by omega) hp_Fn) (hp_Kc (zi := (0 + 0)) (zv := (0 + (1 * u + 0))) k0 rfl rfl (by omega) (by omega) (hp_Kc (zi := (0 + 0)) (zv := (0 + (1 * g + 0))) k1 rfl rfl (by omega) (by omega) hp_Kn)) (hp_La l0 (hp_Li (z := (0 + (1 * p + 0))) l1 rfl (by omega) (hp_Li (z := (0 + (1 * s + 0))) l2 rfl (by omega) (hp_Li (z := (0 + (1 * y + 0))) l3 rfl (by omega) (hp_Li (z := (0 + (1 * d + 0))) l4 rfl (by omega) hp_Ln))))) (hp_Sj (z := (0 + (1 * vv + 0))) rfl (by omega) (hp_Sa trivial)) ?_ ?_
  · intro p hp ys l' st_9' h_9' hys a1_9 a2 a3 gZ gL gS
    cases hp
  · intro p hp ys v_9 h_9' hys a1_9 a2 a3 gZ gS
    rcases List.mem_cons.mp hp with rfl | hp
    · obtain rfl := hp_y0 hys
      cases v_9 with
      | none => cases gS
      | some wz =>
        obtain ⟨y0, t0, s0_9, q0, -⟩ := hp_gSi (z := ((-2) + 0)) gS rfl
        cases s0_9
        exact r0 h_9' y0 (by omega) a1_9 a2 a3
    cases hp
theorem nccg6_k : hp_chk 131 7 6 [(0, 0, 119), (1, 0, 5), (2, 0, 9), (3, (-2147483648), (-1)), (4, 0, 120), (5, 0, 399)] [((-1), [(0, (-1)), (4, 1)])] [(0, .inr (.inr (.inl (some 16)))), (1, .inl (0, [(0, 1)])), (2, .inl (0, [(1, 1)])), (3, .inl (0, [(2, 1)])), (4, .inl (0, [(3, 1)]))] [] [(1536, (0, []), (0, [(4, 1)])), (10, (0, []), (0, [(5, 1)]))] [] 6 [] [([], 6, [(0, 0, 119), (1, 0, 5), (2, 0, 9), (3, (-2147483648), (-1)), (4, 0, 120), (5, 0, 399)], [], [], [.inl ((-2), [])], [])] = true := by decide +kernel
theorem nccg6 {cst : am_K} {strs : List Nat} {Φ : am_Q → Prop} {D : Nat} {M : am_M} {h : am_H} {l : am_L} (c : hp_C cst strs D) (hM : m_P[131]? = some M) (hD : (6 : Int) ≤ (D : Int) + 1) (hy : ly_hy m_tt ly_TH h) (p s y d u g : Int) (b0 : 0 ≤ p) (t0 : p ≤ 119) (b1 : 0 ≤ s) (t1 : s ≤ 5) (b2 : 0 ≤ y) (t2 : y ≤ 9) (b3 : (-2147483648) ≤ d) (t3 : d ≤ (-1)) (b4 : 0 ≤ u) (t4 : u ≤ 120) (b5 : 0 ≤ g) (t5 : g ≤ 399) (f0 : 0 ≤ (u - p - 1)) (k0 : ly_hv cst h 1536 0 = some (u)) (k1 : ly_hv cst h 10 0 = some (g)) (l0 : hp_a l 0 16) (l1 : hp_i l 1 (p)) (l2 : hp_i l 2 (s)) (l3 : hp_i l 3 (y)) (l4 : hp_i l 4 (d)) (r0 : ∀ (h_9' : am_H) (y0 : Int32), y0.toInt = (-2) → ly_hy m_tt ly_TH h_9' → ly_fr cst [] h h_9' → h.length ≤ h_9'.length → Φ (some (.int y0), h_9', 0, 0)) : hp_F cst strs Φ D M 7 l [] h := by
  refine hp_arc c hM nccg6_k hD [p, s, y, d, u, g] rfl hy (hp_Bc (z := p) rfl b0 t0 (hp_Bc (z := s) rfl b1 t1 (hp_Bc (z := y) rfl b2 t2 (hp_Bc (z := d) rfl b3 t3 (hp_Bc (z := u) rfl b4 t4 (hp_Bc (z := g) rfl b5 t5 hp_Bn)))))) (hp_Fc (z := ((-1) + ((-1) * p + (1 * u + 0)))) rfl (by omega) hp_Fn) (hp_Kc (zi := (0 + 0)) (zv := (0 + (1 * u + 0))) k0 rfl rfl (by omega) (by omega) (hp_Kc (zi := (0 + 0)) (zv := (0 + (1 * g + 0))) k1 rfl rfl (by omega) (by omega) hp_Kn)) (hp_La l0 (hp_Li (z := (0 + (1 * p + 0))) l1 rfl (by omega) (hp_Li (z := (0 + (1 * s + 0))) l2 rfl (by omega) (hp_Li (z := (0 + (1 * y + 0))) l3 rfl (by omega) (hp_Li (z := (0 + (1 * d + 0))) l4 rfl (by omega) hp_Ln))))) trivial ?_ ?_
  · intro p hp ys l' st_9' h_9' hys a1_9 a2 a3 gZ gL gS
    cases hp
  · intro p hp ys v_9 h_9' hys a1_9 a2 a3 gZ gS
    rcases List.mem_cons.mp hp with rfl | hp
    · obtain rfl := hp_y0 hys
      cases v_9 with
      | none => cases gS
      | some wz =>
        obtain ⟨y0, t0, s0_9, q0, -⟩ := hp_gSi (z := ((-2) + 0)) gS rfl
        cases s0_9
        exact r0 h_9' y0 (by omega) a1_9 a2 a3
    cases hp
theorem nxcg6_k : hp_chk 334 5 7 [(0, 0, 119), (1, 0, 5), (2, 0, 9), (3, (-2147483648), (-1)), (4, 0, 120), (5, 0, 399), (6, 0, 1152921504606846976)] [((-1), [(0, (-1)), (4, 1)])] [(0, .inr (.inr (.inl (some 94)))), (1, .inl (0, [(0, 1)])), (2, .inl (0, [(1, 1)])), (3, .inl (0, [(2, 1)])), (4, .inl (0, [(3, 1)]))] [.inr (.inl (0, [(6, 1)])), .inr (.inr (.inl (some 94)))] [(19978, (0, []), (0, [(4, 1)])), (19977, (0, []), (0, [(5, 1)]))] [20017] 6 [] [([], 7, [(0, 0, 119), (1, 0, 5), (2, 0, 9), (3, (-2147483648), (-1)), (4, 0, 120), (5, 0, 399), (6, 0, 1152921504606846976)], [], [], [.inl ((-2), [])], [])] = true := by decide +kernel
theorem nxcg6 {cst : am_K} {strs : List Nat} {Φ : am_Q → Prop} {D : Nat} {M : am_M} {h : am_H} {l : am_L} (c : hp_C cst strs D) (hM : m_P[334]? = some M) (hD : (6 : Int) ≤ (D : Int) + 1) (hy : ly_hy m_tt ly_TH h) (p s y d u g vv : Int) (x0 : Int64) (hx0 : x0.toInt = (vv)) (b0 : 0 ≤ p) (t0 : p ≤ 119) (b1 : 0 ≤ s) (t1 : s ≤ 5) (b2 : 0 ≤ y) (t2 : y ≤ 9) (b3 : (-2147483648) ≤ d) (t3 : d ≤ (-1)) (b4 : 0 ≤ u) (t4 : u ≤ 120) (b5 : 0 ≤ g) (t5 : g ≤ 399) (b6 : 0 ≤ vv) (t6 : vv ≤ 1152921504606846976) (f0 : 0 ≤ (u - p - 1)) (k0 : ly_hv cst h 19978 0 = some (u)) (k1 : ly_hv cst h 19977 0 = some (g)) (l0 : hp_a l 0 94) (l1 : hp_i l 1 (p)) (l2 : hp_i l 2 (s)) (l3 : hp_i l 3 (y)) (l4 : hp_i l 4 (d)) (r0 : ∀ (h_9' : am_H) (y0 : Int32), y0.toInt = (-2) → ly_hy m_tt ly_TH h_9' → ly_fr cst [20017] h h_9' → h.length ≤ h_9'.length → Φ (some (.int y0), h_9', 0, 0)) : hp_F cst strs Φ D M 5 l [.long x0, .ref 94] h := by
  refine hp_arc c hM nxcg6_k hD [p, s, y, d, u, g, vv] rfl hy (hp_Bc (z := p) rfl b0 t0 (hp_Bc (z := s) rfl b1 t1 (hp_Bc (z := y) rfl b2 t2 (hp_Bc (z := d) rfl b3 t3 (hp_Bc (z := u) rfl b4 t4 (hp_Bc (z := g) rfl b5 t5 (hp_Bc (z := vv) rfl b6 t6 hp_Bn))))))) (hp_Fc (z := ((-1) + ((-1) * p + (1 * u + 0)))) rfl (by omega) hp_Fn) (hp_Kc (zi := (0 + 0)) (zv := (0 + (1 * u + 0))) k0 rfl rfl (by omega) (by omega) (hp_Kc (zi := (0 + 0)) (zv := (0 + (1 * g + 0))) k1 rfl rfl (by omega) (by omega) hp_Kn)) (hp_La l0 (hp_Li (z := (0 + (1 * p + 0))) l1 rfl (by omega) (hp_Li (z := (0 + (1 * s + 0))) l2 rfl (by omega) (hp_Li (z := (0 + (1 * y + 0))) l3 rfl (by omega) (hp_Li (z := (0 + (1 * d + 0))) l4 rfl (by omega) hp_Ln))))) (hp_Sj (z := (0 + (1 * vv + 0))) rfl (by omega) (hp_Sa trivial)) ?_ ?_
  · intro p hp ys l' st_9' h_9' hys a1_9 a2 a3 gZ gL gS
    cases hp
  · intro p hp ys v_9 h_9' hys a1_9 a2 a3 gZ gS
    rcases List.mem_cons.mp hp with rfl | hp
    · obtain rfl := hp_y0 hys
      cases v_9 with
      | none => cases gS
      | some wz =>
        obtain ⟨y0, t0, s0_9, q0, -⟩ := hp_gSi (z := ((-2) + 0)) gS rfl
        cases s0_9
        exact r0 h_9' y0 (by omega) a1_9 a2 a3
    cases hp
theorem nccg7_k : hp_chk 131 7 6 [(0, 0, 119), (1, 0, 5), (2, 0, 9), (3, 0, 2147483647), (4, 0, 120), (5, 0, 399)] [((-1), [(0, (-1)), (4, 1)]), ((-1), [(3, 1), (5, (-1))])] [(0, .inr (.inr (.inl (some 16)))), (1, .inl (0, [(0, 1)])), (2, .inl (0, [(1, 1)])), (3, .inl (0, [(2, 1)])), (4, .inl (0, [(3, 1)]))] [] [(1536, (0, []), (0, [(4, 1)])), (10, (0, []), (0, [(5, 1)]))] [] 6 [] [([], 6, [(0, 0, 119), (1, 0, 5), (2, 0, 9), (3, 0, 2147483647), (4, 0, 120), (5, 0, 399)], [], [], [.inl ((-2), [])], [])] = true := by decide +kernel
theorem nccg7 {cst : am_K} {strs : List Nat} {Φ : am_Q → Prop} {D : Nat} {M : am_M} {h : am_H} {l : am_L} (c : hp_C cst strs D) (hM : m_P[131]? = some M) (hD : (6 : Int) ≤ (D : Int) + 1) (hy : ly_hy m_tt ly_TH h) (p s y d u g : Int) (b0 : 0 ≤ p) (t0 : p ≤ 119) (b1 : 0 ≤ s) (t1 : s ≤ 5) (b2 : 0 ≤ y) (t2 : y ≤ 9) (b3 : 0 ≤ d) (t3 : d ≤ 2147483647) (b4 : 0 ≤ u) (t4 : u ≤ 120) (b5 : 0 ≤ g) (t5 : g ≤ 399) (f0 : 0 ≤ (u - p - 1)) (f1 : 0 ≤ (d - g - 1)) (k0 : ly_hv cst h 1536 0 = some (u)) (k1 : ly_hv cst h 10 0 = some (g)) (l0 : hp_a l 0 16) (l1 : hp_i l 1 (p)) (l2 : hp_i l 2 (s)) (l3 : hp_i l 3 (y)) (l4 : hp_i l 4 (d)) (r0 : ∀ (h_9' : am_H) (y0 : Int32), y0.toInt = (-2) → ly_hy m_tt ly_TH h_9' → ly_fr cst [] h h_9' → h.length ≤ h_9'.length → Φ (some (.int y0), h_9', 0, 0)) : hp_F cst strs Φ D M 7 l [] h := by
  refine hp_arc c hM nccg7_k hD [p, s, y, d, u, g] rfl hy (hp_Bc (z := p) rfl b0 t0 (hp_Bc (z := s) rfl b1 t1 (hp_Bc (z := y) rfl b2 t2 (hp_Bc (z := d) rfl b3 t3 (hp_Bc (z := u) rfl b4 t4 (hp_Bc (z := g) rfl b5 t5 hp_Bn)))))) (hp_Fc (z := ((-1) + ((-1) * p + (1 * u + 0)))) rfl (by omega) (hp_Fc (z := ((-1) + (1 * d + ((-1) * g + 0)))) rfl (by omega) hp_Fn)) (hp_Kc (zi := (0 + 0)) (zv := (0 + (1 * u + 0))) k0 rfl rfl (by omega) (by omega) (hp_Kc (zi := (0 + 0)) (zv := (0 + (1 * g + 0))) k1 rfl rfl (by omega) (by omega) hp_Kn)) (hp_La l0 (hp_Li (z := (0 + (1 * p + 0))) l1 rfl (by omega) (hp_Li (z := (0 + (1 * s + 0))) l2 rfl (by omega) (hp_Li (z := (0 + (1 * y + 0))) l3 rfl (by omega) (hp_Li (z := (0 + (1 * d + 0))) l4 rfl (by omega) hp_Ln))))) trivial ?_ ?_
  · intro p hp ys l' st_9' h_9' hys a1_9 a2 a3 gZ gL gS
    cases hp
  · intro p hp ys v_9 h_9' hys a1_9 a2 a3 gZ gS
    rcases List.mem_cons.mp hp with rfl | hp
    · obtain rfl := hp_y0 hys
      cases v_9 with
      | none => cases gS
      | some wz =>
        obtain ⟨y0, t0, s0_9, q0, -⟩ := hp_gSi (z := ((-2) + 0)) gS rfl
        cases s0_9
        exact r0 h_9' y0 (by omega) a1_9 a2 a3
    cases hp
theorem nxcg7_k : hp_chk 334 5 7 [(0, 0, 119), (1, 0, 5), (2, 0, 9), (3, 0, 2147483647), (4, 0, 120), (5, 0, 399), (6, 0, 1152921504606846976)] [((-1), [(0, (-1)), (4, 1)]), ((-1), [(3, 1), (5, (-1))])] [(0, .inr (.inr (.inl (some 94)))), (1, .inl (0, [(0, 1)])), (2, .inl (0, [(1, 1)])), (3, .inl (0, [(2, 1)])), (4, .inl (0, [(3, 1)]))] [.inr (.inl (0, [(6, 1)])), .inr (.inr (.inl (some 94)))] [(19978, (0, []), (0, [(4, 1)])), (19977, (0, []), (0, [(5, 1)]))] [20017] 6 [] [([], 7, [(0, 0, 119), (1, 0, 5), (2, 0, 9), (3, 0, 2147483647), (4, 0, 120), (5, 0, 399), (6, 0, 1152921504606846976)], [], [], [.inl ((-2), [])], [])] = true := by decide +kernel
theorem nxcg7 {cst : am_K} {strs : List Nat} {Φ : am_Q → Prop} {D : Nat} {M : am_M} {h : am_H} {l : am_L} (c : hp_C cst strs D) (hM : m_P[334]? = some M) (hD : (6 : Int) ≤ (D : Int) + 1) (hy : ly_hy m_tt ly_TH h) (p s y d u g vv : Int) (x0 : Int64) (hx0 : x0.toInt = (vv)) (b0 : 0 ≤ p) (t0 : p ≤ 119) (b1 : 0 ≤ s) (t1 : s ≤ 5) (b2 : 0 ≤ y) (t2 : y ≤ 9) (b3 : 0 ≤ d) (t3 : d ≤ 2147483647) (b4 : 0 ≤ u) (t4 : u ≤ 120) (b5 : 0 ≤ g) (t5 : g ≤ 399) (b6 : 0 ≤ vv) (t6 : vv ≤ 1152921504606846976) (f0 : 0 ≤ (u - p - 1)) (f1 : 0 ≤ (d - g - 1)) (k0 : ly_hv cst h 19978 0 = some (u)) (k1 : ly_hv cst h 19977 0 = some (g)) (l0 : hp_a l 0 94) (l1 : hp_i l 1 (p)) (l2 : hp_i l 2 (s)) (l3 : hp_i l 3 (y)) (l4 : hp_i l 4 (d)) (r0 : ∀ (h_9' : am_H) (y0 : Int32), y0.toInt = (-2) → ly_hy m_tt ly_TH h_9' → ly_fr cst [20017] h h_9' → h.length ≤ h_9'.length → Φ (some (.int y0), h_9', 0, 0)) : hp_F cst strs Φ D M 5 l [.long x0, .ref 94] h := by
  refine hp_arc c hM nxcg7_k hD [p, s, y, d, u, g, vv] rfl hy (hp_Bc (z := p) rfl b0 t0 (hp_Bc (z := s) rfl b1 t1 (hp_Bc (z := y) rfl b2 t2 (hp_Bc (z := d) rfl b3 t3 (hp_Bc (z := u) rfl b4 t4 (hp_Bc (z := g) rfl b5 t5 (hp_Bc (z := vv) rfl b6 t6 hp_Bn))))))) (hp_Fc (z := ((-1) + ((-1) * p + (1 * u + 0)))) rfl (by omega) (hp_Fc (z := ((-1) + (1 * d + ((-1) * g + 0)))) rfl (by omega) hp_Fn)) (hp_Kc (zi := (0 + 0)) (zv := (0 + (1 * u + 0))) k0 rfl rfl (by omega) (by omega) (hp_Kc (zi := (0 + 0)) (zv := (0 + (1 * g + 0))) k1 rfl rfl (by omega) (by omega) hp_Kn)) (hp_La l0 (hp_Li (z := (0 + (1 * p + 0))) l1 rfl (by omega) (hp_Li (z := (0 + (1 * s + 0))) l2 rfl (by omega) (hp_Li (z := (0 + (1 * y + 0))) l3 rfl (by omega) (hp_Li (z := (0 + (1 * d + 0))) l4 rfl (by omega) hp_Ln))))) (hp_Sj (z := (0 + (1 * vv + 0))) rfl (by omega) (hp_Sa trivial)) ?_ ?_
  · intro p hp ys l' st_9' h_9' hys a1_9 a2 a3 gZ gL gS
    cases hp
  · intro p hp ys v_9 h_9' hys a1_9 a2 a3 gZ gS
    rcases List.mem_cons.mp hp with rfl | hp
    · obtain rfl := hp_y0 hys
      cases v_9 with
      | none => cases gS
      | some wz =>
        obtain ⟨y0, t0, s0_9, q0, -⟩ := hp_gSi (z := ((-2) + 0)) gS rfl
        cases s0_9
        exact r0 h_9' y0 (by omega) a1_9 a2 a3
    cases hp
theorem ncck_k : hp_chk 131 7 6 [(0, 0, 119), (1, 0, 5), (2, 0, 9), (3, 0, 399), (4, 0, 120), (5, 0, 399)] [((-1), [(0, (-1)), (4, 1)]), (0, [(3, (-1)), (5, 1)])] [(0, .inr (.inr (.inl (some 16)))), (1, .inl (0, [(0, 1)])), (2, .inl (0, [(1, 1)])), (3, .inl (0, [(2, 1)])), (4, .inl (0, [(3, 1)]))] [] [(1536, (0, []), (0, [(4, 1)])), (10, (0, []), (0, [(5, 1)]))] [] 6 [(40, ([], 6, [(0, 0, 119), (1, 0, 5), (2, 0, 9), (3, 0, 399), (4, 0, 120), (5, 0, 399)], [], [(0, .inr (.inr (.inl (some 16))))], [.inl (0, []), .inl (0, [(3, 1)]), .inl (0, [(2, 1)]), .inl (0, [(1, 1)]), .inl (0, [(0, 1)]), .inl ((-1), []), .inr (.inr (.inl (some 16)))], []))] [] = true := by decide +kernel
theorem ncck {cst : am_K} {strs : List Nat} {Φ : am_Q → Prop} {D : Nat} {M : am_M} {h : am_H} {l : am_L} (c : hp_C cst strs D) (hM : m_P[131]? = some M) (hD : (6 : Int) ≤ (D : Int) + 1) (hy : ly_hy m_tt ly_TH h) (p s y d u g : Int) (b0 : 0 ≤ p) (t0 : p ≤ 119) (b1 : 0 ≤ s) (t1 : s ≤ 5) (b2 : 0 ≤ y) (t2 : y ≤ 9) (b3 : 0 ≤ d) (t3 : d ≤ 399) (b4 : 0 ≤ u) (t4 : u ≤ 120) (b5 : 0 ≤ g) (t5 : g ≤ 399) (f0 : 0 ≤ (u - p - 1)) (f1 : 0 ≤ (g - d)) (k0 : ly_hv cst h 1536 0 = some (u)) (k1 : ly_hv cst h 10 0 = some (g)) (l0 : hp_a l 0 16) (l1 : hp_i l 1 (p)) (l2 : hp_i l 2 (s)) (l3 : hp_i l 3 (y)) (l4 : hp_i l 4 (d)) (e0 : ∀ (l' : am_L) (h_9' : am_H) (y0 : Int32) (y1 : Int32) (y2 : Int32) (y3 : Int32) (y4 : Int32) (y5 : Int32), y0.toInt = 0 → y1.toInt = (d) → y2.toInt = (y) → y3.toInt = (s) → y4.toInt = (p) → y5.toInt = (-1) → ly_hy m_tt ly_TH h_9' → ly_fr cst [] h h_9' → h.length ≤ h_9'.length → hp_a l' 0 16 → hp_F cst strs Φ D M 40 l' [.int y0, .int y1, .int y2, .int y3, .int y4, .int y5, .ref 16] h_9') : hp_F cst strs Φ D M 7 l [] h := by
  refine hp_arc c hM ncck_k hD [p, s, y, d, u, g] rfl hy (hp_Bc (z := p) rfl b0 t0 (hp_Bc (z := s) rfl b1 t1 (hp_Bc (z := y) rfl b2 t2 (hp_Bc (z := d) rfl b3 t3 (hp_Bc (z := u) rfl b4 t4 (hp_Bc (z := g) rfl b5 t5 hp_Bn)))))) (hp_Fc (z := ((-1) + ((-1) * p + (1 * u + 0)))) rfl (by omega) (hp_Fc (z := (0 + ((-1) * d + (1 * g + 0)))) rfl (by omega) hp_Fn)) (hp_Kc (zi := (0 + 0)) (zv := (0 + (1 * u + 0))) k0 rfl rfl (by omega) (by omega) (hp_Kc (zi := (0 + 0)) (zv := (0 + (1 * g + 0))) k1 rfl rfl (by omega) (by omega) hp_Kn)) (hp_La l0 (hp_Li (z := (0 + (1 * p + 0))) l1 rfl (by omega) (hp_Li (z := (0 + (1 * s + 0))) l2 rfl (by omega) (hp_Li (z := (0 + (1 * y + 0))) l3 rfl (by omega) (hp_Li (z := (0 + (1 * d + 0))) l4 rfl (by omega) hp_Ln))))) trivial ?_ ?_
  · intro p hp ys l' st_9' h_9' hys a1_9 a2 a3 gZ gL gS
    rcases List.mem_cons.mp hp with rfl | hp
    · obtain rfl := hp_y0 hys
      obtain ⟨y0, t0, rfl, q0, g0⟩ := hp_gSi (z := (0 + 0)) gS rfl
      obtain ⟨y1, t1, rfl, q1_9, g1⟩ := hp_gSi (z := (0 + (1 * d + 0))) g0 rfl
      obtain ⟨y2, t2, rfl, q2_9, g2⟩ := hp_gSi (z := (0 + (1 * y + 0))) g1 rfl
      obtain ⟨y3, t3, rfl, q3_9, g3_9⟩ := hp_gSi (z := (0 + (1 * s + 0))) g2 rfl
      obtain ⟨y4, t4, rfl, q4_9, g4⟩ := hp_gSi (z := (0 + (1 * p + 0))) g3_9 rfl
      obtain ⟨y5, t5, rfl, q5_9, g5_9⟩ := hp_gSi (z := ((-1) + 0)) g4 rfl
      obtain ⟨t6, rfl, g6⟩ := hp_gSa g5_9 (by decide)
      cases hp_gSn g6
      exact e0 l' h_9' y0 y1 y2 y3 y4 y5 (by omega) (by omega) (by omega) (by omega) (by omega) (by omega) a1_9 a2 a3 (hp_gLa gL (List.mem_of_getElem? (i := 0) rfl) (by decide))
    cases hp
  · intro p hp ys v_9 h_9' hys a1_9 a2 a3 gZ gS
    cases hp
theorem nccr_k : hp_chk 131 43 1 [(0, (-2147483648), 2147483647)] [] [(0, .inr (.inr (.inl (some 16))))] [.inl (0, [(0, 1)])] [] [] 2 [] [([], 1, [(0, (-2147483648), 2147483647)], [], [], [.inl (0, [(0, 1)])], [])] = true := by decide +kernel
theorem nccr {cst : am_K} {strs : List Nat} {Φ : am_Q → Prop} {D : Nat} {M : am_M} {h : am_H} {l : am_L} (c : hp_C cst strs D) (hM : m_P[131]? = some M) (hD : (2 : Int) ≤ (D : Int) + 1) (hy : ly_hy m_tt ly_TH h) (a : Int) (x0 : Int32) (hx0 : x0.toInt = (a)) (b0 : (-2147483648) ≤ a) (t0 : a ≤ 2147483647) (l0 : hp_a l 0 16) (r0 : ∀ (h_9' : am_H) (y0 : Int32), y0.toInt = (a) → ly_hy m_tt ly_TH h_9' → ly_fr cst [] h h_9' → h.length ≤ h_9'.length → Φ (some (.int y0), h_9', 0, 0)) : hp_F cst strs Φ D M 43 l [.int x0] h := by
  refine hp_arc c hM nccr_k hD [a] rfl hy (hp_Bc (z := a) rfl b0 t0 hp_Bn) hp_Fn hp_Kn (hp_La l0 hp_Ln) (hp_Si (z := (0 + (1 * a + 0))) rfl (by omega) trivial) ?_ ?_
  · intro p_9 hp ys l' st_9' h_9' hys a1_9 a2 a3 gZ gL gS
    cases hp
  · intro p_9 hp ys v_9 h_9' hys a1_9 a2 a3 gZ gS
    rcases List.mem_cons.mp hp with rfl | hp
    · obtain rfl := hp_y0 hys
      cases v_9 with
      | none => cases gS
      | some wz =>
        obtain ⟨y0, t0, s0_9, q0, -⟩ := hp_gSi (z := (0 + (1 * a + 0))) gS rfl
        cases s0_9
        exact r0 h_9' y0 (by omega) a1_9 a2 a3
    cases hp
theorem nxcn_k : hp_chk 334 5 6 [(0, 0, 119), (1, 0, 5), (2, 0, 9), (3, 0, 399), (4, 0, 120), (5, 0, 399)] [((-1), [(0, (-1)), (4, 1)]), (0, [(3, (-1)), (5, 1)])] [(0, .inr (.inr (.inl (some 94)))), (1, .inl (0, [(0, 1)])), (2, .inl (0, [(1, 1)])), (3, .inl (0, [(2, 1)])), (4, .inl (0, [(3, 1)]))] [.inr (.inl (0, [])), .inr (.inr (.inl (some 94)))] [(19978, (0, []), (0, [(4, 1)])), (19977, (0, []), (0, [(5, 1)]))] [20017] 6 [] [([], 6, [(0, 0, 119), (1, 0, 5), (2, 0, 9), (3, 0, 399), (4, 0, 120), (5, 0, 399)], [], [], [.inl ((-1), [])], [])] = true := by decide +kernel
theorem nxcn {cst : am_K} {strs : List Nat} {Φ : am_Q → Prop} {D : Nat} {M : am_M} {h : am_H} {l : am_L} (c : hp_C cst strs D) (hM : m_P[334]? = some M) (hD : (6 : Int) ≤ (D : Int) + 1) (hy : ly_hy m_tt ly_TH h) (p s y d u g : Int) (x0 : Int64) (hx0 : x0.toInt = 0) (b0 : 0 ≤ p) (t0 : p ≤ 119) (b1 : 0 ≤ s) (t1 : s ≤ 5) (b2 : 0 ≤ y) (t2 : y ≤ 9) (b3 : 0 ≤ d) (t3 : d ≤ 399) (b4 : 0 ≤ u) (t4 : u ≤ 120) (b5 : 0 ≤ g) (t5 : g ≤ 399) (f0 : 0 ≤ (u - p - 1)) (f1 : 0 ≤ (g - d)) (k0 : ly_hv cst h 19978 0 = some (u)) (k1 : ly_hv cst h 19977 0 = some (g)) (l0 : hp_a l 0 94) (l1 : hp_i l 1 (p)) (l2 : hp_i l 2 (s)) (l3 : hp_i l 3 (y)) (l4 : hp_i l 4 (d)) (r0 : ∀ (h_9' : am_H) (y0 : Int32), y0.toInt = (-1) → ly_hy m_tt ly_TH h_9' → ly_fr cst [20017] h h_9' → h.length ≤ h_9'.length → Φ (some (.int y0), h_9', 0, 0)) : hp_F cst strs Φ D M 5 l [.long x0, .ref 94] h := by
  refine hp_arc c hM nxcn_k hD [p, s, y, d, u, g] rfl hy (hp_Bc (z := p) rfl b0 t0 (hp_Bc (z := s) rfl b1 t1 (hp_Bc (z := y) rfl b2 t2 (hp_Bc (z := d) rfl b3 t3 (hp_Bc (z := u) rfl b4 t4 (hp_Bc (z := g) rfl b5 t5 hp_Bn)))))) (hp_Fc (z := ((-1) + ((-1) * p + (1 * u + 0)))) rfl (by omega) (hp_Fc (z := (0 + ((-1) * d + (1 * g + 0)))) rfl (by omega) hp_Fn)) (hp_Kc (zi := (0 + 0)) (zv := (0 + (1 * u + 0))) k0 rfl rfl (by omega) (by omega) (hp_Kc (zi := (0 + 0)) (zv := (0 + (1 * g + 0))) k1 rfl rfl (by omega) (by omega) hp_Kn)) (hp_La l0 (hp_Li (z := (0 + (1 * p + 0))) l1 rfl (by omega) (hp_Li (z := (0 + (1 * s + 0))) l2 rfl (by omega) (hp_Li (z := (0 + (1 * y + 0))) l3 rfl (by omega) (hp_Li (z := (0 + (1 * d + 0))) l4 rfl (by omega) hp_Ln))))) (hp_Sj (z := (0 + 0)) rfl (by omega) (hp_Sa trivial)) ?_ ?_
  · intro p hp ys l' st_9' h_9' hys a1_9 a2 a3 gZ gL gS
    cases hp
  · intro p hp ys v_9 h_9' hys a1_9 a2 a3 gZ gS
    rcases List.mem_cons.mp hp with rfl | hp
    · obtain rfl := hp_y0 hys
      cases v_9 with
      | none => cases gS
      | some wz =>
        obtain ⟨y0, t0, s0_9, q0, -⟩ := hp_gSi (z := ((-1) + 0)) gS rfl
        cases s0_9
        exact r0 h_9' y0 (by omega) a1_9 a2 a3
    cases hp
theorem nxcf_k : hp_chk 334 5 7 [(0, 0, 119), (1, 0, 5), (2, 0, 9), (3, 0, 399), (4, 0, 120), (5, 0, 399), (6, 1, 1152921504606846976)] [((-1), [(0, (-1)), (4, 1)]), (0, [(3, (-1)), (5, 1)])] [(0, .inr (.inr (.inl (some 94)))), (1, .inl (0, [(0, 1)])), (2, .inl (0, [(1, 1)])), (3, .inl (0, [(2, 1)])), (4, .inl (0, [(3, 1)]))] [.inr (.inl (0, [(6, 1)])), .inr (.inr (.inl (some 94)))] [(19978, (0, []), (0, [(4, 1)])), (19977, (0, []), (0, [(5, 1)])), (20024, (0, []), (100, []))] [20017] 6 [] [([], 7, [(0, 0, 119), (1, 0, 5), (2, 0, 9), (3, 0, 399), (4, 0, 120), (5, 0, 399), (6, 1, 1152921504606846976)], [], [], [.inl ((-3), [])], [])] = true := by decide +kernel
theorem nxcf {cst : am_K} {strs : List Nat} {Φ : am_Q → Prop} {D : Nat} {M : am_M} {h : am_H} {l : am_L} (c : hp_C cst strs D) (hM : m_P[334]? = some M) (hD : (6 : Int) ≤ (D : Int) + 1) (hy : ly_hy m_tt ly_TH h) (p s y d u g vv : Int) (x0 : Int64) (hx0 : x0.toInt = (vv)) (b0 : 0 ≤ p) (t0 : p ≤ 119) (b1 : 0 ≤ s) (t1 : s ≤ 5) (b2 : 0 ≤ y) (t2 : y ≤ 9) (b3 : 0 ≤ d) (t3 : d ≤ 399) (b4 : 0 ≤ u) (t4 : u ≤ 120) (b5 : 0 ≤ g) (t5 : g ≤ 399) (b6 : 1 ≤ vv) (t6 : vv ≤ 1152921504606846976) (f0 : 0 ≤ (u - p - 1)) (f1 : 0 ≤ (g - d)) (k0 : ly_hv cst h 19978 0 = some (u)) (k1 : ly_hv cst h 19977 0 = some (g)) (k2 : ly_hv cst h 20024 0 = some 100) (l0 : hp_a l 0 94) (l1 : hp_i l 1 (p)) (l2 : hp_i l 2 (s)) (l3 : hp_i l 3 (y)) (l4 : hp_i l 4 (d)) (r0 : ∀ (h_9' : am_H) (y0 : Int32), y0.toInt = (-3) → ly_hy m_tt ly_TH h_9' → ly_fr cst [20017] h h_9' → h.length ≤ h_9'.length → Φ (some (.int y0), h_9', 0, 0)) : hp_F cst strs Φ D M 5 l [.long x0, .ref 94] h := by
  refine hp_arc c hM nxcf_k hD [p, s, y, d, u, g, vv] rfl hy (hp_Bc (z := p) rfl b0 t0 (hp_Bc (z := s) rfl b1 t1 (hp_Bc (z := y) rfl b2 t2 (hp_Bc (z := d) rfl b3 t3 (hp_Bc (z := u) rfl b4 t4 (hp_Bc (z := g) rfl b5 t5 (hp_Bc (z := vv) rfl b6 t6 hp_Bn))))))) (hp_Fc (z := ((-1) + ((-1) * p + (1 * u + 0)))) rfl (by omega) (hp_Fc (z := (0 + ((-1) * d + (1 * g + 0)))) rfl (by omega) hp_Fn)) (hp_Kc (zi := (0 + 0)) (zv := (0 + (1 * u + 0))) k0 rfl rfl (by omega) (by omega) (hp_Kc (zi := (0 + 0)) (zv := (0 + (1 * g + 0))) k1 rfl rfl (by omega) (by omega) (hp_Kc (zi := (0 + 0)) (zv := (100 + 0)) k2 rfl rfl (by omega) (by omega) hp_Kn))) (hp_La l0 (hp_Li (z := (0 + (1 * p + 0))) l1 rfl (by omega) (hp_Li (z := (0 + (1 * s + 0))) l2 rfl (by omega) (hp_Li (z := (0 + (1 * y + 0))) l3 rfl (by omega) (hp_Li (z := (0 + (1 * d + 0))) l4 rfl (by omega) hp_Ln))))) (hp_Sj (z := (0 + (1 * vv + 0))) rfl (by omega) (hp_Sa trivial)) ?_ ?_
  · intro p hp ys l' st_9' h_9' hys a1_9 a2 a3 gZ gL gS
    cases hp
  · intro p hp ys v_9 h_9' hys a1_9 a2 a3 gZ gS
    rcases List.mem_cons.mp hp with rfl | hp
    · obtain rfl := hp_y0 hys
      cases v_9 with
      | none => cases gS
      | some wz =>
        obtain ⟨y0, t0, s0_9, q0, -⟩ := hp_gSi (z := ((-3) + 0)) gS rfl
        cases s0_9
        exact r0 h_9' y0 (by omega) a1_9 a2 a3
    cases hp
theorem nxck_k : hp_chk 334 5 8 [(0, 0, 119), (1, 0, 5), (2, 0, 9), (3, 0, 399), (4, 0, 120), (5, 0, 399), (6, 1, 1152921504606846976), (7, 0, 99)] [((-1), [(0, (-1)), (4, 1)]), (0, [(3, (-1)), (5, 1)])] [(0, .inr (.inr (.inl (some 94)))), (1, .inl (0, [(0, 1)])), (2, .inl (0, [(1, 1)])), (3, .inl (0, [(2, 1)])), (4, .inl (0, [(3, 1)]))] [.inr (.inl (0, [(6, 1)])), .inr (.inr (.inl (some 94)))] [(19978, (0, []), (0, [(4, 1)])), (19977, (0, []), (0, [(5, 1)])), (20024, (0, []), (0, [(7, 1)]))] [20017] 6 [(83, ([], 8, [(0, 0, 119), (1, 0, 5), (2, 0, 9), (3, 0, 399), (4, 0, 120), (5, 0, 399), (6, 1, 1152921504606846976), (7, 0, 99)], [], [(0, .inr (.inr (.inl (some 94))))], [.inl (0, []), .inl (0, [(3, 1)]), .inl (0, [(2, 1)]), .inl (0, [(1, 1)]), .inl ((-1), []), .inl (0, [(0, 1)]), .inl (0, []), .inr (.inr (.inl (some 94)))], [(20017, (0, []), (0, [(6, 1)]))]))] [] = true := by decide +kernel
theorem nxck {cst : am_K} {strs : List Nat} {Φ : am_Q → Prop} {D : Nat} {M : am_M} {h : am_H} {l : am_L} (c : hp_C cst strs D) (hM : m_P[334]? = some M) (hD : (6 : Int) ≤ (D : Int) + 1) (hy : ly_hy m_tt ly_TH h) (p s y d u g vv m : Int) (x0 : Int64) (hx0 : x0.toInt = (vv)) (b0 : 0 ≤ p) (t0 : p ≤ 119) (b1 : 0 ≤ s) (t1 : s ≤ 5) (b2 : 0 ≤ y) (t2 : y ≤ 9) (b3 : 0 ≤ d) (t3 : d ≤ 399) (b4 : 0 ≤ u) (t4 : u ≤ 120) (b5 : 0 ≤ g) (t5 : g ≤ 399) (b6 : 1 ≤ vv) (t6 : vv ≤ 1152921504606846976) (b7 : 0 ≤ m) (t7 : m ≤ 99) (f0 : 0 ≤ (u - p - 1)) (f1 : 0 ≤ (g - d)) (k0 : ly_hv cst h 19978 0 = some (u)) (k1 : ly_hv cst h 19977 0 = some (g)) (k2 : ly_hv cst h 20024 0 = some (m)) (l0 : hp_a l 0 94) (l1 : hp_i l 1 (p)) (l2 : hp_i l 2 (s)) (l3 : hp_i l 3 (y)) (l4 : hp_i l 4 (d)) (e0 : ∀ (l' : am_L) (h_9' : am_H) (y0 : Int32) (y1 : Int32) (y2 : Int32) (y3 : Int32) (y4 : Int32) (y5 : Int32) (y6 : Int32), y0.toInt = 0 → y1.toInt = (d) → y2.toInt = (y) → y3.toInt = (s) → y4.toInt = (-1) → y5.toInt = (p) → y6.toInt = 0 → ly_hy m_tt ly_TH h_9' → ly_fr cst [20017] h h_9' → h.length ≤ h_9'.length → ly_hv cst h_9' 20017 0 = some (vv) → hp_a l' 0 94 → hp_F cst strs Φ D M 83 l' [.int y0, .int y1, .int y2, .int y3, .int y4, .int y5, .int y6, .ref 94] h_9') : hp_F cst strs Φ D M 5 l [.long x0, .ref 94] h := by
  refine hp_arc c hM nxck_k hD [p, s, y, d, u, g, vv, m] rfl hy (hp_Bc (z := p) rfl b0 t0 (hp_Bc (z := s) rfl b1 t1 (hp_Bc (z := y) rfl b2 t2 (hp_Bc (z := d) rfl b3 t3 (hp_Bc (z := u) rfl b4 t4 (hp_Bc (z := g) rfl b5 t5 (hp_Bc (z := vv) rfl b6 t6 (hp_Bc (z := m) rfl b7 t7 hp_Bn)))))))) (hp_Fc (z := ((-1) + ((-1) * p + (1 * u + 0)))) rfl (by omega) (hp_Fc (z := (0 + ((-1) * d + (1 * g + 0)))) rfl (by omega) hp_Fn)) (hp_Kc (zi := (0 + 0)) (zv := (0 + (1 * u + 0))) k0 rfl rfl (by omega) (by omega) (hp_Kc (zi := (0 + 0)) (zv := (0 + (1 * g + 0))) k1 rfl rfl (by omega) (by omega) (hp_Kc (zi := (0 + 0)) (zv := (0 + (1 * m + 0))) k2 rfl rfl (by omega) (by omega) hp_Kn))) (hp_La l0 (hp_Li (z := (0 + (1 * p + 0))) l1 rfl (by omega) (hp_Li (z := (0 + (1 * s + 0))) l2 rfl (by omega) (hp_Li (z := (0 + (1 * y + 0))) l3 rfl (by omega) (hp_Li (z := (0 + (1 * d + 0))) l4 rfl (by omega) hp_Ln))))) (hp_Sj (z := (0 + (1 * vv + 0))) rfl (by omega) (hp_Sa trivial)) ?_ ?_
  · intro p hp ys l' st_9' h_9' hys a1_9 a2 a3 gZ gL gS
    rcases List.mem_cons.mp hp with rfl | hp
    · obtain rfl := hp_y0 hys
      obtain ⟨y0, t0, rfl, q0, g0⟩ := hp_gSi (z := (0 + 0)) gS rfl
      obtain ⟨y1, t1, rfl, q1_9, g1⟩ := hp_gSi (z := (0 + (1 * d + 0))) g0 rfl
      obtain ⟨y2, t2, rfl, q2_9, g2⟩ := hp_gSi (z := (0 + (1 * y + 0))) g1 rfl
      obtain ⟨y3, t3, rfl, q3_9, g3_9⟩ := hp_gSi (z := (0 + (1 * s + 0))) g2 rfl
      obtain ⟨y4, t4, rfl, q4_9, g4⟩ := hp_gSi (z := ((-1) + 0)) g3_9 rfl
      obtain ⟨y5, t5, rfl, q5_9, g5_9⟩ := hp_gSi (z := (0 + (1 * p + 0))) g4 rfl
      obtain ⟨y6, t6, rfl, q6_9, g6⟩ := hp_gSi (z := (0 + 0)) g5_9 rfl
      obtain ⟨t7, rfl, g7⟩ := hp_gSa g6 (by decide)
      cases hp_gSn g7
      exact e0 l' h_9' y0 y1 y2 y3 y4 y5 y6 (by omega) (by omega) (by omega) (by omega) (by omega) (by omega) (by omega) a1_9 a2 a3 (hp_gK (zi := (0 + 0)) (zv := (0 + (1 * vv + 0))) gZ.2.2.2 (List.mem_of_getElem? (i := 0) rfl) rfl rfl (by omega) (by omega)) (hp_gLa gL (List.mem_of_getElem? (i := 0) rfl) (by decide))
    cases hp
  · intro p hp ys v_9 h_9' hys a1_9 a2 a3 gZ gS
    cases hp
theorem nxcr_k : hp_chk 334 86 1 [(0, (-2147483648), 2147483647)] [] [(0, .inr (.inr (.inl (some 94))))] [.inl (0, [(0, 1)])] [] [] 2 [] [([], 1, [(0, (-2147483648), 2147483647)], [], [], [.inl (0, [(0, 1)])], [])] = true := by decide +kernel
theorem nxcr {cst : am_K} {strs : List Nat} {Φ : am_Q → Prop} {D : Nat} {M : am_M} {h : am_H} {l : am_L} (c : hp_C cst strs D) (hM : m_P[334]? = some M) (hD : (2 : Int) ≤ (D : Int) + 1) (hy : ly_hy m_tt ly_TH h) (a : Int) (x0 : Int32) (hx0 : x0.toInt = (a)) (b0 : (-2147483648) ≤ a) (t0 : a ≤ 2147483647) (l0 : hp_a l 0 94) (r0 : ∀ (h_9' : am_H) (y0 : Int32), y0.toInt = (a) → ly_hy m_tt ly_TH h_9' → ly_fr cst [] h h_9' → h.length ≤ h_9'.length → Φ (some (.int y0), h_9', 0, 0)) : hp_F cst strs Φ D M 86 l [.int x0] h := by
  refine hp_arc c hM nxcr_k hD [a] rfl hy (hp_Bc (z := a) rfl b0 t0 hp_Bn) hp_Fn hp_Kn (hp_La l0 hp_Ln) (hp_Si (z := (0 + (1 * a + 0))) rfl (by omega) trivial) ?_ ?_
  · intro p_9 hp ys l' st_9' h_9' hys a1_9 a2 a3 gZ gL gS
    cases hp
  · intro p_9 hp ys v_9 h_9' hys a1_9 a2 a3 gZ gS
    rcases List.mem_cons.mp hp with rfl | hp
    · obtain rfl := hp_y0 hys
      cases v_9 with
      | none => cases gS
      | some wz =>
        obtain ⟨y0, t0, s0_9, q0, -⟩ := hp_gSi (z := (0 + (1 * a + 0))) gS rfl
        cases s0_9
        exact r0 h_9' y0 (by omega) a1_9 a2 a3
    cases hp
theorem ncp0_k : hp_chk 137 0 6 [(0, (-2147483648), 2147483647), (1, (-2147483648), 2147483647), (2, (-2147483648), 2147483647), (3, (-2147483648), 2147483647), (4, (-2147483648), 2147483647), (5, (-2147483648), 2147483647)] [] [(0, .inr (.inr (.inl (some 16)))), (1, .inl (0, [(0, 1)])), (2, .inl (0, [(1, 1)])), (3, .inl (0, [(2, 1)])), (4, .inl (0, [(3, 1)])), (5, .inl (0, [(4, 1)])), (6, .inl (0, [(5, 1)]))] [] [] [] 2 [(4, ([], 6, [(0, (-2147483648), 2147483647), (1, (-2147483648), 2147483647), (2, (-2147483648), 2147483647), (3, (-2147483648), 2147483647), (4, (-2147483648), 2147483647), (5, (-2147483648), 2147483647)], [], [(0, .inr (.inr (.inl (some 16)))), (1, .inl (0, [(0, 1)])), (2, .inl (0, [(1, 1)])), (3, .inl (0, [(2, 1)])), (4, .inl (0, [(3, 1)])), (5, .inl (0, [(4, 1)])), (6, .inl (0, [(5, 1)]))], [.inr (.inr (.inl (some 17)))], []))] [] = true := by decide +kernel
theorem ncp0 {cst : am_K} {strs : List Nat} {Φ : am_Q → Prop} {D : Nat} {M : am_M} {h : am_H} {l : am_L} (c : hp_C cst strs D) (hM : m_P[137]? = some M) (hD : (2 : Int) ≤ (D : Int) + 1) (hy : ly_hy m_tt ly_TH h) (p q s y d w : Int) (b0 : (-2147483648) ≤ p) (t0 : p ≤ 2147483647) (b1 : (-2147483648) ≤ q) (t1 : q ≤ 2147483647) (b2 : (-2147483648) ≤ s) (t2 : s ≤ 2147483647) (b3 : (-2147483648) ≤ y) (t3 : y ≤ 2147483647) (b4 : (-2147483648) ≤ d) (t4 : d ≤ 2147483647) (b5 : (-2147483648) ≤ w) (t5 : w ≤ 2147483647) (l0 : hp_a l 0 16) (l1 : hp_i l 1 (p)) (l2 : hp_i l 2 (q)) (l3 : hp_i l 3 (s)) (l4 : hp_i l 4 (y)) (l5 : hp_i l 5 (d)) (l6 : hp_i l 6 (w)) (e0 : ∀ (l' : am_L) (h_9' : am_H), ly_hy m_tt ly_TH h_9' → ly_fr cst [] h h_9' → h.length ≤ h_9'.length → hp_a l' 0 16 → hp_i l' 1 (p) → hp_i l' 2 (q) → hp_i l' 3 (s) → hp_i l' 4 (y) → hp_i l' 5 (d) → hp_i l' 6 (w) → hp_F cst strs Φ D M 4 l' [.ref 17] h_9') : hp_F cst strs Φ D M 0 l [] h := by
  refine hp_arc c hM ncp0_k hD [p, q, s, y, d, w] rfl hy (hp_Bc (z := p) rfl b0 t0 (hp_Bc (z := q) rfl b1 t1 (hp_Bc (z := s) rfl b2 t2 (hp_Bc (z := y) rfl b3 t3 (hp_Bc (z := d) rfl b4 t4 (hp_Bc (z := w) rfl b5 t5 hp_Bn)))))) hp_Fn hp_Kn (hp_La l0 (hp_Li (z := (0 + (1 * p + 0))) l1 rfl (by omega) (hp_Li (z := (0 + (1 * q + 0))) l2 rfl (by omega) (hp_Li (z := (0 + (1 * s + 0))) l3 rfl (by omega) (hp_Li (z := (0 + (1 * y + 0))) l4 rfl (by omega) (hp_Li (z := (0 + (1 * d + 0))) l5 rfl (by omega) (hp_Li (z := (0 + (1 * w + 0))) l6 rfl (by omega) hp_Ln))))))) trivial ?_ ?_
  · intro p hp ys l' st_9' h_9' hys a1_9 a2 a3 gZ gL gS
    rcases List.mem_cons.mp hp with rfl | hp
    · obtain rfl := hp_y0 hys
      obtain ⟨t0, rfl, g0⟩ := hp_gSa gS (by decide)
      cases hp_gSn g0
      exact e0 l' h_9' a1_9 a2 a3 (hp_gLa gL (List.mem_of_getElem? (i := 0) rfl) (by decide)) (hp_gLi (z := (0 + (1 * p + 0))) gL (List.mem_of_getElem? (i := 1) rfl) rfl (by omega)) (hp_gLi (z := (0 + (1 * q + 0))) gL (List.mem_of_getElem? (i := 2) rfl) rfl (by omega)) (hp_gLi (z := (0 + (1 * s + 0))) gL (List.mem_of_getElem? (i := 3) rfl) rfl (by omega)) (hp_gLi (z := (0 + (1 * y + 0))) gL (List.mem_of_getElem? (i := 4) rfl) rfl (by omega)) (hp_gLi (z := (0 + (1 * d + 0))) gL (List.mem_of_getElem? (i := 5) rfl) rfl (by omega)) (hp_gLi (z := (0 + (1 * w + 0))) gL (List.mem_of_getElem? (i := 6) rfl) rfl (by omega))
    cases hp
  · intro p hp ys v_9 h_9' hys a1_9 a2 a3 gZ gS
    cases hp
theorem nxp0_k : hp_chk 336 0 6 [(0, (-2147483648), 2147483647), (1, (-2147483648), 2147483647), (2, (-2147483648), 2147483647), (3, (-2147483648), 2147483647), (4, (-2147483648), 2147483647), (5, (-2147483648), 2147483647)] [] [(0, .inr (.inr (.inl (some 94)))), (1, .inl (0, [(0, 1)])), (2, .inl (0, [(1, 1)])), (3, .inl (0, [(2, 1)])), (4, .inl (0, [(3, 1)])), (5, .inl (0, [(4, 1)])), (6, .inl (0, [(5, 1)]))] [] [] [] 2 [(2, ([], 6, [(0, (-2147483648), 2147483647), (1, (-2147483648), 2147483647), (2, (-2147483648), 2147483647), (3, (-2147483648), 2147483647), (4, (-2147483648), 2147483647), (5, (-2147483648), 2147483647)], [], [(0, .inr (.inr (.inl (some 94)))), (1, .inl (0, [(0, 1)])), (2, .inl (0, [(1, 1)])), (3, .inl (0, [(2, 1)])), (4, .inl (0, [(3, 1)])), (5, .inl (0, [(4, 1)])), (6, .inl (0, [(5, 1)]))], [.inr (.inr (.inl (some 94))), .inr (.inr (.inl (some 94)))], []))] [] = true := by decide +kernel
theorem nxp0 {cst : am_K} {strs : List Nat} {Φ : am_Q → Prop} {D : Nat} {M : am_M} {h : am_H} {l : am_L} (c : hp_C cst strs D) (hM : m_P[336]? = some M) (hD : (2 : Int) ≤ (D : Int) + 1) (hy : ly_hy m_tt ly_TH h) (p q s y d w : Int) (b0 : (-2147483648) ≤ p) (t0 : p ≤ 2147483647) (b1 : (-2147483648) ≤ q) (t1 : q ≤ 2147483647) (b2 : (-2147483648) ≤ s) (t2 : s ≤ 2147483647) (b3 : (-2147483648) ≤ y) (t3 : y ≤ 2147483647) (b4 : (-2147483648) ≤ d) (t4 : d ≤ 2147483647) (b5 : (-2147483648) ≤ w) (t5 : w ≤ 2147483647) (l0 : hp_a l 0 94) (l1 : hp_i l 1 (p)) (l2 : hp_i l 2 (q)) (l3 : hp_i l 3 (s)) (l4 : hp_i l 4 (y)) (l5 : hp_i l 5 (d)) (l6 : hp_i l 6 (w)) (e0 : ∀ (l' : am_L) (h_9' : am_H), ly_hy m_tt ly_TH h_9' → ly_fr cst [] h h_9' → h.length ≤ h_9'.length → hp_a l' 0 94 → hp_i l' 1 (p) → hp_i l' 2 (q) → hp_i l' 3 (s) → hp_i l' 4 (y) → hp_i l' 5 (d) → hp_i l' 6 (w) → hp_F cst strs Φ D M 2 l' [.ref 94, .ref 94] h_9') : hp_F cst strs Φ D M 0 l [] h := by
  refine hp_arc c hM nxp0_k hD [p, q, s, y, d, w] rfl hy (hp_Bc (z := p) rfl b0 t0 (hp_Bc (z := q) rfl b1 t1 (hp_Bc (z := s) rfl b2 t2 (hp_Bc (z := y) rfl b3 t3 (hp_Bc (z := d) rfl b4 t4 (hp_Bc (z := w) rfl b5 t5 hp_Bn)))))) hp_Fn hp_Kn (hp_La l0 (hp_Li (z := (0 + (1 * p + 0))) l1 rfl (by omega) (hp_Li (z := (0 + (1 * q + 0))) l2 rfl (by omega) (hp_Li (z := (0 + (1 * s + 0))) l3 rfl (by omega) (hp_Li (z := (0 + (1 * y + 0))) l4 rfl (by omega) (hp_Li (z := (0 + (1 * d + 0))) l5 rfl (by omega) (hp_Li (z := (0 + (1 * w + 0))) l6 rfl (by omega) hp_Ln))))))) trivial ?_ ?_
  · intro p hp ys l' st_9' h_9' hys a1_9 a2 a3 gZ gL gS
    rcases List.mem_cons.mp hp with rfl | hp
    · obtain rfl := hp_y0 hys
      obtain ⟨t0, rfl, g0⟩ := hp_gSa gS (by decide)
      obtain ⟨t1, rfl, g1⟩ := hp_gSa g0 (by decide)
      cases hp_gSn g1
      exact e0 l' h_9' a1_9 a2 a3 (hp_gLa gL (List.mem_of_getElem? (i := 0) rfl) (by decide)) (hp_gLi (z := (0 + (1 * p + 0))) gL (List.mem_of_getElem? (i := 1) rfl) rfl (by omega)) (hp_gLi (z := (0 + (1 * q + 0))) gL (List.mem_of_getElem? (i := 2) rfl) rfl (by omega)) (hp_gLi (z := (0 + (1 * s + 0))) gL (List.mem_of_getElem? (i := 3) rfl) rfl (by omega)) (hp_gLi (z := (0 + (1 * y + 0))) gL (List.mem_of_getElem? (i := 4) rfl) rfl (by omega)) (hp_gLi (z := (0 + (1 * d + 0))) gL (List.mem_of_getElem? (i := 5) rfl) rfl (by omega)) (hp_gLi (z := (0 + (1 * w + 0))) gL (List.mem_of_getElem? (i := 6) rfl) rfl (by omega))
    cases hp
  · intro p hp ys v_9 h_9' hys a1_9 a2 a3 gZ gS
    cases hp
theorem ncpg0_k : hp_chk 137 7 8 [(0, (-2147483648), (-1)), (1, (-2147483648), 2147483647), (2, (-2147483648), 2147483647), (3, (-2147483648), 2147483647), (4, (-2147483648), 2147483647), (5, (-2147483648), 2147483647), (6, 0, 120), (7, 0, 399)] [] [(0, .inr (.inr (.inl (some 16)))), (1, .inl (0, [(0, 1)])), (2, .inl (0, [(1, 1)])), (3, .inl (0, [(2, 1)])), (4, .inl (0, [(3, 1)])), (5, .inl (0, [(4, 1)])), (6, .inl (0, [(5, 1)]))] [] [(1536, (0, []), (0, [(6, 1)])), (10, (0, []), (0, [(7, 1)]))] [] 6 [] [([], 8, [(0, (-2147483648), (-1)), (1, (-2147483648), 2147483647), (2, (-2147483648), 2147483647), (3, (-2147483648), 2147483647), (4, (-2147483648), 2147483647), (5, (-2147483648), 2147483647), (6, 0, 120), (7, 0, 399)], [], [], [.inl ((-2), [])], [])] = true := by decide +kernel
theorem ncpg0 {cst : am_K} {strs : List Nat} {Φ : am_Q → Prop} {D : Nat} {M : am_M} {h : am_H} {l : am_L} (c : hp_C cst strs D) (hM : m_P[137]? = some M) (hD : (6 : Int) ≤ (D : Int) + 1) (hy : ly_hy m_tt ly_TH h) (p q s y d w u g : Int) (b0 : (-2147483648) ≤ p) (t0 : p ≤ (-1)) (b1 : (-2147483648) ≤ q) (t1 : q ≤ 2147483647) (b2 : (-2147483648) ≤ s) (t2 : s ≤ 2147483647) (b3 : (-2147483648) ≤ y) (t3 : y ≤ 2147483647) (b4 : (-2147483648) ≤ d) (t4 : d ≤ 2147483647) (b5 : (-2147483648) ≤ w) (t5 : w ≤ 2147483647) (b6 : 0 ≤ u) (t6 : u ≤ 120) (b7 : 0 ≤ g) (t7 : g ≤ 399) (k0 : ly_hv cst h 1536 0 = some (u)) (k1 : ly_hv cst h 10 0 = some (g)) (l0 : hp_a l 0 16) (l1 : hp_i l 1 (p)) (l2 : hp_i l 2 (q)) (l3 : hp_i l 3 (s)) (l4 : hp_i l 4 (y)) (l5 : hp_i l 5 (d)) (l6 : hp_i l 6 (w)) (r0 : ∀ (h_9' : am_H) (y0 : Int32), y0.toInt = (-2) → ly_hy m_tt ly_TH h_9' → ly_fr cst [] h h_9' → h.length ≤ h_9'.length → Φ (some (.int y0), h_9', 0, 0)) : hp_F cst strs Φ D M 7 l [] h := by
  refine hp_arc c hM ncpg0_k hD [p, q, s, y, d, w, u, g] rfl hy (hp_Bc (z := p) rfl b0 t0 (hp_Bc (z := q) rfl b1 t1 (hp_Bc (z := s) rfl b2 t2 (hp_Bc (z := y) rfl b3 t3 (hp_Bc (z := d) rfl b4 t4 (hp_Bc (z := w) rfl b5 t5 (hp_Bc (z := u) rfl b6 t6 (hp_Bc (z := g) rfl b7 t7 hp_Bn)))))))) hp_Fn (hp_Kc (zi := (0 + 0)) (zv := (0 + (1 * u + 0))) k0 rfl rfl (by omega) (by omega) (hp_Kc (zi := (0 + 0)) (zv := (0 + (1 * g + 0))) k1 rfl rfl (by omega) (by omega) hp_Kn)) (hp_La l0 (hp_Li (z := (0 + (1 * p + 0))) l1 rfl (by omega) (hp_Li (z := (0 + (1 * q + 0))) l2 rfl (by omega) (hp_Li (z := (0 + (1 * s + 0))) l3 rfl (by omega) (hp_Li (z := (0 + (1 * y + 0))) l4 rfl (by omega) (hp_Li (z := (0 + (1 * d + 0))) l5 rfl (by omega) (hp_Li (z := (0 + (1 * w + 0))) l6 rfl (by omega) hp_Ln))))))) trivial ?_ ?_
  · intro p hp ys l' st_9' h_9' hys a1_9 a2 a3 gZ gL gS
    cases hp
  · intro p hp ys v_9 h_9' hys a1_9 a2 a3 gZ gS
    rcases List.mem_cons.mp hp with rfl | hp
    · obtain rfl := hp_y0 hys
      cases v_9 with
      | none => cases gS
      | some wz =>
        obtain ⟨y0, t0, s0_9, q0, -⟩ := hp_gSi (z := ((-2) + 0)) gS rfl
        cases s0_9
        exact r0 h_9' y0 (by omega) a1_9 a2 a3
    cases hp
theorem nxpg0_k : hp_chk 336 5 9 [(0, (-2147483648), (-1)), (1, (-2147483648), 2147483647), (2, (-2147483648), 2147483647), (3, (-2147483648), 2147483647), (4, (-2147483648), 2147483647), (5, (-2147483648), 2147483647), (6, 0, 120), (7, 0, 399), (8, 0, 1152921504606846976)] [] [(0, .inr (.inr (.inl (some 94)))), (1, .inl (0, [(0, 1)])), (2, .inl (0, [(1, 1)])), (3, .inl (0, [(2, 1)])), (4, .inl (0, [(3, 1)])), (5, .inl (0, [(4, 1)])), (6, .inl (0, [(5, 1)]))] [.inr (.inl (0, [(8, 1)])), .inr (.inr (.inl (some 94)))] [(19978, (0, []), (0, [(6, 1)])), (19977, (0, []), (0, [(7, 1)]))] [20017] 6 [] [([], 9, [(0, (-2147483648), (-1)), (1, (-2147483648), 2147483647), (2, (-2147483648), 2147483647), (3, (-2147483648), 2147483647), (4, (-2147483648), 2147483647), (5, (-2147483648), 2147483647), (6, 0, 120), (7, 0, 399), (8, 0, 1152921504606846976)], [], [], [.inl ((-2), [])], [])] = true := by decide +kernel
theorem nxpg0 {cst : am_K} {strs : List Nat} {Φ : am_Q → Prop} {D : Nat} {M : am_M} {h : am_H} {l : am_L} (c : hp_C cst strs D) (hM : m_P[336]? = some M) (hD : (6 : Int) ≤ (D : Int) + 1) (hy : ly_hy m_tt ly_TH h) (p q s y d w u g vv : Int) (x0 : Int64) (hx0 : x0.toInt = (vv)) (b0 : (-2147483648) ≤ p) (t0 : p ≤ (-1)) (b1 : (-2147483648) ≤ q) (t1 : q ≤ 2147483647) (b2 : (-2147483648) ≤ s) (t2 : s ≤ 2147483647) (b3 : (-2147483648) ≤ y) (t3 : y ≤ 2147483647) (b4 : (-2147483648) ≤ d) (t4 : d ≤ 2147483647) (b5 : (-2147483648) ≤ w) (t5 : w ≤ 2147483647) (b6 : 0 ≤ u) (t6 : u ≤ 120) (b7 : 0 ≤ g) (t7 : g ≤ 399) (b8 : 0 ≤ vv) (t8 : vv ≤ 1152921504606846976) (k0 : ly_hv cst h 19978 0 = some (u)) (k1 : ly_hv cst h 19977 0 = some (g)) (l0 : hp_a l 0 94) (l1 : hp_i l 1 (p)) (l2 : hp_i l 2 (q)) (l3 : hp_i l 3 (s)) (l4 : hp_i l 4 (y)) (l5 : hp_i l 5 (d)) (l6 : hp_i l 6 (w)) (r0 : ∀ (h_9' : am_H) (y0 : Int32), y0.toInt = (-2) → ly_hy m_tt ly_TH h_9' → ly_fr cst [20017] h h_9' → h.length ≤ h_9'.length → Φ (some (.int y0), h_9', 0, 0)) : hp_F cst strs Φ D M 5 l [.long x0, .ref 94] h := by
  refine hp_arc c hM nxpg0_k hD [p, q, s, y, d, w, u, g, vv] rfl hy (hp_Bc (z := p) rfl b0 t0 (hp_Bc (z := q) rfl b1 t1 (hp_Bc (z := s) rfl b2 t2 (hp_Bc (z := y) rfl b3 t3 (hp_Bc (z := d) rfl b4 t4 (hp_Bc (z := w) rfl b5 t5 (hp_Bc (z := u) rfl b6 t6 (hp_Bc (z := g) rfl b7 t7 (hp_Bc (z := vv) rfl b8 t8 hp_Bn))))))))) hp_Fn (hp_Kc (zi := (0 + 0)) (zv := (0 + (1 * u + 0))) k0 rfl rfl (by omega) (by omega) (hp_Kc (zi := (0 + 0)) (zv := (0 + (1 * g + 0))) k1 rfl rfl (by omega) (by omega) hp_Kn)) (hp_La l0 (hp_Li (z := (0 + (1 * p + 0))) l1 rfl (by omega) (hp_Li (z := (0 + (1 * q + 0))) l2 rfl (by omega) (hp_Li (z := (0 + (1 * s + 0))) l3 rfl (by omega) (hp_Li (z := (0 + (1 * y + 0))) l4 rfl (by omega) (hp_Li (z := (0 + (1 * d + 0))) l5 rfl (by omega) (hp_Li (z := (0 + (1 * w + 0))) l6 rfl (by omega) hp_Ln))))))) (hp_Sj (z := (0 + (1 * vv + 0))) rfl (by omega) (hp_Sa trivial)) ?_ ?_
  · intro p hp ys l' st_9' h_9' hys a1_9 a2 a3 gZ gL gS
    cases hp
  · intro p hp ys v_9 h_9' hys a1_9 a2 a3 gZ gS
    rcases List.mem_cons.mp hp with rfl | hp
    · obtain rfl := hp_y0 hys
      cases v_9 with
      | none => cases gS
      | some wz =>
        obtain ⟨y0, t0, s0_9, q0, -⟩ := hp_gSi (z := ((-2) + 0)) gS rfl
        cases s0_9
        exact r0 h_9' y0 (by omega) a1_9 a2 a3
    cases hp
theorem ncpg1_k : hp_chk 137 7 8 [(0, 0, 2147483647), (1, (-2147483648), 2147483647), (2, (-2147483648), 2147483647), (3, (-2147483648), 2147483647), (4, (-2147483648), 2147483647), (5, (-2147483648), 2147483647), (6, 0, 120), (7, 0, 399)] [(0, [(0, 1), (6, (-1))])] [(0, .inr (.inr (.inl (some 16)))), (1, .inl (0, [(0, 1)])), (2, .inl (0, [(1, 1)])), (3, .inl (0, [(2, 1)])), (4, .inl (0, [(3, 1)])), (5, .inl (0, [(4, 1)])), (6, .inl (0, [(5, 1)]))] [] [(1536, (0, []), (0, [(6, 1)])), (10, (0, []), (0, [(7, 1)]))] [] 6 [] [([], 8, [(0, 0, 2147483647), (1, (-2147483648), 2147483647), (2, (-2147483648), 2147483647), (3, (-2147483648), 2147483647), (4, (-2147483648), 2147483647), (5, (-2147483648), 2147483647), (6, 0, 120), (7, 0, 399)], [], [], [.inl ((-2), [])], [])] = true := by decide +kernel
theorem ncpg1 {cst : am_K} {strs : List Nat} {Φ : am_Q → Prop} {D : Nat} {M : am_M} {h : am_H} {l : am_L} (c : hp_C cst strs D) (hM : m_P[137]? = some M) (hD : (6 : Int) ≤ (D : Int) + 1) (hy : ly_hy m_tt ly_TH h) (p q s y d w u g : Int) (b0 : 0 ≤ p) (t0 : p ≤ 2147483647) (b1 : (-2147483648) ≤ q) (t1 : q ≤ 2147483647) (b2 : (-2147483648) ≤ s) (t2 : s ≤ 2147483647) (b3 : (-2147483648) ≤ y) (t3 : y ≤ 2147483647) (b4 : (-2147483648) ≤ d) (t4 : d ≤ 2147483647) (b5 : (-2147483648) ≤ w) (t5 : w ≤ 2147483647) (b6 : 0 ≤ u) (t6 : u ≤ 120) (b7 : 0 ≤ g) (t7 : g ≤ 399) (f0 : 0 ≤ (p - u)) (k0 : ly_hv cst h 1536 0 = some (u)) (k1 : ly_hv cst h 10 0 = some (g)) (l0 : hp_a l 0 16) (l1 : hp_i l 1 (p)) (l2 : hp_i l 2 (q)) (l3 : hp_i l 3 (s)) (l4 : hp_i l 4 (y)) (l5 : hp_i l 5 (d)) (l6 : hp_i l 6 (w)) (r0 : ∀ (h_9' : am_H) (y0 : Int32), y0.toInt = (-2) → ly_hy m_tt ly_TH h_9' → ly_fr cst [] h h_9' → h.length ≤ h_9'.length → Φ (some (.int y0), h_9', 0, 0)) : hp_F cst strs Φ D M 7 l [] h := by
  refine hp_arc c hM ncpg1_k hD [p, q, s, y, d, w, u, g] rfl hy (hp_Bc (z := p) rfl b0 t0 (hp_Bc (z := q) rfl b1 t1 (hp_Bc (z := s) rfl b2 t2 (hp_Bc (z := y) rfl b3 t3 (hp_Bc (z := d) rfl b4 t4 (hp_Bc (z := w) rfl b5 t5 (hp_Bc (z := u) rfl b6 t6 (hp_Bc (z := g) rfl b7 t7 hp_Bn)))))))) (hp_Fc (z := (0 + (1 * p + ((-1) * u + 0)))) rfl (by omega) hp_Fn) (hp_Kc (zi := (0 + 0)) (zv := (0 + (1 * u + 0))) k0 rfl rfl (by omega) (by omega) (hp_Kc (zi := (0 + 0)) (zv := (0 + (1 * g + 0))) k1 rfl rfl (by omega) (by omega) hp_Kn)) (hp_La l0 (hp_Li (z := (0 + (1 * p + 0))) l1 rfl (by omega) (hp_Li (z := (0 + (1 * q + 0))) l2 rfl (by omega) (hp_Li (z := (0 + (1 * s + 0))) l3 rfl (by omega) (hp_Li (z := (0 + (1 * y + 0))) l4 rfl (by omega) (hp_Li (z := (0 + (1 * d + 0))) l5 rfl (by omega) (hp_Li (z := (0 + (1 * w + 0))) l6 rfl (by omega) hp_Ln))))))) trivial ?_ ?_
  · intro p hp ys l' st_9' h_9' hys a1_9 a2 a3 gZ gL gS
    cases hp
  · intro p hp ys v_9 h_9' hys a1_9 a2 a3 gZ gS
    rcases List.mem_cons.mp hp with rfl | hp
    · obtain rfl := hp_y0 hys
      cases v_9 with
      | none => cases gS
      | some wz =>
        obtain ⟨y0, t0, s0_9, q0, -⟩ := hp_gSi (z := ((-2) + 0)) gS rfl
        cases s0_9
        exact r0 h_9' y0 (by omega) a1_9 a2 a3
    cases hp
theorem nxpg1_k : hp_chk 336 5 9 [(0, 0, 2147483647), (1, (-2147483648), 2147483647), (2, (-2147483648), 2147483647), (3, (-2147483648), 2147483647), (4, (-2147483648), 2147483647), (5, (-2147483648), 2147483647), (6, 0, 120), (7, 0, 399), (8, 0, 1152921504606846976)] [(0, [(0, 1), (6, (-1))])] [(0, .inr (.inr (.inl (some 94)))), (1, .inl (0, [(0, 1)])), (2, .inl (0, [(1, 1)])), (3, .inl (0, [(2, 1)])), (4, .inl (0, [(3, 1)])), (5, .inl (0, [(4, 1)])), (6, .inl (0, [(5, 1)]))] [.inr (.inl (0, [(8, 1)])), .inr (.inr (.inl (some 94)))] [(19978, (0, []), (0, [(6, 1)])), (19977, (0, []), (0, [(7, 1)]))] [20017] 6 [] [([], 9, [(0, 0, 2147483647), (1, (-2147483648), 2147483647), (2, (-2147483648), 2147483647), (3, (-2147483648), 2147483647), (4, (-2147483648), 2147483647), (5, (-2147483648), 2147483647), (6, 0, 120), (7, 0, 399), (8, 0, 1152921504606846976)], [], [], [.inl ((-2), [])], [])] = true := by decide +kernel
theorem nxpg1 {cst : am_K} {strs : List Nat} {Φ : am_Q → Prop} {D : Nat} {M : am_M} {h : am_H} {l : am_L} (c : hp_C cst strs D) (hM : m_P[336]? = some M) (hD : (6 : Int) ≤ (D : Int) + 1) (hy : ly_hy m_tt ly_TH h) (p q s y d w u g vv : Int) (x0 : Int64) (hx0 : x0.toInt = (vv)) (b0 : 0 ≤ p) (t0 : p ≤ 2147483647) (b1 : (-2147483648) ≤ q) (t1 : q ≤ 2147483647) (b2 : (-2147483648) ≤ s) (t2 : s ≤ 2147483647) (b3 : (-2147483648) ≤ y) (t3 : y ≤ 2147483647) (b4 : (-2147483648) ≤ d) (t4 : d ≤ 2147483647) (b5 : (-2147483648) ≤ w) (t5 : w ≤ 2147483647) (b6 : 0 ≤ u) (t6 : u ≤ 120) (b7 : 0 ≤ g) (t7 : g ≤ 399) (b8 : 0 ≤ vv) (t8 : vv ≤ 1152921504606846976) (f0 : 0 ≤ (p - u)) (k0 : ly_hv cst h 19978 0 = some (u)) (k1 : ly_hv cst h 19977 0 = some (g)) (l0 : hp_a l 0 94) (l1 : hp_i l 1 (p)) (l2 : hp_i l 2 (q)) (l3 : hp_i l 3 (s)) (l4 : hp_i l 4 (y)) (l5 : hp_i l 5 (d)) (l6 : hp_i l 6 (w)) (r0 : ∀ (h_9' : am_H) (y0 : Int32), y0.toInt = (-2) → ly_hy m_tt ly_TH h_9' → ly_fr cst [20017] h h_9' → h.length ≤ h_9'.length → Φ (some (.int y0), h_9', 0, 0)) : hp_F cst strs Φ D M 5 l [.long x0, .ref 94] h := by
  refine hp_arc c hM nxpg1_k hD [p, q, s, y, d, w, u, g, vv] rfl hy (hp_Bc (z := p) rfl b0 t0 (hp_Bc (z := q) rfl b1 t1 (hp_Bc (z := s) rfl b2 t2 (hp_Bc (z := y) rfl b3 t3 (hp_Bc (z := d) rfl b4 t4 (hp_Bc (z := w) rfl b5 t5 (hp_Bc (z := u) rfl b6 t6 (hp_Bc (z := g) rfl b7 t7 (hp_Bc (z := vv) rfl b8 t8 hp_Bn))))))))) (hp_Fc (z := (0 + (1 * p + ((-1) * u + 0)))) rfl (by omega) hp_Fn) (hp_Kc (zi := (0 + 0)) (zv := (0 + (1 * u + 0))) k0 rfl rfl (by omega) (by omega) (hp_Kc (zi := (0 + 0)) (zv := (0 + (1 * g + 0))) k1 rfl rfl (by omega) (by omega) hp_Kn)) (hp_La l0 (hp_Li (z := (0 + (1 * p + 0))) l1 rfl (by omega) (hp_Li (z := (0 + (1 * q + 0))) l2 rfl (by omega) (hp_Li (z := (0 + (1 * s + 0))) l3 rfl (by omega) (hp_Li (z := (0 + (1 * y + 0))) l4 rfl (by omega) (hp_Li (z := (0 + (1 * d + 0))) l5 rfl (by omega) (hp_Li (z := (0 + (1 * w + 0))) l6 rfl (by omega) hp_Ln))))))) (hp_Sj (z := (0 + (1 * vv + 0))) rfl (by omega) (hp_Sa trivial)) ?_ ?_
  · intro p hp ys l' st_9' h_9' hys a1_9 a2 a3 gZ gL gS
    cases hp
  · intro p hp ys v_9 h_9' hys a1_9 a2 a3 gZ gS
    rcases List.mem_cons.mp hp with rfl | hp
    · obtain rfl := hp_y0 hys
      cases v_9 with
      | none => cases gS
      | some wz =>
        obtain ⟨y0, t0, s0_9, q0, -⟩ := hp_gSi (z := ((-2) + 0)) gS rfl
        cases s0_9
        exact r0 h_9' y0 (by omega) a1_9 a2 a3
    cases hp
theorem ncpg2_k : hp_chk 137 7 8 [(0, 0, 119), (1, (-2147483648), (-1)), (2, (-2147483648), 2147483647), (3, (-2147483648), 2147483647), (4, (-2147483648), 2147483647), (5, (-2147483648), 2147483647), (6, 0, 120), (7, 0, 399)] [((-1), [(0, (-1)), (6, 1)])] [(0, .inr (.inr (.inl (some 16)))), (1, .inl (0, [(0, 1)])), (2, .inl (0, [(1, 1)])), (3, .inl (0, [(2, 1)])), (4, .inl (0, [(3, 1)])), (5, .inl (0, [(4, 1)])), (6, .inl (0, [(5, 1)]))] [] [(1536, (0, []), (0, [(6, 1)])), (10, (0, []), (0, [(7, 1)]))] [] 6 [] [([], 8, [(0, 0, 119), (1, (-2147483648), (-1)), (2, (-2147483648), 2147483647), (3, (-2147483648), 2147483647), (4, (-2147483648), 2147483647), (5, (-2147483648), 2147483647), (6, 0, 120), (7, 0, 399)], [], [], [.inl ((-2), [])], [])] = true := by decide +kernel
theorem ncpg2 {cst : am_K} {strs : List Nat} {Φ : am_Q → Prop} {D : Nat} {M : am_M} {h : am_H} {l : am_L} (c : hp_C cst strs D) (hM : m_P[137]? = some M) (hD : (6 : Int) ≤ (D : Int) + 1) (hy : ly_hy m_tt ly_TH h) (p q s y d w u g : Int) (b0 : 0 ≤ p) (t0 : p ≤ 119) (b1 : (-2147483648) ≤ q) (t1 : q ≤ (-1)) (b2 : (-2147483648) ≤ s) (t2 : s ≤ 2147483647) (b3 : (-2147483648) ≤ y) (t3 : y ≤ 2147483647) (b4 : (-2147483648) ≤ d) (t4 : d ≤ 2147483647) (b5 : (-2147483648) ≤ w) (t5 : w ≤ 2147483647) (b6 : 0 ≤ u) (t6 : u ≤ 120) (b7 : 0 ≤ g) (t7 : g ≤ 399) (f0 : 0 ≤ (u - p - 1)) (k0 : ly_hv cst h 1536 0 = some (u)) (k1 : ly_hv cst h 10 0 = some (g)) (l0 : hp_a l 0 16) (l1 : hp_i l 1 (p)) (l2 : hp_i l 2 (q)) (l3 : hp_i l 3 (s)) (l4 : hp_i l 4 (y)) (l5 : hp_i l 5 (d)) (l6 : hp_i l 6 (w)) (r0 : ∀ (h_9' : am_H) (y0 : Int32), y0.toInt = (-2) → ly_hy m_tt ly_TH h_9' → ly_fr cst [] h h_9' → h.length ≤ h_9'.length → Φ (some (.int y0), h_9', 0, 0)) : hp_F cst strs Φ D M 7 l [] h := by
  refine hp_arc c hM ncpg2_k hD [p, q, s, y, d, w, u, g] rfl hy (hp_Bc (z := p) rfl b0 t0 (hp_Bc (z := q) rfl b1 t1 (hp_Bc (z := s) rfl b2 t2 (hp_Bc (z := y) rfl b3 t3 (hp_Bc (z := d) rfl b4 t4 (hp_Bc (z := w) rfl b5 t5 (hp_Bc (z := u) rfl b6 t6 (hp_Bc (z := g) rfl b7 t7 hp_Bn)))))))) (hp_Fc (z := ((-1) + ((-1) * p + (1 * u + 0)))) rfl (by omega) hp_Fn) (hp_Kc (zi := (0 + 0)) (zv := (0 + (1 * u + 0))) k0 rfl rfl (by omega) (by omega) (hp_Kc (zi := (0 + 0)) (zv := (0 + (1 * g + 0))) k1 rfl rfl (by omega) (by omega) hp_Kn)) (hp_La l0 (hp_Li (z := (0 + (1 * p + 0))) l1 rfl (by omega) (hp_Li (z := (0 + (1 * q + 0))) l2 rfl (by omega) (hp_Li (z := (0 + (1 * s + 0))) l3 rfl (by omega) (hp_Li (z := (0 + (1 * y + 0))) l4 rfl (by omega) (hp_Li (z := (0 + (1 * d + 0))) l5 rfl (by omega) (hp_Li (z := (0 + (1 * w + 0))) l6 rfl (by omega) hp_Ln))))))) trivial ?_ ?_
  · intro p hp ys l' st_9' h_9' hys a1_9 a2 a3 gZ gL gS
    cases hp
  · intro p hp ys v_9 h_9' hys a1_9 a2 a3 gZ gS
    rcases List.mem_cons.mp hp with rfl | hp
    · obtain rfl := hp_y0 hys
      cases v_9 with
      | none => cases gS
      | some wz =>
        obtain ⟨y0, t0, s0_9, q0, -⟩ := hp_gSi (z := ((-2) + 0)) gS rfl
        cases s0_9
        exact r0 h_9' y0 (by omega) a1_9 a2 a3
    cases hp
theorem nxpg2_k : hp_chk 336 5 9 [(0, 0, 119), (1, (-2147483648), (-1)), (2, (-2147483648), 2147483647), (3, (-2147483648), 2147483647), (4, (-2147483648), 2147483647), (5, (-2147483648), 2147483647), (6, 0, 120), (7, 0, 399), (8, 0, 1152921504606846976)] [((-1), [(0, (-1)), (6, 1)])] [(0, .inr (.inr (.inl (some 94)))), (1, .inl (0, [(0, 1)])), (2, .inl (0, [(1, 1)])), (3, .inl (0, [(2, 1)])), (4, .inl (0, [(3, 1)])), (5, .inl (0, [(4, 1)])), (6, .inl (0, [(5, 1)]))] [.inr (.inl (0, [(8, 1)])), .inr (.inr (.inl (some 94)))] [(19978, (0, []), (0, [(6, 1)])), (19977, (0, []), (0, [(7, 1)]))] [20017] 6 [] [([], 9, [(0, 0, 119), (1, (-2147483648), (-1)), (2, (-2147483648), 2147483647), (3, (-2147483648), 2147483647), (4, (-2147483648), 2147483647), (5, (-2147483648), 2147483647), (6, 0, 120), (7, 0, 399), (8, 0, 1152921504606846976)], [], [], [.inl ((-2), [])], [])] = true := by decide +kernel
theorem nxpg2 {cst : am_K} {strs : List Nat} {Φ : am_Q → Prop} {D : Nat} {M : am_M} {h : am_H} {l : am_L} (c : hp_C cst strs D) (hM : m_P[336]? = some M) (hD : (6 : Int) ≤ (D : Int) + 1) (hy : ly_hy m_tt ly_TH h) (p q s y d w u g vv : Int) (x0 : Int64) (hx0 : x0.toInt = (vv)) (b0 : 0 ≤ p) (t0 : p ≤ 119) (b1 : (-2147483648) ≤ q) (t1 : q ≤ (-1)) (b2 : (-2147483648) ≤ s) (t2 : s ≤ 2147483647) (b3 : (-2147483648) ≤ y) (t3 : y ≤ 2147483647) (b4 : (-2147483648) ≤ d) (t4 : d ≤ 2147483647) (b5 : (-2147483648) ≤ w) (t5 : w ≤ 2147483647) (b6 : 0 ≤ u) (t6 : u ≤ 120) (b7 : 0 ≤ g) (t7 : g ≤ 399) (b8 : 0 ≤ vv) (t8 : vv ≤ 1152921504606846976) (f0 : 0 ≤ (u - p - 1)) (k0 : ly_hv cst h 19978 0 = some (u)) (k1 : ly_hv cst h 19977 0 = some (g)) (l0 : hp_a l 0 94) (l1 : hp_i l 1 (p)) (l2 : hp_i l 2 (q)) (l3 : hp_i l 3 (s)) (l4 : hp_i l 4 (y)) (l5 : hp_i l 5 (d)) (l6 : hp_i l 6 (w)) (r0 : ∀ (h_9' : am_H) (y0 : Int32), y0.toInt = (-2) → ly_hy m_tt ly_TH h_9' → ly_fr cst [20017] h h_9' → h.length ≤ h_9'.length → Φ (some (.int y0), h_9', 0, 0)) : hp_F cst strs Φ D M 5 l [.long x0, .ref 94] h := by
  refine hp_arc c hM nxpg2_k hD [p, q, s, y, d, w, u, g, vv] rfl hy (hp_Bc (z := p) rfl b0 t0 (hp_Bc (z := q) rfl b1 t1 (hp_Bc (z := s) rfl b2 t2 (hp_Bc (z := y) rfl b3 t3 (hp_Bc (z := d) rfl b4 t4 (hp_Bc (z := w) rfl b5 t5 (hp_Bc (z := u) rfl b6 t6 (hp_Bc (z := g) rfl b7 t7 (hp_Bc (z := vv) rfl b8 t8 hp_Bn))))))))) (hp_Fc (z := ((-1) + ((-1) * p + (1 * u + 0)))) rfl (by omega) hp_Fn) (hp_Kc (zi := (0 + 0)) (zv := (0 + (1 * u + 0))) k0 rfl rfl (by omega) (by omega) (hp_Kc (zi := (0 + 0)) (zv := (0 + (1 * g + 0))) k1 rfl rfl (by omega) (by omega) hp_Kn)) (hp_La l0 (hp_Li (z := (0 + (1 * p + 0))) l1 rfl (by omega) (hp_Li (z := (0 + (1 * q + 0))) l2 rfl (by omega) (hp_Li (z := (0 + (1 * s + 0))) l3 rfl (by omega) (hp_Li (z := (0 + (1 * y + 0))) l4 rfl (by omega) (hp_Li (z := (0 + (1 * d + 0))) l5 rfl (by omega) (hp_Li (z := (0 + (1 * w + 0))) l6 rfl (by omega) hp_Ln))))))) (hp_Sj (z := (0 + (1 * vv + 0))) rfl (by omega) (hp_Sa trivial)) ?_ ?_
  · intro p hp ys l' st_9' h_9' hys a1_9 a2 a3 gZ gL gS
    cases hp
  · intro p hp ys v_9 h_9' hys a1_9 a2 a3 gZ gS
    rcases List.mem_cons.mp hp with rfl | hp
    · obtain rfl := hp_y0 hys
      cases v_9 with
      | none => cases gS
      | some wz =>
        obtain ⟨y0, t0, s0_9, q0, -⟩ := hp_gSi (z := ((-2) + 0)) gS rfl
        cases s0_9
        exact r0 h_9' y0 (by omega) a1_9 a2 a3
    cases hp
theorem ncpg3_k : hp_chk 137 7 8 [(0, 0, 119), (1, 0, 2147483647), (2, (-2147483648), 2147483647), (3, (-2147483648), 2147483647), (4, (-2147483648), 2147483647), (5, (-2147483648), 2147483647), (6, 0, 120), (7, 0, 399)] [((-1), [(0, (-1)), (6, 1)]), (0, [(1, 1), (6, (-1))])] [(0, .inr (.inr (.inl (some 16)))), (1, .inl (0, [(0, 1)])), (2, .inl (0, [(1, 1)])), (3, .inl (0, [(2, 1)])), (4, .inl (0, [(3, 1)])), (5, .inl (0, [(4, 1)])), (6, .inl (0, [(5, 1)]))] [] [(1536, (0, []), (0, [(6, 1)])), (10, (0, []), (0, [(7, 1)]))] [] 6 [] [([], 8, [(0, 0, 119), (1, 0, 2147483647), (2, (-2147483648), 2147483647), (3, (-2147483648), 2147483647), (4, (-2147483648), 2147483647), (5, (-2147483648), 2147483647), (6, 0, 120), (7, 0, 399)], [], [], [.inl ((-2), [])], [])] = true := by decide +kernel
theorem ncpg3 {cst : am_K} {strs : List Nat} {Φ : am_Q → Prop} {D : Nat} {M : am_M} {h : am_H} {l : am_L} (c : hp_C cst strs D) (hM : m_P[137]? = some M) (hD : (6 : Int) ≤ (D : Int) + 1) (hy : ly_hy m_tt ly_TH h) (p q s y d w u g : Int) (b0 : 0 ≤ p) (t0 : p ≤ 119) (b1 : 0 ≤ q) (t1 : q ≤ 2147483647) (b2 : (-2147483648) ≤ s) (t2 : s ≤ 2147483647) (b3 : (-2147483648) ≤ y) (t3 : y ≤ 2147483647) (b4 : (-2147483648) ≤ d) (t4 : d ≤ 2147483647) (b5 : (-2147483648) ≤ w) (t5 : w ≤ 2147483647) (b6 : 0 ≤ u) (t6 : u ≤ 120) (b7 : 0 ≤ g) (t7 : g ≤ 399) (f0 : 0 ≤ (u - p - 1)) (f1 : 0 ≤ (q - u)) (k0 : ly_hv cst h 1536 0 = some (u)) (k1 : ly_hv cst h 10 0 = some (g)) (l0 : hp_a l 0 16) (l1 : hp_i l 1 (p)) (l2 : hp_i l 2 (q)) (l3 : hp_i l 3 (s)) (l4 : hp_i l 4 (y)) (l5 : hp_i l 5 (d)) (l6 : hp_i l 6 (w)) (r0 : ∀ (h_9' : am_H) (y0 : Int32), y0.toInt = (-2) → ly_hy m_tt ly_TH h_9' → ly_fr cst [] h h_9' → h.length ≤ h_9'.length → Φ (some (.int y0), h_9', 0, 0)) : hp_F cst strs Φ D M 7 l [] h := by
  refine hp_arc c hM ncpg3_k hD [p, q, s, y, d, w, u, g] rfl hy (hp_Bc (z := p) rfl b0 t0 (hp_Bc (z := q) rfl b1 t1 (hp_Bc (z := s) rfl b2 t2 (hp_Bc (z := y) rfl b3 t3 (hp_Bc (z := d) rfl b4 t4 (hp_Bc (z := w) rfl b5 t5 (hp_Bc (z := u) rfl b6 t6 (hp_Bc (z := g) rfl b7 t7 hp_Bn)))))))) (hp_Fc (z := ((-1) + ((-1) * p + (1 * u + 0)))) rfl (by omega) (hp_Fc (z := (0 + (1 * q + ((-1) * u + 0)))) rfl (by omega) hp_Fn)) (hp_Kc (zi := (0 + 0)) (zv := (0 + (1 * u + 0))) k0 rfl rfl (by omega) (by omega) (hp_Kc (zi := (0 + 0)) (zv := (0 + (1 * g + 0))) k1 rfl rfl (by omega) (by omega) hp_Kn)) (hp_La l0 (hp_Li (z := (0 + (1 * p + 0))) l1 rfl (by omega) (hp_Li (z := (0 + (1 * q + 0))) l2 rfl (by omega) (hp_Li (z := (0 + (1 * s + 0))) l3 rfl (by omega) (hp_Li (z := (0 + (1 * y + 0))) l4 rfl (by omega) (hp_Li (z := (0 + (1 * d + 0))) l5 rfl (by omega) (hp_Li (z := (0 + (1 * w + 0))) l6 rfl (by omega) hp_Ln))))))) trivial ?_ ?_
  · intro p hp ys l' st_9' h_9' hys a1_9 a2 a3 gZ gL gS
    cases hp
  · intro p hp ys v_9 h_9' hys a1_9 a2 a3 gZ gS
    rcases List.mem_cons.mp hp with rfl | hp
    · obtain rfl := hp_y0 hys
      cases v_9 with
      | none => cases gS
      | some wz =>
        obtain ⟨y0, t0, s0_9, q0, -⟩ := hp_gSi (z := ((-2) + 0)) gS rfl
        cases s0_9
        exact r0 h_9' y0 (by omega) a1_9 a2 a3
    cases hp
theorem nxpg3_k : hp_chk 336 5 9 [(0, 0, 119), (1, 0, 2147483647), (2, (-2147483648), 2147483647), (3, (-2147483648), 2147483647), (4, (-2147483648), 2147483647), (5, (-2147483648), 2147483647), (6, 0, 120), (7, 0, 399), (8, 0, 1152921504606846976)] [((-1), [(0, (-1)), (6, 1)]), (0, [(1, 1), (6, (-1))])] [(0, .inr (.inr (.inl (some 94)))), (1, .inl (0, [(0, 1)])), (2, .inl (0, [(1, 1)])), (3, .inl (0, [(2, 1)])), (4, .inl (0, [(3, 1)])), (5, .inl (0, [(4, 1)])), (6, .inl (0, [(5, 1)]))] [.inr (.inl (0, [(8, 1)])), .inr (.inr (.inl (some 94)))] [(19978, (0, []), (0, [(6, 1)])), (19977, (0, []), (0, [(7, 1)]))] [20017] 6 [] [([], 9, [(0, 0, 119), (1, 0, 2147483647), (2, (-2147483648), 2147483647), (3, (-2147483648), 2147483647), (4, (-2147483648), 2147483647), (5, (-2147483648), 2147483647), (6, 0, 120), (7, 0, 399), (8, 0, 1152921504606846976)], [], [], [.inl ((-2), [])], [])] = true := by decide +kernel
theorem nxpg3 {cst : am_K} {strs : List Nat} {Φ : am_Q → Prop} {D : Nat} {M : am_M} {h : am_H} {l : am_L} (c : hp_C cst strs D) (hM : m_P[336]? = some M) (hD : (6 : Int) ≤ (D : Int) + 1) (hy : ly_hy m_tt ly_TH h) (p q s y d w u g vv : Int) (x0 : Int64) (hx0 : x0.toInt = (vv)) (b0 : 0 ≤ p) (t0 : p ≤ 119) (b1 : 0 ≤ q) (t1 : q ≤ 2147483647) (b2 : (-2147483648) ≤ s) (t2 : s ≤ 2147483647) (b3 : (-2147483648) ≤ y) (t3 : y ≤ 2147483647) (b4 : (-2147483648) ≤ d) (t4 : d ≤ 2147483647) (b5 : (-2147483648) ≤ w) (t5 : w ≤ 2147483647) (b6 : 0 ≤ u) (t6 : u ≤ 120) (b7 : 0 ≤ g) (t7 : g ≤ 399) (b8 : 0 ≤ vv) (t8 : vv ≤ 1152921504606846976) (f0 : 0 ≤ (u - p - 1)) (f1 : 0 ≤ (q - u)) (k0 : ly_hv cst h 19978 0 = some (u)) (k1 : ly_hv cst h 19977 0 = some (g)) (l0 : hp_a l 0 94) (l1 : hp_i l 1 (p)) (l2 : hp_i l 2 (q)) (l3 : hp_i l 3 (s)) (l4 : hp_i l 4 (y)) (l5 : hp_i l 5 (d)) (l6 : hp_i l 6 (w)) (r0 : ∀ (h_9' : am_H) (y0 : Int32), y0.toInt = (-2) → ly_hy m_tt ly_TH h_9' → ly_fr cst [20017] h h_9' → h.length ≤ h_9'.length → Φ (some (.int y0), h_9', 0, 0)) : hp_F cst strs Φ D M 5 l [.long x0, .ref 94] h := by
  refine hp_arc c hM nxpg3_k hD [p, q, s, y, d, w, u, g, vv] rfl hy (hp_Bc (z := p) rfl b0 t0 (hp_Bc (z := q) rfl b1 t1 (hp_Bc (z := s) rfl b2 t2 (hp_Bc (z := y) rfl b3 t3 (hp_Bc (z := d) rfl b4 t4 (hp_Bc (z := w) rfl b5 t5 (hp_Bc (z := u) rfl b6 t6 (hp_Bc (z := g) rfl b7 t7 (hp_Bc (z := vv) rfl b8 t8 hp_Bn))))))))) (hp_Fc (z := ((-1) + ((-1) * p + (1 * u + 0)))) rfl (by omega) (hp_Fc (z := (0 + (1 * q + ((-1) * u + 0)))) rfl (by omega) hp_Fn)) (hp_Kc (zi := (0 + 0)) (zv := (0 + (1 * u + 0))) k0 rfl rfl (by omega) (by omega) (hp_Kc (zi := (0 + 0)) (zv := (0 + (1 * g + 0))) k1 rfl rfl (by omega) (by omega) hp_Kn)) (hp_La l0 (hp_Li (z := (0 + (1 * p + 0))) l1 rfl (by omega) (hp_Li (z := (0 + (1 * q + 0))) l2 rfl (by omega) (hp_Li (z := (0 + (1 * s + 0))) l3 rfl (by omega) (hp_Li (z := (0 + (1 * y + 0))) l4 rfl (by omega) (hp_Li (z := (0 + (1 * d + 0))) l5 rfl (by omega) (hp_Li (z := (0 + (1 * w + 0))) l6 rfl (by omega) hp_Ln))))))) (hp_Sj (z := (0 + (1 * vv + 0))) rfl (by omega) (hp_Sa trivial)) ?_ ?_
  · intro p hp ys l' st_9' h_9' hys a1_9 a2 a3 gZ gL gS
    cases hp
  · intro p hp ys v_9 h_9' hys a1_9 a2 a3 gZ gS
    rcases List.mem_cons.mp hp with rfl | hp
    · obtain rfl := hp_y0 hys
      cases v_9 with
      | none => cases gS
      | some wz =>
        obtain ⟨y0, t0, s0_9, q0, -⟩ := hp_gSi (z := ((-2) + 0)) gS rfl
        cases s0_9
        exact r0 h_9' y0 (by omega) a1_9 a2 a3
    cases hp
theorem ncpg4_k : hp_chk 137 7 7 [(0, 0, 119), (1, (-2147483648), 2147483647), (2, (-2147483648), 2147483647), (3, (-2147483648), 2147483647), (4, (-2147483648), 2147483647), (5, 0, 120), (6, 0, 399)] [((-1), [(0, (-1)), (5, 1)])] [(0, .inr (.inr (.inl (some 16)))), (1, .inl (0, [(0, 1)])), (2, .inl (0, [(0, 1)])), (3, .inl (0, [(1, 1)])), (4, .inl (0, [(2, 1)])), (5, .inl (0, [(3, 1)])), (6, .inl (0, [(4, 1)]))] [] [(1536, (0, []), (0, [(5, 1)])), (10, (0, []), (0, [(6, 1)]))] [] 6 [] [([], 7, [(0, 0, 119), (1, (-2147483648), 2147483647), (2, (-2147483648), 2147483647), (3, (-2147483648), 2147483647), (4, (-2147483648), 2147483647), (5, 0, 120), (6, 0, 399)], [], [], [.inl ((-2), [])], [])] = true := by decide +kernel
theorem ncpg4 {cst : am_K} {strs : List Nat} {Φ : am_Q → Prop} {D : Nat} {M : am_M} {h : am_H} {l : am_L} (c : hp_C cst strs D) (hM : m_P[137]? = some M) (hD : (6 : Int) ≤ (D : Int) + 1) (hy : ly_hy m_tt ly_TH h) (p s y d w u g : Int) (b0 : 0 ≤ p) (t0 : p ≤ 119) (b1 : (-2147483648) ≤ s) (t1 : s ≤ 2147483647) (b2 : (-2147483648) ≤ y) (t2 : y ≤ 2147483647) (b3 : (-2147483648) ≤ d) (t3 : d ≤ 2147483647) (b4 : (-2147483648) ≤ w) (t4 : w ≤ 2147483647) (b5 : 0 ≤ u) (t5 : u ≤ 120) (b6 : 0 ≤ g) (t6 : g ≤ 399) (f0 : 0 ≤ (u - p - 1)) (k0 : ly_hv cst h 1536 0 = some (u)) (k1 : ly_hv cst h 10 0 = some (g)) (l0 : hp_a l 0 16) (l1 : hp_i l 1 (p)) (l2 : hp_i l 2 (p)) (l3 : hp_i l 3 (s)) (l4 : hp_i l 4 (y)) (l5 : hp_i l 5 (d)) (l6 : hp_i l 6 (w)) (r0 : ∀ (h_9' : am_H) (y0 : Int32), y0.toInt = (-2) → ly_hy m_tt ly_TH h_9' → ly_fr cst [] h h_9' → h.length ≤ h_9'.length → Φ (some (.int y0), h_9', 0, 0)) : hp_F cst strs Φ D M 7 l [] h := by
  refine hp_arc c hM ncpg4_k hD [p, s, y, d, w, u, g] rfl hy (hp_Bc (z := p) rfl b0 t0 (hp_Bc (z := s) rfl b1 t1 (hp_Bc (z := y) rfl b2 t2 (hp_Bc (z := d) rfl b3 t3 (hp_Bc (z := w) rfl b4 t4 (hp_Bc (z := u) rfl b5 t5 (hp_Bc (z := g) rfl b6 t6 hp_Bn))))))) (hp_Fc (z := ((-1) + ((-1) * p + (1 * u + 0)))) rfl (by omega) hp_Fn) (hp_Kc (zi := (0 + 0)) (zv := (0 + (1 * u + 0))) k0 rfl rfl (by omega) (by omega) (hp_Kc (zi := (0 + 0)) (zv := (0 + (1 * g + 0))) k1 rfl rfl (by omega) (by omega) hp_Kn)) (hp_La l0 (hp_Li (z := (0 + (1 * p + 0))) l1 rfl (by omega) (hp_Li (z := (0 + (1 * p + 0))) l2 rfl (by omega) (hp_Li (z := (0 + (1 * s + 0))) l3 rfl (by omega) (hp_Li (z := (0 + (1 * y + 0))) l4 rfl (by omega) (hp_Li (z := (0 + (1 * d + 0))) l5 rfl (by omega) (hp_Li (z := (0 + (1 * w + 0))) l6 rfl (by omega) hp_Ln))))))) trivial ?_ ?_
  · intro p hp ys l' st_9' h_9' hys a1_9 a2 a3 gZ gL gS
    cases hp
  · intro p hp ys v_9 h_9' hys a1_9 a2 a3 gZ gS
    rcases List.mem_cons.mp hp with rfl | hp
    · obtain rfl := hp_y0 hys
      cases v_9 with
      | none => cases gS
      | some wz =>
        obtain ⟨y0, t0, s0_9, q0, -⟩ := hp_gSi (z := ((-2) + 0)) gS rfl
        cases s0_9
        exact r0 h_9' y0 (by omega) a1_9 a2 a3
    cases hp
theorem nxpg4_k : hp_chk 336 5 8 [(0, 0, 119), (1, (-2147483648), 2147483647), (2, (-2147483648), 2147483647), (3, (-2147483648), 2147483647), (4, (-2147483648), 2147483647), (5, 0, 120), (6, 0, 399), (7, 0, 1152921504606846976)] [((-1), [(0, (-1)), (5, 1)])] [(0, .inr (.inr (.inl (some 94)))), (1, .inl (0, [(0, 1)])), (2, .inl (0, [(0, 1)])), (3, .inl (0, [(1, 1)])), (4, .inl (0, [(2, 1)])), (5, .inl (0, [(3, 1)])), (6, .inl (0, [(4, 1)]))] [.inr (.inl (0, [(7, 1)])), .inr (.inr (.inl (some 94)))] [(19978, (0, []), (0, [(5, 1)])), (19977, (0, []), (0, [(6, 1)]))] [20017] 6 [] [([], 8, [(0, 0, 119), (1, (-2147483648), 2147483647), (2, (-2147483648), 2147483647), (3, (-2147483648), 2147483647), (4, (-2147483648), 2147483647), (5, 0, 120), (6, 0, 399), (7, 0, 1152921504606846976)], [], [], [.inl ((-2), [])], [])] = true := by decide +kernel
theorem nxpg4 {cst : am_K} {strs : List Nat} {Φ : am_Q → Prop} {D : Nat} {M : am_M} {h : am_H} {l : am_L} (c : hp_C cst strs D) (hM : m_P[336]? = some M) (hD : (6 : Int) ≤ (D : Int) + 1) (hy : ly_hy m_tt ly_TH h) (p s y d w u g vv : Int) (x0 : Int64) (hx0 : x0.toInt = (vv)) (b0 : 0 ≤ p) (t0 : p ≤ 119) (b1 : (-2147483648) ≤ s) (t1 : s ≤ 2147483647) (b2 : (-2147483648) ≤ y) (t2 : y ≤ 2147483647) (b3 : (-2147483648) ≤ d) (t3 : d ≤ 2147483647) (b4 : (-2147483648) ≤ w) (t4 : w ≤ 2147483647) (b5 : 0 ≤ u) (t5 : u ≤ 120) (b6 : 0 ≤ g) (t6 : g ≤ 399) (b7 : 0 ≤ vv) (t7 : vv ≤ 1152921504606846976) (f0 : 0 ≤ (u - p - 1)) (k0 : ly_hv cst h 19978 0 = some (u)) (k1 : ly_hv cst h 19977 0 = some (g)) (l0 : hp_a l 0 94) (l1 : hp_i l 1 (p)) (l2 : hp_i l 2 (p)) (l3 : hp_i l 3 (s)) (l4 : hp_i l 4 (y)) (l5 : hp_i l 5 (d)) (l6 : hp_i l 6 (w)) (r0 : ∀ (h_9' : am_H) (y0 : Int32), y0.toInt = (-2) → ly_hy m_tt ly_TH h_9' → ly_fr cst [20017] h h_9' → h.length ≤ h_9'.length → Φ (some (.int y0), h_9', 0, 0)) : hp_F cst strs Φ D M 5 l [.long x0, .ref 94] h := by
  refine hp_arc c hM nxpg4_k hD [p, s, y, d, w, u, g, vv] rfl hy (hp_Bc (z := p) rfl b0 t0 (hp_Bc (z := s) rfl b1 t1 (hp_Bc (z := y) rfl b2 t2 (hp_Bc (z := d) rfl b3 t3 (hp_Bc (z := w) rfl b4 t4 (hp_Bc (z := u) rfl b5 t5 (hp_Bc (z := g) rfl b6 t6 (hp_Bc (z := vv) rfl b7 t7 hp_Bn)))))))) (hp_Fc (z := ((-1) + ((-1) * p + (1 * u + 0)))) rfl (by omega) hp_Fn) (hp_Kc (zi := (0 + 0)) (zv := (0 + (1 * u + 0))) k0 rfl rfl (by omega) (by omega) (hp_Kc (zi := (0 + 0)) (zv := (0 + (1 * g + 0))) k1 rfl rfl (by omega) (by omega) hp_Kn)) (hp_La l0 (hp_Li (z := (0 + (1 * p + 0))) l1 rfl (by omega) (hp_Li (z := (0 + (1 * p + 0))) l2 rfl (by omega) (hp_Li (z := (0 + (1 * s + 0))) l3 rfl (by omega) (hp_Li (z := (0 + (1 * y + 0))) l4 rfl (by omega) (hp_Li (z := (0 + (1 * d + 0))) l5 rfl (by omega) (hp_Li (z := (0 + (1 * w + 0))) l6 rfl (by omega) hp_Ln))))))) (hp_Sj (z := (0 + (1 * vv + 0))) rfl (by omega) (hp_Sa trivial)) ?_ ?_
  · intro p hp ys l' st_9' h_9' hys a1_9 a2 a3 gZ gL gS
    cases hp
  · intro p hp ys v_9 h_9' hys a1_9 a2 a3 gZ gS
    rcases List.mem_cons.mp hp with rfl | hp
    · obtain rfl := hp_y0 hys
      cases v_9 with
      | none => cases gS
      | some wz =>
        obtain ⟨y0, t0, s0_9, q0, -⟩ := hp_gSi (z := ((-2) + 0)) gS rfl
        cases s0_9
        exact r0 h_9' y0 (by omega) a1_9 a2 a3
    cases hp
theorem ncpg5_k : hp_chk 137 7 8 [(0, 0, 119), (1, 0, 119), (2, (-2147483648), (-1)), (3, (-2147483648), 2147483647), (4, (-2147483648), 2147483647), (5, (-2147483648), 2147483647), (6, 0, 120), (7, 0, 399)] [((-1), [(0, (-1)), (6, 1)]), ((-1), [(1, (-1)), (6, 1)])] [(0, .inr (.inr (.inl (some 16)))), (1, .inl (0, [(0, 1)])), (2, .inl (0, [(1, 1)])), (3, .inl (0, [(2, 1)])), (4, .inl (0, [(3, 1)])), (5, .inl (0, [(4, 1)])), (6, .inl (0, [(5, 1)]))] [] [(1536, (0, []), (0, [(6, 1)])), (10, (0, []), (0, [(7, 1)])), (61000, (0, [(0, 1), (1, (-1))]), (1, []))] [] 6 [] [([], 8, [(0, 0, 119), (1, 0, 119), (2, (-2147483648), (-1)), (3, (-2147483648), 2147483647), (4, (-2147483648), 2147483647), (5, (-2147483648), 2147483647), (6, 0, 120), (7, 0, 399)], [], [], [.inl ((-2), [])], [])] = true := by decide +kernel
theorem ncpg5 {cst : am_K} {strs : List Nat} {Φ : am_Q → Prop} {D : Nat} {M : am_M} {h : am_H} {l : am_L} (c : hp_C cst strs D) (hM : m_P[137]? = some M) (hD : (6 : Int) ≤ (D : Int) + 1) (hy : ly_hy m_tt ly_TH h) (p q s y d w u g : Int) (b0 : 0 ≤ p) (t0 : p ≤ 119) (b1 : 0 ≤ q) (t1 : q ≤ 119) (b2 : (-2147483648) ≤ s) (t2 : s ≤ (-1)) (b3 : (-2147483648) ≤ y) (t3 : y ≤ 2147483647) (b4 : (-2147483648) ≤ d) (t4 : d ≤ 2147483647) (b5 : (-2147483648) ≤ w) (t5 : w ≤ 2147483647) (b6 : 0 ≤ u) (t6 : u ≤ 120) (b7 : 0 ≤ g) (t7 : g ≤ 399) (f0 : 0 ≤ (u - p - 1)) (f1 : 0 ≤ (u - q - 1)) (k0 : ly_hv cst h 1536 0 = some (u)) (k1 : ly_hv cst h 10 0 = some (g)) (k2 : ly_hv cst h 61000 (p - q) = some 1) (l0 : hp_a l 0 16) (l1 : hp_i l 1 (p)) (l2 : hp_i l 2 (q)) (l3 : hp_i l 3 (s)) (l4 : hp_i l 4 (y)) (l5 : hp_i l 5 (d)) (l6 : hp_i l 6 (w)) (r0 : ∀ (h_9' : am_H) (y0 : Int32), y0.toInt = (-2) → ly_hy m_tt ly_TH h_9' → ly_fr cst [] h h_9' → h.length ≤ h_9'.length → Φ (some (.int y0), h_9', 0, 0)) : hp_F cst strs Φ D M 7 l [] h := by
  refine hp_arc c hM ncpg5_k hD [p, q, s, y, d, w, u, g] rfl hy (hp_Bc (z := p) rfl b0 t0 (hp_Bc (z := q) rfl b1 t1 (hp_Bc (z := s) rfl b2 t2 (hp_Bc (z := y) rfl b3 t3 (hp_Bc (z := d) rfl b4 t4 (hp_Bc (z := w) rfl b5 t5 (hp_Bc (z := u) rfl b6 t6 (hp_Bc (z := g) rfl b7 t7 hp_Bn)))))))) (hp_Fc (z := ((-1) + ((-1) * p + (1 * u + 0)))) rfl (by omega) (hp_Fc (z := ((-1) + ((-1) * q + (1 * u + 0)))) rfl (by omega) hp_Fn)) (hp_Kc (zi := (0 + 0)) (zv := (0 + (1 * u + 0))) k0 rfl rfl (by omega) (by omega) (hp_Kc (zi := (0 + 0)) (zv := (0 + (1 * g + 0))) k1 rfl rfl (by omega) (by omega) (hp_Kc (zi := (0 + (1 * p + ((-1) * q + 0)))) (zv := (1 + 0)) k2 rfl rfl (by omega) (by omega) hp_Kn))) (hp_La l0 (hp_Li (z := (0 + (1 * p + 0))) l1 rfl (by omega) (hp_Li (z := (0 + (1 * q + 0))) l2 rfl (by omega) (hp_Li (z := (0 + (1 * s + 0))) l3 rfl (by omega) (hp_Li (z := (0 + (1 * y + 0))) l4 rfl (by omega) (hp_Li (z := (0 + (1 * d + 0))) l5 rfl (by omega) (hp_Li (z := (0 + (1 * w + 0))) l6 rfl (by omega) hp_Ln))))))) trivial ?_ ?_
  · intro p hp ys l' st_9' h_9' hys a1_9 a2 a3 gZ gL gS
    cases hp
  · intro p hp ys v_9 h_9' hys a1_9 a2 a3 gZ gS
    rcases List.mem_cons.mp hp with rfl | hp
    · obtain rfl := hp_y0 hys
      cases v_9 with
      | none => cases gS
      | some wz =>
        obtain ⟨y0, t0, s0_9, q0, -⟩ := hp_gSi (z := ((-2) + 0)) gS rfl
        cases s0_9
        exact r0 h_9' y0 (by omega) a1_9 a2 a3
    cases hp
theorem nxpg5_k : hp_chk 336 5 9 [(0, 0, 119), (1, 0, 119), (2, (-2147483648), (-1)), (3, (-2147483648), 2147483647), (4, (-2147483648), 2147483647), (5, (-2147483648), 2147483647), (6, 0, 120), (7, 0, 399), (8, 0, 1152921504606846976)] [((-1), [(0, (-1)), (6, 1)]), ((-1), [(1, (-1)), (6, 1)])] [(0, .inr (.inr (.inl (some 94)))), (1, .inl (0, [(0, 1)])), (2, .inl (0, [(1, 1)])), (3, .inl (0, [(2, 1)])), (4, .inl (0, [(3, 1)])), (5, .inl (0, [(4, 1)])), (6, .inl (0, [(5, 1)]))] [.inr (.inl (0, [(8, 1)])), .inr (.inr (.inl (some 94)))] [(19978, (0, []), (0, [(6, 1)])), (19977, (0, []), (0, [(7, 1)])), (61000, (0, [(0, 1), (1, (-1))]), (1, []))] [20017] 6 [] [([], 9, [(0, 0, 119), (1, 0, 119), (2, (-2147483648), (-1)), (3, (-2147483648), 2147483647), (4, (-2147483648), 2147483647), (5, (-2147483648), 2147483647), (6, 0, 120), (7, 0, 399), (8, 0, 1152921504606846976)], [], [], [.inl ((-2), [])], [])] = true := by decide +kernel
theorem nxpg5 {cst : am_K} {strs : List Nat} {Φ : am_Q → Prop} {D : Nat} {M : am_M} {h : am_H} {l : am_L} (c : hp_C cst strs D) (hM : m_P[336]? = some M) (hD : (6 : Int) ≤ (D : Int) + 1) (hy : ly_hy m_tt ly_TH h) (p q s y d w u g vv : Int) (x0 : Int64) (hx0 : x0.toInt = (vv)) (b0 : 0 ≤ p) (t0 : p ≤ 119) (b1 : 0 ≤ q) (t1 : q ≤ 119) (b2 : (-2147483648) ≤ s) (t2 : s ≤ (-1)) (b3 : (-2147483648) ≤ y) (t3 : y ≤ 2147483647) (b4 : (-2147483648) ≤ d) (t4 : d ≤ 2147483647) (b5 : (-2147483648) ≤ w) (t5 : w ≤ 2147483647) (b6 : 0 ≤ u) (t6 : u ≤ 120) (b7 : 0 ≤ g) (t7 : g ≤ 399) (b8 : 0 ≤ vv) (t8 : vv ≤ 1152921504606846976) (f0 : 0 ≤ (u - p - 1)) (f1 : 0 ≤ (u - q - 1)) (k0 : ly_hv cst h 19978 0 = some (u)) (k1 : ly_hv cst h 19977 0 = some (g)) (k2 : ly_hv cst h 61000 (p - q) = some 1) (l0 : hp_a l 0 94) (l1 : hp_i l 1 (p)) (l2 : hp_i l 2 (q)) (l3 : hp_i l 3 (s)) (l4 : hp_i l 4 (y)) (l5 : hp_i l 5 (d)) (l6 : hp_i l 6 (w)) (r0 : ∀ (h_9' : am_H) (y0 : Int32), y0.toInt = (-2) → ly_hy m_tt ly_TH h_9' → ly_fr cst [20017] h h_9' → h.length ≤ h_9'.length → Φ (some (.int y0), h_9', 0, 0)) : hp_F cst strs Φ D M 5 l [.long x0, .ref 94] h := by
  refine hp_arc c hM nxpg5_k hD [p, q, s, y, d, w, u, g, vv] rfl hy (hp_Bc (z := p) rfl b0 t0 (hp_Bc (z := q) rfl b1 t1 (hp_Bc (z := s) rfl b2 t2 (hp_Bc (z := y) rfl b3 t3 (hp_Bc (z := d) rfl b4 t4 (hp_Bc (z := w) rfl b5 t5 (hp_Bc (z := u) rfl b6 t6 (hp_Bc (z := g) rfl b7 t7 (hp_Bc (z := vv) rfl b8 t8 hp_Bn))))))))) (hp_Fc (z := ((-1) + ((-1) * p + (1 * u + 0)))) rfl (by omega) (hp_Fc (z := ((-1) + ((-1) * q + (1 * u + 0)))) rfl (by omega) hp_Fn)) (hp_Kc (zi := (0 + 0)) (zv := (0 + (1 * u + 0))) k0 rfl rfl (by omega) (by omega) (hp_Kc (zi := (0 + 0)) (zv := (0 + (1 * g + 0))) k1 rfl rfl (by omega) (by omega) (hp_Kc (zi := (0 + (1 * p + ((-1) * q + 0)))) (zv := (1 + 0)) k2 rfl rfl (by omega) (by omega) hp_Kn))) (hp_La l0 (hp_Li (z := (0 + (1 * p + 0))) l1 rfl (by omega) (hp_Li (z := (0 + (1 * q + 0))) l2 rfl (by omega) (hp_Li (z := (0 + (1 * s + 0))) l3 rfl (by omega) (hp_Li (z := (0 + (1 * y + 0))) l4 rfl (by omega) (hp_Li (z := (0 + (1 * d + 0))) l5 rfl (by omega) (hp_Li (z := (0 + (1 * w + 0))) l6 rfl (by omega) hp_Ln))))))) (hp_Sj (z := (0 + (1 * vv + 0))) rfl (by omega) (hp_Sa trivial)) ?_ ?_
  · intro p hp ys l' st_9' h_9' hys a1_9 a2 a3 gZ gL gS
    cases hp
  · intro p hp ys v_9 h_9' hys a1_9 a2 a3 gZ gS
    rcases List.mem_cons.mp hp with rfl | hp
    · obtain rfl := hp_y0 hys
      cases v_9 with
      | none => cases gS
      | some wz =>
        obtain ⟨y0, t0, s0_9, q0, -⟩ := hp_gSi (z := ((-2) + 0)) gS rfl
        cases s0_9
        exact r0 h_9' y0 (by omega) a1_9 a2 a3
    cases hp
theorem ncpg6_k : hp_chk 137 7 8 [(0, 0, 119), (1, 0, 119), (2, 6, 2147483647), (3, (-2147483648), 2147483647), (4, (-2147483648), 2147483647), (5, (-2147483648), 2147483647), (6, 0, 120), (7, 0, 399)] [((-1), [(0, (-1)), (6, 1)]), ((-1), [(1, (-1)), (6, 1)])] [(0, .inr (.inr (.inl (some 16)))), (1, .inl (0, [(0, 1)])), (2, .inl (0, [(1, 1)])), (3, .inl (0, [(2, 1)])), (4, .inl (0, [(3, 1)])), (5, .inl (0, [(4, 1)])), (6, .inl (0, [(5, 1)]))] [] [(1536, (0, []), (0, [(6, 1)])), (10, (0, []), (0, [(7, 1)])), (61000, (0, [(0, 1), (1, (-1))]), (1, []))] [] 6 [] [([], 8, [(0, 0, 119), (1, 0, 119), (2, 6, 2147483647), (3, (-2147483648), 2147483647), (4, (-2147483648), 2147483647), (5, (-2147483648), 2147483647), (6, 0, 120), (7, 0, 399)], [], [], [.inl ((-2), [])], [])] = true := by decide +kernel
theorem ncpg6 {cst : am_K} {strs : List Nat} {Φ : am_Q → Prop} {D : Nat} {M : am_M} {h : am_H} {l : am_L} (c : hp_C cst strs D) (hM : m_P[137]? = some M) (hD : (6 : Int) ≤ (D : Int) + 1) (hy : ly_hy m_tt ly_TH h) (p q s y d w u g : Int) (b0 : 0 ≤ p) (t0 : p ≤ 119) (b1 : 0 ≤ q) (t1 : q ≤ 119) (b2 : 6 ≤ s) (t2 : s ≤ 2147483647) (b3 : (-2147483648) ≤ y) (t3 : y ≤ 2147483647) (b4 : (-2147483648) ≤ d) (t4 : d ≤ 2147483647) (b5 : (-2147483648) ≤ w) (t5 : w ≤ 2147483647) (b6 : 0 ≤ u) (t6 : u ≤ 120) (b7 : 0 ≤ g) (t7 : g ≤ 399) (f0 : 0 ≤ (u - p - 1)) (f1 : 0 ≤ (u - q - 1)) (k0 : ly_hv cst h 1536 0 = some (u)) (k1 : ly_hv cst h 10 0 = some (g)) (k2 : ly_hv cst h 61000 (p - q) = some 1) (l0 : hp_a l 0 16) (l1 : hp_i l 1 (p)) (l2 : hp_i l 2 (q)) (l3 : hp_i l 3 (s)) (l4 : hp_i l 4 (y)) (l5 : hp_i l 5 (d)) (l6 : hp_i l 6 (w)) (r0 : ∀ (h_9' : am_H) (y0 : Int32), y0.toInt = (-2) → ly_hy m_tt ly_TH h_9' → ly_fr cst [] h h_9' → h.length ≤ h_9'.length → Φ (some (.int y0), h_9', 0, 0)) : hp_F cst strs Φ D M 7 l [] h := by
  refine hp_arc c hM ncpg6_k hD [p, q, s, y, d, w, u, g] rfl hy (hp_Bc (z := p) rfl b0 t0 (hp_Bc (z := q) rfl b1 t1 (hp_Bc (z := s) rfl b2 t2 (hp_Bc (z := y) rfl b3 t3 (hp_Bc (z := d) rfl b4 t4 (hp_Bc (z := w) rfl b5 t5 (hp_Bc (z := u) rfl b6 t6 (hp_Bc (z := g) rfl b7 t7 hp_Bn)))))))) (hp_Fc (z := ((-1) + ((-1) * p + (1 * u + 0)))) rfl (by omega) (hp_Fc (z := ((-1) + ((-1) * q + (1 * u + 0)))) rfl (by omega) hp_Fn)) (hp_Kc (zi := (0 + 0)) (zv := (0 + (1 * u + 0))) k0 rfl rfl (by omega) (by omega) (hp_Kc (zi := (0 + 0)) (zv := (0 + (1 * g + 0))) k1 rfl rfl (by omega) (by omega) (hp_Kc (zi := (0 + (1 * p + ((-1) * q + 0)))) (zv := (1 + 0)) k2 rfl rfl (by omega) (by omega) hp_Kn))) (hp_La l0 (hp_Li (z := (0 + (1 * p + 0))) l1 rfl (by omega) (hp_Li (z := (0 + (1 * q + 0))) l2 rfl (by omega) (hp_Li (z := (0 + (1 * s + 0))) l3 rfl (by omega) (hp_Li (z := (0 + (1 * y + 0))) l4 rfl (by omega) (hp_Li (z := (0 + (1 * d + 0))) l5 rfl (by omega) (hp_Li (z := (0 + (1 * w + 0))) l6 rfl (by omega) hp_Ln))))))) trivial ?_ ?_
  · intro p hp ys l' st_9' h_9' hys a1_9 a2 a3 gZ gL gS
    cases hp
  · intro p hp ys v_9 h_9' hys a1_9 a2 a3 gZ gS
    rcases List.mem_cons.mp hp with rfl | hp
    · obtain rfl := hp_y0 hys
      cases v_9 with
      | none => cases gS
      | some wz =>
        obtain ⟨y0, t0, s0_9, q0, -⟩ := hp_gSi (z := ((-2) + 0)) gS rfl
        cases s0_9
        exact r0 h_9' y0 (by omega) a1_9 a2 a3
    cases hp
theorem nxpg6_k : hp_chk 336 5 9 [(0, 0, 119), (1, 0, 119), (2, 6, 2147483647), (3, (-2147483648), 2147483647), (4, (-2147483648), 2147483647), (5, (-2147483648), 2147483647), (6, 0, 120), (7, 0, 399), (8, 0, 1152921504606846976)] [((-1), [(0, (-1)), (6, 1)]), ((-1), [(1, (-1)), (6, 1)])] [(0, .inr (.inr (.inl (some 94)))), (1, .inl (0, [(0, 1)])), (2, .inl (0, [(1, 1)])), (3, .inl (0, [(2, 1)])), (4, .inl (0, [(3, 1)])), (5, .inl (0, [(4, 1)])), (6, .inl (0, [(5, 1)]))] [.inr (.inl (0, [(8, 1)])), .inr (.inr (.inl (some 94)))] [(19978, (0, []), (0, [(6, 1)])), (19977, (0, []), (0, [(7, 1)])), (61000, (0, [(0, 1), (1, (-1))]), (1, []))] [20017] 6 [] [([], 9, [(0, 0, 119), (1, 0, 119), (2, 6, 2147483647), (3, (-2147483648), 2147483647), (4, (-2147483648), 2147483647), (5, (-2147483648), 2147483647), (6, 0, 120), (7, 0, 399), (8, 0, 1152921504606846976)], [], [], [.inl ((-2), [])], [])] = true := by decide +kernel
theorem nxpg6 {cst : am_K} {strs : List Nat} {Φ : am_Q → Prop} {D : Nat} {M : am_M} {h : am_H} {l : am_L} (c : hp_C cst strs D) (hM : m_P[336]? = some M) (hD : (6 : Int) ≤ (D : Int) + 1) (hy : ly_hy m_tt ly_TH h) (p q s y d w u g vv : Int) (x0 : Int64) (hx0 : x0.toInt = (vv)) (b0 : 0 ≤ p) (t0 : p ≤ 119) (b1 : 0 ≤ q) (t1 : q ≤ 119) (b2 : 6 ≤ s) (t2 : s ≤ 2147483647) (b3 : (-2147483648) ≤ y) (t3 : y ≤ 2147483647) (b4 : (-2147483648) ≤ d) (t4 : d ≤ 2147483647) (b5 : (-2147483648) ≤ w) (t5 : w ≤ 2147483647) (b6 : 0 ≤ u) (t6 : u ≤ 120) (b7 : 0 ≤ g) (t7 : g ≤ 399) (b8 : 0 ≤ vv) (t8 : vv ≤ 1152921504606846976) (f0 : 0 ≤ (u - p - 1)) (f1 : 0 ≤ (u - q - 1)) (k0 : ly_hv cst h 19978 0 = some (u)) (k1 : ly_hv cst h 19977 0 = some (g)) (k2 : ly_hv cst h 61000 (p - q) = some 1) (l0 : hp_a l 0 94) (l1 : hp_i l 1 (p)) (l2 : hp_i l 2 (q)) (l3 : hp_i l 3 (s)) (l4 : hp_i l 4 (y)) (l5 : hp_i l 5 (d)) (l6 : hp_i l 6 (w)) (r0 : ∀ (h_9' : am_H) (y0 : Int32), y0.toInt = (-2) → ly_hy m_tt ly_TH h_9' → ly_fr cst [20017] h h_9' → h.length ≤ h_9'.length → Φ (some (.int y0), h_9', 0, 0)) : hp_F cst strs Φ D M 5 l [.long x0, .ref 94] h := by
  refine hp_arc c hM nxpg6_k hD [p, q, s, y, d, w, u, g, vv] rfl hy (hp_Bc (z := p) rfl b0 t0 (hp_Bc (z := q) rfl b1 t1 (hp_Bc (z := s) rfl b2 t2 (hp_Bc (z := y) rfl b3 t3 (hp_Bc (z := d) rfl b4 t4 (hp_Bc (z := w) rfl b5 t5 (hp_Bc (z := u) rfl b6 t6 (hp_Bc (z := g) rfl b7 t7 (hp_Bc (z := vv) rfl b8 t8 hp_Bn))))))))) (hp_Fc (z := ((-1) + ((-1) * p + (1 * u + 0)))) rfl (by omega) (hp_Fc (z := ((-1) + ((-1) * q + (1 * u + 0)))) rfl (by omega) hp_Fn)) (hp_Kc (zi := (0 + 0)) (zv := (0 + (1 * u + 0))) k0 rfl rfl (by omega) (by omega) (hp_Kc (zi := (0 + 0)) (zv := (0 + (1 * g + 0))) k1 rfl rfl (by omega) (by omega) (hp_Kc (zi := (0 + (1 * p + ((-1) * q + 0)))) (zv := (1 + 0)) k2 rfl rfl (by omega) (by omega) hp_Kn))) (hp_La l0 (hp_Li (z := (0 + (1 * p + 0))) l1 rfl (by omega) (hp_Li (z := (0 + (1 * q + 0))) l2 rfl (by omega) (hp_Li (z := (0 + (1 * s + 0))) l3 rfl (by omega) (hp_Li (z := (0 + (1 * y + 0))) l4 rfl (by omega) (hp_Li (z := (0 + (1 * d + 0))) l5 rfl (by omega) (hp_Li (z := (0 + (1 * w + 0))) l6 rfl (by omega) hp_Ln))))))) (hp_Sj (z := (0 + (1 * vv + 0))) rfl (by omega) (hp_Sa trivial)) ?_ ?_
  · intro p hp ys l' st_9' h_9' hys a1_9 a2 a3 gZ gL gS
    cases hp
  · intro p hp ys v_9 h_9' hys a1_9 a2 a3 gZ gS
    rcases List.mem_cons.mp hp with rfl | hp
    · obtain rfl := hp_y0 hys
      cases v_9 with
      | none => cases gS
      | some wz =>
        obtain ⟨y0, t0, s0_9, q0, -⟩ := hp_gSi (z := ((-2) + 0)) gS rfl
        cases s0_9
        exact r0 h_9' y0 (by omega) a1_9 a2 a3
    cases hp
theorem ncpg7_k : hp_chk 137 7 8 [(0, 0, 119), (1, 0, 119), (2, 0, 5), (3, (-2147483648), (-1)), (4, (-2147483648), 2147483647), (5, (-2147483648), 2147483647), (6, 0, 120), (7, 0, 399)] [((-1), [(0, (-1)), (6, 1)]), ((-1), [(1, (-1)), (6, 1)])] [(0, .inr (.inr (.inl (some 16)))), (1, .inl (0, [(0, 1)])), (2, .inl (0, [(1, 1)])), (3, .inl (0, [(2, 1)])), (4, .inl (0, [(3, 1)])), (5, .inl (0, [(4, 1)])), (6, .inl (0, [(5, 1)]))] [] [(1536, (0, []), (0, [(6, 1)])), (10, (0, []), (0, [(7, 1)])), (61000, (0, [(0, 1), (1, (-1))]), (1, []))] [] 6 [] [([], 8, [(0, 0, 119), (1, 0, 119), (2, 0, 5), (3, (-2147483648), (-1)), (4, (-2147483648), 2147483647), (5, (-2147483648), 2147483647), (6, 0, 120), (7, 0, 399)], [], [], [.inl ((-2), [])], [])] = true := by decide +kernel
theorem ncpg7 {cst : am_K} {strs : List Nat} {Φ : am_Q → Prop} {D : Nat} {M : am_M} {h : am_H} {l : am_L} (c : hp_C cst strs D) (hM : m_P[137]? = some M) (hD : (6 : Int) ≤ (D : Int) + 1) (hy : ly_hy m_tt ly_TH h) (p q s y d w u g : Int) (b0 : 0 ≤ p) (t0 : p ≤ 119) (b1 : 0 ≤ q) (t1 : q ≤ 119) (b2 : 0 ≤ s) (t2 : s ≤ 5) (b3 : (-2147483648) ≤ y) (t3 : y ≤ (-1)) (b4 : (-2147483648) ≤ d) (t4 : d ≤ 2147483647) (b5 : (-2147483648) ≤ w) (t5 : w ≤ 2147483647) (b6 : 0 ≤ u) (t6 : u ≤ 120) (b7 : 0 ≤ g) (t7 : g ≤ 399) (f0 : 0 ≤ (u - p - 1)) (f1 : 0 ≤ (u - q - 1)) (k0 : ly_hv cst h 1536 0 = some (u)) (k1 : ly_hv cst h 10 0 = some (g)) (k2 : ly_hv cst h 61000 (p - q) = some 1) (l0 : hp_a l 0 16) (l1 : hp_i l 1 (p)) (l2 : hp_i l 2 (q)) (l3 : hp_i l 3 (s)) (l4 : hp_i l 4 (y)) (l5 : hp_i l 5 (d)) (l6 : hp_i l 6 (w)) (r0 : ∀ (h_9' : am_H) (y0 : Int32), y0.toInt = (-2) → ly_hy m_tt ly_TH h_9' → ly_fr cst [] h h_9' → h.length ≤ h_9'.length → Φ (some (.int y0), h_9', 0, 0)) : hp_F cst strs Φ D M 7 l [] h := by
  refine hp_arc c hM ncpg7_k hD [p, q, s, y, d, w, u, g] rfl hy (hp_Bc (z := p) rfl b0 t0 (hp_Bc (z := q) rfl b1 t1 (hp_Bc (z := s) rfl b2 t2 (hp_Bc (z := y) rfl b3 t3 (hp_Bc (z := d) rfl b4 t4 (hp_Bc (z := w) rfl b5 t5 (hp_Bc (z := u) rfl b6 t6 (hp_Bc (z := g) rfl b7 t7 hp_Bn)))))))) (hp_Fc (z := ((-1) + ((-1) * p + (1 * u + 0)))) rfl (by omega) (hp_Fc (z := ((-1) + ((-1) * q + (1 * u + 0)))) rfl (by omega) hp_Fn)) (hp_Kc (zi := (0 + 0)) (zv := (0 + (1 * u + 0))) k0 rfl rfl (by omega) (by omega) (hp_Kc (zi := (0 + 0)) (zv := (0 + (1 * g + 0))) k1 rfl rfl (by omega) (by omega) (hp_Kc (zi := (0 + (1 * p + ((-1) * q + 0)))) (zv := (1 + 0)) k2 rfl rfl (by omega) (by omega) hp_Kn))) (hp_La l0 (hp_Li (z := (0 + (1 * p + 0))) l1 rfl (by omega) (hp_Li (z := (0 + (1 * q + 0))) l2 rfl (by omega) (hp_Li (z := (0 + (1 * s + 0))) l3 rfl (by omega) (hp_Li (z := (0 + (1 * y + 0))) l4 rfl (by omega) (hp_Li (z := (0 + (1 * d + 0))) l5 rfl (by omega) (hp_Li (z := (0 + (1 * w + 0))) l6 rfl (by omega) hp_Ln))))))) trivial ?_ ?_
  · intro p hp ys l' st_9' h_9' hys a1_9 a2 a3 gZ gL gS
    cases hp
  · intro p hp ys v_9 h_9' hys a1_9 a2 a3 gZ gS
    rcases List.mem_cons.mp hp with rfl | hp
    · obtain rfl := hp_y0 hys
      cases v_9 with
      | none => cases gS
      | some wz =>
        obtain ⟨y0, t0, s0_9, q0, -⟩ := hp_gSi (z := ((-2) + 0)) gS rfl
        cases s0_9
        exact r0 h_9' y0 (by omega) a1_9 a2 a3
    cases hp
theorem nxpg7_k : hp_chk 336 5 9 [(0, 0, 119), (1, 0, 119), (2, 0, 5), (3, (-2147483648), (-1)), (4, (-2147483648), 2147483647), (5, (-2147483648), 2147483647), (6, 0, 120), (7, 0, 399), (8, 0, 1152921504606846976)] [((-1), [(0, (-1)), (6, 1)]), ((-1), [(1, (-1)), (6, 1)])] [(0, .inr (.inr (.inl (some 94)))), (1, .inl (0, [(0, 1)])), (2, .inl (0, [(1, 1)])), (3, .inl (0, [(2, 1)])), (4, .inl (0, [(3, 1)])), (5, .inl (0, [(4, 1)])), (6, .inl (0, [(5, 1)]))] [.inr (.inl (0, [(8, 1)])), .inr (.inr (.inl (some 94)))] [(19978, (0, []), (0, [(6, 1)])), (19977, (0, []), (0, [(7, 1)])), (61000, (0, [(0, 1), (1, (-1))]), (1, []))] [20017] 6 [] [([], 9, [(0, 0, 119), (1, 0, 119), (2, 0, 5), (3, (-2147483648), (-1)), (4, (-2147483648), 2147483647), (5, (-2147483648), 2147483647), (6, 0, 120), (7, 0, 399), (8, 0, 1152921504606846976)], [], [], [.inl ((-2), [])], [])] = true := by decide +kernel
theorem nxpg7 {cst : am_K} {strs : List Nat} {Φ : am_Q → Prop} {D : Nat} {M : am_M} {h : am_H} {l : am_L} (c : hp_C cst strs D) (hM : m_P[336]? = some M) (hD : (6 : Int) ≤ (D : Int) + 1) (hy : ly_hy m_tt ly_TH h) (p q s y d w u g vv : Int) (x0 : Int64) (hx0 : x0.toInt = (vv)) (b0 : 0 ≤ p) (t0 : p ≤ 119) (b1 : 0 ≤ q) (t1 : q ≤ 119) (b2 : 0 ≤ s) (t2 : s ≤ 5) (b3 : (-2147483648) ≤ y) (t3 : y ≤ (-1)) (b4 : (-2147483648) ≤ d) (t4 : d ≤ 2147483647) (b5 : (-2147483648) ≤ w) (t5 : w ≤ 2147483647) (b6 : 0 ≤ u) (t6 : u ≤ 120) (b7 : 0 ≤ g) (t7 : g ≤ 399) (b8 : 0 ≤ vv) (t8 : vv ≤ 1152921504606846976) (f0 : 0 ≤ (u - p - 1)) (f1 : 0 ≤ (u - q - 1)) (k0 : ly_hv cst h 19978 0 = some (u)) (k1 : ly_hv cst h 19977 0 = some (g)) (k2 : ly_hv cst h 61000 (p - q) = some 1) (l0 : hp_a l 0 94) (l1 : hp_i l 1 (p)) (l2 : hp_i l 2 (q)) (l3 : hp_i l 3 (s)) (l4 : hp_i l 4 (y)) (l5 : hp_i l 5 (d)) (l6 : hp_i l 6 (w)) (r0 : ∀ (h_9' : am_H) (y0 : Int32), y0.toInt = (-2) → ly_hy m_tt ly_TH h_9' → ly_fr cst [20017] h h_9' → h.length ≤ h_9'.length → Φ (some (.int y0), h_9', 0, 0)) : hp_F cst strs Φ D M 5 l [.long x0, .ref 94] h := by
  refine hp_arc c hM nxpg7_k hD [p, q, s, y, d, w, u, g, vv] rfl hy (hp_Bc (z := p) rfl b0 t0 (hp_Bc (z := q) rfl b1 t1 (hp_Bc (z := s) rfl b2 t2 (hp_Bc (z := y) rfl b3 t3 (hp_Bc (z := d) rfl b4 t4 (hp_Bc (z := w) rfl b5 t5 (hp_Bc (z := u) rfl b6 t6 (hp_Bc (z := g) rfl b7 t7 (hp_Bc (z := vv) rfl b8 t8 hp_Bn))))))))) (hp_Fc (z := ((-1) + ((-1) * p + (1 * u + 0)))) rfl (by omega) (hp_Fc (z := ((-1) + ((-1) * q + (1 * u + 0)))) rfl (by omega) hp_Fn)) (hp_Kc (zi := (0 + 0)) (zv := (0 + (1 * u + 0))) k0 rfl rfl (by omega) (by omega) (hp_Kc (zi := (0 + 0)) (zv := (0 + (1 * g + 0))) k1 rfl rfl (by omega) (by omega) (hp_Kc (zi := (0 + (1 * p + ((-1) * q + 0)))) (zv := (1 + 0)) k2 rfl rfl (by omega) (by omega) hp_Kn))) (hp_La l0 (hp_Li (z := (0 + (1 * p + 0))) l1 rfl (by omega) (hp_Li (z := (0 + (1 * q + 0))) l2 rfl (by omega) (hp_Li (z := (0 + (1 * s + 0))) l3 rfl (by omega) (hp_Li (z := (0 + (1 * y + 0))) l4 rfl (by omega) (hp_Li (z := (0 + (1 * d + 0))) l5 rfl (by omega) (hp_Li (z := (0 + (1 * w + 0))) l6 rfl (by omega) hp_Ln))))))) (hp_Sj (z := (0 + (1 * vv + 0))) rfl (by omega) (hp_Sa trivial)) ?_ ?_
  · intro p hp ys l' st_9' h_9' hys a1_9 a2 a3 gZ gL gS
    cases hp
  · intro p hp ys v_9 h_9' hys a1_9 a2 a3 gZ gS
    rcases List.mem_cons.mp hp with rfl | hp
    · obtain rfl := hp_y0 hys
      cases v_9 with
      | none => cases gS
      | some wz =>
        obtain ⟨y0, t0, s0_9, q0, -⟩ := hp_gSi (z := ((-2) + 0)) gS rfl
        cases s0_9
        exact r0 h_9' y0 (by omega) a1_9 a2 a3
    cases hp
theorem ncpg8_k : hp_chk 137 7 8 [(0, 0, 119), (1, 0, 119), (2, 0, 5), (3, 10, 2147483647), (4, (-2147483648), 2147483647), (5, (-2147483648), 2147483647), (6, 0, 120), (7, 0, 399)] [((-1), [(0, (-1)), (6, 1)]), ((-1), [(1, (-1)), (6, 1)])] [(0, .inr (.inr (.inl (some 16)))), (1, .inl (0, [(0, 1)])), (2, .inl (0, [(1, 1)])), (3, .inl (0, [(2, 1)])), (4, .inl (0, [(3, 1)])), (5, .inl (0, [(4, 1)])), (6, .inl (0, [(5, 1)]))] [] [(1536, (0, []), (0, [(6, 1)])), (10, (0, []), (0, [(7, 1)])), (61000, (0, [(0, 1), (1, (-1))]), (1, []))] [] 6 [] [([], 8, [(0, 0, 119), (1, 0, 119), (2, 0, 5), (3, 10, 2147483647), (4, (-2147483648), 2147483647), (5, (-2147483648), 2147483647), (6, 0, 120), (7, 0, 399)], [], [], [.inl ((-2), [])], [])] = true := by decide +kernel
theorem ncpg8 {cst : am_K} {strs : List Nat} {Φ : am_Q → Prop} {D : Nat} {M : am_M} {h : am_H} {l : am_L} (c : hp_C cst strs D) (hM : m_P[137]? = some M) (hD : (6 : Int) ≤ (D : Int) + 1) (hy : ly_hy m_tt ly_TH h) (p q s y d w u g : Int) (b0 : 0 ≤ p) (t0 : p ≤ 119) (b1 : 0 ≤ q) (t1 : q ≤ 119) (b2 : 0 ≤ s) (t2 : s ≤ 5) (b3 : 10 ≤ y) (t3 : y ≤ 2147483647) (b4 : (-2147483648) ≤ d) (t4 : d ≤ 2147483647) (b5 : (-2147483648) ≤ w) (t5 : w ≤ 2147483647) (b6 : 0 ≤ u) (t6 : u ≤ 120) (b7 : 0 ≤ g) (t7 : g ≤ 399) (f0 : 0 ≤ (u - p - 1)) (f1 : 0 ≤ (u - q - 1)) (k0 : ly_hv cst h 1536 0 = some (u)) (k1 : ly_hv cst h 10 0 = some (g)) (k2 : ly_hv cst h 61000 (p - q) = some 1) (l0 : hp_a l 0 16) (l1 : hp_i l 1 (p)) (l2 : hp_i l 2 (q)) (l3 : hp_i l 3 (s)) (l4 : hp_i l 4 (y)) (l5 : hp_i l 5 (d)) (l6 : hp_i l 6 (w)) (r0 : ∀ (h_9' : am_H) (y0 : Int32), y0.toInt = (-2) → ly_hy m_tt ly_TH h_9' → ly_fr cst [] h h_9' → h.length ≤ h_9'.length → Φ (some (.int y0), h_9', 0, 0)) : hp_F cst strs Φ D M 7 l [] h := by
  refine hp_arc c hM ncpg8_k hD [p, q, s, y, d, w, u, g] rfl hy (hp_Bc (z := p) rfl b0 t0 (hp_Bc (z := q) rfl b1 t1 (hp_Bc (z := s) rfl b2 t2 (hp_Bc (z := y) rfl b3 t3 (hp_Bc (z := d) rfl b4 t4 (hp_Bc (z := w) rfl b5 t5 (hp_Bc (z := u) rfl b6 t6 (hp_Bc (z := g) rfl b7 t7 hp_Bn)))))))) (hp_Fc (z := ((-1) + ((-1) * p + (1 * u + 0)))) rfl (by omega) (hp_Fc (z := ((-1) + ((-1) * q + (1 * u + 0)))) rfl (by omega) hp_Fn)) (hp_Kc (zi := (0 + 0)) (zv := (0 + (1 * u + 0))) k0 rfl rfl (by omega) (by omega) (hp_Kc (zi := (0 + 0)) (zv := (0 + (1 * g + 0))) k1 rfl rfl (by omega) (by omega) (hp_Kc (zi := (0 + (1 * p + ((-1) * q + 0)))) (zv := (1 + 0)) k2 rfl rfl (by omega) (by omega) hp_Kn))) (hp_La l0 (hp_Li (z := (0 + (1 * p + 0))) l1 rfl (by omega) (hp_Li (z := (0 + (1 * q + 0))) l2 rfl (by omega) (hp_Li (z := (0 + (1 * s + 0))) l3 rfl (by omega) (hp_Li (z := (0 + (1 * y + 0))) l4 rfl (by omega) (hp_Li (z := (0 + (1 * d + 0))) l5 rfl (by omega) (hp_Li (z := (0 + (1 * w + 0))) l6 rfl (by omega) hp_Ln))))))) trivial ?_ ?_
  · intro p hp ys l' st_9' h_9' hys a1_9 a2 a3 gZ gL gS
    cases hp
  · intro p hp ys v_9 h_9' hys a1_9 a2 a3 gZ gS
    rcases List.mem_cons.mp hp with rfl | hp
    · obtain rfl := hp_y0 hys
      cases v_9 with
      | none => cases gS
      | some wz =>
        obtain ⟨y0, t0, s0_9, q0, -⟩ := hp_gSi (z := ((-2) + 0)) gS rfl
        cases s0_9
        exact r0 h_9' y0 (by omega) a1_9 a2 a3
    cases hp
theorem nxpg8_k : hp_chk 336 5 9 [(0, 0, 119), (1, 0, 119), (2, 0, 5), (3, 10, 2147483647), (4, (-2147483648), 2147483647), (5, (-2147483648), 2147483647), (6, 0, 120), (7, 0, 399), (8, 0, 1152921504606846976)] [((-1), [(0, (-1)), (6, 1)]), ((-1), [(1, (-1)), (6, 1)])] [(0, .inr (.inr (.inl (some 94)))), (1, .inl (0, [(0, 1)])), (2, .inl (0, [(1, 1)])), (3, .inl (0, [(2, 1)])), (4, .inl (0, [(3, 1)])), (5, .inl (0, [(4, 1)])), (6, .inl (0, [(5, 1)]))] [.inr (.inl (0, [(8, 1)])), .inr (.inr (.inl (some 94)))] [(19978, (0, []), (0, [(6, 1)])), (19977, (0, []), (0, [(7, 1)])), (61000, (0, [(0, 1), (1, (-1))]), (1, []))] [20017] 6 [] [([], 9, [(0, 0, 119), (1, 0, 119), (2, 0, 5), (3, 10, 2147483647), (4, (-2147483648), 2147483647), (5, (-2147483648), 2147483647), (6, 0, 120), (7, 0, 399), (8, 0, 1152921504606846976)], [], [], [.inl ((-2), [])], [])] = true := by decide +kernel
theorem nxpg8 {cst : am_K} {strs : List Nat} {Φ : am_Q → Prop} {D : Nat} {M : am_M} {h : am_H} {l : am_L} (c : hp_C cst strs D) (hM : m_P[336]? = some M) (hD : (6 : Int) ≤ (D : Int) + 1) (hy : ly_hy m_tt ly_TH h) (p q s y d w u g vv : Int) (x0 : Int64) (hx0 : x0.toInt = (vv)) (b0 : 0 ≤ p) (t0 : p ≤ 119) (b1 : 0 ≤ q) (t1 : q ≤ 119) (b2 : 0 ≤ s) (t2 : s ≤ 5) (b3 : 10 ≤ y) (t3 : y ≤ 2147483647) (b4 : (-2147483648) ≤ d) (t4 : d ≤ 2147483647) (b5 : (-2147483648) ≤ w) (t5 : w ≤ 2147483647) (b6 : 0 ≤ u) (t6 : u ≤ 120) (b7 : 0 ≤ g) (t7 : g ≤ 399) (b8 : 0 ≤ vv) (t8 : vv ≤ 1152921504606846976) (f0 : 0 ≤ (u - p - 1)) (f1 : 0 ≤ (u - q - 1)) (k0 : ly_hv cst h 19978 0 = some (u)) (k1 : ly_hv cst h 19977 0 = some (g)) (k2 : ly_hv cst h 61000 (p - q) = some 1) (l0 : hp_a l 0 94) (l1 : hp_i l 1 (p)) (l2 : hp_i l 2 (q)) (l3 : hp_i l 3 (s)) (l4 : hp_i l 4 (y)) (l5 : hp_i l 5 (d)) (l6 : hp_i l 6 (w)) (r0 : ∀ (h_9' : am_H) (y0 : Int32), y0.toInt = (-2) → ly_hy m_tt ly_TH h_9' → ly_fr cst [20017] h h_9' → h.length ≤ h_9'.length → Φ (some (.int y0), h_9', 0, 0)) : hp_F cst strs Φ D M 5 l [.long x0, .ref 94] h := by
  refine hp_arc c hM nxpg8_k hD [p, q, s, y, d, w, u, g, vv] rfl hy (hp_Bc (z := p) rfl b0 t0 (hp_Bc (z := q) rfl b1 t1 (hp_Bc (z := s) rfl b2 t2 (hp_Bc (z := y) rfl b3 t3 (hp_Bc (z := d) rfl b4 t4 (hp_Bc (z := w) rfl b5 t5 (hp_Bc (z := u) rfl b6 t6 (hp_Bc (z := g) rfl b7 t7 (hp_Bc (z := vv) rfl b8 t8 hp_Bn))))))))) (hp_Fc (z := ((-1) + ((-1) * p + (1 * u + 0)))) rfl (by omega) (hp_Fc (z := ((-1) + ((-1) * q + (1 * u + 0)))) rfl (by omega) hp_Fn)) (hp_Kc (zi := (0 + 0)) (zv := (0 + (1 * u + 0))) k0 rfl rfl (by omega) (by omega) (hp_Kc (zi := (0 + 0)) (zv := (0 + (1 * g + 0))) k1 rfl rfl (by omega) (by omega) (hp_Kc (zi := (0 + (1 * p + ((-1) * q + 0)))) (zv := (1 + 0)) k2 rfl rfl (by omega) (by omega) hp_Kn))) (hp_La l0 (hp_Li (z := (0 + (1 * p + 0))) l1 rfl (by omega) (hp_Li (z := (0 + (1 * q + 0))) l2 rfl (by omega) (hp_Li (z := (0 + (1 * s + 0))) l3 rfl (by omega) (hp_Li (z := (0 + (1 * y + 0))) l4 rfl (by omega) (hp_Li (z := (0 + (1 * d + 0))) l5 rfl (by omega) (hp_Li (z := (0 + (1 * w + 0))) l6 rfl (by omega) hp_Ln))))))) (hp_Sj (z := (0 + (1 * vv + 0))) rfl (by omega) (hp_Sa trivial)) ?_ ?_
  · intro p hp ys l' st_9' h_9' hys a1_9 a2 a3 gZ gL gS
    cases hp
  · intro p hp ys v_9 h_9' hys a1_9 a2 a3 gZ gS
    rcases List.mem_cons.mp hp with rfl | hp
    · obtain rfl := hp_y0 hys
      cases v_9 with
      | none => cases gS
      | some wz =>
        obtain ⟨y0, t0, s0_9, q0, -⟩ := hp_gSi (z := ((-2) + 0)) gS rfl
        cases s0_9
        exact r0 h_9' y0 (by omega) a1_9 a2 a3
    cases hp
theorem ncpg9_k : hp_chk 137 7 8 [(0, 0, 119), (1, 0, 119), (2, 0, 5), (3, 0, 9), (4, (-2147483648), (-1)), (5, (-2147483648), 2147483647), (6, 0, 120), (7, 0, 399)] [((-1), [(0, (-1)), (6, 1)]), ((-1), [(1, (-1)), (6, 1)])] [(0, .inr (.inr (.inl (some 16)))), (1, .inl (0, [(0, 1)])), (2, .inl (0, [(1, 1)])), (3, .inl (0, [(2, 1)])), (4, .inl (0, [(3, 1)])), (5, .inl (0, [(4, 1)])), (6, .inl (0, [(5, 1)]))] [] [(1536, (0, []), (0, [(6, 1)])), (10, (0, []), (0, [(7, 1)])), (61000, (0, [(0, 1), (1, (-1))]), (1, []))] [] 6 [] [([], 8, [(0, 0, 119), (1, 0, 119), (2, 0, 5), (3, 0, 9), (4, (-2147483648), (-1)), (5, (-2147483648), 2147483647), (6, 0, 120), (7, 0, 399)], [], [], [.inl ((-2), [])], [])] = true := by decide +kernel
theorem ncpg9 {cst : am_K} {strs : List Nat} {Φ : am_Q → Prop} {D : Nat} {M : am_M} {h : am_H} {l : am_L} (c : hp_C cst strs D) (hM : m_P[137]? = some M) (hD : (6 : Int) ≤ (D : Int) + 1) (hy : ly_hy m_tt ly_TH h) (p q s y d w u g : Int) (b0 : 0 ≤ p) (t0 : p ≤ 119) (b1 : 0 ≤ q) (t1 : q ≤ 119) (b2 : 0 ≤ s) (t2 : s ≤ 5) (b3 : 0 ≤ y) (t3 : y ≤ 9) (b4 : (-2147483648) ≤ d) (t4 : d ≤ (-1)) (b5 : (-2147483648) ≤ w) (t5 : w ≤ 2147483647) (b6 : 0 ≤ u) (t6 : u ≤ 120) (b7 : 0 ≤ g) (t7 : g ≤ 399) (f0 : 0 ≤ (u - p - 1)) (f1 : 0 ≤ (u - q - 1)) (k0 : ly_hv cst h 1536 0 = some (u)) (k1 : ly_hv cst h 10 0 = some (g)) (k2 : ly_hv cst h 61000 (p - q) = some 1) (l0 : hp_a l 0 16) (l1 : hp_i l 1 (p)) (l2 : hp_i l 2 (q)) (l3 : hp_i l 3 (s)) (l4 : hp_i l 4 (y)) (l5 : hp_i l 5 (d)) (l6 : hp_i l 6 (w)) (r0 : ∀ (h_9' : am_H) (y0 : Int32), y0.toInt = (-2) → ly_hy m_tt ly_TH h_9' → ly_fr cst [] h h_9' → h.length ≤ h_9'.length → Φ (some (.int y0), h_9', 0, 0)) : hp_F cst strs Φ D M 7 l [] h := by
  refine hp_arc c hM ncpg9_k hD [p, q, s, y, d, w, u, g] rfl hy (hp_Bc (z := p) rfl b0 t0 (hp_Bc (z := q) rfl b1 t1 (hp_Bc (z := s) rfl b2 t2 (hp_Bc (z := y) rfl b3 t3 (hp_Bc (z := d) rfl b4 t4 (hp_Bc (z := w) rfl b5 t5 (hp_Bc (z := u) rfl b6 t6 (hp_Bc (z := g) rfl b7 t7 hp_Bn)))))))) (hp_Fc (z := ((-1) + ((-1) * p + (1 * u + 0)))) rfl (by omega) (hp_Fc (z := ((-1) + ((-1) * q + (1 * u + 0)))) rfl (by omega) hp_Fn)) (hp_Kc (zi := (0 + 0)) (zv := (0 + (1 * u + 0))) k0 rfl rfl (by omega) (by omega) (hp_Kc (zi := (0 + 0)) (zv := (0 + (1 * g + 0))) k1 rfl rfl (by omega) (by omega) (hp_Kc (zi := (0 + (1 * p + ((-1) * q + 0)))) (zv := (1 + 0)) k2 rfl rfl (by omega) (by omega) hp_Kn))) (hp_La l0 (hp_Li (z := (0 + (1 * p + 0))) l1 rfl (by omega) (hp_Li (z := (0 + (1 * q + 0))) l2 rfl (by omega) (hp_Li (z := (0 + (1 * s + 0))) l3 rfl (by omega) (hp_Li (z := (0 + (1 * y + 0))) l4 rfl (by omega) (hp_Li (z := (0 + (1 * d + 0))) l5 rfl (by omega) (hp_Li (z := (0 + (1 * w + 0))) l6 rfl (by omega) hp_Ln))))))) trivial ?_ ?_
  · intro p hp ys l' st_9' h_9' hys a1_9 a2 a3 gZ gL gS
    cases hp
  · intro p hp ys v_9 h_9' hys a1_9 a2 a3 gZ gS
    rcases List.mem_cons.mp hp with rfl | hp
    · obtain rfl := hp_y0 hys
      cases v_9 with
      | none => cases gS
      | some wz =>
        obtain ⟨y0, t0, s0_9, q0, -⟩ := hp_gSi (z := ((-2) + 0)) gS rfl
        cases s0_9
        exact r0 h_9' y0 (by omega) a1_9 a2 a3
    cases hp
theorem nxpg9_k : hp_chk 336 5 9 [(0, 0, 119), (1, 0, 119), (2, 0, 5), (3, 0, 9), (4, (-2147483648), (-1)), (5, (-2147483648), 2147483647), (6, 0, 120), (7, 0, 399), (8, 0, 1152921504606846976)] [((-1), [(0, (-1)), (6, 1)]), ((-1), [(1, (-1)), (6, 1)])] [(0, .inr (.inr (.inl (some 94)))), (1, .inl (0, [(0, 1)])), (2, .inl (0, [(1, 1)])), (3, .inl (0, [(2, 1)])), (4, .inl (0, [(3, 1)])), (5, .inl (0, [(4, 1)])), (6, .inl (0, [(5, 1)]))] [.inr (.inl (0, [(8, 1)])), .inr (.inr (.inl (some 94)))] [(19978, (0, []), (0, [(6, 1)])), (19977, (0, []), (0, [(7, 1)])), (61000, (0, [(0, 1), (1, (-1))]), (1, []))] [20017] 6 [] [([], 9, [(0, 0, 119), (1, 0, 119), (2, 0, 5), (3, 0, 9), (4, (-2147483648), (-1)), (5, (-2147483648), 2147483647), (6, 0, 120), (7, 0, 399), (8, 0, 1152921504606846976)], [], [], [.inl ((-2), [])], [])] = true := by decide +kernel
theorem nxpg9 {cst : am_K} {strs : List Nat} {Φ : am_Q → Prop} {D : Nat} {M : am_M} {h : am_H} {l : am_L} (c : hp_C cst strs D) (hM : m_P[336]? = some M) (hD : (6 : Int) ≤ (D : Int) + 1) (hy : ly_hy m_tt ly_TH h) (p q s y d w u g vv : Int) (x0 : Int64) (hx0 : x0.toInt = (vv)) (b0 : 0 ≤ p) (t0 : p ≤ 119) (b1 : 0 ≤ q) (t1 : q ≤ 119) (b2 : 0 ≤ s) (t2 : s ≤ 5) (b3 : 0 ≤ y) (t3 : y ≤ 9) (b4 : (-2147483648) ≤ d) (t4 : d ≤ (-1)) (b5 : (-2147483648) ≤ w) (t5 : w ≤ 2147483647) (b6 : 0 ≤ u) (t6 : u ≤ 120) (b7 : 0 ≤ g) (t7 : g ≤ 399) (b8 : 0 ≤ vv) (t8 : vv ≤ 1152921504606846976) (f0 : 0 ≤ (u - p - 1)) (f1 : 0 ≤ (u - q - 1)) (k0 : ly_hv cst h 19978 0 = some (u)) (k1 : ly_hv cst h 19977 0 = some (g)) (k2 : ly_hv cst h 61000 (p - q) = some 1) (l0 : hp_a l 0 94) (l1 : hp_i l 1 (p)) (l2 : hp_i l 2 (q)) (l3 : hp_i l 3 (s)) (l4 : hp_i l 4 (y)) (l5 : hp_i l 5 (d)) (l6 : hp_i l 6 (w)) (r0 : ∀ (h_9' : am_H) (y0 : Int32), y0.toInt = (-2) → ly_hy m_tt ly_TH h_9' → ly_fr cst [20017] h h_9' → h.length ≤ h_9'.length → Φ (some (.int y0), h_9', 0, 0)) : hp_F cst strs Φ D M 5 l [.long x0, .ref 94] h := by
  refine hp_arc c hM nxpg9_k hD [p, q, s, y, d, w, u, g, vv] rfl hy (hp_Bc (z := p) rfl b0 t0 (hp_Bc (z := q) rfl b1 t1 (hp_Bc (z := s) rfl b2 t2 (hp_Bc (z := y) rfl b3 t3 (hp_Bc (z := d) rfl b4 t4 (hp_Bc (z := w) rfl b5 t5 (hp_Bc (z := u) rfl b6 t6 (hp_Bc (z := g) rfl b7 t7 (hp_Bc (z := vv) rfl b8 t8 hp_Bn))))))))) (hp_Fc (z := ((-1) + ((-1) * p + (1 * u + 0)))) rfl (by omega) (hp_Fc (z := ((-1) + ((-1) * q + (1 * u + 0)))) rfl (by omega) hp_Fn)) (hp_Kc (zi := (0 + 0)) (zv := (0 + (1 * u + 0))) k0 rfl rfl (by omega) (by omega) (hp_Kc (zi := (0 + 0)) (zv := (0 + (1 * g + 0))) k1 rfl rfl (by omega) (by omega) (hp_Kc (zi := (0 + (1 * p + ((-1) * q + 0)))) (zv := (1 + 0)) k2 rfl rfl (by omega) (by omega) hp_Kn))) (hp_La l0 (hp_Li (z := (0 + (1 * p + 0))) l1 rfl (by omega) (hp_Li (z := (0 + (1 * q + 0))) l2 rfl (by omega) (hp_Li (z := (0 + (1 * s + 0))) l3 rfl (by omega) (hp_Li (z := (0 + (1 * y + 0))) l4 rfl (by omega) (hp_Li (z := (0 + (1 * d + 0))) l5 rfl (by omega) (hp_Li (z := (0 + (1 * w + 0))) l6 rfl (by omega) hp_Ln))))))) (hp_Sj (z := (0 + (1 * vv + 0))) rfl (by omega) (hp_Sa trivial)) ?_ ?_
  · intro p hp ys l' st_9' h_9' hys a1_9 a2 a3 gZ gL gS
    cases hp
  · intro p hp ys v_9 h_9' hys a1_9 a2 a3 gZ gS
    rcases List.mem_cons.mp hp with rfl | hp
    · obtain rfl := hp_y0 hys
      cases v_9 with
      | none => cases gS
      | some wz =>
        obtain ⟨y0, t0, s0_9, q0, -⟩ := hp_gSi (z := ((-2) + 0)) gS rfl
        cases s0_9
        exact r0 h_9' y0 (by omega) a1_9 a2 a3
    cases hp
theorem ncpg10_k : hp_chk 137 7 8 [(0, 0, 119), (1, 0, 119), (2, 0, 5), (3, 0, 9), (4, 0, 2147483647), (5, (-2147483648), 2147483647), (6, 0, 120), (7, 0, 399)] [((-1), [(0, (-1)), (6, 1)]), ((-1), [(1, (-1)), (6, 1)]), ((-1), [(4, 1), (7, (-1))])] [(0, .inr (.inr (.inl (some 16)))), (1, .inl (0, [(0, 1)])), (2, .inl (0, [(1, 1)])), (3, .inl (0, [(2, 1)])), (4, .inl (0, [(3, 1)])), (5, .inl (0, [(4, 1)])), (6, .inl (0, [(5, 1)]))] [] [(1536, (0, []), (0, [(6, 1)])), (10, (0, []), (0, [(7, 1)])), (61000, (0, [(0, 1), (1, (-1))]), (1, []))] [] 6 [] [([], 8, [(0, 0, 119), (1, 0, 119), (2, 0, 5), (3, 0, 9), (4, 0, 2147483647), (5, (-2147483648), 2147483647), (6, 0, 120), (7, 0, 399)], [], [], [.inl ((-2), [])], [])] = true := by decide +kernel
theorem ncpg10 {cst : am_K} {strs : List Nat} {Φ : am_Q → Prop} {D : Nat} {M : am_M} {h : am_H} {l : am_L} (c : hp_C cst strs D) (hM : m_P[137]? = some M) (hD : (6 : Int) ≤ (D : Int) + 1) (hy : ly_hy m_tt ly_TH h) (p q s y d w u g : Int) (b0 : 0 ≤ p) (t0 : p ≤ 119) (b1 : 0 ≤ q) (t1 : q ≤ 119) (b2 : 0 ≤ s) (t2 : s ≤ 5) (b3 : 0 ≤ y) (t3 : y ≤ 9) (b4 : 0 ≤ d) (t4 : d ≤ 2147483647) (b5 : (-2147483648) ≤ w) (t5 : w ≤ 2147483647) (b6 : 0 ≤ u) (t6 : u ≤ 120) (b7 : 0 ≤ g) (t7 : g ≤ 399) (f0 : 0 ≤ (u - p - 1)) (f1 : 0 ≤ (u - q - 1)) (f2 : 0 ≤ (d - g - 1)) (k0 : ly_hv cst h 1536 0 = some (u)) (k1 : ly_hv cst h 10 0 = some (g)) (k2 : ly_hv cst h 61000 (p - q) = some 1) (l0 : hp_a l 0 16) (l1 : hp_i l 1 (p)) (l2 : hp_i l 2 (q)) (l3 : hp_i l 3 (s)) (l4 : hp_i l 4 (y)) (l5 : hp_i l 5 (d)) (l6 : hp_i l 6 (w)) (r0 : ∀ (h_9' : am_H) (y0 : Int32), y0.toInt = (-2) → ly_hy m_tt ly_TH h_9' → ly_fr cst [] h h_9' → h.length ≤ h_9'.length → Φ (some (.int y0), h_9', 0, 0)) : hp_F cst strs Φ D M 7 l [] h := by
  refine hp_arc c hM ncpg10_k hD [p, q, s, y, d, w, u, g] rfl hy (hp_Bc (z := p) rfl b0 t0 (hp_Bc (z := q) rfl b1 t1 (hp_Bc (z := s) rfl b2 t2 (hp_Bc (z := y) rfl b3 t3 (hp_Bc (z := d) rfl b4 t4 (hp_Bc (z := w) rfl b5 t5 (hp_Bc (z := u) rfl b6 t6 (hp_Bc (z := g) rfl b7 t7 hp_Bn)))))))) (hp_Fc (z := ((-1) + ((-1) * p + (1 * u + 0)))) rfl (by omega) (hp_Fc (z := ((-1) + ((-1) * q + (1 * u + 0)))) rfl (by omega) (hp_Fc (z := ((-1) + (1 * d + ((-1) * g + 0)))) rfl (by omega) hp_Fn))) (hp_Kc (zi := (0 + 0)) (zv := (0 + (1 * u + 0))) k0 rfl rfl (by omega) (by omega) (hp_Kc (zi := (0 + 0)) (zv := (0 + (1 * g + 0))) k1 rfl rfl (by omega) (by omega) (hp_Kc (zi := (0 + (1 * p + ((-1) * q + 0)))) (zv := (1 + 0)) k2 rfl rfl (by omega) (by omega) hp_Kn))) (hp_La l0 (hp_Li (z := (0 + (1 * p + 0))) l1 rfl (by omega) (hp_Li (z := (0 + (1 * q + 0))) l2 rfl (by omega) (hp_Li (z := (0 + (1 * s + 0))) l3 rfl (by omega) (hp_Li (z := (0 + (1 * y + 0))) l4 rfl (by omega) (hp_Li (z := (0 + (1 * d + 0))) l5 rfl (by omega) (hp_Li (z := (0 + (1 * w + 0))) l6 rfl (by omega) hp_Ln))))))) trivial ?_ ?_
  · intro p hp ys l' st_9' h_9' hys a1_9 a2 a3 gZ gL gS
    cases hp
  · intro p hp ys v_9 h_9' hys a1_9 a2 a3 gZ gS
    rcases List.mem_cons.mp hp with rfl | hp
    · obtain rfl := hp_y0 hys
      cases v_9 with
      | none => cases gS
      | some wz =>
        obtain ⟨y0, t0, s0_9, q0, -⟩ := hp_gSi (z := ((-2) + 0)) gS rfl
        cases s0_9
        exact r0 h_9' y0 (by omega) a1_9 a2 a3
    cases hp
theorem nxpg10_k : hp_chk 336 5 9 [(0, 0, 119), (1, 0, 119), (2, 0, 5), (3, 0, 9), (4, 0, 2147483647), (5, (-2147483648), 2147483647), (6, 0, 120), (7, 0, 399), (8, 0, 1152921504606846976)] [((-1), [(0, (-1)), (6, 1)]), ((-1), [(1, (-1)), (6, 1)]), ((-1), [(4, 1), (7, (-1))])] [(0, .inr (.inr (.inl (some 94)))), (1, .inl (0, [(0, 1)])), (2, .inl (0, [(1, 1)])), (3, .inl (0, [(2, 1)])), (4, .inl (0, [(3, 1)])), (5, .inl (0, [(4, 1)])), (6, .inl (0, [(5, 1)]))] [.inr (.inl (0, [(8, 1)])), .inr (.inr (.inl (some 94)))] [(19978, (0, []), (0, [(6, 1)])), (19977, (0, []), (0, [(7, 1)])), (61000, (0, [(0, 1), (1, (-1))]), (1, []))] [20017] 6 [] [([], 9, [(0, 0, 119), (1, 0, 119), (2, 0, 5), (3, 0, 9), (4, 0, 2147483647), (5, (-2147483648), 2147483647), (6, 0, 120), (7, 0, 399), (8, 0, 1152921504606846976)], [], [], [.inl ((-2), [])], [])] = true := by decide +kernel
theorem nxpg10 {cst : am_K} {strs : List Nat} {Φ : am_Q → Prop} {D : Nat} {M : am_M} {h : am_H} {l : am_L} (c : hp_C cst strs D) (hM : m_P[336]? = some M) (hD : (6 : Int) ≤ (D : Int) + 1) (hy : ly_hy m_tt ly_TH h) (p q s y d w u g vv : Int) (x0 : Int64) (hx0 : x0.toInt = (vv)) (b0 : 0 ≤ p) (t0 : p ≤ 119) (b1 : 0 ≤ q) (t1 : q ≤ 119) (b2 : 0 ≤ s) (t2 : s ≤ 5) (b3 : 0 ≤ y) (t3 : y ≤ 9) (b4 : 0 ≤ d) (t4 : d ≤ 2147483647) (b5 : (-2147483648) ≤ w) (t5 : w ≤ 2147483647) (b6 : 0 ≤ u) (t6 : u ≤ 120) (b7 : 0 ≤ g) (t7 : g ≤ 399) (b8 : 0 ≤ vv) (t8 : vv ≤ 1152921504606846976) (f0 : 0 ≤ (u - p - 1)) (f1 : 0 ≤ (u - q - 1)) (f2 : 0 ≤ (d - g - 1)) (k0 : ly_hv cst h 19978 0 = some (u)) (k1 : ly_hv cst h 19977 0 = some (g)) (k2 : ly_hv cst h 61000 (p - q) = some 1) (l0 : hp_a l 0 94) (l1 : hp_i l 1 (p)) (l2 : hp_i l 2 (q)) (l3 : hp_i l 3 (s)) (l4 : hp_i l 4 (y)) (l5 : hp_i l 5 (d)) (l6 : hp_i l 6 (w)) (r0 : ∀ (h_9' : am_H) (y0 : Int32), y0.toInt = (-2) → ly_hy m_tt ly_TH h_9' → ly_fr cst [20017] h h_9' → h.length ≤ h_9'.length → Φ (some (.int y0), h_9', 0, 0)) : hp_F cst strs Φ D M 5 l [.long x0, .ref 94] h := by
  refine hp_arc c hM nxpg10_k hD [p, q, s, y, d, w, u, g, vv] rfl hy (hp_Bc (z := p) rfl b0 t0 (hp_Bc (z := q) rfl b1 t1 (hp_Bc (z := s) rfl b2 t2 (hp_Bc (z := y) rfl b3 t3 (hp_Bc (z := d) rfl b4 t4 (hp_Bc (z := w) rfl b5 t5 (hp_Bc (z := u) rfl b6 t6 (hp_Bc (z := g) rfl b7 t7 (hp_Bc (z := vv) rfl b8 t8 hp_Bn))))))))) (hp_Fc (z := ((-1) + ((-1) * p + (1 * u + 0)))) rfl (by omega) (hp_Fc (z := ((-1) + ((-1) * q + (1 * u + 0)))) rfl (by omega) (hp_Fc (z := ((-1) + (1 * d + ((-1) * g + 0)))) rfl (by omega) hp_Fn))) (hp_Kc (zi := (0 + 0)) (zv := (0 + (1 * u + 0))) k0 rfl rfl (by omega) (by omega) (hp_Kc (zi := (0 + 0)) (zv := (0 + (1 * g + 0))) k1 rfl rfl (by omega) (by omega) (hp_Kc (zi := (0 + (1 * p + ((-1) * q + 0)))) (zv := (1 + 0)) k2 rfl rfl (by omega) (by omega) hp_Kn))) (hp_La l0 (hp_Li (z := (0 + (1 * p + 0))) l1 rfl (by omega) (hp_Li (z := (0 + (1 * q + 0))) l2 rfl (by omega) (hp_Li (z := (0 + (1 * s + 0))) l3 rfl (by omega) (hp_Li (z := (0 + (1 * y + 0))) l4 rfl (by omega) (hp_Li (z := (0 + (1 * d + 0))) l5 rfl (by omega) (hp_Li (z := (0 + (1 * w + 0))) l6 rfl (by omega) hp_Ln))))))) (hp_Sj (z := (0 + (1 * vv + 0))) rfl (by omega) (hp_Sa trivial)) ?_ ?_
  · intro p hp ys l' st_9' h_9' hys a1_9 a2 a3 gZ gL gS
    cases hp
  · intro p hp ys v_9 h_9' hys a1_9 a2 a3 gZ gS
    rcases List.mem_cons.mp hp with rfl | hp
    · obtain rfl := hp_y0 hys
      cases v_9 with
      | none => cases gS
      | some wz =>
        obtain ⟨y0, t0, s0_9, q0, -⟩ := hp_gSi (z := ((-2) + 0)) gS rfl
        cases s0_9
        exact r0 h_9' y0 (by omega) a1_9 a2 a3
    cases hp
theorem ncpg11_k : hp_chk 137 7 8 [(0, 0, 119), (1, 0, 119), (2, 0, 5), (3, 0, 9), (4, 0, 399), (5, (-2147483648), 0), (6, 0, 120), (7, 0, 399)] [((-1), [(0, (-1)), (6, 1)]), ((-1), [(1, (-1)), (6, 1)]), (0, [(4, (-1)), (7, 1)])] [(0, .inr (.inr (.inl (some 16)))), (1, .inl (0, [(0, 1)])), (2, .inl (0, [(1, 1)])), (3, .inl (0, [(2, 1)])), (4, .inl (0, [(3, 1)])), (5, .inl (0, [(4, 1)])), (6, .inl (0, [(5, 1)]))] [] [(1536, (0, []), (0, [(6, 1)])), (10, (0, []), (0, [(7, 1)])), (61000, (0, [(0, 1), (1, (-1))]), (1, []))] [] 6 [] [([], 8, [(0, 0, 119), (1, 0, 119), (2, 0, 5), (3, 0, 9), (4, 0, 399), (5, (-2147483648), 0), (6, 0, 120), (7, 0, 399)], [], [], [.inl ((-2), [])], [])] = true := by decide +kernel
theorem ncpg11 {cst : am_K} {strs : List Nat} {Φ : am_Q → Prop} {D : Nat} {M : am_M} {h : am_H} {l : am_L} (c : hp_C cst strs D) (hM : m_P[137]? = some M) (hD : (6 : Int) ≤ (D : Int) + 1) (hy : ly_hy m_tt ly_TH h) (p q s y d w u g : Int) (b0 : 0 ≤ p) (t0 : p ≤ 119) (b1 : 0 ≤ q) (t1 : q ≤ 119) (b2 : 0 ≤ s) (t2 : s ≤ 5) (b3 : 0 ≤ y) (t3 : y ≤ 9) (b4 : 0 ≤ d) (t4 : d ≤ 399) (b5 : (-2147483648) ≤ w) (t5 : w ≤ 0) (b6 : 0 ≤ u) (t6 : u ≤ 120) (b7 : 0 ≤ g) (t7 : g ≤ 399) (f0 : 0 ≤ (u - p - 1)) (f1 : 0 ≤ (u - q - 1)) (f2 : 0 ≤ (g - d)) (k0 : ly_hv cst h 1536 0 = some (u)) (k1 : ly_hv cst h 10 0 = some (g)) (k2 : ly_hv cst h 61000 (p - q) = some 1) (l0 : hp_a l 0 16) (l1 : hp_i l 1 (p)) (l2 : hp_i l 2 (q)) (l3 : hp_i l 3 (s)) (l4 : hp_i l 4 (y)) (l5 : hp_i l 5 (d)) (l6 : hp_i l 6 (w)) (r0 : ∀ (h_9' : am_H) (y0 : Int32), y0.toInt = (-2) → ly_hy m_tt ly_TH h_9' → ly_fr cst [] h h_9' → h.length ≤ h_9'.length → Φ (some (.int y0), h_9', 0, 0)) : hp_F cst strs Φ D M 7 l [] h := by
  refine hp_arc c hM ncpg11_k hD [p, q, s, y, d, w, u, g] rfl hy (hp_Bc (z := p) rfl b0 t0 (hp_Bc (z := q) rfl b1 t1 (hp_Bc (z := s) rfl b2 t2 (hp_Bc (z := y) rfl b3 t3 (hp_Bc (z := d) rfl b4 t4 (hp_Bc (z := w) rfl b5 t5 (hp_Bc (z := u) rfl b6 t6 (hp_Bc (z := g) rfl b7 t7 hp_Bn)))))))) (hp_Fc (z := ((-1) + ((-1) * p + (1 * u + 0)))) rfl (by omega) (hp_Fc (z := ((-1) + ((-1) * q + (1 * u + 0)))) rfl (by omega) (hp_Fc (z := (0 + ((-1) * d + (1 * g + 0)))) rfl (by omega) hp_Fn))) (hp_Kc (zi := (0 + 0)) (zv := (0 + (1 * u + 0))) k0 rfl rfl (by omega) (by omega) (hp_Kc (zi := (0 + 0)) (zv := (0 + (1 * g + 0))) k1 rfl rfl (by omega) (by omega) (hp_Kc (zi := (0 + (1 * p + ((-1) * q + 0)))) (zv := (1 + 0)) k2 rfl rfl (by omega) (by omega) hp_Kn))) (hp_La l0 (hp_Li (z := (0 + (1 * p + 0))) l1 rfl (by omega) (hp_Li (z := (0 + (1 * q + 0))) l2 rfl (by omega) (hp_Li (z := (0 + (1 * s + 0))) l3 rfl (by omega) (hp_Li (z := (0 + (1 * y + 0))) l4 rfl (by omega) (hp_Li (z := (0 + (1 * d + 0))) l5 rfl (by omega) (hp_Li (z := (0 + (1 * w + 0))) l6 rfl (by omega) hp_Ln))))))) trivial ?_ ?_
  · intro p hp ys l' st_9' h_9' hys a1_9 a2 a3 gZ gL gS
    cases hp
  · intro p hp ys v_9 h_9' hys a1_9 a2 a3 gZ gS
    rcases List.mem_cons.mp hp with rfl | hp
    · obtain rfl := hp_y0 hys
      cases v_9 with
      | none => cases gS
      | some wz =>
        obtain ⟨y0, t0, s0_9, q0, -⟩ := hp_gSi (z := ((-2) + 0)) gS rfl
        cases s0_9
        exact r0 h_9' y0 (by omega) a1_9 a2 a3
    cases hp
theorem nxpg11_k : hp_chk 336 5 9 [(0, 0, 119), (1, 0, 119), (2, 0, 5), (3, 0, 9), (4, 0, 399), (5, (-2147483648), 0), (6, 0, 120), (7, 0, 399), (8, 0, 1152921504606846976)] [((-1), [(0, (-1)), (6, 1)]), ((-1), [(1, (-1)), (6, 1)]), (0, [(4, (-1)), (7, 1)])] [(0, .inr (.inr (.inl (some 94)))), (1, .inl (0, [(0, 1)])), (2, .inl (0, [(1, 1)])), (3, .inl (0, [(2, 1)])), (4, .inl (0, [(3, 1)])), (5, .inl (0, [(4, 1)])), (6, .inl (0, [(5, 1)]))] [.inr (.inl (0, [(8, 1)])), .inr (.inr (.inl (some 94)))] [(19978, (0, []), (0, [(6, 1)])), (19977, (0, []), (0, [(7, 1)])), (61000, (0, [(0, 1), (1, (-1))]), (1, []))] [20017] 6 [] [([], 9, [(0, 0, 119), (1, 0, 119), (2, 0, 5), (3, 0, 9), (4, 0, 399), (5, (-2147483648), 0), (6, 0, 120), (7, 0, 399), (8, 0, 1152921504606846976)], [], [], [.inl ((-2), [])], [])] = true := by decide +kernel
theorem nxpg11 {cst : am_K} {strs : List Nat} {Φ : am_Q → Prop} {D : Nat} {M : am_M} {h : am_H} {l : am_L} (c : hp_C cst strs D) (hM : m_P[336]? = some M) (hD : (6 : Int) ≤ (D : Int) + 1) (hy : ly_hy m_tt ly_TH h) (p q s y d w u g vv : Int) (x0 : Int64) (hx0 : x0.toInt = (vv)) (b0 : 0 ≤ p) (t0 : p ≤ 119) (b1 : 0 ≤ q) (t1 : q ≤ 119) (b2 : 0 ≤ s) (t2 : s ≤ 5) (b3 : 0 ≤ y) (t3 : y ≤ 9) (b4 : 0 ≤ d) (t4 : d ≤ 399) (b5 : (-2147483648) ≤ w) (t5 : w ≤ 0) (b6 : 0 ≤ u) (t6 : u ≤ 120) (b7 : 0 ≤ g) (t7 : g ≤ 399) (b8 : 0 ≤ vv) (t8 : vv ≤ 1152921504606846976) (f0 : 0 ≤ (u - p - 1)) (f1 : 0 ≤ (u - q - 1)) (f2 : 0 ≤ (g - d)) (k0 : ly_hv cst h 19978 0 = some (u)) (k1 : ly_hv cst h 19977 0 = some (g)) (k2 : ly_hv cst h 61000 (p - q) = some 1) (l0 : hp_a l 0 94) (l1 : hp_i l 1 (p)) (l2 : hp_i l 2 (q)) (l3 : hp_i l 3 (s)) (l4 : hp_i l 4 (y)) (l5 : hp_i l 5 (d)) (l6 : hp_i l 6 (w)) (r0 : ∀ (h_9' : am_H) (y0 : Int32), y0.toInt = (-2) → ly_hy m_tt ly_TH h_9' → ly_fr cst [20017] h h_9' → h.length ≤ h_9'.length → Φ (some (.int y0), h_9', 0, 0)) : hp_F cst strs Φ D M 5 l [.long x0, .ref 94] h := by
  refine hp_arc c hM nxpg11_k hD [p, q, s, y, d, w, u, g, vv] rfl hy (hp_Bc (z := p) rfl b0 t0 (hp_Bc (z := q) rfl b1 t1 (hp_Bc (z := s) rfl b2 t2 (hp_Bc (z := y) rfl b3 t3 (hp_Bc (z := d) rfl b4 t4 (hp_Bc (z := w) rfl b5 t5 (hp_Bc (z := u) rfl b6 t6 (hp_Bc (z := g) rfl b7 t7 (hp_Bc (z := vv) rfl b8 t8 hp_Bn))))))))) (hp_Fc (z := ((-1) + ((-1) * p + (1 * u + 0)))) rfl (by omega) (hp_Fc (z := ((-1) + ((-1) * q + (1 * u + 0)))) rfl (by omega) (hp_Fc (z := (0 + ((-1) * d + (1 * g + 0)))) rfl (by omega) hp_Fn))) (hp_Kc (zi := (0 + 0)) (zv := (0 + (1 * u + 0))) k0 rfl rfl (by omega) (by omega) (hp_Kc (zi := (0 + 0)) (zv := (0 + (1 * g + 0))) k1 rfl rfl (by omega) (by omega) (hp_Kc (zi := (0 + (1 * p + ((-1) * q + 0)))) (zv := (1 + 0)) k2 rfl rfl (by omega) (by omega) hp_Kn))) (hp_La l0 (hp_Li (z := (0 + (1 * p + 0))) l1 rfl (by omega) (hp_Li (z := (0 + (1 * q + 0))) l2 rfl (by omega) (hp_Li (z := (0 + (1 * s + 0))) l3 rfl (by omega) (hp_Li (z := (0 + (1 * y + 0))) l4 rfl (by omega) (hp_Li (z := (0 + (1 * d + 0))) l5 rfl (by omega) (hp_Li (z := (0 + (1 * w + 0))) l6 rfl (by omega) hp_Ln))))))) (hp_Sj (z := (0 + (1 * vv + 0))) rfl (by omega) (hp_Sa trivial)) ?_ ?_
  · intro p hp ys l' st_9' h_9' hys a1_9 a2 a3 gZ gL gS
    cases hp
  · intro p hp ys v_9 h_9' hys a1_9 a2 a3 gZ gS
    rcases List.mem_cons.mp hp with rfl | hp
    · obtain rfl := hp_y0 hys
      cases v_9 with
      | none => cases gS
      | some wz =>
        obtain ⟨y0, t0, s0_9, q0, -⟩ := hp_gSi (z := ((-2) + 0)) gS rfl
        cases s0_9
        exact r0 h_9' y0 (by omega) a1_9 a2 a3
    cases hp
theorem ncpg12_k : hp_chk 137 7 8 [(0, 0, 119), (1, 0, 119), (2, 0, 5), (3, 0, 9), (4, 0, 399), (5, 10000, 2147483647), (6, 0, 120), (7, 0, 399)] [((-1), [(0, (-1)), (6, 1)]), ((-1), [(1, (-1)), (6, 1)]), (0, [(4, (-1)), (7, 1)])] [(0, .inr (.inr (.inl (some 16)))), (1, .inl (0, [(0, 1)])), (2, .inl (0, [(1, 1)])), (3, .inl (0, [(2, 1)])), (4, .inl (0, [(3, 1)])), (5, .inl (0, [(4, 1)])), (6, .inl (0, [(5, 1)]))] [] [(1536, (0, []), (0, [(6, 1)])), (10, (0, []), (0, [(7, 1)])), (61000, (0, [(0, 1), (1, (-1))]), (1, []))] [] 6 [] [([], 8, [(0, 0, 119), (1, 0, 119), (2, 0, 5), (3, 0, 9), (4, 0, 399), (5, 10000, 2147483647), (6, 0, 120), (7, 0, 399)], [], [], [.inl ((-2), [])], [])] = true := by decide +kernel
theorem ncpg12 {cst : am_K} {strs : List Nat} {Φ : am_Q → Prop} {D : Nat} {M : am_M} {h : am_H} {l : am_L} (c : hp_C cst strs D) (hM : m_P[137]? = some M) (hD : (6 : Int) ≤ (D : Int) + 1) (hy : ly_hy m_tt ly_TH h) (p q s y d w u g : Int) (b0 : 0 ≤ p) (t0 : p ≤ 119) (b1 : 0 ≤ q) (t1 : q ≤ 119) (b2 : 0 ≤ s) (t2 : s ≤ 5) (b3 : 0 ≤ y) (t3 : y ≤ 9) (b4 : 0 ≤ d) (t4 : d ≤ 399) (b5 : 10000 ≤ w) (t5 : w ≤ 2147483647) (b6 : 0 ≤ u) (t6 : u ≤ 120) (b7 : 0 ≤ g) (t7 : g ≤ 399) (f0 : 0 ≤ (u - p - 1)) (f1 : 0 ≤ (u - q - 1)) (f2 : 0 ≤ (g - d)) (k0 : ly_hv cst h 1536 0 = some (u)) (k1 : ly_hv cst h 10 0 = some (g)) (k2 : ly_hv cst h 61000 (p - q) = some 1) (l0 : hp_a l 0 16) (l1 : hp_i l 1 (p)) (l2 : hp_i l 2 (q)) (l3 : hp_i l 3 (s)) (l4 : hp_i l 4 (y)) (l5 : hp_i l 5 (d)) (l6 : hp_i l 6 (w)) (r0 : ∀ (h_9' : am_H) (y0 : Int32), y0.toInt = (-2) → ly_hy m_tt ly_TH h_9' → ly_fr cst [] h h_9' → h.length ≤ h_9'.length → Φ (some (.int y0), h_9', 0, 0)) : hp_F cst strs Φ D M 7 l [] h := by
  refine hp_arc c hM ncpg12_k hD [p, q, s, y, d, w, u, g] rfl hy (hp_Bc (z := p) rfl b0 t0 (hp_Bc (z := q) rfl b1 t1 (hp_Bc (z := s) rfl b2 t2 (hp_Bc (z := y) rfl b3 t3 (hp_Bc (z := d) rfl b4 t4 (hp_Bc (z := w) rfl b5 t5 (hp_Bc (z := u) rfl b6 t6 (hp_Bc (z := g) rfl b7 t7 hp_Bn)))))))) (hp_Fc (z := ((-1) + ((-1) * p + (1 * u + 0)))) rfl (by omega) (hp_Fc (z := ((-1) + ((-1) * q + (1 * u + 0)))) rfl (by omega) (hp_Fc (z := (0 + ((-1) * d + (1 * g + 0)))) rfl (by omega) hp_Fn))) (hp_Kc (zi := (0 + 0)) (zv := (0 + (1 * u + 0))) k0 rfl rfl (by omega) (by omega) (hp_Kc (zi := (0 + 0)) (zv := (0 + (1 * g + 0))) k1 rfl rfl (by omega) (by omega) (hp_Kc (zi := (0 + (1 * p + ((-1) * q + 0)))) (zv := (1 + 0)) k2 rfl rfl (by omega) (by omega) hp_Kn))) (hp_La l0 (hp_Li (z := (0 + (1 * p + 0))) l1 rfl (by omega) (hp_Li (z := (0 + (1 * q + 0))) l2 rfl (by omega) (hp_Li (z := (0 + (1 * s + 0))) l3 rfl (by omega) (hp_Li (z := (0 + (1 * y + 0))) l4 rfl (by omega) (hp_Li (z := (0 + (1 * d + 0))) l5 rfl (by omega) (hp_Li (z := (0 + (1 * w + 0))) l6 rfl (by omega) hp_Ln))))))) trivial ?_ ?_
  · intro p hp ys l' st_9' h_9' hys a1_9 a2 a3 gZ gL gS
    cases hp
  · intro p hp ys v_9 h_9' hys a1_9 a2 a3 gZ gS
    rcases List.mem_cons.mp hp with rfl | hp
    · obtain rfl := hp_y0 hys
      cases v_9 with
      | none => cases gS
      | some wz =>
        obtain ⟨y0, t0, s0_9, q0, -⟩ := hp_gSi (z := ((-2) + 0)) gS rfl
        cases s0_9
        exact r0 h_9' y0 (by omega) a1_9 a2 a3
    cases hp
theorem nxpg12_k : hp_chk 336 5 9 [(0, 0, 119), (1, 0, 119), (2, 0, 5), (3, 0, 9), (4, 0, 399), (5, 10000, 2147483647), (6, 0, 120), (7, 0, 399), (8, 0, 1152921504606846976)] [((-1), [(0, (-1)), (6, 1)]), ((-1), [(1, (-1)), (6, 1)]), (0, [(4, (-1)), (7, 1)])] [(0, .inr (.inr (.inl (some 94)))), (1, .inl (0, [(0, 1)])), (2, .inl (0, [(1, 1)])), (3, .inl (0, [(2, 1)])), (4, .inl (0, [(3, 1)])), (5, .inl (0, [(4, 1)])), (6, .inl (0, [(5, 1)]))] [.inr (.inl (0, [(8, 1)])), .inr (.inr (.inl (some 94)))] [(19978, (0, []), (0, [(6, 1)])), (19977, (0, []), (0, [(7, 1)])), (61000, (0, [(0, 1), (1, (-1))]), (1, []))] [20017] 6 [] [([], 9, [(0, 0, 119), (1, 0, 119), (2, 0, 5), (3, 0, 9), (4, 0, 399), (5, 10000, 2147483647), (6, 0, 120), (7, 0, 399), (8, 0, 1152921504606846976)], [], [], [.inl ((-2), [])], [])] = true := by decide +kernel
theorem nxpg12 {cst : am_K} {strs : List Nat} {Φ : am_Q → Prop} {D : Nat} {M : am_M} {h : am_H} {l : am_L} (c : hp_C cst strs D) (hM : m_P[336]? = some M) (hD : (6 : Int) ≤ (D : Int) + 1) (hy : ly_hy m_tt ly_TH h) (p q s y d w u g vv : Int) (x0 : Int64) (hx0 : x0.toInt = (vv)) (b0 : 0 ≤ p) (t0 : p ≤ 119) (b1 : 0 ≤ q) (t1 : q ≤ 119) (b2 : 0 ≤ s) (t2 : s ≤ 5) (b3 : 0 ≤ y) (t3 : y ≤ 9) (b4 : 0 ≤ d) (t4 : d ≤ 399) (b5 : 10000 ≤ w) (t5 : w ≤ 2147483647) (b6 : 0 ≤ u) (t6 : u ≤ 120) (b7 : 0 ≤ g) (t7 : g ≤ 399) (b8 : 0 ≤ vv) (t8 : vv ≤ 1152921504606846976) (f0 : 0 ≤ (u - p - 1)) (f1 : 0 ≤ (u - q - 1)) (f2 : 0 ≤ (g - d)) (k0 : ly_hv cst h 19978 0 = some (u)) (k1 : ly_hv cst h 19977 0 = some (g)) (k2 : ly_hv cst h 61000 (p - q) = some 1) (l0 : hp_a l 0 94) (l1 : hp_i l 1 (p)) (l2 : hp_i l 2 (q)) (l3 : hp_i l 3 (s)) (l4 : hp_i l 4 (y)) (l5 : hp_i l 5 (d)) (l6 : hp_i l 6 (w)) (r0 : ∀ (h_9' : am_H) (y0 : Int32), y0.toInt = (-2) → ly_hy m_tt ly_TH h_9' → ly_fr cst [20017] h h_9' → h.length ≤ h_9'.length → Φ (some (.int y0), h_9', 0, 0)) : hp_F cst strs Φ D M 5 l [.long x0, .ref 94] h := by
  refine hp_arc c hM nxpg12_k hD [p, q, s, y, d, w, u, g, vv] rfl hy (hp_Bc (z := p) rfl b0 t0 (hp_Bc (z := q) rfl b1 t1 (hp_Bc (z := s) rfl b2 t2 (hp_Bc (z := y) rfl b3 t3 (hp_Bc (z := d) rfl b4 t4 (hp_Bc (z := w) rfl b5 t5 (hp_Bc (z := u) rfl b6 t6 (hp_Bc (z := g) rfl b7 t7 (hp_Bc (z := vv) rfl b8 t8 hp_Bn))))))))) (hp_Fc (z := ((-1) + ((-1) * p + (1 * u + 0)))) rfl (by omega) (hp_Fc (z := ((-1) + ((-1) * q + (1 * u + 0)))) rfl (by omega) (hp_Fc (z := (0 + ((-1) * d + (1 * g + 0)))) rfl (by omega) hp_Fn))) (hp_Kc (zi := (0 + 0)) (zv := (0 + (1 * u + 0))) k0 rfl rfl (by omega) (by omega) (hp_Kc (zi := (0 + 0)) (zv := (0 + (1 * g + 0))) k1 rfl rfl (by omega) (by omega) (hp_Kc (zi := (0 + (1 * p + ((-1) * q + 0)))) (zv := (1 + 0)) k2 rfl rfl (by omega) (by omega) hp_Kn))) (hp_La l0 (hp_Li (z := (0 + (1 * p + 0))) l1 rfl (by omega) (hp_Li (z := (0 + (1 * q + 0))) l2 rfl (by omega) (hp_Li (z := (0 + (1 * s + 0))) l3 rfl (by omega) (hp_Li (z := (0 + (1 * y + 0))) l4 rfl (by omega) (hp_Li (z := (0 + (1 * d + 0))) l5 rfl (by omega) (hp_Li (z := (0 + (1 * w + 0))) l6 rfl (by omega) hp_Ln))))))) (hp_Sj (z := (0 + (1 * vv + 0))) rfl (by omega) (hp_Sa trivial)) ?_ ?_
  · intro p hp ys l' st_9' h_9' hys a1_9 a2 a3 gZ gL gS
    cases hp
  · intro p hp ys v_9 h_9' hys a1_9 a2 a3 gZ gS
    rcases List.mem_cons.mp hp with rfl | hp
    · obtain rfl := hp_y0 hys
      cases v_9 with
      | none => cases gS
      | some wz =>
        obtain ⟨y0, t0, s0_9, q0, -⟩ := hp_gSi (z := ((-2) + 0)) gS rfl
        cases s0_9
        exact r0 h_9' y0 (by omega) a1_9 a2 a3
    cases hp
theorem ncpk_k : hp_chk 137 7 8 [(0, 0, 119), (1, 0, 119), (2, 0, 5), (3, 0, 9), (4, 0, 399), (5, 1, 9999), (6, 0, 120), (7, 0, 399)] [((-1), [(0, (-1)), (6, 1)]), ((-1), [(1, (-1)), (6, 1)]), (0, [(4, (-1)), (7, 1)])] [(0, .inr (.inr (.inl (some 16)))), (1, .inl (0, [(0, 1)])), (2, .inl (0, [(1, 1)])), (3, .inl (0, [(2, 1)])), (4, .inl (0, [(3, 1)])), (5, .inl (0, [(4, 1)])), (6, .inl (0, [(5, 1)]))] [] [(1536, (0, []), (0, [(6, 1)])), (10, (0, []), (0, [(7, 1)])), (61000, (0, [(0, 1), (1, (-1))]), (1, []))] [] 6 [(71, ([], 8, [(0, 0, 119), (1, 0, 119), (2, 0, 5), (3, 0, 9), (4, 0, 399), (5, 1, 9999), (6, 0, 120), (7, 0, 399)], [], [(0, .inr (.inr (.inl (some 16))))], [.inl (0, [(5, 1)]), .inl (0, [(4, 1)]), .inl (0, [(3, 1)]), .inl (0, [(2, 1)]), .inl (0, [(1, 1)]), .inl (0, [(0, 1)]), .inr (.inr (.inl (some 16)))], []))] [] = true := by decide +kernel
theorem ncpk {cst : am_K} {strs : List Nat} {Φ : am_Q → Prop} {D : Nat} {M : am_M} {h : am_H} {l : am_L} (c : hp_C cst strs D) (hM : m_P[137]? = some M) (hD : (6 : Int) ≤ (D : Int) + 1) (hy : ly_hy m_tt ly_TH h) (p q s y d w u g : Int) (b0 : 0 ≤ p) (t0 : p ≤ 119) (b1 : 0 ≤ q) (t1 : q ≤ 119) (b2 : 0 ≤ s) (t2 : s ≤ 5) (b3 : 0 ≤ y) (t3 : y ≤ 9) (b4 : 0 ≤ d) (t4 : d ≤ 399) (b5 : 1 ≤ w) (t5 : w ≤ 9999) (b6 : 0 ≤ u) (t6 : u ≤ 120) (b7 : 0 ≤ g) (t7 : g ≤ 399) (f0 : 0 ≤ (u - p - 1)) (f1 : 0 ≤ (u - q - 1)) (f2 : 0 ≤ (g - d)) (k0 : ly_hv cst h 1536 0 = some (u)) (k1 : ly_hv cst h 10 0 = some (g)) (k2 : ly_hv cst h 61000 (p - q) = some 1) (l0 : hp_a l 0 16) (l1 : hp_i l 1 (p)) (l2 : hp_i l 2 (q)) (l3 : hp_i l 3 (s)) (l4 : hp_i l 4 (y)) (l5 : hp_i l 5 (d)) (l6 : hp_i l 6 (w)) (e0 : ∀ (l' : am_L) (h_9' : am_H) (y0 : Int32) (y1 : Int32) (y2 : Int32) (y3 : Int32) (y4 : Int32) (y5 : Int32), y0.toInt = (w) → y1.toInt = (d) → y2.toInt = (y) → y3.toInt = (s) → y4.toInt = (q) → y5.toInt = (p) → ly_hy m_tt ly_TH h_9' → ly_fr cst [] h h_9' → h.length ≤ h_9'.length → hp_a l' 0 16 → hp_F cst strs Φ D M 71 l' [.int y0, .int y1, .int y2, .int y3, .int y4, .int y5, .ref 16] h_9') : hp_F cst strs Φ D M 7 l [] h := by
  refine hp_arc c hM ncpk_k hD [p, q, s, y, d, w, u, g] rfl hy (hp_Bc (z := p) rfl b0 t0 (hp_Bc (z := q) rfl b1 t1 (hp_Bc (z := s) rfl b2 t2 (hp_Bc (z := y) rfl b3 t3 (hp_Bc (z := d) rfl b4 t4 (hp_Bc (z := w) rfl b5 t5 (hp_Bc (z := u) rfl b6 t6 (hp_Bc (z := g) rfl b7 t7 hp_Bn)))))))) (hp_Fc (z := ((-1) + ((-1) * p + (1 * u + 0)))) rfl (by omega) (hp_Fc (z := ((-1) + ((-1) * q + (1 * u + 0)))) rfl (by omega) (hp_Fc (z := (0 + ((-1) * d + (1 * g + 0)))) rfl (by omega) hp_Fn))) (hp_Kc (zi := (0 + 0)) (zv := (0 + (1 * u + 0))) k0 rfl rfl (by omega) (by omega) (hp_Kc (zi := (0 + 0)) (zv := (0 + (1 * g + 0))) k1 rfl rfl (by omega) (by omega) (hp_Kc (zi := (0 + (1 * p + ((-1) * q + 0)))) (zv := (1 + 0)) k2 rfl rfl (by omega) (by omega) hp_Kn))) (hp_La l0 (hp_Li (z := (0 + (1 * p + 0))) l1 rfl (by omega) (hp_Li (z := (0 + (1 * q + 0))) l2 rfl (by omega) (hp_Li (z := (0 + (1 * s + 0))) l3 rfl (by omega) (hp_Li (z := (0 + (1 * y + 0))) l4 rfl (by omega) (hp_Li (z := (0 + (1 * d + 0))) l5 rfl (by omega) (hp_Li (z := (0 + (1 * w + 0))) l6 rfl (by omega) hp_Ln))))))) trivial ?_ ?_
  · intro p hp ys l' st_9' h_9' hys a1_9 a2 a3 gZ gL gS
    rcases List.mem_cons.mp hp with rfl | hp
    · obtain rfl := hp_y0 hys
      obtain ⟨y0, t0, rfl, q0, g0⟩ := hp_gSi (z := (0 + (1 * w + 0))) gS rfl
      obtain ⟨y1, t1, rfl, q1_9, g1⟩ := hp_gSi (z := (0 + (1 * d + 0))) g0 rfl
      obtain ⟨y2, t2, rfl, q2_9, g2⟩ := hp_gSi (z := (0 + (1 * y + 0))) g1 rfl
      obtain ⟨y3, t3, rfl, q3_9, g3_9⟩ := hp_gSi (z := (0 + (1 * s + 0))) g2 rfl
      obtain ⟨y4, t4, rfl, q4_9, g4⟩ := hp_gSi (z := (0 + (1 * q + 0))) g3_9 rfl
      obtain ⟨y5, t5, rfl, q5_9, g5_9⟩ := hp_gSi (z := (0 + (1 * p + 0))) g4 rfl
      obtain ⟨t6, rfl, g6⟩ := hp_gSa g5_9 (by decide)
      cases hp_gSn g6
      exact e0 l' h_9' y0 y1 y2 y3 y4 y5 (by omega) (by omega) (by omega) (by omega) (by omega) (by omega) a1_9 a2 a3 (hp_gLa gL (List.mem_of_getElem? (i := 0) rfl) (by decide))
    cases hp
  · intro p hp ys v_9 h_9' hys a1_9 a2 a3 gZ gS
    cases hp
theorem ncpr_k : hp_chk 137 74 1 [(0, (-2147483648), 2147483647)] [] [(0, .inr (.inr (.inl (some 16))))] [.inl (0, [(0, 1)])] [] [] 2 [] [([], 1, [(0, (-2147483648), 2147483647)], [], [], [.inl (0, [(0, 1)])], [])] = true := by decide +kernel
theorem ncpr {cst : am_K} {strs : List Nat} {Φ : am_Q → Prop} {D : Nat} {M : am_M} {h : am_H} {l : am_L} (c : hp_C cst strs D) (hM : m_P[137]? = some M) (hD : (2 : Int) ≤ (D : Int) + 1) (hy : ly_hy m_tt ly_TH h) (a : Int) (x0 : Int32) (hx0 : x0.toInt = (a)) (b0 : (-2147483648) ≤ a) (t0 : a ≤ 2147483647) (l0 : hp_a l 0 16) (r0 : ∀ (h_9' : am_H) (y0 : Int32), y0.toInt = (a) → ly_hy m_tt ly_TH h_9' → ly_fr cst [] h h_9' → h.length ≤ h_9'.length → Φ (some (.int y0), h_9', 0, 0)) : hp_F cst strs Φ D M 74 l [.int x0] h := by
  refine hp_arc c hM ncpr_k hD [a] rfl hy (hp_Bc (z := a) rfl b0 t0 hp_Bn) hp_Fn hp_Kn (hp_La l0 hp_Ln) (hp_Si (z := (0 + (1 * a + 0))) rfl (by omega) trivial) ?_ ?_
  · intro p_9 hp ys l' st_9' h_9' hys a1_9 a2 a3 gZ gL gS
    cases hp
  · intro p_9 hp ys v_9 h_9' hys a1_9 a2 a3 gZ gS
    rcases List.mem_cons.mp hp with rfl | hp
    · obtain rfl := hp_y0 hys
      cases v_9 with
      | none => cases gS
      | some wz =>
        obtain ⟨y0, t0, s0_9, q0, -⟩ := hp_gSi (z := (0 + (1 * a + 0))) gS rfl
        cases s0_9
        exact r0 h_9' y0 (by omega) a1_9 a2 a3
    cases hp
theorem nxpn_k : hp_chk 336 5 8 [(0, 0, 119), (1, 0, 119), (2, 0, 5), (3, 0, 9), (4, 0, 399), (5, 1, 9999), (6, 0, 120), (7, 0, 399)] [((-1), [(0, (-1)), (6, 1)]), ((-1), [(1, (-1)), (6, 1)]), (0, [(4, (-1)), (7, 1)])] [(0, .inr (.inr (.inl (some 94)))), (1, .inl (0, [(0, 1)])), (2, .inl (0, [(1, 1)])), (3, .inl (0, [(2, 1)])), (4, .inl (0, [(3, 1)])), (5, .inl (0, [(4, 1)])), (6, .inl (0, [(5, 1)]))] [.inr (.inl (0, [])), .inr (.inr (.inl (some 94)))] [(19978, (0, []), (0, [(6, 1)])), (19977, (0, []), (0, [(7, 1)])), (61000, (0, [(0, 1), (1, (-1))]), (1, []))] [20017] 6 [] [([], 8, [(0, 0, 119), (1, 0, 119), (2, 0, 5), (3, 0, 9), (4, 0, 399), (5, 1, 9999), (6, 0, 120), (7, 0, 399)], [], [], [.inl ((-1), [])], [])] = true := by decide +kernel
theorem nxpn {cst : am_K} {strs : List Nat} {Φ : am_Q → Prop} {D : Nat} {M : am_M} {h : am_H} {l : am_L} (c : hp_C cst strs D) (hM : m_P[336]? = some M) (hD : (6 : Int) ≤ (D : Int) + 1) (hy : ly_hy m_tt ly_TH h) (p q s y d w u g : Int) (x0 : Int64) (hx0 : x0.toInt = 0) (b0 : 0 ≤ p) (t0 : p ≤ 119) (b1 : 0 ≤ q) (t1 : q ≤ 119) (b2 : 0 ≤ s) (t2 : s ≤ 5) (b3 : 0 ≤ y) (t3 : y ≤ 9) (b4 : 0 ≤ d) (t4 : d ≤ 399) (b5 : 1 ≤ w) (t5 : w ≤ 9999) (b6 : 0 ≤ u) (t6 : u ≤ 120) (b7 : 0 ≤ g) (t7 : g ≤ 399) (f0 : 0 ≤ (u - p - 1)) (f1 : 0 ≤ (u - q - 1)) (f2 : 0 ≤ (g - d)) (k0 : ly_hv cst h 19978 0 = some (u)) (k1 : ly_hv cst h 19977 0 = some (g)) (k2 : ly_hv cst h 61000 (p - q) = some 1) (l0 : hp_a l 0 94) (l1 : hp_i l 1 (p)) (l2 : hp_i l 2 (q)) (l3 : hp_i l 3 (s)) (l4 : hp_i l 4 (y)) (l5 : hp_i l 5 (d)) (l6 : hp_i l 6 (w)) (r0 : ∀ (h_9' : am_H) (y0 : Int32), y0.toInt = (-1) → ly_hy m_tt ly_TH h_9' → ly_fr cst [20017] h h_9' → h.length ≤ h_9'.length → Φ (some (.int y0), h_9', 0, 0)) : hp_F cst strs Φ D M 5 l [.long x0, .ref 94] h := by
  refine hp_arc c hM nxpn_k hD [p, q, s, y, d, w, u, g] rfl hy (hp_Bc (z := p) rfl b0 t0 (hp_Bc (z := q) rfl b1 t1 (hp_Bc (z := s) rfl b2 t2 (hp_Bc (z := y) rfl b3 t3 (hp_Bc (z := d) rfl b4 t4 (hp_Bc (z := w) rfl b5 t5 (hp_Bc (z := u) rfl b6 t6 (hp_Bc (z := g) rfl b7 t7 hp_Bn)))))))) (hp_Fc (z := ((-1) + ((-1) * p + (1 * u + 0)))) rfl (by omega) (hp_Fc (z := ((-1) + ((-1) * q + (1 * u + 0)))) rfl (by omega) (hp_Fc (z := (0 + ((-1) * d + (1 * g + 0)))) rfl (by omega) hp_Fn))) (hp_Kc (zi := (0 + 0)) (zv := (0 + (1 * u + 0))) k0 rfl rfl (by omega) (by omega) (hp_Kc (zi := (0 + 0)) (zv := (0 + (1 * g + 0))) k1 rfl rfl (by omega) (by omega) (hp_Kc (zi := (0 + (1 * p + ((-1) * q + 0)))) (zv := (1 + 0)) k2 rfl rfl (by omega) (by omega) hp_Kn))) (hp_La l0 (hp_Li (z := (0 + (1 * p + 0))) l1 rfl (by omega) (hp_Li (z := (0 + (1 * q + 0))) l2 rfl (by omega) (hp_Li (z := (0 + (1 * s + 0))) l3 rfl (by omega) (hp_Li (z := (0 + (1 * y + 0))) l4 rfl (by omega) (hp_Li (z := (0 + (1 * d + 0))) l5 rfl (by omega) (hp_Li (z := (0 + (1 * w + 0))) l6 rfl (by omega) hp_Ln))))))) (hp_Sj (z := (0 + 0)) rfl (by omega) (hp_Sa trivial)) ?_ ?_
  · intro p hp ys l' st_9' h_9' hys a1_9 a2 a3 gZ gL gS
    cases hp
  · intro p hp ys v_9 h_9' hys a1_9 a2 a3 gZ gS
    rcases List.mem_cons.mp hp with rfl | hp
    · obtain rfl := hp_y0 hys
      cases v_9 with
      | none => cases gS
      | some wz =>
        obtain ⟨y0, t0, s0_9, q0, -⟩ := hp_gSi (z := ((-1) + 0)) gS rfl
        cases s0_9
        exact r0 h_9' y0 (by omega) a1_9 a2 a3
    cases hp
theorem nxpf_k : hp_chk 336 5 9 [(0, 0, 119), (1, 0, 119), (2, 0, 5), (3, 0, 9), (4, 0, 399), (5, 1, 9999), (6, 0, 120), (7, 0, 399), (8, 1, 1152921504606846976)] [((-1), [(0, (-1)), (6, 1)]), ((-1), [(1, (-1)), (6, 1)]), (0, [(4, (-1)), (7, 1)])] [(0, .inr (.inr (.inl (some 94)))), (1, .inl (0, [(0, 1)])), (2, .inl (0, [(1, 1)])), (3, .inl (0, [(2, 1)])), (4, .inl (0, [(3, 1)])), (5, .inl (0, [(4, 1)])), (6, .inl (0, [(5, 1)]))] [.inr (.inl (0, [(8, 1)])), .inr (.inr (.inl (some 94)))] [(19978, (0, []), (0, [(6, 1)])), (19977, (0, []), (0, [(7, 1)])), (61000, (0, [(0, 1), (1, (-1))]), (1, [])), (20024, (0, []), (100, []))] [20017] 6 [] [([], 9, [(0, 0, 119), (1, 0, 119), (2, 0, 5), (3, 0, 9), (4, 0, 399), (5, 1, 9999), (6, 0, 120), (7, 0, 399), (8, 1, 1152921504606846976)], [], [], [.inl ((-3), [])], [])] = true := by decide +kernel
theorem nxpf {cst : am_K} {strs : List Nat} {Φ : am_Q → Prop} {D : Nat} {M : am_M} {h : am_H} {l : am_L} (c : hp_C cst strs D) (hM : m_P[336]? = some M) (hD : (6 : Int) ≤ (D : Int) + 1) (hy : ly_hy m_tt ly_TH h) (p q s y d w u g vv : Int) (x0 : Int64) (hx0 : x0.toInt = (vv)) (b0 : 0 ≤ p) (t0 : p ≤ 119) (b1 : 0 ≤ q) (t1 : q ≤ 119) (b2 : 0 ≤ s) (t2 : s ≤ 5) (b3 : 0 ≤ y) (t3 : y ≤ 9) (b4 : 0 ≤ d) (t4 : d ≤ 399) (b5 : 1 ≤ w) (t5 : w ≤ 9999) (b6 : 0 ≤ u) (t6 : u ≤ 120) (b7 : 0 ≤ g) (t7 : g ≤ 399) (b8 : 1 ≤ vv) (t8 : vv ≤ 1152921504606846976) (f0 : 0 ≤ (u - p - 1)) (f1 : 0 ≤ (u - q - 1)) (f2 : 0 ≤ (g - d)) (k0 : ly_hv cst h 19978 0 = some (u)) (k1 : ly_hv cst h 19977 0 = some (g)) (k2 : ly_hv cst h 61000 (p - q) = some 1) (k3 : ly_hv cst h 20024 0 = some 100) (l0 : hp_a l 0 94) (l1 : hp_i l 1 (p)) (l2 : hp_i l 2 (q)) (l3 : hp_i l 3 (s)) (l4 : hp_i l 4 (y)) (l5 : hp_i l 5 (d)) (l6 : hp_i l 6 (w)) (r0 : ∀ (h_9' : am_H) (y0 : Int32), y0.toInt = (-3) → ly_hy m_tt ly_TH h_9' → ly_fr cst [20017] h h_9' → h.length ≤ h_9'.length → Φ (some (.int y0), h_9', 0, 0)) : hp_F cst strs Φ D M 5 l [.long x0, .ref 94] h := by
  refine hp_arc c hM nxpf_k hD [p, q, s, y, d, w, u, g, vv] rfl hy (hp_Bc (z := p) rfl b0 t0 (hp_Bc (z := q) rfl b1 t1 (hp_Bc (z := s) rfl b2 t2 (hp_Bc (z := y) rfl b3 t3 (hp_Bc (z := d) rfl b4 t4 (hp_Bc (z := w) rfl b5 t5 (hp_Bc (z := u) rfl b6 t6 (hp_Bc (z := g) rfl b7 t7 (hp_Bc (z := vv) rfl b8 t8 hp_Bn))))))))) (hp_Fc (z := ((-1) + ((-1) * p + (1 * u + 0)))) rfl (by omega) (hp_Fc (z := ((-1) + ((-1) * q + (1 * u + 0)))) rfl (by omega) (hp_Fc (z := (0 + ((-1) * d + (1 * g + 0)))) rfl (by omega) hp_Fn))) (hp_Kc (zi := (0 + 0)) (zv := (0 + (1 * u + 0))) k0 rfl rfl (by omega) (by omega) (hp_Kc (zi := (0 + 0)) (zv := (0 + (1 * g + 0))) k1 rfl rfl (by omega) (by omega) (hp_Kc (zi := (0 + (1 * p + ((-1) * q + 0)))) (zv := (1 + 0)) k2 rfl rfl (by omega) (by omega) (hp_Kc (zi := (0 + 0)) (zv := (100 + 0)) k3 rfl rfl (by omega) (by omega) hp_Kn)))) (hp_La l0 (hp_Li (z := (0 + (1 * p + 0))) l1 rfl (by omega) (hp_Li (z := (0 + (1 * q + 0))) l2 rfl (by omega) (hp_Li (z := (0 + (1 * s + 0))) l3 rfl (by omega) (hp_Li (z := (0 + (1 * y + 0))) l4 rfl (by omega) (hp_Li (z := (0 + (1 * d + 0))) l5 rfl (by omega) (hp_Li (z := (0 + (1 * w + 0))) l6 rfl (by omega) hp_Ln))))))) (hp_Sj (z := (0 + (1 * vv + 0))) rfl (by omega) (hp_Sa trivial)) ?_ ?_
  · intro p hp ys l' st_9' h_9' hys a1_9 a2 a3 gZ gL gS
    cases hp
  · intro p hp ys v_9 h_9' hys a1_9 a2 a3 gZ gS
    rcases List.mem_cons.mp hp with rfl | hp
    · obtain rfl := hp_y0 hys
      cases v_9 with
      | none => cases gS
      | some wz =>
        obtain ⟨y0, t0, s0_9, q0, -⟩ := hp_gSi (z := ((-3) + 0)) gS rfl
        cases s0_9
        exact r0 h_9' y0 (by omega) a1_9 a2 a3
    cases hp
theorem nxpk_k : hp_chk 336 5 10 [(0, 0, 119), (1, 0, 119), (2, 0, 5), (3, 0, 9), (4, 0, 399), (5, 1, 9999), (6, 0, 120), (7, 0, 399), (8, 1, 1152921504606846976), (9, 0, 99)] [((-1), [(0, (-1)), (6, 1)]), ((-1), [(1, (-1)), (6, 1)]), (0, [(4, (-1)), (7, 1)])] [(0, .inr (.inr (.inl (some 94)))), (1, .inl (0, [(0, 1)])), (2, .inl (0, [(1, 1)])), (3, .inl (0, [(2, 1)])), (4, .inl (0, [(3, 1)])), (5, .inl (0, [(4, 1)])), (6, .inl (0, [(5, 1)]))] [.inr (.inl (0, [(8, 1)])), .inr (.inr (.inl (some 94)))] [(19978, (0, []), (0, [(6, 1)])), (19977, (0, []), (0, [(7, 1)])), (61000, (0, [(0, 1), (1, (-1))]), (1, [])), (20024, (0, []), (0, [(9, 1)]))] [20017] 6 [(111, ([], 10, [(0, 0, 119), (1, 0, 119), (2, 0, 5), (3, 0, 9), (4, 0, 399), (5, 1, 9999), (6, 0, 120), (7, 0, 399), (8, 1, 1152921504606846976), (9, 0, 99)], [], [(0, .inr (.inr (.inl (some 94))))], [.inl (0, [(5, 1)]), .inl (0, [(4, 1)]), .inl (0, [(3, 1)]), .inl (0, [(2, 1)]), .inl (0, [(1, 1)]), .inl (0, [(0, 1)]), .inl (1, []), .inr (.inr (.inl (some 94)))], [(20017, (0, []), (0, [(8, 1)]))]))] [] = true := by decide +kernel
theorem nxpk {cst : am_K} {strs : List Nat} {Φ : am_Q → Prop} {D : Nat} {M : am_M} {h : am_H} {l : am_L} (c : hp_C cst strs D) (hM : m_P[336]? = some M) (hD : (6 : Int) ≤ (D : Int) + 1) (hy : ly_hy m_tt ly_TH h) (p q s y d w u g vv m : Int) (x0 : Int64) (hx0 : x0.toInt = (vv)) (b0 : 0 ≤ p) (t0 : p ≤ 119) (b1 : 0 ≤ q) (t1 : q ≤ 119) (b2 : 0 ≤ s) (t2 : s ≤ 5) (b3 : 0 ≤ y) (t3 : y ≤ 9) (b4 : 0 ≤ d) (t4 : d ≤ 399) (b5 : 1 ≤ w) (t5 : w ≤ 9999) (b6 : 0 ≤ u) (t6 : u ≤ 120) (b7 : 0 ≤ g) (t7 : g ≤ 399) (b8 : 1 ≤ vv) (t8 : vv ≤ 1152921504606846976) (b9 : 0 ≤ m) (t9 : m ≤ 99) (f0 : 0 ≤ (u - p - 1)) (f1 : 0 ≤ (u - q - 1)) (f2 : 0 ≤ (g - d)) (k0 : ly_hv cst h 19978 0 = some (u)) (k1 : ly_hv cst h 19977 0 = some (g)) (k2 : ly_hv cst h 61000 (p - q) = some 1) (k3 : ly_hv cst h 20024 0 = some (m)) (l0 : hp_a l 0 94) (l1 : hp_i l 1 (p)) (l2 : hp_i l 2 (q)) (l3 : hp_i l 3 (s)) (l4 : hp_i l 4 (y)) (l5 : hp_i l 5 (d)) (l6 : hp_i l 6 (w)) (e0 : ∀ (l' : am_L) (h_9' : am_H) (y0 : Int32) (y1 : Int32) (y2 : Int32) (y3 : Int32) (y4 : Int32) (y5 : Int32) (y6 : Int32), y0.toInt = (w) → y1.toInt = (d) → y2.toInt = (y) → y3.toInt = (s) → y4.toInt = (q) → y5.toInt = (p) → y6.toInt = 1 → ly_hy m_tt ly_TH h_9' → ly_fr cst [20017] h h_9' → h.length ≤ h_9'.length → ly_hv cst h_9' 20017 0 = some (vv) → hp_a l' 0 94 → hp_F cst strs Φ D M 111 l' [.int y0, .int y1, .int y2, .int y3, .int y4, .int y5, .int y6, .ref 94] h_9') : hp_F cst strs Φ D M 5 l [.long x0, .ref 94] h := by
  refine hp_arc c hM nxpk_k hD [p, q, s, y, d, w, u, g, vv, m] rfl hy (hp_Bc (z := p) rfl b0 t0 (hp_Bc (z := q) rfl b1 t1 (hp_Bc (z := s) rfl b2 t2 (hp_Bc (z := y) rfl b3 t3 (hp_Bc (z := d) rfl b4 t4 (hp_Bc (z := w) rfl b5 t5 (hp_Bc (z := u) rfl b6 t6 (hp_Bc (z := g) rfl b7 t7 (hp_Bc (z := vv) rfl b8 t8 (hp_Bc (z := m) rfl b9 t9 hp_Bn)))))))))) (hp_Fc (z := ((-1) + ((-1) * p + (1 * u + 0)))) rfl (by omega) (hp_Fc (z := ((-1) + ((-1) * q + (1 * u + 0)))) rfl (by omega) (hp_Fc (z := (0 + ((-1) * d + (1 * g + 0)))) rfl (by omega) hp_Fn))) (hp_Kc (zi := (0 + 0)) (zv := (0 + (1 * u + 0))) k0 rfl rfl (by omega) (by omega) (hp_Kc (zi := (0 + 0)) (zv := (0 + (1 * g + 0))) k1 rfl rfl (by omega) (by omega) (hp_Kc (zi := (0 + (1 * p + ((-1) * q + 0)))) (zv := (1 + 0)) k2 rfl rfl (by omega) (by omega) (hp_Kc (zi := (0 + 0)) (zv := (0 + (1 * m + 0))) k3 rfl rfl (by omega) (by omega) hp_Kn)))) (hp_La l0 (hp_Li (z := (0 + (1 * p + 0))) l1 rfl (by omega) (hp_Li (z := (0 + (1 * q + 0))) l2 rfl (by omega) (hp_Li (z := (0 + (1 * s + 0))) l3 rfl (by omega) (hp_Li (z := (0 + (1 * y + 0))) l4 rfl (by omega) (hp_Li (z := (0 + (1 * d + 0))) l5 rfl (by omega) (hp_Li (z := (0 + (1 * w + 0))) l6 rfl (by omega) hp_Ln))))))) (hp_Sj (z := (0 + (1 * vv + 0))) rfl (by omega) (hp_Sa trivial)) ?_ ?_
  · intro p hp ys l' st_9' h_9' hys a1_9 a2 a3 gZ gL gS
    rcases List.mem_cons.mp hp with rfl | hp
    · obtain rfl := hp_y0 hys
      obtain ⟨y0, t0, rfl, q0, g0⟩ := hp_gSi (z := (0 + (1 * w + 0))) gS rfl
      obtain ⟨y1, t1, rfl, q1_9, g1⟩ := hp_gSi (z := (0 + (1 * d + 0))) g0 rfl
      obtain ⟨y2, t2, rfl, q2_9, g2⟩ := hp_gSi (z := (0 + (1 * y + 0))) g1 rfl
      obtain ⟨y3, t3, rfl, q3_9, g3_9⟩ := hp_gSi (z := (0 + (1 * s + 0))) g2 rfl
      obtain ⟨y4, t4, rfl, q4_9, g4⟩ := hp_gSi (z := (0 + (1 * q + 0))) g3_9 rfl
      obtain ⟨y5, t5, rfl, q5_9, g5_9⟩ := hp_gSi (z := (0 + (1 * p + 0))) g4 rfl
      obtain ⟨y6, t6, rfl, q6_9, g6⟩ := hp_gSi (z := (1 + 0)) g5_9 rfl
      obtain ⟨t7, rfl, g7⟩ := hp_gSa g6 (by decide)
      cases hp_gSn g7
      exact e0 l' h_9' y0 y1 y2 y3 y4 y5 y6 (by omega) (by omega) (by omega) (by omega) (by omega) (by omega) (by omega) a1_9 a2 a3 (hp_gK (zi := (0 + 0)) (zv := (0 + (1 * vv + 0))) gZ.2.2.2 (List.mem_of_getElem? (i := 0) rfl) rfl rfl (by omega) (by omega)) (hp_gLa gL (List.mem_of_getElem? (i := 0) rfl) (by decide))
    cases hp
  · intro p hp ys v_9 h_9' hys a1_9 a2 a3 gZ gS
    cases hp
theorem nxpr_k : hp_chk 336 114 1 [(0, (-2147483648), 2147483647)] [] [(0, .inr (.inr (.inl (some 94))))] [.inl (0, [(0, 1)])] [] [] 2 [] [([], 1, [(0, (-2147483648), 2147483647)], [], [], [.inl (0, [(0, 1)])], [])] = true := by decide +kernel
theorem nxpr {cst : am_K} {strs : List Nat} {Φ : am_Q → Prop} {D : Nat} {M : am_M} {h : am_H} {l : am_L} (c : hp_C cst strs D) (hM : m_P[336]? = some M) (hD : (2 : Int) ≤ (D : Int) + 1) (hy : ly_hy m_tt ly_TH h) (a : Int) (x0 : Int32) (hx0 : x0.toInt = (a)) (b0 : (-2147483648) ≤ a) (t0 : a ≤ 2147483647) (l0 : hp_a l 0 94) (r0 : ∀ (h_9' : am_H) (y0 : Int32), y0.toInt = (a) → ly_hy m_tt ly_TH h_9' → ly_fr cst [] h h_9' → h.length ≤ h_9'.length → Φ (some (.int y0), h_9', 0, 0)) : hp_F cst strs Φ D M 114 l [.int x0] h := by
  refine hp_arc c hM nxpr_k hD [a] rfl hy (hp_Bc (z := a) rfl b0 t0 hp_Bn) hp_Fn hp_Kn (hp_La l0 hp_Ln) (hp_Si (z := (0 + (1 * a + 0))) rfl (by omega) trivial) ?_ ?_
  · intro p_9 hp ys l' st_9' h_9' hys a1_9 a2 a3 gZ gL gS
    cases hp
  · intro p_9 hp ys v_9 h_9' hys a1_9 a2 a3 gZ gS
    rcases List.mem_cons.mp hp with rfl | hp
    · obtain rfl := hp_y0 hys
      cases v_9 with
      | none => cases gS
      | some wz =>
        obtain ⟨y0, t0, s0_9, q0, -⟩ := hp_gSi (z := (0 + (1 * a + 0))) gS rfl
        cases s0_9
        exact r0 h_9' y0 (by omega) a1_9 a2 a3
    cases hp
/-- beginMatter where there is one WORD alone and room: a contract of its own -/
noncomputable def ngy : ly_C := (([(0, 1, (0, [])), (0, 2, (0, [])), (0, 3, (0, [])), (0, 4, (0, [])), (0, 5, (0, [])), (0, 6, (0, [])), (2, 7170, (0, [])), (2, 1280, (0, []))], 8, [(0, (-1), 119), (1, 0, 119), (2, 0, 5), (3, 0, 9), (4, 0, 399), (5, 0, 9999), (6, 0, 99), (7, 1, 1152921504606846976)], [], [(0, .inr (.inr (.inl (some 16)))), (1, .inl (0, [(0, 1)])), (2, .inl (0, [(1, 1)])), (3, .inl (0, [(2, 1)])), (4, .inl (0, [(3, 1)])), (5, .inl (0, [(4, 1)])), (6, .inl (0, [(5, 1)]))], [], [(60002, (0, []), (177, [(6, 19)])), (7170, (0, []), (0, [(6, 1)])), (261, (0, []), (1, [])), (768, (0, []), (1, [])), (1280, (0, []), (0, [(7, 1)]))]), [([], 8, [(0, (-1), 119), (1, 0, 119), (2, 0, 5), (3, 0, 9), (4, 0, 399), (5, 0, 9999), (6, 0, 99), (7, 1, 1152921504606846976)], [], [], [.inl (0, [(6, 1)])], [(60002, (0, []), (196, [(6, 19)])), (7170, (0, []), (1, [(6, 1)])), (7424, (0, [(6, 1)]), (1, [])), (45319, (0, [(6, 1)]), (0, [])), (45313, (0, [(6, 1)]), (0, [(0, 1)])), (45315, (0, [(6, 1)]), (0, [(2, 1)])), (45317, (0, [(6, 1)]), (0, [(4, 1)])), (45312, (0, [(6, 1)]), (0, [(7, 1)])), (45571, (0, [(6, 1)]), (0, [])), (46339, (0, [(6, 1)]), (0, []))])], [7170, 7182, 8704, 8960, 9216, 9472, 60002], (6, []), 19, 261)
theorem ngy_k : mk_chk sx_KK ly_Y 6000 ([], 8, [(0, (-1), 119), (1, 0, 119), (2, 0, 5), (3, 0, 9), (4, 0, 399), (5, 0, 9999), (6, 0, 99), (7, 1, 1152921504606846976)], [], [(0, .inr (.inr (.inl (some 16)))), (1, .inl (0, [(0, 1)])), (2, .inl (0, [(1, 1)])), (3, .inl (0, [(2, 1)])), (4, .inl (0, [(3, 1)])), (5, .inl (0, [(4, 1)])), (6, .inl (0, [(5, 1)])), (7, .inr (.inl (0, [(7, 1)])))], [], [(60002, (0, []), (177, [(6, 19)])), (7170, (0, []), (0, [(6, 1)])), (261, (0, []), (1, [])), (768, (0, []), (1, [])), (1280, (0, []), (0, [(7, 1)]))]) (0, [(6, 1)]) ngy = true := by decide +kernel
theorem ng_run {cst : am_K} {strs : List Nat} {D : Nat} {h : am_H} (gC : ly_gC sx_KK cst) (hstr : ∀ a_9, 8 ≤ a_9 → a_9 < 12 → a_9 ∈ strs) (hY : ∀ d_9, d_9 < D → ly_Yok cst m_cl m_tt m_P strs ly_TH ly_Y d_9) (hD : (6 : Int) ≤ (D : Int)) (hy : ly_hy m_tt ly_TH h) {i1 i2 i3 i4 i5 i6 : Int32} {s v : Int} (a0 : -1 ≤ i1.toInt) (a1 : i1.toInt ≤ 119) (b0 : 0 ≤ i2.toInt) (b1 : i2.toInt ≤ 119) (c0 : 0 ≤ i3.toInt) (c1 : i3.toInt ≤ 5) (d0 : 0 ≤ i4.toInt) (d1 : i4.toInt ≤ 9) (e0 : 0 ≤ i5.toInt) (e1 : i5.toInt ≤ 399) (f0 : 0 ≤ i6.toInt) (f1 : i6.toInt ≤ 9999) (s0 : 0 ≤ s) (s1 : s ≤ 99) (v0 : 1 ≤ v) (v1 : v ≤ 1152921504606846976)
    (kl : ly_hv cst h 60002 0 = some (177 + 19 * s)) (ks : ly_hv cst h 7170 0 = some s) (kt : ly_hv cst h 261 0 = some 1) (kk : ly_hv cst h 768 0 = some 1) (kv : ly_hv cst h 1280 0 = some v) :
    ∃ r_9, am_Run cst m_cl m_tt m_P strs sx_bi D 133 [.ref 16, .int i1, .int i2, .int i3, .int i4, .int i5, .int i6] h r_9 ∧ (∃ a_9 : Int32, r_9.1 = some (.int a_9) ∧ a_9.toInt = s) ∧ r_9.2.2.1 ≤ 19 ∧ r_9.2.2.2 ≤ 261 ∧ ly_hy m_tt ly_TH r_9.2.1 ∧ ly_fr cst [7170, 7182, 8704, 8960, 9216, 9472, 60002] h r_9.2.1 ∧ ly_hv cst r_9.2.1 60002 0 = some (196 + 19 * s) ∧ ly_hv cst r_9.2.1 7170 0 = some (s + 1) ∧ ly_hv cst r_9.2.1 7424 s = some 1 ∧ ly_hv cst r_9.2.1 45319 s = some 0 ∧ ly_hv cst r_9.2.1 45313 s = some i1.toInt ∧ ly_hv cst r_9.2.1 45315 s = some i3.toInt ∧ ly_hv cst r_9.2.1 45317 s = some i5.toInt ∧ ly_hv cst r_9.2.1 45312 s = some v ∧ ly_hv cst r_9.2.1 45571 s = some 0 ∧ ly_hv cst r_9.2.1 46339 s = some 0 := by
  obtain ⟨M_9, hM_9, hl⟩ := hp_M (mi := 133) (k := 7) (by decide +kernel)
  have C_9 := mk_chk_ok gC hstr ngy_k D hY
  have gB : ly_gB (hp_nu [i1.toInt, i2.toInt, i3.toInt, i4.toInt, i5.toInt, i6.toInt, s, v]) [(0, (-1), 119), (1, 0, 119), (2, 0, 5), (3, 0, 9), (4, 0, 399), (5, 0, 9999), (6, 0, 99), (7, 1, 1152921504606846976)] := hp_Bc (z := i1.toInt) rfl a0 a1 (hp_Bc (z := i2.toInt) rfl b0 b1 (hp_Bc (z := i3.toInt) rfl c0 c1 (hp_Bc (z := i4.toInt) rfl d0 d1 (hp_Bc (z := i5.toInt) rfl e0 e1 (hp_Bc (z := i6.toInt) rfl f0 f1 (hp_Bc (z := s) rfl s0 s1 (hp_Bc (z := v) rfl v0 v1 hp_Bn)))))))
  have gK : ly_gK cst (hp_nu [i1.toInt, i2.toInt, i3.toInt, i4.toInt, i5.toInt, i6.toInt, s, v]) h [(60002, (0, []), (177, [(6, 19)])), (7170, (0, []), (0, [(6, 1)])), (261, (0, []), (1, [])), (768, (0, []), (1, [])), (1280, (0, []), (0, [(7, 1)]))] := hp_Kc (zi := 0) (zv := (177 + (19 * s + 0))) kl rfl rfl (by omega) (by omega) (hp_Kc (zi := 0) (zv := (0 + (1 * s + 0))) ks rfl rfl (by omega) (by omega) (hp_Kc (zi := 0) (zv := 1) kt rfl rfl (by omega) (by omega) (hp_Kc (zi := 0) (zv := 1) kk rfl rfl (by omega) (by omega) (hp_Kc (zi := 0) (zv := (0 + (1 * v + 0))) kv rfl rfl (by omega) (by omega) hp_Kn))))
  have gL : ly_gL (hp_nu [i1.toInt, i2.toInt, i3.toInt, i4.toInt, i5.toInt, i6.toInt, s, v]) h.length [(0, .inr (.inr (.inl (some 16)))), (1, .inl (0, [(0, 1)])), (2, .inl (0, [(1, 1)])), (3, .inl (0, [(2, 1)])), (4, .inl (0, [(3, 1)])), (5, .inl (0, [(4, 1)])), (6, .inl (0, [(5, 1)]))] (lv_args 0 [.ref 16, .int i1, .int i2, .int i3, .int i4, .int i5, .int i6]) := hp_La rfl (hp_Li (z := (0 + (1 * i1.toInt + 0))) ⟨i1, rfl, rfl⟩ rfl (by omega) (hp_Li (z := (0 + (1 * i2.toInt + 0))) ⟨i2, rfl, rfl⟩ rfl (by omega) (hp_Li (z := (0 + (1 * i3.toInt + 0))) ⟨i3, rfl, rfl⟩ rfl (by omega) (hp_Li (z := (0 + (1 * i4.toInt + 0))) ⟨i4, rfl, rfl⟩ rfl (by omega) (hp_Li (z := (0 + (1 * i5.toInt + 0))) ⟨i5, rfl, rfl⟩ rfl (by omega) (hp_Li (z := (0 + (1 * i6.toInt + 0))) ⟨i6, rfl, rfl⟩ rfl (by omega) hp_Ln))))))
  have hnone : ∀ k_9, 8 ≤ k_9 → hp_nu [i1.toInt, i2.toInt, i3.toInt, i4.toInt, i5.toInt, i6.toInt, s, v] k_9 = none := fun k_9 hk => List.getElem?_eq_none (by simpa using hk)
  obtain ⟨r_9, hrun, p1_9, p2_9, p3_9, p4_9, p5_9, p_9, hp, ν', q1_9, q2_9, q3_9⟩ := C_9 (hp_nu [i1.toInt, i2.toInt, i3.toInt, i4.toInt, i5.toInt, i6.toInt, s, v]) [.ref 16, .int i1, .int i2, .int i3, .int i4, .int i5, .int i6] h 6 M_9 hM_9 hl hy ⟨hnone, gB, hp_Fn, gK⟩ gL (ly_ev_c _ 6) hD
  rcases List.mem_cons.mp hp with rfl | hp
  · obtain ⟨ys, hys, rfl⟩ := hp_ext (n := 8) (xs := [i1.toInt, i2.toInt, i3.toInt, i4.toInt, i5.toInt, i6.toInt, s, v]) rfl (by decide +kernel) q1_9 q2_9
    obtain rfl := hp_y0 hys
    obtain ⟨v_9', h_9', ca, sa_9⟩ := r_9
    cases v_9' with
    | none => cases q3_9
    | some w_9 =>
      obtain ⟨y0, t0_9, z0, z1, -⟩ := hp_gSi (z := (0 + (1 * s + 0))) q3_9 rfl
      cases z0
      exact ⟨_, hrun, ⟨y0, rfl, by omega⟩, p1_9, p2_9, p3_9, p4_9, hp_gK (zi := 0) (zv := (196 + (19 * s + 0))) q2_9.2.2.2 (List.mem_of_getElem? (i := 0) rfl) rfl rfl (by omega) (by omega), hp_gK (zi := 0) (zv := (1 + (1 * s + 0))) q2_9.2.2.2 (List.mem_of_getElem? (i := 1) rfl) rfl rfl (by omega) (by omega), hp_gK (zi := (0 + (1 * s + 0))) (zv := 1) q2_9.2.2.2 (List.mem_of_getElem? (i := 2) rfl) rfl rfl (by omega) (by omega), hp_gK (zi := (0 + (1 * s + 0))) (zv := 0) q2_9.2.2.2 (List.mem_of_getElem? (i := 3) rfl) rfl rfl (by omega) (by omega), hp_gK (zi := (0 + (1 * s + 0))) (zv := (0 + (1 * i1.toInt + 0))) q2_9.2.2.2 (List.mem_of_getElem? (i := 4) rfl) rfl rfl (by omega) (by omega), hp_gK (zi := (0 + (1 * s + 0))) (zv := (0 + (1 * i3.toInt + 0))) q2_9.2.2.2 (List.mem_of_getElem? (i := 5) rfl) rfl rfl (by omega) (by omega), hp_gK (zi := (0 + (1 * s + 0))) (zv := (0 + (1 * i5.toInt + 0))) q2_9.2.2.2 (List.mem_of_getElem? (i := 6) rfl) rfl rfl (by omega) (by omega), hp_gK (zi := (0 + (1 * s + 0))) (zv := (0 + (1 * v + 0))) q2_9.2.2.2 (List.mem_of_getElem? (i := 7) rfl) rfl rfl (by omega) (by omega), hp_gK (zi := (0 + (1 * s + 0))) (zv := 0) q2_9.2.2.2 (List.mem_of_getElem? (i := 8) rfl) rfl rfl (by omega) (by omega), hp_gK (zi := (0 + (1 * s + 0))) (zv := 0) q2_9.2.2.2 (List.mem_of_getElem? (i := 9) rfl) rfl rfl (by omega) (by omega)⟩
  · cases hp
/-- a_9 call that may make cells -/
theorem hp_callc {cst : am_K} {strs : List Nat} {Φ : am_Q → Prop} {D mi pc : Nat} {M : am_M} {l : am_L} {st : List Value} {h : am_H} {tg na c ci : Nat} {fs : List (List ly_F)} {av st0 : List Value} {r : am_Q} (hM : m_P[mi]? = some M) (hI : hp_isV mi pc tg na ci = true) (hy : ly_hy m_tt ly_TH h) (ht : ly_ths ly_TH c = some (.inr (ci, fs))) (hst : st0.length = na) (hav : st0.reverse = .ref (16 + c) :: av) (hcat : (st.map fun v_9 => v_9.category).sum ≤ 8)
    (hrun : am_Run cst m_cl m_tt m_P strs sx_bi D tg (.ref (16 + c) :: av) h r) (k : hp_F cst strs (fun q_9 => Φ (q_9.1, q_9.2.1, r.2.2.1 + q_9.2.2.1, r.2.2.2 + q_9.2.2.2)) D M (pc + 3) l (r.1.toList ++ st) r.2.1) : hp_F cst strs Φ D M pc l (st0 ++ st) h := by
  unfold hp_isV at hI
  split at hI
  case h_2 => cases hI
  rename_i m_9 hm_9
  rw [Bool.and_eq_true, sx_beqn] at hI
  obtain ⟨c0_9, hI⟩ := hI
  split at hI
  case h_2 => cases hI
  rename_i ix X_9 hX
  simp only [Bool.and_eq_true, sx_beqn, sx_eq_iff] at hI
  obtain ⟨x1_9, x2_9, x3, hI⟩ := hI
  split at hI
  case h_2 => cases hI
  rename_i m_9' hm_9'
  simp only [Bool.and_eq_true, sx_beqn, sx_blt] at hI
  obtain ⟨t0_9, t1_9, t2_9⟩ := hI
  obtain ⟨M_9', hM_9', hmok, -⟩ := sx_tok_m mi m_9 hm_9 c0_9
  rw [hM] at hM_9'
  cases hM_9'
  obtain ⟨T', hT_9', -, -, h98, -⟩ := sx_tok_m tg m_9' hm_9' t0_9
  have hfind := hmok.2.2 _ _ hX
  have etake : (st0 ++ st).take X_9.2.1 = st0 := by rw [x2_9, ← hst]; exact List.take_left' rfl
  have edrop : (st0 ++ st).drop X_9.2.1 = st := by rw [x2_9, ← hst]; exact List.drop_left' rfl
  obtain ⟨xc, hx, vs, rfl, -⟩ := hy.2.1 _ _ ht
  obtain ⟨rr, hrr, hrr1⟩ := h98 (by omega)
  have hcc : am_c m_cl m_P strs (.invokevirtual ix) X_9 (st0 ++ st) h := by
    refine ⟨by rw [List.length_append]; omega, by rw [edrop]; exact hcat, x3, .ref (16 + c), av, T', by rw [etake]; exact hav, by rw [x1_9]; exact hT_9', 16 + c, rfl, Or.inl ⟨Nat.not_lt.mpr (Nat.le_add_right 16 c), ci, vs, rr, ?_, ?_, hrr1⟩⟩
    · rw [show 16 + c - 16 = c by omega]; exact hx
    · rw [← t1_9]; exact hrr
  refine sx_Fin_pre (dc := r.2.2.1) (ds := r.2.2.2) (f1 := (M, pc + 3, l, r.1.toList ++ st)) (h1 := r.2.1) (fun n2_9 q_9 hgo2 => ⟨n2_9 + 1, _, X_9, hfind, Or.inr (Or.inr (Or.inr (Or.inl ⟨r, q_9, hcc, ?_, ?_, rfl⟩)))⟩) ?_
  · rw [etake, hav, x1_9]; exact hrun
  · rw [edrop]; exact hgo2
  · obtain ⟨n_9, q_9, hgo, hΦ⟩ := k
    refine ⟨n_9, q_9, hgo, ?_⟩
    simp only [Nat.zero_add] at hΦ ⊢
    exact hΦ
/-- what a call that begins a matter answers and leaves: d the deed, 0 where the text has none -/
def ngA (ok : Prop) (d s a : Int) : Prop := (¬ ok → a = -2) ∧ (ok → d = 0 → a = -1) ∧ (ok → d ≠ 0 → s = 100 → a = -3) ∧ (ok → d ≠ 0 → s ≠ 100 → a = s)
theorem ngA_u {ok : Prop} {d s a b : Int} (A : ngA ok d s a) (B : ngA ok d s b) : a = b := by
  by_cases o : ok
  · by_cases w_9 : d = 0
    · rw [A.2.1 o w_9, B.2.1 o w_9]
    · by_cases z_9 : s = 100
      · rw [A.2.2.1 o w_9 z_9, B.2.2.1 o w_9 z_9]
      · rw [A.2.2.2 o w_9 z_9, B.2.2.2 o w_9 z_9]
  · rw [A.1 o, B.1 o]
def ngC (cst : am_K) (h2 : am_H) (g : Prop) (s u sh y d : Int) : Prop := (g → ly_hv cst h2 7170 0 = some (s + 1) ∧ ly_hv cst h2 60002 0 = some (196 + 19 * s) ∧ ly_hv cst h2 7424 s = some 1 ∧ ly_hv cst h2 45319 s = some 0 ∧ ly_hv cst h2 45313 s = some u ∧ ly_hv cst h2 45315 s = some sh ∧ ly_hv cst h2 45317 s = some y ∧ ly_hv cst h2 45312 s = some d ∧ ly_hv cst h2 45571 s = some 0 ∧ ly_hv cst h2 46339 s = some 0) ∧ (¬ g → ly_hv cst h2 7170 0 = some s ∧ ly_hv cst h2 60002 0 = some (177 + 19 * s))
def ngM (cst : am_K) (h h2 : am_H) (g : Prop) (s w sh y d : Int) : Prop := (g → ly_hv cst h2 20024 0 = some (s + 1) ∧ ly_hv cst h2 30464 s = some 0 ∧ ly_hv cst h2 28416 s = some w ∧ ly_hv cst h2 29184 s = some sh ∧ ly_hv cst h2 29696 s = some y ∧ ly_hv cst h2 30208 s = some d) ∧ (¬ g → ly_hv cst h2 20024 0 = some s) ∧ ∀ r j v, (r = 28416 ∨ r = 60091 ∨ r = 29184 ∨ r = 29696 ∨ r = 30208) → j ≠ s → ly_hv cst h r j = some v → ly_hv cst h2 r j = some v
abbrev ng_mc : List Nat := [257, 261, 262, 768, 1024, 1280, 7170, 7182, 8704, 8960, 9216, 9472, 60002]
abbrev ng_mb : List Nat := [20024, 20054, 28416, 28672, 28928, 29184, 29440, 29696, 29952, 30208, 30464, 32000, 32768, 35584, 35840, 60091]
abbrev ng_mm : List Nat := [19969, 19970, 19971, 19972, 19973, 19974, 19975, 19976, 20017, 20024, 20054, 28416, 28672, 28928, 29184, 29440, 29696, 29952, 30208, 30464, 32000, 32768, 35584, 35840, 60091]
theorem sw_1 {kd vl : Int → Int} {t : Nat} (e1 : t = 1) (e2 : kd 0 = 1) : sw kd vl t = vl 0 := if_pos ⟨e1, e2⟩
theorem sw_0 {kd vl : Int → Int} {t : Nat} (h : ¬ (t = 1 ∧ kd 0 = 1)) : sw kd vl t = 0 := if_neg h
/-- beginMatter behind takeTokens -/
theorem ngb_run {cst : am_K} {strs : List Nat} {D : Nat} {h : am_H} (c : hp_C cst strs D) (hD : (6 : Int) ≤ (D : Int) + 1) (hy : ly_hy m_tt ly_TH h) {i1 i2 i3 i4 i5 i6 : Int32} {s : Int} {t : Nat} {kd vl : Int → Int} (a0 : -1 ≤ i1.toInt) (a1 : i1.toInt ≤ 119) (b0 : 0 ≤ i2.toInt) (b1 : i2.toInt ≤ 119) (c0 : 0 ≤ i3.toInt) (c1 : i3.toInt ≤ 5) (d0 : 0 ≤ i4.toInt) (d1 : i4.toInt ≤ 9) (e0 : 0 ≤ i5.toInt) (e1 : i5.toInt ≤ 399) (f0 : 0 ≤ i6.toInt) (f1 : i6.toInt ≤ 9999) (s0 : 0 ≤ s) (s1 : s ≤ 100)
    (kl : ly_hv cst h 60002 0 = some (177 + 19 * s)) (ks : ly_hv cst h 7170 0 = some s) (t12 : (t : Int) ≤ 1200) (kt : ly_hv cst h 261 0 = some (t : Int)) (rows : ∀ j_9 : Nat, j_9 < t → ly_hv cst h 768 (j_9 : Int) = some (kd (j_9 : Int)) ∧ ly_hv cst h 1280 (j_9 : Int) = some (vl (j_9 : Int))) (kb : ∀ j_9 : Nat, j_9 < t → 1 ≤ kd (j_9 : Int) ∧ kd (j_9 : Int) ≤ 61) (vB9 : vB kd vl t) :
    ∃ r_9, am_Run cst m_cl m_tt m_P strs sx_bi (D + 1) 133 [.ref 16, .int i1, .int i2, .int i3, .int i4, .int i5, .int i6] h r_9 ∧ (∃ a_9 : Int32, r_9.1 = some (.int a_9) ∧ ngA True (sw kd vl t) s a_9.toInt) ∧ r_9.2.2.1 ≤ 19 ∧ r_9.2.2.2 ≤ 261 ∧ ly_hy m_tt ly_TH r_9.2.1 ∧ ly_fr cst [7170, 7182, 8704, 8960, 9216, 9472, 60002] h r_9.2.1 ∧ ngC cst r_9.2.1 (sw kd vl t ≠ 0 ∧ s ≠ 100) s i1.toInt i3.toInt i5.toInt (sw kd vl t) := by
  obtain ⟨M_9, hM_9, hl⟩ := hp_M (mi := 133) (k := 7) (by decide +kernel)
  have fin_9 : ∀ (Φ' : am_Q → Prop), hp_F cst strs Φ' D M_9 0 (lv_args 0 [.ref 16, .int i1, .int i2, .int i3, .int i4, .int i5, .int i6]) [] h → (∀ r_9, Φ' r_9 → (∃ a_9 : Int32, r_9.1 = some (.int a_9) ∧ ngA True (sw kd vl t) s a_9.toInt) ∧ r_9.2.2.1 ≤ 19 ∧ r_9.2.2.2 ≤ 261 ∧ ly_hy m_tt ly_TH r_9.2.1 ∧ ly_fr cst [7170, 7182, 8704, 8960, 9216, 9472, 60002] h r_9.2.1 ∧ ngC cst r_9.2.1 (sw kd vl t ≠ 0 ∧ s ≠ 100) s i1.toInt i3.toInt i5.toInt (sw kd vl t)) → ∃ r_9, am_Run cst m_cl m_tt m_P strs sx_bi (D + 1) 133 [.ref 16, .int i1, .int i2, .int i3, .int i4, .int i5, .int i6] h r_9 ∧ (∃ a_9 : Int32, r_9.1 = some (.int a_9) ∧ ngA True (sw kd vl t) s a_9.toInt) ∧ r_9.2.2.1 ≤ 19 ∧ r_9.2.2.2 ≤ 261 ∧ ly_hy m_tt ly_TH r_9.2.1 ∧ ly_fr cst [7170, 7182, 8704, 8960, 9216, 9472, 60002] h r_9.2.1 ∧ ngC cst r_9.2.1 (sw kd vl t ≠ 0 ∧ s ≠ 100) s i1.toInt i3.toInt i5.toInt (sw kd vl t) := by
    intro Φ' ⟨n_9', r_9, hgo, hΦ⟩ k_9
    have := k_9 _ hΦ
    simp only [Nat.zero_add] at this
    exact ⟨r_9, Or.inr ⟨M_9, n_9', hM_9, hl, hgo⟩, this⟩
  have ml_9 : ∀ {a_9 b_9 : am_H}, ly_fr cst [] a_9 b_9 → ly_fr cst [7170, 7182, 8704, 8960, 9216, 9472, 60002] a_9 b_9 := fun g_9 r_9 i_9 v_9 _ e_9 => g_9 r_9 i_9 v_9 rfl e_9
  by_cases W_9 : t = 1 ∧ kd 0 = 1
  · obtain ⟨g1, g2⟩ := W_9
    have ew : sw kd vl t = vl 0 := sw_1 g1 g2
    obtain ⟨kk, kv⟩ := rows 0 (by omega)
    have kk : ly_hv cst h 768 0 = some (kd 0) := kk
    have kv : ly_hv cst h 1280 0 = some (vl 0) := kv
    rw [g2] at kk
    have vb : 1 ≤ vl 0 ∧ vl 0 < 1152921504606846976 := (vB9 0 (by omega)).1 g2
    rw [g1] at kt
    have kt : ly_hv cst h 261 0 = some 1 := kt
    have dn : sw kd vl t ≠ 0 := by rw [ew]; omega
    by_cases z_9 : s = 100
    · rw [z_9] at ks
      refine fin_9 (fun r_9 => ∃ a_9 : Int32, r_9.1 = some (.int a_9) ∧ a_9.toInt = -3 ∧ r_9.2.2.1 = 0 ∧ r_9.2.2.2 = 0 ∧ ly_hy m_tt ly_TH r_9.2.1 ∧ ly_fr cst [] h r_9.2.1) (nw2 c hM_9 hD hy i1.toInt i2.toInt i3.toInt i4.toInt i5.toInt i6.toInt (vl 0) i1.le_toInt i1.toInt_le i2.le_toInt i2.toInt_le i3.le_toInt i3.toInt_le i4.le_toInt i4.toInt_le i5.le_toInt i5.toInt_le i6.le_toInt i6.toInt_le vb.1 (by omega) kt kk kv ks rfl ⟨i1, rfl, rfl⟩ ⟨i2, rfl, rfl⟩ ⟨i3, rfl, rfl⟩ ⟨i4, rfl, rfl⟩ ⟨i5, rfl, rfl⟩ ⟨i6, rfl, rfl⟩ (fun h2 a_9 ha_9 u1_9 u2_9 u3 => ⟨a_9, rfl, ha_9, rfl, rfl, u1_9, u2_9⟩)) (fun r_9 ⟨a_9, r1_9, r2, r3, r4, r5_9, r6⟩ => ⟨⟨a_9, r1_9, fun no_9 => absurd trivial no_9, fun _ nw => absurd nw dn, fun _ _ _ => r2, fun _ _ nz => absurd z_9 nz⟩, by omega, by omega, r5_9, ml_9 r6, fun g_9 => absurd z_9 g_9.2, fun _ => ⟨by rw [z_9]; exact r6 _ _ _ rfl ks, r6 _ _ _ rfl kl⟩⟩)
    · obtain ⟨r_9, hrun, ⟨a_9, ra, ea⟩, p1_9, p2_9, p3_9, p4_9, k1_9, k2_9, k3_9⟩ := ng_run (D := D + 1) (v := vl 0) c.1 c.2.1 (fun d_9 hd => c.2.2 d_9 (by omega)) (by omega) hy a0 a1 b0 b1 c0 c1 d0 d1 e0 e1 f0 f1 s0 (by omega) vb.1 (by omega) kl ks kt kk kv
      rw [← ew] at k3_9
      exact ⟨r_9, hrun, ⟨a_9, ra, fun no_9 => absurd trivial no_9, fun _ nw => absurd nw dn, fun _ _ e_9 => absurd e_9 z_9, fun _ _ _ => ea⟩, p1_9, p2_9, p3_9, p4_9, fun _ => ⟨k2_9, k1_9, k3_9⟩, fun no_9 => absurd ⟨dn, z_9⟩ no_9⟩
  · have ew : sw kd vl t = 0 := sw_0 W_9
    have post_9 : ∀ r_9 : am_Q, (∃ a_9 : Int32, r_9.1 = some (.int a_9) ∧ a_9.toInt = -1 ∧ r_9.2.2.1 = 0 ∧ r_9.2.2.2 = 0 ∧ ly_hy m_tt ly_TH r_9.2.1 ∧ ly_fr cst [] h r_9.2.1) → (∃ a_9 : Int32, r_9.1 = some (.int a_9) ∧ ngA True (sw kd vl t) s a_9.toInt) ∧ r_9.2.2.1 ≤ 19 ∧ r_9.2.2.2 ≤ 261 ∧ ly_hy m_tt ly_TH r_9.2.1 ∧ ly_fr cst [7170, 7182, 8704, 8960, 9216, 9472, 60002] h r_9.2.1 ∧ ngC cst r_9.2.1 (sw kd vl t ≠ 0 ∧ s ≠ 100) s i1.toInt i3.toInt i5.toInt (sw kd vl t) := fun r_9 ⟨a_9, r1_9, r2, r3, r4, r5_9, r6⟩ => ⟨⟨a_9, r1_9, fun no_9 => absurd trivial no_9, fun _ _ => r2, fun _ w_9 => absurd ew w_9, fun _ w_9 => absurd ew w_9⟩, by omega, by omega, r5_9, ml_9 r6, fun g_9 => absurd ew g_9.1, fun _ => ⟨r6 _ _ _ rfl ks, r6 _ _ _ rfl kl⟩⟩
    by_cases z_9 : t = 1
    · obtain ⟨kk, -⟩ := rows 0 (by omega)
      have kk : ly_hv cst h 768 0 = some (kd 0) := kk
      have b_9 := kb 0 (by omega)
      have b_9 : 1 ≤ kd 0 ∧ kd 0 ≤ 61 := b_9
      have n1_9 : kd 0 ≠ 1 := fun e_9 => W_9 ⟨z_9, e_9⟩
      rw [z_9] at kt
      have kt : ly_hv cst h 261 0 = some 1 := kt
      exact fin_9 _ (nw1 c hM_9 hD hy i1.toInt i2.toInt i3.toInt i4.toInt i5.toInt i6.toInt (kd 0) i1.le_toInt i1.toInt_le i2.le_toInt i2.toInt_le i3.le_toInt i3.toInt_le i4.le_toInt i4.toInt_le i5.le_toInt i5.toInt_le i6.le_toInt i6.toInt_le (by omega) (by omega) kt kk rfl ⟨i1, rfl, rfl⟩ ⟨i2, rfl, rfl⟩ ⟨i3, rfl, rfl⟩ ⟨i4, rfl, rfl⟩ ⟨i5, rfl, rfl⟩ ⟨i6, rfl, rfl⟩ (fun h2 a_9 ha_9 u1_9 u2_9 u3 => ⟨a_9, rfl, ha_9, rfl, rfl, u1_9, u2_9⟩)) post_9
    · exact fin_9 _ (nw0 c hM_9 hD hy i1.toInt i2.toInt i3.toInt i4.toInt i5.toInt i6.toInt (t : Int) i1.le_toInt i1.toInt_le i2.le_toInt i2.toInt_le i3.le_toInt i3.toInt_le i4.le_toInt i4.toInt_le i5.le_toInt i5.toInt_le i6.le_toInt i6.toInt_le (by omega) t12 kt (hp_ne (by omega)) rfl ⟨i1, rfl, rfl⟩ ⟨i2, rfl, rfl⟩ ⟨i3, rfl, rfl⟩ ⟨i4, rfl, rfl⟩ ⟨i5, rfl, rfl⟩ ⟨i6, rfl, rfl⟩ (fun h2 a_9 ha_9 u1_9 u2_9 u3 => ⟨a_9, rfl, ha_9, rfl, rfl, u1_9, u2_9⟩)) post_9
/-- begins of the reference -/
theorem nbz_run {cst : am_K} {strs : List Nat} {D : Nat} {h : am_H} (cc : ∀ d_9, hp_C cst strs d_9) (hD : 7 ≤ D) (hy : ly_hy m_tt ly_TH h) {i1 i2 i3 i4 i5 i6 i7 : Int32} {m g v : Int} (z0 : 0 ≤ i1.toInt) (z1 : i1.toInt ≤ 1) (m0 : 0 ≤ m) (m1 : m ≤ 99) (g0 : 0 ≤ g) (g1 : g ≤ 399) (v0 : 1 ≤ v) (v1 : v ≤ 1152921504606846976) (km : ly_hv cst h 20024 0 = some m) (kg : ly_hv cst h 19977 0 = some g) (kv : ly_hv cst h 20017 0 = some v) :
    ∃ r_9, am_Run cst m_cl m_tt m_P strs sx_bi (D + 1) 335 [.ref 94, .int i1, .int i2, .int i3, .int i4, .int i5, .int i6, .int i7] h r_9 ∧ (fun r_9 : am_Q => ∃ w_9 : Int32, r_9.1 = some (.int w_9) ∧ r_9.2.2.1 = 0 ∧ r_9.2.2.2 = 0 ∧ ly_hy m_tt ly_TH r_9.2.1 ∧ w_9.toInt = m ∧ ly_fr cst ng_mb h r_9.2.1 ∧ ly_hv cst r_9.2.1 20024 0 = some (m + 1) ∧ ly_hv cst r_9.2.1 30464 m = some 0 ∧ ly_hv cst r_9.2.1 28416 m = some i1.toInt ∧ ly_hv cst r_9.2.1 29184 m = some i4.toInt ∧ ly_hv cst r_9.2.1 29696 m = some i6.toInt ∧ ly_hv cst r_9.2.1 30208 m = some v ∧ ∀ rg j_9 v, (rg = 28416 ∨ rg = 60091 ∨ rg = 29184 ∨ rg = 29696 ∨ rg = 30208) → j_9 ≠ m → ly_hv cst h rg j_9 = some v → ly_hv cst r_9.2.1 rg j_9 = some v) r_9 := by
  obtain ⟨M_9, hM_9, hl⟩ := hp_M (mi := 335) (k := 8) (by decide +kernel)
  have c_9 : hp_C cst strs D := cc _
  have go_9 : hp_F cst strs (fun r_9 : am_Q => ∃ w_9 : Int32, r_9.1 = some (.int w_9) ∧ r_9.2.2.1 = 0 ∧ r_9.2.2.2 = 0 ∧ ly_hy m_tt ly_TH r_9.2.1 ∧ w_9.toInt = m ∧ ly_fr cst ng_mb h r_9.2.1 ∧ ly_hv cst r_9.2.1 20024 0 = some (m + 1) ∧ ly_hv cst r_9.2.1 30464 m = some 0 ∧ ly_hv cst r_9.2.1 28416 m = some i1.toInt ∧ ly_hv cst r_9.2.1 29184 m = some i4.toInt ∧ ly_hv cst r_9.2.1 29696 m = some i6.toInt ∧ ly_hv cst r_9.2.1 30208 m = some v ∧ ∀ rg j_9 v, (rg = 28416 ∨ rg = 60091 ∨ rg = 29184 ∨ rg = 29696 ∨ rg = 30208) → j_9 ≠ m → ly_hv cst h rg j_9 = some v → ly_hv cst r_9.2.1 rg j_9 = some v) D M_9 0 (lv_args 0 [.ref 94, .int i1, .int i2, .int i3, .int i4, .int i5, .int i6, .int i7]) [] h := by
    refine nb0 c_9 hM_9 (by omega) hy i1.toInt i2.toInt i3.toInt i4.toInt i5.toInt i6.toInt i7.toInt m g v z0 z1 i2.le_toInt i2.toInt_le i3.le_toInt i3.toInt_le i4.le_toInt i4.toInt_le i5.le_toInt i5.toInt_le i6.le_toInt i6.toInt_le i7.le_toInt i7.toInt_le m0 m1 g0 g1 v0 v1 km kg kv rfl ⟨i1, rfl, rfl⟩ ⟨i2, rfl, rfl⟩ ⟨i3, rfl, rfl⟩ ⟨i4, rfl, rfl⟩ ⟨i5, rfl, rfl⟩ ⟨i6, rfl, rfl⟩ ⟨i7, rfl, rfl⟩ (fun l1 h1 x0_9 x1_9 f0_9 f1_9 u1_9 u2_9 u3 k1_9 k2_9 k3_9 j0 j1 j2_9 j3_9 j4_9 j5_9 j6_9 j7_9 j8_9 => ?_)
    refine hp_stz (c := 111) hM_9 (by decide +kernel) u1_9 (show ly_ths ly_TH 111 = some (.inl (.boolean, 100, 0, 1)) from rfl) (by omega) (by omega) (ly_nar_z _).1 (ly_nar_z _).2 (fun h2 v1_9' v2' v3' => ?_)
    rw [nar_z1 (by omega) (by omega), f0_9, f1_9] at v3'
    have v3' : hp_p0 cst 28416 m i1.toInt h1 h2 := v3'
    have up_9 : ∀ r_9' j_9' v_9', r_9' ≠ 28416 → r_9' ≠ 60091 → ly_hv cst h1 r_9' j_9' = some v_9' → ly_hv cst h2 r_9' j_9' = some v_9' := fun r_9' j_9' v_9' n1_9 n2_9 e_9 => by
      rw [hp_p0_hv v3' (by decide) n1_9 (by
        rw [show ly_dg 28416 = [60091] from rfl]
        cases hh : ly_has r_9' [60091] with
        | false => rfl
        | true =>
          unfold ly_has at hh
          obtain ⟨q_9, hq, hb_9⟩ := List.any_eq_true.mp hh
          rw [List.mem_singleton.mp hq] at hb_9
          exact absurd (Nat.eq_of_beq_eq_true hb_9).symm n2_9)]
      exact e_9
    have w3_9 : ly_hv cst h2 28416 m = some i1.toInt := by
      rw [ly_hv0 (by decide)]
      exact v3'.1
    have o3_9 : ∀ j_9 v, j_9 ≠ m → ly_hv cst h1 28416 j_9 = some v → ly_hv cst h2 28416 j_9 = some v := fun j_9 v hj e_9 => by
      rw [ly_hv0 (by decide)] at e_9 ⊢
      rw [v3'.2 _ _ (Or.inr hj)]
      exact e_9
    have o4_9 := gz_oth (cst := cst) gz_m v3'
    refine nb1 c_9 hM_9 (by omega) v1_9' i1.toInt i2.toInt i3.toInt i4.toInt i5.toInt i6.toInt i7.toInt m g v z0 z1 i2.le_toInt i2.toInt_le i3.le_toInt i3.toInt_le i4.le_toInt i4.toInt_le i5.le_toInt i5.toInt_le i6.le_toInt i6.toInt_le i7.le_toInt i7.toInt_le m0 m1 g0 g1 v0 v1 (up_9 _ _ _ (by decide) (by decide) k1_9) (up_9 _ _ _ (by decide) (by decide) k2_9) (up_9 _ _ _ (by decide) (by decide) k3_9) j0 j1 j2_9 j3_9 j4_9 j5_9 j6_9 j7_9 j8_9 (fun l3 h3 x2_9 x3 f2_9 f3_9 a1_9 a2 a3 k4_9 k5_9 k6_9 p0_9 p1_9 p2_9 p3_9 p4_9 p5_9 p6_9 p7_9 p8_9 => ?_)
    refine hp_st (c := 114) hM_9 (by decide +kernel) a1_9 (show ly_ths ly_TH 114 = some (.inl (.int, 100, -2147483648, 2147483647)) from rfl) rfl (by omega) (by omega) x2_9.le_toInt x2_9.toInt_le (fun h4 b1 b2 b3 => ?_)
    rw [f2_9, f3_9] at b3
    have b3 : hp_put cst 29184 m i4.toInt h3 h4 := b3
    refine nb2 c_9 hM_9 (by omega) b1 i1.toInt i2.toInt i3.toInt i4.toInt i5.toInt i6.toInt i7.toInt m g v z0 z1 i2.le_toInt i2.toInt_le i3.le_toInt i3.toInt_le i4.le_toInt i4.toInt_le i5.le_toInt i5.toInt_le i6.le_toInt i6.toInt_le i7.le_toInt i7.toInt_le m0 m1 g0 g1 v0 v1 (by rw [b3.2 _ _ (Or.inl (by decide))]; exact k4_9) (by rw [b3.2 _ _ (Or.inl (by decide))]; exact k5_9) (by rw [b3.2 _ _ (Or.inl (by decide))]; exact k6_9) p0_9 p1_9 p2_9 p3_9 p4_9 p5_9 p6_9 p7_9 p8_9 (fun l5 h5 x4_9 x5_9 f4_9 f5_9 d1_9 d2_9 d3_9 k7_9 k8_9 k9 q0 q1_9 q2_9 q3_9 q4_9 q5_9 q6_9 q7_9 q8_9 => ?_)
    refine hp_st (c := 116) hM_9 (by decide +kernel) d1_9 (show ly_ths ly_TH 116 = some (.inl (.int, 100, -2147483648, 2147483647)) from rfl) rfl (by omega) (by omega) x4_9.le_toInt x4_9.toInt_le (fun h6 e1_9 e2_9 e3_9 => ?_)
    rw [f4_9, f5_9] at e3_9
    have e3_9 : hp_put cst 29696 m i6.toInt h5 h6 := e3_9
    refine nb3 c_9 hM_9 (by omega) e1_9 i1.toInt i2.toInt i3.toInt i4.toInt i5.toInt i6.toInt i7.toInt m g v z0 z1 i2.le_toInt i2.toInt_le i3.le_toInt i3.toInt_le i4.le_toInt i4.toInt_le i5.le_toInt i5.toInt_le i6.le_toInt i6.toInt_le i7.le_toInt i7.toInt_le m0 m1 g0 g1 v0 v1 (by rw [e3_9.2 _ _ (Or.inl (by decide))]; exact k7_9) (by rw [e3_9.2 _ _ (Or.inl (by decide))]; exact k8_9) (by rw [e3_9.2 _ _ (Or.inl (by decide))]; exact k9) q0 q1_9 q2_9 q3_9 q4_9 q5_9 q6_9 q7_9 q8_9 (fun l7 h7 x6 x7 f6_9 f7_9 n1_9 n2_9 n3_9 ka kb' kc_9' s0_9 s1_9 s2_9 s3_9 s4_9 s5 s6_9 s7 s8 => ?_)
    refine hp_stj (c := 118) hM_9 (by decide +kernel) n1_9 (show ly_ths ly_TH 118 = some (.inl (.long, 100, 0, 0)) from rfl) rfl (by omega) (by omega) (fun h8 t1_9 t2_9 t3_9 => ?_)
    rw [f6_9, f7_9] at t3_9
    have t3_9 : hp_put cst 30208 m v h7 h8 := t3_9
    refine nb4 c_9 hM_9 (by omega) t1_9 i1.toInt i2.toInt i3.toInt i4.toInt i5.toInt i6.toInt i7.toInt m g v z0 z1 i2.le_toInt i2.toInt_le i3.le_toInt i3.toInt_le i4.le_toInt i4.toInt_le i5.le_toInt i5.toInt_le i6.le_toInt i6.toInt_le i7.le_toInt i7.toInt_le m0 m1 g0 g1 v0 v1 (by rw [t3_9.2 _ _ (Or.inl (by decide))]; exact ka) (by rw [t3_9.2 _ _ (Or.inl (by decide))]; exact kb') (by rw [t3_9.2 _ _ (Or.inl (by decide))]; exact kc_9') s0_9 s1_9 s2_9 s3_9 s4_9 s5 s6_9 s7 s8 (fun l9 h9 x8 x9 f8_9 f9_9 y1 y2 y3 kd ke o0_9 o8_9 => ?_)
    obtain ⟨r_9, hrun, r1_9, r2, r3, rhy, rfr, rA, -, rB_9⟩ := bn_run (xm := x9) (xv := x8) (d := g) (cc (D - 1)) (by omega) y1 (by omega) (by omega) (by omega) (by omega) g0 g1 ke
    rw [show D - 1 + 1 = D by omega] at hrun
    refine hp_call (mi := 335) (pc := 123) (tg := 290) (na := 3) (c := 78) (ci := 12) (st0 := [.int x8, .int x9, .ref 94]) (st := []) (av := [.int x9, .int x8]) hM_9 (by decide +kernel) y1 rfl rfl rfl (by decide) hrun r2 r3 ?_
    rw [r1_9]
    rw [f8_9, f9_9] at rA
    rw [f9_9] at rB_9
    -- what stands from h2 on to the end, the four rows aside
    have st9_9 : ∀ r_9' j_9' v_9' h_9', ly_fr cst [] r_9.2.1 h_9' → ly_has r_9' [20024, 20054, 28672, 28928, 29440, 29952, 30464, 32000, 32768, 35584, 35840, 60091] = false → (r_9' ≠ 29184 ∨ j_9' ≠ m) → (r_9' ≠ 29696 ∨ j_9' ≠ m) → (r_9' ≠ 30208 ∨ j_9' ≠ m) → ly_hv cst h2 r_9' j_9' = some v_9' → ly_hv cst h_9' r_9' j_9' = some v_9' := fun r_9' j_9' v_9' h_9' f_9 hr n1_9' n2_9'_9 n3_9' e_9 => by
      refine f_9 _ _ _ rfl ((hp_sub2 rfl rfr : ly_fr cst [20024, 20054, 28672, 28928, 29440, 29952, 30464, 32000, 32768, 35584, 35840, 60091] _ _) _ _ _ hr ((hp_sub2 rfl y2 : ly_fr cst [20024, 20054, 28672, 28928, 29440, 29952, 30464, 32000, 32768, 35584, 35840, 60091] _ _) _ _ _ hr ?_))
      rw [t3_9.2 _ _ n3_9']
      refine (hp_sub2 rfl n2_9 : ly_fr cst [20024, 20054, 28672, 28928, 29440, 29952, 30464, 32000, 32768, 35584, 35840, 60091] _ _) _ _ _ hr ?_
      rw [e3_9.2 _ _ n2_9'_9]
      refine (hp_sub2 rfl d2_9 : ly_fr cst [20024, 20054, 28672, 28928, 29440, 29952, 30464, 32000, 32768, 35584, 35840, 60091] _ _) _ _ _ hr ?_
      rw [b3.2 _ _ n1_9']
      exact (hp_sub2 rfl a2 : ly_fr cst [20024, 20054, 28672, 28928, 29440, 29952, 30464, 32000, 32768, 35584, 35840, 60091] _ _) _ _ _ hr e_9
    have FF : ly_fr cst ng_mb h r_9.2.1 := ly_fr_tr (hp_sub2 rfl u2_9) (ly_fr_tr (hp_p0_fr v3' (by decide) rfl rfl) (ly_fr_tr (hp_sub2 rfl a2) (ly_fr_tr (hp_put_fr rfl b3) (ly_fr_tr (hp_sub2 rfl d2_9) (ly_fr_tr (hp_put_fr rfl e3_9) (ly_fr_tr (hp_sub2 rfl n2_9) (ly_fr_tr (hp_put_fr rfl t3_9) (ly_fr_tr (hp_sub2 rfl y2) (hp_sub2 rfl rfr)))))))))
    refine nb5 c_9 hM_9 (by omega) rhy m m0 m1 o0_9 o8_9 (fun hE a_9 ha_9 w1_9 w2_9 w3_9' => ⟨a_9, rfl, rfl, rfl, w1_9, ha_9, ly_fr_tr FF (hp_sub2 rfl w2_9), w2_9 _ _ _ rfl (rfr _ _ _ rfl kd), w2_9 _ _ _ rfl rA, st9_9 _ _ _ hE w2_9 rfl (Or.inl (by decide)) (Or.inl (by decide)) (Or.inl (by decide)) w3_9, ?_, ?_, ?_, fun rg j_9 v hr hj e_9 => ?_⟩)
    · refine w2_9 _ _ _ rfl (rfr _ _ _ rfl (y2 _ _ _ rfl ?_))
      rw [t3_9.2 _ _ (Or.inl (by decide))]
      refine n2_9 _ _ _ rfl ?_
      rw [e3_9.2 _ _ (Or.inl (by decide))]
      exact d2_9 _ _ _ rfl b3.1
    · refine w2_9 _ _ _ rfl (rfr _ _ _ rfl (y2 _ _ _ rfl ?_))
      rw [t3_9.2 _ _ (Or.inl (by decide))]
      exact n2_9 _ _ _ rfl e3_9.1
    · exact w2_9 _ _ _ rfl (rfr _ _ _ rfl (y2 _ _ _ rfl t3_9.1))
    · rcases hr with rfl | rfl | rfl | rfl | rfl
      · exact st9_9 _ _ _ hE w2_9 rfl (Or.inl (by decide)) (Or.inl (by decide)) (Or.inl (by decide)) (o3_9 j_9 v hj (u2_9 _ _ _ rfl e_9))
      · refine w2_9 _ _ _ rfl (rB_9 j_9 v hj (y2 _ _ _ rfl ?_))
        rw [t3_9.2 _ _ (Or.inl (by decide))]
        refine n2_9 _ _ _ rfl ?_
        rw [e3_9.2 _ _ (Or.inl (by decide))]
        refine d2_9 _ _ _ rfl ?_
        rw [b3.2 _ _ (Or.inl (by decide))]
        exact a2 _ _ _ rfl (o4_9 j_9 v hj (u2_9 _ _ _ rfl e_9))
      · exact st9_9 _ _ _ hE w2_9 rfl (Or.inr hj) (Or.inl (by decide)) (Or.inl (by decide)) (up_9 _ _ _ (by decide) (by decide) (u2_9 _ _ _ rfl e_9))
      · exact st9_9 _ _ _ hE w2_9 rfl (Or.inl (by decide)) (Or.inr hj) (Or.inl (by decide)) (up_9 _ _ _ (by decide) (by decide) (u2_9 _ _ _ rfl e_9))
      · exact st9_9 _ _ _ hE w2_9 rfl (Or.inl (by decide)) (Or.inl (by decide)) (Or.inr hj) (up_9 _ _ _ (by decide) (by decide) (u2_9 _ _ _ rfl e_9))
  obtain ⟨n_9', r_9, hgo, w_9, r1_9, r2, r3, r4⟩ := go_9
  simp only [Nat.zero_add] at r2 r3
  exact ⟨r_9, Or.inr ⟨M_9, n_9', hM_9, hl, hgo⟩, w_9, r1_9, r2, r3, r4⟩

def nok_c (p s y d u g : Int) : Prop := 0 ≤ p ∧ p < u ∧ 0 ≤ s ∧ s ≤ 5 ∧ 0 ≤ y ∧ y ≤ 9 ∧ 0 ≤ d ∧ d ≤ g
/-- of the class -/
theorem ncc_run {cst : am_K} {strs : List Nat} {D : Nat} {h : am_H} (cc : ∀ d_9, hp_C cst strs d_9) (hD : 8 ≤ D) (hy : ly_hy m_tt ly_TH h) {xp xs xy xd : Int32} {N : Nat} {u g s : Int} (n1 : (N : Int) ≤ 1200) (kn : ly_hv cst h 257 0 = some (N : Int)) (u0 : 0 ≤ u) (u1 : u ≤ 120) (ku : ly_hv cst h 1536 0 = some u) (g0 : 0 ≤ g) (g1 : g ≤ 399) (kg : ly_hv cst h 10 0 = some g) (s0 : 0 ≤ s) (s1 : s ≤ 100) (ks : ly_hv cst h 7170 0 = some s) (kl : ly_hv cst h 60002 0 = some (177 + 19 * s)) :
    ∃ r_9, am_Run cst m_cl m_tt m_P strs sx_bi (D + 1) 131 [.ref 16, .int xp, .int xs, .int xy, .int xd] h r_9 ∧ (fun r_9 : am_Q => ∃ (t_9 : Nat) (en : Nat → Int) (kd pl vl : Int → Int), tkT (gt_g cst h 512) (N : Int) t_9 kd pl vl en ∧ (∃ a_9 : Int32, r_9.1 = some (.int a_9) ∧ ngA (nok_c xp.toInt xs.toInt xy.toInt xd.toInt u g) (sw kd vl t_9) s a_9.toInt) ∧ r_9.2.2.1 ≤ 19 ∧ r_9.2.2.2 ≤ 261 ∧ ly_hy m_tt ly_TH r_9.2.1 ∧ ly_fr cst ng_mc h r_9.2.1 ∧ ly_hv cst r_9.2.1 257 0 = some 0 ∧ ngC cst r_9.2.1 ((nok_c xp.toInt xs.toInt xy.toInt xd.toInt u g) ∧ (sw kd vl t_9) ≠ 0 ∧ s ≠ 100) s (-1) xs.toInt xd.toInt (sw kd vl t_9)) r_9 := by
  obtain ⟨M_9, hM_9, hl⟩ := hp_M (mi := 131) (k := 5) (by decide +kernel)
  have c_9 : hp_C cst strs D := cc _
  have bp0 : -2147483648 ≤ xp.toInt := xp.le_toInt
  have bp1 : xp.toInt ≤ 2147483647 := xp.toInt_le
  have bs0 : -2147483648 ≤ xs.toInt := xs.le_toInt
  have bs1 : xs.toInt ≤ 2147483647 := xs.toInt_le
  have by0 : -2147483648 ≤ xy.toInt := xy.le_toInt
  have by1 : xy.toInt ≤ 2147483647 := xy.toInt_le
  have bd0 : -2147483648 ≤ xd.toInt := xd.le_toInt
  have bd1 : xd.toInt ≤ 2147483647 := xd.toInt_le
  have go_9 : hp_F cst strs (fun r_9 : am_Q => ∃ (t_9 : Nat) (en : Nat → Int) (kd pl vl : Int → Int), tkT (gt_g cst h 512) (N : Int) t_9 kd pl vl en ∧ (∃ a_9 : Int32, r_9.1 = some (.int a_9) ∧ ngA (nok_c xp.toInt xs.toInt xy.toInt xd.toInt u g) (sw kd vl t_9) s a_9.toInt) ∧ r_9.2.2.1 ≤ 19 ∧ r_9.2.2.2 ≤ 261 ∧ ly_hy m_tt ly_TH r_9.2.1 ∧ ly_fr cst ng_mc h r_9.2.1 ∧ ly_hv cst r_9.2.1 257 0 = some 0 ∧ ngC cst r_9.2.1 ((nok_c xp.toInt xs.toInt xy.toInt xd.toInt u g) ∧ (sw kd vl t_9) ≠ 0 ∧ s ≠ 100) s (-1) xs.toInt xd.toInt (sw kd vl t_9)) D M_9 0 (lv_args 0 [.ref 16, .int xp, .int xs, .int xy, .int xd]) [] h := by
    refine ncc0 c_9 hM_9 (by omega) hy xp.toInt xs.toInt xy.toInt xd.toInt bp0 bp1 bs0 bs1 by0 by1 bd0 bd1 rfl ⟨xp, rfl, rfl⟩ ⟨xs, rfl, rfl⟩ ⟨xy, rfl, rfl⟩ ⟨xd, rfl, rfl⟩ (fun l1 h1 u1_9' u2_9 u3 j0 j1 j2_9 j3_9 j4_9 => ?_)
    obtain ⟨r_9, hrun, r1_9, r2, r3, rhy, rfr, rk, rN_9, t_9, en, kt, tN_9, TT⟩ := gt_run (D := D - 2) (cc _) (cc _) (by omega) u1_9' n1 (u2_9 _ _ _ rfl kn)
    rw [show D - 2 + 1 + 1 = D by omega] at hrun
    refine hp_call (mi := 131) (pc := 4) (tg := 71) (na := 1) (c := 1) (ci := 1) (st0 := [.ref 17]) (st := []) (av := []) hM_9 (by decide +kernel) u1_9' rfl rfl rfl (by decide) hrun r2 r3 ?_
    rw [r1_9]
    have et : gt_g cst h1 512 = gt_g cst h 512 := by
      unfold gt_g
      rw [hp_same (mods := []) (show ly_ths ly_TH 2 = some (.inl (.int, 1200, 0, 255)) from rfl) rfl hy u1_9' u2_9]
    rw [et] at TT
    have TT : tkT (gt_g cst h 512) (N : Int) t_9 (gt_g cst r_9.2.1 768) (gt_g cst r_9.2.1 1024) (gt_g cst r_9.2.1 1280) en := TT
    have t12 : (t_9 : Int) ≤ 1200 := by omega
    have rows_9 := gt_kk (cst := cst) rhy t12
    have ml_9 : ∀ {a_9 b_9 : am_H}, ly_fr cst [] a_9 b_9 → ly_fr cst ng_mc a_9 b_9 := fun f_9 r_9 i_9 v_9 _ e_9 => f_9 r_9 i_9 v_9 rfl e_9
    have frA : ly_fr cst ng_mc h r_9.2.1 := ly_fr_tr (ml_9 u2_9) (hp_sub2 rfl rfr)
    have kur := rfr _ _ _ rfl (u2_9 _ _ _ rfl ku)
    have kgr := rfr _ _ _ rfl (u2_9 _ _ _ rfl kg)
    have ksr := rfr _ _ _ rfl (u2_9 _ _ _ rfl ks)
    have klr := rfr _ _ _ rfl (u2_9 _ _ _ rfl kl)
    have no_9 : ¬ (nok_c xp.toInt xs.toInt xy.toInt xd.toInt u g) → ∀ (h3 : am_H) (w_9 : Int32), w_9.toInt = -2 → ly_hy m_tt ly_TH h3 → ly_fr cst [] r_9.2.1 h3 → r_9.2.1.length ≤ h3.length → (fun r_9 : am_Q => ∃ (t_9 : Nat) (en : Nat → Int) (kd pl vl : Int → Int), tkT (gt_g cst h 512) (N : Int) t_9 kd pl vl en ∧ (∃ a_9 : Int32, r_9.1 = some (.int a_9) ∧ ngA (nok_c xp.toInt xs.toInt xy.toInt xd.toInt u g) (sw kd vl t_9) s a_9.toInt) ∧ r_9.2.2.1 ≤ 19 ∧ r_9.2.2.2 ≤ 261 ∧ ly_hy m_tt ly_TH r_9.2.1 ∧ ly_fr cst ng_mc h r_9.2.1 ∧ ly_hv cst r_9.2.1 257 0 = some 0 ∧ ngC cst r_9.2.1 ((nok_c xp.toInt xs.toInt xy.toInt xd.toInt u g) ∧ (sw kd vl t_9) ≠ 0 ∧ s ≠ 100) s (-1) xs.toInt xd.toInt (sw kd vl t_9)) (some (.int w_9), h3, 0, 0) := fun nk h3 w_9 hw v1_9 v2 v3 => ⟨t_9, en, _, _, _, TT, ⟨w_9, rfl, fun _ => hw, fun ok_9 => absurd ok_9 nk, fun ok_9 => absurd ok_9 nk, fun ok_9 => absurd ok_9 nk⟩, Nat.zero_le _, Nat.zero_le _, v1_9, ly_fr_tr frA (ml_9 v2), v2 _ _ _ rfl rk, fun gg => absurd gg.1 nk, fun _ => ⟨v2 _ _ _ rfl ksr, v2 _ _ _ rfl klr⟩⟩
    by_cases q0 : xp.toInt ≤ -1
    · exact nccg0 c_9 hM_9 (by omega) rhy xp.toInt xs.toInt xy.toInt xd.toInt u g (by omega) (by omega) (by omega) (by omega) (by omega) (by omega) (by omega) (by omega) u0 u1 g0 g1 kur kgr j0 j1 j2_9 j3_9 j4_9 (no_9 (fun k_9 => by have := k_9.1; omega))
    by_cases q1_9 : u ≤ xp.toInt
    · exact nccg1 c_9 hM_9 (by omega) rhy xp.toInt xs.toInt xy.toInt xd.toInt u g (by omega) (by omega) (by omega) (by omega) (by omega) (by omega) (by omega) (by omega) u0 u1 g0 g1 (by omega) kur kgr j0 j1 j2_9 j3_9 j4_9 (no_9 (fun k_9 => by have := k_9.2.1; omega))
    by_cases q2_9 : xs.toInt ≤ -1
    · exact nccg2 c_9 hM_9 (by omega) rhy xp.toInt xs.toInt xy.toInt xd.toInt u g (by omega) (by omega) (by omega) (by omega) (by omega) (by omega) (by omega) (by omega) u0 u1 g0 g1 (by omega) kur kgr j0 j1 j2_9 j3_9 j4_9 (no_9 (fun k_9 => by have := k_9.2.2.1; omega))
    by_cases q3_9 : 6 ≤ xs.toInt
    · exact nccg3 c_9 hM_9 (by omega) rhy xp.toInt xs.toInt xy.toInt xd.toInt u g (by omega) (by omega) (by omega) (by omega) (by omega) (by omega) (by omega) (by omega) u0 u1 g0 g1 (by omega) kur kgr j0 j1 j2_9 j3_9 j4_9 (no_9 (fun k_9 => by have := k_9.2.2.2.1; omega))
    by_cases q4_9 : xy.toInt ≤ -1
    · exact nccg4 c_9 hM_9 (by omega) rhy xp.toInt xs.toInt xy.toInt xd.toInt u g (by omega) (by omega) (by omega) (by omega) (by omega) (by omega) (by omega) (by omega) u0 u1 g0 g1 (by omega) kur kgr j0 j1 j2_9 j3_9 j4_9 (no_9 (fun k_9 => by have := k_9.2.2.2.2.1; omega))
    by_cases q5_9 : 10 ≤ xy.toInt
    · exact nccg5 c_9 hM_9 (by omega) rhy xp.toInt xs.toInt xy.toInt xd.toInt u g (by omega) (by omega) (by omega) (by omega) (by omega) (by omega) (by omega) (by omega) u0 u1 g0 g1 (by omega) kur kgr j0 j1 j2_9 j3_9 j4_9 (no_9 (fun k_9 => by have := k_9.2.2.2.2.2.1; omega))
    by_cases q6_9 : xd.toInt ≤ -1
    · exact nccg6 c_9 hM_9 (by omega) rhy xp.toInt xs.toInt xy.toInt xd.toInt u g (by omega) (by omega) (by omega) (by omega) (by omega) (by omega) (by omega) (by omega) u0 u1 g0 g1 (by omega) kur kgr j0 j1 j2_9 j3_9 j4_9 (no_9 (fun k_9 => by have := k_9.2.2.2.2.2.2.1; omega))
    by_cases q7_9 : g < xd.toInt
    · exact nccg7 c_9 hM_9 (by omega) rhy xp.toInt xs.toInt xy.toInt xd.toInt u g (by omega) (by omega) (by omega) (by omega) (by omega) (by omega) (by omega) (by omega) u0 u1 g0 g1 (by omega) (by omega) kur kgr j0 j1 j2_9 j3_9 j4_9 (no_9 (fun k_9 => by have := k_9.2.2.2.2.2.2.2; omega))
    have ok_9 : (nok_c xp.toInt xs.toInt xy.toInt xd.toInt u g) := ⟨by omega, by omega, by omega, by omega, by omega, by omega, by omega, by omega⟩
    refine ncck c_9 hM_9 (by omega) rhy xp.toInt xs.toInt xy.toInt xd.toInt u g (by omega) (by omega) (by omega) (by omega) (by omega) (by omega) (by omega) (by omega) u0 u1 g0 g1 (by omega) (by omega) kur kgr j0 j1 j2_9 j3_9 j4_9 (fun l2 h2 y0 y1 y2 y3 y4 y5 f0_9 f1_9 f2_9 f3_9 f4_9 f5_9 w1_9 w2_9 w3_9 i0_9 => ?_)
    obtain ⟨r_9', hrun', ⟨a_9, ra, rA⟩, p1_9, p2_9, p3_9, p4_9, p5_9⟩ := ngb_run (D := D - 1) (i1 := y5) (i2 := y4) (i3 := y3) (i4 := y2) (i5 := y1) (i6 := y0) (s := s) (t := t_9) (kd := gt_g cst r_9.2.1 768) (vl := gt_g cst r_9.2.1 1280) (cc _) (by omega) w1_9 (by omega) (by omega) (by omega) (by omega) (by omega) (by omega) (by omega) (by omega) (by omega) (by omega) (by omega) (by omega) s0 s1 (w2_9 _ _ _ rfl klr) (w2_9 _ _ _ rfl ksr) t12 (w2_9 _ _ _ rfl kt) (fun j_9 hj => ⟨w2_9 _ _ _ rfl (rows_9 j_9 hj).1, w2_9 _ _ _ rfl (rows_9 j_9 hj).2.2⟩) (tkT_kb TT) (tkT_vB TT)
    rw [show D - 1 + 1 = D by omega] at hrun'
    refine hp_callc (mi := 131) (pc := 40) (tg := 133) (na := 7) (c := 0) (ci := 0) (st0 := [.int y0, .int y1, .int y2, .int y3, .int y4, .int y5, .ref 16]) (st := []) (av := [.int y5, .int y4, .int y3, .int y2, .int y1, .int y0]) hM_9 (by decide +kernel) w1_9 rfl rfl rfl (by decide) hrun' ?_
    rw [ra]
    rw [f5_9, f3_9, f1_9] at p5_9
    refine nccr c_9 hM_9 (by omega) p3_9 a_9.toInt a_9 rfl a_9.le_toInt a_9.toInt_le i0_9 (fun h4 z_9 hz t1_9 t2_9 t3_9 => ⟨t_9, en, _, _, _, TT, ⟨z_9, rfl, ?_⟩, p1_9, p2_9, t1_9, ly_fr_tr frA (ly_fr_tr (ml_9 w2_9) (ly_fr_tr (hp_sub2 rfl p4_9) (ml_9 t2_9))), t2_9 _ _ _ rfl (p4_9 _ _ _ rfl (w2_9 _ _ _ rfl rk)), fun gg => ?_, fun ng => ?_⟩)
    · rw [hz]
      exact ⟨fun no_9' => absurd ok_9 no_9', fun _ => rA.2.1 trivial, fun _ => rA.2.2.1 trivial, fun _ => rA.2.2.2 trivial⟩
    · obtain ⟨e1_9, e2_9, e3_9, e4_9, e5_9, e6_9, e7_9, e8, e9_9, ea⟩ := p5_9.1 gg.2
      exact ⟨t2_9 _ _ _ rfl e1_9, t2_9 _ _ _ rfl e2_9, t2_9 _ _ _ rfl e3_9, t2_9 _ _ _ rfl e4_9, t2_9 _ _ _ rfl e5_9, t2_9 _ _ _ rfl e6_9, t2_9 _ _ _ rfl e7_9, t2_9 _ _ _ rfl e8, t2_9 _ _ _ rfl e9_9, t2_9 _ _ _ rfl ea⟩
    · obtain ⟨e1_9, e2_9⟩ := p5_9.2 (fun z_9 => ng ⟨ok_9, z_9⟩)
      exact ⟨t2_9 _ _ _ rfl e1_9, t2_9 _ _ _ rfl e2_9⟩
  obtain ⟨n_9', r_9, hgo, hΦ⟩ := go_9
  simp only [Nat.zero_add] at hΦ
  exact ⟨r_9, Or.inr ⟨M_9, n_9', hM_9, hl, hgo⟩, hΦ⟩
/-- of the reference -/
theorem nxc_run {cst : am_K} {strs : List Nat} {D : Nat} {h : am_H} (cc : ∀ d_9, hp_C cst strs d_9) (hD : 11 ≤ D) (hy : ly_hy m_tt ly_TH h) {xp xs xy xd : Int32} {f : Int → Int} {n : Int} {t : Nat} {kd pl vl : Int → Int} {en : Nat → Int} (TT : tkT f n t kd pl vl en) (n0 : 0 ≤ n) (n1 : n ≤ 1200) (ff : ∀ x_9, 0 ≤ x_9 → x_9 < n → gs_f cst h x_9 = f x_9) (kn : ly_hv cst h 19969 0 = some n) {u g s : Int} (u0 : 0 ≤ u) (u1 : u ≤ 120) (ku : ly_hv cst h 19978 0 = some u) (g0 : 0 ≤ g) (g1 : g ≤ 399) (kg : ly_hv cst h 19977 0 = some g) (s0 : 0 ≤ s) (s1 : s ≤ 100) (km : ly_hv cst h 20024 0 = some s) :
    ∃ r_9, am_Run cst m_cl m_tt m_P strs sx_bi (D + 1) 334 [.ref 94, .int xp, .int xs, .int xy, .int xd] h r_9 ∧ (fun r_9 : am_Q => ∃ a_9 : Int32, r_9.1 = some (.int a_9) ∧ r_9.2.2.1 = 0 ∧ r_9.2.2.2 = 0 ∧ ly_hy m_tt ly_TH r_9.2.1 ∧ ly_fr cst ng_mm h r_9.2.1 ∧ ly_hv cst r_9.2.1 19969 0 = some 0 ∧ ngA (nok_c xp.toInt xs.toInt xy.toInt xd.toInt u g) (sw kd vl t) s a_9.toInt ∧ ngM cst h r_9.2.1 ((nok_c xp.toInt xs.toInt xy.toInt xd.toInt u g) ∧ (sw kd vl t) ≠ 0 ∧ s ≠ 100) s 0 xs.toInt xd.toInt (sw kd vl t)) r_9 := by
  obtain ⟨M_9, hM_9, hl⟩ := hp_M (mi := 334) (k := 5) (by decide +kernel)
  have c_9 : hp_C cst strs D := cc _
  have bp0 : -2147483648 ≤ xp.toInt := xp.le_toInt
  have bp1 : xp.toInt ≤ 2147483647 := xp.toInt_le
  have bs0 : -2147483648 ≤ xs.toInt := xs.le_toInt
  have bs1 : xs.toInt ≤ 2147483647 := xs.toInt_le
  have by0 : -2147483648 ≤ xy.toInt := xy.le_toInt
  have by1 : xy.toInt ≤ 2147483647 := xy.toInt_le
  have bd0 : -2147483648 ≤ xd.toInt := xd.le_toInt
  have bd1 : xd.toInt ≤ 2147483647 := xd.toInt_le
  have go_9 : hp_F cst strs (fun r_9 : am_Q => ∃ a_9 : Int32, r_9.1 = some (.int a_9) ∧ r_9.2.2.1 = 0 ∧ r_9.2.2.2 = 0 ∧ ly_hy m_tt ly_TH r_9.2.1 ∧ ly_fr cst ng_mm h r_9.2.1 ∧ ly_hv cst r_9.2.1 19969 0 = some 0 ∧ ngA (nok_c xp.toInt xs.toInt xy.toInt xd.toInt u g) (sw kd vl t) s a_9.toInt ∧ ngM cst h r_9.2.1 ((nok_c xp.toInt xs.toInt xy.toInt xd.toInt u g) ∧ (sw kd vl t) ≠ 0 ∧ s ≠ 100) s 0 xs.toInt xd.toInt (sw kd vl t)) D M_9 0 (lv_args 0 [.ref 94, .int xp, .int xs, .int xy, .int xd]) [] h := by
    refine nxc0 c_9 hM_9 (by omega) hy xp.toInt xs.toInt xy.toInt xd.toInt bp0 bp1 bs0 bs1 by0 by1 bd0 bd1 rfl ⟨xp, rfl, rfl⟩ ⟨xs, rfl, rfl⟩ ⟨xy, rfl, rfl⟩ ⟨xd, rfl, rfl⟩ (fun l1 h1 u1_9' u2_9 u3 j0 j1 j2_9 j3_9 j4_9 => ?_)
    obtain ⟨r_9, hrun, xv, ra, r2, r3, rhy, rfr, rk, rW⟩ := ox_run (D := D - 3) cc (by omega) u1_9' TT n0 n1 (fun x_9 x0_9 x1_9 => by rw [gs_same hy u1_9' u2_9 rfl]; exact ff x_9 x0_9 x1_9) (u2_9 _ _ _ rfl kn)
    rw [show D - 3 + 3 = D by omega] at hrun
    refine hp_call (mi := 334) (pc := 2) (tg := 323) (na := 1) (c := 78) (ci := 12) (st0 := [.ref 94]) (st := [.ref 94]) (av := []) hM_9 (by decide +kernel) u1_9' rfl rfl rfl (Nat.le_of_ble_eq_true rfl) hrun r2 r3 ?_
    rw [ra]
    have frA : ly_fr cst ng_mm h r_9.2.1 := ly_fr_tr (hp_sub2 rfl u2_9) (hp_sub2 rfl rfr)
    have frB : ly_fr cst [19969, 19970, 19971, 19972, 19973, 19974, 19975, 19976] h r_9.2.1 := ly_fr_tr (hp_sub2 rfl u2_9) rfr
    have kur := frB _ _ _ rfl ku
    have kgr := frB _ _ _ rfl kg
    have kmr := frB _ _ _ rfl km
    have vB9 := tkT_vB TT
    have zb : ((sw kd vl t) = 0 ∨ 1 ≤ (sw kd vl t)) ∧ (sw kd vl t) ≤ 1152921504606846976 := by
      by_cases W_9 : t = 1 ∧ kd 0 = 1
      · have vb : 1 ≤ vl 0 ∧ vl 0 < 1152921504606846976 := (vB9 0 (by omega)).1 W_9.2
        rw [sw_1 W_9.1 W_9.2]
        omega
      · rw [sw_0 W_9]
        omega
    have z0 : 0 ≤ xv.toInt := by omega
    have z1 : xv.toInt ≤ 1152921504606846976 := by omega
    have old_9 : ∀ (h3 : am_H), ly_fr cst [20017] r_9.2.1 h3 → ∀ rg j_9 v_9, (rg = 28416 ∨ rg = 60091 ∨ rg = 29184 ∨ rg = 29696 ∨ rg = 30208) → j_9 ≠ s → ly_hv cst h rg j_9 = some v_9 → ly_hv cst h3 rg j_9 = some v_9 := fun h3 v2 rg j_9 v_9 hr _ e_9 => by rcases hr with rfl | rfl | rfl | rfl | rfl <;> exact v2 _ _ _ rfl (frB _ _ _ rfl e_9)
    have no_9 : ¬ (nok_c xp.toInt xs.toInt xy.toInt xd.toInt u g) → ∀ (h3 : am_H) (w_9 : Int32), w_9.toInt = -2 → ly_hy m_tt ly_TH h3 → ly_fr cst [20017] r_9.2.1 h3 → r_9.2.1.length ≤ h3.length → (fun r_9 : am_Q => ∃ a_9 : Int32, r_9.1 = some (.int a_9) ∧ r_9.2.2.1 = 0 ∧ r_9.2.2.2 = 0 ∧ ly_hy m_tt ly_TH r_9.2.1 ∧ ly_fr cst ng_mm h r_9.2.1 ∧ ly_hv cst r_9.2.1 19969 0 = some 0 ∧ ngA (nok_c xp.toInt xs.toInt xy.toInt xd.toInt u g) (sw kd vl t) s a_9.toInt ∧ ngM cst h r_9.2.1 ((nok_c xp.toInt xs.toInt xy.toInt xd.toInt u g) ∧ (sw kd vl t) ≠ 0 ∧ s ≠ 100) s 0 xs.toInt xd.toInt (sw kd vl t)) (some (.int w_9), h3, 0, 0) := fun nk h3 w_9 hw v1_9 v2 v3 => ⟨w_9, rfl, rfl, rfl, v1_9, ly_fr_tr frA (hp_sub2 rfl v2), v2 _ _ _ rfl rk, ⟨fun _ => hw, fun ok_9 => absurd ok_9 nk, fun ok_9 => absurd ok_9 nk, fun ok_9 => absurd ok_9 nk⟩, fun gg => absurd gg.1 nk, fun _ => v2 _ _ _ rfl kmr, old_9 h3 v2⟩
    by_cases q0 : xp.toInt ≤ -1
    · exact nxcg0 c_9 hM_9 (by omega) rhy xp.toInt xs.toInt xy.toInt xd.toInt u g xv.toInt xv rfl (by omega) (by omega) (by omega) (by omega) (by omega) (by omega) (by omega) (by omega) u0 u1 g0 g1 z0 z1 kur kgr j0 j1 j2_9 j3_9 j4_9 (no_9 (fun k_9 => by have := k_9.1; omega))
    by_cases q1_9 : u ≤ xp.toInt
    · exact nxcg1 c_9 hM_9 (by omega) rhy xp.toInt xs.toInt xy.toInt xd.toInt u g xv.toInt xv rfl (by omega) (by omega) (by omega) (by omega) (by omega) (by omega) (by omega) (by omega) u0 u1 g0 g1 z0 z1 (by omega) kur kgr j0 j1 j2_9 j3_9 j4_9 (no_9 (fun k_9 => by have := k_9.2.1; omega))
    by_cases q2_9 : xs.toInt ≤ -1
    · exact nxcg2 c_9 hM_9 (by omega) rhy xp.toInt xs.toInt xy.toInt xd.toInt u g xv.toInt xv rfl (by omega) (by omega) (by omega) (by omega) (by omega) (by omega) (by omega) (by omega) u0 u1 g0 g1 z0 z1 (by omega) kur kgr j0 j1 j2_9 j3_9 j4_9 (no_9 (fun k_9 => by have := k_9.2.2.1; omega))
    by_cases q3_9 : 6 ≤ xs.toInt
    · exact nxcg3 c_9 hM_9 (by omega) rhy xp.toInt xs.toInt xy.toInt xd.toInt u g xv.toInt xv rfl (by omega) (by omega) (by omega) (by omega) (by omega) (by omega) (by omega) (by omega) u0 u1 g0 g1 z0 z1 (by omega) kur kgr j0 j1 j2_9 j3_9 j4_9 (no_9 (fun k_9 => by have := k_9.2.2.2.1; omega))
    by_cases q4_9 : xy.toInt ≤ -1
    · exact nxcg4 c_9 hM_9 (by omega) rhy xp.toInt xs.toInt xy.toInt xd.toInt u g xv.toInt xv rfl (by omega) (by omega) (by omega) (by omega) (by omega) (by omega) (by omega) (by omega) u0 u1 g0 g1 z0 z1 (by omega) kur kgr j0 j1 j2_9 j3_9 j4_9 (no_9 (fun k_9 => by have := k_9.2.2.2.2.1; omega))
    by_cases q5_9 : 10 ≤ xy.toInt
    · exact nxcg5 c_9 hM_9 (by omega) rhy xp.toInt xs.toInt xy.toInt xd.toInt u g xv.toInt xv rfl (by omega) (by omega) (by omega) (by omega) (by omega) (by omega) (by omega) (by omega) u0 u1 g0 g1 z0 z1 (by omega) kur kgr j0 j1 j2_9 j3_9 j4_9 (no_9 (fun k_9 => by have := k_9.2.2.2.2.2.1; omega))
    by_cases q6_9 : xd.toInt ≤ -1
    · exact nxcg6 c_9 hM_9 (by omega) rhy xp.toInt xs.toInt xy.toInt xd.toInt u g xv.toInt xv rfl (by omega) (by omega) (by omega) (by omega) (by omega) (by omega) (by omega) (by omega) u0 u1 g0 g1 z0 z1 (by omega) kur kgr j0 j1 j2_9 j3_9 j4_9 (no_9 (fun k_9 => by have := k_9.2.2.2.2.2.2.1; omega))
    by_cases q7_9 : g < xd.toInt
    · exact nxcg7 c_9 hM_9 (by omega) rhy xp.toInt xs.toInt xy.toInt xd.toInt u g xv.toInt xv rfl (by omega) (by omega) (by omega) (by omega) (by omega) (by omega) (by omega) (by omega) u0 u1 g0 g1 z0 z1 (by omega) (by omega) kur kgr j0 j1 j2_9 j3_9 j4_9 (no_9 (fun k_9 => by have := k_9.2.2.2.2.2.2.2; omega))
    have ok_9 : (nok_c xp.toInt xs.toInt xy.toInt xd.toInt u g) := ⟨by omega, by omega, by omega, by omega, by omega, by omega, by omega, by omega⟩
    by_cases W_9 : (sw kd vl t) = 0
    · rw [W_9] at rW
      exact nxcn c_9 hM_9 (by omega) rhy xp.toInt xs.toInt xy.toInt xd.toInt u g xv rW (by omega) (by omega) (by omega) (by omega) (by omega) (by omega) (by omega) (by omega) u0 u1 g0 g1 (by omega) (by omega) kur kgr j0 j1 j2_9 j3_9 j4_9 (fun h3 w_9 hw v1_9 v2 v3 => ⟨w_9, rfl, rfl, rfl, v1_9, ly_fr_tr frA (hp_sub2 rfl v2), v2 _ _ _ rfl rk, ⟨fun no_9' => absurd ok_9 no_9', fun _ _ => hw, fun _ w_9' => absurd W_9 w_9', fun _ w_9' => absurd W_9 w_9'⟩, fun gg => absurd W_9 gg.2.1, fun _ => v2 _ _ _ rfl kmr, old_9 h3 v2⟩)
    have v0_9 : 1 ≤ xv.toInt := by omega
    by_cases z_9 : s = 100
    · rw [z_9] at kmr
      exact nxcf c_9 hM_9 (by omega) rhy xp.toInt xs.toInt xy.toInt xd.toInt u g xv.toInt xv rfl (by omega) (by omega) (by omega) (by omega) (by omega) (by omega) (by omega) (by omega) u0 u1 g0 g1 v0_9 z1 (by omega) (by omega) kur kgr kmr j0 j1 j2_9 j3_9 j4_9 (fun h3 w_9 hw v1_9 v2 v3 => ⟨w_9, rfl, rfl, rfl, v1_9, ly_fr_tr frA (hp_sub2 rfl v2), v2 _ _ _ rfl rk, ⟨fun no_9' => absurd ok_9 no_9', fun _ nw => absurd nw W_9, fun _ _ _ => hw, fun _ _ nz => absurd z_9 nz⟩, fun gg => absurd z_9 gg.2.2, fun _ => by rw [z_9]; exact v2 _ _ _ rfl kmr, old_9 h3 v2⟩)
    refine nxck c_9 hM_9 (by omega) rhy xp.toInt xs.toInt xy.toInt xd.toInt u g xv.toInt s xv rfl (by omega) (by omega) (by omega) (by omega) (by omega) (by omega) (by omega) (by omega) u0 u1 g0 g1 v0_9 z1 s0 (by omega) (by omega) (by omega) kur kgr kmr j0 j1 j2_9 j3_9 j4_9 (fun l2 h2 y0 y1 y2 y3 y4 y5 y6 f0_9 f1_9 f2_9 f3_9 f4_9 f5_9 f6_9 w1_9 w2_9 w3_9 kvv i0_9 => ?_)
    obtain ⟨r_9', hrun', a_9, ra', q2_9, q3_9, q4_9, q5_9, q6_9, q7_9, q8_9, q9_9, qa, qb, qc, qd⟩ := nbz_run (D := D - 1) (i1 := y6) (i2 := y5) (i3 := y4) (i4 := y3) (i5 := y2) (i6 := y1) (i7 := y0) (m := s) (g := g) (v := xv.toInt) cc (by omega) w1_9 (by omega) (by omega) s0 (by omega) g0 g1 v0_9 z1 (w2_9 _ _ _ rfl kmr) (w2_9 _ _ _ rfl kgr) kvv
    rw [show D - 1 + 1 = D by omega] at hrun'
    refine hp_call (mi := 334) (pc := 83) (tg := 335) (na := 8) (c := 78) (ci := 12) (st0 := [.int y0, .int y1, .int y2, .int y3, .int y4, .int y5, .int y6, .ref 94]) (st := []) (av := [.int y6, .int y5, .int y4, .int y3, .int y2, .int y1, .int y0]) hM_9 (by decide +kernel) w1_9 rfl rfl rfl (by decide) hrun' q2_9 q3_9 ?_
    rw [ra']
    rw [f6_9] at q9_9
    rw [f3_9] at qa
    rw [f1_9] at qb
    rw [rW] at qc
    exact nxcr c_9 hM_9 (by omega) q4_9 a_9.toInt a_9 rfl a_9.le_toInt a_9.toInt_le i0_9 (fun h4 w_9 hw t1_9 t2_9 t3_9 => ⟨w_9, rfl, rfl, rfl, t1_9, ly_fr_tr frA (ly_fr_tr (hp_sub2 rfl w2_9) (ly_fr_tr (hp_sub2 rfl q6_9) (hp_sub2 rfl t2_9))), t2_9 _ _ _ rfl (q6_9 _ _ _ rfl (w2_9 _ _ _ rfl rk)), ⟨fun no_9' => absurd ok_9 no_9', fun _ nw => absurd nw W_9, fun _ _ e_9 => absurd e_9 z_9, fun _ _ _ => by rw [hw, q5_9]⟩, fun _ => ⟨t2_9 _ _ _ rfl q7_9, t2_9 _ _ _ rfl q8_9, t2_9 _ _ _ rfl q9_9, t2_9 _ _ _ rfl qa, t2_9 _ _ _ rfl qb, t2_9 _ _ _ rfl qc⟩, fun ng => absurd ⟨ok_9, W_9, z_9⟩ ng, fun rg j_9 v_9 hr hj e_9 => by rcases hr with rfl | rfl | rfl | rfl | rfl <;> exact t2_9 _ _ _ rfl (qd _ j_9 v_9 (by simp) hj (w2_9 _ _ _ rfl (frB _ _ _ rfl e_9)))⟩)
  obtain ⟨n_9', r_9, hgo, w_9, r1_9, r2, r3, r4⟩ := go_9
  simp only [Nat.zero_add] at r2 r3
  exact ⟨r_9, Or.inr ⟨M_9, n_9', hM_9, hl, hgo⟩, w_9, r1_9, r2, r3, r4⟩
def nok_p (p q s y d w u g : Int) : Prop := 0 ≤ p ∧ p < u ∧ 0 ≤ q ∧ q < u ∧ p ≠ q ∧ 0 ≤ s ∧ s ≤ 5 ∧ 0 ≤ y ∧ y ≤ 9 ∧ 0 ≤ d ∧ d ≤ g ∧ 1 ≤ w ∧ w ≤ 9999
/-- of the class -/
theorem ncp_run {cst : am_K} {strs : List Nat} {D : Nat} {h : am_H} (cc : ∀ d_9, hp_C cst strs d_9) (hD : 8 ≤ D) (hy : ly_hy m_tt ly_TH h) {xp xq xs xy xd xw : Int32} {N : Nat} {u g s : Int} (n1 : (N : Int) ≤ 1200) (kn : ly_hv cst h 257 0 = some (N : Int)) (u0 : 0 ≤ u) (u1 : u ≤ 120) (ku : ly_hv cst h 1536 0 = some u) (g0 : 0 ≤ g) (g1 : g ≤ 399) (kg : ly_hv cst h 10 0 = some g) (s0 : 0 ≤ s) (s1 : s ≤ 100) (ks : ly_hv cst h 7170 0 = some s) (kl : ly_hv cst h 60002 0 = some (177 + 19 * s)) :
    ∃ r_9, am_Run cst m_cl m_tt m_P strs sx_bi (D + 1) 137 [.ref 16, .int xp, .int xq, .int xs, .int xy, .int xd, .int xw] h r_9 ∧ (fun r_9 : am_Q => ∃ (t_9 : Nat) (en : Nat → Int) (kd pl vl : Int → Int), tkT (gt_g cst h 512) (N : Int) t_9 kd pl vl en ∧ (∃ a_9 : Int32, r_9.1 = some (.int a_9) ∧ ngA (nok_p xp.toInt xq.toInt xs.toInt xy.toInt xd.toInt xw.toInt u g) (sw kd vl t_9) s a_9.toInt) ∧ r_9.2.2.1 ≤ 19 ∧ r_9.2.2.2 ≤ 261 ∧ ly_hy m_tt ly_TH r_9.2.1 ∧ ly_fr cst ng_mc h r_9.2.1 ∧ ly_hv cst r_9.2.1 257 0 = some 0 ∧ ngC cst r_9.2.1 ((nok_p xp.toInt xq.toInt xs.toInt xy.toInt xd.toInt xw.toInt u g) ∧ (sw kd vl t_9) ≠ 0 ∧ s ≠ 100) s xp.toInt xs.toInt xd.toInt (sw kd vl t_9)) r_9 := by
  obtain ⟨M_9, hM_9, hl⟩ := hp_M (mi := 137) (k := 7) (by decide +kernel)
  have c_9 : hp_C cst strs D := cc _
  have bp0 : -2147483648 ≤ xp.toInt := xp.le_toInt
  have bp1 : xp.toInt ≤ 2147483647 := xp.toInt_le
  have bq0 : -2147483648 ≤ xq.toInt := xq.le_toInt
  have bq1 : xq.toInt ≤ 2147483647 := xq.toInt_le
  have bs0 : -2147483648 ≤ xs.toInt := xs.le_toInt
  have bs1 : xs.toInt ≤ 2147483647 := xs.toInt_le
  have by0 : -2147483648 ≤ xy.toInt := xy.le_toInt
  have by1 : xy.toInt ≤ 2147483647 := xy.toInt_le
  have bd0 : -2147483648 ≤ xd.toInt := xd.le_toInt
  have bd1 : xd.toInt ≤ 2147483647 := xd.toInt_le
  have bw0 : -2147483648 ≤ xw.toInt := xw.le_toInt
  have bw1 : xw.toInt ≤ 2147483647 := xw.toInt_le
  have go_9 : hp_F cst strs (fun r_9 : am_Q => ∃ (t_9 : Nat) (en : Nat → Int) (kd pl vl : Int → Int), tkT (gt_g cst h 512) (N : Int) t_9 kd pl vl en ∧ (∃ a_9 : Int32, r_9.1 = some (.int a_9) ∧ ngA (nok_p xp.toInt xq.toInt xs.toInt xy.toInt xd.toInt xw.toInt u g) (sw kd vl t_9) s a_9.toInt) ∧ r_9.2.2.1 ≤ 19 ∧ r_9.2.2.2 ≤ 261 ∧ ly_hy m_tt ly_TH r_9.2.1 ∧ ly_fr cst ng_mc h r_9.2.1 ∧ ly_hv cst r_9.2.1 257 0 = some 0 ∧ ngC cst r_9.2.1 ((nok_p xp.toInt xq.toInt xs.toInt xy.toInt xd.toInt xw.toInt u g) ∧ (sw kd vl t_9) ≠ 0 ∧ s ≠ 100) s xp.toInt xs.toInt xd.toInt (sw kd vl t_9)) D M_9 0 (lv_args 0 [.ref 16, .int xp, .int xq, .int xs, .int xy, .int xd, .int xw]) [] h := by
    refine ncp0 c_9 hM_9 (by omega) hy xp.toInt xq.toInt xs.toInt xy.toInt xd.toInt xw.toInt bp0 bp1 bq0 bq1 bs0 bs1 by0 by1 bd0 bd1 bw0 bw1 rfl ⟨xp, rfl, rfl⟩ ⟨xq, rfl, rfl⟩ ⟨xs, rfl, rfl⟩ ⟨xy, rfl, rfl⟩ ⟨xd, rfl, rfl⟩ ⟨xw, rfl, rfl⟩ (fun l1 h1 u1_9' u2_9 u3 j0 j1 j2_9 j3_9 j4_9 j5_9 j6_9 => ?_)
    obtain ⟨r_9, hrun, r1_9, r2, r3, rhy, rfr, rk, rN_9, t_9, en, kt, tN_9, TT⟩ := gt_run (D := D - 2) (cc _) (cc _) (by omega) u1_9' n1 (u2_9 _ _ _ rfl kn)
    rw [show D - 2 + 1 + 1 = D by omega] at hrun
    refine hp_call (mi := 137) (pc := 4) (tg := 71) (na := 1) (c := 1) (ci := 1) (st0 := [.ref 17]) (st := []) (av := []) hM_9 (by decide +kernel) u1_9' rfl rfl rfl (by decide) hrun r2 r3 ?_
    rw [r1_9]
    have et : gt_g cst h1 512 = gt_g cst h 512 := by
      unfold gt_g
      rw [hp_same (mods := []) (show ly_ths ly_TH 2 = some (.inl (.int, 1200, 0, 255)) from rfl) rfl hy u1_9' u2_9]
    rw [et] at TT
    have TT : tkT (gt_g cst h 512) (N : Int) t_9 (gt_g cst r_9.2.1 768) (gt_g cst r_9.2.1 1024) (gt_g cst r_9.2.1 1280) en := TT
    have t12 : (t_9 : Int) ≤ 1200 := by omega
    have rows_9 := gt_kk (cst := cst) rhy t12
    have ml_9 : ∀ {a_9 b_9 : am_H}, ly_fr cst [] a_9 b_9 → ly_fr cst ng_mc a_9 b_9 := fun f_9 r_9 i_9 v_9 _ e_9 => f_9 r_9 i_9 v_9 rfl e_9
    have frA : ly_fr cst ng_mc h r_9.2.1 := ly_fr_tr (ml_9 u2_9) (hp_sub2 rfl rfr)
    have kur := rfr _ _ _ rfl (u2_9 _ _ _ rfl ku)
    have kgr := rfr _ _ _ rfl (u2_9 _ _ _ rfl kg)
    have ksr := rfr _ _ _ rfl (u2_9 _ _ _ rfl ks)
    have klr := rfr _ _ _ rfl (u2_9 _ _ _ rfl kl)
    have no_9 : ¬ (nok_p xp.toInt xq.toInt xs.toInt xy.toInt xd.toInt xw.toInt u g) → ∀ (h3 : am_H) (w_9 : Int32), w_9.toInt = -2 → ly_hy m_tt ly_TH h3 → ly_fr cst [] r_9.2.1 h3 → r_9.2.1.length ≤ h3.length → (fun r_9 : am_Q => ∃ (t_9 : Nat) (en : Nat → Int) (kd pl vl : Int → Int), tkT (gt_g cst h 512) (N : Int) t_9 kd pl vl en ∧ (∃ a_9 : Int32, r_9.1 = some (.int a_9) ∧ ngA (nok_p xp.toInt xq.toInt xs.toInt xy.toInt xd.toInt xw.toInt u g) (sw kd vl t_9) s a_9.toInt) ∧ r_9.2.2.1 ≤ 19 ∧ r_9.2.2.2 ≤ 261 ∧ ly_hy m_tt ly_TH r_9.2.1 ∧ ly_fr cst ng_mc h r_9.2.1 ∧ ly_hv cst r_9.2.1 257 0 = some 0 ∧ ngC cst r_9.2.1 ((nok_p xp.toInt xq.toInt xs.toInt xy.toInt xd.toInt xw.toInt u g) ∧ (sw kd vl t_9) ≠ 0 ∧ s ≠ 100) s xp.toInt xs.toInt xd.toInt (sw kd vl t_9)) (some (.int w_9), h3, 0, 0) := fun nk h3 w_9 hw v1_9 v2 v3 => ⟨t_9, en, _, _, _, TT, ⟨w_9, rfl, fun _ => hw, fun ok_9 => absurd ok_9 nk, fun ok_9 => absurd ok_9 nk, fun ok_9 => absurd ok_9 nk⟩, Nat.zero_le _, Nat.zero_le _, v1_9, ly_fr_tr frA (ml_9 v2), v2 _ _ _ rfl rk, fun gg => absurd gg.1 nk, fun _ => ⟨v2 _ _ _ rfl ksr, v2 _ _ _ rfl klr⟩⟩
    by_cases q0 : xp.toInt ≤ -1
    · exact ncpg0 c_9 hM_9 (by omega) rhy xp.toInt xq.toInt xs.toInt xy.toInt xd.toInt xw.toInt u g (by omega) (by omega) (by omega) (by omega) (by omega) (by omega) (by omega) (by omega) (by omega) (by omega) (by omega) (by omega) u0 u1 g0 g1 kur kgr j0 j1 j2_9 j3_9 j4_9 j5_9 j6_9 (no_9 (fun k_9 => by have := k_9.1; omega))
    by_cases q1_9 : u ≤ xp.toInt
    · exact ncpg1 c_9 hM_9 (by omega) rhy xp.toInt xq.toInt xs.toInt xy.toInt xd.toInt xw.toInt u g (by omega) (by omega) (by omega) (by omega) (by omega) (by omega) (by omega) (by omega) (by omega) (by omega) (by omega) (by omega) u0 u1 g0 g1 (by omega) kur kgr j0 j1 j2_9 j3_9 j4_9 j5_9 j6_9 (no_9 (fun k_9 => by have := k_9.2.1; omega))
    by_cases q2_9 : xq.toInt ≤ -1
    · exact ncpg2 c_9 hM_9 (by omega) rhy xp.toInt xq.toInt xs.toInt xy.toInt xd.toInt xw.toInt u g (by omega) (by omega) (by omega) (by omega) (by omega) (by omega) (by omega) (by omega) (by omega) (by omega) (by omega) (by omega) u0 u1 g0 g1 (by omega) kur kgr j0 j1 j2_9 j3_9 j4_9 j5_9 j6_9 (no_9 (fun k_9 => by have := k_9.2.2.1; omega))
    by_cases q3_9 : u ≤ xq.toInt
    · exact ncpg3 c_9 hM_9 (by omega) rhy xp.toInt xq.toInt xs.toInt xy.toInt xd.toInt xw.toInt u g (by omega) (by omega) (by omega) (by omega) (by omega) (by omega) (by omega) (by omega) (by omega) (by omega) (by omega) (by omega) u0 u1 g0 g1 (by omega) (by omega) kur kgr j0 j1 j2_9 j3_9 j4_9 j5_9 j6_9 (no_9 (fun k_9 => by have := k_9.2.2.2.1; omega))
    by_cases q4_9 : xp.toInt = xq.toInt
    · exact ncpg4 c_9 hM_9 (by omega) rhy xp.toInt xs.toInt xy.toInt xd.toInt xw.toInt u g (by omega) (by omega) (by omega) (by omega) (by omega) (by omega) (by omega) (by omega) (by omega) (by omega) u0 u1 g0 g1 (by omega) kur kgr j0 j1 (by obtain ⟨z_9, z1, z2⟩ := j2_9; exact ⟨z_9, z1, by omega⟩) j3_9 j4_9 j5_9 j6_9 (no_9 (fun k_9 => k_9.2.2.2.2.1 q4_9))
    have ne_9 : ly_hv cst r_9.2.1 61000 (xp.toInt - xq.toInt) = some 1 := hp_ne (by omega)
    by_cases q5_9 : xs.toInt ≤ -1
    · exact ncpg5 c_9 hM_9 (by omega) rhy xp.toInt xq.toInt xs.toInt xy.toInt xd.toInt xw.toInt u g (by omega) (by omega) (by omega) (by omega) (by omega) (by omega) (by omega) (by omega) (by omega) (by omega) (by omega) (by omega) u0 u1 g0 g1 (by omega) (by omega) kur kgr ne_9 j0 j1 j2_9 j3_9 j4_9 j5_9 j6_9 (no_9 (fun k_9 => by have := k_9.2.2.2.2.2.1; omega))
    by_cases q6_9 : 6 ≤ xs.toInt
    · exact ncpg6 c_9 hM_9 (by omega) rhy xp.toInt xq.toInt xs.toInt xy.toInt xd.toInt xw.toInt u g (by omega) (by omega) (by omega) (by omega) (by omega) (by omega) (by omega) (by omega) (by omega) (by omega) (by omega) (by omega) u0 u1 g0 g1 (by omega) (by omega) kur kgr ne_9 j0 j1 j2_9 j3_9 j4_9 j5_9 j6_9 (no_9 (fun k_9 => by have := k_9.2.2.2.2.2.2.1; omega))
    by_cases q7_9 : xy.toInt ≤ -1
    · exact ncpg7 c_9 hM_9 (by omega) rhy xp.toInt xq.toInt xs.toInt xy.toInt xd.toInt xw.toInt u g (by omega) (by omega) (by omega) (by omega) (by omega) (by omega) (by omega) (by omega) (by omega) (by omega) (by omega) (by omega) u0 u1 g0 g1 (by omega) (by omega) kur kgr ne_9 j0 j1 j2_9 j3_9 j4_9 j5_9 j6_9 (no_9 (fun k_9 => by have := k_9.2.2.2.2.2.2.2.1; omega))
    by_cases q8_9 : 10 ≤ xy.toInt
    · exact ncpg8 c_9 hM_9 (by omega) rhy xp.toInt xq.toInt xs.toInt xy.toInt xd.toInt xw.toInt u g (by omega) (by omega) (by omega) (by omega) (by omega) (by omega) (by omega) (by omega) (by omega) (by omega) (by omega) (by omega) u0 u1 g0 g1 (by omega) (by omega) kur kgr ne_9 j0 j1 j2_9 j3_9 j4_9 j5_9 j6_9 (no_9 (fun k_9 => by have := k_9.2.2.2.2.2.2.2.2.1; omega))
    by_cases q9_9 : xd.toInt ≤ -1
    · exact ncpg9 c_9 hM_9 (by omega) rhy xp.toInt xq.toInt xs.toInt xy.toInt xd.toInt xw.toInt u g (by omega) (by omega) (by omega) (by omega) (by omega) (by omega) (by omega) (by omega) (by omega) (by omega) (by omega) (by omega) u0 u1 g0 g1 (by omega) (by omega) kur kgr ne_9 j0 j1 j2_9 j3_9 j4_9 j5_9 j6_9 (no_9 (fun k_9 => by have := k_9.2.2.2.2.2.2.2.2.2.1; omega))
    by_cases q10_9 : g < xd.toInt
    · exact ncpg10 c_9 hM_9 (by omega) rhy xp.toInt xq.toInt xs.toInt xy.toInt xd.toInt xw.toInt u g (by omega) (by omega) (by omega) (by omega) (by omega) (by omega) (by omega) (by omega) (by omega) (by omega) (by omega) (by omega) u0 u1 g0 g1 (by omega) (by omega) (by omega) kur kgr ne_9 j0 j1 j2_9 j3_9 j4_9 j5_9 j6_9 (no_9 (fun k_9 => by have := k_9.2.2.2.2.2.2.2.2.2.2.1; omega))
    by_cases q11_9 : xw.toInt ≤ 0
    · exact ncpg11 c_9 hM_9 (by omega) rhy xp.toInt xq.toInt xs.toInt xy.toInt xd.toInt xw.toInt u g (by omega) (by omega) (by omega) (by omega) (by omega) (by omega) (by omega) (by omega) (by omega) (by omega) (by omega) (by omega) u0 u1 g0 g1 (by omega) (by omega) (by omega) kur kgr ne_9 j0 j1 j2_9 j3_9 j4_9 j5_9 j6_9 (no_9 (fun k_9 => by have := k_9.2.2.2.2.2.2.2.2.2.2.2.1; omega))
    by_cases q12_9 : 10000 ≤ xw.toInt
    · exact ncpg12 c_9 hM_9 (by omega) rhy xp.toInt xq.toInt xs.toInt xy.toInt xd.toInt xw.toInt u g (by omega) (by omega) (by omega) (by omega) (by omega) (by omega) (by omega) (by omega) (by omega) (by omega) (by omega) (by omega) u0 u1 g0 g1 (by omega) (by omega) (by omega) kur kgr ne_9 j0 j1 j2_9 j3_9 j4_9 j5_9 j6_9 (no_9 (fun k_9 => by have := k_9.2.2.2.2.2.2.2.2.2.2.2.2; omega))
    have ok_9 : (nok_p xp.toInt xq.toInt xs.toInt xy.toInt xd.toInt xw.toInt u g) := ⟨by omega, by omega, by omega, by omega, q4_9, by omega, by omega, by omega, by omega, by omega, by omega, by omega, by omega⟩
    refine ncpk c_9 hM_9 (by omega) rhy xp.toInt xq.toInt xs.toInt xy.toInt xd.toInt xw.toInt u g (by omega) (by omega) (by omega) (by omega) (by omega) (by omega) (by omega) (by omega) (by omega) (by omega) (by omega) (by omega) u0 u1 g0 g1 (by omega) (by omega) (by omega) kur kgr ne_9 j0 j1 j2_9 j3_9 j4_9 j5_9 j6_9 (fun l2 h2 y0 y1 y2 y3 y4 y5 f0_9 f1_9 f2_9 f3_9 f4_9 f5_9 w1_9 w2_9 w3_9 i0_9 => ?_)
    obtain ⟨r_9', hrun', ⟨a_9, ra, rA⟩, p1_9, p2_9, p3_9, p4_9, p5_9⟩ := ngb_run (D := D - 1) (i1 := y5) (i2 := y4) (i3 := y3) (i4 := y2) (i5 := y1) (i6 := y0) (s := s) (t := t_9) (kd := gt_g cst r_9.2.1 768) (vl := gt_g cst r_9.2.1 1280) (cc _) (by omega) w1_9 (by omega) (by omega) (by omega) (by omega) (by omega) (by omega) (by omega) (by omega) (by omega) (by omega) (by omega) (by omega) s0 s1 (w2_9 _ _ _ rfl klr) (w2_9 _ _ _ rfl ksr) t12 (w2_9 _ _ _ rfl kt) (fun j_9 hj => ⟨w2_9 _ _ _ rfl (rows_9 j_9 hj).1, w2_9 _ _ _ rfl (rows_9 j_9 hj).2.2⟩) (tkT_kb TT) (tkT_vB TT)
    rw [show D - 1 + 1 = D by omega] at hrun'
    refine hp_callc (mi := 137) (pc := 71) (tg := 133) (na := 7) (c := 0) (ci := 0) (st0 := [.int y0, .int y1, .int y2, .int y3, .int y4, .int y5, .ref 16]) (st := []) (av := [.int y5, .int y4, .int y3, .int y2, .int y1, .int y0]) hM_9 (by decide +kernel) w1_9 rfl rfl rfl (by decide) hrun' ?_
    rw [ra]
    rw [f5_9, f3_9, f1_9] at p5_9
    refine ncpr c_9 hM_9 (by omega) p3_9 a_9.toInt a_9 rfl a_9.le_toInt a_9.toInt_le i0_9 (fun h4 z_9 hz t1_9 t2_9 t3_9 => ⟨t_9, en, _, _, _, TT, ⟨z_9, rfl, ?_⟩, p1_9, p2_9, t1_9, ly_fr_tr frA (ly_fr_tr (ml_9 w2_9) (ly_fr_tr (hp_sub2 rfl p4_9) (ml_9 t2_9))), t2_9 _ _ _ rfl (p4_9 _ _ _ rfl (w2_9 _ _ _ rfl rk)), fun gg => ?_, fun ng => ?_⟩)
    · rw [hz]
      exact ⟨fun no_9' => absurd ok_9 no_9', fun _ => rA.2.1 trivial, fun _ => rA.2.2.1 trivial, fun _ => rA.2.2.2 trivial⟩
    · obtain ⟨e1_9, e2_9, e3_9, e4_9, e5_9, e6_9, e7_9, e8, e9_9, ea⟩ := p5_9.1 gg.2
      exact ⟨t2_9 _ _ _ rfl e1_9, t2_9 _ _ _ rfl e2_9, t2_9 _ _ _ rfl e3_9, t2_9 _ _ _ rfl e4_9, t2_9 _ _ _ rfl e5_9, t2_9 _ _ _ rfl e6_9, t2_9 _ _ _ rfl e7_9, t2_9 _ _ _ rfl e8, t2_9 _ _ _ rfl e9_9, t2_9 _ _ _ rfl ea⟩
    · obtain ⟨e1_9, e2_9⟩ := p5_9.2 (fun z_9 => ng ⟨ok_9, z_9⟩)
      exact ⟨t2_9 _ _ _ rfl e1_9, t2_9 _ _ _ rfl e2_9⟩
  obtain ⟨n_9', r_9, hgo, hΦ⟩ := go_9
  simp only [Nat.zero_add] at hΦ
  exact ⟨r_9, Or.inr ⟨M_9, n_9', hM_9, hl, hgo⟩, hΦ⟩
/-- of the reference -/
theorem nxp_run {cst : am_K} {strs : List Nat} {D : Nat} {h : am_H} (cc : ∀ d_9, hp_C cst strs d_9) (hD : 11 ≤ D) (hy : ly_hy m_tt ly_TH h) {xp xq xs xy xd xw : Int32} {f : Int → Int} {n : Int} {t : Nat} {kd pl vl : Int → Int} {en : Nat → Int} (TT : tkT f n t kd pl vl en) (n0 : 0 ≤ n) (n1 : n ≤ 1200) (ff : ∀ x_9, 0 ≤ x_9 → x_9 < n → gs_f cst h x_9 = f x_9) (kn : ly_hv cst h 19969 0 = some n) {u g s : Int} (u0 : 0 ≤ u) (u1 : u ≤ 120) (ku : ly_hv cst h 19978 0 = some u) (g0 : 0 ≤ g) (g1 : g ≤ 399) (kg : ly_hv cst h 19977 0 = some g) (s0 : 0 ≤ s) (s1 : s ≤ 100) (km : ly_hv cst h 20024 0 = some s) :
    ∃ r_9, am_Run cst m_cl m_tt m_P strs sx_bi (D + 1) 336 [.ref 94, .int xp, .int xq, .int xs, .int xy, .int xd, .int xw] h r_9 ∧ (fun r_9 : am_Q => ∃ a_9 : Int32, r_9.1 = some (.int a_9) ∧ r_9.2.2.1 = 0 ∧ r_9.2.2.2 = 0 ∧ ly_hy m_tt ly_TH r_9.2.1 ∧ ly_fr cst ng_mm h r_9.2.1 ∧ ly_hv cst r_9.2.1 19969 0 = some 0 ∧ ngA (nok_p xp.toInt xq.toInt xs.toInt xy.toInt xd.toInt xw.toInt u g) (sw kd vl t) s a_9.toInt ∧ ngM cst h r_9.2.1 ((nok_p xp.toInt xq.toInt xs.toInt xy.toInt xd.toInt xw.toInt u g) ∧ (sw kd vl t) ≠ 0 ∧ s ≠ 100) s 1 xs.toInt xd.toInt (sw kd vl t)) r_9 := by
  obtain ⟨M_9, hM_9, hl⟩ := hp_M (mi := 336) (k := 7) (by decide +kernel)
  have c_9 : hp_C cst strs D := cc _
  have bp0 : -2147483648 ≤ xp.toInt := xp.le_toInt
  have bp1 : xp.toInt ≤ 2147483647 := xp.toInt_le
  have bq0 : -2147483648 ≤ xq.toInt := xq.le_toInt
  have bq1 : xq.toInt ≤ 2147483647 := xq.toInt_le
  have bs0 : -2147483648 ≤ xs.toInt := xs.le_toInt
  have bs1 : xs.toInt ≤ 2147483647 := xs.toInt_le
  have by0 : -2147483648 ≤ xy.toInt := xy.le_toInt
  have by1 : xy.toInt ≤ 2147483647 := xy.toInt_le
  have bd0 : -2147483648 ≤ xd.toInt := xd.le_toInt
  have bd1 : xd.toInt ≤ 2147483647 := xd.toInt_le
  have bw0 : -2147483648 ≤ xw.toInt := xw.le_toInt
  have bw1 : xw.toInt ≤ 2147483647 := xw.toInt_le
  have go_9 : hp_F cst strs (fun r_9 : am_Q => ∃ a_9 : Int32, r_9.1 = some (.int a_9) ∧ r_9.2.2.1 = 0 ∧ r_9.2.2.2 = 0 ∧ ly_hy m_tt ly_TH r_9.2.1 ∧ ly_fr cst ng_mm h r_9.2.1 ∧ ly_hv cst r_9.2.1 19969 0 = some 0 ∧ ngA (nok_p xp.toInt xq.toInt xs.toInt xy.toInt xd.toInt xw.toInt u g) (sw kd vl t) s a_9.toInt ∧ ngM cst h r_9.2.1 ((nok_p xp.toInt xq.toInt xs.toInt xy.toInt xd.toInt xw.toInt u g) ∧ (sw kd vl t) ≠ 0 ∧ s ≠ 100) s 1 xs.toInt xd.toInt (sw kd vl t)) D M_9 0 (lv_args 0 [.ref 94, .int xp, .int xq, .int xs, .int xy, .int xd, .int xw]) [] h := by
    refine nxp0 c_9 hM_9 (by omega) hy xp.toInt xq.toInt xs.toInt xy.toInt xd.toInt xw.toInt bp0 bp1 bq0 bq1 bs0 bs1 by0 by1 bd0 bd1 bw0 bw1 rfl ⟨xp, rfl, rfl⟩ ⟨xq, rfl, rfl⟩ ⟨xs, rfl, rfl⟩ ⟨xy, rfl, rfl⟩ ⟨xd, rfl, rfl⟩ ⟨xw, rfl, rfl⟩ (fun l1 h1 u1_9' u2_9 u3 j0 j1 j2_9 j3_9 j4_9 j5_9 j6_9 => ?_)
    obtain ⟨r_9, hrun, xv, ra, r2, r3, rhy, rfr, rk, rW⟩ := ox_run (D := D - 3) cc (by omega) u1_9' TT n0 n1 (fun x_9 x0_9 x1_9 => by rw [gs_same hy u1_9' u2_9 rfl]; exact ff x_9 x0_9 x1_9) (u2_9 _ _ _ rfl kn)
    rw [show D - 3 + 3 = D by omega] at hrun
    refine hp_call (mi := 336) (pc := 2) (tg := 323) (na := 1) (c := 78) (ci := 12) (st0 := [.ref 94]) (st := [.ref 94]) (av := []) hM_9 (by decide +kernel) u1_9' rfl rfl rfl (Nat.le_of_ble_eq_true rfl) hrun r2 r3 ?_
    rw [ra]
    have frA : ly_fr cst ng_mm h r_9.2.1 := ly_fr_tr (hp_sub2 rfl u2_9) (hp_sub2 rfl rfr)
    have frB : ly_fr cst [19969, 19970, 19971, 19972, 19973, 19974, 19975, 19976] h r_9.2.1 := ly_fr_tr (hp_sub2 rfl u2_9) rfr
    have kur := frB _ _ _ rfl ku
    have kgr := frB _ _ _ rfl kg
    have kmr := frB _ _ _ rfl km
    have vB9 := tkT_vB TT
    have zb : ((sw kd vl t) = 0 ∨ 1 ≤ (sw kd vl t)) ∧ (sw kd vl t) ≤ 1152921504606846976 := by
      by_cases W_9 : t = 1 ∧ kd 0 = 1
      · have vb : 1 ≤ vl 0 ∧ vl 0 < 1152921504606846976 := (vB9 0 (by omega)).1 W_9.2
        rw [sw_1 W_9.1 W_9.2]
        omega
      · rw [sw_0 W_9]
        omega
    have z0 : 0 ≤ xv.toInt := by omega
    have z1 : xv.toInt ≤ 1152921504606846976 := by omega
    have old_9 : ∀ (h3 : am_H), ly_fr cst [20017] r_9.2.1 h3 → ∀ rg j_9 v_9, (rg = 28416 ∨ rg = 60091 ∨ rg = 29184 ∨ rg = 29696 ∨ rg = 30208) → j_9 ≠ s → ly_hv cst h rg j_9 = some v_9 → ly_hv cst h3 rg j_9 = some v_9 := fun h3 v2 rg j_9 v_9 hr _ e_9 => by rcases hr with rfl | rfl | rfl | rfl | rfl <;> exact v2 _ _ _ rfl (frB _ _ _ rfl e_9)
    have no_9 : ¬ (nok_p xp.toInt xq.toInt xs.toInt xy.toInt xd.toInt xw.toInt u g) → ∀ (h3 : am_H) (w_9 : Int32), w_9.toInt = -2 → ly_hy m_tt ly_TH h3 → ly_fr cst [20017] r_9.2.1 h3 → r_9.2.1.length ≤ h3.length → (fun r_9 : am_Q => ∃ a_9 : Int32, r_9.1 = some (.int a_9) ∧ r_9.2.2.1 = 0 ∧ r_9.2.2.2 = 0 ∧ ly_hy m_tt ly_TH r_9.2.1 ∧ ly_fr cst ng_mm h r_9.2.1 ∧ ly_hv cst r_9.2.1 19969 0 = some 0 ∧ ngA (nok_p xp.toInt xq.toInt xs.toInt xy.toInt xd.toInt xw.toInt u g) (sw kd vl t) s a_9.toInt ∧ ngM cst h r_9.2.1 ((nok_p xp.toInt xq.toInt xs.toInt xy.toInt xd.toInt xw.toInt u g) ∧ (sw kd vl t) ≠ 0 ∧ s ≠ 100) s 1 xs.toInt xd.toInt (sw kd vl t)) (some (.int w_9), h3, 0, 0) := fun nk h3 w_9 hw v1_9 v2 v3 => ⟨w_9, rfl, rfl, rfl, v1_9, ly_fr_tr frA (hp_sub2 rfl v2), v2 _ _ _ rfl rk, ⟨fun _ => hw, fun ok_9 => absurd ok_9 nk, fun ok_9 => absurd ok_9 nk, fun ok_9 => absurd ok_9 nk⟩, fun gg => absurd gg.1 nk, fun _ => v2 _ _ _ rfl kmr, old_9 h3 v2⟩
    by_cases q0 : xp.toInt ≤ -1
    · exact nxpg0 c_9 hM_9 (by omega) rhy xp.toInt xq.toInt xs.toInt xy.toInt xd.toInt xw.toInt u g xv.toInt xv rfl (by omega) (by omega) (by omega) (by omega) (by omega) (by omega) (by omega) (by omega) (by omega) (by omega) (by omega) (by omega) u0 u1 g0 g1 z0 z1 kur kgr j0 j1 j2_9 j3_9 j4_9 j5_9 j6_9 (no_9 (fun k_9 => by have := k_9.1; omega))
    by_cases q1_9 : u ≤ xp.toInt
    · exact nxpg1 c_9 hM_9 (by omega) rhy xp.toInt xq.toInt xs.toInt xy.toInt xd.toInt xw.toInt u g xv.toInt xv rfl (by omega) (by omega) (by omega) (by omega) (by omega) (by omega) (by omega) (by omega) (by omega) (by omega) (by omega) (by omega) u0 u1 g0 g1 z0 z1 (by omega) kur kgr j0 j1 j2_9 j3_9 j4_9 j5_9 j6_9 (no_9 (fun k_9 => by have := k_9.2.1; omega))
    by_cases q2_9 : xq.toInt ≤ -1
    · exact nxpg2 c_9 hM_9 (by omega) rhy xp.toInt xq.toInt xs.toInt xy.toInt xd.toInt xw.toInt u g xv.toInt xv rfl (by omega) (by omega) (by omega) (by omega) (by omega) (by omega) (by omega) (by omega) (by omega) (by omega) (by omega) (by omega) u0 u1 g0 g1 z0 z1 (by omega) kur kgr j0 j1 j2_9 j3_9 j4_9 j5_9 j6_9 (no_9 (fun k_9 => by have := k_9.2.2.1; omega))
    by_cases q3_9 : u ≤ xq.toInt
    · exact nxpg3 c_9 hM_9 (by omega) rhy xp.toInt xq.toInt xs.toInt xy.toInt xd.toInt xw.toInt u g xv.toInt xv rfl (by omega) (by omega) (by omega) (by omega) (by omega) (by omega) (by omega) (by omega) (by omega) (by omega) (by omega) (by omega) u0 u1 g0 g1 z0 z1 (by omega) (by omega) kur kgr j0 j1 j2_9 j3_9 j4_9 j5_9 j6_9 (no_9 (fun k_9 => by have := k_9.2.2.2.1; omega))
    by_cases q4_9 : xp.toInt = xq.toInt
    · exact nxpg4 c_9 hM_9 (by omega) rhy xp.toInt xs.toInt xy.toInt xd.toInt xw.toInt u g xv.toInt xv rfl (by omega) (by omega) (by omega) (by omega) (by omega) (by omega) (by omega) (by omega) (by omega) (by omega) u0 u1 g0 g1 z0 z1 (by omega) kur kgr j0 j1 (by obtain ⟨z_9, z1, z2⟩ := j2_9; exact ⟨z_9, z1, by omega⟩) j3_9 j4_9 j5_9 j6_9 (no_9 (fun k_9 => k_9.2.2.2.2.1 q4_9))
    have ne_9 : ly_hv cst r_9.2.1 61000 (xp.toInt - xq.toInt) = some 1 := hp_ne (by omega)
    by_cases q5_9 : xs.toInt ≤ -1
    · exact nxpg5 c_9 hM_9 (by omega) rhy xp.toInt xq.toInt xs.toInt xy.toInt xd.toInt xw.toInt u g xv.toInt xv rfl (by omega) (by omega) (by omega) (by omega) (by omega) (by omega) (by omega) (by omega) (by omega) (by omega) (by omega) (by omega) u0 u1 g0 g1 z0 z1 (by omega) (by omega) kur kgr ne_9 j0 j1 j2_9 j3_9 j4_9 j5_9 j6_9 (no_9 (fun k_9 => by have := k_9.2.2.2.2.2.1; omega))
    by_cases q6_9 : 6 ≤ xs.toInt
    · exact nxpg6 c_9 hM_9 (by omega) rhy xp.toInt xq.toInt xs.toInt xy.toInt xd.toInt xw.toInt u g xv.toInt xv rfl (by omega) (by omega) (by omega) (by omega) (by omega) (by omega) (by omega) (by omega) (by omega) (by omega) (by omega) (by omega) u0 u1 g0 g1 z0 z1 (by omega) (by omega) kur kgr ne_9 j0 j1 j2_9 j3_9 j4_9 j5_9 j6_9 (no_9 (fun k_9 => by have := k_9.2.2.2.2.2.2.1; omega))
    by_cases q7_9 : xy.toInt ≤ -1
    · exact nxpg7 c_9 hM_9 (by omega) rhy xp.toInt xq.toInt xs.toInt xy.toInt xd.toInt xw.toInt u g xv.toInt xv rfl (by omega) (by omega) (by omega) (by omega) (by omega) (by omega) (by omega) (by omega) (by omega) (by omega) (by omega) (by omega) u0 u1 g0 g1 z0 z1 (by omega) (by omega) kur kgr ne_9 j0 j1 j2_9 j3_9 j4_9 j5_9 j6_9 (no_9 (fun k_9 => by have := k_9.2.2.2.2.2.2.2.1; omega))
    by_cases q8_9 : 10 ≤ xy.toInt
    · exact nxpg8 c_9 hM_9 (by omega) rhy xp.toInt xq.toInt xs.toInt xy.toInt xd.toInt xw.toInt u g xv.toInt xv rfl (by omega) (by omega) (by omega) (by omega) (by omega) (by omega) (by omega) (by omega) (by omega) (by omega) (by omega) (by omega) u0 u1 g0 g1 z0 z1 (by omega) (by omega) kur kgr ne_9 j0 j1 j2_9 j3_9 j4_9 j5_9 j6_9 (no_9 (fun k_9 => by have := k_9.2.2.2.2.2.2.2.2.1; omega))
    by_cases q9_9 : xd.toInt ≤ -1
    · exact nxpg9 c_9 hM_9 (by omega) rhy xp.toInt xq.toInt xs.toInt xy.toInt xd.toInt xw.toInt u g xv.toInt xv rfl (by omega) (by omega) (by omega) (by omega) (by omega) (by omega) (by omega) (by omega) (by omega) (by omega) (by omega) (by omega) u0 u1 g0 g1 z0 z1 (by omega) (by omega) kur kgr ne_9 j0 j1 j2_9 j3_9 j4_9 j5_9 j6_9 (no_9 (fun k_9 => by have := k_9.2.2.2.2.2.2.2.2.2.1; omega))
    by_cases q10_9 : g < xd.toInt
    · exact nxpg10 c_9 hM_9 (by omega) rhy xp.toInt xq.toInt xs.toInt xy.toInt xd.toInt xw.toInt u g xv.toInt xv rfl (by omega) (by omega) (by omega) (by omega) (by omega) (by omega) (by omega) (by omega) (by omega) (by omega) (by omega) (by omega) u0 u1 g0 g1 z0 z1 (by omega) (by omega) (by omega) kur kgr ne_9 j0 j1 j2_9 j3_9 j4_9 j5_9 j6_9 (no_9 (fun k_9 => by have := k_9.2.2.2.2.2.2.2.2.2.2.1; omega))
    by_cases q11_9 : xw.toInt ≤ 0
    · exact nxpg11 c_9 hM_9 (by omega) rhy xp.toInt xq.toInt xs.toInt xy.toInt xd.toInt xw.toInt u g xv.toInt xv rfl (by omega) (by omega) (by omega) (by omega) (by omega) (by omega) (by omega) (by omega) (by omega) (by omega) (by omega) (by omega) u0 u1 g0 g1 z0 z1 (by omega) (by omega) (by omega) kur kgr ne_9 j0 j1 j2_9 j3_9 j4_9 j5_9 j6_9 (no_9 (fun k_9 => by have := k_9.2.2.2.2.2.2.2.2.2.2.2.1; omega))
    by_cases q12_9 : 10000 ≤ xw.toInt
    · exact nxpg12 c_9 hM_9 (by omega) rhy xp.toInt xq.toInt xs.toInt xy.toInt xd.toInt xw.toInt u g xv.toInt xv rfl (by omega) (by omega) (by omega) (by omega) (by omega) (by omega) (by omega) (by omega) (by omega) (by omega) (by omega) (by omega) u0 u1 g0 g1 z0 z1 (by omega) (by omega) (by omega) kur kgr ne_9 j0 j1 j2_9 j3_9 j4_9 j5_9 j6_9 (no_9 (fun k_9 => by have := k_9.2.2.2.2.2.2.2.2.2.2.2.2; omega))
    have ok_9 : (nok_p xp.toInt xq.toInt xs.toInt xy.toInt xd.toInt xw.toInt u g) := ⟨by omega, by omega, by omega, by omega, q4_9, by omega, by omega, by omega, by omega, by omega, by omega, by omega, by omega⟩
    by_cases W_9 : (sw kd vl t) = 0
    · rw [W_9] at rW
      exact nxpn c_9 hM_9 (by omega) rhy xp.toInt xq.toInt xs.toInt xy.toInt xd.toInt xw.toInt u g xv rW (by omega) (by omega) (by omega) (by omega) (by omega) (by omega) (by omega) (by omega) (by omega) (by omega) (by omega) (by omega) u0 u1 g0 g1 (by omega) (by omega) (by omega) kur kgr ne_9 j0 j1 j2_9 j3_9 j4_9 j5_9 j6_9 (fun h3 w_9 hw v1_9 v2 v3 => ⟨w_9, rfl, rfl, rfl, v1_9, ly_fr_tr frA (hp_sub2 rfl v2), v2 _ _ _ rfl rk, ⟨fun no_9' => absurd ok_9 no_9', fun _ _ => hw, fun _ w_9' => absurd W_9 w_9', fun _ w_9' => absurd W_9 w_9'⟩, fun gg => absurd W_9 gg.2.1, fun _ => v2 _ _ _ rfl kmr, old_9 h3 v2⟩)
    have v0_9 : 1 ≤ xv.toInt := by omega
    by_cases z_9 : s = 100
    · rw [z_9] at kmr
      exact nxpf c_9 hM_9 (by omega) rhy xp.toInt xq.toInt xs.toInt xy.toInt xd.toInt xw.toInt u g xv.toInt xv rfl (by omega) (by omega) (by omega) (by omega) (by omega) (by omega) (by omega) (by omega) (by omega) (by omega) (by omega) (by omega) u0 u1 g0 g1 v0_9 z1 (by omega) (by omega) (by omega) kur kgr ne_9 kmr j0 j1 j2_9 j3_9 j4_9 j5_9 j6_9 (fun h3 w_9 hw v1_9 v2 v3 => ⟨w_9, rfl, rfl, rfl, v1_9, ly_fr_tr frA (hp_sub2 rfl v2), v2 _ _ _ rfl rk, ⟨fun no_9' => absurd ok_9 no_9', fun _ nw => absurd nw W_9, fun _ _ _ => hw, fun _ _ nz => absurd z_9 nz⟩, fun gg => absurd z_9 gg.2.2, fun _ => by rw [z_9]; exact v2 _ _ _ rfl kmr, old_9 h3 v2⟩)
    refine nxpk c_9 hM_9 (by omega) rhy xp.toInt xq.toInt xs.toInt xy.toInt xd.toInt xw.toInt u g xv.toInt s xv rfl (by omega) (by omega) (by omega) (by omega) (by omega) (by omega) (by omega) (by omega) (by omega) (by omega) (by omega) (by omega) u0 u1 g0 g1 v0_9 z1 s0 (by omega) (by omega) (by omega) (by omega) kur kgr ne_9 kmr j0 j1 j2_9 j3_9 j4_9 j5_9 j6_9 (fun l2 h2 y0 y1 y2 y3 y4 y5 y6 f0_9 f1_9 f2_9 f3_9 f4_9 f5_9 f6_9 w1_9 w2_9 w3_9 kvv i0_9 => ?_)
    obtain ⟨r_9', hrun', a_9, ra', q2_9, q3_9, q4_9, q5_9, q6_9, q7_9, q8_9, q9_9, qa, qb, qc, qd⟩ := nbz_run (D := D - 1) (i1 := y6) (i2 := y5) (i3 := y4) (i4 := y3) (i5 := y2) (i6 := y1) (i7 := y0) (m := s) (g := g) (v := xv.toInt) cc (by omega) w1_9 (by omega) (by omega) s0 (by omega) g0 g1 v0_9 z1 (w2_9 _ _ _ rfl kmr) (w2_9 _ _ _ rfl kgr) kvv
    rw [show D - 1 + 1 = D by omega] at hrun'
    refine hp_call (mi := 336) (pc := 111) (tg := 335) (na := 8) (c := 78) (ci := 12) (st0 := [.int y0, .int y1, .int y2, .int y3, .int y4, .int y5, .int y6, .ref 94]) (st := []) (av := [.int y6, .int y5, .int y4, .int y3, .int y2, .int y1, .int y0]) hM_9 (by decide +kernel) w1_9 rfl rfl rfl (by decide) hrun' q2_9 q3_9 ?_
    rw [ra']
    rw [f6_9] at q9_9
    rw [f3_9] at qa
    rw [f1_9] at qb
    rw [rW] at qc
    exact nxpr c_9 hM_9 (by omega) q4_9 a_9.toInt a_9 rfl a_9.le_toInt a_9.toInt_le i0_9 (fun h4 w_9 hw t1_9 t2_9 t3_9 => ⟨w_9, rfl, rfl, rfl, t1_9, ly_fr_tr frA (ly_fr_tr (hp_sub2 rfl w2_9) (ly_fr_tr (hp_sub2 rfl q6_9) (hp_sub2 rfl t2_9))), t2_9 _ _ _ rfl (q6_9 _ _ _ rfl (w2_9 _ _ _ rfl rk)), ⟨fun no_9' => absurd ok_9 no_9', fun _ nw => absurd nw W_9, fun _ _ e_9 => absurd e_9 z_9, fun _ _ _ => by rw [hw, q5_9]⟩, fun _ => ⟨t2_9 _ _ _ rfl q7_9, t2_9 _ _ _ rfl q8_9, t2_9 _ _ _ rfl q9_9, t2_9 _ _ _ rfl qa, t2_9 _ _ _ rfl qb, t2_9 _ _ _ rfl qc⟩, fun ng => absurd ⟨ok_9, W_9, z_9⟩ ng, fun rg j_9 v_9 hr hj e_9 => by rcases hr with rfl | rfl | rfl | rfl | rfl <;> exact t2_9 _ _ _ rfl (qd _ j_9 v_9 (by simp) hj (w2_9 _ _ _ rfl (frB _ _ _ rfl e_9)))⟩)
  obtain ⟨n_9', r_9, hgo, w_9, r1_9, r2, r3, r4⟩ := go_9
  simp only [Nat.zero_add] at r2 r3
  exact ⟨r_9, Or.inr ⟨M_9, n_9', hM_9, hl, hgo⟩, w_9, r1_9, r2, r3, r4⟩
