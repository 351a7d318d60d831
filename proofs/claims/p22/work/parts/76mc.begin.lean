/-! PRINTED by wip/p2/hp_begin.py: a matter begun: crown and plea of class and reference -/
theorem bw0_k : hp_chk 133 0 7 [(0, (-2147483648), 2147483647), (1, (-2147483648), 2147483647), (2, (-2147483648), 2147483647), (3, (-2147483648), 2147483647), (4, (-2147483648), 2147483647), (5, (-2147483648), 2147483647), (6, 0, 1200)] [] [(0, .inr (.inr (.inl (some 16)))), (1, .inl (0, [(0, 1)])), (2, .inl (0, [(1, 1)])), (3, .inl (0, [(2, 1)])), (4, .inl (0, [(3, 1)])), (5, .inl (0, [(4, 1)])), (6, .inl (0, [(5, 1)]))] [] [(261, (0, []), (0, [(6, 1)])), (61000, ((-1), [(6, 1)]), (1, []))] [] 6 [] [([], 7, [(0, (-2147483648), 2147483647), (1, (-2147483648), 2147483647), (2, (-2147483648), 2147483647), (3, (-2147483648), 2147483647), (4, (-2147483648), 2147483647), (5, (-2147483648), 2147483647), (6, 0, 1200)], [], [], [.inl ((-1), [])], [])] = true := by decide +kernel
theorem bw0 {cst : am_K} {strs : List Nat} {Φ : am_Q → Prop} {D : Nat} {M : am_M} {h : am_H} {l : am_L} (c : hp_C cst strs D) (hM : m_P[133]? = some M) (hD : (6 : Int) ≤ (D : Int) + 1) (hy : ly_hy m_tt ly_TH h) (j1 j2 j3 j4 j5 j6 t : Int) (b0 : (-2147483648) ≤ j1) (t0 : j1 ≤ 2147483647) (b1 : (-2147483648) ≤ j2) (t1 : j2 ≤ 2147483647) (b2 : (-2147483648) ≤ j3) (t2 : j3 ≤ 2147483647) (b3 : (-2147483648) ≤ j4) (t3 : j4 ≤ 2147483647) (b4 : (-2147483648) ≤ j5) (t4 : j5 ≤ 2147483647) (b5 : (-2147483648) ≤ j6) (t5 : j6 ≤ 2147483647) (b6 : 0 ≤ t) (t6 : t ≤ 1200) (k0 : ly_hv cst h 261 0 = some (t)) (k1 : ly_hv cst h 61000 (t - 1) = some 1) (l0 : hp_a l 0 16) (l1 : hp_i l 1 (j1)) (l2 : hp_i l 2 (j2)) (l3 : hp_i l 3 (j3)) (l4 : hp_i l 4 (j4)) (l5 : hp_i l 5 (j5)) (l6 : hp_i l 6 (j6)) (r0 : ∀ (h' : am_H) (y0 : Int32), y0.toInt = (-1) → ly_hy m_tt ly_TH h' → ly_fr cst [] h h' → h.length ≤ h'.length → Φ (some (.int y0), h', 0, 0)) : hp_F cst strs Φ D M 0 l [] h := by
  refine hp_arc c hM bw0_k hD [j1, j2, j3, j4, j5, j6, t] rfl hy (hp_Bc (z := j1) rfl b0 t0 (hp_Bc (z := j2) rfl b1 t1 (hp_Bc (z := j3) rfl b2 t2 (hp_Bc (z := j4) rfl b3 t3 (hp_Bc (z := j5) rfl b4 t4 (hp_Bc (z := j6) rfl b5 t5 (hp_Bc (z := t) rfl b6 t6 hp_Bn))))))) hp_Fn (hp_Kc (zi := (0 + 0)) (zv := (0 + (1 * t + 0))) k0 rfl rfl (by omega) (by omega) (hp_Kc (zi := ((-1) + (1 * t + 0))) (zv := (1 + 0)) k1 rfl rfl (by omega) (by omega) hp_Kn)) (hp_La l0 (hp_Li (z := (0 + (1 * j1 + 0))) l1 rfl (by omega) (hp_Li (z := (0 + (1 * j2 + 0))) l2 rfl (by omega) (hp_Li (z := (0 + (1 * j3 + 0))) l3 rfl (by omega) (hp_Li (z := (0 + (1 * j4 + 0))) l4 rfl (by omega) (hp_Li (z := (0 + (1 * j5 + 0))) l5 rfl (by omega) (hp_Li (z := (0 + (1 * j6 + 0))) l6 rfl (by omega) hp_Ln))))))) trivial ?_ ?_
  · intro p hp ys l' st' h' hys a1 a2 a3 gZ gL gS
    cases hp
  · intro p hp ys v h' hys a1 a2 a3 gZ gS
    rcases List.mem_cons.mp hp with rfl | hp
    · obtain rfl := hp_y0 hys
      cases v with
      | none => cases gS
      | some w =>
        obtain ⟨y0, t0, s0, q0, -⟩ := hp_gSi (z := ((-1) + 0)) gS rfl
        cases s0
        exact r0 h' y0 (by omega) a1 a2 a3
    cases hp
theorem bw1_k : hp_chk 133 0 7 [(0, (-2147483648), 2147483647), (1, (-2147483648), 2147483647), (2, (-2147483648), 2147483647), (3, (-2147483648), 2147483647), (4, (-2147483648), 2147483647), (5, (-2147483648), 2147483647), (6, 2, 255)] [] [(0, .inr (.inr (.inl (some 16)))), (1, .inl (0, [(0, 1)])), (2, .inl (0, [(1, 1)])), (3, .inl (0, [(2, 1)])), (4, .inl (0, [(3, 1)])), (5, .inl (0, [(4, 1)])), (6, .inl (0, [(5, 1)]))] [] [(261, (0, []), (1, [])), (768, (0, []), (0, [(6, 1)]))] [] 6 [] [([], 7, [(0, (-2147483648), 2147483647), (1, (-2147483648), 2147483647), (2, (-2147483648), 2147483647), (3, (-2147483648), 2147483647), (4, (-2147483648), 2147483647), (5, (-2147483648), 2147483647), (6, 2, 255)], [], [], [.inl ((-1), [])], [])] = true := by decide +kernel
theorem bw1 {cst : am_K} {strs : List Nat} {Φ : am_Q → Prop} {D : Nat} {M : am_M} {h : am_H} {l : am_L} (c : hp_C cst strs D) (hM : m_P[133]? = some M) (hD : (6 : Int) ≤ (D : Int) + 1) (hy : ly_hy m_tt ly_TH h) (j1 j2 j3 j4 j5 j6 kk : Int) (b0 : (-2147483648) ≤ j1) (t0 : j1 ≤ 2147483647) (b1 : (-2147483648) ≤ j2) (t1 : j2 ≤ 2147483647) (b2 : (-2147483648) ≤ j3) (t2 : j3 ≤ 2147483647) (b3 : (-2147483648) ≤ j4) (t3 : j4 ≤ 2147483647) (b4 : (-2147483648) ≤ j5) (t4 : j5 ≤ 2147483647) (b5 : (-2147483648) ≤ j6) (t5 : j6 ≤ 2147483647) (b6 : 2 ≤ kk) (t6 : kk ≤ 255) (k0 : ly_hv cst h 261 0 = some 1) (k1 : ly_hv cst h 768 0 = some (kk)) (l0 : hp_a l 0 16) (l1 : hp_i l 1 (j1)) (l2 : hp_i l 2 (j2)) (l3 : hp_i l 3 (j3)) (l4 : hp_i l 4 (j4)) (l5 : hp_i l 5 (j5)) (l6 : hp_i l 6 (j6)) (r0 : ∀ (h' : am_H) (y0 : Int32), y0.toInt = (-1) → ly_hy m_tt ly_TH h' → ly_fr cst [] h h' → h.length ≤ h'.length → Φ (some (.int y0), h', 0, 0)) : hp_F cst strs Φ D M 0 l [] h := by
  refine hp_arc c hM bw1_k hD [j1, j2, j3, j4, j5, j6, kk] rfl hy (hp_Bc (z := j1) rfl b0 t0 (hp_Bc (z := j2) rfl b1 t1 (hp_Bc (z := j3) rfl b2 t2 (hp_Bc (z := j4) rfl b3 t3 (hp_Bc (z := j5) rfl b4 t4 (hp_Bc (z := j6) rfl b5 t5 (hp_Bc (z := kk) rfl b6 t6 hp_Bn))))))) hp_Fn (hp_Kc (zi := (0 + 0)) (zv := (1 + 0)) k0 rfl rfl (by omega) (by omega) (hp_Kc (zi := (0 + 0)) (zv := (0 + (1 * kk + 0))) k1 rfl rfl (by omega) (by omega) hp_Kn)) (hp_La l0 (hp_Li (z := (0 + (1 * j1 + 0))) l1 rfl (by omega) (hp_Li (z := (0 + (1 * j2 + 0))) l2 rfl (by omega) (hp_Li (z := (0 + (1 * j3 + 0))) l3 rfl (by omega) (hp_Li (z := (0 + (1 * j4 + 0))) l4 rfl (by omega) (hp_Li (z := (0 + (1 * j5 + 0))) l5 rfl (by omega) (hp_Li (z := (0 + (1 * j6 + 0))) l6 rfl (by omega) hp_Ln))))))) trivial ?_ ?_
  · intro p hp ys l' st' h' hys a1 a2 a3 gZ gL gS
    cases hp
  · intro p hp ys v h' hys a1 a2 a3 gZ gS
    rcases List.mem_cons.mp hp with rfl | hp
    · obtain rfl := hp_y0 hys
      cases v with
      | none => cases gS
      | some w =>
        obtain ⟨y0, t0, s0, q0, -⟩ := hp_gSi (z := ((-1) + 0)) gS rfl
        cases s0
        exact r0 h' y0 (by omega) a1 a2 a3
    cases hp
theorem bw2_k : hp_chk 133 0 7 [(0, (-2147483648), 2147483647), (1, (-2147483648), 2147483647), (2, (-2147483648), 2147483647), (3, (-2147483648), 2147483647), (4, (-2147483648), 2147483647), (5, (-2147483648), 2147483647), (6, 1, 1152921504606846976)] [] [(0, .inr (.inr (.inl (some 16)))), (1, .inl (0, [(0, 1)])), (2, .inl (0, [(1, 1)])), (3, .inl (0, [(2, 1)])), (4, .inl (0, [(3, 1)])), (5, .inl (0, [(4, 1)])), (6, .inl (0, [(5, 1)]))] [] [(261, (0, []), (1, [])), (768, (0, []), (1, [])), (1280, (0, []), (0, [(6, 1)])), (7170, (0, []), (100, []))] [] 6 [] [([], 7, [(0, (-2147483648), 2147483647), (1, (-2147483648), 2147483647), (2, (-2147483648), 2147483647), (3, (-2147483648), 2147483647), (4, (-2147483648), 2147483647), (5, (-2147483648), 2147483647), (6, 1, 1152921504606846976)], [], [], [.inl ((-3), [])], [])] = true := by decide +kernel
theorem bw2 {cst : am_K} {strs : List Nat} {Φ : am_Q → Prop} {D : Nat} {M : am_M} {h : am_H} {l : am_L} (c : hp_C cst strs D) (hM : m_P[133]? = some M) (hD : (6 : Int) ≤ (D : Int) + 1) (hy : ly_hy m_tt ly_TH h) (j1 j2 j3 j4 j5 j6 vv : Int) (b0 : (-2147483648) ≤ j1) (t0 : j1 ≤ 2147483647) (b1 : (-2147483648) ≤ j2) (t1 : j2 ≤ 2147483647) (b2 : (-2147483648) ≤ j3) (t2 : j3 ≤ 2147483647) (b3 : (-2147483648) ≤ j4) (t3 : j4 ≤ 2147483647) (b4 : (-2147483648) ≤ j5) (t4 : j5 ≤ 2147483647) (b5 : (-2147483648) ≤ j6) (t5 : j6 ≤ 2147483647) (b6 : 1 ≤ vv) (t6 : vv ≤ 1152921504606846976) (k0 : ly_hv cst h 261 0 = some 1) (k1 : ly_hv cst h 768 0 = some 1) (k2 : ly_hv cst h 1280 0 = some (vv)) (k3 : ly_hv cst h 7170 0 = some 100) (l0 : hp_a l 0 16) (l1 : hp_i l 1 (j1)) (l2 : hp_i l 2 (j2)) (l3 : hp_i l 3 (j3)) (l4 : hp_i l 4 (j4)) (l5 : hp_i l 5 (j5)) (l6 : hp_i l 6 (j6)) (r0 : ∀ (h' : am_H) (y0 : Int32), y0.toInt = (-3) → ly_hy m_tt ly_TH h' → ly_fr cst [] h h' → h.length ≤ h'.length → Φ (some (.int y0), h', 0, 0)) : hp_F cst strs Φ D M 0 l [] h := by
  refine hp_arc c hM bw2_k hD [j1, j2, j3, j4, j5, j6, vv] rfl hy (hp_Bc (z := j1) rfl b0 t0 (hp_Bc (z := j2) rfl b1 t1 (hp_Bc (z := j3) rfl b2 t2 (hp_Bc (z := j4) rfl b3 t3 (hp_Bc (z := j5) rfl b4 t4 (hp_Bc (z := j6) rfl b5 t5 (hp_Bc (z := vv) rfl b6 t6 hp_Bn))))))) hp_Fn (hp_Kc (zi := (0 + 0)) (zv := (1 + 0)) k0 rfl rfl (by omega) (by omega) (hp_Kc (zi := (0 + 0)) (zv := (1 + 0)) k1 rfl rfl (by omega) (by omega) (hp_Kc (zi := (0 + 0)) (zv := (0 + (1 * vv + 0))) k2 rfl rfl (by omega) (by omega) (hp_Kc (zi := (0 + 0)) (zv := (100 + 0)) k3 rfl rfl (by omega) (by omega) hp_Kn)))) (hp_La l0 (hp_Li (z := (0 + (1 * j1 + 0))) l1 rfl (by omega) (hp_Li (z := (0 + (1 * j2 + 0))) l2 rfl (by omega) (hp_Li (z := (0 + (1 * j3 + 0))) l3 rfl (by omega) (hp_Li (z := (0 + (1 * j4 + 0))) l4 rfl (by omega) (hp_Li (z := (0 + (1 * j5 + 0))) l5 rfl (by omega) (hp_Li (z := (0 + (1 * j6 + 0))) l6 rfl (by omega) hp_Ln))))))) trivial ?_ ?_
  · intro p hp ys l' st' h' hys a1 a2 a3 gZ gL gS
    cases hp
  · intro p hp ys v h' hys a1 a2 a3 gZ gS
    rcases List.mem_cons.mp hp with rfl | hp
    · obtain rfl := hp_y0 hys
      cases v with
      | none => cases gS
      | some w =>
        obtain ⟨y0, t0, s0, q0, -⟩ := hp_gSi (z := ((-3) + 0)) gS rfl
        cases s0
        exact r0 h' y0 (by omega) a1 a2 a3
    cases hp
theorem xb0_k : hp_chk 335 0 9 [(0, 0, 1), (1, (-2147483648), 2147483647), (2, (-2147483648), 2147483647), (3, (-2147483648), 2147483647), (4, (-2147483648), 2147483647), (5, (-2147483648), 2147483647), (6, (-2147483648), 2147483647), (7, 0, 99), (8, 0, 399)] [] [(0, .inr (.inr (.inl (some 94)))), (1, .inl (0, [(0, 1)])), (2, .inl (0, [(1, 1)])), (3, .inl (0, [(2, 1)])), (4, .inl (0, [(3, 1)])), (5, .inl (0, [(4, 1)])), (6, .inl (0, [(5, 1)])), (7, .inl (0, [(6, 1)]))] [] [(20024, (0, []), (0, [(7, 1)])), (19977, (0, []), (0, [(8, 1)]))] [20024, 20054, 28416, 28672, 28928, 29184, 29440, 29696, 29952, 30208, 30464, 32000, 32768, 35584, 35840] 6 [] [([], 9, [(0, 0, 1), (1, (-2147483648), 2147483647), (2, (-2147483648), 2147483647), (3, (-2147483648), 2147483647), (4, (-2147483648), 2147483647), (5, (-2147483648), 2147483647), (6, (-2147483648), 2147483647), (7, 0, 99), (8, 0, 399)], [], [], [.inl (0, [(7, 1)])], [(20024, (0, []), (1, [(7, 1)]))])] = true := by decide +kernel
theorem xb0 {cst : am_K} {strs : List Nat} {Φ : am_Q → Prop} {D : Nat} {M : am_M} {h : am_H} {l : am_L} (c : hp_C cst strs D) (hM : m_P[335]? = some M) (hD : (6 : Int) ≤ (D : Int) + 1) (hy : ly_hy m_tt ly_TH h) (z p q s y d w m g : Int) (b0 : 0 ≤ z) (t0 : z ≤ 1) (b1 : (-2147483648) ≤ p) (t1 : p ≤ 2147483647) (b2 : (-2147483648) ≤ q) (t2 : q ≤ 2147483647) (b3 : (-2147483648) ≤ s) (t3 : s ≤ 2147483647) (b4 : (-2147483648) ≤ y) (t4 : y ≤ 2147483647) (b5 : (-2147483648) ≤ d) (t5 : d ≤ 2147483647) (b6 : (-2147483648) ≤ w) (t6 : w ≤ 2147483647) (b7 : 0 ≤ m) (t7 : m ≤ 99) (b8 : 0 ≤ g) (t8 : g ≤ 399) (k0 : ly_hv cst h 20024 0 = some (m)) (k1 : ly_hv cst h 19977 0 = some (g)) (l0 : hp_a l 0 94) (l1 : hp_i l 1 (z)) (l2 : hp_i l 2 (p)) (l3 : hp_i l 3 (q)) (l4 : hp_i l 4 (s)) (l5 : hp_i l 5 (y)) (l6 : hp_i l 6 (d)) (l7 : hp_i l 7 (w)) (r0 : ∀ (h' : am_H) (y0 : Int32), y0.toInt = (m) → ly_hy m_tt ly_TH h' → ly_fr cst [20024, 20054, 28416, 28672, 28928, 29184, 29440, 29696, 29952, 30208, 30464, 32000, 32768, 35584, 35840] h h' → h.length ≤ h'.length → ly_hv cst h' 20024 0 = some (m + 1) → Φ (some (.int y0), h', 0, 0)) : hp_F cst strs Φ D M 0 l [] h := by
  refine hp_arc c hM xb0_k hD [z, p, q, s, y, d, w, m, g] rfl hy (hp_Bc (z := z) rfl b0 t0 (hp_Bc (z := p) rfl b1 t1 (hp_Bc (z := q) rfl b2 t2 (hp_Bc (z := s) rfl b3 t3 (hp_Bc (z := y) rfl b4 t4 (hp_Bc (z := d) rfl b5 t5 (hp_Bc (z := w) rfl b6 t6 (hp_Bc (z := m) rfl b7 t7 (hp_Bc (z := g) rfl b8 t8 hp_Bn))))))))) hp_Fn (hp_Kc (zi := (0 + 0)) (zv := (0 + (1 * m + 0))) k0 rfl rfl (by omega) (by omega) (hp_Kc (zi := (0 + 0)) (zv := (0 + (1 * g + 0))) k1 rfl rfl (by omega) (by omega) hp_Kn)) (hp_La l0 (hp_Li (z := (0 + (1 * z + 0))) l1 rfl (by omega) (hp_Li (z := (0 + (1 * p + 0))) l2 rfl (by omega) (hp_Li (z := (0 + (1 * q + 0))) l3 rfl (by omega) (hp_Li (z := (0 + (1 * s + 0))) l4 rfl (by omega) (hp_Li (z := (0 + (1 * y + 0))) l5 rfl (by omega) (hp_Li (z := (0 + (1 * d + 0))) l6 rfl (by omega) (hp_Li (z := (0 + (1 * w + 0))) l7 rfl (by omega) hp_Ln)))))))) trivial ?_ ?_
  · intro p hp ys l' st' h' hys a1 a2 a3 gZ gL gS
    cases hp
  · intro p hp ys v h' hys a1 a2 a3 gZ gS
    rcases List.mem_cons.mp hp with rfl | hp
    · obtain rfl := hp_y0 hys
      cases v with
      | none => cases gS
      | some w =>
        obtain ⟨y0, t0, s0, q0, -⟩ := hp_gSi (z := (0 + (1 * m + 0))) gS rfl
        cases s0
        exact r0 h' y0 (by omega) a1 a2 a3 (hp_gK (zi := (0 + 0)) (zv := (1 + (1 * m + 0))) gZ.2.2.2 (List.mem_of_getElem? (i := 0) rfl) rfl rfl (by omega) (by omega))
    cases hp
theorem cwc0_k : hp_chk 131 0 4 [(0, (-2147483648), 2147483647), (1, (-2147483648), 2147483647), (2, (-2147483648), 2147483647), (3, (-2147483648), 2147483647)] [] [(0, .inr (.inr (.inl (some 16)))), (1, .inl (0, [(0, 1)])), (2, .inl (0, [(1, 1)])), (3, .inl (0, [(2, 1)])), (4, .inl (0, [(3, 1)]))] [] [] [] 2 [(4, ([], 4, [(0, (-2147483648), 2147483647), (1, (-2147483648), 2147483647), (2, (-2147483648), 2147483647), (3, (-2147483648), 2147483647)], [], [(0, .inr (.inr (.inl (some 16)))), (1, .inl (0, [(0, 1)])), (2, .inl (0, [(1, 1)])), (3, .inl (0, [(2, 1)])), (4, .inl (0, [(3, 1)]))], [.inr (.inr (.inl (some 17)))], []))] [] = true := by decide +kernel
theorem cwc0 {cst : am_K} {strs : List Nat} {Φ : am_Q → Prop} {D : Nat} {M : am_M} {h : am_H} {l : am_L} (c : hp_C cst strs D) (hM : m_P[131]? = some M) (hD : (2 : Int) ≤ (D : Int) + 1) (hy : ly_hy m_tt ly_TH h) (p s y d : Int) (b0 : (-2147483648) ≤ p) (t0 : p ≤ 2147483647) (b1 : (-2147483648) ≤ s) (t1 : s ≤ 2147483647) (b2 : (-2147483648) ≤ y) (t2 : y ≤ 2147483647) (b3 : (-2147483648) ≤ d) (t3 : d ≤ 2147483647) (l0 : hp_a l 0 16) (l1 : hp_i l 1 (p)) (l2 : hp_i l 2 (s)) (l3 : hp_i l 3 (y)) (l4 : hp_i l 4 (d)) (e0 : ∀ (l' : am_L) (h' : am_H), ly_hy m_tt ly_TH h' → ly_fr cst [] h h' → h.length ≤ h'.length → hp_a l' 0 16 → hp_i l' 1 (p) → hp_i l' 2 (s) → hp_i l' 3 (y) → hp_i l' 4 (d) → hp_F cst strs Φ D M 4 l' [.ref 17] h') : hp_F cst strs Φ D M 0 l [] h := by
  refine hp_arc c hM cwc0_k hD [p, s, y, d] rfl hy (hp_Bc (z := p) rfl b0 t0 (hp_Bc (z := s) rfl b1 t1 (hp_Bc (z := y) rfl b2 t2 (hp_Bc (z := d) rfl b3 t3 hp_Bn)))) hp_Fn hp_Kn (hp_La l0 (hp_Li (z := (0 + (1 * p + 0))) l1 rfl (by omega) (hp_Li (z := (0 + (1 * s + 0))) l2 rfl (by omega) (hp_Li (z := (0 + (1 * y + 0))) l3 rfl (by omega) (hp_Li (z := (0 + (1 * d + 0))) l4 rfl (by omega) hp_Ln))))) trivial ?_ ?_
  · intro p hp ys l' st' h' hys a1 a2 a3 gZ gL gS
    rcases List.mem_cons.mp hp with rfl | hp
    · obtain rfl := hp_y0 hys
      obtain ⟨t0, rfl, g0⟩ := hp_gSa gS (by decide)
      cases hp_gSn g0
      exact e0 l' h' a1 a2 a3 (hp_gLa gL (List.mem_of_getElem? (i := 0) rfl) (by decide)) (hp_gLi (z := (0 + (1 * p + 0))) gL (List.mem_of_getElem? (i := 1) rfl) rfl (by omega)) (hp_gLi (z := (0 + (1 * s + 0))) gL (List.mem_of_getElem? (i := 2) rfl) rfl (by omega)) (hp_gLi (z := (0 + (1 * y + 0))) gL (List.mem_of_getElem? (i := 3) rfl) rfl (by omega)) (hp_gLi (z := (0 + (1 * d + 0))) gL (List.mem_of_getElem? (i := 4) rfl) rfl (by omega))
    cases hp
  · intro p hp ys v h' hys a1 a2 a3 gZ gS
    cases hp
theorem xwc0_k : hp_chk 334 0 4 [(0, (-2147483648), 2147483647), (1, (-2147483648), 2147483647), (2, (-2147483648), 2147483647), (3, (-2147483648), 2147483647)] [] [(0, .inr (.inr (.inl (some 94)))), (1, .inl (0, [(0, 1)])), (2, .inl (0, [(1, 1)])), (3, .inl (0, [(2, 1)])), (4, .inl (0, [(3, 1)]))] [] [] [] 2 [(2, ([], 4, [(0, (-2147483648), 2147483647), (1, (-2147483648), 2147483647), (2, (-2147483648), 2147483647), (3, (-2147483648), 2147483647)], [], [(0, .inr (.inr (.inl (some 94)))), (1, .inl (0, [(0, 1)])), (2, .inl (0, [(1, 1)])), (3, .inl (0, [(2, 1)])), (4, .inl (0, [(3, 1)]))], [.inr (.inr (.inl (some 94))), .inr (.inr (.inl (some 94)))], []))] [] = true := by decide +kernel
theorem xwc0 {cst : am_K} {strs : List Nat} {Φ : am_Q → Prop} {D : Nat} {M : am_M} {h : am_H} {l : am_L} (c : hp_C cst strs D) (hM : m_P[334]? = some M) (hD : (2 : Int) ≤ (D : Int) + 1) (hy : ly_hy m_tt ly_TH h) (p s y d : Int) (b0 : (-2147483648) ≤ p) (t0 : p ≤ 2147483647) (b1 : (-2147483648) ≤ s) (t1 : s ≤ 2147483647) (b2 : (-2147483648) ≤ y) (t2 : y ≤ 2147483647) (b3 : (-2147483648) ≤ d) (t3 : d ≤ 2147483647) (l0 : hp_a l 0 94) (l1 : hp_i l 1 (p)) (l2 : hp_i l 2 (s)) (l3 : hp_i l 3 (y)) (l4 : hp_i l 4 (d)) (e0 : ∀ (l' : am_L) (h' : am_H), ly_hy m_tt ly_TH h' → ly_fr cst [] h h' → h.length ≤ h'.length → hp_a l' 0 94 → hp_i l' 1 (p) → hp_i l' 2 (s) → hp_i l' 3 (y) → hp_i l' 4 (d) → hp_F cst strs Φ D M 2 l' [.ref 94, .ref 94] h') : hp_F cst strs Φ D M 0 l [] h := by
  refine hp_arc c hM xwc0_k hD [p, s, y, d] rfl hy (hp_Bc (z := p) rfl b0 t0 (hp_Bc (z := s) rfl b1 t1 (hp_Bc (z := y) rfl b2 t2 (hp_Bc (z := d) rfl b3 t3 hp_Bn)))) hp_Fn hp_Kn (hp_La l0 (hp_Li (z := (0 + (1 * p + 0))) l1 rfl (by omega) (hp_Li (z := (0 + (1 * s + 0))) l2 rfl (by omega) (hp_Li (z := (0 + (1 * y + 0))) l3 rfl (by omega) (hp_Li (z := (0 + (1 * d + 0))) l4 rfl (by omega) hp_Ln))))) trivial ?_ ?_
  · intro p hp ys l' st' h' hys a1 a2 a3 gZ gL gS
    rcases List.mem_cons.mp hp with rfl | hp
    · obtain rfl := hp_y0 hys
      obtain ⟨t0, rfl, g0⟩ := hp_gSa gS (by decide)
      obtain ⟨t1, rfl, g1⟩ := hp_gSa g0 (by decide)
      cases hp_gSn g1
      exact e0 l' h' a1 a2 a3 (hp_gLa gL (List.mem_of_getElem? (i := 0) rfl) (by decide)) (hp_gLi (z := (0 + (1 * p + 0))) gL (List.mem_of_getElem? (i := 1) rfl) rfl (by omega)) (hp_gLi (z := (0 + (1 * s + 0))) gL (List.mem_of_getElem? (i := 2) rfl) rfl (by omega)) (hp_gLi (z := (0 + (1 * y + 0))) gL (List.mem_of_getElem? (i := 3) rfl) rfl (by omega)) (hp_gLi (z := (0 + (1 * d + 0))) gL (List.mem_of_getElem? (i := 4) rfl) rfl (by omega))
    cases hp
  · intro p hp ys v h' hys a1 a2 a3 gZ gS
    cases hp
theorem cwcg0_k : hp_chk 131 7 6 [(0, (-2147483648), (-1)), (1, (-2147483648), 2147483647), (2, (-2147483648), 2147483647), (3, (-2147483648), 2147483647), (4, 0, 120), (5, 0, 399)] [] [(0, .inr (.inr (.inl (some 16)))), (1, .inl (0, [(0, 1)])), (2, .inl (0, [(1, 1)])), (3, .inl (0, [(2, 1)])), (4, .inl (0, [(3, 1)]))] [] [(1536, (0, []), (0, [(4, 1)])), (10, (0, []), (0, [(5, 1)]))] [] 6 [] [([], 6, [(0, (-2147483648), (-1)), (1, (-2147483648), 2147483647), (2, (-2147483648), 2147483647), (3, (-2147483648), 2147483647), (4, 0, 120), (5, 0, 399)], [], [], [.inl ((-2), [])], [])] = true := by decide +kernel
theorem cwcg0 {cst : am_K} {strs : List Nat} {Φ : am_Q → Prop} {D : Nat} {M : am_M} {h : am_H} {l : am_L} (c : hp_C cst strs D) (hM : m_P[131]? = some M) (hD : (6 : Int) ≤ (D : Int) + 1) (hy : ly_hy m_tt ly_TH h) (p s y d u g : Int) (b0 : (-2147483648) ≤ p) (t0 : p ≤ (-1)) (b1 : (-2147483648) ≤ s) (t1 : s ≤ 2147483647) (b2 : (-2147483648) ≤ y) (t2 : y ≤ 2147483647) (b3 : (-2147483648) ≤ d) (t3 : d ≤ 2147483647) (b4 : 0 ≤ u) (t4 : u ≤ 120) (b5 : 0 ≤ g) (t5 : g ≤ 399) (k0 : ly_hv cst h 1536 0 = some (u)) (k1 : ly_hv cst h 10 0 = some (g)) (l0 : hp_a l 0 16) (l1 : hp_i l 1 (p)) (l2 : hp_i l 2 (s)) (l3 : hp_i l 3 (y)) (l4 : hp_i l 4 (d)) (r0 : ∀ (h' : am_H) (y0 : Int32), y0.toInt = (-2) → ly_hy m_tt ly_TH h' → ly_fr cst [] h h' → h.length ≤ h'.length → Φ (some (.int y0), h', 0, 0)) : hp_F cst strs Φ D M 7 l [] h := by
  refine hp_arc c hM cwcg0_k hD [p, s, y, d, u, g] rfl hy (hp_Bc (z := p) rfl b0 t0 (hp_Bc (z := s) rfl b1 t1 (hp_Bc (z := y) rfl b2 t2 (hp_Bc (z := d) rfl b3 t3 (hp_Bc (z := u) rfl b4 t4 (hp_Bc (z := g) rfl b5 t5 hp_Bn)))))) hp_Fn (hp_Kc (zi := (0 + 0)) (zv := (0 + (1 * u + 0))) k0 rfl rfl (by omega) (by omega) (hp_Kc (zi := (0 + 0)) (zv := (0 + (1 * g + 0))) k1 rfl rfl (by omega) (by omega) hp_Kn)) (hp_La l0 (hp_Li (z := (0 + (1 * p + 0))) l1 rfl (by omega) (hp_Li (z := (0 + (1 * s + 0))) l2 rfl (by omega) (hp_Li (z := (0 + (1 * y + 0))) l3 rfl (by omega) (hp_Li (z := (0 + (1 * d + 0))) l4 rfl (by omega) hp_Ln))))) trivial ?_ ?_
  · intro p hp ys l' st' h' hys a1 a2 a3 gZ gL gS
    cases hp
  · intro p hp ys v h' hys a1 a2 a3 gZ gS
    rcases List.mem_cons.mp hp with rfl | hp
    · obtain rfl := hp_y0 hys
      cases v with
      | none => cases gS
      | some w =>
        obtain ⟨y0, t0, s0, q0, -⟩ := hp_gSi (z := ((-2) + 0)) gS rfl
        cases s0
        exact r0 h' y0 (by omega) a1 a2 a3
    cases hp
theorem xwcg0_k : hp_chk 334 5 7 [(0, (-2147483648), (-1)), (1, (-2147483648), 2147483647), (2, (-2147483648), 2147483647), (3, (-2147483648), 2147483647), (4, 0, 120), (5, 0, 399), (6, 0, 1152921504606846976)] [] [(0, .inr (.inr (.inl (some 94)))), (1, .inl (0, [(0, 1)])), (2, .inl (0, [(1, 1)])), (3, .inl (0, [(2, 1)])), (4, .inl (0, [(3, 1)]))] [.inr (.inl (0, [(6, 1)])), .inr (.inr (.inl (some 94)))] [(19978, (0, []), (0, [(4, 1)])), (19977, (0, []), (0, [(5, 1)]))] [20017] 6 [] [([], 7, [(0, (-2147483648), (-1)), (1, (-2147483648), 2147483647), (2, (-2147483648), 2147483647), (3, (-2147483648), 2147483647), (4, 0, 120), (5, 0, 399), (6, 0, 1152921504606846976)], [], [], [.inl ((-2), [])], [])] = true := by decide +kernel
theorem xwcg0 {cst : am_K} {strs : List Nat} {Φ : am_Q → Prop} {D : Nat} {M : am_M} {h : am_H} {l : am_L} (c : hp_C cst strs D) (hM : m_P[334]? = some M) (hD : (6 : Int) ≤ (D : Int) + 1) (hy : ly_hy m_tt ly_TH h) (p s y d u g vv : Int) (x0 : Int64) (hx0 : x0.toInt = (vv)) (b0 : (-2147483648) ≤ p) (t0 : p ≤ (-1)) (b1 : (-2147483648) ≤ s) (t1 : s ≤ 2147483647) (b2 : (-2147483648) ≤ y) (t2 : y ≤ 2147483647) (b3 : (-2147483648) ≤ d) (t3 : d ≤ 2147483647) (b4 : 0 ≤ u) (t4 : u ≤ 120) (b5 : 0 ≤ g) (t5 : g ≤ 399) (b6 : 0 ≤ vv) (t6 : vv ≤ 1152921504606846976) (k0 : ly_hv cst h 19978 0 = some (u)) (k1 : ly_hv cst h 19977 0 = some (g)) (l0 : hp_a l 0 94) (l1 : hp_i l 1 (p)) (l2 : hp_i l 2 (s)) (l3 : hp_i l 3 (y)) (l4 : hp_i l 4 (d)) (r0 : ∀ (h' : am_H) (y0 : Int32), y0.toInt = (-2) → ly_hy m_tt ly_TH h' → ly_fr cst [20017] h h' → h.length ≤ h'.length → Φ (some (.int y0), h', 0, 0)) : hp_F cst strs Φ D M 5 l [.long x0, .ref 94] h := by
  refine hp_arc c hM xwcg0_k hD [p, s, y, d, u, g, vv] rfl hy (hp_Bc (z := p) rfl b0 t0 (hp_Bc (z := s) rfl b1 t1 (hp_Bc (z := y) rfl b2 t2 (hp_Bc (z := d) rfl b3 t3 (hp_Bc (z := u) rfl b4 t4 (hp_Bc (z := g) rfl b5 t5 (hp_Bc (z := vv) rfl b6 t6 hp_Bn))))))) hp_Fn (hp_Kc (zi := (0 + 0)) (zv := (0 + (1 * u + 0))) k0 rfl rfl (by omega) (by omega) (hp_Kc (zi := (0 + 0)) (zv := (0 + (1 * g + 0))) k1 rfl rfl (by omega) (by omega) hp_Kn)) (hp_La l0 (hp_Li (z := (0 + (1 * p + 0))) l1 rfl (by omega) (hp_Li (z := (0 + (1 * s + 0))) l2 rfl (by omega) (hp_Li (z := (0 + (1 * y + 0))) l3 rfl (by omega) (hp_Li (z := (0 + (1 * d + 0))) l4 rfl (by omega) hp_Ln))))) (hp_Sj (z := (0 + (1 * vv + 0))) rfl (by omega) (hp_Sa trivial)) ?_ ?_
  · intro p hp ys l' st' h' hys a1 a2 a3 gZ gL gS
    cases hp
  · intro p hp ys v h' hys a1 a2 a3 gZ gS
    rcases List.mem_cons.mp hp with rfl | hp
    · obtain rfl := hp_y0 hys
      cases v with
      | none => cases gS
      | some w =>
        obtain ⟨y0, t0, s0, q0, -⟩ := hp_gSi (z := ((-2) + 0)) gS rfl
        cases s0
        exact r0 h' y0 (by omega) a1 a2 a3
    cases hp
theorem cwcg1_k : hp_chk 131 7 6 [(0, 0, 2147483647), (1, (-2147483648), 2147483647), (2, (-2147483648), 2147483647), (3, (-2147483648), 2147483647), (4, 0, 120), (5, 0, 399)] [(0, [(0, 1), (4, (-1))])] [(0, .inr (.inr (.inl (some 16)))), (1, .inl (0, [(0, 1)])), (2, .inl (0, [(1, 1)])), (3, .inl (0, [(2, 1)])), (4, .inl (0, [(3, 1)]))] [] [(1536, (0, []), (0, [(4, 1)])), (10, (0, []), (0, [(5, 1)]))] [] 6 [] [([], 6, [(0, 0, 2147483647), (1, (-2147483648), 2147483647), (2, (-2147483648), 2147483647), (3, (-2147483648), 2147483647), (4, 0, 120), (5, 0, 399)], [], [], [.inl ((-2), [])], [])] = true := by decide +kernel
theorem cwcg1 {cst : am_K} {strs : List Nat} {Φ : am_Q → Prop} {D : Nat} {M : am_M} {h : am_H} {l : am_L} (c : hp_C cst strs D) (hM : m_P[131]? = some M) (hD : (6 : Int) ≤ (D : Int) + 1) (hy : ly_hy m_tt ly_TH h) (p s y d u g : Int) (b0 : 0 ≤ p) (t0 : p ≤ 2147483647) (b1 : (-2147483648) ≤ s) (t1 : s ≤ 2147483647) (b2 : (-2147483648) ≤ y) (t2 : y ≤ 2147483647) (b3 : (-2147483648) ≤ d) (t3 : d ≤ 2147483647) (b4 : 0 ≤ u) (t4 : u ≤ 120) (b5 : 0 ≤ g) (t5 : g ≤ 399) (f0 : 0 ≤ (p - u)) (k0 : ly_hv cst h 1536 0 = some (u)) (k1 : ly_hv cst h 10 0 = some (g)) (l0 : hp_a l 0 16) (l1 : hp_i l 1 (p)) (l2 : hp_i l 2 (s)) (l3 : hp_i l 3 (y)) (l4 : hp_i l 4 (d)) (r0 : ∀ (h' : am_H) (y0 : Int32), y0.toInt = (-2) → ly_hy m_tt ly_TH h' → ly_fr cst [] h h' → h.length ≤ h'.length → Φ (some (.int y0), h', 0, 0)) : hp_F cst strs Φ D M 7 l [] h := by
  refine hp_arc c hM cwcg1_k hD [p, s, y, d, u, g] rfl hy (hp_Bc (z := p) rfl b0 t0 (hp_Bc (z := s) rfl b1 t1 (hp_Bc (z := y) rfl b2 t2 (hp_Bc (z := d) rfl b3 t3 (hp_Bc (z := u) rfl b4 t4 (hp_Bc (z := g) rfl b5 t5 hp_Bn)))))) (hp_Fc (z := (0 + (1 * p + ((-1) * u + 0)))) rfl (by omega) hp_Fn) (hp_Kc (zi := (0 + 0)) (zv := (0 + (1 * u + 0))) k0 rfl rfl (by omega) (by omega) (hp_Kc (zi := (0 + 0)) (zv := (0 + (1 * g + 0))) k1 rfl rfl (by omega) (by omega) hp_Kn)) (hp_La l0 (hp_Li (z := (0 + (1 * p + 0))) l1 rfl (by omega) (hp_Li (z := (0 + (1 * s + 0))) l2 rfl (by omega) (hp_Li (z := (0 + (1 * y + 0))) l3 rfl (by omega) (hp_Li (z := (0 + (1 * d + 0))) l4 rfl (by omega) hp_Ln))))) trivial ?_ ?_
  · intro p hp ys l' st' h' hys a1 a2 a3 gZ gL gS
    cases hp
  · intro p hp ys v h' hys a1 a2 a3 gZ gS
    rcases List.mem_cons.mp hp with rfl | hp
    · obtain rfl := hp_y0 hys
      cases v with
      | none => cases gS
      | some w =>
        obtain ⟨y0, t0, s0, q0, -⟩ := hp_gSi (z := ((-2) + 0)) gS rfl
        cases s0
        exact r0 h' y0 (by omega) a1 a2 a3
    cases hp
theorem xwcg1_k : hp_chk 334 5 7 [(0, 0, 2147483647), (1, (-2147483648), 2147483647), (2, (-2147483648), 2147483647), (3, (-2147483648), 2147483647), (4, 0, 120), (5, 0, 399), (6, 0, 1152921504606846976)] [(0, [(0, 1), (4, (-1))])] [(0, .inr (.inr (.inl (some 94)))), (1, .inl (0, [(0, 1)])), (2, .inl (0, [(1, 1)])), (3, .inl (0, [(2, 1)])), (4, .inl (0, [(3, 1)]))] [.inr (.inl (0, [(6, 1)])), .inr (.inr (.inl (some 94)))] [(19978, (0, []), (0, [(4, 1)])), (19977, (0, []), (0, [(5, 1)]))] [20017] 6 [] [([], 7, [(0, 0, 2147483647), (1, (-2147483648), 2147483647), (2, (-2147483648), 2147483647), (3, (-2147483648), 2147483647), (4, 0, 120), (5, 0, 399), (6, 0, 1152921504606846976)], [], [], [.inl ((-2), [])], [])] = true := by decide +kernel
theorem xwcg1 {cst : am_K} {strs : List Nat} {Φ : am_Q → Prop} {D : Nat} {M : am_M} {h : am_H} {l : am_L} (c : hp_C cst strs D) (hM : m_P[334]? = some M) (hD : (6 : Int) ≤ (D : Int) + 1) (hy : ly_hy m_tt ly_TH h) (p s y d u g vv : Int) (x0 : Int64) (hx0 : x0.toInt = (vv)) (b0 : 0 ≤ p) (t0 : p ≤ 2147483647) (b1 : (-2147483648) ≤ s) (t1 : s ≤ 2147483647) (b2 : (-2147483648) ≤ y) (t2 : y ≤ 2147483647) (b3 : (-2147483648) ≤ d) (t3 : d ≤ 2147483647) (b4 : 0 ≤ u) (t4 : u ≤ 120) (b5 : 0 ≤ g) (t5 : g ≤ 399) (b6 : 0 ≤ vv) (t6 : vv ≤ 1152921504606846976) (f0 : 0 ≤ (p - u)) (k0 : ly_hv cst h 19978 0 = some (u)) (k1 : ly_hv cst h 19977 0 = some (g)) (l0 : hp_a l 0 94) (l1 : hp_i l 1 (p)) (l2 : hp_i l 2 (s)) (l3 : hp_i l 3 (y)) (l4 : hp_i l 4 (d)) (r0 : ∀ (h' : am_H) (y0 : Int32), y0.toInt = (-2) → ly_hy m_tt ly_TH h' → ly_fr cst [20017] h h' → h.length ≤ h'.length → Φ (some (.int y0), h', 0, 0)) : hp_F cst strs Φ D M 5 l [.long x0, .ref 94] h := by
  refine hp_arc c hM xwcg1_k hD [p, s, y, d, u, g, vv] rfl hy (hp_Bc (z := p) rfl b0 t0 (hp_Bc (z := s) rfl b1 t1 (hp_Bc (z := y) rfl b2 t2 (hp_Bc (z := d) rfl b3 t3 (hp_Bc (z := u) rfl b4 t4 (hp_Bc (z := g) rfl b5 t5 (hp_Bc (z := vv) rfl b6 t6 hp_Bn))))))) (hp_Fc (z := (0 + (1 * p + ((-1) * u + 0)))) rfl (by omega) hp_Fn) (hp_Kc (zi := (0 + 0)) (zv := (0 + (1 * u + 0))) k0 rfl rfl (by omega) (by omega) (hp_Kc (zi := (0 + 0)) (zv := (0 + (1 * g + 0))) k1 rfl rfl (by omega) (by omega) hp_Kn)) (hp_La l0 (hp_Li (z := (0 + (1 * p + 0))) l1 rfl (by omega) (hp_Li (z := (0 + (1 * s + 0))) l2 rfl (by omega) (hp_Li (z := (0 + (1 * y + 0))) l3 rfl (by omega) (hp_Li (z := (0 + (1 * d + 0))) l4 rfl (by omega) hp_Ln))))) (hp_Sj (z := (0 + (1 * vv + 0))) rfl (by omega) (hp_Sa trivial)) ?_ ?_
  · intro p hp ys l' st' h' hys a1 a2 a3 gZ gL gS
    cases hp
  · intro p hp ys v h' hys a1 a2 a3 gZ gS
    rcases List.mem_cons.mp hp with rfl | hp
    · obtain rfl := hp_y0 hys
      cases v with
      | none => cases gS
      | some w =>
        obtain ⟨y0, t0, s0, q0, -⟩ := hp_gSi (z := ((-2) + 0)) gS rfl
        cases s0
        exact r0 h' y0 (by omega) a1 a2 a3
    cases hp
theorem cwcg2_k : hp_chk 131 7 6 [(0, 0, 119), (1, (-2147483648), (-1)), (2, (-2147483648), 2147483647), (3, (-2147483648), 2147483647), (4, 0, 120), (5, 0, 399)] [((-1), [(0, (-1)), (4, 1)])] [(0, .inr (.inr (.inl (some 16)))), (1, .inl (0, [(0, 1)])), (2, .inl (0, [(1, 1)])), (3, .inl (0, [(2, 1)])), (4, .inl (0, [(3, 1)]))] [] [(1536, (0, []), (0, [(4, 1)])), (10, (0, []), (0, [(5, 1)]))] [] 6 [] [([], 6, [(0, 0, 119), (1, (-2147483648), (-1)), (2, (-2147483648), 2147483647), (3, (-2147483648), 2147483647), (4, 0, 120), (5, 0, 399)], [], [], [.inl ((-2), [])], [])] = true := by decide +kernel
theorem cwcg2 {cst : am_K} {strs : List Nat} {Φ : am_Q → Prop} {D : Nat} {M : am_M} {h : am_H} {l : am_L} (c : hp_C cst strs D) (hM : m_P[131]? = some M) (hD : (6 : Int) ≤ (D : Int) + 1) (hy : ly_hy m_tt ly_TH h) (p s y d u g : Int) (b0 : 0 ≤ p) (t0 : p ≤ 119) (b1 : (-2147483648) ≤ s) (t1 : s ≤ (-1)) (b2 : (-2147483648) ≤ y) (t2 : y ≤ 2147483647) (b3 : (-2147483648) ≤ d) (t3 : d ≤ 2147483647) (b4 : 0 ≤ u) (t4 : u ≤ 120) (b5 : 0 ≤ g) (t5 : g ≤ 399) (f0 : 0 ≤ (u - p - 1)) (k0 : ly_hv cst h 1536 0 = some (u)) (k1 : ly_hv cst h 10 0 = some (g)) (l0 : hp_a l 0 16) (l1 : hp_i l 1 (p)) (l2 : hp_i l 2 (s)) (l3 : hp_i l 3 (y)) (l4 : hp_i l 4 (d)) (r0 : ∀ (h' : am_H) (y0 : Int32), y0.toInt = (-2) → ly_hy m_tt ly_TH h' → ly_fr cst [] h h' → h.length ≤ h'.length → Φ (some (.int y0), h', 0, 0)) : hp_F cst strs Φ D M 7 l [] h := by
  refine hp_arc c hM cwcg2_k hD [p, s, y, d, u, g] rfl hy (hp_Bc (z := p) rfl b0 t0 (hp_Bc (z := s) rfl b1 t1 (hp_Bc (z := y) rfl b2 t2 (hp_Bc (z := d) rfl b3 t3 (hp_Bc (z := u) rfl b4 t4 (hp_Bc (z := g) rfl b5 t5 hp_Bn)))))) (hp_Fc (z := ((-1) + ((-1) * p + (1 * u + 0)))) rfl (by omega) hp_Fn) (hp_Kc (zi := (0 + 0)) (zv := (0 + (1 * u + 0))) k0 rfl rfl (by omega) (by omega) (hp_Kc (zi := (0 + 0)) (zv := (0 + (1 * g + 0))) k1 rfl rfl (by omega) (by omega) hp_Kn)) (hp_La l0 (hp_Li (z := (0 + (1 * p + 0))) l1 rfl (by omega) (hp_Li (z := (0 + (1 * s + 0))) l2 rfl (by omega) (hp_Li (z := (0 + (1 * y + 0))) l3 rfl (by omega) (hp_Li (z := (0 + (1 * d + 0))) l4 rfl (by omega) hp_Ln))))) trivial ?_ ?_
  · intro p hp ys l' st' h' hys a1 a2 a3 gZ gL gS
    cases hp
  · intro p hp ys v h' hys a1 a2 a3 gZ gS
    rcases List.mem_cons.mp hp with rfl | hp
    · obtain rfl := hp_y0 hys
      cases v with
      | none => cases gS
      | some w =>
        obtain ⟨y0, t0, s0, q0, -⟩ := hp_gSi (z := ((-2) + 0)) gS rfl
        cases s0
        exact r0 h' y0 (by omega) a1 a2 a3
    cases hp
theorem xwcg2_k : hp_chk 334 5 7 [(0, 0, 119), (1, (-2147483648), (-1)), (2, (-2147483648), 2147483647), (3, (-2147483648), 2147483647), (4, 0, 120), (5, 0, 399), (6, 0, 1152921504606846976)] [((-1), [(0, (-1)), (4, 1)])] [(0, .inr (.inr (.inl (some 94)))), (1, .inl (0, [(0, 1)])), (2, .inl (0, [(1, 1)])), (3, .inl (0, [(2, 1)])), (4, .inl (0, [(3, 1)]))] [.inr (.inl (0, [(6, 1)])), .inr (.inr (.inl (some 94)))] [(19978, (0, []), (0, [(4, 1)])), (19977, (0, []), (0, [(5, 1)]))] [20017] 6 [] [([], 7, [(0, 0, 119), (1, (-2147483648), (-1)), (2, (-2147483648), 2147483647), (3, (-2147483648), 2147483647), (4, 0, 120), (5, 0, 399), (6, 0, 1152921504606846976)], [], [], [.inl ((-2), [])], [])] = true := by decide +kernel
theorem xwcg2 {cst : am_K} {strs : List Nat} {Φ : am_Q → Prop} {D : Nat} {M : am_M} {h : am_H} {l : am_L} (c : hp_C cst strs D) (hM : m_P[334]? = some M) (hD : (6 : Int) ≤ (D : Int) + 1) (hy : ly_hy m_tt ly_TH h) (p s y d u g vv : Int) (x0 : Int64) (hx0 : x0.toInt = (vv)) (b0 : 0 ≤ p) (t0 : p ≤ 119) (b1 : (-2147483648) ≤ s) (t1 : s ≤ (-1)) (b2 : (-2147483648) ≤ y) (t2 : y ≤ 2147483647) (b3 : (-2147483648) ≤ d) (t3 : d ≤ 2147483647) (b4 : 0 ≤ u) (t4 : u ≤ 120) (b5 : 0 ≤ g) (t5 : g ≤ 399) (b6 : 0 ≤ vv) (t6 : vv ≤ 1152921504606846976) (f0 : 0 ≤ (u - p - 1)) (k0 : ly_hv cst h 19978 0 = some (u)) (k1 : ly_hv cst h 19977 0 = some (g)) (l0 : hp_a l 0 94) (l1 : hp_i l 1 (p)) (l2 : hp_i l 2 (s)) (l3 : hp_i l 3 (y)) (l4 : hp_i l 4 (d)) (r0 : ∀ (h' : am_H) (y0 : Int32), y0.toInt = (-2) → ly_hy m_tt ly_TH h' → ly_fr cst [20017] h h' → h.length ≤ h'.length → Φ (some (.int y0), h', 0, 0)) : hp_F cst strs Φ D M 5 l [.long x0, .ref 94] h := by
  refine hp_arc c hM xwcg2_k hD [p, s, y, d, u, g, vv] rfl hy (hp_Bc (z := p) rfl b0 t0 (hp_Bc (z := s) rfl b1 t1 (hp_Bc (z := y) rfl b2 t2 (hp_Bc (z := d) rfl b3 t3 (hp_Bc (z := u) rfl b4 t4 (hp_Bc (z := g) rfl b5 t5 (hp_Bc (z := vv) rfl b6 t6 hp_Bn))))))) (hp_Fc (z := ((-1) + ((-1) * p + (1 * u + 0)))) rfl (by omega) hp_Fn) (hp_Kc (zi := (0 + 0)) (zv := (0 + (1 * u + 0))) k0 rfl rfl (by omega) (by omega) (hp_Kc (zi := (0 + 0)) (zv := (0 + (1 * g + 0))) k1 rfl rfl (by omega) (by omega) hp_Kn)) (hp_La l0 (hp_Li (z := (0 + (1 * p + 0))) l1 rfl (by omega) (hp_Li (z := (0 + (1 * s + 0))) l2 rfl (by omega) (hp_Li (z := (0 + (1 * y + 0))) l3 rfl (by omega) (hp_Li (z := (0 + (1 * d + 0))) l4 rfl (by omega) hp_Ln))))) (hp_Sj (z := (0 + (1 * vv + 0))) rfl (by omega) (hp_Sa trivial)) ?_ ?_
  · intro p hp ys l' st' h' hys a1 a2 a3 gZ gL gS
    cases hp
  · intro p hp ys v h' hys a1 a2 a3 gZ gS
    rcases List.mem_cons.mp hp with rfl | hp
    · obtain rfl := hp_y0 hys
      cases v with
      | none => cases gS
      | some w =>
        obtain ⟨y0, t0, s0, q0, -⟩ := hp_gSi (z := ((-2) + 0)) gS rfl
        cases s0
        exact r0 h' y0 (by omega) a1 a2 a3
    cases hp
theorem cwcg3_k : hp_chk 131 7 6 [(0, 0, 119), (1, 6, 2147483647), (2, (-2147483648), 2147483647), (3, (-2147483648), 2147483647), (4, 0, 120), (5, 0, 399)] [((-1), [(0, (-1)), (4, 1)])] [(0, .inr (.inr (.inl (some 16)))), (1, .inl (0, [(0, 1)])), (2, .inl (0, [(1, 1)])), (3, .inl (0, [(2, 1)])), (4, .inl (0, [(3, 1)]))] [] [(1536, (0, []), (0, [(4, 1)])), (10, (0, []), (0, [(5, 1)]))] [] 6 [] [([], 6, [(0, 0, 119), (1, 6, 2147483647), (2, (-2147483648), 2147483647), (3, (-2147483648), 2147483647), (4, 0, 120), (5, 0, 399)], [], [], [.inl ((-2), [])], [])] = true := by decide +kernel
theorem cwcg3 {cst : am_K} {strs : List Nat} {Φ : am_Q → Prop} {D : Nat} {M : am_M} {h : am_H} {l : am_L} (c : hp_C cst strs D) (hM : m_P[131]? = some M) (hD : (6 : Int) ≤ (D : Int) + 1) (hy : ly_hy m_tt ly_TH h) (p s y d u g : Int) (b0 : 0 ≤ p) (t0 : p ≤ 119) (b1 : 6 ≤ s) (t1 : s ≤ 2147483647) (b2 : (-2147483648) ≤ y) (t2 : y ≤ 2147483647) (b3 : (-2147483648) ≤ d) (t3 : d ≤ 2147483647) (b4 : 0 ≤ u) (t4 : u ≤ 120) (b5 : 0 ≤ g) (t5 : g ≤ 399) (f0 : 0 ≤ (u - p - 1)) (k0 : ly_hv cst h 1536 0 = some (u)) (k1 : ly_hv cst h 10 0 = some (g)) (l0 : hp_a l 0 16) (l1 : hp_i l 1 (p)) (l2 : hp_i l 2 (s)) (l3 : hp_i l 3 (y)) (l4 : hp_i l 4 (d)) (r0 : ∀ (h' : am_H) (y0 : Int32), y0.toInt = (-2) → ly_hy m_tt ly_TH h' → ly_fr cst [] h h' → h.length ≤ h'.length → Φ (some (.int y0), h', 0, 0)) : hp_F cst strs Φ D M 7 l [] h := by
  refine hp_arc c hM cwcg3_k hD [p, s, y, d, u, g] rfl hy (hp_Bc (z := p) rfl b0 t0 (hp_Bc (z := s) rfl b1 t1 (hp_Bc (z := y) rfl b2 t2 (hp_Bc (z := d) rfl b3 t3 (hp_Bc (z := u) rfl b4 t4 (hp_Bc (z := g) rfl b5 t5 hp_Bn)))))) (hp_Fc (z := ((-1) + ((-1) * p + (1 * u + 0)))) rfl (by omega) hp_Fn) (hp_Kc (zi := (0 + 0)) (zv := (0 + (1 * u + 0))) k0 rfl rfl (by omega) (by omega) (hp_Kc (zi := (0 + 0)) (zv := (0 + (1 * g + 0))) k1 rfl rfl (by omega) (by omega) hp_Kn)) (hp_La l0 (hp_Li (z := (0 + (1 * p + 0))) l1 rfl (by omega) (hp_Li (z := (0 + (1 * s + 0))) l2 rfl (by omega) (hp_Li (z := (0 + (1 * y + 0))) l3 rfl (by omega) (hp_Li (z := (0 + (1 * d + 0))) l4 rfl (by omega) hp_Ln))))) trivial ?_ ?_
  · intro p hp ys l' st' h' hys a1 a2 a3 gZ gL gS
    cases hp
  · intro p hp ys v h' hys a1 a2 a3 gZ gS
    rcases List.mem_cons.mp hp with rfl | hp
    · obtain rfl := hp_y0 hys
      cases v with
      | none => cases gS
      | some w =>
        obtain ⟨y0, t0, s0, q0, -⟩ := hp_gSi (z := ((-2) + 0)) gS rfl
        cases s0
        exact r0 h' y0 (by omega) a1 a2 a3
    cases hp
theorem xwcg3_k : hp_chk 334 5 7 [(0, 0, 119), (1, 6, 2147483647), (2, (-2147483648), 2147483647), (3, (-2147483648), 2147483647), (4, 0, 120), (5, 0, 399), (6, 0, 1152921504606846976)] [((-1), [(0, (-1)), (4, 1)])] [(0, .inr (.inr (.inl (some 94)))), (1, .inl (0, [(0, 1)])), (2, .inl (0, [(1, 1)])), (3, .inl (0, [(2, 1)])), (4, .inl (0, [(3, 1)]))] [.inr (.inl (0, [(6, 1)])), .inr (.inr (.inl (some 94)))] [(19978, (0, []), (0, [(4, 1)])), (19977, (0, []), (0, [(5, 1)]))] [20017] 6 [] [([], 7, [(0, 0, 119), (1, 6, 2147483647), (2, (-2147483648), 2147483647), (3, (-2147483648), 2147483647), (4, 0, 120), (5, 0, 399), (6, 0, 1152921504606846976)], [], [], [.inl ((-2), [])], [])] = true := by decide +kernel
theorem xwcg3 {cst : am_K} {strs : List Nat} {Φ : am_Q → Prop} {D : Nat} {M : am_M} {h : am_H} {l : am_L} (c : hp_C cst strs D) (hM : m_P[334]? = some M) (hD : (6 : Int) ≤ (D : Int) + 1) (hy : ly_hy m_tt ly_TH h) (p s y d u g vv : Int) (x0 : Int64) (hx0 : x0.toInt = (vv)) (b0 : 0 ≤ p) (t0 : p ≤ 119) (b1 : 6 ≤ s) (t1 : s ≤ 2147483647) (b2 : (-2147483648) ≤ y) (t2 : y ≤ 2147483647) (b3 : (-2147483648) ≤ d) (t3 : d ≤ 2147483647) (b4 : 0 ≤ u) (t4 : u ≤ 120) (b5 : 0 ≤ g) (t5 : g ≤ 399) (b6 : 0 ≤ vv) (t6 : vv ≤ 1152921504606846976) (f0 : 0 ≤ (u - p - 1)) (k0 : ly_hv cst h 19978 0 = some (u)) (k1 : ly_hv cst h 19977 0 = some (g)) (l0 : hp_a l 0 94) (l1 : hp_i l 1 (p)) (l2 : hp_i l 2 (s)) (l3 : hp_i l 3 (y)) (l4 : hp_i l 4 (d)) (r0 : ∀ (h' : am_H) (y0 : Int32), y0.toInt = (-2) → ly_hy m_tt ly_TH h' → ly_fr cst [20017] h h' → h.length ≤ h'.length → Φ (some (.int y0), h', 0, 0)) : hp_F cst strs Φ D M 5 l [.long x0, .ref 94] h := by
  refine hp_arc c hM xwcg3_k hD [p, s, y, d, u, g, vv] rfl hy (hp_Bc (z := p) rfl b0 t0 (hp_Bc (z := s) rfl b1 t1 (hp_Bc (z := y) rfl b2 t2 (hp_Bc (z := d) rfl b3 t3 (hp_Bc (z := u) rfl b4 t4 (hp_Bc (z := g) rfl b5 t5 (hp_Bc (z := vv) rfl b6 t6 hp_Bn))))))) (hp_Fc (z := ((-1) + ((-1) * p + (1 * u + 0)))) rfl (by omega) hp_Fn) (hp_Kc (zi := (0 + 0)) (zv := (0 + (1 * u + 0))) k0 rfl rfl (by omega) (by omega) (hp_Kc (zi := (0 + 0)) (zv := (0 + (1 * g + 0))) k1 rfl rfl (by omega) (by omega) hp_Kn)) (hp_La l0 (hp_Li (z := (0 + (1 * p + 0))) l1 rfl (by omega) (hp_Li (z := (0 + (1 * s + 0))) l2 rfl (by omega) (hp_Li (z := (0 + (1 * y + 0))) l3 rfl (by omega) (hp_Li (z := (0 + (1 * d + 0))) l4 rfl (by omega) hp_Ln))))) (hp_Sj (z := (0 + (1 * vv + 0))) rfl (by omega) (hp_Sa trivial)) ?_ ?_
  · intro p hp ys l' st' h' hys a1 a2 a3 gZ gL gS
    cases hp
  · intro p hp ys v h' hys a1 a2 a3 gZ gS
    rcases List.mem_cons.mp hp with rfl | hp
    · obtain rfl := hp_y0 hys
      cases v with
      | none => cases gS
      | some w =>
        obtain ⟨y0, t0, s0, q0, -⟩ := hp_gSi (z := ((-2) + 0)) gS rfl
        cases s0
        exact r0 h' y0 (by omega) a1 a2 a3
    cases hp
theorem cwcg4_k : hp_chk 131 7 6 [(0, 0, 119), (1, 0, 5), (2, (-2147483648), (-1)), (3, (-2147483648), 2147483647), (4, 0, 120), (5, 0, 399)] [((-1), [(0, (-1)), (4, 1)])] [(0, .inr (.inr (.inl (some 16)))), (1, .inl (0, [(0, 1)])), (2, .inl (0, [(1, 1)])), (3, .inl (0, [(2, 1)])), (4, .inl (0, [(3, 1)]))] [] [(1536, (0, []), (0, [(4, 1)])), (10, (0, []), (0, [(5, 1)]))] [] 6 [] [([], 6, [(0, 0, 119), (1, 0, 5), (2, (-2147483648), (-1)), (3, (-2147483648), 2147483647), (4, 0, 120), (5, 0, 399)], [], [], [.inl ((-2), [])], [])] = true := by decide +kernel
theorem cwcg4 {cst : am_K} {strs : List Nat} {Φ : am_Q → Prop} {D : Nat} {M : am_M} {h : am_H} {l : am_L} (c : hp_C cst strs D) (hM : m_P[131]? = some M) (hD : (6 : Int) ≤ (D : Int) + 1) (hy : ly_hy m_tt ly_TH h) (p s y d u g : Int) (b0 : 0 ≤ p) (t0 : p ≤ 119) (b1 : 0 ≤ s) (t1 : s ≤ 5) (b2 : (-2147483648) ≤ y) (t2 : y ≤ (-1)) (b3 : (-2147483648) ≤ d) (t3 : d ≤ 2147483647) (b4 : 0 ≤ u) (t4 : u ≤ 120) (b5 : 0 ≤ g) (t5 : g ≤ 399) (f0 : 0 ≤ (u - p - 1)) (k0 : ly_hv cst h 1536 0 = some (u)) (k1 : ly_hv cst h 10 0 = some (g)) (l0 : hp_a l 0 16) (l1 : hp_i l 1 (p)) (l2 : hp_i l 2 (s)) (l3 : hp_i l 3 (y)) (l4 : hp_i l 4 (d)) (r0 : ∀ (h' : am_H) (y0 : Int32), y0.toInt = (-2) → ly_hy m_tt ly_TH h' → ly_fr cst [] h h' → h.length ≤ h'.length → Φ (some (.int y0), h', 0, 0)) : hp_F cst strs Φ D M 7 l [] h := by
  refine hp_arc c hM cwcg4_k hD [p, s, y, d, u, g] rfl hy (hp_Bc (z := p) rfl b0 t0 (hp_Bc (z := s) rfl b1 t1 (hp_Bc (z := y) rfl b2 t2 (hp_Bc (z := d) rfl b3 t3 (hp_Bc (z := u) rfl b4 t4 (hp_Bc (z := g) rfl b5 t5 hp_Bn)))))) (hp_Fc (z := ((-1) + ((-1) * p + (1 * u + 0)))) rfl (by omega) hp_Fn) (hp_Kc (zi := (0 + 0)) (zv := (0 + (1 * u + 0))) k0 rfl rfl (by omega) (by omega) (hp_Kc (zi := (0 + 0)) (zv := (0 + (1 * g + 0))) k1 rfl rfl (by omega) (by omega) hp_Kn)) (hp_La l0 (hp_Li (z := (0 + (1 * p + 0))) l1 rfl (by omega) (hp_Li (z := (0 + (1 * s + 0))) l2 rfl (by omega) (hp_Li (z := (0 + (1 * y + 0))) l3 rfl (by omega) (hp_Li (z := (0 + (1 * d + 0))) l4 rfl (by omega) hp_Ln))))) trivial ?_ ?_
  · intro p hp ys l' st' h' hys a1 a2 a3 gZ gL gS
    cases hp
  · intro p hp ys v h' hys a1 a2 a3 gZ gS
    rcases List.mem_cons.mp hp with rfl | hp
    · obtain rfl := hp_y0 hys
      cases v with
      | none => cases gS
      | some w =>
        obtain ⟨y0, t0, s0, q0, -⟩ := hp_gSi (z := ((-2) + 0)) gS rfl
        cases s0
        exact r0 h' y0 (by omega) a1 a2 a3
    cases hp
theorem xwcg4_k : hp_chk 334 5 7 [(0, 0, 119), (1, 0, 5), (2, (-2147483648), (-1)), (3, (-2147483648), 2147483647), (4, 0, 120), (5, 0, 399), (6, 0, 1152921504606846976)] [((-1), [(0, (-1)), (4, 1)])] [(0, .inr (.inr (.inl (some 94)))), (1, .inl (0, [(0, 1)])), (2, .inl (0, [(1, 1)])), (3, .inl (0, [(2, 1)])), (4, .inl (0, [(3, 1)]))] [.inr (.inl (0, [(6, 1)])), .inr (.inr (.inl (some 94)))] [(19978, (0, []), (0, [(4, 1)])), (19977, (0, []), (0, [(5, 1)]))] [20017] 6 [] [([], 7, [(0, 0, 119), (1, 0, 5), (2, (-2147483648), (-1)), (3, (-2147483648), 2147483647), (4, 0, 120), (5, 0, 399), (6, 0, 1152921504606846976)], [], [], [.inl ((-2), [])], [])] = true := by decide +kernel
theorem xwcg4 {cst : am_K} {strs : List Nat} {Φ : am_Q → Prop} {D : Nat} {M : am_M} {h : am_H} {l : am_L} (c : hp_C cst strs D) (hM : m_P[334]? = some M) (hD : (6 : Int) ≤ (D : Int) + 1) (hy : ly_hy m_tt ly_TH h) (p s y d u g vv : Int) (x0 : Int64) (hx0 : x0.toInt = (vv)) (b0 : 0 ≤ p) (t0 : p ≤ 119) (b1 : 0 ≤ s) (t1 : s ≤ 5) (b2 : (-2147483648) ≤ y) (t2 : y ≤ (-1)) (b3 : (-2147483648) ≤ d) (t3 : d ≤ 2147483647) (b4 : 0 ≤ u) (t4 : u ≤ 120) (b5 : 0 ≤ g) (t5 : g ≤ 399) (b6 : 0 ≤ vv) (t6 : vv ≤ 1152921504606846976) (f0 : 0 ≤ (u - p - 1)) (k0 : ly_hv cst h 19978 0 = some (u)) (k1 : ly_hv cst h 19977 0 = some (g)) (l0 : hp_a l 0 94) (l1 : hp_i l 1 (p)) (l2 : hp_i l 2 (s)) (l3 : hp_i l 3 (y)) (l4 : hp_i l 4 (d)) (r0 : ∀ (h' : am_H) (y0 : Int32), y0.toInt = (-2) → ly_hy m_tt ly_TH h' → ly_fr cst [20017] h h' → h.length ≤ h'.length → Φ (some (.int y0), h', 0, 0)) : hp_F cst strs Φ D M 5 l [.long x0, .ref 94] h := by
  refine hp_arc c hM xwcg4_k hD [p, s, y, d, u, g, vv] rfl hy (hp_Bc (z := p) rfl b0 t0 (hp_Bc (z := s) rfl b1 t1 (hp_Bc (z := y) rfl b2 t2 (hp_Bc (z := d) rfl b3 t3 (hp_Bc (z := u) rfl b4 t4 (hp_Bc (z := g) rfl b5 t5 (hp_Bc (z := vv) rfl b6 t6 hp_Bn))))))) (hp_Fc (z := ((-1) + ((-1) * p + (1 * u + 0)))) rfl (by omega) hp_Fn) (hp_Kc (zi := (0 + 0)) (zv := (0 + (1 * u + 0))) k0 rfl rfl (by omega) (by omega) (hp_Kc (zi := (0 + 0)) (zv := (0 + (1 * g + 0))) k1 rfl rfl (by omega) (by omega) hp_Kn)) (hp_La l0 (hp_Li (z := (0 + (1 * p + 0))) l1 rfl (by omega) (hp_Li (z := (0 + (1 * s + 0))) l2 rfl (by omega) (hp_Li (z := (0 + (1 * y + 0))) l3 rfl (by omega) (hp_Li (z := (0 + (1 * d + 0))) l4 rfl (by omega) hp_Ln))))) (hp_Sj (z := (0 + (1 * vv + 0))) rfl (by omega) (hp_Sa trivial)) ?_ ?_
  · intro p hp ys l' st' h' hys a1 a2 a3 gZ gL gS
    cases hp
  · intro p hp ys v h' hys a1 a2 a3 gZ gS
    rcases List.mem_cons.mp hp with rfl | hp
    · obtain rfl := hp_y0 hys
      cases v with
      | none => cases gS
      | some w =>
        obtain ⟨y0, t0, s0, q0, -⟩ := hp_gSi (z := ((-2) + 0)) gS rfl
        cases s0
        exact r0 h' y0 (by omega) a1 a2 a3
    cases hp
theorem cwcg5_k : hp_chk 131 7 6 [(0, 0, 119), (1, 0, 5), (2, 10, 2147483647), (3, (-2147483648), 2147483647), (4, 0, 120), (5, 0, 399)] [((-1), [(0, (-1)), (4, 1)])] [(0, .inr (.inr (.inl (some 16)))), (1, .inl (0, [(0, 1)])), (2, .inl (0, [(1, 1)])), (3, .inl (0, [(2, 1)])), (4, .inl (0, [(3, 1)]))] [] [(1536, (0, []), (0, [(4, 1)])), (10, (0, []), (0, [(5, 1)]))] [] 6 [] [([], 6, [(0, 0, 119), (1, 0, 5), (2, 10, 2147483647), (3, (-2147483648), 2147483647), (4, 0, 120), (5, 0, 399)], [], [], [.inl ((-2), [])], [])] = true := by decide +kernel
theorem cwcg5 {cst : am_K} {strs : List Nat} {Φ : am_Q → Prop} {D : Nat} {M : am_M} {h : am_H} {l : am_L} (c : hp_C cst strs D) (hM : m_P[131]? = some M) (hD : (6 : Int) ≤ (D : Int) + 1) (hy : ly_hy m_tt ly_TH h) (p s y d u g : Int) (b0 : 0 ≤ p) (t0 : p ≤ 119) (b1 : 0 ≤ s) (t1 : s ≤ 5) (b2 : 10 ≤ y) (t2 : y ≤ 2147483647) (b3 : (-2147483648) ≤ d) (t3 : d ≤ 2147483647) (b4 : 0 ≤ u) (t4 : u ≤ 120) (b5 : 0 ≤ g) (t5 : g ≤ 399) (f0 : 0 ≤ (u - p - 1)) (k0 : ly_hv cst h 1536 0 = some (u)) (k1 : ly_hv cst h 10 0 = some (g)) (l0 : hp_a l 0 16) (l1 : hp_i l 1 (p)) (l2 : hp_i l 2 (s)) (l3 : hp_i l 3 (y)) (l4 : hp_i l 4 (d)) (r0 : ∀ (h' : am_H) (y0 : Int32), y0.toInt = (-2) → ly_hy m_tt ly_TH h' → ly_fr cst [] h h' → h.length ≤ h'.length → Φ (some (.int y0), h', 0, 0)) : hp_F cst strs Φ D M 7 l [] h := by
  refine hp_arc c hM cwcg5_k hD [p, s, y, d, u, g] rfl hy (hp_Bc (z := p) rfl b0 t0 (hp_Bc (z := s) rfl b1 t1 (hp_Bc (z := y) rfl b2 t2 (hp_Bc (z := d) rfl b3 t3 (hp_Bc (z := u) rfl b4 t4 (hp_Bc (z := g) rfl b5 t5 hp_Bn)))))) (hp_Fc (z := ((-1) + ((-1) * p + (1 * u + 0)))) rfl (by omega) hp_Fn) (hp_Kc (zi := (0 + 0)) (zv := (0 + (1 * u + 0))) k0 rfl rfl (by omega) (by omega) (hp_Kc (zi := (0 + 0)) (zv := (0 + (1 * g + 0))) k1 rfl rfl (by omega) (by omega) hp_Kn)) (hp_La l0 (hp_Li (z := (0 + (1 * p + 0))) l1 rfl (by omega) (hp_Li (z := (0 + (1 * s + 0))) l2 rfl (by omega) (hp_Li (z := (0 + (1 * y + 0))) l3 rfl (by omega) (hp_Li (z := (0 + (1 * d + 0))) l4 rfl (by omega) hp_Ln))))) trivial ?_ ?_
  · intro p hp ys l' st' h' hys a1 a2 a3 gZ gL gS
    cases hp
  · intro p hp ys v h' hys a1 a2 a3 gZ gS
    rcases List.mem_cons.mp hp with rfl | hp
    · obtain rfl := hp_y0 hys
      cases v with
      | none => cases gS
      | some w =>
        obtain ⟨y0, t0, s0, q0, -⟩ := hp_gSi (z := ((-2) + 0)) gS rfl
        cases s0
        exact r0 h' y0 (by omega) a1 a2 a3
    cases hp
theorem xwcg5_k : hp_chk 334 5 7 [(0, 0, 119), (1, 0, 5), (2, 10, 2147483647), (3, (-2147483648), 2147483647), (4, 0, 120), (5, 0, 399), (6, 0, 1152921504606846976)] [((-1), [(0, (-1)), (4, 1)])] [(0, .inr (.inr (.inl (some 94)))), (1, .inl (0, [(0, 1)])), (2, .inl (0, [(1, 1)])), (3, .inl (0, [(2, 1)])), (4, .inl (0, [(3, 1)]))] [.inr (.inl (0, [(6, 1)])), .inr (.inr (.inl (some 94)))] [(19978, (0, []), (0, [(4, 1)])), (19977, (0, []), (0, [(5, 1)]))] [20017] 6 [] [([], 7, [(0, 0, 119), (1, 0, 5), (2, 10, 2147483647), (3, (-2147483648), 2147483647), (4, 0, 120), (5, 0, 399), (6, 0, 1152921504606846976)], [], [], [.inl ((-2), [])], [])] = true := by decide +kernel
theorem xwcg5 {cst : am_K} {strs : List Nat} {Φ : am_Q → Prop} {D : Nat} {M : am_M} {h : am_H} {l : am_L} (c : hp_C cst strs D) (hM : m_P[334]? = some M) (hD : (6 : Int) ≤ (D : Int) + 1) (hy : ly_hy m_tt ly_TH h) (p s y d u g vv : Int) (x0 : Int64) (hx0 : x0.toInt = (vv)) (b0 : 0 ≤ p) (t0 : p ≤ 119) (b1 : 0 ≤ s) (t1 : s ≤ 5) (b2 : 10 ≤ y) (t2 : y ≤ 2147483647) (b3 : (-2147483648) ≤ d) (t3 : d ≤ 2147483647) (b4 : 0 ≤ u) (t4 : u ≤ 120) (b5 : 0 ≤ g) (t5 : g ≤ 399) (b6 : 0 ≤ vv) (t6 : vv ≤ 1152921504606846976) (f0 : 0 ≤ (u - p - 1)) (k0 : ly_hv cst h 19978 0 = some (u)) (k1 : ly_hv cst h 19977 0 = some (g)) (l0 : hp_a l 0 94) (l1 : hp_i l 1 (p)) (l2 : hp_i l 2 (s)) (l3 : hp_i l 3 (y)) (l4 : hp_i l 4 (d)) (r0 : ∀ (h' : am_H) (y0 : Int32), y0.toInt = (-2) → ly_hy m_tt ly_TH h' → ly_fr cst [20017] h h' → h.length ≤ h'.length → Φ (some (.int y0), h', 0, 0)) : hp_F cst strs Φ D M 5 l [.long x0, .ref 94] h := by
  refine hp_arc c hM xwcg5_k hD [p, s, y, d, u, g, vv] rfl hy (hp_Bc (z := p) rfl b0 t0 (hp_Bc (z := s) rfl b1 t1 (hp_Bc (z := y) rfl b2 t2 (hp_Bc (z := d) rfl b3 t3 (hp_Bc (z := u) rfl b4 t4 (hp_Bc (z := g) rfl b5 t5 (hp_Bc (z := vv) rfl b6 t6 hp_Bn))))))) (hp_Fc (z := ((-1) + ((-1) * p + (1 * u + 0)))) rfl (by omega) hp_Fn) (hp_Kc (zi := (0 + 0)) (zv := (0 + (1 * u + 0))) k0 rfl rfl (by omega) (by omega) (hp_Kc (zi := (0 + 0)) (zv := (0 + (1 * g + 0))) k1 rfl rfl (by omega) (by omega) hp_Kn)) (hp_La l0 (hp_Li (z := (0 + (1 * p + 0))) l1 rfl (by omega) (hp_Li (z := (0 + (1 * s + 0))) l2 rfl (by omega) (hp_Li (z := (0 + (1 * y + 0))) l3 rfl (by omega) (hp_Li (z := (0 + (1 * d + 0))) l4 rfl (by omega) hp_Ln))))) (hp_Sj (z := (0 + (1 * vv + 0))) rfl (by omega) (hp_Sa trivial)) ?_ ?_
  · intro p hp ys l' st' h' hys a1 a2 a3 gZ gL gS
    cases hp
  · intro p hp ys v h' hys a1 a2 a3 gZ gS
    rcases List.mem_cons.mp hp with rfl | hp
    · obtain rfl := hp_y0 hys
      cases v with
      | none => cases gS
      | some w =>
        obtain ⟨y0, t0, s0, q0, -⟩ := hp_gSi (z := ((-2) + 0)) gS rfl
        cases s0
        exact r0 h' y0 (by omega) a1 a2 a3
    cases hp
theorem cwcg6_k : hp_chk 131 7 6 [(0, 0, 119), (1, 0, 5), (2, 0, 9), (3, (-2147483648), (-1)), (4, 0, 120), (5, 0, 399)] [((-1), [(0, (-1)), (4, 1)])] [(0, .inr (.inr (.inl (some 16)))), (1, .inl (0, [(0, 1)])), (2, .inl (0, [(1, 1)])), (3, .inl (0, [(2, 1)])), (4, .inl (0, [(3, 1)]))] [] [(1536, (0, []), (0, [(4, 1)])), (10, (0, []), (0, [(5, 1)]))] [] 6 [] [([], 6, [(0, 0, 119), (1, 0, 5), (2, 0, 9), (3, (-2147483648), (-1)), (4, 0, 120), (5, 0, 399)], [], [], [.inl ((-2), [])], [])] = true := by decide +kernel
theorem cwcg6 {cst : am_K} {strs : List Nat} {Φ : am_Q → Prop} {D : Nat} {M : am_M} {h : am_H} {l : am_L} (c : hp_C cst strs D) (hM : m_P[131]? = some M) (hD : (6 : Int) ≤ (D : Int) + 1) (hy : ly_hy m_tt ly_TH h) (p s y d u g : Int) (b0 : 0 ≤ p) (t0 : p ≤ 119) (b1 : 0 ≤ s) (t1 : s ≤ 5) (b2 : 0 ≤ y) (t2 : y ≤ 9) (b3 : (-2147483648) ≤ d) (t3 : d ≤ (-1)) (b4 : 0 ≤ u) (t4 : u ≤ 120) (b5 : 0 ≤ g) (t5 : g ≤ 399) (f0 : 0 ≤ (u - p - 1)) (k0 : ly_hv cst h 1536 0 = some (u)) (k1 : ly_hv cst h 10 0 = some (g)) (l0 : hp_a l 0 16) (l1 : hp_i l 1 (p)) (l2 : hp_i l 2 (s)) (l3 : hp_i l 3 (y)) (l4 : hp_i l 4 (d)) (r0 : ∀ (h' : am_H) (y0 : Int32), y0.toInt = (-2) → ly_hy m_tt ly_TH h' → ly_fr cst [] h h' → h.length ≤ h'.length → Φ (some (.int y0), h', 0, 0)) : hp_F cst strs Φ D M 7 l [] h := by
  refine hp_arc c hM cwcg6_k hD [p, s, y, d, u, g] rfl hy (hp_Bc (z := p) rfl b0 t0 (hp_Bc (z := s) rfl b1 t1 (hp_Bc (z := y) rfl b2 t2 (hp_Bc (z := d) rfl b3 t3 (hp_Bc (z := u) rfl b4 t4 (hp_Bc (z := g) rfl b5 t5 hp_Bn)))))) (hp_Fc (z := ((-1) + ((-1) * p + (1 * u + 0)))) rfl (by omega) hp_Fn) (hp_Kc (zi := (0 + 0)) (zv := (0 + (1 * u + 0))) k0 rfl rfl (by omega) (by omega) (hp_Kc (zi := (0 + 0)) (zv := (0 + (1 * g + 0))) k1 rfl rfl (by omega) (by omega) hp_Kn)) (hp_La l0 (hp_Li (z := (0 + (1 * p + 0))) l1 rfl (by omega) (hp_Li (z := (0 + (1 * s + 0))) l2 rfl (by omega) (hp_Li (z := (0 + (1 * y + 0))) l3 rfl (by omega) (hp_Li (z := (0 + (1 * d + 0))) l4 rfl (by omega) hp_Ln))))) trivial ?_ ?_
  · intro p hp ys l' st' h' hys a1 a2 a3 gZ gL gS
    cases hp
  · intro p hp ys v h' hys a1 a2 a3 gZ gS
    rcases List.mem_cons.mp hp with rfl | hp
    · obtain rfl := hp_y0 hys
      cases v with
      | none => cases gS
      | some w =>
        obtain ⟨y0, t0, s0, q0, -⟩ := hp_gSi (z := ((-2) + 0)) gS rfl
        cases s0
        exact r0 h' y0 (by omega) a1 a2 a3
    cases hp
theorem xwcg6_k : hp_chk 334 5 7 [(0, 0, 119), (1, 0, 5), (2, 0, 9), (3, (-2147483648), (-1)), (4, 0, 120), (5, 0, 399), (6, 0, 1152921504606846976)] [((-1), [(0, (-1)), (4, 1)])] [(0, .inr (.inr (.inl (some 94)))), (1, .inl (0, [(0, 1)])), (2, .inl (0, [(1, 1)])), (3, .inl (0, [(2, 1)])), (4, .inl (0, [(3, 1)]))] [.inr (.inl (0, [(6, 1)])), .inr (.inr (.inl (some 94)))] [(19978, (0, []), (0, [(4, 1)])), (19977, (0, []), (0, [(5, 1)]))] [20017] 6 [] [([], 7, [(0, 0, 119), (1, 0, 5), (2, 0, 9), (3, (-2147483648), (-1)), (4, 0, 120), (5, 0, 399), (6, 0, 1152921504606846976)], [], [], [.inl ((-2), [])], [])] = true := by decide +kernel
theorem xwcg6 {cst : am_K} {strs : List Nat} {Φ : am_Q → Prop} {D : Nat} {M : am_M} {h : am_H} {l : am_L} (c : hp_C cst strs D) (hM : m_P[334]? = some M) (hD : (6 : Int) ≤ (D : Int) + 1) (hy : ly_hy m_tt ly_TH h) (p s y d u g vv : Int) (x0 : Int64) (hx0 : x0.toInt = (vv)) (b0 : 0 ≤ p) (t0 : p ≤ 119) (b1 : 0 ≤ s) (t1 : s ≤ 5) (b2 : 0 ≤ y) (t2 : y ≤ 9) (b3 : (-2147483648) ≤ d) (t3 : d ≤ (-1)) (b4 : 0 ≤ u) (t4 : u ≤ 120) (b5 : 0 ≤ g) (t5 : g ≤ 399) (b6 : 0 ≤ vv) (t6 : vv ≤ 1152921504606846976) (f0 : 0 ≤ (u - p - 1)) (k0 : ly_hv cst h 19978 0 = some (u)) (k1 : ly_hv cst h 19977 0 = some (g)) (l0 : hp_a l 0 94) (l1 : hp_i l 1 (p)) (l2 : hp_i l 2 (s)) (l3 : hp_i l 3 (y)) (l4 : hp_i l 4 (d)) (r0 : ∀ (h' : am_H) (y0 : Int32), y0.toInt = (-2) → ly_hy m_tt ly_TH h' → ly_fr cst [20017] h h' → h.length ≤ h'.length → Φ (some (.int y0), h', 0, 0)) : hp_F cst strs Φ D M 5 l [.long x0, .ref 94] h := by
  refine hp_arc c hM xwcg6_k hD [p, s, y, d, u, g, vv] rfl hy (hp_Bc (z := p) rfl b0 t0 (hp_Bc (z := s) rfl b1 t1 (hp_Bc (z := y) rfl b2 t2 (hp_Bc (z := d) rfl b3 t3 (hp_Bc (z := u) rfl b4 t4 (hp_Bc (z := g) rfl b5 t5 (hp_Bc (z := vv) rfl b6 t6 hp_Bn))))))) (hp_Fc (z := ((-1) + ((-1) * p + (1 * u + 0)))) rfl (by omega) hp_Fn) (hp_Kc (zi := (0 + 0)) (zv := (0 + (1 * u + 0))) k0 rfl rfl (by omega) (by omega) (hp_Kc (zi := (0 + 0)) (zv := (0 + (1 * g + 0))) k1 rfl rfl (by omega) (by omega) hp_Kn)) (hp_La l0 (hp_Li (z := (0 + (1 * p + 0))) l1 rfl (by omega) (hp_Li (z := (0 + (1 * s + 0))) l2 rfl (by omega) (hp_Li (z := (0 + (1 * y + 0))) l3 rfl (by omega) (hp_Li (z := (0 + (1 * d + 0))) l4 rfl (by omega) hp_Ln))))) (hp_Sj (z := (0 + (1 * vv + 0))) rfl (by omega) (hp_Sa trivial)) ?_ ?_
  · intro p hp ys l' st' h' hys a1 a2 a3 gZ gL gS
    cases hp
  · intro p hp ys v h' hys a1 a2 a3 gZ gS
    rcases List.mem_cons.mp hp with rfl | hp
    · obtain rfl := hp_y0 hys
      cases v with
      | none => cases gS
      | some w =>
        obtain ⟨y0, t0, s0, q0, -⟩ := hp_gSi (z := ((-2) + 0)) gS rfl
        cases s0
        exact r0 h' y0 (by omega) a1 a2 a3
    cases hp
theorem cwcg7_k : hp_chk 131 7 6 [(0, 0, 119), (1, 0, 5), (2, 0, 9), (3, 0, 2147483647), (4, 0, 120), (5, 0, 399)] [((-1), [(0, (-1)), (4, 1)]), ((-1), [(3, 1), (5, (-1))])] [(0, .inr (.inr (.inl (some 16)))), (1, .inl (0, [(0, 1)])), (2, .inl (0, [(1, 1)])), (3, .inl (0, [(2, 1)])), (4, .inl (0, [(3, 1)]))] [] [(1536, (0, []), (0, [(4, 1)])), (10, (0, []), (0, [(5, 1)]))] [] 6 [] [([], 6, [(0, 0, 119), (1, 0, 5), (2, 0, 9), (3, 0, 2147483647), (4, 0, 120), (5, 0, 399)], [], [], [.inl ((-2), [])], [])] = true := by decide +kernel
theorem cwcg7 {cst : am_K} {strs : List Nat} {Φ : am_Q → Prop} {D : Nat} {M : am_M} {h : am_H} {l : am_L} (c : hp_C cst strs D) (hM : m_P[131]? = some M) (hD : (6 : Int) ≤ (D : Int) + 1) (hy : ly_hy m_tt ly_TH h) (p s y d u g : Int) (b0 : 0 ≤ p) (t0 : p ≤ 119) (b1 : 0 ≤ s) (t1 : s ≤ 5) (b2 : 0 ≤ y) (t2 : y ≤ 9) (b3 : 0 ≤ d) (t3 : d ≤ 2147483647) (b4 : 0 ≤ u) (t4 : u ≤ 120) (b5 : 0 ≤ g) (t5 : g ≤ 399) (f0 : 0 ≤ (u - p - 1)) (f1 : 0 ≤ (d - g - 1)) (k0 : ly_hv cst h 1536 0 = some (u)) (k1 : ly_hv cst h 10 0 = some (g)) (l0 : hp_a l 0 16) (l1 : hp_i l 1 (p)) (l2 : hp_i l 2 (s)) (l3 : hp_i l 3 (y)) (l4 : hp_i l 4 (d)) (r0 : ∀ (h' : am_H) (y0 : Int32), y0.toInt = (-2) → ly_hy m_tt ly_TH h' → ly_fr cst [] h h' → h.length ≤ h'.length → Φ (some (.int y0), h', 0, 0)) : hp_F cst strs Φ D M 7 l [] h := by
  refine hp_arc c hM cwcg7_k hD [p, s, y, d, u, g] rfl hy (hp_Bc (z := p) rfl b0 t0 (hp_Bc (z := s) rfl b1 t1 (hp_Bc (z := y) rfl b2 t2 (hp_Bc (z := d) rfl b3 t3 (hp_Bc (z := u) rfl b4 t4 (hp_Bc (z := g) rfl b5 t5 hp_Bn)))))) (hp_Fc (z := ((-1) + ((-1) * p + (1 * u + 0)))) rfl (by omega) (hp_Fc (z := ((-1) + (1 * d + ((-1) * g + 0)))) rfl (by omega) hp_Fn)) (hp_Kc (zi := (0 + 0)) (zv := (0 + (1 * u + 0))) k0 rfl rfl (by omega) (by omega) (hp_Kc (zi := (0 + 0)) (zv := (0 + (1 * g + 0))) k1 rfl rfl (by omega) (by omega) hp_Kn)) (hp_La l0 (hp_Li (z := (0 + (1 * p + 0))) l1 rfl (by omega) (hp_Li (z := (0 + (1 * s + 0))) l2 rfl (by omega) (hp_Li (z := (0 + (1 * y + 0))) l3 rfl (by omega) (hp_Li (z := (0 + (1 * d + 0))) l4 rfl (by omega) hp_Ln))))) trivial ?_ ?_
  · intro p hp ys l' st' h' hys a1 a2 a3 gZ gL gS
    cases hp
  · intro p hp ys v h' hys a1 a2 a3 gZ gS
    rcases List.mem_cons.mp hp with rfl | hp
    · obtain rfl := hp_y0 hys
      cases v with
      | none => cases gS
      | some w =>
        obtain ⟨y0, t0, s0, q0, -⟩ := hp_gSi (z := ((-2) + 0)) gS rfl
        cases s0
        exact r0 h' y0 (by omega) a1 a2 a3
    cases hp
theorem xwcg7_k : hp_chk 334 5 7 [(0, 0, 119), (1, 0, 5), (2, 0, 9), (3, 0, 2147483647), (4, 0, 120), (5, 0, 399), (6, 0, 1152921504606846976)] [((-1), [(0, (-1)), (4, 1)]), ((-1), [(3, 1), (5, (-1))])] [(0, .inr (.inr (.inl (some 94)))), (1, .inl (0, [(0, 1)])), (2, .inl (0, [(1, 1)])), (3, .inl (0, [(2, 1)])), (4, .inl (0, [(3, 1)]))] [.inr (.inl (0, [(6, 1)])), .inr (.inr (.inl (some 94)))] [(19978, (0, []), (0, [(4, 1)])), (19977, (0, []), (0, [(5, 1)]))] [20017] 6 [] [([], 7, [(0, 0, 119), (1, 0, 5), (2, 0, 9), (3, 0, 2147483647), (4, 0, 120), (5, 0, 399), (6, 0, 1152921504606846976)], [], [], [.inl ((-2), [])], [])] = true := by decide +kernel
theorem xwcg7 {cst : am_K} {strs : List Nat} {Φ : am_Q → Prop} {D : Nat} {M : am_M} {h : am_H} {l : am_L} (c : hp_C cst strs D) (hM : m_P[334]? = some M) (hD : (6 : Int) ≤ (D : Int) + 1) (hy : ly_hy m_tt ly_TH h) (p s y d u g vv : Int) (x0 : Int64) (hx0 : x0.toInt = (vv)) (b0 : 0 ≤ p) (t0 : p ≤ 119) (b1 : 0 ≤ s) (t1 : s ≤ 5) (b2 : 0 ≤ y) (t2 : y ≤ 9) (b3 : 0 ≤ d) (t3 : d ≤ 2147483647) (b4 : 0 ≤ u) (t4 : u ≤ 120) (b5 : 0 ≤ g) (t5 : g ≤ 399) (b6 : 0 ≤ vv) (t6 : vv ≤ 1152921504606846976) (f0 : 0 ≤ (u - p - 1)) (f1 : 0 ≤ (d - g - 1)) (k0 : ly_hv cst h 19978 0 = some (u)) (k1 : ly_hv cst h 19977 0 = some (g)) (l0 : hp_a l 0 94) (l1 : hp_i l 1 (p)) (l2 : hp_i l 2 (s)) (l3 : hp_i l 3 (y)) (l4 : hp_i l 4 (d)) (r0 : ∀ (h' : am_H) (y0 : Int32), y0.toInt = (-2) → ly_hy m_tt ly_TH h' → ly_fr cst [20017] h h' → h.length ≤ h'.length → Φ (some (.int y0), h', 0, 0)) : hp_F cst strs Φ D M 5 l [.long x0, .ref 94] h := by
  refine hp_arc c hM xwcg7_k hD [p, s, y, d, u, g, vv] rfl hy (hp_Bc (z := p) rfl b0 t0 (hp_Bc (z := s) rfl b1 t1 (hp_Bc (z := y) rfl b2 t2 (hp_Bc (z := d) rfl b3 t3 (hp_Bc (z := u) rfl b4 t4 (hp_Bc (z := g) rfl b5 t5 (hp_Bc (z := vv) rfl b6 t6 hp_Bn))))))) (hp_Fc (z := ((-1) + ((-1) * p + (1 * u + 0)))) rfl (by omega) (hp_Fc (z := ((-1) + (1 * d + ((-1) * g + 0)))) rfl (by omega) hp_Fn)) (hp_Kc (zi := (0 + 0)) (zv := (0 + (1 * u + 0))) k0 rfl rfl (by omega) (by omega) (hp_Kc (zi := (0 + 0)) (zv := (0 + (1 * g + 0))) k1 rfl rfl (by omega) (by omega) hp_Kn)) (hp_La l0 (hp_Li (z := (0 + (1 * p + 0))) l1 rfl (by omega) (hp_Li (z := (0 + (1 * s + 0))) l2 rfl (by omega) (hp_Li (z := (0 + (1 * y + 0))) l3 rfl (by omega) (hp_Li (z := (0 + (1 * d + 0))) l4 rfl (by omega) hp_Ln))))) (hp_Sj (z := (0 + (1 * vv + 0))) rfl (by omega) (hp_Sa trivial)) ?_ ?_
  · intro p hp ys l' st' h' hys a1 a2 a3 gZ gL gS
    cases hp
  · intro p hp ys v h' hys a1 a2 a3 gZ gS
    rcases List.mem_cons.mp hp with rfl | hp
    · obtain rfl := hp_y0 hys
      cases v with
      | none => cases gS
      | some w =>
        obtain ⟨y0, t0, s0, q0, -⟩ := hp_gSi (z := ((-2) + 0)) gS rfl
        cases s0
        exact r0 h' y0 (by omega) a1 a2 a3
    cases hp
theorem cwck_k : hp_chk 131 7 6 [(0, 0, 119), (1, 0, 5), (2, 0, 9), (3, 0, 399), (4, 0, 120), (5, 0, 399)] [((-1), [(0, (-1)), (4, 1)]), (0, [(3, (-1)), (5, 1)])] [(0, .inr (.inr (.inl (some 16)))), (1, .inl (0, [(0, 1)])), (2, .inl (0, [(1, 1)])), (3, .inl (0, [(2, 1)])), (4, .inl (0, [(3, 1)]))] [] [(1536, (0, []), (0, [(4, 1)])), (10, (0, []), (0, [(5, 1)]))] [] 6 [(40, ([], 6, [(0, 0, 119), (1, 0, 5), (2, 0, 9), (3, 0, 399), (4, 0, 120), (5, 0, 399)], [], [(0, .inr (.inr (.inl (some 16))))], [.inl (0, []), .inl (0, [(3, 1)]), .inl (0, [(2, 1)]), .inl (0, [(1, 1)]), .inl (0, [(0, 1)]), .inl ((-1), []), .inr (.inr (.inl (some 16)))], []))] [] = true := by decide +kernel
theorem cwck {cst : am_K} {strs : List Nat} {Φ : am_Q → Prop} {D : Nat} {M : am_M} {h : am_H} {l : am_L} (c : hp_C cst strs D) (hM : m_P[131]? = some M) (hD : (6 : Int) ≤ (D : Int) + 1) (hy : ly_hy m_tt ly_TH h) (p s y d u g : Int) (b0 : 0 ≤ p) (t0 : p ≤ 119) (b1 : 0 ≤ s) (t1 : s ≤ 5) (b2 : 0 ≤ y) (t2 : y ≤ 9) (b3 : 0 ≤ d) (t3 : d ≤ 399) (b4 : 0 ≤ u) (t4 : u ≤ 120) (b5 : 0 ≤ g) (t5 : g ≤ 399) (f0 : 0 ≤ (u - p - 1)) (f1 : 0 ≤ (g - d)) (k0 : ly_hv cst h 1536 0 = some (u)) (k1 : ly_hv cst h 10 0 = some (g)) (l0 : hp_a l 0 16) (l1 : hp_i l 1 (p)) (l2 : hp_i l 2 (s)) (l3 : hp_i l 3 (y)) (l4 : hp_i l 4 (d)) (e0 : ∀ (l' : am_L) (h' : am_H) (y0 : Int32) (y1 : Int32) (y2 : Int32) (y3 : Int32) (y4 : Int32) (y5 : Int32), y0.toInt = 0 → y1.toInt = (d) → y2.toInt = (y) → y3.toInt = (s) → y4.toInt = (p) → y5.toInt = (-1) → ly_hy m_tt ly_TH h' → ly_fr cst [] h h' → h.length ≤ h'.length → hp_a l' 0 16 → hp_F cst strs Φ D M 40 l' [.int y0, .int y1, .int y2, .int y3, .int y4, .int y5, .ref 16] h') : hp_F cst strs Φ D M 7 l [] h := by
  refine hp_arc c hM cwck_k hD [p, s, y, d, u, g] rfl hy (hp_Bc (z := p) rfl b0 t0 (hp_Bc (z := s) rfl b1 t1 (hp_Bc (z := y) rfl b2 t2 (hp_Bc (z := d) rfl b3 t3 (hp_Bc (z := u) rfl b4 t4 (hp_Bc (z := g) rfl b5 t5 hp_Bn)))))) (hp_Fc (z := ((-1) + ((-1) * p + (1 * u + 0)))) rfl (by omega) (hp_Fc (z := (0 + ((-1) * d + (1 * g + 0)))) rfl (by omega) hp_Fn)) (hp_Kc (zi := (0 + 0)) (zv := (0 + (1 * u + 0))) k0 rfl rfl (by omega) (by omega) (hp_Kc (zi := (0 + 0)) (zv := (0 + (1 * g + 0))) k1 rfl rfl (by omega) (by omega) hp_Kn)) (hp_La l0 (hp_Li (z := (0 + (1 * p + 0))) l1 rfl (by omega) (hp_Li (z := (0 + (1 * s + 0))) l2 rfl (by omega) (hp_Li (z := (0 + (1 * y + 0))) l3 rfl (by omega) (hp_Li (z := (0 + (1 * d + 0))) l4 rfl (by omega) hp_Ln))))) trivial ?_ ?_
  · intro p hp ys l' st' h' hys a1 a2 a3 gZ gL gS
    rcases List.mem_cons.mp hp with rfl | hp
    · obtain rfl := hp_y0 hys
      obtain ⟨y0, t0, rfl, q0, g0⟩ := hp_gSi (z := (0 + 0)) gS rfl
      obtain ⟨y1, t1, rfl, q1, g1⟩ := hp_gSi (z := (0 + (1 * d + 0))) g0 rfl
      obtain ⟨y2, t2, rfl, q2, g2⟩ := hp_gSi (z := (0 + (1 * y + 0))) g1 rfl
      obtain ⟨y3, t3, rfl, q3, g3⟩ := hp_gSi (z := (0 + (1 * s + 0))) g2 rfl
      obtain ⟨y4, t4, rfl, q4, g4⟩ := hp_gSi (z := (0 + (1 * p + 0))) g3 rfl
      obtain ⟨y5, t5, rfl, q5, g5⟩ := hp_gSi (z := ((-1) + 0)) g4 rfl
      obtain ⟨t6, rfl, g6⟩ := hp_gSa g5 (by decide)
      cases hp_gSn g6
      exact e0 l' h' y0 y1 y2 y3 y4 y5 (by omega) (by omega) (by omega) (by omega) (by omega) (by omega) a1 a2 a3 (hp_gLa gL (List.mem_of_getElem? (i := 0) rfl) (by decide))
    cases hp
  · intro p hp ys v h' hys a1 a2 a3 gZ gS
    cases hp
theorem cwcr_k : hp_chk 131 43 1 [(0, (-2147483648), 2147483647)] [] [(0, .inr (.inr (.inl (some 16))))] [.inl (0, [(0, 1)])] [] [] 2 [] [([], 1, [(0, (-2147483648), 2147483647)], [], [], [.inl (0, [(0, 1)])], [])] = true := by decide +kernel
theorem cwcr {cst : am_K} {strs : List Nat} {Φ : am_Q → Prop} {D : Nat} {M : am_M} {h : am_H} {l : am_L} (c : hp_C cst strs D) (hM : m_P[131]? = some M) (hD : (2 : Int) ≤ (D : Int) + 1) (hy : ly_hy m_tt ly_TH h) (a : Int) (x0 : Int32) (hx0 : x0.toInt = (a)) (b0 : (-2147483648) ≤ a) (t0 : a ≤ 2147483647) (l0 : hp_a l 0 16) (r0 : ∀ (h' : am_H) (y0 : Int32), y0.toInt = (a) → ly_hy m_tt ly_TH h' → ly_fr cst [] h h' → h.length ≤ h'.length → Φ (some (.int y0), h', 0, 0)) : hp_F cst strs Φ D M 43 l [.int x0] h := by
  refine hp_arc c hM cwcr_k hD [a] rfl hy (hp_Bc (z := a) rfl b0 t0 hp_Bn) hp_Fn hp_Kn (hp_La l0 hp_Ln) (hp_Si (z := (0 + (1 * a + 0))) rfl (by omega) trivial) ?_ ?_
  · intro p hp ys l' st' h' hys a1 a2 a3 gZ gL gS
    cases hp
  · intro p hp ys v h' hys a1 a2 a3 gZ gS
    rcases List.mem_cons.mp hp with rfl | hp
    · obtain rfl := hp_y0 hys
      cases v with
      | none => cases gS
      | some w =>
        obtain ⟨y0, t0, s0, q0, -⟩ := hp_gSi (z := (0 + (1 * a + 0))) gS rfl
        cases s0
        exact r0 h' y0 (by omega) a1 a2 a3
    cases hp
theorem xwcn_k : hp_chk 334 5 6 [(0, 0, 119), (1, 0, 5), (2, 0, 9), (3, 0, 399), (4, 0, 120), (5, 0, 399)] [((-1), [(0, (-1)), (4, 1)]), (0, [(3, (-1)), (5, 1)])] [(0, .inr (.inr (.inl (some 94)))), (1, .inl (0, [(0, 1)])), (2, .inl (0, [(1, 1)])), (3, .inl (0, [(2, 1)])), (4, .inl (0, [(3, 1)]))] [.inr (.inl (0, [])), .inr (.inr (.inl (some 94)))] [(19978, (0, []), (0, [(4, 1)])), (19977, (0, []), (0, [(5, 1)]))] [20017] 6 [] [([], 6, [(0, 0, 119), (1, 0, 5), (2, 0, 9), (3, 0, 399), (4, 0, 120), (5, 0, 399)], [], [], [.inl ((-1), [])], [])] = true := by decide +kernel
theorem xwcn {cst : am_K} {strs : List Nat} {Φ : am_Q → Prop} {D : Nat} {M : am_M} {h : am_H} {l : am_L} (c : hp_C cst strs D) (hM : m_P[334]? = some M) (hD : (6 : Int) ≤ (D : Int) + 1) (hy : ly_hy m_tt ly_TH h) (p s y d u g : Int) (x0 : Int64) (hx0 : x0.toInt = 0) (b0 : 0 ≤ p) (t0 : p ≤ 119) (b1 : 0 ≤ s) (t1 : s ≤ 5) (b2 : 0 ≤ y) (t2 : y ≤ 9) (b3 : 0 ≤ d) (t3 : d ≤ 399) (b4 : 0 ≤ u) (t4 : u ≤ 120) (b5 : 0 ≤ g) (t5 : g ≤ 399) (f0 : 0 ≤ (u - p - 1)) (f1 : 0 ≤ (g - d)) (k0 : ly_hv cst h 19978 0 = some (u)) (k1 : ly_hv cst h 19977 0 = some (g)) (l0 : hp_a l 0 94) (l1 : hp_i l 1 (p)) (l2 : hp_i l 2 (s)) (l3 : hp_i l 3 (y)) (l4 : hp_i l 4 (d)) (r0 : ∀ (h' : am_H) (y0 : Int32), y0.toInt = (-1) → ly_hy m_tt ly_TH h' → ly_fr cst [20017] h h' → h.length ≤ h'.length → Φ (some (.int y0), h', 0, 0)) : hp_F cst strs Φ D M 5 l [.long x0, .ref 94] h := by
  refine hp_arc c hM xwcn_k hD [p, s, y, d, u, g] rfl hy (hp_Bc (z := p) rfl b0 t0 (hp_Bc (z := s) rfl b1 t1 (hp_Bc (z := y) rfl b2 t2 (hp_Bc (z := d) rfl b3 t3 (hp_Bc (z := u) rfl b4 t4 (hp_Bc (z := g) rfl b5 t5 hp_Bn)))))) (hp_Fc (z := ((-1) + ((-1) * p + (1 * u + 0)))) rfl (by omega) (hp_Fc (z := (0 + ((-1) * d + (1 * g + 0)))) rfl (by omega) hp_Fn)) (hp_Kc (zi := (0 + 0)) (zv := (0 + (1 * u + 0))) k0 rfl rfl (by omega) (by omega) (hp_Kc (zi := (0 + 0)) (zv := (0 + (1 * g + 0))) k1 rfl rfl (by omega) (by omega) hp_Kn)) (hp_La l0 (hp_Li (z := (0 + (1 * p + 0))) l1 rfl (by omega) (hp_Li (z := (0 + (1 * s + 0))) l2 rfl (by omega) (hp_Li (z := (0 + (1 * y + 0))) l3 rfl (by omega) (hp_Li (z := (0 + (1 * d + 0))) l4 rfl (by omega) hp_Ln))))) (hp_Sj (z := (0 + 0)) rfl (by omega) (hp_Sa trivial)) ?_ ?_
  · intro p hp ys l' st' h' hys a1 a2 a3 gZ gL gS
    cases hp
  · intro p hp ys v h' hys a1 a2 a3 gZ gS
    rcases List.mem_cons.mp hp with rfl | hp
    · obtain rfl := hp_y0 hys
      cases v with
      | none => cases gS
      | some w =>
        obtain ⟨y0, t0, s0, q0, -⟩ := hp_gSi (z := ((-1) + 0)) gS rfl
        cases s0
        exact r0 h' y0 (by omega) a1 a2 a3
    cases hp
theorem xwcf_k : hp_chk 334 5 7 [(0, 0, 119), (1, 0, 5), (2, 0, 9), (3, 0, 399), (4, 0, 120), (5, 0, 399), (6, 1, 1152921504606846976)] [((-1), [(0, (-1)), (4, 1)]), (0, [(3, (-1)), (5, 1)])] [(0, .inr (.inr (.inl (some 94)))), (1, .inl (0, [(0, 1)])), (2, .inl (0, [(1, 1)])), (3, .inl (0, [(2, 1)])), (4, .inl (0, [(3, 1)]))] [.inr (.inl (0, [(6, 1)])), .inr (.inr (.inl (some 94)))] [(19978, (0, []), (0, [(4, 1)])), (19977, (0, []), (0, [(5, 1)])), (20024, (0, []), (100, []))] [20017] 6 [] [([], 7, [(0, 0, 119), (1, 0, 5), (2, 0, 9), (3, 0, 399), (4, 0, 120), (5, 0, 399), (6, 1, 1152921504606846976)], [], [], [.inl ((-3), [])], [])] = true := by decide +kernel
theorem xwcf {cst : am_K} {strs : List Nat} {Φ : am_Q → Prop} {D : Nat} {M : am_M} {h : am_H} {l : am_L} (c : hp_C cst strs D) (hM : m_P[334]? = some M) (hD : (6 : Int) ≤ (D : Int) + 1) (hy : ly_hy m_tt ly_TH h) (p s y d u g vv : Int) (x0 : Int64) (hx0 : x0.toInt = (vv)) (b0 : 0 ≤ p) (t0 : p ≤ 119) (b1 : 0 ≤ s) (t1 : s ≤ 5) (b2 : 0 ≤ y) (t2 : y ≤ 9) (b3 : 0 ≤ d) (t3 : d ≤ 399) (b4 : 0 ≤ u) (t4 : u ≤ 120) (b5 : 0 ≤ g) (t5 : g ≤ 399) (b6 : 1 ≤ vv) (t6 : vv ≤ 1152921504606846976) (f0 : 0 ≤ (u - p - 1)) (f1 : 0 ≤ (g - d)) (k0 : ly_hv cst h 19978 0 = some (u)) (k1 : ly_hv cst h 19977 0 = some (g)) (k2 : ly_hv cst h 20024 0 = some 100) (l0 : hp_a l 0 94) (l1 : hp_i l 1 (p)) (l2 : hp_i l 2 (s)) (l3 : hp_i l 3 (y)) (l4 : hp_i l 4 (d)) (r0 : ∀ (h' : am_H) (y0 : Int32), y0.toInt = (-3) → ly_hy m_tt ly_TH h' → ly_fr cst [20017] h h' → h.length ≤ h'.length → Φ (some (.int y0), h', 0, 0)) : hp_F cst strs Φ D M 5 l [.long x0, .ref 94] h := by
  refine hp_arc c hM xwcf_k hD [p, s, y, d, u, g, vv] rfl hy (hp_Bc (z := p) rfl b0 t0 (hp_Bc (z := s) rfl b1 t1 (hp_Bc (z := y) rfl b2 t2 (hp_Bc (z := d) rfl b3 t3 (hp_Bc (z := u) rfl b4 t4 (hp_Bc (z := g) rfl b5 t5 (hp_Bc (z := vv) rfl b6 t6 hp_Bn))))))) (hp_Fc (z := ((-1) + ((-1) * p + (1 * u + 0)))) rfl (by omega) (hp_Fc (z := (0 + ((-1) * d + (1 * g + 0)))) rfl (by omega) hp_Fn)) (hp_Kc (zi := (0 + 0)) (zv := (0 + (1 * u + 0))) k0 rfl rfl (by omega) (by omega) (hp_Kc (zi := (0 + 0)) (zv := (0 + (1 * g + 0))) k1 rfl rfl (by omega) (by omega) (hp_Kc (zi := (0 + 0)) (zv := (100 + 0)) k2 rfl rfl (by omega) (by omega) hp_Kn))) (hp_La l0 (hp_Li (z := (0 + (1 * p + 0))) l1 rfl (by omega) (hp_Li (z := (0 + (1 * s + 0))) l2 rfl (by omega) (hp_Li (z := (0 + (1 * y + 0))) l3 rfl (by omega) (hp_Li (z := (0 + (1 * d + 0))) l4 rfl (by omega) hp_Ln))))) (hp_Sj (z := (0 + (1 * vv + 0))) rfl (by omega) (hp_Sa trivial)) ?_ ?_
  · intro p hp ys l' st' h' hys a1 a2 a3 gZ gL gS
    cases hp
  · intro p hp ys v h' hys a1 a2 a3 gZ gS
    rcases List.mem_cons.mp hp with rfl | hp
    · obtain rfl := hp_y0 hys
      cases v with
      | none => cases gS
      | some w =>
        obtain ⟨y0, t0, s0, q0, -⟩ := hp_gSi (z := ((-3) + 0)) gS rfl
        cases s0
        exact r0 h' y0 (by omega) a1 a2 a3
    cases hp
theorem xwck_k : hp_chk 334 5 8 [(0, 0, 119), (1, 0, 5), (2, 0, 9), (3, 0, 399), (4, 0, 120), (5, 0, 399), (6, 1, 1152921504606846976), (7, 0, 99)] [((-1), [(0, (-1)), (4, 1)]), (0, [(3, (-1)), (5, 1)])] [(0, .inr (.inr (.inl (some 94)))), (1, .inl (0, [(0, 1)])), (2, .inl (0, [(1, 1)])), (3, .inl (0, [(2, 1)])), (4, .inl (0, [(3, 1)]))] [.inr (.inl (0, [(6, 1)])), .inr (.inr (.inl (some 94)))] [(19978, (0, []), (0, [(4, 1)])), (19977, (0, []), (0, [(5, 1)])), (20024, (0, []), (0, [(7, 1)]))] [20017] 6 [(83, ([], 8, [(0, 0, 119), (1, 0, 5), (2, 0, 9), (3, 0, 399), (4, 0, 120), (5, 0, 399), (6, 1, 1152921504606846976), (7, 0, 99)], [], [(0, .inr (.inr (.inl (some 94))))], [.inl (0, []), .inl (0, [(3, 1)]), .inl (0, [(2, 1)]), .inl (0, [(1, 1)]), .inl ((-1), []), .inl (0, [(0, 1)]), .inl (0, []), .inr (.inr (.inl (some 94)))], []))] [] = true := by decide +kernel
theorem xwck {cst : am_K} {strs : List Nat} {Φ : am_Q → Prop} {D : Nat} {M : am_M} {h : am_H} {l : am_L} (c : hp_C cst strs D) (hM : m_P[334]? = some M) (hD : (6 : Int) ≤ (D : Int) + 1) (hy : ly_hy m_tt ly_TH h) (p s y d u g vv m : Int) (x0 : Int64) (hx0 : x0.toInt = (vv)) (b0 : 0 ≤ p) (t0 : p ≤ 119) (b1 : 0 ≤ s) (t1 : s ≤ 5) (b2 : 0 ≤ y) (t2 : y ≤ 9) (b3 : 0 ≤ d) (t3 : d ≤ 399) (b4 : 0 ≤ u) (t4 : u ≤ 120) (b5 : 0 ≤ g) (t5 : g ≤ 399) (b6 : 1 ≤ vv) (t6 : vv ≤ 1152921504606846976) (b7 : 0 ≤ m) (t7 : m ≤ 99) (f0 : 0 ≤ (u - p - 1)) (f1 : 0 ≤ (g - d)) (k0 : ly_hv cst h 19978 0 = some (u)) (k1 : ly_hv cst h 19977 0 = some (g)) (k2 : ly_hv cst h 20024 0 = some (m)) (l0 : hp_a l 0 94) (l1 : hp_i l 1 (p)) (l2 : hp_i l 2 (s)) (l3 : hp_i l 3 (y)) (l4 : hp_i l 4 (d)) (e0 : ∀ (l' : am_L) (h' : am_H) (y0 : Int32) (y1 : Int32) (y2 : Int32) (y3 : Int32) (y4 : Int32) (y5 : Int32) (y6 : Int32), y0.toInt = 0 → y1.toInt = (d) → y2.toInt = (y) → y3.toInt = (s) → y4.toInt = (-1) → y5.toInt = (p) → y6.toInt = 0 → ly_hy m_tt ly_TH h' → ly_fr cst [20017] h h' → h.length ≤ h'.length → hp_a l' 0 94 → hp_F cst strs Φ D M 83 l' [.int y0, .int y1, .int y2, .int y3, .int y4, .int y5, .int y6, .ref 94] h') : hp_F cst strs Φ D M 5 l [.long x0, .ref 94] h := by
  refine hp_arc c hM xwck_k hD [p, s, y, d, u, g, vv, m] rfl hy (hp_Bc (z := p) rfl b0 t0 (hp_Bc (z := s) rfl b1 t1 (hp_Bc (z := y) rfl b2 t2 (hp_Bc (z := d) rfl b3 t3 (hp_Bc (z := u) rfl b4 t4 (hp_Bc (z := g) rfl b5 t5 (hp_Bc (z := vv) rfl b6 t6 (hp_Bc (z := m) rfl b7 t7 hp_Bn)))))))) (hp_Fc (z := ((-1) + ((-1) * p + (1 * u + 0)))) rfl (by omega) (hp_Fc (z := (0 + ((-1) * d + (1 * g + 0)))) rfl (by omega) hp_Fn)) (hp_Kc (zi := (0 + 0)) (zv := (0 + (1 * u + 0))) k0 rfl rfl (by omega) (by omega) (hp_Kc (zi := (0 + 0)) (zv := (0 + (1 * g + 0))) k1 rfl rfl (by omega) (by omega) (hp_Kc (zi := (0 + 0)) (zv := (0 + (1 * m + 0))) k2 rfl rfl (by omega) (by omega) hp_Kn))) (hp_La l0 (hp_Li (z := (0 + (1 * p + 0))) l1 rfl (by omega) (hp_Li (z := (0 + (1 * s + 0))) l2 rfl (by omega) (hp_Li (z := (0 + (1 * y + 0))) l3 rfl (by omega) (hp_Li (z := (0 + (1 * d + 0))) l4 rfl (by omega) hp_Ln))))) (hp_Sj (z := (0 + (1 * vv + 0))) rfl (by omega) (hp_Sa trivial)) ?_ ?_
  · intro p hp ys l' st' h' hys a1 a2 a3 gZ gL gS
    rcases List.mem_cons.mp hp with rfl | hp
    · obtain rfl := hp_y0 hys
      obtain ⟨y0, t0, rfl, q0, g0⟩ := hp_gSi (z := (0 + 0)) gS rfl
      obtain ⟨y1, t1, rfl, q1, g1⟩ := hp_gSi (z := (0 + (1 * d + 0))) g0 rfl
      obtain ⟨y2, t2, rfl, q2, g2⟩ := hp_gSi (z := (0 + (1 * y + 0))) g1 rfl
      obtain ⟨y3, t3, rfl, q3, g3⟩ := hp_gSi (z := (0 + (1 * s + 0))) g2 rfl
      obtain ⟨y4, t4, rfl, q4, g4⟩ := hp_gSi (z := ((-1) + 0)) g3 rfl
      obtain ⟨y5, t5, rfl, q5, g5⟩ := hp_gSi (z := (0 + (1 * p + 0))) g4 rfl
      obtain ⟨y6, t6, rfl, q6, g6⟩ := hp_gSi (z := (0 + 0)) g5 rfl
      obtain ⟨t7, rfl, g7⟩ := hp_gSa g6 (by decide)
      cases hp_gSn g7
      exact e0 l' h' y0 y1 y2 y3 y4 y5 y6 (by omega) (by omega) (by omega) (by omega) (by omega) (by omega) (by omega) a1 a2 a3 (hp_gLa gL (List.mem_of_getElem? (i := 0) rfl) (by decide))
    cases hp
  · intro p hp ys v h' hys a1 a2 a3 gZ gS
    cases hp
theorem xwcr_k : hp_chk 334 86 1 [(0, (-2147483648), 2147483647)] [] [(0, .inr (.inr (.inl (some 94))))] [.inl (0, [(0, 1)])] [] [] 2 [] [([], 1, [(0, (-2147483648), 2147483647)], [], [], [.inl (0, [(0, 1)])], [])] = true := by decide +kernel
theorem xwcr {cst : am_K} {strs : List Nat} {Φ : am_Q → Prop} {D : Nat} {M : am_M} {h : am_H} {l : am_L} (c : hp_C cst strs D) (hM : m_P[334]? = some M) (hD : (2 : Int) ≤ (D : Int) + 1) (hy : ly_hy m_tt ly_TH h) (a : Int) (x0 : Int32) (hx0 : x0.toInt = (a)) (b0 : (-2147483648) ≤ a) (t0 : a ≤ 2147483647) (l0 : hp_a l 0 94) (r0 : ∀ (h' : am_H) (y0 : Int32), y0.toInt = (a) → ly_hy m_tt ly_TH h' → ly_fr cst [] h h' → h.length ≤ h'.length → Φ (some (.int y0), h', 0, 0)) : hp_F cst strs Φ D M 86 l [.int x0] h := by
  refine hp_arc c hM xwcr_k hD [a] rfl hy (hp_Bc (z := a) rfl b0 t0 hp_Bn) hp_Fn hp_Kn (hp_La l0 hp_Ln) (hp_Si (z := (0 + (1 * a + 0))) rfl (by omega) trivial) ?_ ?_
  · intro p hp ys l' st' h' hys a1 a2 a3 gZ gL gS
    cases hp
  · intro p hp ys v h' hys a1 a2 a3 gZ gS
    rcases List.mem_cons.mp hp with rfl | hp
    · obtain rfl := hp_y0 hys
      cases v with
      | none => cases gS
      | some w =>
        obtain ⟨y0, t0, s0, q0, -⟩ := hp_gSi (z := (0 + (1 * a + 0))) gS rfl
        cases s0
        exact r0 h' y0 (by omega) a1 a2 a3
    cases hp
theorem cwp0_k : hp_chk 137 0 6 [(0, (-2147483648), 2147483647), (1, (-2147483648), 2147483647), (2, (-2147483648), 2147483647), (3, (-2147483648), 2147483647), (4, (-2147483648), 2147483647), (5, (-2147483648), 2147483647)] [] [(0, .inr (.inr (.inl (some 16)))), (1, .inl (0, [(0, 1)])), (2, .inl (0, [(1, 1)])), (3, .inl (0, [(2, 1)])), (4, .inl (0, [(3, 1)])), (5, .inl (0, [(4, 1)])), (6, .inl (0, [(5, 1)]))] [] [] [] 2 [(4, ([], 6, [(0, (-2147483648), 2147483647), (1, (-2147483648), 2147483647), (2, (-2147483648), 2147483647), (3, (-2147483648), 2147483647), (4, (-2147483648), 2147483647), (5, (-2147483648), 2147483647)], [], [(0, .inr (.inr (.inl (some 16)))), (1, .inl (0, [(0, 1)])), (2, .inl (0, [(1, 1)])), (3, .inl (0, [(2, 1)])), (4, .inl (0, [(3, 1)])), (5, .inl (0, [(4, 1)])), (6, .inl (0, [(5, 1)]))], [.inr (.inr (.inl (some 17)))], []))] [] = true := by decide +kernel
theorem cwp0 {cst : am_K} {strs : List Nat} {Φ : am_Q → Prop} {D : Nat} {M : am_M} {h : am_H} {l : am_L} (c : hp_C cst strs D) (hM : m_P[137]? = some M) (hD : (2 : Int) ≤ (D : Int) + 1) (hy : ly_hy m_tt ly_TH h) (p q s y d w : Int) (b0 : (-2147483648) ≤ p) (t0 : p ≤ 2147483647) (b1 : (-2147483648) ≤ q) (t1 : q ≤ 2147483647) (b2 : (-2147483648) ≤ s) (t2 : s ≤ 2147483647) (b3 : (-2147483648) ≤ y) (t3 : y ≤ 2147483647) (b4 : (-2147483648) ≤ d) (t4 : d ≤ 2147483647) (b5 : (-2147483648) ≤ w) (t5 : w ≤ 2147483647) (l0 : hp_a l 0 16) (l1 : hp_i l 1 (p)) (l2 : hp_i l 2 (q)) (l3 : hp_i l 3 (s)) (l4 : hp_i l 4 (y)) (l5 : hp_i l 5 (d)) (l6 : hp_i l 6 (w)) (e0 : ∀ (l' : am_L) (h' : am_H), ly_hy m_tt ly_TH h' → ly_fr cst [] h h' → h.length ≤ h'.length → hp_a l' 0 16 → hp_i l' 1 (p) → hp_i l' 2 (q) → hp_i l' 3 (s) → hp_i l' 4 (y) → hp_i l' 5 (d) → hp_i l' 6 (w) → hp_F cst strs Φ D M 4 l' [.ref 17] h') : hp_F cst strs Φ D M 0 l [] h := by
  refine hp_arc c hM cwp0_k hD [p, q, s, y, d, w] rfl hy (hp_Bc (z := p) rfl b0 t0 (hp_Bc (z := q) rfl b1 t1 (hp_Bc (z := s) rfl b2 t2 (hp_Bc (z := y) rfl b3 t3 (hp_Bc (z := d) rfl b4 t4 (hp_Bc (z := w) rfl b5 t5 hp_Bn)))))) hp_Fn hp_Kn (hp_La l0 (hp_Li (z := (0 + (1 * p + 0))) l1 rfl (by omega) (hp_Li (z := (0 + (1 * q + 0))) l2 rfl (by omega) (hp_Li (z := (0 + (1 * s + 0))) l3 rfl (by omega) (hp_Li (z := (0 + (1 * y + 0))) l4 rfl (by omega) (hp_Li (z := (0 + (1 * d + 0))) l5 rfl (by omega) (hp_Li (z := (0 + (1 * w + 0))) l6 rfl (by omega) hp_Ln))))))) trivial ?_ ?_
  · intro p hp ys l' st' h' hys a1 a2 a3 gZ gL gS
    rcases List.mem_cons.mp hp with rfl | hp
    · obtain rfl := hp_y0 hys
      obtain ⟨t0, rfl, g0⟩ := hp_gSa gS (by decide)
      cases hp_gSn g0
      exact e0 l' h' a1 a2 a3 (hp_gLa gL (List.mem_of_getElem? (i := 0) rfl) (by decide)) (hp_gLi (z := (0 + (1 * p + 0))) gL (List.mem_of_getElem? (i := 1) rfl) rfl (by omega)) (hp_gLi (z := (0 + (1 * q + 0))) gL (List.mem_of_getElem? (i := 2) rfl) rfl (by omega)) (hp_gLi (z := (0 + (1 * s + 0))) gL (List.mem_of_getElem? (i := 3) rfl) rfl (by omega)) (hp_gLi (z := (0 + (1 * y + 0))) gL (List.mem_of_getElem? (i := 4) rfl) rfl (by omega)) (hp_gLi (z := (0 + (1 * d + 0))) gL (List.mem_of_getElem? (i := 5) rfl) rfl (by omega)) (hp_gLi (z := (0 + (1 * w + 0))) gL (List.mem_of_getElem? (i := 6) rfl) rfl (by omega))
    cases hp
  · intro p hp ys v h' hys a1 a2 a3 gZ gS
    cases hp
theorem xwp0_k : hp_chk 336 0 6 [(0, (-2147483648), 2147483647), (1, (-2147483648), 2147483647), (2, (-2147483648), 2147483647), (3, (-2147483648), 2147483647), (4, (-2147483648), 2147483647), (5, (-2147483648), 2147483647)] [] [(0, .inr (.inr (.inl (some 94)))), (1, .inl (0, [(0, 1)])), (2, .inl (0, [(1, 1)])), (3, .inl (0, [(2, 1)])), (4, .inl (0, [(3, 1)])), (5, .inl (0, [(4, 1)])), (6, .inl (0, [(5, 1)]))] [] [] [] 2 [(2, ([], 6, [(0, (-2147483648), 2147483647), (1, (-2147483648), 2147483647), (2, (-2147483648), 2147483647), (3, (-2147483648), 2147483647), (4, (-2147483648), 2147483647), (5, (-2147483648), 2147483647)], [], [(0, .inr (.inr (.inl (some 94)))), (1, .inl (0, [(0, 1)])), (2, .inl (0, [(1, 1)])), (3, .inl (0, [(2, 1)])), (4, .inl (0, [(3, 1)])), (5, .inl (0, [(4, 1)])), (6, .inl (0, [(5, 1)]))], [.inr (.inr (.inl (some 94))), .inr (.inr (.inl (some 94)))], []))] [] = true := by decide +kernel
theorem xwp0 {cst : am_K} {strs : List Nat} {Φ : am_Q → Prop} {D : Nat} {M : am_M} {h : am_H} {l : am_L} (c : hp_C cst strs D) (hM : m_P[336]? = some M) (hD : (2 : Int) ≤ (D : Int) + 1) (hy : ly_hy m_tt ly_TH h) (p q s y d w : Int) (b0 : (-2147483648) ≤ p) (t0 : p ≤ 2147483647) (b1 : (-2147483648) ≤ q) (t1 : q ≤ 2147483647) (b2 : (-2147483648) ≤ s) (t2 : s ≤ 2147483647) (b3 : (-2147483648) ≤ y) (t3 : y ≤ 2147483647) (b4 : (-2147483648) ≤ d) (t4 : d ≤ 2147483647) (b5 : (-2147483648) ≤ w) (t5 : w ≤ 2147483647) (l0 : hp_a l 0 94) (l1 : hp_i l 1 (p)) (l2 : hp_i l 2 (q)) (l3 : hp_i l 3 (s)) (l4 : hp_i l 4 (y)) (l5 : hp_i l 5 (d)) (l6 : hp_i l 6 (w)) (e0 : ∀ (l' : am_L) (h' : am_H), ly_hy m_tt ly_TH h' → ly_fr cst [] h h' → h.length ≤ h'.length → hp_a l' 0 94 → hp_i l' 1 (p) → hp_i l' 2 (q) → hp_i l' 3 (s) → hp_i l' 4 (y) → hp_i l' 5 (d) → hp_i l' 6 (w) → hp_F cst strs Φ D M 2 l' [.ref 94, .ref 94] h') : hp_F cst strs Φ D M 0 l [] h := by
  refine hp_arc c hM xwp0_k hD [p, q, s, y, d, w] rfl hy (hp_Bc (z := p) rfl b0 t0 (hp_Bc (z := q) rfl b1 t1 (hp_Bc (z := s) rfl b2 t2 (hp_Bc (z := y) rfl b3 t3 (hp_Bc (z := d) rfl b4 t4 (hp_Bc (z := w) rfl b5 t5 hp_Bn)))))) hp_Fn hp_Kn (hp_La l0 (hp_Li (z := (0 + (1 * p + 0))) l1 rfl (by omega) (hp_Li (z := (0 + (1 * q + 0))) l2 rfl (by omega) (hp_Li (z := (0 + (1 * s + 0))) l3 rfl (by omega) (hp_Li (z := (0 + (1 * y + 0))) l4 rfl (by omega) (hp_Li (z := (0 + (1 * d + 0))) l5 rfl (by omega) (hp_Li (z := (0 + (1 * w + 0))) l6 rfl (by omega) hp_Ln))))))) trivial ?_ ?_
  · intro p hp ys l' st' h' hys a1 a2 a3 gZ gL gS
    rcases List.mem_cons.mp hp with rfl | hp
    · obtain rfl := hp_y0 hys
      obtain ⟨t0, rfl, g0⟩ := hp_gSa gS (by decide)
      obtain ⟨t1, rfl, g1⟩ := hp_gSa g0 (by decide)
      cases hp_gSn g1
      exact e0 l' h' a1 a2 a3 (hp_gLa gL (List.mem_of_getElem? (i := 0) rfl) (by decide)) (hp_gLi (z := (0 + (1 * p + 0))) gL (List.mem_of_getElem? (i := 1) rfl) rfl (by omega)) (hp_gLi (z := (0 + (1 * q + 0))) gL (List.mem_of_getElem? (i := 2) rfl) rfl (by omega)) (hp_gLi (z := (0 + (1 * s + 0))) gL (List.mem_of_getElem? (i := 3) rfl) rfl (by omega)) (hp_gLi (z := (0 + (1 * y + 0))) gL (List.mem_of_getElem? (i := 4) rfl) rfl (by omega)) (hp_gLi (z := (0 + (1 * d + 0))) gL (List.mem_of_getElem? (i := 5) rfl) rfl (by omega)) (hp_gLi (z := (0 + (1 * w + 0))) gL (List.mem_of_getElem? (i := 6) rfl) rfl (by omega))
    cases hp
  · intro p hp ys v h' hys a1 a2 a3 gZ gS
    cases hp
theorem cwpg0_k : hp_chk 137 7 8 [(0, (-2147483648), (-1)), (1, (-2147483648), 2147483647), (2, (-2147483648), 2147483647), (3, (-2147483648), 2147483647), (4, (-2147483648), 2147483647), (5, (-2147483648), 2147483647), (6, 0, 120), (7, 0, 399)] [] [(0, .inr (.inr (.inl (some 16)))), (1, .inl (0, [(0, 1)])), (2, .inl (0, [(1, 1)])), (3, .inl (0, [(2, 1)])), (4, .inl (0, [(3, 1)])), (5, .inl (0, [(4, 1)])), (6, .inl (0, [(5, 1)]))] [] [(1536, (0, []), (0, [(6, 1)])), (10, (0, []), (0, [(7, 1)]))] [] 6 [] [([], 8, [(0, (-2147483648), (-1)), (1, (-2147483648), 2147483647), (2, (-2147483648), 2147483647), (3, (-2147483648), 2147483647), (4, (-2147483648), 2147483647), (5, (-2147483648), 2147483647), (6, 0, 120), (7, 0, 399)], [], [], [.inl ((-2), [])], [])] = true := by decide +kernel
theorem cwpg0 {cst : am_K} {strs : List Nat} {Φ : am_Q → Prop} {D : Nat} {M : am_M} {h : am_H} {l : am_L} (c : hp_C cst strs D) (hM : m_P[137]? = some M) (hD : (6 : Int) ≤ (D : Int) + 1) (hy : ly_hy m_tt ly_TH h) (p q s y d w u g : Int) (b0 : (-2147483648) ≤ p) (t0 : p ≤ (-1)) (b1 : (-2147483648) ≤ q) (t1 : q ≤ 2147483647) (b2 : (-2147483648) ≤ s) (t2 : s ≤ 2147483647) (b3 : (-2147483648) ≤ y) (t3 : y ≤ 2147483647) (b4 : (-2147483648) ≤ d) (t4 : d ≤ 2147483647) (b5 : (-2147483648) ≤ w) (t5 : w ≤ 2147483647) (b6 : 0 ≤ u) (t6 : u ≤ 120) (b7 : 0 ≤ g) (t7 : g ≤ 399) (k0 : ly_hv cst h 1536 0 = some (u)) (k1 : ly_hv cst h 10 0 = some (g)) (l0 : hp_a l 0 16) (l1 : hp_i l 1 (p)) (l2 : hp_i l 2 (q)) (l3 : hp_i l 3 (s)) (l4 : hp_i l 4 (y)) (l5 : hp_i l 5 (d)) (l6 : hp_i l 6 (w)) (r0 : ∀ (h' : am_H) (y0 : Int32), y0.toInt = (-2) → ly_hy m_tt ly_TH h' → ly_fr cst [] h h' → h.length ≤ h'.length → Φ (some (.int y0), h', 0, 0)) : hp_F cst strs Φ D M 7 l [] h := by
  refine hp_arc c hM cwpg0_k hD [p, q, s, y, d, w, u, g] rfl hy (hp_Bc (z := p) rfl b0 t0 (hp_Bc (z := q) rfl b1 t1 (hp_Bc (z := s) rfl b2 t2 (hp_Bc (z := y) rfl b3 t3 (hp_Bc (z := d) rfl b4 t4 (hp_Bc (z := w) rfl b5 t5 (hp_Bc (z := u) rfl b6 t6 (hp_Bc (z := g) rfl b7 t7 hp_Bn)))))))) hp_Fn (hp_Kc (zi := (0 + 0)) (zv := (0 + (1 * u + 0))) k0 rfl rfl (by omega) (by omega) (hp_Kc (zi := (0 + 0)) (zv := (0 + (1 * g + 0))) k1 rfl rfl (by omega) (by omega) hp_Kn)) (hp_La l0 (hp_Li (z := (0 + (1 * p + 0))) l1 rfl (by omega) (hp_Li (z := (0 + (1 * q + 0))) l2 rfl (by omega) (hp_Li (z := (0 + (1 * s + 0))) l3 rfl (by omega) (hp_Li (z := (0 + (1 * y + 0))) l4 rfl (by omega) (hp_Li (z := (0 + (1 * d + 0))) l5 rfl (by omega) (hp_Li (z := (0 + (1 * w + 0))) l6 rfl (by omega) hp_Ln))))))) trivial ?_ ?_
  · intro p hp ys l' st' h' hys a1 a2 a3 gZ gL gS
    cases hp
  · intro p hp ys v h' hys a1 a2 a3 gZ gS
    rcases List.mem_cons.mp hp with rfl | hp
    · obtain rfl := hp_y0 hys
      cases v with
      | none => cases gS
      | some w =>
        obtain ⟨y0, t0, s0, q0, -⟩ := hp_gSi (z := ((-2) + 0)) gS rfl
        cases s0
        exact r0 h' y0 (by omega) a1 a2 a3
    cases hp
theorem xwpg0_k : hp_chk 336 5 9 [(0, (-2147483648), (-1)), (1, (-2147483648), 2147483647), (2, (-2147483648), 2147483647), (3, (-2147483648), 2147483647), (4, (-2147483648), 2147483647), (5, (-2147483648), 2147483647), (6, 0, 120), (7, 0, 399), (8, 0, 1152921504606846976)] [] [(0, .inr (.inr (.inl (some 94)))), (1, .inl (0, [(0, 1)])), (2, .inl (0, [(1, 1)])), (3, .inl (0, [(2, 1)])), (4, .inl (0, [(3, 1)])), (5, .inl (0, [(4, 1)])), (6, .inl (0, [(5, 1)]))] [.inr (.inl (0, [(8, 1)])), .inr (.inr (.inl (some 94)))] [(19978, (0, []), (0, [(6, 1)])), (19977, (0, []), (0, [(7, 1)]))] [20017] 6 [] [([], 9, [(0, (-2147483648), (-1)), (1, (-2147483648), 2147483647), (2, (-2147483648), 2147483647), (3, (-2147483648), 2147483647), (4, (-2147483648), 2147483647), (5, (-2147483648), 2147483647), (6, 0, 120), (7, 0, 399), (8, 0, 1152921504606846976)], [], [], [.inl ((-2), [])], [])] = true := by decide +kernel
theorem xwpg0 {cst : am_K} {strs : List Nat} {Φ : am_Q → Prop} {D : Nat} {M : am_M} {h : am_H} {l : am_L} (c : hp_C cst strs D) (hM : m_P[336]? = some M) (hD : (6 : Int) ≤ (D : Int) + 1) (hy : ly_hy m_tt ly_TH h) (p q s y d w u g vv : Int) (x0 : Int64) (hx0 : x0.toInt = (vv)) (b0 : (-2147483648) ≤ p) (t0 : p ≤ (-1)) (b1 : (-2147483648) ≤ q) (t1 : q ≤ 2147483647) (b2 : (-2147483648) ≤ s) (t2 : s ≤ 2147483647) (b3 : (-2147483648) ≤ y) (t3 : y ≤ 2147483647) (b4 : (-2147483648) ≤ d) (t4 : d ≤ 2147483647) (b5 : (-2147483648) ≤ w) (t5 : w ≤ 2147483647) (b6 : 0 ≤ u) (t6 : u ≤ 120) (b7 : 0 ≤ g) (t7 : g ≤ 399) (b8 : 0 ≤ vv) (t8 : vv ≤ 1152921504606846976) (k0 : ly_hv cst h 19978 0 = some (u)) (k1 : ly_hv cst h 19977 0 = some (g)) (l0 : hp_a l 0 94) (l1 : hp_i l 1 (p)) (l2 : hp_i l 2 (q)) (l3 : hp_i l 3 (s)) (l4 : hp_i l 4 (y)) (l5 : hp_i l 5 (d)) (l6 : hp_i l 6 (w)) (r0 : ∀ (h' : am_H) (y0 : Int32), y0.toInt = (-2) → ly_hy m_tt ly_TH h' → ly_fr cst [20017] h h' → h.length ≤ h'.length → Φ (some (.int y0), h', 0, 0)) : hp_F cst strs Φ D M 5 l [.long x0, .ref 94] h := by
  refine hp_arc c hM xwpg0_k hD [p, q, s, y, d, w, u, g, vv] rfl hy (hp_Bc (z := p) rfl b0 t0 (hp_Bc (z := q) rfl b1 t1 (hp_Bc (z := s) rfl b2 t2 (hp_Bc (z := y) rfl b3 t3 (hp_Bc (z := d) rfl b4 t4 (hp_Bc (z := w) rfl b5 t5 (hp_Bc (z := u) rfl b6 t6 (hp_Bc (z := g) rfl b7 t7 (hp_Bc (z := vv) rfl b8 t8 hp_Bn))))))))) hp_Fn (hp_Kc (zi := (0 + 0)) (zv := (0 + (1 * u + 0))) k0 rfl rfl (by omega) (by omega) (hp_Kc (zi := (0 + 0)) (zv := (0 + (1 * g + 0))) k1 rfl rfl (by omega) (by omega) hp_Kn)) (hp_La l0 (hp_Li (z := (0 + (1 * p + 0))) l1 rfl (by omega) (hp_Li (z := (0 + (1 * q + 0))) l2 rfl (by omega) (hp_Li (z := (0 + (1 * s + 0))) l3 rfl (by omega) (hp_Li (z := (0 + (1 * y + 0))) l4 rfl (by omega) (hp_Li (z := (0 + (1 * d + 0))) l5 rfl (by omega) (hp_Li (z := (0 + (1 * w + 0))) l6 rfl (by omega) hp_Ln))))))) (hp_Sj (z := (0 + (1 * vv + 0))) rfl (by omega) (hp_Sa trivial)) ?_ ?_
  · intro p hp ys l' st' h' hys a1 a2 a3 gZ gL gS
    cases hp
  · intro p hp ys v h' hys a1 a2 a3 gZ gS
    rcases List.mem_cons.mp hp with rfl | hp
    · obtain rfl := hp_y0 hys
      cases v with
      | none => cases gS
      | some w =>
        obtain ⟨y0, t0, s0, q0, -⟩ := hp_gSi (z := ((-2) + 0)) gS rfl
        cases s0
        exact r0 h' y0 (by omega) a1 a2 a3
    cases hp
theorem cwpg1_k : hp_chk 137 7 8 [(0, 0, 2147483647), (1, (-2147483648), 2147483647), (2, (-2147483648), 2147483647), (3, (-2147483648), 2147483647), (4, (-2147483648), 2147483647), (5, (-2147483648), 2147483647), (6, 0, 120), (7, 0, 399)] [(0, [(0, 1), (6, (-1))])] [(0, .inr (.inr (.inl (some 16)))), (1, .inl (0, [(0, 1)])), (2, .inl (0, [(1, 1)])), (3, .inl (0, [(2, 1)])), (4, .inl (0, [(3, 1)])), (5, .inl (0, [(4, 1)])), (6, .inl (0, [(5, 1)]))] [] [(1536, (0, []), (0, [(6, 1)])), (10, (0, []), (0, [(7, 1)]))] [] 6 [] [([], 8, [(0, 0, 2147483647), (1, (-2147483648), 2147483647), (2, (-2147483648), 2147483647), (3, (-2147483648), 2147483647), (4, (-2147483648), 2147483647), (5, (-2147483648), 2147483647), (6, 0, 120), (7, 0, 399)], [], [], [.inl ((-2), [])], [])] = true := by decide +kernel
theorem cwpg1 {cst : am_K} {strs : List Nat} {Φ : am_Q → Prop} {D : Nat} {M : am_M} {h : am_H} {l : am_L} (c : hp_C cst strs D) (hM : m_P[137]? = some M) (hD : (6 : Int) ≤ (D : Int) + 1) (hy : ly_hy m_tt ly_TH h) (p q s y d w u g : Int) (b0 : 0 ≤ p) (t0 : p ≤ 2147483647) (b1 : (-2147483648) ≤ q) (t1 : q ≤ 2147483647) (b2 : (-2147483648) ≤ s) (t2 : s ≤ 2147483647) (b3 : (-2147483648) ≤ y) (t3 : y ≤ 2147483647) (b4 : (-2147483648) ≤ d) (t4 : d ≤ 2147483647) (b5 : (-2147483648) ≤ w) (t5 : w ≤ 2147483647) (b6 : 0 ≤ u) (t6 : u ≤ 120) (b7 : 0 ≤ g) (t7 : g ≤ 399) (f0 : 0 ≤ (p - u)) (k0 : ly_hv cst h 1536 0 = some (u)) (k1 : ly_hv cst h 10 0 = some (g)) (l0 : hp_a l 0 16) (l1 : hp_i l 1 (p)) (l2 : hp_i l 2 (q)) (l3 : hp_i l 3 (s)) (l4 : hp_i l 4 (y)) (l5 : hp_i l 5 (d)) (l6 : hp_i l 6 (w)) (r0 : ∀ (h' : am_H) (y0 : Int32), y0.toInt = (-2) → ly_hy m_tt ly_TH h' → ly_fr cst [] h h' → h.length ≤ h'.length → Φ (some (.int y0), h', 0, 0)) : hp_F cst strs Φ D M 7 l [] h := by
  refine hp_arc c hM cwpg1_k hD [p, q, s, y, d, w, u, g] rfl hy (hp_Bc (z := p) rfl b0 t0 (hp_Bc (z := q) rfl b1 t1 (hp_Bc (z := s) rfl b2 t2 (hp_Bc (z := y) rfl b3 t3 (hp_Bc (z := d) rfl b4 t4 (hp_Bc (z := w) rfl b5 t5 (hp_Bc (z := u) rfl b6 t6 (hp_Bc (z := g) rfl b7 t7 hp_Bn)))))))) (hp_Fc (z := (0 + (1 * p + ((-1) * u + 0)))) rfl (by omega) hp_Fn) (hp_Kc (zi := (0 + 0)) (zv := (0 + (1 * u + 0))) k0 rfl rfl (by omega) (by omega) (hp_Kc (zi := (0 + 0)) (zv := (0 + (1 * g + 0))) k1 rfl rfl (by omega) (by omega) hp_Kn)) (hp_La l0 (hp_Li (z := (0 + (1 * p + 0))) l1 rfl (by omega) (hp_Li (z := (0 + (1 * q + 0))) l2 rfl (by omega) (hp_Li (z := (0 + (1 * s + 0))) l3 rfl (by omega) (hp_Li (z := (0 + (1 * y + 0))) l4 rfl (by omega) (hp_Li (z := (0 + (1 * d + 0))) l5 rfl (by omega) (hp_Li (z := (0 + (1 * w + 0))) l6 rfl (by omega) hp_Ln))))))) trivial ?_ ?_
  · intro p hp ys l' st' h' hys a1 a2 a3 gZ gL gS
    cases hp
  · intro p hp ys v h' hys a1 a2 a3 gZ gS
    rcases List.mem_cons.mp hp with rfl | hp
    · obtain rfl := hp_y0 hys
      cases v with
      | none => cases gS
      | some w =>
        obtain ⟨y0, t0, s0, q0, -⟩ := hp_gSi (z := ((-2) + 0)) gS rfl
        cases s0
        exact r0 h' y0 (by omega) a1 a2 a3
    cases hp
theorem xwpg1_k : hp_chk 336 5 9 [(0, 0, 2147483647), (1, (-2147483648), 2147483647), (2, (-2147483648), 2147483647), (3, (-2147483648), 2147483647), (4, (-2147483648), 2147483647), (5, (-2147483648), 2147483647), (6, 0, 120), (7, 0, 399), (8, 0, 1152921504606846976)] [(0, [(0, 1), (6, (-1))])] [(0, .inr (.inr (.inl (some 94)))), (1, .inl (0, [(0, 1)])), (2, .inl (0, [(1, 1)])), (3, .inl (0, [(2, 1)])), (4, .inl (0, [(3, 1)])), (5, .inl (0, [(4, 1)])), (6, .inl (0, [(5, 1)]))] [.inr (.inl (0, [(8, 1)])), .inr (.inr (.inl (some 94)))] [(19978, (0, []), (0, [(6, 1)])), (19977, (0, []), (0, [(7, 1)]))] [20017] 6 [] [([], 9, [(0, 0, 2147483647), (1, (-2147483648), 2147483647), (2, (-2147483648), 2147483647), (3, (-2147483648), 2147483647), (4, (-2147483648), 2147483647), (5, (-2147483648), 2147483647), (6, 0, 120), (7, 0, 399), (8, 0, 1152921504606846976)], [], [], [.inl ((-2), [])], [])] = true := by decide +kernel
theorem xwpg1 {cst : am_K} {strs : List Nat} {Φ : am_Q → Prop} {D : Nat} {M : am_M} {h : am_H} {l : am_L} (c : hp_C cst strs D) (hM : m_P[336]? = some M) (hD : (6 : Int) ≤ (D : Int) + 1) (hy : ly_hy m_tt ly_TH h) (p q s y d w u g vv : Int) (x0 : Int64) (hx0 : x0.toInt = (vv)) (b0 : 0 ≤ p) (t0 : p ≤ 2147483647) (b1 : (-2147483648) ≤ q) (t1 : q ≤ 2147483647) (b2 : (-2147483648) ≤ s) (t2 : s ≤ 2147483647) (b3 : (-2147483648) ≤ y) (t3 : y ≤ 2147483647) (b4 : (-2147483648) ≤ d) (t4 : d ≤ 2147483647) (b5 : (-2147483648) ≤ w) (t5 : w ≤ 2147483647) (b6 : 0 ≤ u) (t6 : u ≤ 120) (b7 : 0 ≤ g) (t7 : g ≤ 399) (b8 : 0 ≤ vv) (t8 : vv ≤ 1152921504606846976) (f0 : 0 ≤ (p - u)) (k0 : ly_hv cst h 19978 0 = some (u)) (k1 : ly_hv cst h 19977 0 = some (g)) (l0 : hp_a l 0 94) (l1 : hp_i l 1 (p)) (l2 : hp_i l 2 (q)) (l3 : hp_i l 3 (s)) (l4 : hp_i l 4 (y)) (l5 : hp_i l 5 (d)) (l6 : hp_i l 6 (w)) (r0 : ∀ (h' : am_H) (y0 : Int32), y0.toInt = (-2) → ly_hy m_tt ly_TH h' → ly_fr cst [20017] h h' → h.length ≤ h'.length → Φ (some (.int y0), h', 0, 0)) : hp_F cst strs Φ D M 5 l [.long x0, .ref 94] h := by
  refine hp_arc c hM xwpg1_k hD [p, q, s, y, d, w, u, g, vv] rfl hy (hp_Bc (z := p) rfl b0 t0 (hp_Bc (z := q) rfl b1 t1 (hp_Bc (z := s) rfl b2 t2 (hp_Bc (z := y) rfl b3 t3 (hp_Bc (z := d) rfl b4 t4 (hp_Bc (z := w) rfl b5 t5 (hp_Bc (z := u) rfl b6 t6 (hp_Bc (z := g) rfl b7 t7 (hp_Bc (z := vv) rfl b8 t8 hp_Bn))))))))) (hp_Fc (z := (0 + (1 * p + ((-1) * u + 0)))) rfl (by omega) hp_Fn) (hp_Kc (zi := (0 + 0)) (zv := (0 + (1 * u + 0))) k0 rfl rfl (by omega) (by omega) (hp_Kc (zi := (0 + 0)) (zv := (0 + (1 * g + 0))) k1 rfl rfl (by omega) (by omega) hp_Kn)) (hp_La l0 (hp_Li (z := (0 + (1 * p + 0))) l1 rfl (by omega) (hp_Li (z := (0 + (1 * q + 0))) l2 rfl (by omega) (hp_Li (z := (0 + (1 * s + 0))) l3 rfl (by omega) (hp_Li (z := (0 + (1 * y + 0))) l4 rfl (by omega) (hp_Li (z := (0 + (1 * d + 0))) l5 rfl (by omega) (hp_Li (z := (0 + (1 * w + 0))) l6 rfl (by omega) hp_Ln))))))) (hp_Sj (z := (0 + (1 * vv + 0))) rfl (by omega) (hp_Sa trivial)) ?_ ?_
  · intro p hp ys l' st' h' hys a1 a2 a3 gZ gL gS
    cases hp
  · intro p hp ys v h' hys a1 a2 a3 gZ gS
    rcases List.mem_cons.mp hp with rfl | hp
    · obtain rfl := hp_y0 hys
      cases v with
      | none => cases gS
      | some w =>
        obtain ⟨y0, t0, s0, q0, -⟩ := hp_gSi (z := ((-2) + 0)) gS rfl
        cases s0
        exact r0 h' y0 (by omega) a1 a2 a3
    cases hp
theorem cwpg2_k : hp_chk 137 7 8 [(0, 0, 119), (1, (-2147483648), (-1)), (2, (-2147483648), 2147483647), (3, (-2147483648), 2147483647), (4, (-2147483648), 2147483647), (5, (-2147483648), 2147483647), (6, 0, 120), (7, 0, 399)] [((-1), [(0, (-1)), (6, 1)])] [(0, .inr (.inr (.inl (some 16)))), (1, .inl (0, [(0, 1)])), (2, .inl (0, [(1, 1)])), (3, .inl (0, [(2, 1)])), (4, .inl (0, [(3, 1)])), (5, .inl (0, [(4, 1)])), (6, .inl (0, [(5, 1)]))] [] [(1536, (0, []), (0, [(6, 1)])), (10, (0, []), (0, [(7, 1)]))] [] 6 [] [([], 8, [(0, 0, 119), (1, (-2147483648), (-1)), (2, (-2147483648), 2147483647), (3, (-2147483648), 2147483647), (4, (-2147483648), 2147483647), (5, (-2147483648), 2147483647), (6, 0, 120), (7, 0, 399)], [], [], [.inl ((-2), [])], [])] = true := by decide +kernel
theorem cwpg2 {cst : am_K} {strs : List Nat} {Φ : am_Q → Prop} {D : Nat} {M : am_M} {h : am_H} {l : am_L} (c : hp_C cst strs D) (hM : m_P[137]? = some M) (hD : (6 : Int) ≤ (D : Int) + 1) (hy : ly_hy m_tt ly_TH h) (p q s y d w u g : Int) (b0 : 0 ≤ p) (t0 : p ≤ 119) (b1 : (-2147483648) ≤ q) (t1 : q ≤ (-1)) (b2 : (-2147483648) ≤ s) (t2 : s ≤ 2147483647) (b3 : (-2147483648) ≤ y) (t3 : y ≤ 2147483647) (b4 : (-2147483648) ≤ d) (t4 : d ≤ 2147483647) (b5 : (-2147483648) ≤ w) (t5 : w ≤ 2147483647) (b6 : 0 ≤ u) (t6 : u ≤ 120) (b7 : 0 ≤ g) (t7 : g ≤ 399) (f0 : 0 ≤ (u - p - 1)) (k0 : ly_hv cst h 1536 0 = some (u)) (k1 : ly_hv cst h 10 0 = some (g)) (l0 : hp_a l 0 16) (l1 : hp_i l 1 (p)) (l2 : hp_i l 2 (q)) (l3 : hp_i l 3 (s)) (l4 : hp_i l 4 (y)) (l5 : hp_i l 5 (d)) (l6 : hp_i l 6 (w)) (r0 : ∀ (h' : am_H) (y0 : Int32), y0.toInt = (-2) → ly_hy m_tt ly_TH h' → ly_fr cst [] h h' → h.length ≤ h'.length → Φ (some (.int y0), h', 0, 0)) : hp_F cst strs Φ D M 7 l [] h := by
  refine hp_arc c hM cwpg2_k hD [p, q, s, y, d, w, u, g] rfl hy (hp_Bc (z := p) rfl b0 t0 (hp_Bc (z := q) rfl b1 t1 (hp_Bc (z := s) rfl b2 t2 (hp_Bc (z := y) rfl b3 t3 (hp_Bc (z := d) rfl b4 t4 (hp_Bc (z := w) rfl b5 t5 (hp_Bc (z := u) rfl b6 t6 (hp_Bc (z := g) rfl b7 t7 hp_Bn)))))))) (hp_Fc (z := ((-1) + ((-1) * p + (1 * u + 0)))) rfl (by omega) hp_Fn) (hp_Kc (zi := (0 + 0)) (zv := (0 + (1 * u + 0))) k0 rfl rfl (by omega) (by omega) (hp_Kc (zi := (0 + 0)) (zv := (0 + (1 * g + 0))) k1 rfl rfl (by omega) (by omega) hp_Kn)) (hp_La l0 (hp_Li (z := (0 + (1 * p + 0))) l1 rfl (by omega) (hp_Li (z := (0 + (1 * q + 0))) l2 rfl (by omega) (hp_Li (z := (0 + (1 * s + 0))) l3 rfl (by omega) (hp_Li (z := (0 + (1 * y + 0))) l4 rfl (by omega) (hp_Li (z := (0 + (1 * d + 0))) l5 rfl (by omega) (hp_Li (z := (0 + (1 * w + 0))) l6 rfl (by omega) hp_Ln))))))) trivial ?_ ?_
  · intro p hp ys l' st' h' hys a1 a2 a3 gZ gL gS
    cases hp
  · intro p hp ys v h' hys a1 a2 a3 gZ gS
    rcases List.mem_cons.mp hp with rfl | hp
    · obtain rfl := hp_y0 hys
      cases v with
      | none => cases gS
      | some w =>
        obtain ⟨y0, t0, s0, q0, -⟩ := hp_gSi (z := ((-2) + 0)) gS rfl
        cases s0
        exact r0 h' y0 (by omega) a1 a2 a3
    cases hp
theorem xwpg2_k : hp_chk 336 5 9 [(0, 0, 119), (1, (-2147483648), (-1)), (2, (-2147483648), 2147483647), (3, (-2147483648), 2147483647), (4, (-2147483648), 2147483647), (5, (-2147483648), 2147483647), (6, 0, 120), (7, 0, 399), (8, 0, 1152921504606846976)] [((-1), [(0, (-1)), (6, 1)])] [(0, .inr (.inr (.inl (some 94)))), (1, .inl (0, [(0, 1)])), (2, .inl (0, [(1, 1)])), (3, .inl (0, [(2, 1)])), (4, .inl (0, [(3, 1)])), (5, .inl (0, [(4, 1)])), (6, .inl (0, [(5, 1)]))] [.inr (.inl (0, [(8, 1)])), .inr (.inr (.inl (some 94)))] [(19978, (0, []), (0, [(6, 1)])), (19977, (0, []), (0, [(7, 1)]))] [20017] 6 [] [([], 9, [(0, 0, 119), (1, (-2147483648), (-1)), (2, (-2147483648), 2147483647), (3, (-2147483648), 2147483647), (4, (-2147483648), 2147483647), (5, (-2147483648), 2147483647), (6, 0, 120), (7, 0, 399), (8, 0, 1152921504606846976)], [], [], [.inl ((-2), [])], [])] = true := by decide +kernel
theorem xwpg2 {cst : am_K} {strs : List Nat} {Φ : am_Q → Prop} {D : Nat} {M : am_M} {h : am_H} {l : am_L} (c : hp_C cst strs D) (hM : m_P[336]? = some M) (hD : (6 : Int) ≤ (D : Int) + 1) (hy : ly_hy m_tt ly_TH h) (p q s y d w u g vv : Int) (x0 : Int64) (hx0 : x0.toInt = (vv)) (b0 : 0 ≤ p) (t0 : p ≤ 119) (b1 : (-2147483648) ≤ q) (t1 : q ≤ (-1)) (b2 : (-2147483648) ≤ s) (t2 : s ≤ 2147483647) (b3 : (-2147483648) ≤ y) (t3 : y ≤ 2147483647) (b4 : (-2147483648) ≤ d) (t4 : d ≤ 2147483647) (b5 : (-2147483648) ≤ w) (t5 : w ≤ 2147483647) (b6 : 0 ≤ u) (t6 : u ≤ 120) (b7 : 0 ≤ g) (t7 : g ≤ 399) (b8 : 0 ≤ vv) (t8 : vv ≤ 1152921504606846976) (f0 : 0 ≤ (u - p - 1)) (k0 : ly_hv cst h 19978 0 = some (u)) (k1 : ly_hv cst h 19977 0 = some (g)) (l0 : hp_a l 0 94) (l1 : hp_i l 1 (p)) (l2 : hp_i l 2 (q)) (l3 : hp_i l 3 (s)) (l4 : hp_i l 4 (y)) (l5 : hp_i l 5 (d)) (l6 : hp_i l 6 (w)) (r0 : ∀ (h' : am_H) (y0 : Int32), y0.toInt = (-2) → ly_hy m_tt ly_TH h' → ly_fr cst [20017] h h' → h.length ≤ h'.length → Φ (some (.int y0), h', 0, 0)) : hp_F cst strs Φ D M 5 l [.long x0, .ref 94] h := by
  refine hp_arc c hM xwpg2_k hD [p, q, s, y, d, w, u, g, vv] rfl hy (hp_Bc (z := p) rfl b0 t0 (hp_Bc (z := q) rfl b1 t1 (hp_Bc (z := s) rfl b2 t2 (hp_Bc (z := y) rfl b3 t3 (hp_Bc (z := d) rfl b4 t4 (hp_Bc (z := w) rfl b5 t5 (hp_Bc (z := u) rfl b6 t6 (hp_Bc (z := g) rfl b7 t7 (hp_Bc (z := vv) rfl b8 t8 hp_Bn))))))))) (hp_Fc (z := ((-1) + ((-1) * p + (1 * u + 0)))) rfl (by omega) hp_Fn) (hp_Kc (zi := (0 + 0)) (zv := (0 + (1 * u + 0))) k0 rfl rfl (by omega) (by omega) (hp_Kc (zi := (0 + 0)) (zv := (0 + (1 * g + 0))) k1 rfl rfl (by omega) (by omega) hp_Kn)) (hp_La l0 (hp_Li (z := (0 + (1 * p + 0))) l1 rfl (by omega) (hp_Li (z := (0 + (1 * q + 0))) l2 rfl (by omega) (hp_Li (z := (0 + (1 * s + 0))) l3 rfl (by omega) (hp_Li (z := (0 + (1 * y + 0))) l4 rfl (by omega) (hp_Li (z := (0 + (1 * d + 0))) l5 rfl (by omega) (hp_Li (z := (0 + (1 * w + 0))) l6 rfl (by omega) hp_Ln))))))) (hp_Sj (z := (0 + (1 * vv + 0))) rfl (by omega) (hp_Sa trivial)) ?_ ?_
  · intro p hp ys l' st' h' hys a1 a2 a3 gZ gL gS
    cases hp
  · intro p hp ys v h' hys a1 a2 a3 gZ gS
    rcases List.mem_cons.mp hp with rfl | hp
    · obtain rfl := hp_y0 hys
      cases v with
      | none => cases gS
      | some w =>
        obtain ⟨y0, t0, s0, q0, -⟩ := hp_gSi (z := ((-2) + 0)) gS rfl
        cases s0
        exact r0 h' y0 (by omega) a1 a2 a3
    cases hp
theorem cwpg3_k : hp_chk 137 7 8 [(0, 0, 119), (1, 0, 2147483647), (2, (-2147483648), 2147483647), (3, (-2147483648), 2147483647), (4, (-2147483648), 2147483647), (5, (-2147483648), 2147483647), (6, 0, 120), (7, 0, 399)] [((-1), [(0, (-1)), (6, 1)]), (0, [(1, 1), (6, (-1))])] [(0, .inr (.inr (.inl (some 16)))), (1, .inl (0, [(0, 1)])), (2, .inl (0, [(1, 1)])), (3, .inl (0, [(2, 1)])), (4, .inl (0, [(3, 1)])), (5, .inl (0, [(4, 1)])), (6, .inl (0, [(5, 1)]))] [] [(1536, (0, []), (0, [(6, 1)])), (10, (0, []), (0, [(7, 1)]))] [] 6 [] [([], 8, [(0, 0, 119), (1, 0, 2147483647), (2, (-2147483648), 2147483647), (3, (-2147483648), 2147483647), (4, (-2147483648), 2147483647), (5, (-2147483648), 2147483647), (6, 0, 120), (7, 0, 399)], [], [], [.inl ((-2), [])], [])] = true := by decide +kernel
theorem cwpg3 {cst : am_K} {strs : List Nat} {Φ : am_Q → Prop} {D : Nat} {M : am_M} {h : am_H} {l : am_L} (c : hp_C cst strs D) (hM : m_P[137]? = some M) (hD : (6 : Int) ≤ (D : Int) + 1) (hy : ly_hy m_tt ly_TH h) (p q s y d w u g : Int) (b0 : 0 ≤ p) (t0 : p ≤ 119) (b1 : 0 ≤ q) (t1 : q ≤ 2147483647) (b2 : (-2147483648) ≤ s) (t2 : s ≤ 2147483647) (b3 : (-2147483648) ≤ y) (t3 : y ≤ 2147483647) (b4 : (-2147483648) ≤ d) (t4 : d ≤ 2147483647) (b5 : (-2147483648) ≤ w) (t5 : w ≤ 2147483647) (b6 : 0 ≤ u) (t6 : u ≤ 120) (b7 : 0 ≤ g) (t7 : g ≤ 399) (f0 : 0 ≤ (u - p - 1)) (f1 : 0 ≤ (q - u)) (k0 : ly_hv cst h 1536 0 = some (u)) (k1 : ly_hv cst h 10 0 = some (g)) (l0 : hp_a l 0 16) (l1 : hp_i l 1 (p)) (l2 : hp_i l 2 (q)) (l3 : hp_i l 3 (s)) (l4 : hp_i l 4 (y)) (l5 : hp_i l 5 (d)) (l6 : hp_i l 6 (w)) (r0 : ∀ (h' : am_H) (y0 : Int32), y0.toInt = (-2) → ly_hy m_tt ly_TH h' → ly_fr cst [] h h' → h.length ≤ h'.length → Φ (some (.int y0), h', 0, 0)) : hp_F cst strs Φ D M 7 l [] h := by
  refine hp_arc c hM cwpg3_k hD [p, q, s, y, d, w, u, g] rfl hy (hp_Bc (z := p) rfl b0 t0 (hp_Bc (z := q) rfl b1 t1 (hp_Bc (z := s) rfl b2 t2 (hp_Bc (z := y) rfl b3 t3 (hp_Bc (z := d) rfl b4 t4 (hp_Bc (z := w) rfl b5 t5 (hp_Bc (z := u) rfl b6 t6 (hp_Bc (z := g) rfl b7 t7 hp_Bn)))))))) (hp_Fc (z := ((-1) + ((-1) * p + (1 * u + 0)))) rfl (by omega) (hp_Fc (z := (0 + (1 * q + ((-1) * u + 0)))) rfl (by omega) hp_Fn)) (hp_Kc (zi := (0 + 0)) (zv := (0 + (1 * u + 0))) k0 rfl rfl (by omega) (by omega) (hp_Kc (zi := (0 + 0)) (zv := (0 + (1 * g + 0))) k1 rfl rfl (by omega) (by omega) hp_Kn)) (hp_La l0 (hp_Li (z := (0 + (1 * p + 0))) l1 rfl (by omega) (hp_Li (z := (0 + (1 * q + 0))) l2 rfl (by omega) (hp_Li (z := (0 + (1 * s + 0))) l3 rfl (by omega) (hp_Li (z := (0 + (1 * y + 0))) l4 rfl (by omega) (hp_Li (z := (0 + (1 * d + 0))) l5 rfl (by omega) (hp_Li (z := (0 + (1 * w + 0))) l6 rfl (by omega) hp_Ln))))))) trivial ?_ ?_
  · intro p hp ys l' st' h' hys a1 a2 a3 gZ gL gS
    cases hp
  · intro p hp ys v h' hys a1 a2 a3 gZ gS
    rcases List.mem_cons.mp hp with rfl | hp
    · obtain rfl := hp_y0 hys
      cases v with
      | none => cases gS
      | some w =>
        obtain ⟨y0, t0, s0, q0, -⟩ := hp_gSi (z := ((-2) + 0)) gS rfl
        cases s0
        exact r0 h' y0 (by omega) a1 a2 a3
    cases hp
theorem xwpg3_k : hp_chk 336 5 9 [(0, 0, 119), (1, 0, 2147483647), (2, (-2147483648), 2147483647), (3, (-2147483648), 2147483647), (4, (-2147483648), 2147483647), (5, (-2147483648), 2147483647), (6, 0, 120), (7, 0, 399), (8, 0, 1152921504606846976)] [((-1), [(0, (-1)), (6, 1)]), (0, [(1, 1), (6, (-1))])] [(0, .inr (.inr (.inl (some 94)))), (1, .inl (0, [(0, 1)])), (2, .inl (0, [(1, 1)])), (3, .inl (0, [(2, 1)])), (4, .inl (0, [(3, 1)])), (5, .inl (0, [(4, 1)])), (6, .inl (0, [(5, 1)]))] [.inr (.inl (0, [(8, 1)])), .inr (.inr (.inl (some 94)))] [(19978, (0, []), (0, [(6, 1)])), (19977, (0, []), (0, [(7, 1)]))] [20017] 6 [] [([], 9, [(0, 0, 119), (1, 0, 2147483647), (2, (-2147483648), 2147483647), (3, (-2147483648), 2147483647), (4, (-2147483648), 2147483647), (5, (-2147483648), 2147483647), (6, 0, 120), (7, 0, 399), (8, 0, 1152921504606846976)], [], [], [.inl ((-2), [])], [])] = true := by decide +kernel
theorem xwpg3 {cst : am_K} {strs : List Nat} {Φ : am_Q → Prop} {D : Nat} {M : am_M} {h : am_H} {l : am_L} (c : hp_C cst strs D) (hM : m_P[336]? = some M) (hD : (6 : Int) ≤ (D : Int) + 1) (hy : ly_hy m_tt ly_TH h) (p q s y d w u g vv : Int) (x0 : Int64) (hx0 : x0.toInt = (vv)) (b0 : 0 ≤ p) (t0 : p ≤ 119) (b1 : 0 ≤ q) (t1 : q ≤ 2147483647) (b2 : (-2147483648) ≤ s) (t2 : s ≤ 2147483647) (b3 : (-2147483648) ≤ y) (t3 : y ≤ 2147483647) (b4 : (-2147483648) ≤ d) (t4 : d ≤ 2147483647) (b5 : (-2147483648) ≤ w) (t5 : w ≤ 2147483647) (b6 : 0 ≤ u) (t6 : u ≤ 120) (b7 : 0 ≤ g) (t7 : g ≤ 399) (b8 : 0 ≤ vv) (t8 : vv ≤ 1152921504606846976) (f0 : 0 ≤ (u - p - 1)) (f1 : 0 ≤ (q - u)) (k0 : ly_hv cst h 19978 0 = some (u)) (k1 : ly_hv cst h 19977 0 = some (g)) (l0 : hp_a l 0 94) (l1 : hp_i l 1 (p)) (l2 : hp_i l 2 (q)) (l3 : hp_i l 3 (s)) (l4 : hp_i l 4 (y)) (l5 : hp_i l 5 (d)) (l6 : hp_i l 6 (w)) (r0 : ∀ (h' : am_H) (y0 : Int32), y0.toInt = (-2) → ly_hy m_tt ly_TH h' → ly_fr cst [20017] h h' → h.length ≤ h'.length → Φ (some (.int y0), h', 0, 0)) : hp_F cst strs Φ D M 5 l [.long x0, .ref 94] h := by
  refine hp_arc c hM xwpg3_k hD [p, q, s, y, d, w, u, g, vv] rfl hy (hp_Bc (z := p) rfl b0 t0 (hp_Bc (z := q) rfl b1 t1 (hp_Bc (z := s) rfl b2 t2 (hp_Bc (z := y) rfl b3 t3 (hp_Bc (z := d) rfl b4 t4 (hp_Bc (z := w) rfl b5 t5 (hp_Bc (z := u) rfl b6 t6 (hp_Bc (z := g) rfl b7 t7 (hp_Bc (z := vv) rfl b8 t8 hp_Bn))))))))) (hp_Fc (z := ((-1) + ((-1) * p + (1 * u + 0)))) rfl (by omega) (hp_Fc (z := (0 + (1 * q + ((-1) * u + 0)))) rfl (by omega) hp_Fn)) (hp_Kc (zi := (0 + 0)) (zv := (0 + (1 * u + 0))) k0 rfl rfl (by omega) (by omega) (hp_Kc (zi := (0 + 0)) (zv := (0 + (1 * g + 0))) k1 rfl rfl (by omega) (by omega) hp_Kn)) (hp_La l0 (hp_Li (z := (0 + (1 * p + 0))) l1 rfl (by omega) (hp_Li (z := (0 + (1 * q + 0))) l2 rfl (by omega) (hp_Li (z := (0 + (1 * s + 0))) l3 rfl (by omega) (hp_Li (z := (0 + (1 * y + 0))) l4 rfl (by omega) (hp_Li (z := (0 + (1 * d + 0))) l5 rfl (by omega) (hp_Li (z := (0 + (1 * w + 0))) l6 rfl (by omega) hp_Ln))))))) (hp_Sj (z := (0 + (1 * vv + 0))) rfl (by omega) (hp_Sa trivial)) ?_ ?_
  · intro p hp ys l' st' h' hys a1 a2 a3 gZ gL gS
    cases hp
  · intro p hp ys v h' hys a1 a2 a3 gZ gS
    rcases List.mem_cons.mp hp with rfl | hp
    · obtain rfl := hp_y0 hys
      cases v with
      | none => cases gS
      | some w =>
        obtain ⟨y0, t0, s0, q0, -⟩ := hp_gSi (z := ((-2) + 0)) gS rfl
        cases s0
        exact r0 h' y0 (by omega) a1 a2 a3
    cases hp
theorem cwpg4_k : hp_chk 137 7 7 [(0, 0, 119), (1, (-2147483648), 2147483647), (2, (-2147483648), 2147483647), (3, (-2147483648), 2147483647), (4, (-2147483648), 2147483647), (5, 0, 120), (6, 0, 399)] [((-1), [(0, (-1)), (5, 1)])] [(0, .inr (.inr (.inl (some 16)))), (1, .inl (0, [(0, 1)])), (2, .inl (0, [(0, 1)])), (3, .inl (0, [(1, 1)])), (4, .inl (0, [(2, 1)])), (5, .inl (0, [(3, 1)])), (6, .inl (0, [(4, 1)]))] [] [(1536, (0, []), (0, [(5, 1)])), (10, (0, []), (0, [(6, 1)]))] [] 6 [] [([], 7, [(0, 0, 119), (1, (-2147483648), 2147483647), (2, (-2147483648), 2147483647), (3, (-2147483648), 2147483647), (4, (-2147483648), 2147483647), (5, 0, 120), (6, 0, 399)], [], [], [.inl ((-2), [])], [])] = true := by decide +kernel
theorem cwpg4 {cst : am_K} {strs : List Nat} {Φ : am_Q → Prop} {D : Nat} {M : am_M} {h : am_H} {l : am_L} (c : hp_C cst strs D) (hM : m_P[137]? = some M) (hD : (6 : Int) ≤ (D : Int) + 1) (hy : ly_hy m_tt ly_TH h) (p s y d w u g : Int) (b0 : 0 ≤ p) (t0 : p ≤ 119) (b1 : (-2147483648) ≤ s) (t1 : s ≤ 2147483647) (b2 : (-2147483648) ≤ y) (t2 : y ≤ 2147483647) (b3 : (-2147483648) ≤ d) (t3 : d ≤ 2147483647) (b4 : (-2147483648) ≤ w) (t4 : w ≤ 2147483647) (b5 : 0 ≤ u) (t5 : u ≤ 120) (b6 : 0 ≤ g) (t6 : g ≤ 399) (f0 : 0 ≤ (u - p - 1)) (k0 : ly_hv cst h 1536 0 = some (u)) (k1 : ly_hv cst h 10 0 = some (g)) (l0 : hp_a l 0 16) (l1 : hp_i l 1 (p)) (l2 : hp_i l 2 (p)) (l3 : hp_i l 3 (s)) (l4 : hp_i l 4 (y)) (l5 : hp_i l 5 (d)) (l6 : hp_i l 6 (w)) (r0 : ∀ (h' : am_H) (y0 : Int32), y0.toInt = (-2) → ly_hy m_tt ly_TH h' → ly_fr cst [] h h' → h.length ≤ h'.length → Φ (some (.int y0), h', 0, 0)) : hp_F cst strs Φ D M 7 l [] h := by
  refine hp_arc c hM cwpg4_k hD [p, s, y, d, w, u, g] rfl hy (hp_Bc (z := p) rfl b0 t0 (hp_Bc (z := s) rfl b1 t1 (hp_Bc (z := y) rfl b2 t2 (hp_Bc (z := d) rfl b3 t3 (hp_Bc (z := w) rfl b4 t4 (hp_Bc (z := u) rfl b5 t5 (hp_Bc (z := g) rfl b6 t6 hp_Bn))))))) (hp_Fc (z := ((-1) + ((-1) * p + (1 * u + 0)))) rfl (by omega) hp_Fn) (hp_Kc (zi := (0 + 0)) (zv := (0 + (1 * u + 0))) k0 rfl rfl (by omega) (by omega) (hp_Kc (zi := (0 + 0)) (zv := (0 + (1 * g + 0))) k1 rfl rfl (by omega) (by omega) hp_Kn)) (hp_La l0 (hp_Li (z := (0 + (1 * p + 0))) l1 rfl (by omega) (hp_Li (z := (0 + (1 * p + 0))) l2 rfl (by omega) (hp_Li (z := (0 + (1 * s + 0))) l3 rfl (by omega) (hp_Li (z := (0 + (1 * y + 0))) l4 rfl (by omega) (hp_Li (z := (0 + (1 * d + 0))) l5 rfl (by omega) (hp_Li (z := (0 + (1 * w + 0))) l6 rfl (by omega) hp_Ln))))))) trivial ?_ ?_
  · intro p hp ys l' st' h' hys a1 a2 a3 gZ gL gS
    cases hp
  · intro p hp ys v h' hys a1 a2 a3 gZ gS
    rcases List.mem_cons.mp hp with rfl | hp
    · obtain rfl := hp_y0 hys
      cases v with
      | none => cases gS
      | some w =>
        obtain ⟨y0, t0, s0, q0, -⟩ := hp_gSi (z := ((-2) + 0)) gS rfl
        cases s0
        exact r0 h' y0 (by omega) a1 a2 a3
    cases hp
theorem xwpg4_k : hp_chk 336 5 8 [(0, 0, 119), (1, (-2147483648), 2147483647), (2, (-2147483648), 2147483647), (3, (-2147483648), 2147483647), (4, (-2147483648), 2147483647), (5, 0, 120), (6, 0, 399), (7, 0, 1152921504606846976)] [((-1), [(0, (-1)), (5, 1)])] [(0, .inr (.inr (.inl (some 94)))), (1, .inl (0, [(0, 1)])), (2, .inl (0, [(0, 1)])), (3, .inl (0, [(1, 1)])), (4, .inl (0, [(2, 1)])), (5, .inl (0, [(3, 1)])), (6, .inl (0, [(4, 1)]))] [.inr (.inl (0, [(7, 1)])), .inr (.inr (.inl (some 94)))] [(19978, (0, []), (0, [(5, 1)])), (19977, (0, []), (0, [(6, 1)]))] [20017] 6 [] [([], 8, [(0, 0, 119), (1, (-2147483648), 2147483647), (2, (-2147483648), 2147483647), (3, (-2147483648), 2147483647), (4, (-2147483648), 2147483647), (5, 0, 120), (6, 0, 399), (7, 0, 1152921504606846976)], [], [], [.inl ((-2), [])], [])] = true := by decide +kernel
theorem xwpg4 {cst : am_K} {strs : List Nat} {Φ : am_Q → Prop} {D : Nat} {M : am_M} {h : am_H} {l : am_L} (c : hp_C cst strs D) (hM : m_P[336]? = some M) (hD : (6 : Int) ≤ (D : Int) + 1) (hy : ly_hy m_tt ly_TH h) (p s y d w u g vv : Int) (x0 : Int64) (hx0 : x0.toInt = (vv)) (b0 : 0 ≤ p) (t0 : p ≤ 119) (b1 : (-2147483648) ≤ s) (t1 : s ≤ 2147483647) (b2 : (-2147483648) ≤ y) (t2 : y ≤ 2147483647) (b3 : (-2147483648) ≤ d) (t3 : d ≤ 2147483647) (b4 : (-2147483648) ≤ w) (t4 : w ≤ 2147483647) (b5 : 0 ≤ u) (t5 : u ≤ 120) (b6 : 0 ≤ g) (t6 : g ≤ 399) (b7 : 0 ≤ vv) (t7 : vv ≤ 1152921504606846976) (f0 : 0 ≤ (u - p - 1)) (k0 : ly_hv cst h 19978 0 = some (u)) (k1 : ly_hv cst h 19977 0 = some (g)) (l0 : hp_a l 0 94) (l1 : hp_i l 1 (p)) (l2 : hp_i l 2 (p)) (l3 : hp_i l 3 (s)) (l4 : hp_i l 4 (y)) (l5 : hp_i l 5 (d)) (l6 : hp_i l 6 (w)) (r0 : ∀ (h' : am_H) (y0 : Int32), y0.toInt = (-2) → ly_hy m_tt ly_TH h' → ly_fr cst [20017] h h' → h.length ≤ h'.length → Φ (some (.int y0), h', 0, 0)) : hp_F cst strs Φ D M 5 l [.long x0, .ref 94] h := by
  refine hp_arc c hM xwpg4_k hD [p, s, y, d, w, u, g, vv] rfl hy (hp_Bc (z := p) rfl b0 t0 (hp_Bc (z := s) rfl b1 t1 (hp_Bc (z := y) rfl b2 t2 (hp_Bc (z := d) rfl b3 t3 (hp_Bc (z := w) rfl b4 t4 (hp_Bc (z := u) rfl b5 t5 (hp_Bc (z := g) rfl b6 t6 (hp_Bc (z := vv) rfl b7 t7 hp_Bn)))))))) (hp_Fc (z := ((-1) + ((-1) * p + (1 * u + 0)))) rfl (by omega) hp_Fn) (hp_Kc (zi := (0 + 0)) (zv := (0 + (1 * u + 0))) k0 rfl rfl (by omega) (by omega) (hp_Kc (zi := (0 + 0)) (zv := (0 + (1 * g + 0))) k1 rfl rfl (by omega) (by omega) hp_Kn)) (hp_La l0 (hp_Li (z := (0 + (1 * p + 0))) l1 rfl (by omega) (hp_Li (z := (0 + (1 * p + 0))) l2 rfl (by omega) (hp_Li (z := (0 + (1 * s + 0))) l3 rfl (by omega) (hp_Li (z := (0 + (1 * y + 0))) l4 rfl (by omega) (hp_Li (z := (0 + (1 * d + 0))) l5 rfl (by omega) (hp_Li (z := (0 + (1 * w + 0))) l6 rfl (by omega) hp_Ln))))))) (hp_Sj (z := (0 + (1 * vv + 0))) rfl (by omega) (hp_Sa trivial)) ?_ ?_
  · intro p hp ys l' st' h' hys a1 a2 a3 gZ gL gS
    cases hp
  · intro p hp ys v h' hys a1 a2 a3 gZ gS
    rcases List.mem_cons.mp hp with rfl | hp
    · obtain rfl := hp_y0 hys
      cases v with
      | none => cases gS
      | some w =>
        obtain ⟨y0, t0, s0, q0, -⟩ := hp_gSi (z := ((-2) + 0)) gS rfl
        cases s0
        exact r0 h' y0 (by omega) a1 a2 a3
    cases hp
theorem cwpg5_k : hp_chk 137 7 8 [(0, 0, 119), (1, 0, 119), (2, (-2147483648), (-1)), (3, (-2147483648), 2147483647), (4, (-2147483648), 2147483647), (5, (-2147483648), 2147483647), (6, 0, 120), (7, 0, 399)] [((-1), [(0, (-1)), (6, 1)]), ((-1), [(1, (-1)), (6, 1)])] [(0, .inr (.inr (.inl (some 16)))), (1, .inl (0, [(0, 1)])), (2, .inl (0, [(1, 1)])), (3, .inl (0, [(2, 1)])), (4, .inl (0, [(3, 1)])), (5, .inl (0, [(4, 1)])), (6, .inl (0, [(5, 1)]))] [] [(1536, (0, []), (0, [(6, 1)])), (10, (0, []), (0, [(7, 1)])), (61000, (0, [(0, 1), (1, (-1))]), (1, []))] [] 6 [] [([], 8, [(0, 0, 119), (1, 0, 119), (2, (-2147483648), (-1)), (3, (-2147483648), 2147483647), (4, (-2147483648), 2147483647), (5, (-2147483648), 2147483647), (6, 0, 120), (7, 0, 399)], [], [], [.inl ((-2), [])], [])] = true := by decide +kernel
theorem cwpg5 {cst : am_K} {strs : List Nat} {Φ : am_Q → Prop} {D : Nat} {M : am_M} {h : am_H} {l : am_L} (c : hp_C cst strs D) (hM : m_P[137]? = some M) (hD : (6 : Int) ≤ (D : Int) + 1) (hy : ly_hy m_tt ly_TH h) (p q s y d w u g : Int) (b0 : 0 ≤ p) (t0 : p ≤ 119) (b1 : 0 ≤ q) (t1 : q ≤ 119) (b2 : (-2147483648) ≤ s) (t2 : s ≤ (-1)) (b3 : (-2147483648) ≤ y) (t3 : y ≤ 2147483647) (b4 : (-2147483648) ≤ d) (t4 : d ≤ 2147483647) (b5 : (-2147483648) ≤ w) (t5 : w ≤ 2147483647) (b6 : 0 ≤ u) (t6 : u ≤ 120) (b7 : 0 ≤ g) (t7 : g ≤ 399) (f0 : 0 ≤ (u - p - 1)) (f1 : 0 ≤ (u - q - 1)) (k0 : ly_hv cst h 1536 0 = some (u)) (k1 : ly_hv cst h 10 0 = some (g)) (k2 : ly_hv cst h 61000 (p - q) = some 1) (l0 : hp_a l 0 16) (l1 : hp_i l 1 (p)) (l2 : hp_i l 2 (q)) (l3 : hp_i l 3 (s)) (l4 : hp_i l 4 (y)) (l5 : hp_i l 5 (d)) (l6 : hp_i l 6 (w)) (r0 : ∀ (h' : am_H) (y0 : Int32), y0.toInt = (-2) → ly_hy m_tt ly_TH h' → ly_fr cst [] h h' → h.length ≤ h'.length → Φ (some (.int y0), h', 0, 0)) : hp_F cst strs Φ D M 7 l [] h := by
  refine hp_arc c hM cwpg5_k hD [p, q, s, y, d, w, u, g] rfl hy (hp_Bc (z := p) rfl b0 t0 (hp_Bc (z := q) rfl b1 t1 (hp_Bc (z := s) rfl b2 t2 (hp_Bc (z := y) rfl b3 t3 (hp_Bc (z := d) rfl b4 t4 (hp_Bc (z := w) rfl b5 t5 (hp_Bc (z := u) rfl b6 t6 (hp_Bc (z := g) rfl b7 t7 hp_Bn)))))))) (hp_Fc (z := ((-1) + ((-1) * p + (1 * u + 0)))) rfl (by omega) (hp_Fc (z := ((-1) + ((-1) * q + (1 * u + 0)))) rfl (by omega) hp_Fn)) (hp_Kc (zi := (0 + 0)) (zv := (0 + (1 * u + 0))) k0 rfl rfl (by omega) (by omega) (hp_Kc (zi := (0 + 0)) (zv := (0 + (1 * g + 0))) k1 rfl rfl (by omega) (by omega) (hp_Kc (zi := (0 + (1 * p + ((-1) * q + 0)))) (zv := (1 + 0)) k2 rfl rfl (by omega) (by omega) hp_Kn))) (hp_La l0 (hp_Li (z := (0 + (1 * p + 0))) l1 rfl (by omega) (hp_Li (z := (0 + (1 * q + 0))) l2 rfl (by omega) (hp_Li (z := (0 + (1 * s + 0))) l3 rfl (by omega) (hp_Li (z := (0 + (1 * y + 0))) l4 rfl (by omega) (hp_Li (z := (0 + (1 * d + 0))) l5 rfl (by omega) (hp_Li (z := (0 + (1 * w + 0))) l6 rfl (by omega) hp_Ln))))))) trivial ?_ ?_
  · intro p hp ys l' st' h' hys a1 a2 a3 gZ gL gS
    cases hp
  · intro p hp ys v h' hys a1 a2 a3 gZ gS
    rcases List.mem_cons.mp hp with rfl | hp
    · obtain rfl := hp_y0 hys
      cases v with
      | none => cases gS
      | some w =>
        obtain ⟨y0, t0, s0, q0, -⟩ := hp_gSi (z := ((-2) + 0)) gS rfl
        cases s0
        exact r0 h' y0 (by omega) a1 a2 a3
    cases hp
theorem xwpg5_k : hp_chk 336 5 9 [(0, 0, 119), (1, 0, 119), (2, (-2147483648), (-1)), (3, (-2147483648), 2147483647), (4, (-2147483648), 2147483647), (5, (-2147483648), 2147483647), (6, 0, 120), (7, 0, 399), (8, 0, 1152921504606846976)] [((-1), [(0, (-1)), (6, 1)]), ((-1), [(1, (-1)), (6, 1)])] [(0, .inr (.inr (.inl (some 94)))), (1, .inl (0, [(0, 1)])), (2, .inl (0, [(1, 1)])), (3, .inl (0, [(2, 1)])), (4, .inl (0, [(3, 1)])), (5, .inl (0, [(4, 1)])), (6, .inl (0, [(5, 1)]))] [.inr (.inl (0, [(8, 1)])), .inr (.inr (.inl (some 94)))] [(19978, (0, []), (0, [(6, 1)])), (19977, (0, []), (0, [(7, 1)])), (61000, (0, [(0, 1), (1, (-1))]), (1, []))] [20017] 6 [] [([], 9, [(0, 0, 119), (1, 0, 119), (2, (-2147483648), (-1)), (3, (-2147483648), 2147483647), (4, (-2147483648), 2147483647), (5, (-2147483648), 2147483647), (6, 0, 120), (7, 0, 399), (8, 0, 1152921504606846976)], [], [], [.inl ((-2), [])], [])] = true := by decide +kernel
theorem xwpg5 {cst : am_K} {strs : List Nat} {Φ : am_Q → Prop} {D : Nat} {M : am_M} {h : am_H} {l : am_L} (c : hp_C cst strs D) (hM : m_P[336]? = some M) (hD : (6 : Int) ≤ (D : Int) + 1) (hy : ly_hy m_tt ly_TH h) (p q s y d w u g vv : Int) (x0 : Int64) (hx0 : x0.toInt = (vv)) (b0 : 0 ≤ p) (t0 : p ≤ 119) (b1 : 0 ≤ q) (t1 : q ≤ 119) (b2 : (-2147483648) ≤ s) (t2 : s ≤ (-1)) (b3 : (-2147483648) ≤ y) (t3 : y ≤ 2147483647) (b4 : (-2147483648) ≤ d) (t4 : d ≤ 2147483647) (b5 : (-2147483648) ≤ w) (t5 : w ≤ 2147483647) (b6 : 0 ≤ u) (t6 : u ≤ 120) (b7 : 0 ≤ g) (t7 : g ≤ 399) (b8 : 0 ≤ vv) (t8 : vv ≤ 1152921504606846976) (f0 : 0 ≤ (u - p - 1)) (f1 : 0 ≤ (u - q - 1)) (k0 : ly_hv cst h 19978 0 = some (u)) (k1 : ly_hv cst h 19977 0 = some (g)) (k2 : ly_hv cst h 61000 (p - q) = some 1) (l0 : hp_a l 0 94) (l1 : hp_i l 1 (p)) (l2 : hp_i l 2 (q)) (l3 : hp_i l 3 (s)) (l4 : hp_i l 4 (y)) (l5 : hp_i l 5 (d)) (l6 : hp_i l 6 (w)) (r0 : ∀ (h' : am_H) (y0 : Int32), y0.toInt = (-2) → ly_hy m_tt ly_TH h' → ly_fr cst [20017] h h' → h.length ≤ h'.length → Φ (some (.int y0), h', 0, 0)) : hp_F cst strs Φ D M 5 l [.long x0, .ref 94] h := by
  refine hp_arc c hM xwpg5_k hD [p, q, s, y, d, w, u, g, vv] rfl hy (hp_Bc (z := p) rfl b0 t0 (hp_Bc (z := q) rfl b1 t1 (hp_Bc (z := s) rfl b2 t2 (hp_Bc (z := y) rfl b3 t3 (hp_Bc (z := d) rfl b4 t4 (hp_Bc (z := w) rfl b5 t5 (hp_Bc (z := u) rfl b6 t6 (hp_Bc (z := g) rfl b7 t7 (hp_Bc (z := vv) rfl b8 t8 hp_Bn))))))))) (hp_Fc (z := ((-1) + ((-1) * p + (1 * u + 0)))) rfl (by omega) (hp_Fc (z := ((-1) + ((-1) * q + (1 * u + 0)))) rfl (by omega) hp_Fn)) (hp_Kc (zi := (0 + 0)) (zv := (0 + (1 * u + 0))) k0 rfl rfl (by omega) (by omega) (hp_Kc (zi := (0 + 0)) (zv := (0 + (1 * g + 0))) k1 rfl rfl (by omega) (by omega) (hp_Kc (zi := (0 + (1 * p + ((-1) * q + 0)))) (zv := (1 + 0)) k2 rfl rfl (by omega) (by omega) hp_Kn))) (hp_La l0 (hp_Li (z := (0 + (1 * p + 0))) l1 rfl (by omega) (hp_Li (z := (0 + (1 * q + 0))) l2 rfl (by omega) (hp_Li (z := (0 + (1 * s + 0))) l3 rfl (by omega) (hp_Li (z := (0 + (1 * y + 0))) l4 rfl (by omega) (hp_Li (z := (0 + (1 * d + 0))) l5 rfl (by omega) (hp_Li (z := (0 + (1 * w + 0))) l6 rfl (by omega) hp_Ln))))))) (hp_Sj (z := (0 + (1 * vv + 0))) rfl (by omega) (hp_Sa trivial)) ?_ ?_
  · intro p hp ys l' st' h' hys a1 a2 a3 gZ gL gS
    cases hp
  · intro p hp ys v h' hys a1 a2 a3 gZ gS
    rcases List.mem_cons.mp hp with rfl | hp
    · obtain rfl := hp_y0 hys
      cases v with
      | none => cases gS
      | some w =>
        obtain ⟨y0, t0, s0, q0, -⟩ := hp_gSi (z := ((-2) + 0)) gS rfl
        cases s0
        exact r0 h' y0 (by omega) a1 a2 a3
    cases hp
theorem cwpg6_k : hp_chk 137 7 8 [(0, 0, 119), (1, 0, 119), (2, 6, 2147483647), (3, (-2147483648), 2147483647), (4, (-2147483648), 2147483647), (5, (-2147483648), 2147483647), (6, 0, 120), (7, 0, 399)] [((-1), [(0, (-1)), (6, 1)]), ((-1), [(1, (-1)), (6, 1)])] [(0, .inr (.inr (.inl (some 16)))), (1, .inl (0, [(0, 1)])), (2, .inl (0, [(1, 1)])), (3, .inl (0, [(2, 1)])), (4, .inl (0, [(3, 1)])), (5, .inl (0, [(4, 1)])), (6, .inl (0, [(5, 1)]))] [] [(1536, (0, []), (0, [(6, 1)])), (10, (0, []), (0, [(7, 1)])), (61000, (0, [(0, 1), (1, (-1))]), (1, []))] [] 6 [] [([], 8, [(0, 0, 119), (1, 0, 119), (2, 6, 2147483647), (3, (-2147483648), 2147483647), (4, (-2147483648), 2147483647), (5, (-2147483648), 2147483647), (6, 0, 120), (7, 0, 399)], [], [], [.inl ((-2), [])], [])] = true := by decide +kernel
theorem cwpg6 {cst : am_K} {strs : List Nat} {Φ : am_Q → Prop} {D : Nat} {M : am_M} {h : am_H} {l : am_L} (c : hp_C cst strs D) (hM : m_P[137]? = some M) (hD : (6 : Int) ≤ (D : Int) + 1) (hy : ly_hy m_tt ly_TH h) (p q s y d w u g : Int) (b0 : 0 ≤ p) (t0 : p ≤ 119) (b1 : 0 ≤ q) (t1 : q ≤ 119) (b2 : 6 ≤ s) (t2 : s ≤ 2147483647) (b3 : (-2147483648) ≤ y) (t3 : y ≤ 2147483647) (b4 : (-2147483648) ≤ d) (t4 : d ≤ 2147483647) (b5 : (-2147483648) ≤ w) (t5 : w ≤ 2147483647) (b6 : 0 ≤ u) (t6 : u ≤ 120) (b7 : 0 ≤ g) (t7 : g ≤ 399) (f0 : 0 ≤ (u - p - 1)) (f1 : 0 ≤ (u - q - 1)) (k0 : ly_hv cst h 1536 0 = some (u)) (k1 : ly_hv cst h 10 0 = some (g)) (k2 : ly_hv cst h 61000 (p - q) = some 1) (l0 : hp_a l 0 16) (l1 : hp_i l 1 (p)) (l2 : hp_i l 2 (q)) (l3 : hp_i l 3 (s)) (l4 : hp_i l 4 (y)) (l5 : hp_i l 5 (d)) (l6 : hp_i l 6 (w)) (r0 : ∀ (h' : am_H) (y0 : Int32), y0.toInt = (-2) → ly_hy m_tt ly_TH h' → ly_fr cst [] h h' → h.length ≤ h'.length → Φ (some (.int y0), h', 0, 0)) : hp_F cst strs Φ D M 7 l [] h := by
  refine hp_arc c hM cwpg6_k hD [p, q, s, y, d, w, u, g] rfl hy (hp_Bc (z := p) rfl b0 t0 (hp_Bc (z := q) rfl b1 t1 (hp_Bc (z := s) rfl b2 t2 (hp_Bc (z := y) rfl b3 t3 (hp_Bc (z := d) rfl b4 t4 (hp_Bc (z := w) rfl b5 t5 (hp_Bc (z := u) rfl b6 t6 (hp_Bc (z := g) rfl b7 t7 hp_Bn)))))))) (hp_Fc (z := ((-1) + ((-1) * p + (1 * u + 0)))) rfl (by omega) (hp_Fc (z := ((-1) + ((-1) * q + (1 * u + 0)))) rfl (by omega) hp_Fn)) (hp_Kc (zi := (0 + 0)) (zv := (0 + (1 * u + 0))) k0 rfl rfl (by omega) (by omega) (hp_Kc (zi := (0 + 0)) (zv := (0 + (1 * g + 0))) k1 rfl rfl (by omega) (by omega) (hp_Kc (zi := (0 + (1 * p + ((-1) * q + 0)))) (zv := (1 + 0)) k2 rfl rfl (by omega) (by omega) hp_Kn))) (hp_La l0 (hp_Li (z := (0 + (1 * p + 0))) l1 rfl (by omega) (hp_Li (z := (0 + (1 * q + 0))) l2 rfl (by omega) (hp_Li (z := (0 + (1 * s + 0))) l3 rfl (by omega) (hp_Li (z := (0 + (1 * y + 0))) l4 rfl (by omega) (hp_Li (z := (0 + (1 * d + 0))) l5 rfl (by omega) (hp_Li (z := (0 + (1 * w + 0))) l6 rfl (by omega) hp_Ln))))))) trivial ?_ ?_
  · intro p hp ys l' st' h' hys a1 a2 a3 gZ gL gS
    cases hp
  · intro p hp ys v h' hys a1 a2 a3 gZ gS
    rcases List.mem_cons.mp hp with rfl | hp
    · obtain rfl := hp_y0 hys
      cases v with
      | none => cases gS
      | some w =>
        obtain ⟨y0, t0, s0, q0, -⟩ := hp_gSi (z := ((-2) + 0)) gS rfl
        cases s0
        exact r0 h' y0 (by omega) a1 a2 a3
    cases hp
theorem xwpg6_k : hp_chk 336 5 9 [(0, 0, 119), (1, 0, 119), (2, 6, 2147483647), (3, (-2147483648), 2147483647), (4, (-2147483648), 2147483647), (5, (-2147483648), 2147483647), (6, 0, 120), (7, 0, 399), (8, 0, 1152921504606846976)] [((-1), [(0, (-1)), (6, 1)]), ((-1), [(1, (-1)), (6, 1)])] [(0, .inr (.inr (.inl (some 94)))), (1, .inl (0, [(0, 1)])), (2, .inl (0, [(1, 1)])), (3, .inl (0, [(2, 1)])), (4, .inl (0, [(3, 1)])), (5, .inl (0, [(4, 1)])), (6, .inl (0, [(5, 1)]))] [.inr (.inl (0, [(8, 1)])), .inr (.inr (.inl (some 94)))] [(19978, (0, []), (0, [(6, 1)])), (19977, (0, []), (0, [(7, 1)])), (61000, (0, [(0, 1), (1, (-1))]), (1, []))] [20017] 6 [] [([], 9, [(0, 0, 119), (1, 0, 119), (2, 6, 2147483647), (3, (-2147483648), 2147483647), (4, (-2147483648), 2147483647), (5, (-2147483648), 2147483647), (6, 0, 120), (7, 0, 399), (8, 0, 1152921504606846976)], [], [], [.inl ((-2), [])], [])] = true := by decide +kernel
theorem xwpg6 {cst : am_K} {strs : List Nat} {Φ : am_Q → Prop} {D : Nat} {M : am_M} {h : am_H} {l : am_L} (c : hp_C cst strs D) (hM : m_P[336]? = some M) (hD : (6 : Int) ≤ (D : Int) + 1) (hy : ly_hy m_tt ly_TH h) (p q s y d w u g vv : Int) (x0 : Int64) (hx0 : x0.toInt = (vv)) (b0 : 0 ≤ p) (t0 : p ≤ 119) (b1 : 0 ≤ q) (t1 : q ≤ 119) (b2 : 6 ≤ s) (t2 : s ≤ 2147483647) (b3 : (-2147483648) ≤ y) (t3 : y ≤ 2147483647) (b4 : (-2147483648) ≤ d) (t4 : d ≤ 2147483647) (b5 : (-2147483648) ≤ w) (t5 : w ≤ 2147483647) (b6 : 0 ≤ u) (t6 : u ≤ 120) (b7 : 0 ≤ g) (t7 : g ≤ 399) (b8 : 0 ≤ vv) (t8 : vv ≤ 1152921504606846976) (f0 : 0 ≤ (u - p - 1)) (f1 : 0 ≤ (u - q - 1)) (k0 : ly_hv cst h 19978 0 = some (u)) (k1 : ly_hv cst h 19977 0 = some (g)) (k2 : ly_hv cst h 61000 (p - q) = some 1) (l0 : hp_a l 0 94) (l1 : hp_i l 1 (p)) (l2 : hp_i l 2 (q)) (l3 : hp_i l 3 (s)) (l4 : hp_i l 4 (y)) (l5 : hp_i l 5 (d)) (l6 : hp_i l 6 (w)) (r0 : ∀ (h' : am_H) (y0 : Int32), y0.toInt = (-2) → ly_hy m_tt ly_TH h' → ly_fr cst [20017] h h' → h.length ≤ h'.length → Φ (some (.int y0), h', 0, 0)) : hp_F cst strs Φ D M 5 l [.long x0, .ref 94] h := by
  refine hp_arc c hM xwpg6_k hD [p, q, s, y, d, w, u, g, vv] rfl hy (hp_Bc (z := p) rfl b0 t0 (hp_Bc (z := q) rfl b1 t1 (hp_Bc (z := s) rfl b2 t2 (hp_Bc (z := y) rfl b3 t3 (hp_Bc (z := d) rfl b4 t4 (hp_Bc (z := w) rfl b5 t5 (hp_Bc (z := u) rfl b6 t6 (hp_Bc (z := g) rfl b7 t7 (hp_Bc (z := vv) rfl b8 t8 hp_Bn))))))))) (hp_Fc (z := ((-1) + ((-1) * p + (1 * u + 0)))) rfl (by omega) (hp_Fc (z := ((-1) + ((-1) * q + (1 * u + 0)))) rfl (by omega) hp_Fn)) (hp_Kc (zi := (0 + 0)) (zv := (0 + (1 * u + 0))) k0 rfl rfl (by omega) (by omega) (hp_Kc (zi := (0 + 0)) (zv := (0 + (1 * g + 0))) k1 rfl rfl (by omega) (by omega) (hp_Kc (zi := (0 + (1 * p + ((-1) * q + 0)))) (zv := (1 + 0)) k2 rfl rfl (by omega) (by omega) hp_Kn))) (hp_La l0 (hp_Li (z := (0 + (1 * p + 0))) l1 rfl (by omega) (hp_Li (z := (0 + (1 * q + 0))) l2 rfl (by omega) (hp_Li (z := (0 + (1 * s + 0))) l3 rfl (by omega) (hp_Li (z := (0 + (1 * y + 0))) l4 rfl (by omega) (hp_Li (z := (0 + (1 * d + 0))) l5 rfl (by omega) (hp_Li (z := (0 + (1 * w + 0))) l6 rfl (by omega) hp_Ln))))))) (hp_Sj (z := (0 + (1 * vv + 0))) rfl (by omega) (hp_Sa trivial)) ?_ ?_
  · intro p hp ys l' st' h' hys a1 a2 a3 gZ gL gS
    cases hp
  · intro p hp ys v h' hys a1 a2 a3 gZ gS
    rcases List.mem_cons.mp hp with rfl | hp
    · obtain rfl := hp_y0 hys
      cases v with
      | none => cases gS
      | some w =>
        obtain ⟨y0, t0, s0, q0, -⟩ := hp_gSi (z := ((-2) + 0)) gS rfl
        cases s0
        exact r0 h' y0 (by omega) a1 a2 a3
    cases hp
theorem cwpg7_k : hp_chk 137 7 8 [(0, 0, 119), (1, 0, 119), (2, 0, 5), (3, (-2147483648), (-1)), (4, (-2147483648), 2147483647), (5, (-2147483648), 2147483647), (6, 0, 120), (7, 0, 399)] [((-1), [(0, (-1)), (6, 1)]), ((-1), [(1, (-1)), (6, 1)])] [(0, .inr (.inr (.inl (some 16)))), (1, .inl (0, [(0, 1)])), (2, .inl (0, [(1, 1)])), (3, .inl (0, [(2, 1)])), (4, .inl (0, [(3, 1)])), (5, .inl (0, [(4, 1)])), (6, .inl (0, [(5, 1)]))] [] [(1536, (0, []), (0, [(6, 1)])), (10, (0, []), (0, [(7, 1)])), (61000, (0, [(0, 1), (1, (-1))]), (1, []))] [] 6 [] [([], 8, [(0, 0, 119), (1, 0, 119), (2, 0, 5), (3, (-2147483648), (-1)), (4, (-2147483648), 2147483647), (5, (-2147483648), 2147483647), (6, 0, 120), (7, 0, 399)], [], [], [.inl ((-2), [])], [])] = true := by decide +kernel
theorem cwpg7 {cst : am_K} {strs : List Nat} {Φ : am_Q → Prop} {D : Nat} {M : am_M} {h : am_H} {l : am_L} (c : hp_C cst strs D) (hM : m_P[137]? = some M) (hD : (6 : Int) ≤ (D : Int) + 1) (hy : ly_hy m_tt ly_TH h) (p q s y d w u g : Int) (b0 : 0 ≤ p) (t0 : p ≤ 119) (b1 : 0 ≤ q) (t1 : q ≤ 119) (b2 : 0 ≤ s) (t2 : s ≤ 5) (b3 : (-2147483648) ≤ y) (t3 : y ≤ (-1)) (b4 : (-2147483648) ≤ d) (t4 : d ≤ 2147483647) (b5 : (-2147483648) ≤ w) (t5 : w ≤ 2147483647) (b6 : 0 ≤ u) (t6 : u ≤ 120) (b7 : 0 ≤ g) (t7 : g ≤ 399) (f0 : 0 ≤ (u - p - 1)) (f1 : 0 ≤ (u - q - 1)) (k0 : ly_hv cst h 1536 0 = some (u)) (k1 : ly_hv cst h 10 0 = some (g)) (k2 : ly_hv cst h 61000 (p - q) = some 1) (l0 : hp_a l 0 16) (l1 : hp_i l 1 (p)) (l2 : hp_i l 2 (q)) (l3 : hp_i l 3 (s)) (l4 : hp_i l 4 (y)) (l5 : hp_i l 5 (d)) (l6 : hp_i l 6 (w)) (r0 : ∀ (h' : am_H) (y0 : Int32), y0.toInt = (-2) → ly_hy m_tt ly_TH h' → ly_fr cst [] h h' → h.length ≤ h'.length → Φ (some (.int y0), h', 0, 0)) : hp_F cst strs Φ D M 7 l [] h := by
  refine hp_arc c hM cwpg7_k hD [p, q, s, y, d, w, u, g] rfl hy (hp_Bc (z := p) rfl b0 t0 (hp_Bc (z := q) rfl b1 t1 (hp_Bc (z := s) rfl b2 t2 (hp_Bc (z := y) rfl b3 t3 (hp_Bc (z := d) rfl b4 t4 (hp_Bc (z := w) rfl b5 t5 (hp_Bc (z := u) rfl b6 t6 (hp_Bc (z := g) rfl b7 t7 hp_Bn)))))))) (hp_Fc (z := ((-1) + ((-1) * p + (1 * u + 0)))) rfl (by omega) (hp_Fc (z := ((-1) + ((-1) * q + (1 * u + 0)))) rfl (by omega) hp_Fn)) (hp_Kc (zi := (0 + 0)) (zv := (0 + (1 * u + 0))) k0 rfl rfl (by omega) (by omega) (hp_Kc (zi := (0 + 0)) (zv := (0 + (1 * g + 0))) k1 rfl rfl (by omega) (by omega) (hp_Kc (zi := (0 + (1 * p + ((-1) * q + 0)))) (zv := (1 + 0)) k2 rfl rfl (by omega) (by omega) hp_Kn))) (hp_La l0 (hp_Li (z := (0 + (1 * p + 0))) l1 rfl (by omega) (hp_Li (z := (0 + (1 * q + 0))) l2 rfl (by omega) (hp_Li (z := (0 + (1 * s + 0))) l3 rfl (by omega) (hp_Li (z := (0 + (1 * y + 0))) l4 rfl (by omega) (hp_Li (z := (0 + (1 * d + 0))) l5 rfl (by omega) (hp_Li (z := (0 + (1 * w + 0))) l6 rfl (by omega) hp_Ln))))))) trivial ?_ ?_
  · intro p hp ys l' st' h' hys a1 a2 a3 gZ gL gS
    cases hp
  · intro p hp ys v h' hys a1 a2 a3 gZ gS
    rcases List.mem_cons.mp hp with rfl | hp
    · obtain rfl := hp_y0 hys
      cases v with
      | none => cases gS
      | some w =>
        obtain ⟨y0, t0, s0, q0, -⟩ := hp_gSi (z := ((-2) + 0)) gS rfl
        cases s0
        exact r0 h' y0 (by omega) a1 a2 a3
    cases hp
theorem xwpg7_k : hp_chk 336 5 9 [(0, 0, 119), (1, 0, 119), (2, 0, 5), (3, (-2147483648), (-1)), (4, (-2147483648), 2147483647), (5, (-2147483648), 2147483647), (6, 0, 120), (7, 0, 399), (8, 0, 1152921504606846976)] [((-1), [(0, (-1)), (6, 1)]), ((-1), [(1, (-1)), (6, 1)])] [(0, .inr (.inr (.inl (some 94)))), (1, .inl (0, [(0, 1)])), (2, .inl (0, [(1, 1)])), (3, .inl (0, [(2, 1)])), (4, .inl (0, [(3, 1)])), (5, .inl (0, [(4, 1)])), (6, .inl (0, [(5, 1)]))] [.inr (.inl (0, [(8, 1)])), .inr (.inr (.inl (some 94)))] [(19978, (0, []), (0, [(6, 1)])), (19977, (0, []), (0, [(7, 1)])), (61000, (0, [(0, 1), (1, (-1))]), (1, []))] [20017] 6 [] [([], 9, [(0, 0, 119), (1, 0, 119), (2, 0, 5), (3, (-2147483648), (-1)), (4, (-2147483648), 2147483647), (5, (-2147483648), 2147483647), (6, 0, 120), (7, 0, 399), (8, 0, 1152921504606846976)], [], [], [.inl ((-2), [])], [])] = true := by decide +kernel
theorem xwpg7 {cst : am_K} {strs : List Nat} {Φ : am_Q → Prop} {D : Nat} {M : am_M} {h : am_H} {l : am_L} (c : hp_C cst strs D) (hM : m_P[336]? = some M) (hD : (6 : Int) ≤ (D : Int) + 1) (hy : ly_hy m_tt ly_TH h) (p q s y d w u g vv : Int) (x0 : Int64) (hx0 : x0.toInt = (vv)) (b0 : 0 ≤ p) (t0 : p ≤ 119) (b1 : 0 ≤ q) (t1 : q ≤ 119) (b2 : 0 ≤ s) (t2 : s ≤ 5) (b3 : (-2147483648) ≤ y) (t3 : y ≤ (-1)) (b4 : (-2147483648) ≤ d) (t4 : d ≤ 2147483647) (b5 : (-2147483648) ≤ w) (t5 : w ≤ 2147483647) (b6 : 0 ≤ u) (t6 : u ≤ 120) (b7 : 0 ≤ g) (t7 : g ≤ 399) (b8 : 0 ≤ vv) (t8 : vv ≤ 1152921504606846976) (f0 : 0 ≤ (u - p - 1)) (f1 : 0 ≤ (u - q - 1)) (k0 : ly_hv cst h 19978 0 = some (u)) (k1 : ly_hv cst h 19977 0 = some (g)) (k2 : ly_hv cst h 61000 (p - q) = some 1) (l0 : hp_a l 0 94) (l1 : hp_i l 1 (p)) (l2 : hp_i l 2 (q)) (l3 : hp_i l 3 (s)) (l4 : hp_i l 4 (y)) (l5 : hp_i l 5 (d)) (l6 : hp_i l 6 (w)) (r0 : ∀ (h' : am_H) (y0 : Int32), y0.toInt = (-2) → ly_hy m_tt ly_TH h' → ly_fr cst [20017] h h' → h.length ≤ h'.length → Φ (some (.int y0), h', 0, 0)) : hp_F cst strs Φ D M 5 l [.long x0, .ref 94] h := by
  refine hp_arc c hM xwpg7_k hD [p, q, s, y, d, w, u, g, vv] rfl hy (hp_Bc (z := p) rfl b0 t0 (hp_Bc (z := q) rfl b1 t1 (hp_Bc (z := s) rfl b2 t2 (hp_Bc (z := y) rfl b3 t3 (hp_Bc (z := d) rfl b4 t4 (hp_Bc (z := w) rfl b5 t5 (hp_Bc (z := u) rfl b6 t6 (hp_Bc (z := g) rfl b7 t7 (hp_Bc (z := vv) rfl b8 t8 hp_Bn))))))))) (hp_Fc (z := ((-1) + ((-1) * p + (1 * u + 0)))) rfl (by omega) (hp_Fc (z := ((-1) + ((-1) * q + (1 * u + 0)))) rfl (by omega) hp_Fn)) (hp_Kc (zi := (0 + 0)) (zv := (0 + (1 * u + 0))) k0 rfl rfl (by omega) (by omega) (hp_Kc (zi := (0 + 0)) (zv := (0 + (1 * g + 0))) k1 rfl rfl (by omega) (by omega) (hp_Kc (zi := (0 + (1 * p + ((-1) * q + 0)))) (zv := (1 + 0)) k2 rfl rfl (by omega) (by omega) hp_Kn))) (hp_La l0 (hp_Li (z := (0 + (1 * p + 0))) l1 rfl (by omega) (hp_Li (z := (0 + (1 * q + 0))) l2 rfl (by omega) (hp_Li (z := (0 + (1 * s + 0))) l3 rfl (by omega) (hp_Li (z := (0 + (1 * y + 0))) l4 rfl (by omega) (hp_Li (z := (0 + (1 * d + 0))) l5 rfl (by omega) (hp_Li (z := (0 + (1 * w + 0))) l6 rfl (by omega) hp_Ln))))))) (hp_Sj (z := (0 + (1 * vv + 0))) rfl (by omega) (hp_Sa trivial)) ?_ ?_
  · intro p hp ys l' st' h' hys a1 a2 a3 gZ gL gS
    cases hp
  · intro p hp ys v h' hys a1 a2 a3 gZ gS
    rcases List.mem_cons.mp hp with rfl | hp
    · obtain rfl := hp_y0 hys
      cases v with
      | none => cases gS
      | some w =>
        obtain ⟨y0, t0, s0, q0, -⟩ := hp_gSi (z := ((-2) + 0)) gS rfl
        cases s0
        exact r0 h' y0 (by omega) a1 a2 a3
    cases hp
theorem cwpg8_k : hp_chk 137 7 8 [(0, 0, 119), (1, 0, 119), (2, 0, 5), (3, 10, 2147483647), (4, (-2147483648), 2147483647), (5, (-2147483648), 2147483647), (6, 0, 120), (7, 0, 399)] [((-1), [(0, (-1)), (6, 1)]), ((-1), [(1, (-1)), (6, 1)])] [(0, .inr (.inr (.inl (some 16)))), (1, .inl (0, [(0, 1)])), (2, .inl (0, [(1, 1)])), (3, .inl (0, [(2, 1)])), (4, .inl (0, [(3, 1)])), (5, .inl (0, [(4, 1)])), (6, .inl (0, [(5, 1)]))] [] [(1536, (0, []), (0, [(6, 1)])), (10, (0, []), (0, [(7, 1)])), (61000, (0, [(0, 1), (1, (-1))]), (1, []))] [] 6 [] [([], 8, [(0, 0, 119), (1, 0, 119), (2, 0, 5), (3, 10, 2147483647), (4, (-2147483648), 2147483647), (5, (-2147483648), 2147483647), (6, 0, 120), (7, 0, 399)], [], [], [.inl ((-2), [])], [])] = true := by decide +kernel
theorem cwpg8 {cst : am_K} {strs : List Nat} {Φ : am_Q → Prop} {D : Nat} {M : am_M} {h : am_H} {l : am_L} (c : hp_C cst strs D) (hM : m_P[137]? = some M) (hD : (6 : Int) ≤ (D : Int) + 1) (hy : ly_hy m_tt ly_TH h) (p q s y d w u g : Int) (b0 : 0 ≤ p) (t0 : p ≤ 119) (b1 : 0 ≤ q) (t1 : q ≤ 119) (b2 : 0 ≤ s) (t2 : s ≤ 5) (b3 : 10 ≤ y) (t3 : y ≤ 2147483647) (b4 : (-2147483648) ≤ d) (t4 : d ≤ 2147483647) (b5 : (-2147483648) ≤ w) (t5 : w ≤ 2147483647) (b6 : 0 ≤ u) (t6 : u ≤ 120) (b7 : 0 ≤ g) (t7 : g ≤ 399) (f0 : 0 ≤ (u - p - 1)) (f1 : 0 ≤ (u - q - 1)) (k0 : ly_hv cst h 1536 0 = some (u)) (k1 : ly_hv cst h 10 0 = some (g)) (k2 : ly_hv cst h 61000 (p - q) = some 1) (l0 : hp_a l 0 16) (l1 : hp_i l 1 (p)) (l2 : hp_i l 2 (q)) (l3 : hp_i l 3 (s)) (l4 : hp_i l 4 (y)) (l5 : hp_i l 5 (d)) (l6 : hp_i l 6 (w)) (r0 : ∀ (h' : am_H) (y0 : Int32), y0.toInt = (-2) → ly_hy m_tt ly_TH h' → ly_fr cst [] h h' → h.length ≤ h'.length → Φ (some (.int y0), h', 0, 0)) : hp_F cst strs Φ D M 7 l [] h := by
  refine hp_arc c hM cwpg8_k hD [p, q, s, y, d, w, u, g] rfl hy (hp_Bc (z := p) rfl b0 t0 (hp_Bc (z := q) rfl b1 t1 (hp_Bc (z := s) rfl b2 t2 (hp_Bc (z := y) rfl b3 t3 (hp_Bc (z := d) rfl b4 t4 (hp_Bc (z := w) rfl b5 t5 (hp_Bc (z := u) rfl b6 t6 (hp_Bc (z := g) rfl b7 t7 hp_Bn)))))))) (hp_Fc (z := ((-1) + ((-1) * p + (1 * u + 0)))) rfl (by omega) (hp_Fc (z := ((-1) + ((-1) * q + (1 * u + 0)))) rfl (by omega) hp_Fn)) (hp_Kc (zi := (0 + 0)) (zv := (0 + (1 * u + 0))) k0 rfl rfl (by omega) (by omega) (hp_Kc (zi := (0 + 0)) (zv := (0 + (1 * g + 0))) k1 rfl rfl (by omega) (by omega) (hp_Kc (zi := (0 + (1 * p + ((-1) * q + 0)))) (zv := (1 + 0)) k2 rfl rfl (by omega) (by omega) hp_Kn))) (hp_La l0 (hp_Li (z := (0 + (1 * p + 0))) l1 rfl (by omega) (hp_Li (z := (0 + (1 * q + 0))) l2 rfl (by omega) (hp_Li (z := (0 + (1 * s + 0))) l3 rfl (by omega) (hp_Li (z := (0 + (1 * y + 0))) l4 rfl (by omega) (hp_Li (z := (0 + (1 * d + 0))) l5 rfl (by omega) (hp_Li (z := (0 + (1 * w + 0))) l6 rfl (by omega) hp_Ln))))))) trivial ?_ ?_
  · intro p hp ys l' st' h' hys a1 a2 a3 gZ gL gS
    cases hp
  · intro p hp ys v h' hys a1 a2 a3 gZ gS
    rcases List.mem_cons.mp hp with rfl | hp
    · obtain rfl := hp_y0 hys
      cases v with
      | none => cases gS
      | some w =>
        obtain ⟨y0, t0, s0, q0, -⟩ := hp_gSi (z := ((-2) + 0)) gS rfl
        cases s0
        exact r0 h' y0 (by omega) a1 a2 a3
    cases hp
theorem xwpg8_k : hp_chk 336 5 9 [(0, 0, 119), (1, 0, 119), (2, 0, 5), (3, 10, 2147483647), (4, (-2147483648), 2147483647), (5, (-2147483648), 2147483647), (6, 0, 120), (7, 0, 399), (8, 0, 1152921504606846976)] [((-1), [(0, (-1)), (6, 1)]), ((-1), [(1, (-1)), (6, 1)])] [(0, .inr (.inr (.inl (some 94)))), (1, .inl (0, [(0, 1)])), (2, .inl (0, [(1, 1)])), (3, .inl (0, [(2, 1)])), (4, .inl (0, [(3, 1)])), (5, .inl (0, [(4, 1)])), (6, .inl (0, [(5, 1)]))] [.inr (.inl (0, [(8, 1)])), .inr (.inr (.inl (some 94)))] [(19978, (0, []), (0, [(6, 1)])), (19977, (0, []), (0, [(7, 1)])), (61000, (0, [(0, 1), (1, (-1))]), (1, []))] [20017] 6 [] [([], 9, [(0, 0, 119), (1, 0, 119), (2, 0, 5), (3, 10, 2147483647), (4, (-2147483648), 2147483647), (5, (-2147483648), 2147483647), (6, 0, 120), (7, 0, 399), (8, 0, 1152921504606846976)], [], [], [.inl ((-2), [])], [])] = true := by decide +kernel
theorem xwpg8 {cst : am_K} {strs : List Nat} {Φ : am_Q → Prop} {D : Nat} {M : am_M} {h : am_H} {l : am_L} (c : hp_C cst strs D) (hM : m_P[336]? = some M) (hD : (6 : Int) ≤ (D : Int) + 1) (hy : ly_hy m_tt ly_TH h) (p q s y d w u g vv : Int) (x0 : Int64) (hx0 : x0.toInt = (vv)) (b0 : 0 ≤ p) (t0 : p ≤ 119) (b1 : 0 ≤ q) (t1 : q ≤ 119) (b2 : 0 ≤ s) (t2 : s ≤ 5) (b3 : 10 ≤ y) (t3 : y ≤ 2147483647) (b4 : (-2147483648) ≤ d) (t4 : d ≤ 2147483647) (b5 : (-2147483648) ≤ w) (t5 : w ≤ 2147483647) (b6 : 0 ≤ u) (t6 : u ≤ 120) (b7 : 0 ≤ g) (t7 : g ≤ 399) (b8 : 0 ≤ vv) (t8 : vv ≤ 1152921504606846976) (f0 : 0 ≤ (u - p - 1)) (f1 : 0 ≤ (u - q - 1)) (k0 : ly_hv cst h 19978 0 = some (u)) (k1 : ly_hv cst h 19977 0 = some (g)) (k2 : ly_hv cst h 61000 (p - q) = some 1) (l0 : hp_a l 0 94) (l1 : hp_i l 1 (p)) (l2 : hp_i l 2 (q)) (l3 : hp_i l 3 (s)) (l4 : hp_i l 4 (y)) (l5 : hp_i l 5 (d)) (l6 : hp_i l 6 (w)) (r0 : ∀ (h' : am_H) (y0 : Int32), y0.toInt = (-2) → ly_hy m_tt ly_TH h' → ly_fr cst [20017] h h' → h.length ≤ h'.length → Φ (some (.int y0), h', 0, 0)) : hp_F cst strs Φ D M 5 l [.long x0, .ref 94] h := by
  refine hp_arc c hM xwpg8_k hD [p, q, s, y, d, w, u, g, vv] rfl hy (hp_Bc (z := p) rfl b0 t0 (hp_Bc (z := q) rfl b1 t1 (hp_Bc (z := s) rfl b2 t2 (hp_Bc (z := y) rfl b3 t3 (hp_Bc (z := d) rfl b4 t4 (hp_Bc (z := w) rfl b5 t5 (hp_Bc (z := u) rfl b6 t6 (hp_Bc (z := g) rfl b7 t7 (hp_Bc (z := vv) rfl b8 t8 hp_Bn))))))))) (hp_Fc (z := ((-1) + ((-1) * p + (1 * u + 0)))) rfl (by omega) (hp_Fc (z := ((-1) + ((-1) * q + (1 * u + 0)))) rfl (by omega) hp_Fn)) (hp_Kc (zi := (0 + 0)) (zv := (0 + (1 * u + 0))) k0 rfl rfl (by omega) (by omega) (hp_Kc (zi := (0 + 0)) (zv := (0 + (1 * g + 0))) k1 rfl rfl (by omega) (by omega) (hp_Kc (zi := (0 + (1 * p + ((-1) * q + 0)))) (zv := (1 + 0)) k2 rfl rfl (by omega) (by omega) hp_Kn))) (hp_La l0 (hp_Li (z := (0 + (1 * p + 0))) l1 rfl (by omega) (hp_Li (z := (0 + (1 * q + 0))) l2 rfl (by omega) (hp_Li (z := (0 + (1 * s + 0))) l3 rfl (by omega) (hp_Li (z := (0 + (1 * y + 0))) l4 rfl (by omega) (hp_Li (z := (0 + (1 * d + 0))) l5 rfl (by omega) (hp_Li (z := (0 + (1 * w + 0))) l6 rfl (by omega) hp_Ln))))))) (hp_Sj (z := (0 + (1 * vv + 0))) rfl (by omega) (hp_Sa trivial)) ?_ ?_
  · intro p hp ys l' st' h' hys a1 a2 a3 gZ gL gS
    cases hp
  · intro p hp ys v h' hys a1 a2 a3 gZ gS
    rcases List.mem_cons.mp hp with rfl | hp
    · obtain rfl := hp_y0 hys
      cases v with
      | none => cases gS
      | some w =>
        obtain ⟨y0, t0, s0, q0, -⟩ := hp_gSi (z := ((-2) + 0)) gS rfl
        cases s0
        exact r0 h' y0 (by omega) a1 a2 a3
    cases hp
theorem cwpg9_k : hp_chk 137 7 8 [(0, 0, 119), (1, 0, 119), (2, 0, 5), (3, 0, 9), (4, (-2147483648), (-1)), (5, (-2147483648), 2147483647), (6, 0, 120), (7, 0, 399)] [((-1), [(0, (-1)), (6, 1)]), ((-1), [(1, (-1)), (6, 1)])] [(0, .inr (.inr (.inl (some 16)))), (1, .inl (0, [(0, 1)])), (2, .inl (0, [(1, 1)])), (3, .inl (0, [(2, 1)])), (4, .inl (0, [(3, 1)])), (5, .inl (0, [(4, 1)])), (6, .inl (0, [(5, 1)]))] [] [(1536, (0, []), (0, [(6, 1)])), (10, (0, []), (0, [(7, 1)])), (61000, (0, [(0, 1), (1, (-1))]), (1, []))] [] 6 [] [([], 8, [(0, 0, 119), (1, 0, 119), (2, 0, 5), (3, 0, 9), (4, (-2147483648), (-1)), (5, (-2147483648), 2147483647), (6, 0, 120), (7, 0, 399)], [], [], [.inl ((-2), [])], [])] = true := by decide +kernel
theorem cwpg9 {cst : am_K} {strs : List Nat} {Φ : am_Q → Prop} {D : Nat} {M : am_M} {h : am_H} {l : am_L} (c : hp_C cst strs D) (hM : m_P[137]? = some M) (hD : (6 : Int) ≤ (D : Int) + 1) (hy : ly_hy m_tt ly_TH h) (p q s y d w u g : Int) (b0 : 0 ≤ p) (t0 : p ≤ 119) (b1 : 0 ≤ q) (t1 : q ≤ 119) (b2 : 0 ≤ s) (t2 : s ≤ 5) (b3 : 0 ≤ y) (t3 : y ≤ 9) (b4 : (-2147483648) ≤ d) (t4 : d ≤ (-1)) (b5 : (-2147483648) ≤ w) (t5 : w ≤ 2147483647) (b6 : 0 ≤ u) (t6 : u ≤ 120) (b7 : 0 ≤ g) (t7 : g ≤ 399) (f0 : 0 ≤ (u - p - 1)) (f1 : 0 ≤ (u - q - 1)) (k0 : ly_hv cst h 1536 0 = some (u)) (k1 : ly_hv cst h 10 0 = some (g)) (k2 : ly_hv cst h 61000 (p - q) = some 1) (l0 : hp_a l 0 16) (l1 : hp_i l 1 (p)) (l2 : hp_i l 2 (q)) (l3 : hp_i l 3 (s)) (l4 : hp_i l 4 (y)) (l5 : hp_i l 5 (d)) (l6 : hp_i l 6 (w)) (r0 : ∀ (h' : am_H) (y0 : Int32), y0.toInt = (-2) → ly_hy m_tt ly_TH h' → ly_fr cst [] h h' → h.length ≤ h'.length → Φ (some (.int y0), h', 0, 0)) : hp_F cst strs Φ D M 7 l [] h := by
  refine hp_arc c hM cwpg9_k hD [p, q, s, y, d, w, u, g] rfl hy (hp_Bc (z := p) rfl b0 t0 (hp_Bc (z := q) rfl b1 t1 (hp_Bc (z := s) rfl b2 t2 (hp_Bc (z := y) rfl b3 t3 (hp_Bc (z := d) rfl b4 t4 (hp_Bc (z := w) rfl b5 t5 (hp_Bc (z := u) rfl b6 t6 (hp_Bc (z := g) rfl b7 t7 hp_Bn)))))))) (hp_Fc (z := ((-1) + ((-1) * p + (1 * u + 0)))) rfl (by omega) (hp_Fc (z := ((-1) + ((-1) * q + (1 * u + 0)))) rfl (by omega) hp_Fn)) (hp_Kc (zi := (0 + 0)) (zv := (0 + (1 * u + 0))) k0 rfl rfl (by omega) (by omega) (hp_Kc (zi := (0 + 0)) (zv := (0 + (1 * g + 0))) k1 rfl rfl (by omega) (by omega) (hp_Kc (zi := (0 + (1 * p + ((-1) * q + 0)))) (zv := (1 + 0)) k2 rfl rfl (by omega) (by omega) hp_Kn))) (hp_La l0 (hp_Li (z := (0 + (1 * p + 0))) l1 rfl (by omega) (hp_Li (z := (0 + (1 * q + 0))) l2 rfl (by omega) (hp_Li (z := (0 + (1 * s + 0))) l3 rfl (by omega) (hp_Li (z := (0 + (1 * y + 0))) l4 rfl (by omega) (hp_Li (z := (0 + (1 * d + 0))) l5 rfl (by omega) (hp_Li (z := (0 + (1 * w + 0))) l6 rfl (by omega) hp_Ln))))))) trivial ?_ ?_
  · intro p hp ys l' st' h' hys a1 a2 a3 gZ gL gS
    cases hp
  · intro p hp ys v h' hys a1 a2 a3 gZ gS
    rcases List.mem_cons.mp hp with rfl | hp
    · obtain rfl := hp_y0 hys
      cases v with
      | none => cases gS
      | some w =>
        obtain ⟨y0, t0, s0, q0, -⟩ := hp_gSi (z := ((-2) + 0)) gS rfl
        cases s0
        exact r0 h' y0 (by omega) a1 a2 a3
    cases hp
theorem xwpg9_k : hp_chk 336 5 9 [(0, 0, 119), (1, 0, 119), (2, 0, 5), (3, 0, 9), (4, (-2147483648), (-1)), (5, (-2147483648), 2147483647), (6, 0, 120), (7, 0, 399), (8, 0, 1152921504606846976)] [((-1), [(0, (-1)), (6, 1)]), ((-1), [(1, (-1)), (6, 1)])] [(0, .inr (.inr (.inl (some 94)))), (1, .inl (0, [(0, 1)])), (2, .inl (0, [(1, 1)])), (3, .inl (0, [(2, 1)])), (4, .inl (0, [(3, 1)])), (5, .inl (0, [(4, 1)])), (6, .inl (0, [(5, 1)]))] [.inr (.inl (0, [(8, 1)])), .inr (.inr (.inl (some 94)))] [(19978, (0, []), (0, [(6, 1)])), (19977, (0, []), (0, [(7, 1)])), (61000, (0, [(0, 1), (1, (-1))]), (1, []))] [20017] 6 [] [([], 9, [(0, 0, 119), (1, 0, 119), (2, 0, 5), (3, 0, 9), (4, (-2147483648), (-1)), (5, (-2147483648), 2147483647), (6, 0, 120), (7, 0, 399), (8, 0, 1152921504606846976)], [], [], [.inl ((-2), [])], [])] = true := by decide +kernel
theorem xwpg9 {cst : am_K} {strs : List Nat} {Φ : am_Q → Prop} {D : Nat} {M : am_M} {h : am_H} {l : am_L} (c : hp_C cst strs D) (hM : m_P[336]? = some M) (hD : (6 : Int) ≤ (D : Int) + 1) (hy : ly_hy m_tt ly_TH h) (p q s y d w u g vv : Int) (x0 : Int64) (hx0 : x0.toInt = (vv)) (b0 : 0 ≤ p) (t0 : p ≤ 119) (b1 : 0 ≤ q) (t1 : q ≤ 119) (b2 : 0 ≤ s) (t2 : s ≤ 5) (b3 : 0 ≤ y) (t3 : y ≤ 9) (b4 : (-2147483648) ≤ d) (t4 : d ≤ (-1)) (b5 : (-2147483648) ≤ w) (t5 : w ≤ 2147483647) (b6 : 0 ≤ u) (t6 : u ≤ 120) (b7 : 0 ≤ g) (t7 : g ≤ 399) (b8 : 0 ≤ vv) (t8 : vv ≤ 1152921504606846976) (f0 : 0 ≤ (u - p - 1)) (f1 : 0 ≤ (u - q - 1)) (k0 : ly_hv cst h 19978 0 = some (u)) (k1 : ly_hv cst h 19977 0 = some (g)) (k2 : ly_hv cst h 61000 (p - q) = some 1) (l0 : hp_a l 0 94) (l1 : hp_i l 1 (p)) (l2 : hp_i l 2 (q)) (l3 : hp_i l 3 (s)) (l4 : hp_i l 4 (y)) (l5 : hp_i l 5 (d)) (l6 : hp_i l 6 (w)) (r0 : ∀ (h' : am_H) (y0 : Int32), y0.toInt = (-2) → ly_hy m_tt ly_TH h' → ly_fr cst [20017] h h' → h.length ≤ h'.length → Φ (some (.int y0), h', 0, 0)) : hp_F cst strs Φ D M 5 l [.long x0, .ref 94] h := by
  refine hp_arc c hM xwpg9_k hD [p, q, s, y, d, w, u, g, vv] rfl hy (hp_Bc (z := p) rfl b0 t0 (hp_Bc (z := q) rfl b1 t1 (hp_Bc (z := s) rfl b2 t2 (hp_Bc (z := y) rfl b3 t3 (hp_Bc (z := d) rfl b4 t4 (hp_Bc (z := w) rfl b5 t5 (hp_Bc (z := u) rfl b6 t6 (hp_Bc (z := g) rfl b7 t7 (hp_Bc (z := vv) rfl b8 t8 hp_Bn))))))))) (hp_Fc (z := ((-1) + ((-1) * p + (1 * u + 0)))) rfl (by omega) (hp_Fc (z := ((-1) + ((-1) * q + (1 * u + 0)))) rfl (by omega) hp_Fn)) (hp_Kc (zi := (0 + 0)) (zv := (0 + (1 * u + 0))) k0 rfl rfl (by omega) (by omega) (hp_Kc (zi := (0 + 0)) (zv := (0 + (1 * g + 0))) k1 rfl rfl (by omega) (by omega) (hp_Kc (zi := (0 + (1 * p + ((-1) * q + 0)))) (zv := (1 + 0)) k2 rfl rfl (by omega) (by omega) hp_Kn))) (hp_La l0 (hp_Li (z := (0 + (1 * p + 0))) l1 rfl (by omega) (hp_Li (z := (0 + (1 * q + 0))) l2 rfl (by omega) (hp_Li (z := (0 + (1 * s + 0))) l3 rfl (by omega) (hp_Li (z := (0 + (1 * y + 0))) l4 rfl (by omega) (hp_Li (z := (0 + (1 * d + 0))) l5 rfl (by omega) (hp_Li (z := (0 + (1 * w + 0))) l6 rfl (by omega) hp_Ln))))))) (hp_Sj (z := (0 + (1 * vv + 0))) rfl (by omega) (hp_Sa trivial)) ?_ ?_
  · intro p hp ys l' st' h' hys a1 a2 a3 gZ gL gS
    cases hp
  · intro p hp ys v h' hys a1 a2 a3 gZ gS
    rcases List.mem_cons.mp hp with rfl | hp
    · obtain rfl := hp_y0 hys
      cases v with
      | none => cases gS
      | some w =>
        obtain ⟨y0, t0, s0, q0, -⟩ := hp_gSi (z := ((-2) + 0)) gS rfl
        cases s0
        exact r0 h' y0 (by omega) a1 a2 a3
    cases hp
theorem cwpg10_k : hp_chk 137 7 8 [(0, 0, 119), (1, 0, 119), (2, 0, 5), (3, 0, 9), (4, 0, 2147483647), (5, (-2147483648), 2147483647), (6, 0, 120), (7, 0, 399)] [((-1), [(0, (-1)), (6, 1)]), ((-1), [(1, (-1)), (6, 1)]), ((-1), [(4, 1), (7, (-1))])] [(0, .inr (.inr (.inl (some 16)))), (1, .inl (0, [(0, 1)])), (2, .inl (0, [(1, 1)])), (3, .inl (0, [(2, 1)])), (4, .inl (0, [(3, 1)])), (5, .inl (0, [(4, 1)])), (6, .inl (0, [(5, 1)]))] [] [(1536, (0, []), (0, [(6, 1)])), (10, (0, []), (0, [(7, 1)])), (61000, (0, [(0, 1), (1, (-1))]), (1, []))] [] 6 [] [([], 8, [(0, 0, 119), (1, 0, 119), (2, 0, 5), (3, 0, 9), (4, 0, 2147483647), (5, (-2147483648), 2147483647), (6, 0, 120), (7, 0, 399)], [], [], [.inl ((-2), [])], [])] = true := by decide +kernel
theorem cwpg10 {cst : am_K} {strs : List Nat} {Φ : am_Q → Prop} {D : Nat} {M : am_M} {h : am_H} {l : am_L} (c : hp_C cst strs D) (hM : m_P[137]? = some M) (hD : (6 : Int) ≤ (D : Int) + 1) (hy : ly_hy m_tt ly_TH h) (p q s y d w u g : Int) (b0 : 0 ≤ p) (t0 : p ≤ 119) (b1 : 0 ≤ q) (t1 : q ≤ 119) (b2 : 0 ≤ s) (t2 : s ≤ 5) (b3 : 0 ≤ y) (t3 : y ≤ 9) (b4 : 0 ≤ d) (t4 : d ≤ 2147483647) (b5 : (-2147483648) ≤ w) (t5 : w ≤ 2147483647) (b6 : 0 ≤ u) (t6 : u ≤ 120) (b7 : 0 ≤ g) (t7 : g ≤ 399) (f0 : 0 ≤ (u - p - 1)) (f1 : 0 ≤ (u - q - 1)) (f2 : 0 ≤ (d - g - 1)) (k0 : ly_hv cst h 1536 0 = some (u)) (k1 : ly_hv cst h 10 0 = some (g)) (k2 : ly_hv cst h 61000 (p - q) = some 1) (l0 : hp_a l 0 16) (l1 : hp_i l 1 (p)) (l2 : hp_i l 2 (q)) (l3 : hp_i l 3 (s)) (l4 : hp_i l 4 (y)) (l5 : hp_i l 5 (d)) (l6 : hp_i l 6 (w)) (r0 : ∀ (h' : am_H) (y0 : Int32), y0.toInt = (-2) → ly_hy m_tt ly_TH h' → ly_fr cst [] h h' → h.length ≤ h'.length → Φ (some (.int y0), h', 0, 0)) : hp_F cst strs Φ D M 7 l [] h := by
  refine hp_arc c hM cwpg10_k hD [p, q, s, y, d, w, u, g] rfl hy (hp_Bc (z := p) rfl b0 t0 (hp_Bc (z := q) rfl b1 t1 (hp_Bc (z := s) rfl b2 t2 (hp_Bc (z := y) rfl b3 t3 (hp_Bc (z := d) rfl b4 t4 (hp_Bc (z := w) rfl b5 t5 (hp_Bc (z := u) rfl b6 t6 (hp_Bc (z := g) rfl b7 t7 hp_Bn)))))))) (hp_Fc (z := ((-1) + ((-1) * p + (1 * u + 0)))) rfl (by omega) (hp_Fc (z := ((-1) + ((-1) * q + (1 * u + 0)))) rfl (by omega) (hp_Fc (z := ((-1) + (1 * d + ((-1) * g + 0)))) rfl (by omega) hp_Fn))) (hp_Kc (zi := (0 + 0)) (zv := (0 + (1 * u + 0))) k0 rfl rfl (by omega) (by omega) (hp_Kc (zi := (0 + 0)) (zv := (0 + (1 * g + 0))) k1 rfl rfl (by omega) (by omega) (hp_Kc (zi := (0 + (1 * p + ((-1) * q + 0)))) (zv := (1 + 0)) k2 rfl rfl (by omega) (by omega) hp_Kn))) (hp_La l0 (hp_Li (z := (0 + (1 * p + 0))) l1 rfl (by omega) (hp_Li (z := (0 + (1 * q + 0))) l2 rfl (by omega) (hp_Li (z := (0 + (1 * s + 0))) l3 rfl (by omega) (hp_Li (z := (0 + (1 * y + 0))) l4 rfl (by omega) (hp_Li (z := (0 + (1 * d + 0))) l5 rfl (by omega) (hp_Li (z := (0 + (1 * w + 0))) l6 rfl (by omega) hp_Ln))))))) trivial ?_ ?_
  · intro p hp ys l' st' h' hys a1 a2 a3 gZ gL gS
    cases hp
  · intro p hp ys v h' hys a1 a2 a3 gZ gS
    rcases List.mem_cons.mp hp with rfl | hp
    · obtain rfl := hp_y0 hys
      cases v with
      | none => cases gS
      | some w =>
        obtain ⟨y0, t0, s0, q0, -⟩ := hp_gSi (z := ((-2) + 0)) gS rfl
        cases s0
        exact r0 h' y0 (by omega) a1 a2 a3
    cases hp
theorem xwpg10_k : hp_chk 336 5 9 [(0, 0, 119), (1, 0, 119), (2, 0, 5), (3, 0, 9), (4, 0, 2147483647), (5, (-2147483648), 2147483647), (6, 0, 120), (7, 0, 399), (8, 0, 1152921504606846976)] [((-1), [(0, (-1)), (6, 1)]), ((-1), [(1, (-1)), (6, 1)]), ((-1), [(4, 1), (7, (-1))])] [(0, .inr (.inr (.inl (some 94)))), (1, .inl (0, [(0, 1)])), (2, .inl (0, [(1, 1)])), (3, .inl (0, [(2, 1)])), (4, .inl (0, [(3, 1)])), (5, .inl (0, [(4, 1)])), (6, .inl (0, [(5, 1)]))] [.inr (.inl (0, [(8, 1)])), .inr (.inr (.inl (some 94)))] [(19978, (0, []), (0, [(6, 1)])), (19977, (0, []), (0, [(7, 1)])), (61000, (0, [(0, 1), (1, (-1))]), (1, []))] [20017] 6 [] [([], 9, [(0, 0, 119), (1, 0, 119), (2, 0, 5), (3, 0, 9), (4, 0, 2147483647), (5, (-2147483648), 2147483647), (6, 0, 120), (7, 0, 399), (8, 0, 1152921504606846976)], [], [], [.inl ((-2), [])], [])] = true := by decide +kernel
theorem xwpg10 {cst : am_K} {strs : List Nat} {Φ : am_Q → Prop} {D : Nat} {M : am_M} {h : am_H} {l : am_L} (c : hp_C cst strs D) (hM : m_P[336]? = some M) (hD : (6 : Int) ≤ (D : Int) + 1) (hy : ly_hy m_tt ly_TH h) (p q s y d w u g vv : Int) (x0 : Int64) (hx0 : x0.toInt = (vv)) (b0 : 0 ≤ p) (t0 : p ≤ 119) (b1 : 0 ≤ q) (t1 : q ≤ 119) (b2 : 0 ≤ s) (t2 : s ≤ 5) (b3 : 0 ≤ y) (t3 : y ≤ 9) (b4 : 0 ≤ d) (t4 : d ≤ 2147483647) (b5 : (-2147483648) ≤ w) (t5 : w ≤ 2147483647) (b6 : 0 ≤ u) (t6 : u ≤ 120) (b7 : 0 ≤ g) (t7 : g ≤ 399) (b8 : 0 ≤ vv) (t8 : vv ≤ 1152921504606846976) (f0 : 0 ≤ (u - p - 1)) (f1 : 0 ≤ (u - q - 1)) (f2 : 0 ≤ (d - g - 1)) (k0 : ly_hv cst h 19978 0 = some (u)) (k1 : ly_hv cst h 19977 0 = some (g)) (k2 : ly_hv cst h 61000 (p - q) = some 1) (l0 : hp_a l 0 94) (l1 : hp_i l 1 (p)) (l2 : hp_i l 2 (q)) (l3 : hp_i l 3 (s)) (l4 : hp_i l 4 (y)) (l5 : hp_i l 5 (d)) (l6 : hp_i l 6 (w)) (r0 : ∀ (h' : am_H) (y0 : Int32), y0.toInt = (-2) → ly_hy m_tt ly_TH h' → ly_fr cst [20017] h h' → h.length ≤ h'.length → Φ (some (.int y0), h', 0, 0)) : hp_F cst strs Φ D M 5 l [.long x0, .ref 94] h := by
  refine hp_arc c hM xwpg10_k hD [p, q, s, y, d, w, u, g, vv] rfl hy (hp_Bc (z := p) rfl b0 t0 (hp_Bc (z := q) rfl b1 t1 (hp_Bc (z := s) rfl b2 t2 (hp_Bc (z := y) rfl b3 t3 (hp_Bc (z := d) rfl b4 t4 (hp_Bc (z := w) rfl b5 t5 (hp_Bc (z := u) rfl b6 t6 (hp_Bc (z := g) rfl b7 t7 (hp_Bc (z := vv) rfl b8 t8 hp_Bn))))))))) (hp_Fc (z := ((-1) + ((-1) * p + (1 * u + 0)))) rfl (by omega) (hp_Fc (z := ((-1) + ((-1) * q + (1 * u + 0)))) rfl (by omega) (hp_Fc (z := ((-1) + (1 * d + ((-1) * g + 0)))) rfl (by omega) hp_Fn))) (hp_Kc (zi := (0 + 0)) (zv := (0 + (1 * u + 0))) k0 rfl rfl (by omega) (by omega) (hp_Kc (zi := (0 + 0)) (zv := (0 + (1 * g + 0))) k1 rfl rfl (by omega) (by omega) (hp_Kc (zi := (0 + (1 * p + ((-1) * q + 0)))) (zv := (1 + 0)) k2 rfl rfl (by omega) (by omega) hp_Kn))) (hp_La l0 (hp_Li (z := (0 + (1 * p + 0))) l1 rfl (by omega) (hp_Li (z := (0 + (1 * q + 0))) l2 rfl (by omega) (hp_Li (z := (0 + (1 * s + 0))) l3 rfl (by omega) (hp_Li (z := (0 + (1 * y + 0))) l4 rfl (by omega) (hp_Li (z := (0 + (1 * d + 0))) l5 rfl (by omega) (hp_Li (z := (0 + (1 * w + 0))) l6 rfl (by omega) hp_Ln))))))) (hp_Sj (z := (0 + (1 * vv + 0))) rfl (by omega) (hp_Sa trivial)) ?_ ?_
  · intro p hp ys l' st' h' hys a1 a2 a3 gZ gL gS
    cases hp
  · intro p hp ys v h' hys a1 a2 a3 gZ gS
    rcases List.mem_cons.mp hp with rfl | hp
    · obtain rfl := hp_y0 hys
      cases v with
      | none => cases gS
      | some w =>
        obtain ⟨y0, t0, s0, q0, -⟩ := hp_gSi (z := ((-2) + 0)) gS rfl
        cases s0
        exact r0 h' y0 (by omega) a1 a2 a3
    cases hp
theorem cwpg11_k : hp_chk 137 7 8 [(0, 0, 119), (1, 0, 119), (2, 0, 5), (3, 0, 9), (4, 0, 399), (5, (-2147483648), 0), (6, 0, 120), (7, 0, 399)] [((-1), [(0, (-1)), (6, 1)]), ((-1), [(1, (-1)), (6, 1)]), (0, [(4, (-1)), (7, 1)])] [(0, .inr (.inr (.inl (some 16)))), (1, .inl (0, [(0, 1)])), (2, .inl (0, [(1, 1)])), (3, .inl (0, [(2, 1)])), (4, .inl (0, [(3, 1)])), (5, .inl (0, [(4, 1)])), (6, .inl (0, [(5, 1)]))] [] [(1536, (0, []), (0, [(6, 1)])), (10, (0, []), (0, [(7, 1)])), (61000, (0, [(0, 1), (1, (-1))]), (1, []))] [] 6 [] [([], 8, [(0, 0, 119), (1, 0, 119), (2, 0, 5), (3, 0, 9), (4, 0, 399), (5, (-2147483648), 0), (6, 0, 120), (7, 0, 399)], [], [], [.inl ((-2), [])], [])] = true := by decide +kernel
theorem cwpg11 {cst : am_K} {strs : List Nat} {Φ : am_Q → Prop} {D : Nat} {M : am_M} {h : am_H} {l : am_L} (c : hp_C cst strs D) (hM : m_P[137]? = some M) (hD : (6 : Int) ≤ (D : Int) + 1) (hy : ly_hy m_tt ly_TH h) (p q s y d w u g : Int) (b0 : 0 ≤ p) (t0 : p ≤ 119) (b1 : 0 ≤ q) (t1 : q ≤ 119) (b2 : 0 ≤ s) (t2 : s ≤ 5) (b3 : 0 ≤ y) (t3 : y ≤ 9) (b4 : 0 ≤ d) (t4 : d ≤ 399) (b5 : (-2147483648) ≤ w) (t5 : w ≤ 0) (b6 : 0 ≤ u) (t6 : u ≤ 120) (b7 : 0 ≤ g) (t7 : g ≤ 399) (f0 : 0 ≤ (u - p - 1)) (f1 : 0 ≤ (u - q - 1)) (f2 : 0 ≤ (g - d)) (k0 : ly_hv cst h 1536 0 = some (u)) (k1 : ly_hv cst h 10 0 = some (g)) (k2 : ly_hv cst h 61000 (p - q) = some 1) (l0 : hp_a l 0 16) (l1 : hp_i l 1 (p)) (l2 : hp_i l 2 (q)) (l3 : hp_i l 3 (s)) (l4 : hp_i l 4 (y)) (l5 : hp_i l 5 (d)) (l6 : hp_i l 6 (w)) (r0 : ∀ (h' : am_H) (y0 : Int32), y0.toInt = (-2) → ly_hy m_tt ly_TH h' → ly_fr cst [] h h' → h.length ≤ h'.length → Φ (some (.int y0), h', 0, 0)) : hp_F cst strs Φ D M 7 l [] h := by
  refine hp_arc c hM cwpg11_k hD [p, q, s, y, d, w, u, g] rfl hy (hp_Bc (z := p) rfl b0 t0 (hp_Bc (z := q) rfl b1 t1 (hp_Bc (z := s) rfl b2 t2 (hp_Bc (z := y) rfl b3 t3 (hp_Bc (z := d) rfl b4 t4 (hp_Bc (z := w) rfl b5 t5 (hp_Bc (z := u) rfl b6 t6 (hp_Bc (z := g) rfl b7 t7 hp_Bn)))))))) (hp_Fc (z := ((-1) + ((-1) * p + (1 * u + 0)))) rfl (by omega) (hp_Fc (z := ((-1) + ((-1) * q + (1 * u + 0)))) rfl (by omega) (hp_Fc (z := (0 + ((-1) * d + (1 * g + 0)))) rfl (by omega) hp_Fn))) (hp_Kc (zi := (0 + 0)) (zv := (0 + (1 * u + 0))) k0 rfl rfl (by omega) (by omega) (hp_Kc (zi := (0 + 0)) (zv := (0 + (1 * g + 0))) k1 rfl rfl (by omega) (by omega) (hp_Kc (zi := (0 + (1 * p + ((-1) * q + 0)))) (zv := (1 + 0)) k2 rfl rfl (by omega) (by omega) hp_Kn))) (hp_La l0 (hp_Li (z := (0 + (1 * p + 0))) l1 rfl (by omega) (hp_Li (z := (0 + (1 * q + 0))) l2 rfl (by omega) (hp_Li (z := (0 + (1 * s + 0))) l3 rfl (by omega) (hp_Li (z := (0 + (1 * y + 0))) l4 rfl (by omega) (hp_Li (z := (0 + (1 * d + 0))) l5 rfl (by omega) (hp_Li (z := (0 + (1 * w + 0))) l6 rfl (by omega) hp_Ln))))))) trivial ?_ ?_
  · intro p hp ys l' st' h' hys a1 a2 a3 gZ gL gS
    cases hp
  · intro p hp ys v h' hys a1 a2 a3 gZ gS
    rcases List.mem_cons.mp hp with rfl | hp
    · obtain rfl := hp_y0 hys
      cases v with
      | none => cases gS
      | some w =>
        obtain ⟨y0, t0, s0, q0, -⟩ := hp_gSi (z := ((-2) + 0)) gS rfl
        cases s0
        exact r0 h' y0 (by omega) a1 a2 a3
    cases hp
theorem xwpg11_k : hp_chk 336 5 9 [(0, 0, 119), (1, 0, 119), (2, 0, 5), (3, 0, 9), (4, 0, 399), (5, (-2147483648), 0), (6, 0, 120), (7, 0, 399), (8, 0, 1152921504606846976)] [((-1), [(0, (-1)), (6, 1)]), ((-1), [(1, (-1)), (6, 1)]), (0, [(4, (-1)), (7, 1)])] [(0, .inr (.inr (.inl (some 94)))), (1, .inl (0, [(0, 1)])), (2, .inl (0, [(1, 1)])), (3, .inl (0, [(2, 1)])), (4, .inl (0, [(3, 1)])), (5, .inl (0, [(4, 1)])), (6, .inl (0, [(5, 1)]))] [.inr (.inl (0, [(8, 1)])), .inr (.inr (.inl (some 94)))] [(19978, (0, []), (0, [(6, 1)])), (19977, (0, []), (0, [(7, 1)])), (61000, (0, [(0, 1), (1, (-1))]), (1, []))] [20017] 6 [] [([], 9, [(0, 0, 119), (1, 0, 119), (2, 0, 5), (3, 0, 9), (4, 0, 399), (5, (-2147483648), 0), (6, 0, 120), (7, 0, 399), (8, 0, 1152921504606846976)], [], [], [.inl ((-2), [])], [])] = true := by decide +kernel
theorem xwpg11 {cst : am_K} {strs : List Nat} {Φ : am_Q → Prop} {D : Nat} {M : am_M} {h : am_H} {l : am_L} (c : hp_C cst strs D) (hM : m_P[336]? = some M) (hD : (6 : Int) ≤ (D : Int) + 1) (hy : ly_hy m_tt ly_TH h) (p q s y d w u g vv : Int) (x0 : Int64) (hx0 : x0.toInt = (vv)) (b0 : 0 ≤ p) (t0 : p ≤ 119) (b1 : 0 ≤ q) (t1 : q ≤ 119) (b2 : 0 ≤ s) (t2 : s ≤ 5) (b3 : 0 ≤ y) (t3 : y ≤ 9) (b4 : 0 ≤ d) (t4 : d ≤ 399) (b5 : (-2147483648) ≤ w) (t5 : w ≤ 0) (b6 : 0 ≤ u) (t6 : u ≤ 120) (b7 : 0 ≤ g) (t7 : g ≤ 399) (b8 : 0 ≤ vv) (t8 : vv ≤ 1152921504606846976) (f0 : 0 ≤ (u - p - 1)) (f1 : 0 ≤ (u - q - 1)) (f2 : 0 ≤ (g - d)) (k0 : ly_hv cst h 19978 0 = some (u)) (k1 : ly_hv cst h 19977 0 = some (g)) (k2 : ly_hv cst h 61000 (p - q) = some 1) (l0 : hp_a l 0 94) (l1 : hp_i l 1 (p)) (l2 : hp_i l 2 (q)) (l3 : hp_i l 3 (s)) (l4 : hp_i l 4 (y)) (l5 : hp_i l 5 (d)) (l6 : hp_i l 6 (w)) (r0 : ∀ (h' : am_H) (y0 : Int32), y0.toInt = (-2) → ly_hy m_tt ly_TH h' → ly_fr cst [20017] h h' → h.length ≤ h'.length → Φ (some (.int y0), h', 0, 0)) : hp_F cst strs Φ D M 5 l [.long x0, .ref 94] h := by
  refine hp_arc c hM xwpg11_k hD [p, q, s, y, d, w, u, g, vv] rfl hy (hp_Bc (z := p) rfl b0 t0 (hp_Bc (z := q) rfl b1 t1 (hp_Bc (z := s) rfl b2 t2 (hp_Bc (z := y) rfl b3 t3 (hp_Bc (z := d) rfl b4 t4 (hp_Bc (z := w) rfl b5 t5 (hp_Bc (z := u) rfl b6 t6 (hp_Bc (z := g) rfl b7 t7 (hp_Bc (z := vv) rfl b8 t8 hp_Bn))))))))) (hp_Fc (z := ((-1) + ((-1) * p + (1 * u + 0)))) rfl (by omega) (hp_Fc (z := ((-1) + ((-1) * q + (1 * u + 0)))) rfl (by omega) (hp_Fc (z := (0 + ((-1) * d + (1 * g + 0)))) rfl (by omega) hp_Fn))) (hp_Kc (zi := (0 + 0)) (zv := (0 + (1 * u + 0))) k0 rfl rfl (by omega) (by omega) (hp_Kc (zi := (0 + 0)) (zv := (0 + (1 * g + 0))) k1 rfl rfl (by omega) (by omega) (hp_Kc (zi := (0 + (1 * p + ((-1) * q + 0)))) (zv := (1 + 0)) k2 rfl rfl (by omega) (by omega) hp_Kn))) (hp_La l0 (hp_Li (z := (0 + (1 * p + 0))) l1 rfl (by omega) (hp_Li (z := (0 + (1 * q + 0))) l2 rfl (by omega) (hp_Li (z := (0 + (1 * s + 0))) l3 rfl (by omega) (hp_Li (z := (0 + (1 * y + 0))) l4 rfl (by omega) (hp_Li (z := (0 + (1 * d + 0))) l5 rfl (by omega) (hp_Li (z := (0 + (1 * w + 0))) l6 rfl (by omega) hp_Ln))))))) (hp_Sj (z := (0 + (1 * vv + 0))) rfl (by omega) (hp_Sa trivial)) ?_ ?_
  · intro p hp ys l' st' h' hys a1 a2 a3 gZ gL gS
    cases hp
  · intro p hp ys v h' hys a1 a2 a3 gZ gS
    rcases List.mem_cons.mp hp with rfl | hp
    · obtain rfl := hp_y0 hys
      cases v with
      | none => cases gS
      | some w =>
        obtain ⟨y0, t0, s0, q0, -⟩ := hp_gSi (z := ((-2) + 0)) gS rfl
        cases s0
        exact r0 h' y0 (by omega) a1 a2 a3
    cases hp
theorem cwpg12_k : hp_chk 137 7 8 [(0, 0, 119), (1, 0, 119), (2, 0, 5), (3, 0, 9), (4, 0, 399), (5, 10000, 2147483647), (6, 0, 120), (7, 0, 399)] [((-1), [(0, (-1)), (6, 1)]), ((-1), [(1, (-1)), (6, 1)]), (0, [(4, (-1)), (7, 1)])] [(0, .inr (.inr (.inl (some 16)))), (1, .inl (0, [(0, 1)])), (2, .inl (0, [(1, 1)])), (3, .inl (0, [(2, 1)])), (4, .inl (0, [(3, 1)])), (5, .inl (0, [(4, 1)])), (6, .inl (0, [(5, 1)]))] [] [(1536, (0, []), (0, [(6, 1)])), (10, (0, []), (0, [(7, 1)])), (61000, (0, [(0, 1), (1, (-1))]), (1, []))] [] 6 [] [([], 8, [(0, 0, 119), (1, 0, 119), (2, 0, 5), (3, 0, 9), (4, 0, 399), (5, 10000, 2147483647), (6, 0, 120), (7, 0, 399)], [], [], [.inl ((-2), [])], [])] = true := by decide +kernel
theorem cwpg12 {cst : am_K} {strs : List Nat} {Φ : am_Q → Prop} {D : Nat} {M : am_M} {h : am_H} {l : am_L} (c : hp_C cst strs D) (hM : m_P[137]? = some M) (hD : (6 : Int) ≤ (D : Int) + 1) (hy : ly_hy m_tt ly_TH h) (p q s y d w u g : Int) (b0 : 0 ≤ p) (t0 : p ≤ 119) (b1 : 0 ≤ q) (t1 : q ≤ 119) (b2 : 0 ≤ s) (t2 : s ≤ 5) (b3 : 0 ≤ y) (t3 : y ≤ 9) (b4 : 0 ≤ d) (t4 : d ≤ 399) (b5 : 10000 ≤ w) (t5 : w ≤ 2147483647) (b6 : 0 ≤ u) (t6 : u ≤ 120) (b7 : 0 ≤ g) (t7 : g ≤ 399) (f0 : 0 ≤ (u - p - 1)) (f1 : 0 ≤ (u - q - 1)) (f2 : 0 ≤ (g - d)) (k0 : ly_hv cst h 1536 0 = some (u)) (k1 : ly_hv cst h 10 0 = some (g)) (k2 : ly_hv cst h 61000 (p - q) = some 1) (l0 : hp_a l 0 16) (l1 : hp_i l 1 (p)) (l2 : hp_i l 2 (q)) (l3 : hp_i l 3 (s)) (l4 : hp_i l 4 (y)) (l5 : hp_i l 5 (d)) (l6 : hp_i l 6 (w)) (r0 : ∀ (h' : am_H) (y0 : Int32), y0.toInt = (-2) → ly_hy m_tt ly_TH h' → ly_fr cst [] h h' → h.length ≤ h'.length → Φ (some (.int y0), h', 0, 0)) : hp_F cst strs Φ D M 7 l [] h := by
  refine hp_arc c hM cwpg12_k hD [p, q, s, y, d, w, u, g] rfl hy (hp_Bc (z := p) rfl b0 t0 (hp_Bc (z := q) rfl b1 t1 (hp_Bc (z := s) rfl b2 t2 (hp_Bc (z := y) rfl b3 t3 (hp_Bc (z := d) rfl b4 t4 (hp_Bc (z := w) rfl b5 t5 (hp_Bc (z := u) rfl b6 t6 (hp_Bc (z := g) rfl b7 t7 hp_Bn)))))))) (hp_Fc (z := ((-1) + ((-1) * p + (1 * u + 0)))) rfl (by omega) (hp_Fc (z := ((-1) + ((-1) * q + (1 * u + 0)))) rfl (by omega) (hp_Fc (z := (0 + ((-1) * d + (1 * g + 0)))) rfl (by omega) hp_Fn))) (hp_Kc (zi := (0 + 0)) (zv := (0 + (1 * u + 0))) k0 rfl rfl (by omega) (by omega) (hp_Kc (zi := (0 + 0)) (zv := (0 + (1 * g + 0))) k1 rfl rfl (by omega) (by omega) (hp_Kc (zi := (0 + (1 * p + ((-1) * q + 0)))) (zv := (1 + 0)) k2 rfl rfl (by omega) (by omega) hp_Kn))) (hp_La l0 (hp_Li (z := (0 + (1 * p + 0))) l1 rfl (by omega) (hp_Li (z := (0 + (1 * q + 0))) l2 rfl (by omega) (hp_Li (z := (0 + (1 * s + 0))) l3 rfl (by omega) (hp_Li (z := (0 + (1 * y + 0))) l4 rfl (by omega) (hp_Li (z := (0 + (1 * d + 0))) l5 rfl (by omega) (hp_Li (z := (0 + (1 * w + 0))) l6 rfl (by omega) hp_Ln))))))) trivial ?_ ?_
  · intro p hp ys l' st' h' hys a1 a2 a3 gZ gL gS
    cases hp
  · intro p hp ys v h' hys a1 a2 a3 gZ gS
    rcases List.mem_cons.mp hp with rfl | hp
    · obtain rfl := hp_y0 hys
      cases v with
      | none => cases gS
      | some w =>
        obtain ⟨y0, t0, s0, q0, -⟩ := hp_gSi (z := ((-2) + 0)) gS rfl
        cases s0
        exact r0 h' y0 (by omega) a1 a2 a3
    cases hp
theorem xwpg12_k : hp_chk 336 5 9 [(0, 0, 119), (1, 0, 119), (2, 0, 5), (3, 0, 9), (4, 0, 399), (5, 10000, 2147483647), (6, 0, 120), (7, 0, 399), (8, 0, 1152921504606846976)] [((-1), [(0, (-1)), (6, 1)]), ((-1), [(1, (-1)), (6, 1)]), (0, [(4, (-1)), (7, 1)])] [(0, .inr (.inr (.inl (some 94)))), (1, .inl (0, [(0, 1)])), (2, .inl (0, [(1, 1)])), (3, .inl (0, [(2, 1)])), (4, .inl (0, [(3, 1)])), (5, .inl (0, [(4, 1)])), (6, .inl (0, [(5, 1)]))] [.inr (.inl (0, [(8, 1)])), .inr (.inr (.inl (some 94)))] [(19978, (0, []), (0, [(6, 1)])), (19977, (0, []), (0, [(7, 1)])), (61000, (0, [(0, 1), (1, (-1))]), (1, []))] [20017] 6 [] [([], 9, [(0, 0, 119), (1, 0, 119), (2, 0, 5), (3, 0, 9), (4, 0, 399), (5, 10000, 2147483647), (6, 0, 120), (7, 0, 399), (8, 0, 1152921504606846976)], [], [], [.inl ((-2), [])], [])] = true := by decide +kernel
theorem xwpg12 {cst : am_K} {strs : List Nat} {Φ : am_Q → Prop} {D : Nat} {M : am_M} {h : am_H} {l : am_L} (c : hp_C cst strs D) (hM : m_P[336]? = some M) (hD : (6 : Int) ≤ (D : Int) + 1) (hy : ly_hy m_tt ly_TH h) (p q s y d w u g vv : Int) (x0 : Int64) (hx0 : x0.toInt = (vv)) (b0 : 0 ≤ p) (t0 : p ≤ 119) (b1 : 0 ≤ q) (t1 : q ≤ 119) (b2 : 0 ≤ s) (t2 : s ≤ 5) (b3 : 0 ≤ y) (t3 : y ≤ 9) (b4 : 0 ≤ d) (t4 : d ≤ 399) (b5 : 10000 ≤ w) (t5 : w ≤ 2147483647) (b6 : 0 ≤ u) (t6 : u ≤ 120) (b7 : 0 ≤ g) (t7 : g ≤ 399) (b8 : 0 ≤ vv) (t8 : vv ≤ 1152921504606846976) (f0 : 0 ≤ (u - p - 1)) (f1 : 0 ≤ (u - q - 1)) (f2 : 0 ≤ (g - d)) (k0 : ly_hv cst h 19978 0 = some (u)) (k1 : ly_hv cst h 19977 0 = some (g)) (k2 : ly_hv cst h 61000 (p - q) = some 1) (l0 : hp_a l 0 94) (l1 : hp_i l 1 (p)) (l2 : hp_i l 2 (q)) (l3 : hp_i l 3 (s)) (l4 : hp_i l 4 (y)) (l5 : hp_i l 5 (d)) (l6 : hp_i l 6 (w)) (r0 : ∀ (h' : am_H) (y0 : Int32), y0.toInt = (-2) → ly_hy m_tt ly_TH h' → ly_fr cst [20017] h h' → h.length ≤ h'.length → Φ (some (.int y0), h', 0, 0)) : hp_F cst strs Φ D M 5 l [.long x0, .ref 94] h := by
  refine hp_arc c hM xwpg12_k hD [p, q, s, y, d, w, u, g, vv] rfl hy (hp_Bc (z := p) rfl b0 t0 (hp_Bc (z := q) rfl b1 t1 (hp_Bc (z := s) rfl b2 t2 (hp_Bc (z := y) rfl b3 t3 (hp_Bc (z := d) rfl b4 t4 (hp_Bc (z := w) rfl b5 t5 (hp_Bc (z := u) rfl b6 t6 (hp_Bc (z := g) rfl b7 t7 (hp_Bc (z := vv) rfl b8 t8 hp_Bn))))))))) (hp_Fc (z := ((-1) + ((-1) * p + (1 * u + 0)))) rfl (by omega) (hp_Fc (z := ((-1) + ((-1) * q + (1 * u + 0)))) rfl (by omega) (hp_Fc (z := (0 + ((-1) * d + (1 * g + 0)))) rfl (by omega) hp_Fn))) (hp_Kc (zi := (0 + 0)) (zv := (0 + (1 * u + 0))) k0 rfl rfl (by omega) (by omega) (hp_Kc (zi := (0 + 0)) (zv := (0 + (1 * g + 0))) k1 rfl rfl (by omega) (by omega) (hp_Kc (zi := (0 + (1 * p + ((-1) * q + 0)))) (zv := (1 + 0)) k2 rfl rfl (by omega) (by omega) hp_Kn))) (hp_La l0 (hp_Li (z := (0 + (1 * p + 0))) l1 rfl (by omega) (hp_Li (z := (0 + (1 * q + 0))) l2 rfl (by omega) (hp_Li (z := (0 + (1 * s + 0))) l3 rfl (by omega) (hp_Li (z := (0 + (1 * y + 0))) l4 rfl (by omega) (hp_Li (z := (0 + (1 * d + 0))) l5 rfl (by omega) (hp_Li (z := (0 + (1 * w + 0))) l6 rfl (by omega) hp_Ln))))))) (hp_Sj (z := (0 + (1 * vv + 0))) rfl (by omega) (hp_Sa trivial)) ?_ ?_
  · intro p hp ys l' st' h' hys a1 a2 a3 gZ gL gS
    cases hp
  · intro p hp ys v h' hys a1 a2 a3 gZ gS
    rcases List.mem_cons.mp hp with rfl | hp
    · obtain rfl := hp_y0 hys
      cases v with
      | none => cases gS
      | some w =>
        obtain ⟨y0, t0, s0, q0, -⟩ := hp_gSi (z := ((-2) + 0)) gS rfl
        cases s0
        exact r0 h' y0 (by omega) a1 a2 a3
    cases hp
theorem cwpk_k : hp_chk 137 7 8 [(0, 0, 119), (1, 0, 119), (2, 0, 5), (3, 0, 9), (4, 0, 399), (5, 1, 9999), (6, 0, 120), (7, 0, 399)] [((-1), [(0, (-1)), (6, 1)]), ((-1), [(1, (-1)), (6, 1)]), (0, [(4, (-1)), (7, 1)])] [(0, .inr (.inr (.inl (some 16)))), (1, .inl (0, [(0, 1)])), (2, .inl (0, [(1, 1)])), (3, .inl (0, [(2, 1)])), (4, .inl (0, [(3, 1)])), (5, .inl (0, [(4, 1)])), (6, .inl (0, [(5, 1)]))] [] [(1536, (0, []), (0, [(6, 1)])), (10, (0, []), (0, [(7, 1)])), (61000, (0, [(0, 1), (1, (-1))]), (1, []))] [] 6 [(71, ([], 8, [(0, 0, 119), (1, 0, 119), (2, 0, 5), (3, 0, 9), (4, 0, 399), (5, 1, 9999), (6, 0, 120), (7, 0, 399)], [], [(0, .inr (.inr (.inl (some 16))))], [.inl (0, [(5, 1)]), .inl (0, [(4, 1)]), .inl (0, [(3, 1)]), .inl (0, [(2, 1)]), .inl (0, [(1, 1)]), .inl (0, [(0, 1)]), .inr (.inr (.inl (some 16)))], []))] [] = true := by decide +kernel
theorem cwpk {cst : am_K} {strs : List Nat} {Φ : am_Q → Prop} {D : Nat} {M : am_M} {h : am_H} {l : am_L} (c : hp_C cst strs D) (hM : m_P[137]? = some M) (hD : (6 : Int) ≤ (D : Int) + 1) (hy : ly_hy m_tt ly_TH h) (p q s y d w u g : Int) (b0 : 0 ≤ p) (t0 : p ≤ 119) (b1 : 0 ≤ q) (t1 : q ≤ 119) (b2 : 0 ≤ s) (t2 : s ≤ 5) (b3 : 0 ≤ y) (t3 : y ≤ 9) (b4 : 0 ≤ d) (t4 : d ≤ 399) (b5 : 1 ≤ w) (t5 : w ≤ 9999) (b6 : 0 ≤ u) (t6 : u ≤ 120) (b7 : 0 ≤ g) (t7 : g ≤ 399) (f0 : 0 ≤ (u - p - 1)) (f1 : 0 ≤ (u - q - 1)) (f2 : 0 ≤ (g - d)) (k0 : ly_hv cst h 1536 0 = some (u)) (k1 : ly_hv cst h 10 0 = some (g)) (k2 : ly_hv cst h 61000 (p - q) = some 1) (l0 : hp_a l 0 16) (l1 : hp_i l 1 (p)) (l2 : hp_i l 2 (q)) (l3 : hp_i l 3 (s)) (l4 : hp_i l 4 (y)) (l5 : hp_i l 5 (d)) (l6 : hp_i l 6 (w)) (e0 : ∀ (l' : am_L) (h' : am_H) (y0 : Int32) (y1 : Int32) (y2 : Int32) (y3 : Int32) (y4 : Int32) (y5 : Int32), y0.toInt = (w) → y1.toInt = (d) → y2.toInt = (y) → y3.toInt = (s) → y4.toInt = (q) → y5.toInt = (p) → ly_hy m_tt ly_TH h' → ly_fr cst [] h h' → h.length ≤ h'.length → hp_a l' 0 16 → hp_F cst strs Φ D M 71 l' [.int y0, .int y1, .int y2, .int y3, .int y4, .int y5, .ref 16] h') : hp_F cst strs Φ D M 7 l [] h := by
  refine hp_arc c hM cwpk_k hD [p, q, s, y, d, w, u, g] rfl hy (hp_Bc (z := p) rfl b0 t0 (hp_Bc (z := q) rfl b1 t1 (hp_Bc (z := s) rfl b2 t2 (hp_Bc (z := y) rfl b3 t3 (hp_Bc (z := d) rfl b4 t4 (hp_Bc (z := w) rfl b5 t5 (hp_Bc (z := u) rfl b6 t6 (hp_Bc (z := g) rfl b7 t7 hp_Bn)))))))) (hp_Fc (z := ((-1) + ((-1) * p + (1 * u + 0)))) rfl (by omega) (hp_Fc (z := ((-1) + ((-1) * q + (1 * u + 0)))) rfl (by omega) (hp_Fc (z := (0 + ((-1) * d + (1 * g + 0)))) rfl (by omega) hp_Fn))) (hp_Kc (zi := (0 + 0)) (zv := (0 + (1 * u + 0))) k0 rfl rfl (by omega) (by omega) (hp_Kc (zi := (0 + 0)) (zv := (0 + (1 * g + 0))) k1 rfl rfl (by omega) (by omega) (hp_Kc (zi := (0 + (1 * p + ((-1) * q + 0)))) (zv := (1 + 0)) k2 rfl rfl (by omega) (by omega) hp_Kn))) (hp_La l0 (hp_Li (z := (0 + (1 * p + 0))) l1 rfl (by omega) (hp_Li (z := (0 + (1 * q + 0))) l2 rfl (by omega) (hp_Li (z := (0 + (1 * s + 0))) l3 rfl (by omega) (hp_Li (z := (0 + (1 * y + 0))) l4 rfl (by omega) (hp_Li (z := (0 + (1 * d + 0))) l5 rfl (by omega) (hp_Li (z := (0 + (1 * w + 0))) l6 rfl (by omega) hp_Ln))))))) trivial ?_ ?_
  · intro p hp ys l' st' h' hys a1 a2 a3 gZ gL gS
    rcases List.mem_cons.mp hp with rfl | hp
    · obtain rfl := hp_y0 hys
      obtain ⟨y0, t0, rfl, q0, g0⟩ := hp_gSi (z := (0 + (1 * w + 0))) gS rfl
      obtain ⟨y1, t1, rfl, q1, g1⟩ := hp_gSi (z := (0 + (1 * d + 0))) g0 rfl
      obtain ⟨y2, t2, rfl, q2, g2⟩ := hp_gSi (z := (0 + (1 * y + 0))) g1 rfl
      obtain ⟨y3, t3, rfl, q3, g3⟩ := hp_gSi (z := (0 + (1 * s + 0))) g2 rfl
      obtain ⟨y4, t4, rfl, q4, g4⟩ := hp_gSi (z := (0 + (1 * q + 0))) g3 rfl
      obtain ⟨y5, t5, rfl, q5, g5⟩ := hp_gSi (z := (0 + (1 * p + 0))) g4 rfl
      obtain ⟨t6, rfl, g6⟩ := hp_gSa g5 (by decide)
      cases hp_gSn g6
      exact e0 l' h' y0 y1 y2 y3 y4 y5 (by omega) (by omega) (by omega) (by omega) (by omega) (by omega) a1 a2 a3 (hp_gLa gL (List.mem_of_getElem? (i := 0) rfl) (by decide))
    cases hp
  · intro p hp ys v h' hys a1 a2 a3 gZ gS
    cases hp
theorem cwpr_k : hp_chk 137 74 1 [(0, (-2147483648), 2147483647)] [] [(0, .inr (.inr (.inl (some 16))))] [.inl (0, [(0, 1)])] [] [] 2 [] [([], 1, [(0, (-2147483648), 2147483647)], [], [], [.inl (0, [(0, 1)])], [])] = true := by decide +kernel
theorem cwpr {cst : am_K} {strs : List Nat} {Φ : am_Q → Prop} {D : Nat} {M : am_M} {h : am_H} {l : am_L} (c : hp_C cst strs D) (hM : m_P[137]? = some M) (hD : (2 : Int) ≤ (D : Int) + 1) (hy : ly_hy m_tt ly_TH h) (a : Int) (x0 : Int32) (hx0 : x0.toInt = (a)) (b0 : (-2147483648) ≤ a) (t0 : a ≤ 2147483647) (l0 : hp_a l 0 16) (r0 : ∀ (h' : am_H) (y0 : Int32), y0.toInt = (a) → ly_hy m_tt ly_TH h' → ly_fr cst [] h h' → h.length ≤ h'.length → Φ (some (.int y0), h', 0, 0)) : hp_F cst strs Φ D M 74 l [.int x0] h := by
  refine hp_arc c hM cwpr_k hD [a] rfl hy (hp_Bc (z := a) rfl b0 t0 hp_Bn) hp_Fn hp_Kn (hp_La l0 hp_Ln) (hp_Si (z := (0 + (1 * a + 0))) rfl (by omega) trivial) ?_ ?_
  · intro p hp ys l' st' h' hys a1 a2 a3 gZ gL gS
    cases hp
  · intro p hp ys v h' hys a1 a2 a3 gZ gS
    rcases List.mem_cons.mp hp with rfl | hp
    · obtain rfl := hp_y0 hys
      cases v with
      | none => cases gS
      | some w =>
        obtain ⟨y0, t0, s0, q0, -⟩ := hp_gSi (z := (0 + (1 * a + 0))) gS rfl
        cases s0
        exact r0 h' y0 (by omega) a1 a2 a3
    cases hp
theorem xwpn_k : hp_chk 336 5 8 [(0, 0, 119), (1, 0, 119), (2, 0, 5), (3, 0, 9), (4, 0, 399), (5, 1, 9999), (6, 0, 120), (7, 0, 399)] [((-1), [(0, (-1)), (6, 1)]), ((-1), [(1, (-1)), (6, 1)]), (0, [(4, (-1)), (7, 1)])] [(0, .inr (.inr (.inl (some 94)))), (1, .inl (0, [(0, 1)])), (2, .inl (0, [(1, 1)])), (3, .inl (0, [(2, 1)])), (4, .inl (0, [(3, 1)])), (5, .inl (0, [(4, 1)])), (6, .inl (0, [(5, 1)]))] [.inr (.inl (0, [])), .inr (.inr (.inl (some 94)))] [(19978, (0, []), (0, [(6, 1)])), (19977, (0, []), (0, [(7, 1)])), (61000, (0, [(0, 1), (1, (-1))]), (1, []))] [20017] 6 [] [([], 8, [(0, 0, 119), (1, 0, 119), (2, 0, 5), (3, 0, 9), (4, 0, 399), (5, 1, 9999), (6, 0, 120), (7, 0, 399)], [], [], [.inl ((-1), [])], [])] = true := by decide +kernel
theorem xwpn {cst : am_K} {strs : List Nat} {Φ : am_Q → Prop} {D : Nat} {M : am_M} {h : am_H} {l : am_L} (c : hp_C cst strs D) (hM : m_P[336]? = some M) (hD : (6 : Int) ≤ (D : Int) + 1) (hy : ly_hy m_tt ly_TH h) (p q s y d w u g : Int) (x0 : Int64) (hx0 : x0.toInt = 0) (b0 : 0 ≤ p) (t0 : p ≤ 119) (b1 : 0 ≤ q) (t1 : q ≤ 119) (b2 : 0 ≤ s) (t2 : s ≤ 5) (b3 : 0 ≤ y) (t3 : y ≤ 9) (b4 : 0 ≤ d) (t4 : d ≤ 399) (b5 : 1 ≤ w) (t5 : w ≤ 9999) (b6 : 0 ≤ u) (t6 : u ≤ 120) (b7 : 0 ≤ g) (t7 : g ≤ 399) (f0 : 0 ≤ (u - p - 1)) (f1 : 0 ≤ (u - q - 1)) (f2 : 0 ≤ (g - d)) (k0 : ly_hv cst h 19978 0 = some (u)) (k1 : ly_hv cst h 19977 0 = some (g)) (k2 : ly_hv cst h 61000 (p - q) = some 1) (l0 : hp_a l 0 94) (l1 : hp_i l 1 (p)) (l2 : hp_i l 2 (q)) (l3 : hp_i l 3 (s)) (l4 : hp_i l 4 (y)) (l5 : hp_i l 5 (d)) (l6 : hp_i l 6 (w)) (r0 : ∀ (h' : am_H) (y0 : Int32), y0.toInt = (-1) → ly_hy m_tt ly_TH h' → ly_fr cst [20017] h h' → h.length ≤ h'.length → Φ (some (.int y0), h', 0, 0)) : hp_F cst strs Φ D M 5 l [.long x0, .ref 94] h := by
  refine hp_arc c hM xwpn_k hD [p, q, s, y, d, w, u, g] rfl hy (hp_Bc (z := p) rfl b0 t0 (hp_Bc (z := q) rfl b1 t1 (hp_Bc (z := s) rfl b2 t2 (hp_Bc (z := y) rfl b3 t3 (hp_Bc (z := d) rfl b4 t4 (hp_Bc (z := w) rfl b5 t5 (hp_Bc (z := u) rfl b6 t6 (hp_Bc (z := g) rfl b7 t7 hp_Bn)))))))) (hp_Fc (z := ((-1) + ((-1) * p + (1 * u + 0)))) rfl (by omega) (hp_Fc (z := ((-1) + ((-1) * q + (1 * u + 0)))) rfl (by omega) (hp_Fc (z := (0 + ((-1) * d + (1 * g + 0)))) rfl (by omega) hp_Fn))) (hp_Kc (zi := (0 + 0)) (zv := (0 + (1 * u + 0))) k0 rfl rfl (by omega) (by omega) (hp_Kc (zi := (0 + 0)) (zv := (0 + (1 * g + 0))) k1 rfl rfl (by omega) (by omega) (hp_Kc (zi := (0 + (1 * p + ((-1) * q + 0)))) (zv := (1 + 0)) k2 rfl rfl (by omega) (by omega) hp_Kn))) (hp_La l0 (hp_Li (z := (0 + (1 * p + 0))) l1 rfl (by omega) (hp_Li (z := (0 + (1 * q + 0))) l2 rfl (by omega) (hp_Li (z := (0 + (1 * s + 0))) l3 rfl (by omega) (hp_Li (z := (0 + (1 * y + 0))) l4 rfl (by omega) (hp_Li (z := (0 + (1 * d + 0))) l5 rfl (by omega) (hp_Li (z := (0 + (1 * w + 0))) l6 rfl (by omega) hp_Ln))))))) (hp_Sj (z := (0 + 0)) rfl (by omega) (hp_Sa trivial)) ?_ ?_
  · intro p hp ys l' st' h' hys a1 a2 a3 gZ gL gS
    cases hp
  · intro p hp ys v h' hys a1 a2 a3 gZ gS
    rcases List.mem_cons.mp hp with rfl | hp
    · obtain rfl := hp_y0 hys
      cases v with
      | none => cases gS
      | some w =>
        obtain ⟨y0, t0, s0, q0, -⟩ := hp_gSi (z := ((-1) + 0)) gS rfl
        cases s0
        exact r0 h' y0 (by omega) a1 a2 a3
    cases hp
theorem xwpf_k : hp_chk 336 5 9 [(0, 0, 119), (1, 0, 119), (2, 0, 5), (3, 0, 9), (4, 0, 399), (5, 1, 9999), (6, 0, 120), (7, 0, 399), (8, 1, 1152921504606846976)] [((-1), [(0, (-1)), (6, 1)]), ((-1), [(1, (-1)), (6, 1)]), (0, [(4, (-1)), (7, 1)])] [(0, .inr (.inr (.inl (some 94)))), (1, .inl (0, [(0, 1)])), (2, .inl (0, [(1, 1)])), (3, .inl (0, [(2, 1)])), (4, .inl (0, [(3, 1)])), (5, .inl (0, [(4, 1)])), (6, .inl (0, [(5, 1)]))] [.inr (.inl (0, [(8, 1)])), .inr (.inr (.inl (some 94)))] [(19978, (0, []), (0, [(6, 1)])), (19977, (0, []), (0, [(7, 1)])), (61000, (0, [(0, 1), (1, (-1))]), (1, [])), (20024, (0, []), (100, []))] [20017] 6 [] [([], 9, [(0, 0, 119), (1, 0, 119), (2, 0, 5), (3, 0, 9), (4, 0, 399), (5, 1, 9999), (6, 0, 120), (7, 0, 399), (8, 1, 1152921504606846976)], [], [], [.inl ((-3), [])], [])] = true := by decide +kernel
theorem xwpf {cst : am_K} {strs : List Nat} {Φ : am_Q → Prop} {D : Nat} {M : am_M} {h : am_H} {l : am_L} (c : hp_C cst strs D) (hM : m_P[336]? = some M) (hD : (6 : Int) ≤ (D : Int) + 1) (hy : ly_hy m_tt ly_TH h) (p q s y d w u g vv : Int) (x0 : Int64) (hx0 : x0.toInt = (vv)) (b0 : 0 ≤ p) (t0 : p ≤ 119) (b1 : 0 ≤ q) (t1 : q ≤ 119) (b2 : 0 ≤ s) (t2 : s ≤ 5) (b3 : 0 ≤ y) (t3 : y ≤ 9) (b4 : 0 ≤ d) (t4 : d ≤ 399) (b5 : 1 ≤ w) (t5 : w ≤ 9999) (b6 : 0 ≤ u) (t6 : u ≤ 120) (b7 : 0 ≤ g) (t7 : g ≤ 399) (b8 : 1 ≤ vv) (t8 : vv ≤ 1152921504606846976) (f0 : 0 ≤ (u - p - 1)) (f1 : 0 ≤ (u - q - 1)) (f2 : 0 ≤ (g - d)) (k0 : ly_hv cst h 19978 0 = some (u)) (k1 : ly_hv cst h 19977 0 = some (g)) (k2 : ly_hv cst h 61000 (p - q) = some 1) (k3 : ly_hv cst h 20024 0 = some 100) (l0 : hp_a l 0 94) (l1 : hp_i l 1 (p)) (l2 : hp_i l 2 (q)) (l3 : hp_i l 3 (s)) (l4 : hp_i l 4 (y)) (l5 : hp_i l 5 (d)) (l6 : hp_i l 6 (w)) (r0 : ∀ (h' : am_H) (y0 : Int32), y0.toInt = (-3) → ly_hy m_tt ly_TH h' → ly_fr cst [20017] h h' → h.length ≤ h'.length → Φ (some (.int y0), h', 0, 0)) : hp_F cst strs Φ D M 5 l [.long x0, .ref 94] h := by
  refine hp_arc c hM xwpf_k hD [p, q, s, y, d, w, u, g, vv] rfl hy (hp_Bc (z := p) rfl b0 t0 (hp_Bc (z := q) rfl b1 t1 (hp_Bc (z := s) rfl b2 t2 (hp_Bc (z := y) rfl b3 t3 (hp_Bc (z := d) rfl b4 t4 (hp_Bc (z := w) rfl b5 t5 (hp_Bc (z := u) rfl b6 t6 (hp_Bc (z := g) rfl b7 t7 (hp_Bc (z := vv) rfl b8 t8 hp_Bn))))))))) (hp_Fc (z := ((-1) + ((-1) * p + (1 * u + 0)))) rfl (by omega) (hp_Fc (z := ((-1) + ((-1) * q + (1 * u + 0)))) rfl (by omega) (hp_Fc (z := (0 + ((-1) * d + (1 * g + 0)))) rfl (by omega) hp_Fn))) (hp_Kc (zi := (0 + 0)) (zv := (0 + (1 * u + 0))) k0 rfl rfl (by omega) (by omega) (hp_Kc (zi := (0 + 0)) (zv := (0 + (1 * g + 0))) k1 rfl rfl (by omega) (by omega) (hp_Kc (zi := (0 + (1 * p + ((-1) * q + 0)))) (zv := (1 + 0)) k2 rfl rfl (by omega) (by omega) (hp_Kc (zi := (0 + 0)) (zv := (100 + 0)) k3 rfl rfl (by omega) (by omega) hp_Kn)))) (hp_La l0 (hp_Li (z := (0 + (1 * p + 0))) l1 rfl (by omega) (hp_Li (z := (0 + (1 * q + 0))) l2 rfl (by omega) (hp_Li (z := (0 + (1 * s + 0))) l3 rfl (by omega) (hp_Li (z := (0 + (1 * y + 0))) l4 rfl (by omega) (hp_Li (z := (0 + (1 * d + 0))) l5 rfl (by omega) (hp_Li (z := (0 + (1 * w + 0))) l6 rfl (by omega) hp_Ln))))))) (hp_Sj (z := (0 + (1 * vv + 0))) rfl (by omega) (hp_Sa trivial)) ?_ ?_
  · intro p hp ys l' st' h' hys a1 a2 a3 gZ gL gS
    cases hp
  · intro p hp ys v h' hys a1 a2 a3 gZ gS
    rcases List.mem_cons.mp hp with rfl | hp
    · obtain rfl := hp_y0 hys
      cases v with
      | none => cases gS
      | some w =>
        obtain ⟨y0, t0, s0, q0, -⟩ := hp_gSi (z := ((-3) + 0)) gS rfl
        cases s0
        exact r0 h' y0 (by omega) a1 a2 a3
    cases hp
theorem xwpk_k : hp_chk 336 5 10 [(0, 0, 119), (1, 0, 119), (2, 0, 5), (3, 0, 9), (4, 0, 399), (5, 1, 9999), (6, 0, 120), (7, 0, 399), (8, 1, 1152921504606846976), (9, 0, 99)] [((-1), [(0, (-1)), (6, 1)]), ((-1), [(1, (-1)), (6, 1)]), (0, [(4, (-1)), (7, 1)])] [(0, .inr (.inr (.inl (some 94)))), (1, .inl (0, [(0, 1)])), (2, .inl (0, [(1, 1)])), (3, .inl (0, [(2, 1)])), (4, .inl (0, [(3, 1)])), (5, .inl (0, [(4, 1)])), (6, .inl (0, [(5, 1)]))] [.inr (.inl (0, [(8, 1)])), .inr (.inr (.inl (some 94)))] [(19978, (0, []), (0, [(6, 1)])), (19977, (0, []), (0, [(7, 1)])), (61000, (0, [(0, 1), (1, (-1))]), (1, [])), (20024, (0, []), (0, [(9, 1)]))] [20017] 6 [(111, ([], 10, [(0, 0, 119), (1, 0, 119), (2, 0, 5), (3, 0, 9), (4, 0, 399), (5, 1, 9999), (6, 0, 120), (7, 0, 399), (8, 1, 1152921504606846976), (9, 0, 99)], [], [(0, .inr (.inr (.inl (some 94))))], [.inl (0, [(5, 1)]), .inl (0, [(4, 1)]), .inl (0, [(3, 1)]), .inl (0, [(2, 1)]), .inl (0, [(1, 1)]), .inl (0, [(0, 1)]), .inl (1, []), .inr (.inr (.inl (some 94)))], []))] [] = true := by decide +kernel
theorem xwpk {cst : am_K} {strs : List Nat} {Φ : am_Q → Prop} {D : Nat} {M : am_M} {h : am_H} {l : am_L} (c : hp_C cst strs D) (hM : m_P[336]? = some M) (hD : (6 : Int) ≤ (D : Int) + 1) (hy : ly_hy m_tt ly_TH h) (p q s y d w u g vv m : Int) (x0 : Int64) (hx0 : x0.toInt = (vv)) (b0 : 0 ≤ p) (t0 : p ≤ 119) (b1 : 0 ≤ q) (t1 : q ≤ 119) (b2 : 0 ≤ s) (t2 : s ≤ 5) (b3 : 0 ≤ y) (t3 : y ≤ 9) (b4 : 0 ≤ d) (t4 : d ≤ 399) (b5 : 1 ≤ w) (t5 : w ≤ 9999) (b6 : 0 ≤ u) (t6 : u ≤ 120) (b7 : 0 ≤ g) (t7 : g ≤ 399) (b8 : 1 ≤ vv) (t8 : vv ≤ 1152921504606846976) (b9 : 0 ≤ m) (t9 : m ≤ 99) (f0 : 0 ≤ (u - p - 1)) (f1 : 0 ≤ (u - q - 1)) (f2 : 0 ≤ (g - d)) (k0 : ly_hv cst h 19978 0 = some (u)) (k1 : ly_hv cst h 19977 0 = some (g)) (k2 : ly_hv cst h 61000 (p - q) = some 1) (k3 : ly_hv cst h 20024 0 = some (m)) (l0 : hp_a l 0 94) (l1 : hp_i l 1 (p)) (l2 : hp_i l 2 (q)) (l3 : hp_i l 3 (s)) (l4 : hp_i l 4 (y)) (l5 : hp_i l 5 (d)) (l6 : hp_i l 6 (w)) (e0 : ∀ (l' : am_L) (h' : am_H) (y0 : Int32) (y1 : Int32) (y2 : Int32) (y3 : Int32) (y4 : Int32) (y5 : Int32) (y6 : Int32), y0.toInt = (w) → y1.toInt = (d) → y2.toInt = (y) → y3.toInt = (s) → y4.toInt = (q) → y5.toInt = (p) → y6.toInt = 1 → ly_hy m_tt ly_TH h' → ly_fr cst [20017] h h' → h.length ≤ h'.length → hp_a l' 0 94 → hp_F cst strs Φ D M 111 l' [.int y0, .int y1, .int y2, .int y3, .int y4, .int y5, .int y6, .ref 94] h') : hp_F cst strs Φ D M 5 l [.long x0, .ref 94] h := by
  refine hp_arc c hM xwpk_k hD [p, q, s, y, d, w, u, g, vv, m] rfl hy (hp_Bc (z := p) rfl b0 t0 (hp_Bc (z := q) rfl b1 t1 (hp_Bc (z := s) rfl b2 t2 (hp_Bc (z := y) rfl b3 t3 (hp_Bc (z := d) rfl b4 t4 (hp_Bc (z := w) rfl b5 t5 (hp_Bc (z := u) rfl b6 t6 (hp_Bc (z := g) rfl b7 t7 (hp_Bc (z := vv) rfl b8 t8 (hp_Bc (z := m) rfl b9 t9 hp_Bn)))))))))) (hp_Fc (z := ((-1) + ((-1) * p + (1 * u + 0)))) rfl (by omega) (hp_Fc (z := ((-1) + ((-1) * q + (1 * u + 0)))) rfl (by omega) (hp_Fc (z := (0 + ((-1) * d + (1 * g + 0)))) rfl (by omega) hp_Fn))) (hp_Kc (zi := (0 + 0)) (zv := (0 + (1 * u + 0))) k0 rfl rfl (by omega) (by omega) (hp_Kc (zi := (0 + 0)) (zv := (0 + (1 * g + 0))) k1 rfl rfl (by omega) (by omega) (hp_Kc (zi := (0 + (1 * p + ((-1) * q + 0)))) (zv := (1 + 0)) k2 rfl rfl (by omega) (by omega) (hp_Kc (zi := (0 + 0)) (zv := (0 + (1 * m + 0))) k3 rfl rfl (by omega) (by omega) hp_Kn)))) (hp_La l0 (hp_Li (z := (0 + (1 * p + 0))) l1 rfl (by omega) (hp_Li (z := (0 + (1 * q + 0))) l2 rfl (by omega) (hp_Li (z := (0 + (1 * s + 0))) l3 rfl (by omega) (hp_Li (z := (0 + (1 * y + 0))) l4 rfl (by omega) (hp_Li (z := (0 + (1 * d + 0))) l5 rfl (by omega) (hp_Li (z := (0 + (1 * w + 0))) l6 rfl (by omega) hp_Ln))))))) (hp_Sj (z := (0 + (1 * vv + 0))) rfl (by omega) (hp_Sa trivial)) ?_ ?_
  · intro p hp ys l' st' h' hys a1 a2 a3 gZ gL gS
    rcases List.mem_cons.mp hp with rfl | hp
    · obtain rfl := hp_y0 hys
      obtain ⟨y0, t0, rfl, q0, g0⟩ := hp_gSi (z := (0 + (1 * w + 0))) gS rfl
      obtain ⟨y1, t1, rfl, q1, g1⟩ := hp_gSi (z := (0 + (1 * d + 0))) g0 rfl
      obtain ⟨y2, t2, rfl, q2, g2⟩ := hp_gSi (z := (0 + (1 * y + 0))) g1 rfl
      obtain ⟨y3, t3, rfl, q3, g3⟩ := hp_gSi (z := (0 + (1 * s + 0))) g2 rfl
      obtain ⟨y4, t4, rfl, q4, g4⟩ := hp_gSi (z := (0 + (1 * q + 0))) g3 rfl
      obtain ⟨y5, t5, rfl, q5, g5⟩ := hp_gSi (z := (0 + (1 * p + 0))) g4 rfl
      obtain ⟨y6, t6, rfl, q6, g6⟩ := hp_gSi (z := (1 + 0)) g5 rfl
      obtain ⟨t7, rfl, g7⟩ := hp_gSa g6 (by decide)
      cases hp_gSn g7
      exact e0 l' h' y0 y1 y2 y3 y4 y5 y6 (by omega) (by omega) (by omega) (by omega) (by omega) (by omega) (by omega) a1 a2 a3 (hp_gLa gL (List.mem_of_getElem? (i := 0) rfl) (by decide))
    cases hp
  · intro p hp ys v h' hys a1 a2 a3 gZ gS
    cases hp
theorem xwpr_k : hp_chk 336 114 1 [(0, (-2147483648), 2147483647)] [] [(0, .inr (.inr (.inl (some 94))))] [.inl (0, [(0, 1)])] [] [] 2 [] [([], 1, [(0, (-2147483648), 2147483647)], [], [], [.inl (0, [(0, 1)])], [])] = true := by decide +kernel
theorem xwpr {cst : am_K} {strs : List Nat} {Φ : am_Q → Prop} {D : Nat} {M : am_M} {h : am_H} {l : am_L} (c : hp_C cst strs D) (hM : m_P[336]? = some M) (hD : (2 : Int) ≤ (D : Int) + 1) (hy : ly_hy m_tt ly_TH h) (a : Int) (x0 : Int32) (hx0 : x0.toInt = (a)) (b0 : (-2147483648) ≤ a) (t0 : a ≤ 2147483647) (l0 : hp_a l 0 94) (r0 : ∀ (h' : am_H) (y0 : Int32), y0.toInt = (a) → ly_hy m_tt ly_TH h' → ly_fr cst [] h h' → h.length ≤ h'.length → Φ (some (.int y0), h', 0, 0)) : hp_F cst strs Φ D M 114 l [.int x0] h := by
  refine hp_arc c hM xwpr_k hD [a] rfl hy (hp_Bc (z := a) rfl b0 t0 hp_Bn) hp_Fn hp_Kn (hp_La l0 hp_Ln) (hp_Si (z := (0 + (1 * a + 0))) rfl (by omega) trivial) ?_ ?_
  · intro p hp ys l' st' h' hys a1 a2 a3 gZ gL gS
    cases hp
  · intro p hp ys v h' hys a1 a2 a3 gZ gS
    rcases List.mem_cons.mp hp with rfl | hp
    · obtain rfl := hp_y0 hys
      cases v with
      | none => cases gS
      | some w =>
        obtain ⟨y0, t0, s0, q0, -⟩ := hp_gSi (z := (0 + (1 * a + 0))) gS rfl
        cases s0
        exact r0 h' y0 (by omega) a1 a2 a3
    cases hp
/-- beginMatter where there is one WORD alone and room: a contract of its own -/
noncomputable def bmy : ly_C := (([(0, 1, (0, [])), (0, 2, (0, [])), (0, 3, (0, [])), (0, 4, (0, [])), (0, 5, (0, [])), (0, 6, (0, [])), (2, 7170, (0, [])), (2, 1280, (0, []))], 8, [(0, (-1), 119), (1, 0, 119), (2, 0, 5), (3, 0, 9), (4, 0, 399), (5, 0, 9999), (6, 0, 99), (7, 1, 1152921504606846976)], [], [(0, .inr (.inr (.inl (some 16)))), (1, .inl (0, [(0, 1)])), (2, .inl (0, [(1, 1)])), (3, .inl (0, [(2, 1)])), (4, .inl (0, [(3, 1)])), (5, .inl (0, [(4, 1)])), (6, .inl (0, [(5, 1)]))], [], [(60002, (0, []), (177, [(6, 19)])), (7170, (0, []), (0, [(6, 1)])), (261, (0, []), (1, [])), (768, (0, []), (1, [])), (1280, (0, []), (0, [(7, 1)]))]), [([], 8, [(0, (-1), 119), (1, 0, 119), (2, 0, 5), (3, 0, 9), (4, 0, 399), (5, 0, 9999), (6, 0, 99), (7, 1, 1152921504606846976)], [], [], [.inl (0, [(6, 1)])], [(60002, (0, []), (196, [(6, 19)])), (7170, (0, []), (1, [(6, 1)]))])], [7170, 7182, 8704, 8960, 9216, 9472, 60002], (6, []), 19, 261)
theorem bmy_k : mk_chk sx_KK ly_Y 6000 ([], 8, [(0, (-1), 119), (1, 0, 119), (2, 0, 5), (3, 0, 9), (4, 0, 399), (5, 0, 9999), (6, 0, 99), (7, 1, 1152921504606846976)], [], [(0, .inr (.inr (.inl (some 16)))), (1, .inl (0, [(0, 1)])), (2, .inl (0, [(1, 1)])), (3, .inl (0, [(2, 1)])), (4, .inl (0, [(3, 1)])), (5, .inl (0, [(4, 1)])), (6, .inl (0, [(5, 1)])), (7, .inr (.inl (0, [(7, 1)])))], [], [(60002, (0, []), (177, [(6, 19)])), (7170, (0, []), (0, [(6, 1)])), (261, (0, []), (1, [])), (768, (0, []), (1, [])), (1280, (0, []), (0, [(7, 1)]))]) (0, [(6, 1)]) bmy = true := by decide +kernel
theorem bm_run {cst : am_K} {strs : List Nat} {D : Nat} {h : am_H} (gC : ly_gC sx_KK cst) (hstr : ∀ a, 8 ≤ a → a < 12 → a ∈ strs) (hY : ∀ d, d < D → ly_Yok cst m_cl m_tt m_P strs ly_TH ly_Y d) (hD : (6 : Int) ≤ (D : Int)) (hy : ly_hy m_tt ly_TH h) {i1 i2 i3 i4 i5 i6 : Int32} {s v : Int} (a0 : -1 ≤ i1.toInt) (a1 : i1.toInt ≤ 119) (b0 : 0 ≤ i2.toInt) (b1 : i2.toInt ≤ 119) (c0 : 0 ≤ i3.toInt) (c1 : i3.toInt ≤ 5) (d0 : 0 ≤ i4.toInt) (d1 : i4.toInt ≤ 9) (e0 : 0 ≤ i5.toInt) (e1 : i5.toInt ≤ 399) (f0 : 0 ≤ i6.toInt) (f1 : i6.toInt ≤ 9999) (s0 : 0 ≤ s) (s1 : s ≤ 99) (v0 : 1 ≤ v) (v1 : v ≤ 1152921504606846976)
    (kl : ly_hv cst h 60002 0 = some (177 + 19 * s)) (ks : ly_hv cst h 7170 0 = some s) (kt : ly_hv cst h 261 0 = some 1) (kk : ly_hv cst h 768 0 = some 1) (kv : ly_hv cst h 1280 0 = some v) :
    ∃ r, am_Run cst m_cl m_tt m_P strs sx_bi D 133 [.ref 16, .int i1, .int i2, .int i3, .int i4, .int i5, .int i6] h r ∧ (∃ a : Int32, r.1 = some (.int a) ∧ a.toInt = s) ∧ r.2.2.1 ≤ 19 ∧ r.2.2.2 ≤ 261 ∧ ly_hy m_tt ly_TH r.2.1 ∧ ly_fr cst [7170, 7182, 8704, 8960, 9216, 9472, 60002] h r.2.1 ∧ ly_hv cst r.2.1 60002 0 = some (196 + 19 * s) ∧ ly_hv cst r.2.1 7170 0 = some (s + 1) := by
  obtain ⟨M, hM, hl⟩ := hp_M (mi := 133) (k := 7) (by decide +kernel)
  have C := mk_chk_ok gC hstr bmy_k D hY
  have gB : ly_gB (hp_nu [i1.toInt, i2.toInt, i3.toInt, i4.toInt, i5.toInt, i6.toInt, s, v]) [(0, (-1), 119), (1, 0, 119), (2, 0, 5), (3, 0, 9), (4, 0, 399), (5, 0, 9999), (6, 0, 99), (7, 1, 1152921504606846976)] := hp_Bc (z := i1.toInt) rfl a0 a1 (hp_Bc (z := i2.toInt) rfl b0 b1 (hp_Bc (z := i3.toInt) rfl c0 c1 (hp_Bc (z := i4.toInt) rfl d0 d1 (hp_Bc (z := i5.toInt) rfl e0 e1 (hp_Bc (z := i6.toInt) rfl f0 f1 (hp_Bc (z := s) rfl s0 s1 (hp_Bc (z := v) rfl v0 v1 hp_Bn)))))))
  have gK : ly_gK cst (hp_nu [i1.toInt, i2.toInt, i3.toInt, i4.toInt, i5.toInt, i6.toInt, s, v]) h [(60002, (0, []), (177, [(6, 19)])), (7170, (0, []), (0, [(6, 1)])), (261, (0, []), (1, [])), (768, (0, []), (1, [])), (1280, (0, []), (0, [(7, 1)]))] := hp_Kc (zi := 0) (zv := (177 + (19 * s + 0))) kl rfl rfl (by omega) (by omega) (hp_Kc (zi := 0) (zv := (0 + (1 * s + 0))) ks rfl rfl (by omega) (by omega) (hp_Kc (zi := 0) (zv := 1) kt rfl rfl (by omega) (by omega) (hp_Kc (zi := 0) (zv := 1) kk rfl rfl (by omega) (by omega) (hp_Kc (zi := 0) (zv := (0 + (1 * v + 0))) kv rfl rfl (by omega) (by omega) hp_Kn))))
  have gL : ly_gL (hp_nu [i1.toInt, i2.toInt, i3.toInt, i4.toInt, i5.toInt, i6.toInt, s, v]) h.length [(0, .inr (.inr (.inl (some 16)))), (1, .inl (0, [(0, 1)])), (2, .inl (0, [(1, 1)])), (3, .inl (0, [(2, 1)])), (4, .inl (0, [(3, 1)])), (5, .inl (0, [(4, 1)])), (6, .inl (0, [(5, 1)]))] (lv_args 0 [.ref 16, .int i1, .int i2, .int i3, .int i4, .int i5, .int i6]) := hp_La rfl (hp_Li (z := (0 + (1 * i1.toInt + 0))) ⟨i1, rfl, rfl⟩ rfl (by omega) (hp_Li (z := (0 + (1 * i2.toInt + 0))) ⟨i2, rfl, rfl⟩ rfl (by omega) (hp_Li (z := (0 + (1 * i3.toInt + 0))) ⟨i3, rfl, rfl⟩ rfl (by omega) (hp_Li (z := (0 + (1 * i4.toInt + 0))) ⟨i4, rfl, rfl⟩ rfl (by omega) (hp_Li (z := (0 + (1 * i5.toInt + 0))) ⟨i5, rfl, rfl⟩ rfl (by omega) (hp_Li (z := (0 + (1 * i6.toInt + 0))) ⟨i6, rfl, rfl⟩ rfl (by omega) hp_Ln))))))
  have hnone : ∀ k, 8 ≤ k → hp_nu [i1.toInt, i2.toInt, i3.toInt, i4.toInt, i5.toInt, i6.toInt, s, v] k = none := fun k hk => List.getElem?_eq_none (by simpa using hk)
  obtain ⟨r, hrun, p1, p2, p3, p4, p5, p, hp, ν', q1, q2, q3⟩ := C (hp_nu [i1.toInt, i2.toInt, i3.toInt, i4.toInt, i5.toInt, i6.toInt, s, v]) [.ref 16, .int i1, .int i2, .int i3, .int i4, .int i5, .int i6] h 6 M hM hl hy ⟨hnone, gB, hp_Fn, gK⟩ gL (ly_ev_c _ 6) hD
  rcases List.mem_cons.mp hp with rfl | hp
  · obtain ⟨ys, hys, rfl⟩ := hp_ext (n := 8) (xs := [i1.toInt, i2.toInt, i3.toInt, i4.toInt, i5.toInt, i6.toInt, s, v]) rfl (by decide +kernel) q1 q2
    obtain rfl := hp_y0 hys
    obtain ⟨v', h', ca, sa⟩ := r
    cases v' with
    | none => cases q3
    | some w =>
      obtain ⟨y0, t0, z0, z1, -⟩ := hp_gSi (z := (0 + (1 * s + 0))) q3 rfl
      cases z0
      exact ⟨_, hrun, ⟨y0, rfl, by omega⟩, p1, p2, p3, p4, hp_gK (zi := 0) (zv := (196 + (19 * s + 0))) q2.2.2.2 (List.mem_of_getElem? (i := 0) rfl) rfl rfl (by omega) (by omega), hp_gK (zi := 0) (zv := (1 + (1 * s + 0))) q2.2.2.2 (List.mem_of_getElem? (i := 1) rfl) rfl rfl (by omega) (by omega)⟩
  · cases hp
/-- a call that may make cells -/
theorem hp_callc {cst : am_K} {strs : List Nat} {Φ : am_Q → Prop} {D mi pc : Nat} {M : am_M} {l : am_L} {st : List Value} {h : am_H} {tg na c ci : Nat} {fs : List (List ly_F)} {av st0 : List Value} {r : am_Q} (hM : m_P[mi]? = some M) (hI : hp_isV mi pc tg na ci = true) (hy : ly_hy m_tt ly_TH h) (ht : ly_ths ly_TH c = some (.inr (ci, fs))) (hst : st0.length = na) (hav : st0.reverse = .ref (16 + c) :: av) (hcat : (st.map fun v => v.category).sum ≤ 8)
    (hrun : am_Run cst m_cl m_tt m_P strs sx_bi D tg (.ref (16 + c) :: av) h r) (k : hp_F cst strs (fun q => Φ (q.1, q.2.1, r.2.2.1 + q.2.2.1, r.2.2.2 + q.2.2.2)) D M (pc + 3) l (r.1.toList ++ st) r.2.1) : hp_F cst strs Φ D M pc l (st0 ++ st) h := by
  unfold hp_isV at hI
  split at hI
  case h_2 => cases hI
  rename_i m hm
  rw [Bool.and_eq_true, sx_beqn] at hI
  obtain ⟨c0, hI⟩ := hI
  split at hI
  case h_2 => cases hI
  rename_i ix X hX
  simp only [Bool.and_eq_true, sx_beqn, sx_eq_iff] at hI
  obtain ⟨x1, x2, x3, hI⟩ := hI
  split at hI
  case h_2 => cases hI
  rename_i m' hm'
  simp only [Bool.and_eq_true, sx_beqn, sx_blt] at hI
  obtain ⟨t0, t1, t2⟩ := hI
  obtain ⟨M', hM', hmok, -⟩ := sx_tok_m mi m hm c0
  rw [hM] at hM'
  cases hM'
  obtain ⟨T', hT', -, -, h98, -⟩ := sx_tok_m tg m' hm' t0
  have hfind := hmok.2.2 _ _ hX
  have etake : (st0 ++ st).take X.2.1 = st0 := by rw [x2, ← hst]; exact List.take_left' rfl
  have edrop : (st0 ++ st).drop X.2.1 = st := by rw [x2, ← hst]; exact List.drop_left' rfl
  obtain ⟨xc, hx, vs, rfl, -⟩ := hy.2.1 _ _ ht
  obtain ⟨rr, hrr, hrr1⟩ := h98 (by omega)
  have hcc : am_c m_cl m_P strs (.invokevirtual ix) X (st0 ++ st) h := by
    refine ⟨by rw [List.length_append]; omega, by rw [edrop]; exact hcat, x3, .ref (16 + c), av, T', by rw [etake]; exact hav, by rw [x1]; exact hT', 16 + c, rfl, Or.inl ⟨Nat.not_lt.mpr (Nat.le_add_right 16 c), ci, vs, rr, ?_, ?_, hrr1⟩⟩
    · rw [show 16 + c - 16 = c by omega]; exact hx
    · rw [← t1]; exact hrr
  refine sx_Fin_pre (dc := r.2.2.1) (ds := r.2.2.2) (f1 := (M, pc + 3, l, r.1.toList ++ st)) (h1 := r.2.1) (fun n2 q hgo2 => ⟨n2 + 1, _, X, hfind, Or.inr (Or.inr (Or.inr (Or.inl ⟨r, q, hcc, ?_, ?_, rfl⟩)))⟩) ?_
  · rw [etake, hav, x1]; exact hrun
  · rw [edrop]; exact hgo2
  · obtain ⟨n, q, hgo, hΦ⟩ := k
    refine ⟨n, q, hgo, ?_⟩
    simp only [Nat.zero_add] at hΦ ⊢
    exact hΦ
/-- what a call that begins a matter answers and leaves: R the number of matters, where a matter is told by its row too: the room -/
def bg_A (ok W : Prop) (s a : Int) : Prop := (¬ ok → a = -2) ∧ (ok → ¬ W → a = -1) ∧ (ok → W → s = 100 → a = -3) ∧ (ok → W → s ≠ 100 → a = s)
theorem bg_uni {ok W W' : Prop} {s a b : Int} (e : W ↔ W') (A : bg_A ok W s a) (B : bg_A ok W' s b) : a = b := by
  by_cases o : ok
  · by_cases w : W
    · by_cases z : s = 100
      · rw [A.2.2.1 o w z, B.2.2.1 o (e.mp w) z]
      · rw [A.2.2.2 o w z, B.2.2.2 o (e.mp w) z]
    · rw [A.2.1 o w, B.2.1 o (fun x => w (e.mpr x))]
  · rw [A.1 o, B.1 o]
def bg_C (cst : am_K) (h2 : am_H) (g : Prop) (s : Int) : Prop := (g → ly_hv cst h2 7170 0 = some (s + 1) ∧ ly_hv cst h2 60002 0 = some (196 + 19 * s)) ∧ (¬ g → ly_hv cst h2 7170 0 = some s ∧ ly_hv cst h2 60002 0 = some (177 + 19 * s))
def bg_M (cst : am_K) (h2 : am_H) (g : Prop) (s : Int) : Prop := (g → ly_hv cst h2 20024 0 = some (s + 1)) ∧ (¬ g → ly_hv cst h2 20024 0 = some s)
abbrev bg_mc : List Nat := [257, 261, 262, 768, 1024, 1280, 7170, 7182, 8704, 8960, 9216, 9472, 60002]
abbrev bg_mm : List Nat := [19969, 19970, 19971, 19972, 19973, 19974, 19975, 19976, 20017, 20024, 20054, 28416, 28672, 28928, 29184, 29440, 29696, 29952, 30208, 30464, 32000, 32768, 35584, 35840]
/-- beginMatter behind takeTokens -/
theorem bma_run {cst : am_K} {strs : List Nat} {D : Nat} {h : am_H} (c : hp_C cst strs D) (hD : (6 : Int) ≤ (D : Int) + 1) (hy : ly_hy m_tt ly_TH h) {i1 i2 i3 i4 i5 i6 : Int32} {s n : Int} {f : Int → Option Int} (a0 : -1 ≤ i1.toInt) (a1 : i1.toInt ≤ 119) (b0 : 0 ≤ i2.toInt) (b1 : i2.toInt ≤ 119) (c0 : 0 ≤ i3.toInt) (c1 : i3.toInt ≤ 5) (d0 : 0 ≤ i4.toInt) (d1 : i4.toInt ≤ 9) (e0 : 0 ≤ i5.toInt) (e1 : i5.toInt ≤ 399) (f0 : 0 ≤ i6.toInt) (f1 : i6.toInt ≤ 9999) (s0 : 0 ≤ s) (s1 : s ≤ 100)
    (kl : ly_hv cst h 60002 0 = some (177 + 19 * s)) (ks : ly_hv cst h 7170 0 = some s) (E : tk_E f cst h n) :
    ∃ r, am_Run cst m_cl m_tt m_P strs sx_bi (D + 1) 133 [.ref 16, .int i1, .int i2, .int i3, .int i4, .int i5, .int i6] h r ∧ (∃ a : Int32, r.1 = some (.int a) ∧ bg_A True (ow f n) s a.toInt) ∧ r.2.2.1 ≤ 19 ∧ r.2.2.2 ≤ 261 ∧ ly_hy m_tt ly_TH r.2.1 ∧ ly_fr cst [7170, 7182, 8704, 8960, 9216, 9472, 60002] h r.2.1 ∧ bg_C cst r.2.1 (ow f n ∧ s ≠ 100) s := by
  obtain ⟨M, hM, hl⟩ := hp_M (mi := 133) (k := 7) (by decide +kernel)
  have fin : ∀ (Φ' : am_Q → Prop), hp_F cst strs Φ' D M 0 (lv_args 0 [.ref 16, .int i1, .int i2, .int i3, .int i4, .int i5, .int i6]) [] h → (∀ r, Φ' r → (∃ a : Int32, r.1 = some (.int a) ∧ bg_A True (ow f n) s a.toInt) ∧ r.2.2.1 ≤ 19 ∧ r.2.2.2 ≤ 261 ∧ ly_hy m_tt ly_TH r.2.1 ∧ ly_fr cst [7170, 7182, 8704, 8960, 9216, 9472, 60002] h r.2.1 ∧ bg_C cst r.2.1 (ow f n ∧ s ≠ 100) s) → ∃ r, am_Run cst m_cl m_tt m_P strs sx_bi (D + 1) 133 [.ref 16, .int i1, .int i2, .int i3, .int i4, .int i5, .int i6] h r ∧ (∃ a : Int32, r.1 = some (.int a) ∧ bg_A True (ow f n) s a.toInt) ∧ r.2.2.1 ≤ 19 ∧ r.2.2.2 ≤ 261 ∧ ly_hy m_tt ly_TH r.2.1 ∧ ly_fr cst [7170, 7182, 8704, 8960, 9216, 9472, 60002] h r.2.1 ∧ bg_C cst r.2.1 (ow f n ∧ s ≠ 100) s := by
    intro Φ' ⟨n', r, hgo, hΦ⟩ k
    have := k _ hΦ
    simp only [Nat.zero_add] at this
    exact ⟨r, Or.inr ⟨M, n', hM, hl, hgo⟩, this⟩
  have ml : ∀ {a b : am_H}, ly_fr cst [] a b → ly_fr cst [7170, 7182, 8704, 8960, 9216, 9472, 60002] a b := fun g r i v _ e => g r i v rfl e
  have bb1 := i1.le_toInt
  by_cases W : ow f n
  · obtain ⟨kt, kk, v, v0, v1, kv⟩ := E.1 W
    by_cases z : s = 100
    · rw [z] at ks
      refine fin (fun r => ∃ a : Int32, r.1 = some (.int a) ∧ a.toInt = -3 ∧ r.2.2.1 = 0 ∧ r.2.2.2 = 0 ∧ ly_hy m_tt ly_TH r.2.1 ∧ ly_fr cst [] h r.2.1) (bw2 c hM hD hy i1.toInt i2.toInt i3.toInt i4.toInt i5.toInt i6.toInt v i1.le_toInt i1.toInt_le i2.le_toInt i2.toInt_le i3.le_toInt i3.toInt_le i4.le_toInt i4.toInt_le i5.le_toInt i5.toInt_le i6.le_toInt i6.toInt_le v0 v1 kt kk kv ks rfl ⟨i1, rfl, rfl⟩ ⟨i2, rfl, rfl⟩ ⟨i3, rfl, rfl⟩ ⟨i4, rfl, rfl⟩ ⟨i5, rfl, rfl⟩ ⟨i6, rfl, rfl⟩ (fun h2 a ha u1 u2 u3 => ⟨a, rfl, ha, rfl, rfl, u1, u2⟩)) (fun r ⟨a, r1, r2, r3, r4, r5, r6⟩ => ⟨⟨a, r1, fun no => absurd trivial no, fun _ nw => absurd W nw, fun _ _ _ => r2, fun _ _ nz => absurd z nz⟩, by omega, by omega, r5, ml r6, fun g => absurd z g.2, fun _ => ⟨by rw [z]; exact r6 _ _ _ rfl ks, r6 _ _ _ rfl kl⟩⟩)
    · obtain ⟨r, hrun, ⟨a, ra, ea⟩, p1, p2, p3, p4, k1, k2⟩ := bm_run (D := D + 1) (v := v) c.1 c.2.1 (fun d hd => c.2.2 d (by omega)) (by omega) hy a0 a1 b0 b1 c0 c1 d0 d1 e0 e1 f0 f1 s0 (by omega) v0 v1 kl ks kt kk kv
      exact ⟨r, hrun, ⟨a, ra, fun no => absurd trivial no, fun _ nw => absurd W nw, fun _ _ e => absurd e z, fun _ _ _ => ea⟩, p1, p2, p3, p4, fun _ => ⟨k2, k1⟩, fun no => absurd ⟨W, z⟩ no⟩
  · have post : ∀ r : am_Q, (∃ a : Int32, r.1 = some (.int a) ∧ a.toInt = -1 ∧ r.2.2.1 = 0 ∧ r.2.2.2 = 0 ∧ ly_hy m_tt ly_TH r.2.1 ∧ ly_fr cst [] h r.2.1) → (∃ a : Int32, r.1 = some (.int a) ∧ bg_A True (ow f n) s a.toInt) ∧ r.2.2.1 ≤ 19 ∧ r.2.2.2 ≤ 261 ∧ ly_hy m_tt ly_TH r.2.1 ∧ ly_fr cst [7170, 7182, 8704, 8960, 9216, 9472, 60002] h r.2.1 ∧ bg_C cst r.2.1 (ow f n ∧ s ≠ 100) s := fun r ⟨a, r1, r2, r3, r4, r5, r6⟩ => ⟨⟨a, r1, fun no => absurd trivial no, fun _ _ => r2, fun _ w => absurd w W, fun _ w => absurd w W⟩, by omega, by omega, r5, ml r6, fun g => absurd g.1 W, fun _ => ⟨r6 _ _ _ rfl ks, r6 _ _ _ rfl kl⟩⟩
    rcases E.2 W with ⟨t, t0, t1, tn, kt⟩ | ⟨kt, k, k0, k1, kk⟩
    · exact fin _ (bw0 c hM hD hy i1.toInt i2.toInt i3.toInt i4.toInt i5.toInt i6.toInt t i1.le_toInt i1.toInt_le i2.le_toInt i2.toInt_le i3.le_toInt i3.toInt_le i4.le_toInt i4.toInt_le i5.le_toInt i5.toInt_le i6.le_toInt i6.toInt_le t0 t1 kt (hp_ne (by omega)) rfl ⟨i1, rfl, rfl⟩ ⟨i2, rfl, rfl⟩ ⟨i3, rfl, rfl⟩ ⟨i4, rfl, rfl⟩ ⟨i5, rfl, rfl⟩ ⟨i6, rfl, rfl⟩ (fun h2 a ha u1 u2 u3 => ⟨a, rfl, ha, rfl, rfl, u1, u2⟩)) post
    · exact fin _ (bw1 c hM hD hy i1.toInt i2.toInt i3.toInt i4.toInt i5.toInt i6.toInt k i1.le_toInt i1.toInt_le i2.le_toInt i2.toInt_le i3.le_toInt i3.toInt_le i4.le_toInt i4.toInt_le i5.le_toInt i5.toInt_le i6.le_toInt i6.toInt_le k0 k1 kt kk rfl ⟨i1, rfl, rfl⟩ ⟨i2, rfl, rfl⟩ ⟨i3, rfl, rfl⟩ ⟨i4, rfl, rfl⟩ ⟨i5, rfl, rfl⟩ ⟨i6, rfl, rfl⟩ (fun h2 a ha u1 u2 u3 => ⟨a, rfl, ha, rfl, rfl, u1, u2⟩)) post
def ok_crown (p s y d u g : Int) : Prop := 0 ≤ p ∧ p < u ∧ 0 ≤ s ∧ s ≤ 5 ∧ 0 ≤ y ∧ y ≤ 9 ∧ 0 ≤ d ∧ d ≤ g
theorem cwc_run {cst : am_K} {strs : List Nat} {D : Nat} {h : am_H} (c1 : hp_C cst strs D) (c : hp_C cst strs (D + 1)) (hD : (6 : Int) ≤ (D : Int) + 1) (hy : ly_hy m_tt ly_TH h) {xp xs xy xd : Int32} {n u g s : Int} (n0 : 0 ≤ n) (n1 : n ≤ 1200) (kn : ly_hv cst h 257 0 = some n) (u0 : 0 ≤ u) (u1 : u ≤ 120) (ku : ly_hv cst h 1536 0 = some u) (g0 : 0 ≤ g) (g1 : g ≤ 399) (kg : ly_hv cst h 10 0 = some g) (s0 : 0 ≤ s) (s1 : s ≤ 100) (ks : ly_hv cst h 7170 0 = some s) (kl : ly_hv cst h 60002 0 = some (177 + 19 * s)) :
    ∃ r, am_Run cst m_cl m_tt m_P strs sx_bi (D + 1 + 1) 131 [.ref 16, .int xp, .int xs, .int xy, .int xd] h r ∧ (fun r : am_Q => (∃ a : Int32, r.1 = some (.int a) ∧ bg_A (ok_crown xp.toInt xs.toInt xy.toInt xd.toInt u g) (ow (ly_hv cst h 512) n) s a.toInt) ∧ r.2.2.1 ≤ 19 ∧ r.2.2.2 ≤ 261 ∧ ly_hy m_tt ly_TH r.2.1 ∧ ly_fr cst bg_mc h r.2.1 ∧ ly_hv cst r.2.1 257 0 = some 0 ∧ bg_C cst r.2.1 ((ok_crown xp.toInt xs.toInt xy.toInt xd.toInt u g) ∧ ow (ly_hv cst h 512) n ∧ s ≠ 100) s) r := by
  obtain ⟨M, hM, hl⟩ := hp_M (mi := 131) (k := 5) (by decide +kernel)
  have bp0 : -2147483648 ≤ xp.toInt := xp.le_toInt
  have bp1 : xp.toInt ≤ 2147483647 := xp.toInt_le
  have bs0 : -2147483648 ≤ xs.toInt := xs.le_toInt
  have bs1 : xs.toInt ≤ 2147483647 := xs.toInt_le
  have by0 : -2147483648 ≤ xy.toInt := xy.le_toInt
  have by1 : xy.toInt ≤ 2147483647 := xy.toInt_le
  have bd0 : -2147483648 ≤ xd.toInt := xd.le_toInt
  have bd1 : xd.toInt ≤ 2147483647 := xd.toInt_le
  have go : hp_F cst strs (fun r : am_Q => (∃ a : Int32, r.1 = some (.int a) ∧ bg_A (ok_crown xp.toInt xs.toInt xy.toInt xd.toInt u g) (ow (ly_hv cst h 512) n) s a.toInt) ∧ r.2.2.1 ≤ 19 ∧ r.2.2.2 ≤ 261 ∧ ly_hy m_tt ly_TH r.2.1 ∧ ly_fr cst bg_mc h r.2.1 ∧ ly_hv cst r.2.1 257 0 = some 0 ∧ bg_C cst r.2.1 ((ok_crown xp.toInt xs.toInt xy.toInt xd.toInt u g) ∧ ow (ly_hv cst h 512) n ∧ s ≠ 100) s) (D + 1) M 0 (lv_args 0 [.ref 16, .int xp, .int xs, .int xy, .int xd]) [] h := by
    refine cwc0 c hM (by omega) hy xp.toInt xs.toInt xy.toInt xd.toInt bp0 bp1 bs0 bs1 by0 by1 bd0 bd1 rfl ⟨xp, rfl, rfl⟩ ⟨xs, rfl, rfl⟩ ⟨xy, rfl, rfl⟩ ⟨xd, rfl, rfl⟩ (fun l1 h1 u1' u2 u3 j0 j1 j2 j3 j4 => ?_)
    obtain ⟨r, hrun, r1, r2, r3, rhy, rfr, rk, rE⟩ := tk_run c1 hD u1' n0 n1 (u2 _ _ _ rfl kn)
    refine hp_call (mi := 131) (pc := 4) (tg := 71) (na := 1) (c := 1) (ci := 1) (st0 := [.ref 17]) (st := []) (av := []) hM (by decide +kernel) u1' rfl rfl rfl (by decide) hrun r2 r3 ?_
    rw [r1]
    rw [hp_same th_CT rfl hy u1' u2] at rE
    have ml : ∀ {a b : am_H}, ly_fr cst [] a b → ly_fr cst bg_mc a b := fun f r i v _ e => f r i v rfl e
    have frA : ly_fr cst bg_mc h r.2.1 := ly_fr_tr (ml u2) (hp_sub2 rfl rfr)
    have kur := rfr _ _ _ rfl (u2 _ _ _ rfl ku)
    have kgr := rfr _ _ _ rfl (u2 _ _ _ rfl kg)
    by_cases q0 : xp.toInt ≤ -1
    · exact cwcg0 c hM (by omega) rhy xp.toInt xs.toInt xy.toInt xd.toInt u g (by omega) (by omega) (by omega) (by omega) (by omega) (by omega) (by omega) (by omega) u0 u1 g0 g1 kur kgr j0 j1 j2 j3 j4 (fun h3 w hw v1 v2 v3 => ⟨⟨w, rfl, fun _ => hw, fun ok => absurd ok (fun k => by have := k.1; omega), fun ok => absurd ok (fun k => by have := k.1; omega), fun ok => absurd ok (fun k => by have := k.1; omega)⟩, Nat.zero_le _, Nat.zero_le _, v1, ly_fr_tr frA (ml v2), v2 _ _ _ rfl rk, fun gg => absurd gg.1 (fun k => by have := k.1; omega), fun _ => ⟨v2 _ _ _ rfl (rfr _ _ _ rfl (u2 _ _ _ rfl ks)), v2 _ _ _ rfl (rfr _ _ _ rfl (u2 _ _ _ rfl kl))⟩⟩)
    by_cases q1 : u ≤ xp.toInt
    · exact cwcg1 c hM (by omega) rhy xp.toInt xs.toInt xy.toInt xd.toInt u g (by omega) (by omega) (by omega) (by omega) (by omega) (by omega) (by omega) (by omega) u0 u1 g0 g1 (by omega) kur kgr j0 j1 j2 j3 j4 (fun h3 w hw v1 v2 v3 => ⟨⟨w, rfl, fun _ => hw, fun ok => absurd ok (fun k => by have := k.2.1; omega), fun ok => absurd ok (fun k => by have := k.2.1; omega), fun ok => absurd ok (fun k => by have := k.2.1; omega)⟩, Nat.zero_le _, Nat.zero_le _, v1, ly_fr_tr frA (ml v2), v2 _ _ _ rfl rk, fun gg => absurd gg.1 (fun k => by have := k.2.1; omega), fun _ => ⟨v2 _ _ _ rfl (rfr _ _ _ rfl (u2 _ _ _ rfl ks)), v2 _ _ _ rfl (rfr _ _ _ rfl (u2 _ _ _ rfl kl))⟩⟩)
    by_cases q2 : xs.toInt ≤ -1
    · exact cwcg2 c hM (by omega) rhy xp.toInt xs.toInt xy.toInt xd.toInt u g (by omega) (by omega) (by omega) (by omega) (by omega) (by omega) (by omega) (by omega) u0 u1 g0 g1 (by omega) kur kgr j0 j1 j2 j3 j4 (fun h3 w hw v1 v2 v3 => ⟨⟨w, rfl, fun _ => hw, fun ok => absurd ok (fun k => by have := k.2.2.1; omega), fun ok => absurd ok (fun k => by have := k.2.2.1; omega), fun ok => absurd ok (fun k => by have := k.2.2.1; omega)⟩, Nat.zero_le _, Nat.zero_le _, v1, ly_fr_tr frA (ml v2), v2 _ _ _ rfl rk, fun gg => absurd gg.1 (fun k => by have := k.2.2.1; omega), fun _ => ⟨v2 _ _ _ rfl (rfr _ _ _ rfl (u2 _ _ _ rfl ks)), v2 _ _ _ rfl (rfr _ _ _ rfl (u2 _ _ _ rfl kl))⟩⟩)
    by_cases q3 : 6 ≤ xs.toInt
    · exact cwcg3 c hM (by omega) rhy xp.toInt xs.toInt xy.toInt xd.toInt u g (by omega) (by omega) (by omega) (by omega) (by omega) (by omega) (by omega) (by omega) u0 u1 g0 g1 (by omega) kur kgr j0 j1 j2 j3 j4 (fun h3 w hw v1 v2 v3 => ⟨⟨w, rfl, fun _ => hw, fun ok => absurd ok (fun k => by have := k.2.2.2.1; omega), fun ok => absurd ok (fun k => by have := k.2.2.2.1; omega), fun ok => absurd ok (fun k => by have := k.2.2.2.1; omega)⟩, Nat.zero_le _, Nat.zero_le _, v1, ly_fr_tr frA (ml v2), v2 _ _ _ rfl rk, fun gg => absurd gg.1 (fun k => by have := k.2.2.2.1; omega), fun _ => ⟨v2 _ _ _ rfl (rfr _ _ _ rfl (u2 _ _ _ rfl ks)), v2 _ _ _ rfl (rfr _ _ _ rfl (u2 _ _ _ rfl kl))⟩⟩)
    by_cases q4 : xy.toInt ≤ -1
    · exact cwcg4 c hM (by omega) rhy xp.toInt xs.toInt xy.toInt xd.toInt u g (by omega) (by omega) (by omega) (by omega) (by omega) (by omega) (by omega) (by omega) u0 u1 g0 g1 (by omega) kur kgr j0 j1 j2 j3 j4 (fun h3 w hw v1 v2 v3 => ⟨⟨w, rfl, fun _ => hw, fun ok => absurd ok (fun k => by have := k.2.2.2.2.1; omega), fun ok => absurd ok (fun k => by have := k.2.2.2.2.1; omega), fun ok => absurd ok (fun k => by have := k.2.2.2.2.1; omega)⟩, Nat.zero_le _, Nat.zero_le _, v1, ly_fr_tr frA (ml v2), v2 _ _ _ rfl rk, fun gg => absurd gg.1 (fun k => by have := k.2.2.2.2.1; omega), fun _ => ⟨v2 _ _ _ rfl (rfr _ _ _ rfl (u2 _ _ _ rfl ks)), v2 _ _ _ rfl (rfr _ _ _ rfl (u2 _ _ _ rfl kl))⟩⟩)
    by_cases q5 : 10 ≤ xy.toInt
    · exact cwcg5 c hM (by omega) rhy xp.toInt xs.toInt xy.toInt xd.toInt u g (by omega) (by omega) (by omega) (by omega) (by omega) (by omega) (by omega) (by omega) u0 u1 g0 g1 (by omega) kur kgr j0 j1 j2 j3 j4 (fun h3 w hw v1 v2 v3 => ⟨⟨w, rfl, fun _ => hw, fun ok => absurd ok (fun k => by have := k.2.2.2.2.2.1; omega), fun ok => absurd ok (fun k => by have := k.2.2.2.2.2.1; omega), fun ok => absurd ok (fun k => by have := k.2.2.2.2.2.1; omega)⟩, Nat.zero_le _, Nat.zero_le _, v1, ly_fr_tr frA (ml v2), v2 _ _ _ rfl rk, fun gg => absurd gg.1 (fun k => by have := k.2.2.2.2.2.1; omega), fun _ => ⟨v2 _ _ _ rfl (rfr _ _ _ rfl (u2 _ _ _ rfl ks)), v2 _ _ _ rfl (rfr _ _ _ rfl (u2 _ _ _ rfl kl))⟩⟩)
    by_cases q6 : xd.toInt ≤ -1
    · exact cwcg6 c hM (by omega) rhy xp.toInt xs.toInt xy.toInt xd.toInt u g (by omega) (by omega) (by omega) (by omega) (by omega) (by omega) (by omega) (by omega) u0 u1 g0 g1 (by omega) kur kgr j0 j1 j2 j3 j4 (fun h3 w hw v1 v2 v3 => ⟨⟨w, rfl, fun _ => hw, fun ok => absurd ok (fun k => by have := k.2.2.2.2.2.2.1; omega), fun ok => absurd ok (fun k => by have := k.2.2.2.2.2.2.1; omega), fun ok => absurd ok (fun k => by have := k.2.2.2.2.2.2.1; omega)⟩, Nat.zero_le _, Nat.zero_le _, v1, ly_fr_tr frA (ml v2), v2 _ _ _ rfl rk, fun gg => absurd gg.1 (fun k => by have := k.2.2.2.2.2.2.1; omega), fun _ => ⟨v2 _ _ _ rfl (rfr _ _ _ rfl (u2 _ _ _ rfl ks)), v2 _ _ _ rfl (rfr _ _ _ rfl (u2 _ _ _ rfl kl))⟩⟩)
    by_cases q7 : g < xd.toInt
    · exact cwcg7 c hM (by omega) rhy xp.toInt xs.toInt xy.toInt xd.toInt u g (by omega) (by omega) (by omega) (by omega) (by omega) (by omega) (by omega) (by omega) u0 u1 g0 g1 (by omega) (by omega) kur kgr j0 j1 j2 j3 j4 (fun h3 w hw v1 v2 v3 => ⟨⟨w, rfl, fun _ => hw, fun ok => absurd ok (fun k => by have := k.2.2.2.2.2.2.2; omega), fun ok => absurd ok (fun k => by have := k.2.2.2.2.2.2.2; omega), fun ok => absurd ok (fun k => by have := k.2.2.2.2.2.2.2; omega)⟩, Nat.zero_le _, Nat.zero_le _, v1, ly_fr_tr frA (ml v2), v2 _ _ _ rfl rk, fun gg => absurd gg.1 (fun k => by have := k.2.2.2.2.2.2.2; omega), fun _ => ⟨v2 _ _ _ rfl (rfr _ _ _ rfl (u2 _ _ _ rfl ks)), v2 _ _ _ rfl (rfr _ _ _ rfl (u2 _ _ _ rfl kl))⟩⟩)
    have ok : (ok_crown xp.toInt xs.toInt xy.toInt xd.toInt u g) := ⟨by omega, by omega, by omega, by omega, by omega, by omega, by omega, by omega⟩
    refine cwck c hM (by omega) rhy xp.toInt xs.toInt xy.toInt xd.toInt u g (by omega) (by omega) (by omega) (by omega) (by omega) (by omega) (by omega) (by omega) u0 u1 g0 g1 (by omega) (by omega) kur kgr j0 j1 j2 j3 j4 (fun l2 h2 y0 y1 y2 y3 y4 y5 f0 f1 f2 f3 f4 f5 w1 w2 w3 i0 => ?_)
    obtain ⟨r', hrun', ⟨a, ra, rA⟩, p1, p2, p3, p4, p5⟩ := bma_run (i1 := y5) (i2 := y4) (i3 := y3) (i4 := y2) (i5 := y1) (i6 := y0) (s := s) (n := n) (f := ly_hv cst h 512) c1 (by omega) w1 (by omega) (by omega) (by omega) (by omega) (by omega) (by omega) (by omega) (by omega) (by omega) (by omega) (by omega) (by omega) s0 s1 (w2 _ _ _ rfl (rfr _ _ _ rfl (u2 _ _ _ rfl kl))) (w2 _ _ _ rfl (rfr _ _ _ rfl (u2 _ _ _ rfl ks))) ⟨fun W => by obtain ⟨e1, e2, v, v0, v1, e3⟩ := rE.1 W; exact ⟨w2 _ _ _ rfl e1, w2 _ _ _ rfl e2, v, v0, v1, w2 _ _ _ rfl e3⟩, fun W => by rcases rE.2 W with ⟨t, t0, t1, t2, e1⟩ | ⟨e1, kk, k0, k1, e2⟩; exact Or.inl ⟨t, t0, t1, t2, w2 _ _ _ rfl e1⟩; exact Or.inr ⟨w2 _ _ _ rfl e1, kk, k0, k1, w2 _ _ _ rfl e2⟩⟩
    refine hp_callc (mi := 131) (pc := 40) (tg := 133) (na := 7) (c := 0) (ci := 0) (st0 := [.int y0, .int y1, .int y2, .int y3, .int y4, .int y5, .ref 16]) (st := []) (av := [.int y5, .int y4, .int y3, .int y2, .int y1, .int y0]) hM (by decide +kernel) w1 rfl rfl rfl (by decide) hrun' ?_
    rw [ra]
    refine cwcr c hM (by omega) p3 a.toInt a rfl a.le_toInt a.toInt_le i0 (fun h4 z hz t1 t2 t3 => ⟨⟨z, rfl, ?_⟩, p1, p2, t1, ly_fr_tr frA (ly_fr_tr (ml w2) (ly_fr_tr (hp_sub2 rfl p4) (ml t2))), t2 _ _ _ rfl (p4 _ _ _ rfl (w2 _ _ _ rfl rk)), fun gg => ?_, fun ng => ?_⟩)
    · rw [hz]
      exact ⟨fun no => absurd ok no, fun _ => rA.2.1 trivial, fun _ => rA.2.2.1 trivial, fun _ => rA.2.2.2 trivial⟩
    · obtain ⟨e1, e2⟩ := p5.1 gg.2
      exact ⟨t2 _ _ _ rfl e1, t2 _ _ _ rfl e2⟩
    · obtain ⟨e1, e2⟩ := p5.2 (fun z => ng ⟨ok, z⟩)
      exact ⟨t2 _ _ _ rfl e1, t2 _ _ _ rfl e2⟩
  obtain ⟨n', r, hgo, hΦ⟩ := go
  simp only [Nat.zero_add] at hΦ
  exact ⟨r, Or.inr ⟨M, n', hM, hl, hgo⟩, hΦ⟩
theorem xwc_run {cst : am_K} {strs : List Nat} {D : Nat} {h : am_H} (c1 : hp_C cst strs D) (c2 : hp_C cst strs (D + 1)) (c3 : hp_C cst strs (D + 1 + 1)) (c : hp_C cst strs (D + 1 + 1 + 1)) (hD : (6 : Int) ≤ (D : Int) + 1) (hy : ly_hy m_tt ly_TH h) {xp xs xy xd : Int32} {n u g s : Int} (n0 : 0 ≤ n) (n1 : n ≤ 1200) (kn : ly_hv cst h 19969 0 = some n) (u0 : 0 ≤ u) (u1 : u ≤ 120) (ku : ly_hv cst h 19978 0 = some u) (g0 : 0 ≤ g) (g1 : g ≤ 399) (kg : ly_hv cst h 19977 0 = some g) (s0 : 0 ≤ s) (s1 : s ≤ 100) (km : ly_hv cst h 20024 0 = some s) :
    ∃ r, am_Run cst m_cl m_tt m_P strs sx_bi (D + 1 + 1 + 1 + 1) 334 [.ref 94, .int xp, .int xs, .int xy, .int xd] h r ∧ (fun r : am_Q => (∃ a : Int32, r.1 = some (.int a) ∧ bg_A (ok_crown xp.toInt xs.toInt xy.toInt xd.toInt u g) (ow (ow_g (ly_hv cst h 20224)) n) s a.toInt) ∧ r.2.2.1 = 0 ∧ r.2.2.2 = 0 ∧ ly_hy m_tt ly_TH r.2.1 ∧ ly_fr cst bg_mm h r.2.1 ∧ ly_hv cst r.2.1 19969 0 = some 0 ∧ bg_M cst r.2.1 ((ok_crown xp.toInt xs.toInt xy.toInt xd.toInt u g) ∧ ow (ow_g (ly_hv cst h 20224)) n ∧ s ≠ 100) s) r := by
  obtain ⟨M, hM, hl⟩ := hp_M (mi := 334) (k := 5) (by decide +kernel)
  have bp0 : -2147483648 ≤ xp.toInt := xp.le_toInt
  have bp1 : xp.toInt ≤ 2147483647 := xp.toInt_le
  have bs0 : -2147483648 ≤ xs.toInt := xs.le_toInt
  have bs1 : xs.toInt ≤ 2147483647 := xs.toInt_le
  have by0 : -2147483648 ≤ xy.toInt := xy.le_toInt
  have by1 : xy.toInt ≤ 2147483647 := xy.toInt_le
  have bd0 : -2147483648 ≤ xd.toInt := xd.le_toInt
  have bd1 : xd.toInt ≤ 2147483647 := xd.toInt_le
  have go : hp_F cst strs (fun r : am_Q => (∃ a : Int32, r.1 = some (.int a) ∧ bg_A (ok_crown xp.toInt xs.toInt xy.toInt xd.toInt u g) (ow (ow_g (ly_hv cst h 20224)) n) s a.toInt) ∧ r.2.2.1 = 0 ∧ r.2.2.2 = 0 ∧ ly_hy m_tt ly_TH r.2.1 ∧ ly_fr cst bg_mm h r.2.1 ∧ ly_hv cst r.2.1 19969 0 = some 0 ∧ bg_M cst r.2.1 ((ok_crown xp.toInt xs.toInt xy.toInt xd.toInt u g) ∧ ow (ow_g (ly_hv cst h 20224)) n ∧ s ≠ 100) s) (D + 1 + 1 + 1) M 0 (lv_args 0 [.ref 94, .int xp, .int xs, .int xy, .int xd]) [] h := by
    refine xwc0 c hM (by omega) hy xp.toInt xs.toInt xy.toInt xd.toInt bp0 bp1 bs0 bs1 by0 by1 bd0 bd1 rfl ⟨xp, rfl, rfl⟩ ⟨xs, rfl, rfl⟩ ⟨xy, rfl, rfl⟩ ⟨xd, rfl, rfl⟩ (fun l1 h1 u1' u2 u3 j0 j1 j2 j3 j4 => ?_)
    obtain ⟨r, hrun, ⟨xv, ra, rW⟩, r2, r3, rhy, rfr, rk⟩ := so_run c1 c2 c3 hD u1' n0 n1 (u2 _ _ _ rfl kn)
    refine hp_call (mi := 334) (pc := 2) (tg := 323) (na := 1) (c := 78) (ci := 12) (st0 := [.ref 94]) (st := [.ref 94]) (av := []) hM (by decide +kernel) u1' rfl rfl rfl (Nat.le_of_ble_eq_true rfl) hrun r2 r3 ?_
    rw [ra]
    rw [hp_sameb th_BT rfl hy u1' u2] at rW
    have ml : ∀ {a b : am_H}, ly_fr cst [] a b → ly_fr cst bg_mm a b := fun f r i v _ e => f r i v rfl e
    have frA : ly_fr cst bg_mm h r.2.1 := ly_fr_tr (ml u2) (hp_sub2 rfl rfr)
    have kur := rfr _ _ _ rfl (u2 _ _ _ rfl ku)
    have kgr := rfr _ _ _ rfl (u2 _ _ _ rfl kg)
    have kmr := rfr _ _ _ rfl (u2 _ _ _ rfl km)
    have z0 : 0 ≤ xv.toInt := by
      by_cases W : ow (ow_g (ly_hv cst h 20224)) n
      · have := rW.1 W
        omega
      · rw [rW.2 W]
        exact Int.le_refl _
    have z1 : xv.toInt ≤ 1152921504606846976 := by
      by_cases W : ow (ow_g (ly_hv cst h 20224)) n
      · exact (rW.1 W).2
      · rw [rW.2 W]
        decide
    by_cases q0 : xp.toInt ≤ -1
    · exact xwcg0 c hM (by omega) rhy xp.toInt xs.toInt xy.toInt xd.toInt u g xv.toInt xv rfl (by omega) (by omega) (by omega) (by omega) (by omega) (by omega) (by omega) (by omega) u0 u1 g0 g1 z0 z1 kur kgr j0 j1 j2 j3 j4 (fun h3 w hw v1 v2 v3 => ⟨⟨w, rfl, fun _ => hw, fun ok => absurd ok (fun k => by have := k.1; omega), fun ok => absurd ok (fun k => by have := k.1; omega), fun ok => absurd ok (fun k => by have := k.1; omega)⟩, rfl, rfl, v1, ly_fr_tr frA (hp_sub2 rfl v2), v2 _ _ _ rfl rk, fun gg => absurd gg.1 (fun k => by have := k.1; omega), fun _ => v2 _ _ _ rfl kmr⟩)
    by_cases q1 : u ≤ xp.toInt
    · exact xwcg1 c hM (by omega) rhy xp.toInt xs.toInt xy.toInt xd.toInt u g xv.toInt xv rfl (by omega) (by omega) (by omega) (by omega) (by omega) (by omega) (by omega) (by omega) u0 u1 g0 g1 z0 z1 (by omega) kur kgr j0 j1 j2 j3 j4 (fun h3 w hw v1 v2 v3 => ⟨⟨w, rfl, fun _ => hw, fun ok => absurd ok (fun k => by have := k.2.1; omega), fun ok => absurd ok (fun k => by have := k.2.1; omega), fun ok => absurd ok (fun k => by have := k.2.1; omega)⟩, rfl, rfl, v1, ly_fr_tr frA (hp_sub2 rfl v2), v2 _ _ _ rfl rk, fun gg => absurd gg.1 (fun k => by have := k.2.1; omega), fun _ => v2 _ _ _ rfl kmr⟩)
    by_cases q2 : xs.toInt ≤ -1
    · exact xwcg2 c hM (by omega) rhy xp.toInt xs.toInt xy.toInt xd.toInt u g xv.toInt xv rfl (by omega) (by omega) (by omega) (by omega) (by omega) (by omega) (by omega) (by omega) u0 u1 g0 g1 z0 z1 (by omega) kur kgr j0 j1 j2 j3 j4 (fun h3 w hw v1 v2 v3 => ⟨⟨w, rfl, fun _ => hw, fun ok => absurd ok (fun k => by have := k.2.2.1; omega), fun ok => absurd ok (fun k => by have := k.2.2.1; omega), fun ok => absurd ok (fun k => by have := k.2.2.1; omega)⟩, rfl, rfl, v1, ly_fr_tr frA (hp_sub2 rfl v2), v2 _ _ _ rfl rk, fun gg => absurd gg.1 (fun k => by have := k.2.2.1; omega), fun _ => v2 _ _ _ rfl kmr⟩)
    by_cases q3 : 6 ≤ xs.toInt
    · exact xwcg3 c hM (by omega) rhy xp.toInt xs.toInt xy.toInt xd.toInt u g xv.toInt xv rfl (by omega) (by omega) (by omega) (by omega) (by omega) (by omega) (by omega) (by omega) u0 u1 g0 g1 z0 z1 (by omega) kur kgr j0 j1 j2 j3 j4 (fun h3 w hw v1 v2 v3 => ⟨⟨w, rfl, fun _ => hw, fun ok => absurd ok (fun k => by have := k.2.2.2.1; omega), fun ok => absurd ok (fun k => by have := k.2.2.2.1; omega), fun ok => absurd ok (fun k => by have := k.2.2.2.1; omega)⟩, rfl, rfl, v1, ly_fr_tr frA (hp_sub2 rfl v2), v2 _ _ _ rfl rk, fun gg => absurd gg.1 (fun k => by have := k.2.2.2.1; omega), fun _ => v2 _ _ _ rfl kmr⟩)
    by_cases q4 : xy.toInt ≤ -1
    · exact xwcg4 c hM (by omega) rhy xp.toInt xs.toInt xy.toInt xd.toInt u g xv.toInt xv rfl (by omega) (by omega) (by omega) (by omega) (by omega) (by omega) (by omega) (by omega) u0 u1 g0 g1 z0 z1 (by omega) kur kgr j0 j1 j2 j3 j4 (fun h3 w hw v1 v2 v3 => ⟨⟨w, rfl, fun _ => hw, fun ok => absurd ok (fun k => by have := k.2.2.2.2.1; omega), fun ok => absurd ok (fun k => by have := k.2.2.2.2.1; omega), fun ok => absurd ok (fun k => by have := k.2.2.2.2.1; omega)⟩, rfl, rfl, v1, ly_fr_tr frA (hp_sub2 rfl v2), v2 _ _ _ rfl rk, fun gg => absurd gg.1 (fun k => by have := k.2.2.2.2.1; omega), fun _ => v2 _ _ _ rfl kmr⟩)
    by_cases q5 : 10 ≤ xy.toInt
    · exact xwcg5 c hM (by omega) rhy xp.toInt xs.toInt xy.toInt xd.toInt u g xv.toInt xv rfl (by omega) (by omega) (by omega) (by omega) (by omega) (by omega) (by omega) (by omega) u0 u1 g0 g1 z0 z1 (by omega) kur kgr j0 j1 j2 j3 j4 (fun h3 w hw v1 v2 v3 => ⟨⟨w, rfl, fun _ => hw, fun ok => absurd ok (fun k => by have := k.2.2.2.2.2.1; omega), fun ok => absurd ok (fun k => by have := k.2.2.2.2.2.1; omega), fun ok => absurd ok (fun k => by have := k.2.2.2.2.2.1; omega)⟩, rfl, rfl, v1, ly_fr_tr frA (hp_sub2 rfl v2), v2 _ _ _ rfl rk, fun gg => absurd gg.1 (fun k => by have := k.2.2.2.2.2.1; omega), fun _ => v2 _ _ _ rfl kmr⟩)
    by_cases q6 : xd.toInt ≤ -1
    · exact xwcg6 c hM (by omega) rhy xp.toInt xs.toInt xy.toInt xd.toInt u g xv.toInt xv rfl (by omega) (by omega) (by omega) (by omega) (by omega) (by omega) (by omega) (by omega) u0 u1 g0 g1 z0 z1 (by omega) kur kgr j0 j1 j2 j3 j4 (fun h3 w hw v1 v2 v3 => ⟨⟨w, rfl, fun _ => hw, fun ok => absurd ok (fun k => by have := k.2.2.2.2.2.2.1; omega), fun ok => absurd ok (fun k => by have := k.2.2.2.2.2.2.1; omega), fun ok => absurd ok (fun k => by have := k.2.2.2.2.2.2.1; omega)⟩, rfl, rfl, v1, ly_fr_tr frA (hp_sub2 rfl v2), v2 _ _ _ rfl rk, fun gg => absurd gg.1 (fun k => by have := k.2.2.2.2.2.2.1; omega), fun _ => v2 _ _ _ rfl kmr⟩)
    by_cases q7 : g < xd.toInt
    · exact xwcg7 c hM (by omega) rhy xp.toInt xs.toInt xy.toInt xd.toInt u g xv.toInt xv rfl (by omega) (by omega) (by omega) (by omega) (by omega) (by omega) (by omega) (by omega) u0 u1 g0 g1 z0 z1 (by omega) (by omega) kur kgr j0 j1 j2 j3 j4 (fun h3 w hw v1 v2 v3 => ⟨⟨w, rfl, fun _ => hw, fun ok => absurd ok (fun k => by have := k.2.2.2.2.2.2.2; omega), fun ok => absurd ok (fun k => by have := k.2.2.2.2.2.2.2; omega), fun ok => absurd ok (fun k => by have := k.2.2.2.2.2.2.2; omega)⟩, rfl, rfl, v1, ly_fr_tr frA (hp_sub2 rfl v2), v2 _ _ _ rfl rk, fun gg => absurd gg.1 (fun k => by have := k.2.2.2.2.2.2.2; omega), fun _ => v2 _ _ _ rfl kmr⟩)
    have ok : (ok_crown xp.toInt xs.toInt xy.toInt xd.toInt u g) := ⟨by omega, by omega, by omega, by omega, by omega, by omega, by omega, by omega⟩
    by_cases W : ow (ow_g (ly_hv cst h 20224)) n
    · have v0 := (rW.1 W).1
      by_cases z : s = 100
      · rw [z] at kmr
        exact xwcf c hM (by omega) rhy xp.toInt xs.toInt xy.toInt xd.toInt u g xv.toInt xv rfl (by omega) (by omega) (by omega) (by omega) (by omega) (by omega) (by omega) (by omega) u0 u1 g0 g1 v0 z1 (by omega) (by omega) kur kgr kmr j0 j1 j2 j3 j4 (fun h3 w hw v1 v2 v3 => ⟨⟨w, rfl, fun no => absurd ok no, fun _ nw => absurd W nw, fun _ _ _ => hw, fun _ _ nz => absurd z nz⟩, rfl, rfl, v1, ly_fr_tr frA (hp_sub2 rfl v2), v2 _ _ _ rfl rk, fun gg => absurd z gg.2.2, fun _ => by rw [z]; exact v2 _ _ _ rfl kmr⟩)
      · refine xwck c hM (by omega) rhy xp.toInt xs.toInt xy.toInt xd.toInt u g xv.toInt s xv rfl (by omega) (by omega) (by omega) (by omega) (by omega) (by omega) (by omega) (by omega) u0 u1 g0 g1 v0 z1 s0 (by omega) (by omega) (by omega) kur kgr kmr j0 j1 j2 j3 j4 (fun l2 h2 y0 y1 y2 y3 y4 y5 y6 f0 f1 f2 f3 f4 f5 f6 w1 w2 w3 i0 => ?_)
        have go2 : ∃ r', am_Run cst m_cl m_tt m_P strs sx_bi (D + 1 + 1 + 1) 335 [.ref 94, .int y6, .int y5, .int y4, .int y3, .int y2, .int y1, .int y0] h2 r' ∧ (∃ a : Int32, r'.1 = some (.int a) ∧ a.toInt = s) ∧ r'.2.2.1 = 0 ∧ r'.2.2.2 = 0 ∧ ly_hy m_tt ly_TH r'.2.1 ∧ ly_fr cst [20024, 20054, 28416, 28672, 28928, 29184, 29440, 29696, 29952, 30208, 30464, 32000, 32768, 35584, 35840] h2 r'.2.1 ∧ ly_hv cst r'.2.1 20024 0 = some (s + 1) := by
          obtain ⟨M2, hM2, hl2⟩ := hp_M (mi := 335) (k := 8) (by decide +kernel)
          obtain ⟨n', r', hgo, ra', q2, q3, q4⟩ := xb0 (Φ := fun r' => (∃ a : Int32, r'.1 = some (.int a) ∧ a.toInt = s) ∧ r'.2.2.1 = 0 ∧ r'.2.2.2 = 0 ∧ ly_hy m_tt ly_TH r'.2.1 ∧ ly_fr cst [20024, 20054, 28416, 28672, 28928, 29184, 29440, 29696, 29952, 30208, 30464, 32000, 32768, 35584, 35840] h2 r'.2.1 ∧ ly_hv cst r'.2.1 20024 0 = some (s + 1)) c3 hM2 (by omega) w1 y6.toInt y5.toInt y4.toInt y3.toInt y2.toInt y1.toInt y0.toInt s g (by omega) (by omega) y5.le_toInt y5.toInt_le y4.le_toInt y4.toInt_le y3.le_toInt y3.toInt_le y2.le_toInt y2.toInt_le y1.le_toInt y1.toInt_le y0.le_toInt y0.toInt_le s0 (by omega) g0 g1 (w2 _ _ _ rfl kmr) (w2 _ _ _ rfl kgr) (l := lv_args 0 [.ref 94, .int y6, .int y5, .int y4, .int y3, .int y2, .int y1, .int y0]) rfl ⟨y6, rfl, rfl⟩ ⟨y5, rfl, rfl⟩ ⟨y4, rfl, rfl⟩ ⟨y3, rfl, rfl⟩ ⟨y2, rfl, rfl⟩ ⟨y1, rfl, rfl⟩ ⟨y0, rfl, rfl⟩ (fun h3 a ha t1 t2 t3 t4 => ⟨⟨a, rfl, ha⟩, rfl, rfl, t1, t2, t4⟩)
          simp only [Nat.zero_add] at q2 q3
          exact ⟨r', Or.inr ⟨M2, n', hM2, hl2, hgo⟩, ra', q2, q3, q4⟩
        obtain ⟨r', hrun', ⟨a, ra', ea⟩, q2, q3, q4, q5, q6⟩ := go2
        refine hp_call (mi := 334) (pc := 83) (tg := 335) (na := 8) (c := 78) (ci := 12) (st0 := [.int y0, .int y1, .int y2, .int y3, .int y4, .int y5, .int y6, .ref 94]) (st := []) (av := [.int y6, .int y5, .int y4, .int y3, .int y2, .int y1, .int y0]) hM (by decide +kernel) w1 rfl rfl rfl (by decide) hrun' q2 q3 ?_
        rw [ra']
        exact xwcr c hM (by omega) q4 a.toInt a rfl a.le_toInt a.toInt_le i0 (fun h4 w hw t1 t2 t3 => ⟨⟨w, rfl, fun no => absurd ok no, fun _ nw => absurd W nw, fun _ _ e => absurd e z, fun _ _ _ => by omega⟩, rfl, rfl, t1, ly_fr_tr frA (ly_fr_tr (hp_sub2 rfl w2) (ly_fr_tr (hp_sub2 rfl q5) (ml t2))), t2 _ _ _ rfl (q5 _ _ _ rfl (w2 _ _ _ rfl rk)), fun _ => t2 _ _ _ rfl q6, fun ng => absurd ⟨ok, W, z⟩ ng⟩)
    · exact xwcn c hM (by omega) rhy xp.toInt xs.toInt xy.toInt xd.toInt u g xv (rW.2 W) (by omega) (by omega) (by omega) (by omega) (by omega) (by omega) (by omega) (by omega) u0 u1 g0 g1 (by omega) (by omega) kur kgr j0 j1 j2 j3 j4 (fun h3 w hw v1 v2 v3 => ⟨⟨w, rfl, fun no => absurd ok no, fun _ _ => hw, fun _ w' => absurd w' W, fun _ w' => absurd w' W⟩, rfl, rfl, v1, ly_fr_tr frA (hp_sub2 rfl v2), v2 _ _ _ rfl rk, fun gg => absurd gg.2.1 W, fun _ => v2 _ _ _ rfl kmr⟩)
  obtain ⟨n', r, hgo, hx, r2, r3, r4⟩ := go
  simp only [Nat.zero_add] at r2 r3
  exact ⟨r, Or.inr ⟨M, n', hM, hl, hgo⟩, hx, r2, r3, r4⟩
def ok_plea (p q s y d w u g : Int) : Prop := 0 ≤ p ∧ p < u ∧ 0 ≤ q ∧ q < u ∧ p ≠ q ∧ 0 ≤ s ∧ s ≤ 5 ∧ 0 ≤ y ∧ y ≤ 9 ∧ 0 ≤ d ∧ d ≤ g ∧ 1 ≤ w ∧ w ≤ 9999
theorem cwp_run {cst : am_K} {strs : List Nat} {D : Nat} {h : am_H} (c1 : hp_C cst strs D) (c : hp_C cst strs (D + 1)) (hD : (6 : Int) ≤ (D : Int) + 1) (hy : ly_hy m_tt ly_TH h) {xp xq xs xy xd xw : Int32} {n u g s : Int} (n0 : 0 ≤ n) (n1 : n ≤ 1200) (kn : ly_hv cst h 257 0 = some n) (u0 : 0 ≤ u) (u1 : u ≤ 120) (ku : ly_hv cst h 1536 0 = some u) (g0 : 0 ≤ g) (g1 : g ≤ 399) (kg : ly_hv cst h 10 0 = some g) (s0 : 0 ≤ s) (s1 : s ≤ 100) (ks : ly_hv cst h 7170 0 = some s) (kl : ly_hv cst h 60002 0 = some (177 + 19 * s)) :
    ∃ r, am_Run cst m_cl m_tt m_P strs sx_bi (D + 1 + 1) 137 [.ref 16, .int xp, .int xq, .int xs, .int xy, .int xd, .int xw] h r ∧ (fun r : am_Q => (∃ a : Int32, r.1 = some (.int a) ∧ bg_A (ok_plea xp.toInt xq.toInt xs.toInt xy.toInt xd.toInt xw.toInt u g) (ow (ly_hv cst h 512) n) s a.toInt) ∧ r.2.2.1 ≤ 19 ∧ r.2.2.2 ≤ 261 ∧ ly_hy m_tt ly_TH r.2.1 ∧ ly_fr cst bg_mc h r.2.1 ∧ ly_hv cst r.2.1 257 0 = some 0 ∧ bg_C cst r.2.1 ((ok_plea xp.toInt xq.toInt xs.toInt xy.toInt xd.toInt xw.toInt u g) ∧ ow (ly_hv cst h 512) n ∧ s ≠ 100) s) r := by
  obtain ⟨M, hM, hl⟩ := hp_M (mi := 137) (k := 7) (by decide +kernel)
  have bp0 : -2147483648 ≤ xp.toInt := xp.le_toInt
  have bp1 : xp.toInt ≤ 2147483647 := xp.toInt_le
  have bq0 : -2147483648 ≤ xq.toInt := xq.le_toInt
  have bq1 : xq.toInt ≤ 2147483647 := xq.toInt_le
  have bs0 : -2147483648 ≤ xs.toInt := xs.le_toInt
  have bs1 : xs.toInt ≤ 2147483647 := xs.toInt_le
  have by0 : -2147483648 ≤ xy.toInt := xy.le_toInt
  have by1 : xy.toInt ≤ 2147483647 := xy.toInt_le
  have bd0 : -2147483648 ≤ xd.toInt := xd.le_toInt
  have bd1 : xd.toInt ≤ 2147483647 := xd.toInt_le
  have bw0 : -2147483648 ≤ xw.toInt := xw.le_toInt
  have bw1 : xw.toInt ≤ 2147483647 := xw.toInt_le
  have go : hp_F cst strs (fun r : am_Q => (∃ a : Int32, r.1 = some (.int a) ∧ bg_A (ok_plea xp.toInt xq.toInt xs.toInt xy.toInt xd.toInt xw.toInt u g) (ow (ly_hv cst h 512) n) s a.toInt) ∧ r.2.2.1 ≤ 19 ∧ r.2.2.2 ≤ 261 ∧ ly_hy m_tt ly_TH r.2.1 ∧ ly_fr cst bg_mc h r.2.1 ∧ ly_hv cst r.2.1 257 0 = some 0 ∧ bg_C cst r.2.1 ((ok_plea xp.toInt xq.toInt xs.toInt xy.toInt xd.toInt xw.toInt u g) ∧ ow (ly_hv cst h 512) n ∧ s ≠ 100) s) (D + 1) M 0 (lv_args 0 [.ref 16, .int xp, .int xq, .int xs, .int xy, .int xd, .int xw]) [] h := by
    refine cwp0 c hM (by omega) hy xp.toInt xq.toInt xs.toInt xy.toInt xd.toInt xw.toInt bp0 bp1 bq0 bq1 bs0 bs1 by0 by1 bd0 bd1 bw0 bw1 rfl ⟨xp, rfl, rfl⟩ ⟨xq, rfl, rfl⟩ ⟨xs, rfl, rfl⟩ ⟨xy, rfl, rfl⟩ ⟨xd, rfl, rfl⟩ ⟨xw, rfl, rfl⟩ (fun l1 h1 u1' u2 u3 j0 j1 j2 j3 j4 j5 j6 => ?_)
    obtain ⟨r, hrun, r1, r2, r3, rhy, rfr, rk, rE⟩ := tk_run c1 hD u1' n0 n1 (u2 _ _ _ rfl kn)
    refine hp_call (mi := 137) (pc := 4) (tg := 71) (na := 1) (c := 1) (ci := 1) (st0 := [.ref 17]) (st := []) (av := []) hM (by decide +kernel) u1' rfl rfl rfl (by decide) hrun r2 r3 ?_
    rw [r1]
    rw [hp_same th_CT rfl hy u1' u2] at rE
    have ml : ∀ {a b : am_H}, ly_fr cst [] a b → ly_fr cst bg_mc a b := fun f r i v _ e => f r i v rfl e
    have frA : ly_fr cst bg_mc h r.2.1 := ly_fr_tr (ml u2) (hp_sub2 rfl rfr)
    have kur := rfr _ _ _ rfl (u2 _ _ _ rfl ku)
    have kgr := rfr _ _ _ rfl (u2 _ _ _ rfl kg)
    by_cases q0 : xp.toInt ≤ -1
    · exact cwpg0 c hM (by omega) rhy xp.toInt xq.toInt xs.toInt xy.toInt xd.toInt xw.toInt u g (by omega) (by omega) (by omega) (by omega) (by omega) (by omega) (by omega) (by omega) (by omega) (by omega) (by omega) (by omega) u0 u1 g0 g1 kur kgr j0 j1 j2 j3 j4 j5 j6 (fun h3 w hw v1 v2 v3 => ⟨⟨w, rfl, fun _ => hw, fun ok => absurd ok (fun k => by have := k.1; omega), fun ok => absurd ok (fun k => by have := k.1; omega), fun ok => absurd ok (fun k => by have := k.1; omega)⟩, Nat.zero_le _, Nat.zero_le _, v1, ly_fr_tr frA (ml v2), v2 _ _ _ rfl rk, fun gg => absurd gg.1 (fun k => by have := k.1; omega), fun _ => ⟨v2 _ _ _ rfl (rfr _ _ _ rfl (u2 _ _ _ rfl ks)), v2 _ _ _ rfl (rfr _ _ _ rfl (u2 _ _ _ rfl kl))⟩⟩)
    by_cases q1 : u ≤ xp.toInt
    · exact cwpg1 c hM (by omega) rhy xp.toInt xq.toInt xs.toInt xy.toInt xd.toInt xw.toInt u g (by omega) (by omega) (by omega) (by omega) (by omega) (by omega) (by omega) (by omega) (by omega) (by omega) (by omega) (by omega) u0 u1 g0 g1 (by omega) kur kgr j0 j1 j2 j3 j4 j5 j6 (fun h3 w hw v1 v2 v3 => ⟨⟨w, rfl, fun _ => hw, fun ok => absurd ok (fun k => by have := k.2.1; omega), fun ok => absurd ok (fun k => by have := k.2.1; omega), fun ok => absurd ok (fun k => by have := k.2.1; omega)⟩, Nat.zero_le _, Nat.zero_le _, v1, ly_fr_tr frA (ml v2), v2 _ _ _ rfl rk, fun gg => absurd gg.1 (fun k => by have := k.2.1; omega), fun _ => ⟨v2 _ _ _ rfl (rfr _ _ _ rfl (u2 _ _ _ rfl ks)), v2 _ _ _ rfl (rfr _ _ _ rfl (u2 _ _ _ rfl kl))⟩⟩)
    by_cases q2 : xq.toInt ≤ -1
    · exact cwpg2 c hM (by omega) rhy xp.toInt xq.toInt xs.toInt xy.toInt xd.toInt xw.toInt u g (by omega) (by omega) (by omega) (by omega) (by omega) (by omega) (by omega) (by omega) (by omega) (by omega) (by omega) (by omega) u0 u1 g0 g1 (by omega) kur kgr j0 j1 j2 j3 j4 j5 j6 (fun h3 w hw v1 v2 v3 => ⟨⟨w, rfl, fun _ => hw, fun ok => absurd ok (fun k => by have := k.2.2.1; omega), fun ok => absurd ok (fun k => by have := k.2.2.1; omega), fun ok => absurd ok (fun k => by have := k.2.2.1; omega)⟩, Nat.zero_le _, Nat.zero_le _, v1, ly_fr_tr frA (ml v2), v2 _ _ _ rfl rk, fun gg => absurd gg.1 (fun k => by have := k.2.2.1; omega), fun _ => ⟨v2 _ _ _ rfl (rfr _ _ _ rfl (u2 _ _ _ rfl ks)), v2 _ _ _ rfl (rfr _ _ _ rfl (u2 _ _ _ rfl kl))⟩⟩)
    by_cases q3 : u ≤ xq.toInt
    · exact cwpg3 c hM (by omega) rhy xp.toInt xq.toInt xs.toInt xy.toInt xd.toInt xw.toInt u g (by omega) (by omega) (by omega) (by omega) (by omega) (by omega) (by omega) (by omega) (by omega) (by omega) (by omega) (by omega) u0 u1 g0 g1 (by omega) (by omega) kur kgr j0 j1 j2 j3 j4 j5 j6 (fun h3 w hw v1 v2 v3 => ⟨⟨w, rfl, fun _ => hw, fun ok => absurd ok (fun k => by have := k.2.2.2.1; omega), fun ok => absurd ok (fun k => by have := k.2.2.2.1; omega), fun ok => absurd ok (fun k => by have := k.2.2.2.1; omega)⟩, Nat.zero_le _, Nat.zero_le _, v1, ly_fr_tr frA (ml v2), v2 _ _ _ rfl rk, fun gg => absurd gg.1 (fun k => by have := k.2.2.2.1; omega), fun _ => ⟨v2 _ _ _ rfl (rfr _ _ _ rfl (u2 _ _ _ rfl ks)), v2 _ _ _ rfl (rfr _ _ _ rfl (u2 _ _ _ rfl kl))⟩⟩)
    by_cases q4 : xp.toInt = xq.toInt
    · exact cwpg4 c hM (by omega) rhy xp.toInt xs.toInt xy.toInt xd.toInt xw.toInt u g (by omega) (by omega) (by omega) (by omega) (by omega) (by omega) (by omega) (by omega) (by omega) (by omega) u0 u1 g0 g1 (by omega) kur kgr j0 j1 (by obtain ⟨z, z1, z2⟩ := j2; exact ⟨z, z1, by omega⟩) j3 j4 j5 j6 (fun h3 w hw v1 v2 v3 => ⟨⟨w, rfl, fun _ => hw, fun ok => absurd ok (fun k => k.2.2.2.2.1 q4), fun ok => absurd ok (fun k => k.2.2.2.2.1 q4), fun ok => absurd ok (fun k => k.2.2.2.2.1 q4)⟩, Nat.zero_le _, Nat.zero_le _, v1, ly_fr_tr frA (ml v2), v2 _ _ _ rfl rk, fun gg => absurd gg.1 (fun k => k.2.2.2.2.1 q4), fun _ => ⟨v2 _ _ _ rfl (rfr _ _ _ rfl (u2 _ _ _ rfl ks)), v2 _ _ _ rfl (rfr _ _ _ rfl (u2 _ _ _ rfl kl))⟩⟩)
    have ne : ly_hv cst r.2.1 61000 (xp.toInt - xq.toInt) = some 1 := hp_ne (by omega)
    by_cases q5 : xs.toInt ≤ -1
    · exact cwpg5 c hM (by omega) rhy xp.toInt xq.toInt xs.toInt xy.toInt xd.toInt xw.toInt u g (by omega) (by omega) (by omega) (by omega) (by omega) (by omega) (by omega) (by omega) (by omega) (by omega) (by omega) (by omega) u0 u1 g0 g1 (by omega) (by omega) kur kgr ne j0 j1 j2 j3 j4 j5 j6 (fun h3 w hw v1 v2 v3 => ⟨⟨w, rfl, fun _ => hw, fun ok => absurd ok (fun k => by have := k.2.2.2.2.2.1; omega), fun ok => absurd ok (fun k => by have := k.2.2.2.2.2.1; omega), fun ok => absurd ok (fun k => by have := k.2.2.2.2.2.1; omega)⟩, Nat.zero_le _, Nat.zero_le _, v1, ly_fr_tr frA (ml v2), v2 _ _ _ rfl rk, fun gg => absurd gg.1 (fun k => by have := k.2.2.2.2.2.1; omega), fun _ => ⟨v2 _ _ _ rfl (rfr _ _ _ rfl (u2 _ _ _ rfl ks)), v2 _ _ _ rfl (rfr _ _ _ rfl (u2 _ _ _ rfl kl))⟩⟩)
    by_cases q6 : 6 ≤ xs.toInt
    · exact cwpg6 c hM (by omega) rhy xp.toInt xq.toInt xs.toInt xy.toInt xd.toInt xw.toInt u g (by omega) (by omega) (by omega) (by omega) (by omega) (by omega) (by omega) (by omega) (by omega) (by omega) (by omega) (by omega) u0 u1 g0 g1 (by omega) (by omega) kur kgr ne j0 j1 j2 j3 j4 j5 j6 (fun h3 w hw v1 v2 v3 => ⟨⟨w, rfl, fun _ => hw, fun ok => absurd ok (fun k => by have := k.2.2.2.2.2.2.1; omega), fun ok => absurd ok (fun k => by have := k.2.2.2.2.2.2.1; omega), fun ok => absurd ok (fun k => by have := k.2.2.2.2.2.2.1; omega)⟩, Nat.zero_le _, Nat.zero_le _, v1, ly_fr_tr frA (ml v2), v2 _ _ _ rfl rk, fun gg => absurd gg.1 (fun k => by have := k.2.2.2.2.2.2.1; omega), fun _ => ⟨v2 _ _ _ rfl (rfr _ _ _ rfl (u2 _ _ _ rfl ks)), v2 _ _ _ rfl (rfr _ _ _ rfl (u2 _ _ _ rfl kl))⟩⟩)
    by_cases q7 : xy.toInt ≤ -1
    · exact cwpg7 c hM (by omega) rhy xp.toInt xq.toInt xs.toInt xy.toInt xd.toInt xw.toInt u g (by omega) (by omega) (by omega) (by omega) (by omega) (by omega) (by omega) (by omega) (by omega) (by omega) (by omega) (by omega) u0 u1 g0 g1 (by omega) (by omega) kur kgr ne j0 j1 j2 j3 j4 j5 j6 (fun h3 w hw v1 v2 v3 => ⟨⟨w, rfl, fun _ => hw, fun ok => absurd ok (fun k => by have := k.2.2.2.2.2.2.2.1; omega), fun ok => absurd ok (fun k => by have := k.2.2.2.2.2.2.2.1; omega), fun ok => absurd ok (fun k => by have := k.2.2.2.2.2.2.2.1; omega)⟩, Nat.zero_le _, Nat.zero_le _, v1, ly_fr_tr frA (ml v2), v2 _ _ _ rfl rk, fun gg => absurd gg.1 (fun k => by have := k.2.2.2.2.2.2.2.1; omega), fun _ => ⟨v2 _ _ _ rfl (rfr _ _ _ rfl (u2 _ _ _ rfl ks)), v2 _ _ _ rfl (rfr _ _ _ rfl (u2 _ _ _ rfl kl))⟩⟩)
    by_cases q8 : 10 ≤ xy.toInt
    · exact cwpg8 c hM (by omega) rhy xp.toInt xq.toInt xs.toInt xy.toInt xd.toInt xw.toInt u g (by omega) (by omega) (by omega) (by omega) (by omega) (by omega) (by omega) (by omega) (by omega) (by omega) (by omega) (by omega) u0 u1 g0 g1 (by omega) (by omega) kur kgr ne j0 j1 j2 j3 j4 j5 j6 (fun h3 w hw v1 v2 v3 => ⟨⟨w, rfl, fun _ => hw, fun ok => absurd ok (fun k => by have := k.2.2.2.2.2.2.2.2.1; omega), fun ok => absurd ok (fun k => by have := k.2.2.2.2.2.2.2.2.1; omega), fun ok => absurd ok (fun k => by have := k.2.2.2.2.2.2.2.2.1; omega)⟩, Nat.zero_le _, Nat.zero_le _, v1, ly_fr_tr frA (ml v2), v2 _ _ _ rfl rk, fun gg => absurd gg.1 (fun k => by have := k.2.2.2.2.2.2.2.2.1; omega), fun _ => ⟨v2 _ _ _ rfl (rfr _ _ _ rfl (u2 _ _ _ rfl ks)), v2 _ _ _ rfl (rfr _ _ _ rfl (u2 _ _ _ rfl kl))⟩⟩)
    by_cases q9 : xd.toInt ≤ -1
    · exact cwpg9 c hM (by omega) rhy xp.toInt xq.toInt xs.toInt xy.toInt xd.toInt xw.toInt u g (by omega) (by omega) (by omega) (by omega) (by omega) (by omega) (by omega) (by omega) (by omega) (by omega) (by omega) (by omega) u0 u1 g0 g1 (by omega) (by omega) kur kgr ne j0 j1 j2 j3 j4 j5 j6 (fun h3 w hw v1 v2 v3 => ⟨⟨w, rfl, fun _ => hw, fun ok => absurd ok (fun k => by have := k.2.2.2.2.2.2.2.2.2.1; omega), fun ok => absurd ok (fun k => by have := k.2.2.2.2.2.2.2.2.2.1; omega), fun ok => absurd ok (fun k => by have := k.2.2.2.2.2.2.2.2.2.1; omega)⟩, Nat.zero_le _, Nat.zero_le _, v1, ly_fr_tr frA (ml v2), v2 _ _ _ rfl rk, fun gg => absurd gg.1 (fun k => by have := k.2.2.2.2.2.2.2.2.2.1; omega), fun _ => ⟨v2 _ _ _ rfl (rfr _ _ _ rfl (u2 _ _ _ rfl ks)), v2 _ _ _ rfl (rfr _ _ _ rfl (u2 _ _ _ rfl kl))⟩⟩)
    by_cases q10 : g < xd.toInt
    · exact cwpg10 c hM (by omega) rhy xp.toInt xq.toInt xs.toInt xy.toInt xd.toInt xw.toInt u g (by omega) (by omega) (by omega) (by omega) (by omega) (by omega) (by omega) (by omega) (by omega) (by omega) (by omega) (by omega) u0 u1 g0 g1 (by omega) (by omega) (by omega) kur kgr ne j0 j1 j2 j3 j4 j5 j6 (fun h3 w hw v1 v2 v3 => ⟨⟨w, rfl, fun _ => hw, fun ok => absurd ok (fun k => by have := k.2.2.2.2.2.2.2.2.2.2.1; omega), fun ok => absurd ok (fun k => by have := k.2.2.2.2.2.2.2.2.2.2.1; omega), fun ok => absurd ok (fun k => by have := k.2.2.2.2.2.2.2.2.2.2.1; omega)⟩, Nat.zero_le _, Nat.zero_le _, v1, ly_fr_tr frA (ml v2), v2 _ _ _ rfl rk, fun gg => absurd gg.1 (fun k => by have := k.2.2.2.2.2.2.2.2.2.2.1; omega), fun _ => ⟨v2 _ _ _ rfl (rfr _ _ _ rfl (u2 _ _ _ rfl ks)), v2 _ _ _ rfl (rfr _ _ _ rfl (u2 _ _ _ rfl kl))⟩⟩)
    by_cases q11 : xw.toInt ≤ 0
    · exact cwpg11 c hM (by omega) rhy xp.toInt xq.toInt xs.toInt xy.toInt xd.toInt xw.toInt u g (by omega) (by omega) (by omega) (by omega) (by omega) (by omega) (by omega) (by omega) (by omega) (by omega) (by omega) (by omega) u0 u1 g0 g1 (by omega) (by omega) (by omega) kur kgr ne j0 j1 j2 j3 j4 j5 j6 (fun h3 w hw v1 v2 v3 => ⟨⟨w, rfl, fun _ => hw, fun ok => absurd ok (fun k => by have := k.2.2.2.2.2.2.2.2.2.2.2.1; omega), fun ok => absurd ok (fun k => by have := k.2.2.2.2.2.2.2.2.2.2.2.1; omega), fun ok => absurd ok (fun k => by have := k.2.2.2.2.2.2.2.2.2.2.2.1; omega)⟩, Nat.zero_le _, Nat.zero_le _, v1, ly_fr_tr frA (ml v2), v2 _ _ _ rfl rk, fun gg => absurd gg.1 (fun k => by have := k.2.2.2.2.2.2.2.2.2.2.2.1; omega), fun _ => ⟨v2 _ _ _ rfl (rfr _ _ _ rfl (u2 _ _ _ rfl ks)), v2 _ _ _ rfl (rfr _ _ _ rfl (u2 _ _ _ rfl kl))⟩⟩)
    by_cases q12 : 10000 ≤ xw.toInt
    · exact cwpg12 c hM (by omega) rhy xp.toInt xq.toInt xs.toInt xy.toInt xd.toInt xw.toInt u g (by omega) (by omega) (by omega) (by omega) (by omega) (by omega) (by omega) (by omega) (by omega) (by omega) (by omega) (by omega) u0 u1 g0 g1 (by omega) (by omega) (by omega) kur kgr ne j0 j1 j2 j3 j4 j5 j6 (fun h3 w hw v1 v2 v3 => ⟨⟨w, rfl, fun _ => hw, fun ok => absurd ok (fun k => by have := k.2.2.2.2.2.2.2.2.2.2.2.2; omega), fun ok => absurd ok (fun k => by have := k.2.2.2.2.2.2.2.2.2.2.2.2; omega), fun ok => absurd ok (fun k => by have := k.2.2.2.2.2.2.2.2.2.2.2.2; omega)⟩, Nat.zero_le _, Nat.zero_le _, v1, ly_fr_tr frA (ml v2), v2 _ _ _ rfl rk, fun gg => absurd gg.1 (fun k => by have := k.2.2.2.2.2.2.2.2.2.2.2.2; omega), fun _ => ⟨v2 _ _ _ rfl (rfr _ _ _ rfl (u2 _ _ _ rfl ks)), v2 _ _ _ rfl (rfr _ _ _ rfl (u2 _ _ _ rfl kl))⟩⟩)
    have ok : (ok_plea xp.toInt xq.toInt xs.toInt xy.toInt xd.toInt xw.toInt u g) := ⟨by omega, by omega, by omega, by omega, q4, by omega, by omega, by omega, by omega, by omega, by omega, by omega, by omega⟩
    refine cwpk c hM (by omega) rhy xp.toInt xq.toInt xs.toInt xy.toInt xd.toInt xw.toInt u g (by omega) (by omega) (by omega) (by omega) (by omega) (by omega) (by omega) (by omega) (by omega) (by omega) (by omega) (by omega) u0 u1 g0 g1 (by omega) (by omega) (by omega) kur kgr ne j0 j1 j2 j3 j4 j5 j6 (fun l2 h2 y0 y1 y2 y3 y4 y5 f0 f1 f2 f3 f4 f5 w1 w2 w3 i0 => ?_)
    obtain ⟨r', hrun', ⟨a, ra, rA⟩, p1, p2, p3, p4, p5⟩ := bma_run (i1 := y5) (i2 := y4) (i3 := y3) (i4 := y2) (i5 := y1) (i6 := y0) (s := s) (n := n) (f := ly_hv cst h 512) c1 (by omega) w1 (by omega) (by omega) (by omega) (by omega) (by omega) (by omega) (by omega) (by omega) (by omega) (by omega) (by omega) (by omega) s0 s1 (w2 _ _ _ rfl (rfr _ _ _ rfl (u2 _ _ _ rfl kl))) (w2 _ _ _ rfl (rfr _ _ _ rfl (u2 _ _ _ rfl ks))) ⟨fun W => by obtain ⟨e1, e2, v, v0, v1, e3⟩ := rE.1 W; exact ⟨w2 _ _ _ rfl e1, w2 _ _ _ rfl e2, v, v0, v1, w2 _ _ _ rfl e3⟩, fun W => by rcases rE.2 W with ⟨t, t0, t1, t2, e1⟩ | ⟨e1, kk, k0, k1, e2⟩; exact Or.inl ⟨t, t0, t1, t2, w2 _ _ _ rfl e1⟩; exact Or.inr ⟨w2 _ _ _ rfl e1, kk, k0, k1, w2 _ _ _ rfl e2⟩⟩
    refine hp_callc (mi := 137) (pc := 71) (tg := 133) (na := 7) (c := 0) (ci := 0) (st0 := [.int y0, .int y1, .int y2, .int y3, .int y4, .int y5, .ref 16]) (st := []) (av := [.int y5, .int y4, .int y3, .int y2, .int y1, .int y0]) hM (by decide +kernel) w1 rfl rfl rfl (by decide) hrun' ?_
    rw [ra]
    refine cwpr c hM (by omega) p3 a.toInt a rfl a.le_toInt a.toInt_le i0 (fun h4 z hz t1 t2 t3 => ⟨⟨z, rfl, ?_⟩, p1, p2, t1, ly_fr_tr frA (ly_fr_tr (ml w2) (ly_fr_tr (hp_sub2 rfl p4) (ml t2))), t2 _ _ _ rfl (p4 _ _ _ rfl (w2 _ _ _ rfl rk)), fun gg => ?_, fun ng => ?_⟩)
    · rw [hz]
      exact ⟨fun no => absurd ok no, fun _ => rA.2.1 trivial, fun _ => rA.2.2.1 trivial, fun _ => rA.2.2.2 trivial⟩
    · obtain ⟨e1, e2⟩ := p5.1 gg.2
      exact ⟨t2 _ _ _ rfl e1, t2 _ _ _ rfl e2⟩
    · obtain ⟨e1, e2⟩ := p5.2 (fun z => ng ⟨ok, z⟩)
      exact ⟨t2 _ _ _ rfl e1, t2 _ _ _ rfl e2⟩
  obtain ⟨n', r, hgo, hΦ⟩ := go
  simp only [Nat.zero_add] at hΦ
  exact ⟨r, Or.inr ⟨M, n', hM, hl, hgo⟩, hΦ⟩
theorem xwp_run {cst : am_K} {strs : List Nat} {D : Nat} {h : am_H} (c1 : hp_C cst strs D) (c2 : hp_C cst strs (D + 1)) (c3 : hp_C cst strs (D + 1 + 1)) (c : hp_C cst strs (D + 1 + 1 + 1)) (hD : (6 : Int) ≤ (D : Int) + 1) (hy : ly_hy m_tt ly_TH h) {xp xq xs xy xd xw : Int32} {n u g s : Int} (n0 : 0 ≤ n) (n1 : n ≤ 1200) (kn : ly_hv cst h 19969 0 = some n) (u0 : 0 ≤ u) (u1 : u ≤ 120) (ku : ly_hv cst h 19978 0 = some u) (g0 : 0 ≤ g) (g1 : g ≤ 399) (kg : ly_hv cst h 19977 0 = some g) (s0 : 0 ≤ s) (s1 : s ≤ 100) (km : ly_hv cst h 20024 0 = some s) :
    ∃ r, am_Run cst m_cl m_tt m_P strs sx_bi (D + 1 + 1 + 1 + 1) 336 [.ref 94, .int xp, .int xq, .int xs, .int xy, .int xd, .int xw] h r ∧ (fun r : am_Q => (∃ a : Int32, r.1 = some (.int a) ∧ bg_A (ok_plea xp.toInt xq.toInt xs.toInt xy.toInt xd.toInt xw.toInt u g) (ow (ow_g (ly_hv cst h 20224)) n) s a.toInt) ∧ r.2.2.1 = 0 ∧ r.2.2.2 = 0 ∧ ly_hy m_tt ly_TH r.2.1 ∧ ly_fr cst bg_mm h r.2.1 ∧ ly_hv cst r.2.1 19969 0 = some 0 ∧ bg_M cst r.2.1 ((ok_plea xp.toInt xq.toInt xs.toInt xy.toInt xd.toInt xw.toInt u g) ∧ ow (ow_g (ly_hv cst h 20224)) n ∧ s ≠ 100) s) r := by
  obtain ⟨M, hM, hl⟩ := hp_M (mi := 336) (k := 7) (by decide +kernel)
  have bp0 : -2147483648 ≤ xp.toInt := xp.le_toInt
  have bp1 : xp.toInt ≤ 2147483647 := xp.toInt_le
  have bq0 : -2147483648 ≤ xq.toInt := xq.le_toInt
  have bq1 : xq.toInt ≤ 2147483647 := xq.toInt_le
  have bs0 : -2147483648 ≤ xs.toInt := xs.le_toInt
  have bs1 : xs.toInt ≤ 2147483647 := xs.toInt_le
  have by0 : -2147483648 ≤ xy.toInt := xy.le_toInt
  have by1 : xy.toInt ≤ 2147483647 := xy.toInt_le
  have bd0 : -2147483648 ≤ xd.toInt := xd.le_toInt
  have bd1 : xd.toInt ≤ 2147483647 := xd.toInt_le
  have bw0 : -2147483648 ≤ xw.toInt := xw.le_toInt
  have bw1 : xw.toInt ≤ 2147483647 := xw.toInt_le
  have go : hp_F cst strs (fun r : am_Q => (∃ a : Int32, r.1 = some (.int a) ∧ bg_A (ok_plea xp.toInt xq.toInt xs.toInt xy.toInt xd.toInt xw.toInt u g) (ow (ow_g (ly_hv cst h 20224)) n) s a.toInt) ∧ r.2.2.1 = 0 ∧ r.2.2.2 = 0 ∧ ly_hy m_tt ly_TH r.2.1 ∧ ly_fr cst bg_mm h r.2.1 ∧ ly_hv cst r.2.1 19969 0 = some 0 ∧ bg_M cst r.2.1 ((ok_plea xp.toInt xq.toInt xs.toInt xy.toInt xd.toInt xw.toInt u g) ∧ ow (ow_g (ly_hv cst h 20224)) n ∧ s ≠ 100) s) (D + 1 + 1 + 1) M 0 (lv_args 0 [.ref 94, .int xp, .int xq, .int xs, .int xy, .int xd, .int xw]) [] h := by
    refine xwp0 c hM (by omega) hy xp.toInt xq.toInt xs.toInt xy.toInt xd.toInt xw.toInt bp0 bp1 bq0 bq1 bs0 bs1 by0 by1 bd0 bd1 bw0 bw1 rfl ⟨xp, rfl, rfl⟩ ⟨xq, rfl, rfl⟩ ⟨xs, rfl, rfl⟩ ⟨xy, rfl, rfl⟩ ⟨xd, rfl, rfl⟩ ⟨xw, rfl, rfl⟩ (fun l1 h1 u1' u2 u3 j0 j1 j2 j3 j4 j5 j6 => ?_)
    obtain ⟨r, hrun, ⟨xv, ra, rW⟩, r2, r3, rhy, rfr, rk⟩ := so_run c1 c2 c3 hD u1' n0 n1 (u2 _ _ _ rfl kn)
    refine hp_call (mi := 336) (pc := 2) (tg := 323) (na := 1) (c := 78) (ci := 12) (st0 := [.ref 94]) (st := [.ref 94]) (av := []) hM (by decide +kernel) u1' rfl rfl rfl (Nat.le_of_ble_eq_true rfl) hrun r2 r3 ?_
    rw [ra]
    rw [hp_sameb th_BT rfl hy u1' u2] at rW
    have ml : ∀ {a b : am_H}, ly_fr cst [] a b → ly_fr cst bg_mm a b := fun f r i v _ e => f r i v rfl e
    have frA : ly_fr cst bg_mm h r.2.1 := ly_fr_tr (ml u2) (hp_sub2 rfl rfr)
    have kur := rfr _ _ _ rfl (u2 _ _ _ rfl ku)
    have kgr := rfr _ _ _ rfl (u2 _ _ _ rfl kg)
    have kmr := rfr _ _ _ rfl (u2 _ _ _ rfl km)
    have z0 : 0 ≤ xv.toInt := by
      by_cases W : ow (ow_g (ly_hv cst h 20224)) n
      · have := rW.1 W
        omega
      · rw [rW.2 W]
        exact Int.le_refl _
    have z1 : xv.toInt ≤ 1152921504606846976 := by
      by_cases W : ow (ow_g (ly_hv cst h 20224)) n
      · exact (rW.1 W).2
      · rw [rW.2 W]
        decide
    by_cases q0 : xp.toInt ≤ -1
    · exact xwpg0 c hM (by omega) rhy xp.toInt xq.toInt xs.toInt xy.toInt xd.toInt xw.toInt u g xv.toInt xv rfl (by omega) (by omega) (by omega) (by omega) (by omega) (by omega) (by omega) (by omega) (by omega) (by omega) (by omega) (by omega) u0 u1 g0 g1 z0 z1 kur kgr j0 j1 j2 j3 j4 j5 j6 (fun h3 w hw v1 v2 v3 => ⟨⟨w, rfl, fun _ => hw, fun ok => absurd ok (fun k => by have := k.1; omega), fun ok => absurd ok (fun k => by have := k.1; omega), fun ok => absurd ok (fun k => by have := k.1; omega)⟩, rfl, rfl, v1, ly_fr_tr frA (hp_sub2 rfl v2), v2 _ _ _ rfl rk, fun gg => absurd gg.1 (fun k => by have := k.1; omega), fun _ => v2 _ _ _ rfl kmr⟩)
    by_cases q1 : u ≤ xp.toInt
    · exact xwpg1 c hM (by omega) rhy xp.toInt xq.toInt xs.toInt xy.toInt xd.toInt xw.toInt u g xv.toInt xv rfl (by omega) (by omega) (by omega) (by omega) (by omega) (by omega) (by omega) (by omega) (by omega) (by omega) (by omega) (by omega) u0 u1 g0 g1 z0 z1 (by omega) kur kgr j0 j1 j2 j3 j4 j5 j6 (fun h3 w hw v1 v2 v3 => ⟨⟨w, rfl, fun _ => hw, fun ok => absurd ok (fun k => by have := k.2.1; omega), fun ok => absurd ok (fun k => by have := k.2.1; omega), fun ok => absurd ok (fun k => by have := k.2.1; omega)⟩, rfl, rfl, v1, ly_fr_tr frA (hp_sub2 rfl v2), v2 _ _ _ rfl rk, fun gg => absurd gg.1 (fun k => by have := k.2.1; omega), fun _ => v2 _ _ _ rfl kmr⟩)
    by_cases q2 : xq.toInt ≤ -1
    · exact xwpg2 c hM (by omega) rhy xp.toInt xq.toInt xs.toInt xy.toInt xd.toInt xw.toInt u g xv.toInt xv rfl (by omega) (by omega) (by omega) (by omega) (by omega) (by omega) (by omega) (by omega) (by omega) (by omega) (by omega) (by omega) u0 u1 g0 g1 z0 z1 (by omega) kur kgr j0 j1 j2 j3 j4 j5 j6 (fun h3 w hw v1 v2 v3 => ⟨⟨w, rfl, fun _ => hw, fun ok => absurd ok (fun k => by have := k.2.2.1; omega), fun ok => absurd ok (fun k => by have := k.2.2.1; omega), fun ok => absurd ok (fun k => by have := k.2.2.1; omega)⟩, rfl, rfl, v1, ly_fr_tr frA (hp_sub2 rfl v2), v2 _ _ _ rfl rk, fun gg => absurd gg.1 (fun k => by have := k.2.2.1; omega), fun _ => v2 _ _ _ rfl kmr⟩)
    by_cases q3 : u ≤ xq.toInt
    · exact xwpg3 c hM (by omega) rhy xp.toInt xq.toInt xs.toInt xy.toInt xd.toInt xw.toInt u g xv.toInt xv rfl (by omega) (by omega) (by omega) (by omega) (by omega) (by omega) (by omega) (by omega) (by omega) (by omega) (by omega) (by omega) u0 u1 g0 g1 z0 z1 (by omega) (by omega) kur kgr j0 j1 j2 j3 j4 j5 j6 (fun h3 w hw v1 v2 v3 => ⟨⟨w, rfl, fun _ => hw, fun ok => absurd ok (fun k => by have := k.2.2.2.1; omega), fun ok => absurd ok (fun k => by have := k.2.2.2.1; omega), fun ok => absurd ok (fun k => by have := k.2.2.2.1; omega)⟩, rfl, rfl, v1, ly_fr_tr frA (hp_sub2 rfl v2), v2 _ _ _ rfl rk, fun gg => absurd gg.1 (fun k => by have := k.2.2.2.1; omega), fun _ => v2 _ _ _ rfl kmr⟩)
    by_cases q4 : xp.toInt = xq.toInt
    · exact xwpg4 c hM (by omega) rhy xp.toInt xs.toInt xy.toInt xd.toInt xw.toInt u g xv.toInt xv rfl (by omega) (by omega) (by omega) (by omega) (by omega) (by omega) (by omega) (by omega) (by omega) (by omega) u0 u1 g0 g1 z0 z1 (by omega) kur kgr j0 j1 (by obtain ⟨z, z1, z2⟩ := j2; exact ⟨z, z1, by omega⟩) j3 j4 j5 j6 (fun h3 w hw v1 v2 v3 => ⟨⟨w, rfl, fun _ => hw, fun ok => absurd ok (fun k => k.2.2.2.2.1 q4), fun ok => absurd ok (fun k => k.2.2.2.2.1 q4), fun ok => absurd ok (fun k => k.2.2.2.2.1 q4)⟩, rfl, rfl, v1, ly_fr_tr frA (hp_sub2 rfl v2), v2 _ _ _ rfl rk, fun gg => absurd gg.1 (fun k => k.2.2.2.2.1 q4), fun _ => v2 _ _ _ rfl kmr⟩)
    have ne : ly_hv cst r.2.1 61000 (xp.toInt - xq.toInt) = some 1 := hp_ne (by omega)
    by_cases q5 : xs.toInt ≤ -1
    · exact xwpg5 c hM (by omega) rhy xp.toInt xq.toInt xs.toInt xy.toInt xd.toInt xw.toInt u g xv.toInt xv rfl (by omega) (by omega) (by omega) (by omega) (by omega) (by omega) (by omega) (by omega) (by omega) (by omega) (by omega) (by omega) u0 u1 g0 g1 z0 z1 (by omega) (by omega) kur kgr ne j0 j1 j2 j3 j4 j5 j6 (fun h3 w hw v1 v2 v3 => ⟨⟨w, rfl, fun _ => hw, fun ok => absurd ok (fun k => by have := k.2.2.2.2.2.1; omega), fun ok => absurd ok (fun k => by have := k.2.2.2.2.2.1; omega), fun ok => absurd ok (fun k => by have := k.2.2.2.2.2.1; omega)⟩, rfl, rfl, v1, ly_fr_tr frA (hp_sub2 rfl v2), v2 _ _ _ rfl rk, fun gg => absurd gg.1 (fun k => by have := k.2.2.2.2.2.1; omega), fun _ => v2 _ _ _ rfl kmr⟩)
    by_cases q6 : 6 ≤ xs.toInt
    · exact xwpg6 c hM (by omega) rhy xp.toInt xq.toInt xs.toInt xy.toInt xd.toInt xw.toInt u g xv.toInt xv rfl (by omega) (by omega) (by omega) (by omega) (by omega) (by omega) (by omega) (by omega) (by omega) (by omega) (by omega) (by omega) u0 u1 g0 g1 z0 z1 (by omega) (by omega) kur kgr ne j0 j1 j2 j3 j4 j5 j6 (fun h3 w hw v1 v2 v3 => ⟨⟨w, rfl, fun _ => hw, fun ok => absurd ok (fun k => by have := k.2.2.2.2.2.2.1; omega), fun ok => absurd ok (fun k => by have := k.2.2.2.2.2.2.1; omega), fun ok => absurd ok (fun k => by have := k.2.2.2.2.2.2.1; omega)⟩, rfl, rfl, v1, ly_fr_tr frA (hp_sub2 rfl v2), v2 _ _ _ rfl rk, fun gg => absurd gg.1 (fun k => by have := k.2.2.2.2.2.2.1; omega), fun _ => v2 _ _ _ rfl kmr⟩)
    by_cases q7 : xy.toInt ≤ -1
    · exact xwpg7 c hM (by omega) rhy xp.toInt xq.toInt xs.toInt xy.toInt xd.toInt xw.toInt u g xv.toInt xv rfl (by omega) (by omega) (by omega) (by omega) (by omega) (by omega) (by omega) (by omega) (by omega) (by omega) (by omega) (by omega) u0 u1 g0 g1 z0 z1 (by omega) (by omega) kur kgr ne j0 j1 j2 j3 j4 j5 j6 (fun h3 w hw v1 v2 v3 => ⟨⟨w, rfl, fun _ => hw, fun ok => absurd ok (fun k => by have := k.2.2.2.2.2.2.2.1; omega), fun ok => absurd ok (fun k => by have := k.2.2.2.2.2.2.2.1; omega), fun ok => absurd ok (fun k => by have := k.2.2.2.2.2.2.2.1; omega)⟩, rfl, rfl, v1, ly_fr_tr frA (hp_sub2 rfl v2), v2 _ _ _ rfl rk, fun gg => absurd gg.1 (fun k => by have := k.2.2.2.2.2.2.2.1; omega), fun _ => v2 _ _ _ rfl kmr⟩)
    by_cases q8 : 10 ≤ xy.toInt
    · exact xwpg8 c hM (by omega) rhy xp.toInt xq.toInt xs.toInt xy.toInt xd.toInt xw.toInt u g xv.toInt xv rfl (by omega) (by omega) (by omega) (by omega) (by omega) (by omega) (by omega) (by omega) (by omega) (by omega) (by omega) (by omega) u0 u1 g0 g1 z0 z1 (by omega) (by omega) kur kgr ne j0 j1 j2 j3 j4 j5 j6 (fun h3 w hw v1 v2 v3 => ⟨⟨w, rfl, fun _ => hw, fun ok => absurd ok (fun k => by have := k.2.2.2.2.2.2.2.2.1; omega), fun ok => absurd ok (fun k => by have := k.2.2.2.2.2.2.2.2.1; omega), fun ok => absurd ok (fun k => by have := k.2.2.2.2.2.2.2.2.1; omega)⟩, rfl, rfl, v1, ly_fr_tr frA (hp_sub2 rfl v2), v2 _ _ _ rfl rk, fun gg => absurd gg.1 (fun k => by have := k.2.2.2.2.2.2.2.2.1; omega), fun _ => v2 _ _ _ rfl kmr⟩)
    by_cases q9 : xd.toInt ≤ -1
    · exact xwpg9 c hM (by omega) rhy xp.toInt xq.toInt xs.toInt xy.toInt xd.toInt xw.toInt u g xv.toInt xv rfl (by omega) (by omega) (by omega) (by omega) (by omega) (by omega) (by omega) (by omega) (by omega) (by omega) (by omega) (by omega) u0 u1 g0 g1 z0 z1 (by omega) (by omega) kur kgr ne j0 j1 j2 j3 j4 j5 j6 (fun h3 w hw v1 v2 v3 => ⟨⟨w, rfl, fun _ => hw, fun ok => absurd ok (fun k => by have := k.2.2.2.2.2.2.2.2.2.1; omega), fun ok => absurd ok (fun k => by have := k.2.2.2.2.2.2.2.2.2.1; omega), fun ok => absurd ok (fun k => by have := k.2.2.2.2.2.2.2.2.2.1; omega)⟩, rfl, rfl, v1, ly_fr_tr frA (hp_sub2 rfl v2), v2 _ _ _ rfl rk, fun gg => absurd gg.1 (fun k => by have := k.2.2.2.2.2.2.2.2.2.1; omega), fun _ => v2 _ _ _ rfl kmr⟩)
    by_cases q10 : g < xd.toInt
    · exact xwpg10 c hM (by omega) rhy xp.toInt xq.toInt xs.toInt xy.toInt xd.toInt xw.toInt u g xv.toInt xv rfl (by omega) (by omega) (by omega) (by omega) (by omega) (by omega) (by omega) (by omega) (by omega) (by omega) (by omega) (by omega) u0 u1 g0 g1 z0 z1 (by omega) (by omega) (by omega) kur kgr ne j0 j1 j2 j3 j4 j5 j6 (fun h3 w hw v1 v2 v3 => ⟨⟨w, rfl, fun _ => hw, fun ok => absurd ok (fun k => by have := k.2.2.2.2.2.2.2.2.2.2.1; omega), fun ok => absurd ok (fun k => by have := k.2.2.2.2.2.2.2.2.2.2.1; omega), fun ok => absurd ok (fun k => by have := k.2.2.2.2.2.2.2.2.2.2.1; omega)⟩, rfl, rfl, v1, ly_fr_tr frA (hp_sub2 rfl v2), v2 _ _ _ rfl rk, fun gg => absurd gg.1 (fun k => by have := k.2.2.2.2.2.2.2.2.2.2.1; omega), fun _ => v2 _ _ _ rfl kmr⟩)
    by_cases q11 : xw.toInt ≤ 0
    · exact xwpg11 c hM (by omega) rhy xp.toInt xq.toInt xs.toInt xy.toInt xd.toInt xw.toInt u g xv.toInt xv rfl (by omega) (by omega) (by omega) (by omega) (by omega) (by omega) (by omega) (by omega) (by omega) (by omega) (by omega) (by omega) u0 u1 g0 g1 z0 z1 (by omega) (by omega) (by omega) kur kgr ne j0 j1 j2 j3 j4 j5 j6 (fun h3 w hw v1 v2 v3 => ⟨⟨w, rfl, fun _ => hw, fun ok => absurd ok (fun k => by have := k.2.2.2.2.2.2.2.2.2.2.2.1; omega), fun ok => absurd ok (fun k => by have := k.2.2.2.2.2.2.2.2.2.2.2.1; omega), fun ok => absurd ok (fun k => by have := k.2.2.2.2.2.2.2.2.2.2.2.1; omega)⟩, rfl, rfl, v1, ly_fr_tr frA (hp_sub2 rfl v2), v2 _ _ _ rfl rk, fun gg => absurd gg.1 (fun k => by have := k.2.2.2.2.2.2.2.2.2.2.2.1; omega), fun _ => v2 _ _ _ rfl kmr⟩)
    by_cases q12 : 10000 ≤ xw.toInt
    · exact xwpg12 c hM (by omega) rhy xp.toInt xq.toInt xs.toInt xy.toInt xd.toInt xw.toInt u g xv.toInt xv rfl (by omega) (by omega) (by omega) (by omega) (by omega) (by omega) (by omega) (by omega) (by omega) (by omega) (by omega) (by omega) u0 u1 g0 g1 z0 z1 (by omega) (by omega) (by omega) kur kgr ne j0 j1 j2 j3 j4 j5 j6 (fun h3 w hw v1 v2 v3 => ⟨⟨w, rfl, fun _ => hw, fun ok => absurd ok (fun k => by have := k.2.2.2.2.2.2.2.2.2.2.2.2; omega), fun ok => absurd ok (fun k => by have := k.2.2.2.2.2.2.2.2.2.2.2.2; omega), fun ok => absurd ok (fun k => by have := k.2.2.2.2.2.2.2.2.2.2.2.2; omega)⟩, rfl, rfl, v1, ly_fr_tr frA (hp_sub2 rfl v2), v2 _ _ _ rfl rk, fun gg => absurd gg.1 (fun k => by have := k.2.2.2.2.2.2.2.2.2.2.2.2; omega), fun _ => v2 _ _ _ rfl kmr⟩)
    have ok : (ok_plea xp.toInt xq.toInt xs.toInt xy.toInt xd.toInt xw.toInt u g) := ⟨by omega, by omega, by omega, by omega, q4, by omega, by omega, by omega, by omega, by omega, by omega, by omega, by omega⟩
    by_cases W : ow (ow_g (ly_hv cst h 20224)) n
    · have v0 := (rW.1 W).1
      by_cases z : s = 100
      · rw [z] at kmr
        exact xwpf c hM (by omega) rhy xp.toInt xq.toInt xs.toInt xy.toInt xd.toInt xw.toInt u g xv.toInt xv rfl (by omega) (by omega) (by omega) (by omega) (by omega) (by omega) (by omega) (by omega) (by omega) (by omega) (by omega) (by omega) u0 u1 g0 g1 v0 z1 (by omega) (by omega) (by omega) kur kgr ne kmr j0 j1 j2 j3 j4 j5 j6 (fun h3 w hw v1 v2 v3 => ⟨⟨w, rfl, fun no => absurd ok no, fun _ nw => absurd W nw, fun _ _ _ => hw, fun _ _ nz => absurd z nz⟩, rfl, rfl, v1, ly_fr_tr frA (hp_sub2 rfl v2), v2 _ _ _ rfl rk, fun gg => absurd z gg.2.2, fun _ => by rw [z]; exact v2 _ _ _ rfl kmr⟩)
      · refine xwpk c hM (by omega) rhy xp.toInt xq.toInt xs.toInt xy.toInt xd.toInt xw.toInt u g xv.toInt s xv rfl (by omega) (by omega) (by omega) (by omega) (by omega) (by omega) (by omega) (by omega) (by omega) (by omega) (by omega) (by omega) u0 u1 g0 g1 v0 z1 s0 (by omega) (by omega) (by omega) (by omega) kur kgr ne kmr j0 j1 j2 j3 j4 j5 j6 (fun l2 h2 y0 y1 y2 y3 y4 y5 y6 f0 f1 f2 f3 f4 f5 f6 w1 w2 w3 i0 => ?_)
        have go2 : ∃ r', am_Run cst m_cl m_tt m_P strs sx_bi (D + 1 + 1 + 1) 335 [.ref 94, .int y6, .int y5, .int y4, .int y3, .int y2, .int y1, .int y0] h2 r' ∧ (∃ a : Int32, r'.1 = some (.int a) ∧ a.toInt = s) ∧ r'.2.2.1 = 0 ∧ r'.2.2.2 = 0 ∧ ly_hy m_tt ly_TH r'.2.1 ∧ ly_fr cst [20024, 20054, 28416, 28672, 28928, 29184, 29440, 29696, 29952, 30208, 30464, 32000, 32768, 35584, 35840] h2 r'.2.1 ∧ ly_hv cst r'.2.1 20024 0 = some (s + 1) := by
          obtain ⟨M2, hM2, hl2⟩ := hp_M (mi := 335) (k := 8) (by decide +kernel)
          obtain ⟨n', r', hgo, ra', q2, q3, q4⟩ := xb0 (Φ := fun r' => (∃ a : Int32, r'.1 = some (.int a) ∧ a.toInt = s) ∧ r'.2.2.1 = 0 ∧ r'.2.2.2 = 0 ∧ ly_hy m_tt ly_TH r'.2.1 ∧ ly_fr cst [20024, 20054, 28416, 28672, 28928, 29184, 29440, 29696, 29952, 30208, 30464, 32000, 32768, 35584, 35840] h2 r'.2.1 ∧ ly_hv cst r'.2.1 20024 0 = some (s + 1)) c3 hM2 (by omega) w1 y6.toInt y5.toInt y4.toInt y3.toInt y2.toInt y1.toInt y0.toInt s g (by omega) (by omega) y5.le_toInt y5.toInt_le y4.le_toInt y4.toInt_le y3.le_toInt y3.toInt_le y2.le_toInt y2.toInt_le y1.le_toInt y1.toInt_le y0.le_toInt y0.toInt_le s0 (by omega) g0 g1 (w2 _ _ _ rfl kmr) (w2 _ _ _ rfl kgr) (l := lv_args 0 [.ref 94, .int y6, .int y5, .int y4, .int y3, .int y2, .int y1, .int y0]) rfl ⟨y6, rfl, rfl⟩ ⟨y5, rfl, rfl⟩ ⟨y4, rfl, rfl⟩ ⟨y3, rfl, rfl⟩ ⟨y2, rfl, rfl⟩ ⟨y1, rfl, rfl⟩ ⟨y0, rfl, rfl⟩ (fun h3 a ha t1 t2 t3 t4 => ⟨⟨a, rfl, ha⟩, rfl, rfl, t1, t2, t4⟩)
          simp only [Nat.zero_add] at q2 q3
          exact ⟨r', Or.inr ⟨M2, n', hM2, hl2, hgo⟩, ra', q2, q3, q4⟩
        obtain ⟨r', hrun', ⟨a, ra', ea⟩, q2, q3, q4, q5, q6⟩ := go2
        refine hp_call (mi := 336) (pc := 111) (tg := 335) (na := 8) (c := 78) (ci := 12) (st0 := [.int y0, .int y1, .int y2, .int y3, .int y4, .int y5, .int y6, .ref 94]) (st := []) (av := [.int y6, .int y5, .int y4, .int y3, .int y2, .int y1, .int y0]) hM (by decide +kernel) w1 rfl rfl rfl (by decide) hrun' q2 q3 ?_
        rw [ra']
        exact xwpr c hM (by omega) q4 a.toInt a rfl a.le_toInt a.toInt_le i0 (fun h4 w hw t1 t2 t3 => ⟨⟨w, rfl, fun no => absurd ok no, fun _ nw => absurd W nw, fun _ _ e => absurd e z, fun _ _ _ => by omega⟩, rfl, rfl, t1, ly_fr_tr frA (ly_fr_tr (hp_sub2 rfl w2) (ly_fr_tr (hp_sub2 rfl q5) (ml t2))), t2 _ _ _ rfl (q5 _ _ _ rfl (w2 _ _ _ rfl rk)), fun _ => t2 _ _ _ rfl q6, fun ng => absurd ⟨ok, W, z⟩ ng⟩)
    · exact xwpn c hM (by omega) rhy xp.toInt xq.toInt xs.toInt xy.toInt xd.toInt xw.toInt u g xv (rW.2 W) (by omega) (by omega) (by omega) (by omega) (by omega) (by omega) (by omega) (by omega) (by omega) (by omega) (by omega) (by omega) u0 u1 g0 g1 (by omega) (by omega) (by omega) kur kgr ne j0 j1 j2 j3 j4 j5 j6 (fun h3 w hw v1 v2 v3 => ⟨⟨w, rfl, fun no => absurd ok no, fun _ _ => hw, fun _ w' => absurd w' W, fun _ w' => absurd w' W⟩, rfl, rfl, v1, ly_fr_tr frA (hp_sub2 rfl v2), v2 _ _ _ rfl rk, fun gg => absurd gg.2.1 W, fun _ => v2 _ _ _ rfl kmr⟩)
  obtain ⟨n', r, hgo, hx, r2, r3, r4⟩ := go
  simp only [Nat.zero_add] at r2 r3
  exact ⟨r, Or.inr ⟨M, n', hM, hl, hgo⟩, hx, r2, r3, r4⟩
