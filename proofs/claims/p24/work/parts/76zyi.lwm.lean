/-! PRINTED by wip/p2/hp_lwm.py: what the law tells of a matter -/
theorem lm6_k : hp_chk 51 0 4 [(0, 0, 99), (1, (-9223372036854775808), 9223372036854775807), (2, (-2147483648), 2147483647), (3, (-2147483648), 2147483647)] [] [(0, .inr (.inr (.inl (some 44)))), (1, .inr (.inr (.inr (0, (0, [(0, 1)]))))), (2, .inl (6, []))] [] [(45312, (0, [(0, 1)]), (0, [(1, 1)])), (45317, (0, [(0, 1)]), (0, [(2, 1)])), (45315, (0, [(0, 1)]), (0, [(3, 1)]))] [] 2 [(27, ([], 4, [(0, 0, 99), (1, (-9223372036854775808), 9223372036854775807), (2, (-2147483648), 2147483647), (3, (-2147483648), 2147483647)], [], [(0, .inr (.inr (.inl (some 44)))), (1, .inr (.inr (.inr (0, (0, [(0, 1)]))))), (2, .inl (6, []))], [.inl (0, [(3, 1)]), .inl (0, [(2, 1)]), .inr (.inl (0, [(1, 1)])), .inl (6, []), .inr (.inr (.inl (some 30)))], []))] [] = true := by decide +kernel
theorem lm6 {cst : am_K} {strs : List Nat} {Φ : am_Q → Prop} {D : Nat} {M : am_M} {h : am_H} {l : am_L} (c : hp_C cst strs D) (hM : m_P[51]? = some M) (hD : (2 : Int) ≤ (D : Int) + 1) (hy : ly_hy m_tt ly_TH h) (m d y s : Int) (b0 : 0 ≤ m) (t0 : m ≤ 99) (b1 : (-9223372036854775808) ≤ d) (t1 : d ≤ 9223372036854775807) (b2 : (-2147483648) ≤ y) (t2 : y ≤ 2147483647) (b3 : (-2147483648) ≤ s) (t3 : s ≤ 2147483647) (k0 : ly_hv cst h 45312 (m) = some (d)) (k1 : ly_hv cst h 45317 (m) = some (y)) (k2 : ly_hv cst h 45315 (m) = some (s)) (l0 : hp_a l 0 44) (l1 : hp_ml l 1 h.length (m)) (l2 : hp_i l 2 6) (e0 : ∀ (l' : am_L) (h_9' : am_H) (y0 : Int32) (y1 : Int32) (y2 : Int64) (y3 : Int32), y0.toInt = (s) → y1.toInt = (y) → y2.toInt = (d) → y3.toInt = 6 → ly_hy m_tt ly_TH h_9' → ly_fr cst [] h h_9' → h.length ≤ h_9'.length → hp_a l' 0 44 → hp_ml l' 1 h_9'.length (m) → hp_i l' 2 6 → hp_F cst strs Φ D M 27 l' [.int y0, .int y1, .long y2, .int y3, .ref 30] h_9') : hp_F cst strs Φ D M 0 l [] h := by
  refine hp_arc c hM lm6_k hD [m, d, y, s] rfl hy (hp_Bc (z := m) rfl b0 t0 (hp_Bc (z := d) rfl b1 t1 (hp_Bc (z := y) rfl b2 t2 (hp_Bc (z := s) rfl b3 t3 hp_Bn)))) hp_Fn (hp_Kc (zi := (0 + (1 * m + 0))) (zv := (0 + (1 * d + 0))) k0 rfl rfl (by omega) (by omega) (hp_Kc (zi := (0 + (1 * m + 0))) (zv := (0 + (1 * y + 0))) k1 rfl rfl (by omega) (by omega) (hp_Kc (zi := (0 + (1 * m + 0))) (zv := (0 + (1 * s + 0))) k2 rfl rfl (by omega) (by omega) hp_Kn))) (hp_La l0 (hp_Lm (z := (0 + (1 * m + 0))) l1 rfl (by omega) (hp_Li (z := (6 + 0)) l2 rfl (by omega) hp_Ln))) trivial ?_ ?_
  · intro p_9 hp ys l' st_9' h_9' hys a1_9 a2 a3 gZ gL gS
    rcases List.mem_cons.mp hp with rfl | hp
    · obtain rfl := hp_y0 hys
      obtain ⟨y0, t0, rfl, q0, g0⟩ := hp_gSi (z := (0 + (1 * s + 0))) gS rfl
      obtain ⟨y1, t1, rfl, q1_9, g1⟩ := hp_gSi (z := (0 + (1 * y + 0))) g0 rfl
      obtain ⟨y2, t2, rfl, q2_9, g2⟩ := hp_gSj (z := (0 + (1 * d + 0))) g1 rfl
      obtain ⟨y3, t3, rfl, q3_9, g3_9⟩ := hp_gSi (z := (6 + 0)) g2 rfl
      obtain ⟨t4_9, rfl, g4⟩ := hp_gSa g3_9 (by decide)
      cases hp_gSn g4
      exact e0 l' h_9' y0 y1 y2 y3 (by omega) (by omega) (by omega) (by omega) a1_9 a2 a3 (hp_gLa gL (List.mem_of_getElem? (i := 0) rfl) (by decide)) (hp_gLm (z := (0 + (1 * m + 0))) gL (List.mem_of_getElem? (i := 1) rfl) rfl (by omega)) (hp_gLi (z := (6 + 0)) gL (List.mem_of_getElem? (i := 2) rfl) rfl (by omega))
    cases hp
  · intro p_9 hp ys v_9 h_9' hys a1_9 a2 a3 gZ gS
    cases hp
theorem lm12_k : hp_chk 51 0 3 [(0, 0, 99), (1, (-2147483648), 2147483647), (2, (-2147483648), 2147483647)] [] [(0, .inr (.inr (.inl (some 44)))), (1, .inr (.inr (.inr (0, (0, [(0, 1)]))))), (2, .inl (12, []))] [] [(45317, (0, [(0, 1)]), (0, [(1, 1)])), (45315, (0, [(0, 1)]), (0, [(2, 1)]))] [] 2 [(27, ([], 3, [(0, 0, 99), (1, (-2147483648), 2147483647), (2, (-2147483648), 2147483647)], [], [(0, .inr (.inr (.inl (some 44)))), (1, .inr (.inr (.inr (0, (0, [(0, 1)]))))), (2, .inl (12, []))], [.inl (0, [(2, 1)]), .inl (0, [(1, 1)]), .inr (.inl (0, [])), .inl (12, []), .inr (.inr (.inl (some 30)))], []))] [] = true := by decide +kernel
theorem lm12 {cst : am_K} {strs : List Nat} {Φ : am_Q → Prop} {D : Nat} {M : am_M} {h : am_H} {l : am_L} (c : hp_C cst strs D) (hM : m_P[51]? = some M) (hD : (2 : Int) ≤ (D : Int) + 1) (hy : ly_hy m_tt ly_TH h) (m y s : Int) (b0 : 0 ≤ m) (t0 : m ≤ 99) (b1 : (-2147483648) ≤ y) (t1 : y ≤ 2147483647) (b2 : (-2147483648) ≤ s) (t2 : s ≤ 2147483647) (k0 : ly_hv cst h 45317 (m) = some (y)) (k1 : ly_hv cst h 45315 (m) = some (s)) (l0 : hp_a l 0 44) (l1 : hp_ml l 1 h.length (m)) (l2 : hp_i l 2 12) (e0 : ∀ (l' : am_L) (h_9' : am_H) (y0 : Int32) (y1 : Int32) (y2 : Int64) (y3 : Int32), y0.toInt = (s) → y1.toInt = (y) → y2.toInt = 0 → y3.toInt = 12 → ly_hy m_tt ly_TH h_9' → ly_fr cst [] h h_9' → h.length ≤ h_9'.length → hp_a l' 0 44 → hp_ml l' 1 h_9'.length (m) → hp_i l' 2 12 → hp_F cst strs Φ D M 27 l' [.int y0, .int y1, .long y2, .int y3, .ref 30] h_9') : hp_F cst strs Φ D M 0 l [] h := by
  refine hp_arc c hM lm12_k hD [m, y, s] rfl hy (hp_Bc (z := m) rfl b0 t0 (hp_Bc (z := y) rfl b1 t1 (hp_Bc (z := s) rfl b2 t2 hp_Bn))) hp_Fn (hp_Kc (zi := (0 + (1 * m + 0))) (zv := (0 + (1 * y + 0))) k0 rfl rfl (by omega) (by omega) (hp_Kc (zi := (0 + (1 * m + 0))) (zv := (0 + (1 * s + 0))) k1 rfl rfl (by omega) (by omega) hp_Kn)) (hp_La l0 (hp_Lm (z := (0 + (1 * m + 0))) l1 rfl (by omega) (hp_Li (z := (12 + 0)) l2 rfl (by omega) hp_Ln))) trivial ?_ ?_
  · intro p_9 hp ys l' st_9' h_9' hys a1_9 a2 a3 gZ gL gS
    rcases List.mem_cons.mp hp with rfl | hp
    · obtain rfl := hp_y0 hys
      obtain ⟨y0, t0, rfl, q0, g0⟩ := hp_gSi (z := (0 + (1 * s + 0))) gS rfl
      obtain ⟨y1, t1, rfl, q1_9, g1⟩ := hp_gSi (z := (0 + (1 * y + 0))) g0 rfl
      obtain ⟨y2, t2, rfl, q2_9, g2⟩ := hp_gSj (z := (0 + 0)) g1 rfl
      obtain ⟨y3, t3_9, rfl, q3_9, g3_9⟩ := hp_gSi (z := (12 + 0)) g2 rfl
      obtain ⟨t4_9, rfl, g4⟩ := hp_gSa g3_9 (by decide)
      cases hp_gSn g4
      exact e0 l' h_9' y0 y1 y2 y3 (by omega) (by omega) (by omega) (by omega) a1_9 a2 a3 (hp_gLa gL (List.mem_of_getElem? (i := 0) rfl) (by decide)) (hp_gLm (z := (0 + (1 * m + 0))) gL (List.mem_of_getElem? (i := 1) rfl) rfl (by omega)) (hp_gLi (z := (12 + 0)) gL (List.mem_of_getElem? (i := 2) rfl) rfl (by omega))
    cases hp
  · intro p_9 hp ys v_9 h_9' hys a1_9 a2 a3 gZ gS
    cases hp
theorem lm1_k : hp_chk 51 30 1 [(0, (-2147483648), 2147483647)] [] [(0, .inr (.inr (.inl (some 44))))] [.inl (0, [(0, 1)])] [] [] 2 [] [([], 1, [(0, (-2147483648), 2147483647)], [], [], [.inl (0, [(0, 1)])], [])] = true := by decide +kernel
theorem lm1 {cst : am_K} {strs : List Nat} {Φ : am_Q → Prop} {D : Nat} {M : am_M} {h : am_H} {l : am_L} (c : hp_C cst strs D) (hM : m_P[51]? = some M) (hD : (2 : Int) ≤ (D : Int) + 1) (hy : ly_hy m_tt ly_TH h) (w : Int) (x0 : Int32) (hx0 : x0.toInt = (w)) (b0 : (-2147483648) ≤ w) (t0 : w ≤ 2147483647) (l0 : hp_a l 0 44) (r0 : ∀ (h_9' : am_H) (y0 : Int32), y0.toInt = (w) → ly_hy m_tt ly_TH h_9' → ly_fr cst [] h h_9' → h.length ≤ h_9'.length → Φ (some (.int y0), h_9', 0, 0)) : hp_F cst strs Φ D M 30 l [.int x0] h := by
  refine hp_arc c hM lm1_k hD [w] rfl hy (hp_Bc (z := w) rfl b0 t0 hp_Bn) hp_Fn hp_Kn (hp_La l0 hp_Ln) (hp_Si (z := (0 + (1 * w + 0))) rfl (by omega) trivial) ?_ ?_
  · intro p_9 hp ys l' st_9' h_9' hys a1_9 a2 a3 gZ gL gS
    cases hp
  · intro p_9 hp ys v_9 h_9' hys a1_9 a2 a3 gZ gS
    rcases List.mem_cons.mp hp with rfl | hp
    · obtain rfl := hp_y0 hys
      cases v_9 with
      | none => cases gS
      | some wz =>
        obtain ⟨y0, t0, s0_9, q0, -⟩ := hp_gSi (z := (0 + (1 * w + 0))) gS rfl
        cases s0_9
        exact r0 h_9' y0 (by omega) a1_9 a2 a3
    cases hp
theorem tl6_k : hp_chk 282 0 4 [(0, 0, 99), (1, (-9223372036854775808), 9223372036854775807), (2, (-2147483648), 2147483647), (3, (-2147483648), 2147483647)] [] [(0, .inr (.inr (.inl (some 94)))), (1, .inl (6, [])), (2, .inr (.inl (0, []))), (4, .inl (0, [(0, 1)]))] [] [(30208, (0, [(0, 1)]), (0, [(1, 1)])), (29696, (0, [(0, 1)]), (0, [(2, 1)])), (29184, (0, [(0, 1)]), (0, [(3, 1)]))] [] 2 [(33, ([], 4, [(0, 0, 99), (1, (-9223372036854775808), 9223372036854775807), (2, (-2147483648), 2147483647), (3, (-2147483648), 2147483647)], [], [(0, .inr (.inr (.inl (some 94)))), (1, .inl (6, [])), (2, .inr (.inl (0, []))), (4, .inl (0, [(0, 1)]))], [.inl (0, [(3, 1)]), .inl (0, [(2, 1)]), .inr (.inl (0, [(1, 1)])), .inl (6, []), .inr (.inr (.inl (some 94)))], []))] [] = true := by decide +kernel
theorem tl6 {cst : am_K} {strs : List Nat} {Φ : am_Q → Prop} {D : Nat} {M : am_M} {h : am_H} {l : am_L} (c : hp_C cst strs D) (hM : m_P[282]? = some M) (hD : (2 : Int) ≤ (D : Int) + 1) (hy : ly_hy m_tt ly_TH h) (m d y s : Int) (b0 : 0 ≤ m) (t0 : m ≤ 99) (b1 : (-9223372036854775808) ≤ d) (t1 : d ≤ 9223372036854775807) (b2 : (-2147483648) ≤ y) (t2 : y ≤ 2147483647) (b3 : (-2147483648) ≤ s) (t3 : s ≤ 2147483647) (k0 : ly_hv cst h 30208 (m) = some (d)) (k1 : ly_hv cst h 29696 (m) = some (y)) (k2 : ly_hv cst h 29184 (m) = some (s)) (l0 : hp_a l 0 94) (l1 : hp_i l 1 6) (l2 : hp_j l 2 0) (l4 : hp_i l 4 (m)) (e0 : ∀ (l' : am_L) (h_9' : am_H) (y0 : Int32) (y1 : Int32) (y2 : Int64) (y3 : Int32), y0.toInt = (s) → y1.toInt = (y) → y2.toInt = (d) → y3.toInt = 6 → ly_hy m_tt ly_TH h_9' → ly_fr cst [] h h_9' → h.length ≤ h_9'.length → hp_a l' 0 94 → hp_i l' 1 6 → hp_j l' 2 0 → hp_i l' 4 (m) → hp_F cst strs Φ D M 33 l' [.int y0, .int y1, .long y2, .int y3, .ref 94] h_9') : hp_F cst strs Φ D M 0 l [] h := by
  refine hp_arc c hM tl6_k hD [m, d, y, s] rfl hy (hp_Bc (z := m) rfl b0 t0 (hp_Bc (z := d) rfl b1 t1 (hp_Bc (z := y) rfl b2 t2 (hp_Bc (z := s) rfl b3 t3 hp_Bn)))) hp_Fn (hp_Kc (zi := (0 + (1 * m + 0))) (zv := (0 + (1 * d + 0))) k0 rfl rfl (by omega) (by omega) (hp_Kc (zi := (0 + (1 * m + 0))) (zv := (0 + (1 * y + 0))) k1 rfl rfl (by omega) (by omega) (hp_Kc (zi := (0 + (1 * m + 0))) (zv := (0 + (1 * s + 0))) k2 rfl rfl (by omega) (by omega) hp_Kn))) (hp_La l0 (hp_Li (z := (6 + 0)) l1 rfl (by omega) (hp_Lj (z := (0 + 0)) l2 rfl (by omega) (hp_Li (z := (0 + (1 * m + 0))) l4 rfl (by omega) hp_Ln)))) trivial ?_ ?_
  · intro p_9 hp ys l' st_9' h_9' hys a1_9 a2 a3 gZ gL gS
    rcases List.mem_cons.mp hp with rfl | hp
    · obtain rfl := hp_y0 hys
      obtain ⟨y0, t0, rfl, q0, g0⟩ := hp_gSi (z := (0 + (1 * s + 0))) gS rfl
      obtain ⟨y1, t1, rfl, q1_9, g1⟩ := hp_gSi (z := (0 + (1 * y + 0))) g0 rfl
      obtain ⟨y2, t2, rfl, q2_9, g2⟩ := hp_gSj (z := (0 + (1 * d + 0))) g1 rfl
      obtain ⟨y3, t3, rfl, q3_9, g3_9⟩ := hp_gSi (z := (6 + 0)) g2 rfl
      obtain ⟨t4_9, rfl, g4⟩ := hp_gSa g3_9 (by decide)
      cases hp_gSn g4
      exact e0 l' h_9' y0 y1 y2 y3 (by omega) (by omega) (by omega) (by omega) a1_9 a2 a3 (hp_gLa gL (List.mem_of_getElem? (i := 0) rfl) (by decide)) (hp_gLi (z := (6 + 0)) gL (List.mem_of_getElem? (i := 1) rfl) rfl (by omega)) (hp_gLj (z := (0 + 0)) gL (List.mem_of_getElem? (i := 2) rfl) rfl (by omega)) (hp_gLi (z := (0 + (1 * m + 0))) gL (List.mem_of_getElem? (i := 3) rfl) rfl (by omega))
    cases hp
  · intro p_9 hp ys v_9 h_9' hys a1_9 a2 a3 gZ gS
    cases hp
theorem tl12_k : hp_chk 282 0 3 [(0, 0, 99), (1, (-2147483648), 2147483647), (2, (-2147483648), 2147483647)] [] [(0, .inr (.inr (.inl (some 94)))), (1, .inl (12, [])), (2, .inr (.inl (0, []))), (4, .inl (0, [(0, 1)]))] [] [(29696, (0, [(0, 1)]), (0, [(1, 1)])), (29184, (0, [(0, 1)]), (0, [(2, 1)]))] [] 2 [(33, ([], 3, [(0, 0, 99), (1, (-2147483648), 2147483647), (2, (-2147483648), 2147483647)], [], [(0, .inr (.inr (.inl (some 94)))), (1, .inl (12, [])), (2, .inr (.inl (0, []))), (4, .inl (0, [(0, 1)]))], [.inl (0, [(2, 1)]), .inl (0, [(1, 1)]), .inr (.inl (0, [])), .inl (12, []), .inr (.inr (.inl (some 94)))], []))] [] = true := by decide +kernel
theorem tl12 {cst : am_K} {strs : List Nat} {Φ : am_Q → Prop} {D : Nat} {M : am_M} {h : am_H} {l : am_L} (c : hp_C cst strs D) (hM : m_P[282]? = some M) (hD : (2 : Int) ≤ (D : Int) + 1) (hy : ly_hy m_tt ly_TH h) (m y s : Int) (b0 : 0 ≤ m) (t0 : m ≤ 99) (b1 : (-2147483648) ≤ y) (t1 : y ≤ 2147483647) (b2 : (-2147483648) ≤ s) (t2 : s ≤ 2147483647) (k0 : ly_hv cst h 29696 (m) = some (y)) (k1 : ly_hv cst h 29184 (m) = some (s)) (l0 : hp_a l 0 94) (l1 : hp_i l 1 12) (l2 : hp_j l 2 0) (l4 : hp_i l 4 (m)) (e0 : ∀ (l' : am_L) (h_9' : am_H) (y0 : Int32) (y1 : Int32) (y2 : Int64) (y3 : Int32), y0.toInt = (s) → y1.toInt = (y) → y2.toInt = 0 → y3.toInt = 12 → ly_hy m_tt ly_TH h_9' → ly_fr cst [] h h_9' → h.length ≤ h_9'.length → hp_a l' 0 94 → hp_i l' 1 12 → hp_j l' 2 0 → hp_i l' 4 (m) → hp_F cst strs Φ D M 33 l' [.int y0, .int y1, .long y2, .int y3, .ref 94] h_9') : hp_F cst strs Φ D M 0 l [] h := by
  refine hp_arc c hM tl12_k hD [m, y, s] rfl hy (hp_Bc (z := m) rfl b0 t0 (hp_Bc (z := y) rfl b1 t1 (hp_Bc (z := s) rfl b2 t2 hp_Bn))) hp_Fn (hp_Kc (zi := (0 + (1 * m + 0))) (zv := (0 + (1 * y + 0))) k0 rfl rfl (by omega) (by omega) (hp_Kc (zi := (0 + (1 * m + 0))) (zv := (0 + (1 * s + 0))) k1 rfl rfl (by omega) (by omega) hp_Kn)) (hp_La l0 (hp_Li (z := (12 + 0)) l1 rfl (by omega) (hp_Lj (z := (0 + 0)) l2 rfl (by omega) (hp_Li (z := (0 + (1 * m + 0))) l4 rfl (by omega) hp_Ln)))) trivial ?_ ?_
  · intro p_9 hp ys l' st_9' h_9' hys a1_9 a2 a3 gZ gL gS
    rcases List.mem_cons.mp hp with rfl | hp
    · obtain rfl := hp_y0 hys
      obtain ⟨y0, t0, rfl, q0, g0⟩ := hp_gSi (z := (0 + (1 * s + 0))) gS rfl
      obtain ⟨y1, t1, rfl, q1_9, g1⟩ := hp_gSi (z := (0 + (1 * y + 0))) g0 rfl
      obtain ⟨y2, t2, rfl, q2_9, g2⟩ := hp_gSj (z := (0 + 0)) g1 rfl
      obtain ⟨y3, t3_9, rfl, q3_9, g3_9⟩ := hp_gSi (z := (12 + 0)) g2 rfl
      obtain ⟨t4_9, rfl, g4⟩ := hp_gSa g3_9 (by decide)
      cases hp_gSn g4
      exact e0 l' h_9' y0 y1 y2 y3 (by omega) (by omega) (by omega) (by omega) a1_9 a2 a3 (hp_gLa gL (List.mem_of_getElem? (i := 0) rfl) (by decide)) (hp_gLi (z := (12 + 0)) gL (List.mem_of_getElem? (i := 1) rfl) rfl (by omega)) (hp_gLj (z := (0 + 0)) gL (List.mem_of_getElem? (i := 2) rfl) rfl (by omega)) (hp_gLi (z := (0 + (1 * m + 0))) gL (List.mem_of_getElem? (i := 3) rfl) rfl (by omega))
    cases hp
  · intro p_9 hp ys v_9 h_9' hys a1_9 a2 a3 gZ gS
    cases hp
theorem tl1_k : hp_chk 282 36 1 [(0, (-2147483648), 2147483647)] [] [(0, .inr (.inr (.inl (some 94))))] [.inl (0, [(0, 1)])] [] [] 2 [] [([], 1, [(0, (-2147483648), 2147483647)], [], [], [.inl (0, [(0, 1)])], [])] = true := by decide +kernel
theorem tl1 {cst : am_K} {strs : List Nat} {Φ : am_Q → Prop} {D : Nat} {M : am_M} {h : am_H} {l : am_L} (c : hp_C cst strs D) (hM : m_P[282]? = some M) (hD : (2 : Int) ≤ (D : Int) + 1) (hy : ly_hy m_tt ly_TH h) (w : Int) (x0 : Int32) (hx0 : x0.toInt = (w)) (b0 : (-2147483648) ≤ w) (t0 : w ≤ 2147483647) (l0 : hp_a l 0 94) (r0 : ∀ (h_9' : am_H) (y0 : Int32), y0.toInt = (w) → ly_hy m_tt ly_TH h_9' → ly_fr cst [] h h_9' → h.length ≤ h_9'.length → Φ (some (.int y0), h_9', 0, 0)) : hp_F cst strs Φ D M 36 l [.int x0] h := by
  refine hp_arc c hM tl1_k hD [w] rfl hy (hp_Bc (z := w) rfl b0 t0 hp_Bn) hp_Fn hp_Kn (hp_La l0 hp_Ln) (hp_Si (z := (0 + (1 * w + 0))) rfl (by omega) trivial) ?_ ?_
  · intro p_9 hp ys l' st_9' h_9' hys a1_9 a2 a3 gZ gL gS
    cases hp
  · intro p_9 hp ys v_9 h_9' hys a1_9 a2 a3 gZ gS
    rcases List.mem_cons.mp hp with rfl | hp
    · obtain rfl := hp_y0 hys
      cases v_9 with
      | none => cases gS
      | some wz =>
        obtain ⟨y0, t0, s0_9, q0, -⟩ := hp_gSi (z := (0 + (1 * w + 0))) gS rfl
        cases s0_9
        exact r0 h_9' y0 (by omega) a1_9 a2 a3
    cases hp
/-- the number that the law tells -/
def nmP (X : List rX) (k d y s v : Int) : Prop := (∃ (a j : Nat) (ha : a < X.length) (hj : j < (X[a]).2.2.1.length), inF X k d y s a j ∧ v = ((X[a]).2.2.1[j]).2.2.1) ∨ (noF X k d y s ∧ v = nwo k)
theorem nmP_u {X : List rX} {k d y s v v' : Int} (A : nmP X k d y s v) (B : nmP X k d y s v') : v = v' := by
  rcases A with ⟨a_9, j_9, ha_9, hj, f1_9, e1_9⟩ | ⟨n1_9, e1_9⟩
  · rcases B with ⟨a2, j2_9, ha2, hj2, f2_9, e2_9⟩ | ⟨n2_9, e2_9⟩
    · obtain ⟨z1, z2⟩ := inF_u f1_9 f2_9
      subst z1
      subst z2
      rw [e1_9, e2_9]
    · exact absurd f1_9.1 (n2_9 a_9 j_9)
  · rcases B with ⟨a2, j2_9, ha2, hj2, f2_9, e2_9⟩ | ⟨n2_9, e2_9⟩
    · exact absurd f2_9.1 (n1_9 a2 j2_9)
    · rw [e1_9, e2_9]
/-- lawOf, 6 -/
theorem lm6_run {cst : am_K} {strs : List Nat} {D : Nat} {h0 : am_H} (cc : ∀ d, hp_C cst strs d) (hD : 6 ≤ D) (hy : ly_hy m_tt ly_TH h0) {X : List rX} {i0 : List Int} (I : LC cst h0 X i0) (x30 : X.length ≤ 30) (g12 : (fX X).length ≤ 1240) {m : Nat} (m1 : (m : Int) ≤ 99) (hm : 177 + 19 * (m + 1) ≤ h0.length) {d y s : Int} (kd : ly_hv cst h0 45312 (m : Int) = some d) (ky : ly_hv cst h0 45317 (m : Int) = some y) (ks : ly_hv cst h0 45315 (m : Int) = some s) (d0 : -9223372036854775808 ≤ d) (d1 : d ≤ 9223372036854775807) (y0 : -2147483648 ≤ y) (y1 : y ≤ 2147483647) (s0 : -2147483648 ≤ s) (s1 : s ≤ 2147483647) {xk : Int32} (ek : xk.toInt = 6) :
    ∃ r_9, am_Run cst m_cl m_tt m_P strs sx_bi (D + 1) 51 [.ref 44, .ref (16 + (177 + 19 * m + 0)), .int xk] h0 r_9 ∧ (fun r_9 : am_Q => ∃ w_9 : Int32, r_9.1 = some (.int w_9) ∧ r_9.2.2.1 = 0 ∧ r_9.2.2.2 = 0 ∧ ly_hy m_tt ly_TH r_9.2.1 ∧ ly_fr cst [] h0 r_9.2.1 ∧ nmP X 6 d y s w_9.toInt) r_9 := by
  obtain ⟨M_9, hM_9, hl⟩ := hp_M (mi := 51) (k := 3) (by decide +kernel)
  have c_9 : hp_C cst strs D := cc _
  have go_9 : hp_F cst strs (fun r_9 : am_Q => ∃ w_9 : Int32, r_9.1 = some (.int w_9) ∧ r_9.2.2.1 = 0 ∧ r_9.2.2.2 = 0 ∧ ly_hy m_tt ly_TH r_9.2.1 ∧ ly_fr cst [] h0 r_9.2.1 ∧ nmP X 6 d y s w_9.toInt) D M_9 0 (lv_args 0 [.ref 44, .ref (16 + (177 + 19 * m + 0)), .int xk]) [] h0 := by
    refine lm6 c_9 hM_9 (by omega) hy (m : Int) d y s (by omega) m1 d0 d1 y0 y1 s0 s1 kd ky ks rfl ⟨m, rfl, rfl, hm⟩ ⟨xk, rfl, ek⟩ (fun l1 h1 z0 z1 z2 z3 e0_9 e1_9 e2_9 e3_9 u1_9 u2_9 u3 g0 g1 g2 => ?_)
    obtain ⟨r_9, hrun, w_9, r1_9, r2, r3, rhy, rfr, rres⟩ := nf_run (D := D - 4) cc (by omega) u1_9 (LC_mv I u2_9 rfl) x30 g12 (k := 6) (d := d) (by decide) (by decide) (xk := z3) (xd := z2) (xy := z1) (xs := z0) e3_9 e2_9
    rw [show D - 4 + 4 = D by omega] at hrun
    refine hp_call (mi := 51) (pc := 27) (tg := 52) (na := 5) (c := 14) (ci := 3) (st0 := [.int z0, .int z1, .long z2, .int z3, .ref 30]) (st := []) (av := [.int z3, .long z2, .int z1, .int z0]) hM_9 (by decide +kernel) u1_9 rfl rfl rfl (by decide) hrun r2 r3 ?_
    rw [r1_9]
    rw [e0_9, e1_9] at rres
    exact lm1 c_9 hM_9 (by omega) rhy w_9.toInt w_9 rfl w_9.le_toInt w_9.toInt_le g0 (fun h3 v_9 hv v1_9 v2 v3 => ⟨v_9, rfl, rfl, rfl, v1_9, ly_fr_tr u2_9 (ly_fr_tr rfr v2), by rw [hv]; exact rres⟩)
  obtain ⟨n_9', r_9, hgo, w_9, r1_9, r2, r3, r4⟩ := go_9
  simp only [Nat.zero_add] at r2 r3
  exact ⟨r_9, Or.inr ⟨M_9, n_9', hM_9, hl, hgo⟩, w_9, r1_9, r2, r3, r4⟩
/-- lawOf, 12 -/
theorem lm12_run {cst : am_K} {strs : List Nat} {D : Nat} {h0 : am_H} (cc : ∀ d, hp_C cst strs d) (hD : 6 ≤ D) (hy : ly_hy m_tt ly_TH h0) {X : List rX} {i0 : List Int} (I : LC cst h0 X i0) (x30 : X.length ≤ 30) (g12 : (fX X).length ≤ 1240) {m : Nat} (m1 : (m : Int) ≤ 99) (hm : 177 + 19 * (m + 1) ≤ h0.length) {d y s : Int} (kd : ly_hv cst h0 45312 (m : Int) = some d) (ky : ly_hv cst h0 45317 (m : Int) = some y) (ks : ly_hv cst h0 45315 (m : Int) = some s) (d0 : -9223372036854775808 ≤ d) (d1 : d ≤ 9223372036854775807) (y0 : -2147483648 ≤ y) (y1 : y ≤ 2147483647) (s0 : -2147483648 ≤ s) (s1 : s ≤ 2147483647) {xk : Int32} (ek : xk.toInt = 12) :
    ∃ r_9, am_Run cst m_cl m_tt m_P strs sx_bi (D + 1) 51 [.ref 44, .ref (16 + (177 + 19 * m + 0)), .int xk] h0 r_9 ∧ (fun r_9 : am_Q => ∃ w_9 : Int32, r_9.1 = some (.int w_9) ∧ r_9.2.2.1 = 0 ∧ r_9.2.2.2 = 0 ∧ ly_hy m_tt ly_TH r_9.2.1 ∧ ly_fr cst [] h0 r_9.2.1 ∧ nmP X 12 0 y s w_9.toInt) r_9 := by
  obtain ⟨M_9, hM_9, hl⟩ := hp_M (mi := 51) (k := 3) (by decide +kernel)
  have c_9 : hp_C cst strs D := cc _
  have go_9 : hp_F cst strs (fun r_9 : am_Q => ∃ w_9 : Int32, r_9.1 = some (.int w_9) ∧ r_9.2.2.1 = 0 ∧ r_9.2.2.2 = 0 ∧ ly_hy m_tt ly_TH r_9.2.1 ∧ ly_fr cst [] h0 r_9.2.1 ∧ nmP X 12 0 y s w_9.toInt) D M_9 0 (lv_args 0 [.ref 44, .ref (16 + (177 + 19 * m + 0)), .int xk]) [] h0 := by
    refine lm12 c_9 hM_9 (by omega) hy (m : Int) y s (by omega) m1 y0 y1 s0 s1 ky ks rfl ⟨m, rfl, rfl, hm⟩ ⟨xk, rfl, ek⟩ (fun l1 h1 z0 z1 z2 z3 e0_9 e1_9 e2_9 e3_9 u1_9 u2_9 u3 g0 g1 g2 => ?_)
    obtain ⟨r_9, hrun, w_9, r1_9, r2, r3, rhy, rfr, rres⟩ := nf_run (D := D - 4) cc (by omega) u1_9 (LC_mv I u2_9 rfl) x30 g12 (k := 12) (d := 0) (by decide) (by decide) (xk := z3) (xd := z2) (xy := z1) (xs := z0) e3_9 e2_9
    rw [show D - 4 + 4 = D by omega] at hrun
    refine hp_call (mi := 51) (pc := 27) (tg := 52) (na := 5) (c := 14) (ci := 3) (st0 := [.int z0, .int z1, .long z2, .int z3, .ref 30]) (st := []) (av := [.int z3, .long z2, .int z1, .int z0]) hM_9 (by decide +kernel) u1_9 rfl rfl rfl (by decide) hrun r2 r3 ?_
    rw [r1_9]
    rw [e0_9, e1_9] at rres
    exact lm1 c_9 hM_9 (by omega) rhy w_9.toInt w_9 rfl w_9.le_toInt w_9.toInt_le g0 (fun h3 v_9 hv v1_9 v2 v3 => ⟨v_9, rfl, rfl, rfl, v1_9, ly_fr_tr u2_9 (ly_fr_tr rfr v2), by rw [hv]; exact rres⟩)
  obtain ⟨n_9', r_9, hgo, w_9, r1_9, r2, r3, r4⟩ := go_9
  simp only [Nat.zero_add] at r2 r3
  exact ⟨r_9, Or.inr ⟨M_9, n_9', hM_9, hl, hgo⟩, w_9, r1_9, r2, r3, r4⟩
/-- tellsOf, 6 -/
theorem tl6_run {cst : am_K} {strs : List Nat} {D : Nat} {h0 : am_H} (cc : ∀ d, hp_C cst strs d) (hD : 6 ≤ D) (hy : ly_hy m_tt ly_TH h0) {X : List rX} (R : rA cst h0 X) (x30 : X.length ≤ 30) (wd : ∀ a_9 (ha_9 : a_9 < X.length), wD (X[a_9]).2.2.1) {m : Nat} (m1 : (m : Int) ≤ 99) {d y s : Int} (kd : ly_hv cst h0 30208 (m : Int) = some d) (ky : ly_hv cst h0 29696 (m : Int) = some y) (ks : ly_hv cst h0 29184 (m : Int) = some s) (d0 : -9223372036854775808 ≤ d) (d1 : d ≤ 9223372036854775807) (y0 : -2147483648 ≤ y) (y1 : y ≤ 2147483647) (s0 : -2147483648 ≤ s) (s1 : s ≤ 2147483647) {xk xm : Int32} {xz : Int64} (ek : xk.toInt = 6) (ez : xz.toInt = 0) (em : xm.toInt = (m : Int)) :
    ∃ r_9, am_Run cst m_cl m_tt m_P strs sx_bi (D + 1) 282 [.ref 94, .int xk, .long xz, .int xm] h0 r_9 ∧ (fun r_9 : am_Q => ∃ w_9 : Int32, r_9.1 = some (.int w_9) ∧ r_9.2.2.1 = 0 ∧ r_9.2.2.2 = 0 ∧ ly_hy m_tt ly_TH r_9.2.1 ∧ ly_fr cst [] h0 r_9.2.1 ∧ nmP X 6 d y s w_9.toInt) r_9 := by
  obtain ⟨M_9, hM_9, hl⟩ := hp_M (mi := 282) (k := 5) (by decide +kernel)
  have c_9 : hp_C cst strs D := cc _
  have go_9 : hp_F cst strs (fun r_9 : am_Q => ∃ w_9 : Int32, r_9.1 = some (.int w_9) ∧ r_9.2.2.1 = 0 ∧ r_9.2.2.2 = 0 ∧ ly_hy m_tt ly_TH r_9.2.1 ∧ ly_fr cst [] h0 r_9.2.1 ∧ nmP X 6 d y s w_9.toInt) D M_9 0 (lv_args 0 [.ref 94, .int xk, .long xz, .int xm]) [] h0 := by
    refine tl6 c_9 hM_9 (by omega) hy (m : Int) d y s (by omega) m1 d0 d1 y0 y1 s0 s1 kd ky ks rfl ⟨xk, rfl, ek⟩ ⟨xz, rfl, ez⟩ ⟨xm, rfl, em⟩ (fun l1 h1 z0 z1 z2 z3 e0_9 e1_9 e2_9 e3_9 u1_9 u2_9 u3 g0 g1 g2 g4 => ?_)
    obtain ⟨r_9, hrun, w_9, r1_9, r2, r3, rhy, rfr, rres⟩ := tv_run (D := D - 5) cc (by omega) u1_9 (rA_k R (gk_fr u2_9 rfl rfl) (u2_9 _ _ _ rfl R.1)) x30 wd (k := 6) (d := d) (y := y) (s := s) (by decide) (by decide) (xk := z3) (xd := z2) (xy := z1) (xs := z0) e3_9 e2_9 e1_9 e0_9
    rw [show D - 5 + 5 = D by omega] at hrun
    refine hp_call (mi := 282) (pc := 33) (tg := 283) (na := 5) (c := 78) (ci := 12) (st0 := [.int z0, .int z1, .long z2, .int z3, .ref 94]) (st := []) (av := [.int z3, .long z2, .int z1, .int z0]) hM_9 (by decide +kernel) u1_9 rfl rfl rfl (by decide) hrun r2 r3 ?_
    rw [r1_9]
    rw [show dz 6 d = d from if_pos (by decide)] at rres
    exact tl1 c_9 hM_9 (by omega) rhy w_9.toInt w_9 rfl w_9.le_toInt w_9.toInt_le g0 (fun h3 v_9 hv v1_9 v2 v3 => ⟨v_9, rfl, rfl, rfl, v1_9, ly_fr_tr u2_9 (ly_fr_tr rfr v2), by rw [hv]; exact rres⟩)
  obtain ⟨n_9', r_9, hgo, w_9, r1_9, r2, r3, r4⟩ := go_9
  simp only [Nat.zero_add] at r2 r3
  exact ⟨r_9, Or.inr ⟨M_9, n_9', hM_9, hl, hgo⟩, w_9, r1_9, r2, r3, r4⟩
/-- tellsOf, 12 -/
theorem tl12_run {cst : am_K} {strs : List Nat} {D : Nat} {h0 : am_H} (cc : ∀ d, hp_C cst strs d) (hD : 6 ≤ D) (hy : ly_hy m_tt ly_TH h0) {X : List rX} (R : rA cst h0 X) (x30 : X.length ≤ 30) (wd : ∀ a_9 (ha_9 : a_9 < X.length), wD (X[a_9]).2.2.1) {m : Nat} (m1 : (m : Int) ≤ 99) {d y s : Int} (kd : ly_hv cst h0 30208 (m : Int) = some d) (ky : ly_hv cst h0 29696 (m : Int) = some y) (ks : ly_hv cst h0 29184 (m : Int) = some s) (d0 : -9223372036854775808 ≤ d) (d1 : d ≤ 9223372036854775807) (y0 : -2147483648 ≤ y) (y1 : y ≤ 2147483647) (s0 : -2147483648 ≤ s) (s1 : s ≤ 2147483647) {xk xm : Int32} {xz : Int64} (ek : xk.toInt = 12) (ez : xz.toInt = 0) (em : xm.toInt = (m : Int)) :
    ∃ r_9, am_Run cst m_cl m_tt m_P strs sx_bi (D + 1) 282 [.ref 94, .int xk, .long xz, .int xm] h0 r_9 ∧ (fun r_9 : am_Q => ∃ w_9 : Int32, r_9.1 = some (.int w_9) ∧ r_9.2.2.1 = 0 ∧ r_9.2.2.2 = 0 ∧ ly_hy m_tt ly_TH r_9.2.1 ∧ ly_fr cst [] h0 r_9.2.1 ∧ nmP X 12 0 y s w_9.toInt) r_9 := by
  obtain ⟨M_9, hM_9, hl⟩ := hp_M (mi := 282) (k := 5) (by decide +kernel)
  have c_9 : hp_C cst strs D := cc _
  have go_9 : hp_F cst strs (fun r_9 : am_Q => ∃ w_9 : Int32, r_9.1 = some (.int w_9) ∧ r_9.2.2.1 = 0 ∧ r_9.2.2.2 = 0 ∧ ly_hy m_tt ly_TH r_9.2.1 ∧ ly_fr cst [] h0 r_9.2.1 ∧ nmP X 12 0 y s w_9.toInt) D M_9 0 (lv_args 0 [.ref 94, .int xk, .long xz, .int xm]) [] h0 := by
    refine tl12 c_9 hM_9 (by omega) hy (m : Int) y s (by omega) m1 y0 y1 s0 s1 ky ks rfl ⟨xk, rfl, ek⟩ ⟨xz, rfl, ez⟩ ⟨xm, rfl, em⟩ (fun l1 h1 z0 z1 z2 z3 e0_9 e1_9 e2_9 e3_9 u1_9 u2_9 u3 g0 g1 g2 g4 => ?_)
    obtain ⟨r_9, hrun, w_9, r1_9, r2, r3, rhy, rfr, rres⟩ := tv_run (D := D - 5) cc (by omega) u1_9 (rA_k R (gk_fr u2_9 rfl rfl) (u2_9 _ _ _ rfl R.1)) x30 wd (k := 12) (d := 0) (y := y) (s := s) (by decide) (by decide) (xk := z3) (xd := z2) (xy := z1) (xs := z0) e3_9 e2_9 e1_9 e0_9
    rw [show D - 5 + 5 = D by omega] at hrun
    refine hp_call (mi := 282) (pc := 33) (tg := 283) (na := 5) (c := 78) (ci := 12) (st0 := [.int z0, .int z1, .long z2, .int z3, .ref 94]) (st := []) (av := [.int z3, .long z2, .int z1, .int z0]) hM_9 (by decide +kernel) u1_9 rfl rfl rfl (by decide) hrun r2 r3 ?_
    rw [r1_9]
    rw [show dz 12 0 = 0 from if_neg (by decide)] at rres
    exact tl1 c_9 hM_9 (by omega) rhy w_9.toInt w_9 rfl w_9.le_toInt w_9.toInt_le g0 (fun h3 v_9 hv v1_9 v2 v3 => ⟨v_9, rfl, rfl, rfl, v1_9, ly_fr_tr u2_9 (ly_fr_tr rfr v2), by rw [hv]; exact rres⟩)
  obtain ⟨n_9', r_9, hgo, w_9, r1_9, r2, r3, r4⟩ := go_9
  simp only [Nat.zero_add] at r2 r3
  exact ⟨r_9, Or.inr ⟨M_9, n_9', hM_9, hl, hgo⟩, w_9, r1_9, r2, r3, r4⟩

