/-! PRINTED by wip/p2/hp_badr.py: bad, arcs -/
theorem bko0_k : hp_chk 343 0 1 [(0, 0, 99)] [] [(0, .inr (.inr (.inl (some 94)))), (1, .inl (0, [(0, 1)]))] [] [(33536, (0, [(0, 1)]), (0, []))] [] 2 [] [([], 1, [(0, 0, 99)], [], [], [.inl (100, [])], [])] = true := by decide +kernel
theorem bko0 {cst : am_K} {strs : List Nat} {Φ : am_Q → Prop} {D : Nat} {M : am_M} {h : am_H} {l : am_L} (c : hp_C cst strs D) (hM : m_P[343]? = some M) (hD : (2 : Int) ≤ (D : Int) + 1) (hy : ly_hy m_tt ly_TH h) (m : Int) (b0 : 0 ≤ m) (t0 : m ≤ 99) (k0 : ly_hv cst h 33536 (m) = some 0) (l0 : hp_a l 0 94) (l1 : hp_i l 1 (m)) (r0 : ∀ (h' : am_H) (y0 : Int32), y0.toInt = 100 → ly_hy m_tt ly_TH h' → ly_fr cst [] h h' → h.length ≤ h'.length → Φ (some (.int y0), h', 0, 0)) : hp_F cst strs Φ D M 0 l [] h := by
  refine hp_arc c hM bko0_k hD [m] rfl hy (hp_Bc (z := m) rfl b0 t0 hp_Bn) hp_Fn (hp_Kc (zi := (0 + (1 * m + 0))) (zv := (0 + 0)) k0 rfl rfl (by omega) (by omega) hp_Kn) (hp_La l0 (hp_Li (z := (0 + (1 * m + 0))) l1 rfl (by omega) hp_Ln)) trivial ?_ ?_
  · intro p_9 hp ys l' st' h' hys a1_9 a2 a3 gZ gL gS
    cases hp
  · intro p_9 hp ys v_9 h' hys a1_9 a2 a3 gZ gS
    rcases List.mem_cons.mp hp with rfl | hp
    · obtain rfl := hp_y0 hys
      cases v_9 with
      | none => cases gS
      | some wz =>
        obtain ⟨y0, t0, s0_9, q0, -⟩ := hp_gSi (z := (100 + 0)) gS rfl
        cases s0_9
        exact r0 h' y0 (by omega) a1_9 a2 a3
    cases hp
theorem bko1_k : hp_chk 343 0 1 [(0, 0, 99)] [] [(0, .inr (.inr (.inl (some 94)))), (1, .inl (0, [(0, 1)]))] [] [(33536, (0, [(0, 1)]), (1, [])), (33792, (0, [(0, 1)]), (0, []))] [] 2 [] [([], 1, [(0, 0, 99)], [], [], [.inl (100, [])], [])] = true := by decide +kernel
theorem bko1 {cst : am_K} {strs : List Nat} {Φ : am_Q → Prop} {D : Nat} {M : am_M} {h : am_H} {l : am_L} (c : hp_C cst strs D) (hM : m_P[343]? = some M) (hD : (2 : Int) ≤ (D : Int) + 1) (hy : ly_hy m_tt ly_TH h) (m : Int) (b0 : 0 ≤ m) (t0 : m ≤ 99) (k0 : ly_hv cst h 33536 (m) = some 1) (k1 : ly_hv cst h 33792 (m) = some 0) (l0 : hp_a l 0 94) (l1 : hp_i l 1 (m)) (r0 : ∀ (h' : am_H) (y0 : Int32), y0.toInt = 100 → ly_hy m_tt ly_TH h' → ly_fr cst [] h h' → h.length ≤ h'.length → Φ (some (.int y0), h', 0, 0)) : hp_F cst strs Φ D M 0 l [] h := by
  refine hp_arc c hM bko1_k hD [m] rfl hy (hp_Bc (z := m) rfl b0 t0 hp_Bn) hp_Fn (hp_Kc (zi := (0 + (1 * m + 0))) (zv := (1 + 0)) k0 rfl rfl (by omega) (by omega) (hp_Kc (zi := (0 + (1 * m + 0))) (zv := (0 + 0)) k1 rfl rfl (by omega) (by omega) hp_Kn)) (hp_La l0 (hp_Li (z := (0 + (1 * m + 0))) l1 rfl (by omega) hp_Ln)) trivial ?_ ?_
  · intro p_9 hp ys l' st' h' hys a1_9 a2 a3 gZ gL gS
    cases hp
  · intro p_9 hp ys v_9 h' hys a1_9 a2 a3 gZ gS
    rcases List.mem_cons.mp hp with rfl | hp
    · obtain rfl := hp_y0 hys
      cases v_9 with
      | none => cases gS
      | some wz =>
        obtain ⟨y0, t0, s0_9, q0, -⟩ := hp_gSi (z := (100 + 0)) gS rfl
        cases s0_9
        exact r0 h' y0 (by omega) a1_9 a2 a3
    cases hp
theorem bko2_k : hp_chk 343 0 4 [(0, 0, 99), (1, (-9223372036854775808), 9223372036854775807), (2, (-2147483648), 2147483647), (3, (-2147483648), 2147483647)] [] [(0, .inr (.inr (.inl (some 94)))), (1, .inl (0, [(0, 1)]))] [] [(33536, (0, [(0, 1)]), (1, [])), (33792, (0, [(0, 1)]), (1, [])), (30208, (0, [(0, 1)]), (0, [(1, 1)])), (29696, (0, [(0, 1)]), (0, [(2, 1)])), (29184, (0, [(0, 1)]), (0, [(3, 1)]))] [] 2 [(41, ([], 4, [(0, 0, 99), (1, (-9223372036854775808), 9223372036854775807), (2, (-2147483648), 2147483647), (3, (-2147483648), 2147483647)], [], [(0, .inr (.inr (.inl (some 94)))), (1, .inl (0, [(0, 1)]))], [.inl (0, [(3, 1)]), .inl (0, [(2, 1)]), .inr (.inl (0, [(1, 1)])), .inl (0, []), .inr (.inr (.inl (some 94)))], []))] [] = true := by decide +kernel
theorem bko2 {cst : am_K} {strs : List Nat} {Φ : am_Q → Prop} {D : Nat} {M : am_M} {h : am_H} {l : am_L} (c : hp_C cst strs D) (hM : m_P[343]? = some M) (hD : (2 : Int) ≤ (D : Int) + 1) (hy : ly_hy m_tt ly_TH h) (m d y s : Int) (b0 : 0 ≤ m) (t0 : m ≤ 99) (b1 : (-9223372036854775808) ≤ d) (t1 : d ≤ 9223372036854775807) (b2 : (-2147483648) ≤ y) (t2 : y ≤ 2147483647) (b3 : (-2147483648) ≤ s) (t3 : s ≤ 2147483647) (k0 : ly_hv cst h 33536 (m) = some 1) (k1 : ly_hv cst h 33792 (m) = some 1) (k2 : ly_hv cst h 30208 (m) = some (d)) (k3 : ly_hv cst h 29696 (m) = some (y)) (k4 : ly_hv cst h 29184 (m) = some (s)) (l0 : hp_a l 0 94) (l1 : hp_i l 1 (m)) (e0 : ∀ (l' : am_L) (h' : am_H) (y0 : Int32) (y1 : Int32) (y2 : Int64) (y3 : Int32), y0.toInt = (s) → y1.toInt = (y) → y2.toInt = (d) → y3.toInt = 0 → ly_hy m_tt ly_TH h' → ly_fr cst [] h h' → h.length ≤ h'.length → hp_a l' 0 94 → hp_i l' 1 (m) → hp_F cst strs Φ D M 41 l' [.int y0, .int y1, .long y2, .int y3, .ref 94] h') : hp_F cst strs Φ D M 0 l [] h := by
  refine hp_arc c hM bko2_k hD [m, d, y, s] rfl hy (hp_Bc (z := m) rfl b0 t0 (hp_Bc (z := d) rfl b1 t1 (hp_Bc (z := y) rfl b2 t2 (hp_Bc (z := s) rfl b3 t3 hp_Bn)))) hp_Fn (hp_Kc (zi := (0 + (1 * m + 0))) (zv := (1 + 0)) k0 rfl rfl (by omega) (by omega) (hp_Kc (zi := (0 + (1 * m + 0))) (zv := (1 + 0)) k1 rfl rfl (by omega) (by omega) (hp_Kc (zi := (0 + (1 * m + 0))) (zv := (0 + (1 * d + 0))) k2 rfl rfl (by omega) (by omega) (hp_Kc (zi := (0 + (1 * m + 0))) (zv := (0 + (1 * y + 0))) k3 rfl rfl (by omega) (by omega) (hp_Kc (zi := (0 + (1 * m + 0))) (zv := (0 + (1 * s + 0))) k4 rfl rfl (by omega) (by omega) hp_Kn))))) (hp_La l0 (hp_Li (z := (0 + (1 * m + 0))) l1 rfl (by omega) hp_Ln)) trivial ?_ ?_
  · intro p_9 hp ys l' st' h' hys a1_9 a2 a3 gZ gL gS
    rcases List.mem_cons.mp hp with rfl | hp
    · obtain rfl := hp_y0 hys
      obtain ⟨y0, t0, rfl, q0, g0⟩ := hp_gSi (z := (0 + (1 * s + 0))) gS rfl
      obtain ⟨y1, t1, rfl, q1_9, g1⟩ := hp_gSi (z := (0 + (1 * y + 0))) g0 rfl
      obtain ⟨y2, t2, rfl, q2_9, g2⟩ := hp_gSj (z := (0 + (1 * d + 0))) g1 rfl
      obtain ⟨y3, t3, rfl, q3_9, g3_9⟩ := hp_gSi (z := (0 + 0)) g2 rfl
      obtain ⟨t4_9, rfl, g4⟩ := hp_gSa g3_9 (by decide)
      cases hp_gSn g4
      exact e0 l' h' y0 y1 y2 y3 (by omega) (by omega) (by omega) (by omega) a1_9 a2 a3 (hp_gLa gL (List.mem_of_getElem? (i := 0) rfl) (by decide)) (hp_gLi (z := (0 + (1 * m + 0))) gL (List.mem_of_getElem? (i := 1) rfl) rfl (by omega))
    cases hp
  · intro p_9 hp ys v_9 h' hys a1_9 a2 a3 gZ gS
    cases hp
theorem bko3_k : hp_chk 343 44 1 [(0, 0, 99)] [] [(0, .inr (.inr (.inl (some 94)))), (1, .inl (0, [(0, 1)]))] [.inl ((-1), [])] [] [] 2 [] [([], 1, [(0, 0, 99)], [], [], [.inl (200, [])], [])] = true := by decide +kernel
theorem bko3 {cst : am_K} {strs : List Nat} {Φ : am_Q → Prop} {D : Nat} {M : am_M} {h : am_H} {l : am_L} (c : hp_C cst strs D) (hM : m_P[343]? = some M) (hD : (2 : Int) ≤ (D : Int) + 1) (hy : ly_hy m_tt ly_TH h) (m : Int) (x0 : Int32) (hx0 : x0.toInt = (-1)) (b0 : 0 ≤ m) (t0 : m ≤ 99) (l0 : hp_a l 0 94) (l1 : hp_i l 1 (m)) (r0 : ∀ (h' : am_H) (y0 : Int32), y0.toInt = 200 → ly_hy m_tt ly_TH h' → ly_fr cst [] h h' → h.length ≤ h'.length → Φ (some (.int y0), h', 0, 0)) : hp_F cst strs Φ D M 44 l [.int x0] h := by
  refine hp_arc c hM bko3_k hD [m] rfl hy (hp_Bc (z := m) rfl b0 t0 hp_Bn) hp_Fn hp_Kn (hp_La l0 (hp_Li (z := (0 + (1 * m + 0))) l1 rfl (by omega) hp_Ln)) (hp_Si (z := ((-1) + 0)) rfl (by omega) trivial) ?_ ?_
  · intro p_9 hp ys l' st' h' hys a1_9 a2 a3 gZ gL gS
    cases hp
  · intro p_9 hp ys v_9 h' hys a1_9 a2 a3 gZ gS
    rcases List.mem_cons.mp hp with rfl | hp
    · obtain rfl := hp_y0 hys
      cases v_9 with
      | none => cases gS
      | some wz =>
        obtain ⟨y0, t0, s0_9, q0, -⟩ := hp_gSi (z := (200 + 0)) gS rfl
        cases s0_9
        exact r0 h' y0 (by omega) a1_9 a2 a3
    cases hp
theorem bko4_k : hp_chk 343 44 5 [(0, 0, 99), (1, (-9223372036854775808), 9223372036854775807), (2, (-2147483648), 2147483647), (3, (-2147483648), 2147483647), (4, 0, 1199)] [] [(0, .inr (.inr (.inl (some 94)))), (1, .inl (0, [(0, 1)]))] [.inl (0, [(4, 1)])] [(30208, (0, [(0, 1)]), (0, [(1, 1)])), (29696, (0, [(0, 1)]), (0, [(2, 1)])), (29184, (0, [(0, 1)]), (0, [(3, 1)]))] [] 2 [(74, ([], 5, [(0, 0, 99), (1, (-9223372036854775808), 9223372036854775807), (2, (-2147483648), 2147483647), (3, (-2147483648), 2147483647), (4, 0, 1199)], [], [(0, .inr (.inr (.inl (some 94)))), (1, .inl (0, [(0, 1)])), (2, .inl (0, [(4, 1)]))], [.inl (0, [(3, 1)]), .inl (0, [(2, 1)]), .inr (.inl (0, [(1, 1)])), .inl (1, []), .inr (.inr (.inl (some 94)))], []))] [] = true := by decide +kernel
theorem bko4 {cst : am_K} {strs : List Nat} {Φ : am_Q → Prop} {D : Nat} {M : am_M} {h : am_H} {l : am_L} (c : hp_C cst strs D) (hM : m_P[343]? = some M) (hD : (2 : Int) ≤ (D : Int) + 1) (hy : ly_hy m_tt ly_TH h) (m d y s cc : Int) (x0 : Int32) (hx0 : x0.toInt = (cc)) (b0 : 0 ≤ m) (t0 : m ≤ 99) (b1 : (-9223372036854775808) ≤ d) (t1 : d ≤ 9223372036854775807) (b2 : (-2147483648) ≤ y) (t2 : y ≤ 2147483647) (b3 : (-2147483648) ≤ s) (t3 : s ≤ 2147483647) (b4 : 0 ≤ cc) (t4 : cc ≤ 1199) (k0 : ly_hv cst h 30208 (m) = some (d)) (k1 : ly_hv cst h 29696 (m) = some (y)) (k2 : ly_hv cst h 29184 (m) = some (s)) (l0 : hp_a l 0 94) (l1 : hp_i l 1 (m)) (e0 : ∀ (l' : am_L) (h' : am_H) (y0 : Int32) (y1 : Int32) (y2 : Int64) (y3 : Int32), y0.toInt = (s) → y1.toInt = (y) → y2.toInt = (d) → y3.toInt = 1 → ly_hy m_tt ly_TH h' → ly_fr cst [] h h' → h.length ≤ h'.length → hp_a l' 0 94 → hp_i l' 1 (m) → hp_i l' 2 (cc) → hp_F cst strs Φ D M 74 l' [.int y0, .int y1, .long y2, .int y3, .ref 94] h') : hp_F cst strs Φ D M 44 l [.int x0] h := by
  refine hp_arc c hM bko4_k hD [m, d, y, s, cc] rfl hy (hp_Bc (z := m) rfl b0 t0 (hp_Bc (z := d) rfl b1 t1 (hp_Bc (z := y) rfl b2 t2 (hp_Bc (z := s) rfl b3 t3 (hp_Bc (z := cc) rfl b4 t4 hp_Bn))))) hp_Fn (hp_Kc (zi := (0 + (1 * m + 0))) (zv := (0 + (1 * d + 0))) k0 rfl rfl (by omega) (by omega) (hp_Kc (zi := (0 + (1 * m + 0))) (zv := (0 + (1 * y + 0))) k1 rfl rfl (by omega) (by omega) (hp_Kc (zi := (0 + (1 * m + 0))) (zv := (0 + (1 * s + 0))) k2 rfl rfl (by omega) (by omega) hp_Kn))) (hp_La l0 (hp_Li (z := (0 + (1 * m + 0))) l1 rfl (by omega) hp_Ln)) (hp_Si (z := (0 + (1 * cc + 0))) rfl (by omega) trivial) ?_ ?_
  · intro p_9 hp ys l' st' h' hys a1_9 a2 a3 gZ gL gS
    rcases List.mem_cons.mp hp with rfl | hp
    · obtain rfl := hp_y0 hys
      obtain ⟨y0, t0, rfl, q0, g0⟩ := hp_gSi (z := (0 + (1 * s + 0))) gS rfl
      obtain ⟨y1, t1, rfl, q1_9, g1⟩ := hp_gSi (z := (0 + (1 * y + 0))) g0 rfl
      obtain ⟨y2, t2, rfl, q2_9, g2⟩ := hp_gSj (z := (0 + (1 * d + 0))) g1 rfl
      obtain ⟨y3, t3, rfl, q3_9, g3_9⟩ := hp_gSi (z := (1 + 0)) g2 rfl
      obtain ⟨t4, rfl, g4⟩ := hp_gSa g3_9 (by decide)
      cases hp_gSn g4
      exact e0 l' h' y0 y1 y2 y3 (by omega) (by omega) (by omega) (by omega) a1_9 a2 a3 (hp_gLa gL (List.mem_of_getElem? (i := 0) rfl) (by decide)) (hp_gLi (z := (0 + (1 * m + 0))) gL (List.mem_of_getElem? (i := 1) rfl) rfl (by omega)) (hp_gLi (z := (0 + (1 * cc + 0))) gL (List.mem_of_getElem? (i := 2) rfl) rfl (by omega))
    cases hp
  · intro p_9 hp ys v_9 h' hys a1_9 a2 a3 gZ gS
    cases hp
theorem bko6_k : hp_chk 343 77 2 [(0, 0, 99), (1, 0, 1199)] [] [(0, .inr (.inr (.inl (some 94)))), (1, .inl (0, [(0, 1)])), (2, .inl (0, [(1, 1)]))] [.inl ((-1), [])] [] [] 2 [(174, ([], 2, [(0, 0, 99), (1, 0, 1199)], [], [(0, .inr (.inr (.inl (some 94)))), (1, .inl (0, [(0, 1)])), (2, .inl (0, [(1, 1)]))], [.inl (0, [(0, 2)]), .inl (0, [(1, 1)]), .inr (.inr (.inl (some 94))), .inl (0, [(1, 1)]), .inr (.inr (.inl (some 94)))], []))] [] = true := by decide +kernel
theorem bko6 {cst : am_K} {strs : List Nat} {Φ : am_Q → Prop} {D : Nat} {M : am_M} {h : am_H} {l : am_L} (c : hp_C cst strs D) (hM : m_P[343]? = some M) (hD : (2 : Int) ≤ (D : Int) + 1) (hy : ly_hy m_tt ly_TH h) (m cc : Int) (x0 : Int32) (hx0 : x0.toInt = (-1)) (b0 : 0 ≤ m) (t0 : m ≤ 99) (b1 : 0 ≤ cc) (t1 : cc ≤ 1199) (l0 : hp_a l 0 94) (l1 : hp_i l 1 (m)) (l2 : hp_i l 2 (cc)) (e0 : ∀ (l' : am_L) (h' : am_H) (y0 : Int32) (y1 : Int32) (y3 : Int32), y0.toInt = (2 * m) → y1.toInt = (cc) → y3.toInt = (cc) → ly_hy m_tt ly_TH h' → ly_fr cst [] h h' → h.length ≤ h'.length → hp_a l' 0 94 → hp_i l' 1 (m) → hp_i l' 2 (cc) → hp_F cst strs Φ D M 174 l' [.int y0, .int y1, .ref 94, .int y3, .ref 94] h') : hp_F cst strs Φ D M 77 l [.int x0] h := by
  refine hp_arc c hM bko6_k hD [m, cc] rfl hy (hp_Bc (z := m) rfl b0 t0 (hp_Bc (z := cc) rfl b1 t1 hp_Bn)) hp_Fn hp_Kn (hp_La l0 (hp_Li (z := (0 + (1 * m + 0))) l1 rfl (by omega) (hp_Li (z := (0 + (1 * cc + 0))) l2 rfl (by omega) hp_Ln))) (hp_Si (z := ((-1) + 0)) rfl (by omega) trivial) ?_ ?_
  · intro p_9 hp ys l' st' h' hys a1_9 a2 a3 gZ gL gS
    rcases List.mem_cons.mp hp with rfl | hp
    · obtain rfl := hp_y0 hys
      obtain ⟨y0, t0, rfl, q0, g0⟩ := hp_gSi (z := (0 + (2 * m + 0))) gS rfl
      obtain ⟨y1, t1, rfl, q1_9, g1⟩ := hp_gSi (z := (0 + (1 * cc + 0))) g0 rfl
      obtain ⟨t2_9, rfl, g2⟩ := hp_gSa g1 (by decide)
      obtain ⟨y3, t3_9, rfl, q3_9, g3_9⟩ := hp_gSi (z := (0 + (1 * cc + 0))) g2 rfl
      obtain ⟨t4_9, rfl, g4⟩ := hp_gSa g3_9 (by decide)
      cases hp_gSn g4
      exact e0 l' h' y0 y1 y3 (by omega) (by omega) (by omega) a1_9 a2 a3 (hp_gLa gL (List.mem_of_getElem? (i := 0) rfl) (by decide)) (hp_gLi (z := (0 + (1 * m + 0))) gL (List.mem_of_getElem? (i := 1) rfl) rfl (by omega)) (hp_gLi (z := (0 + (1 * cc + 0))) gL (List.mem_of_getElem? (i := 2) rfl) rfl (by omega))
    cases hp
  · intro p_9 hp ys v_9 h' hys a1_9 a2 a3 gZ gS
    cases hp
theorem bko5_k : hp_chk 343 77 3 [(0, 0, 99), (1, 0, 1199), (2, 0, 1199)] [] [(0, .inr (.inr (.inl (some 94)))), (1, .inl (0, [(0, 1)])), (2, .inl (0, [(1, 1)]))] [.inl (0, [(2, 1)])] [] [] 2 [(84, ([], 3, [(0, 0, 99), (1, 0, 1199), (2, 0, 1199)], [], [(0, .inr (.inr (.inl (some 94)))), (1, .inl (0, [(0, 1)])), (2, .inl (0, [(1, 1)])), (3, .inl (0, [(2, 1)])), (4, .inl (0, [])), (5, .inl (0, []))], [], []))] [] = true := by decide +kernel
theorem bko5 {cst : am_K} {strs : List Nat} {Φ : am_Q → Prop} {D : Nat} {M : am_M} {h : am_H} {l : am_L} (c : hp_C cst strs D) (hM : m_P[343]? = some M) (hD : (2 : Int) ≤ (D : Int) + 1) (hy : ly_hy m_tt ly_TH h) (m cc w : Int) (x0 : Int32) (hx0 : x0.toInt = (w)) (b0 : 0 ≤ m) (t0 : m ≤ 99) (b1 : 0 ≤ cc) (t1 : cc ≤ 1199) (b2 : 0 ≤ w) (t2 : w ≤ 1199) (l0 : hp_a l 0 94) (l1 : hp_i l 1 (m)) (l2 : hp_i l 2 (cc)) (e0 : ∀ (l' : am_L) (h' : am_H), ly_hy m_tt ly_TH h' → ly_fr cst [] h h' → h.length ≤ h'.length → hp_a l' 0 94 → hp_i l' 1 (m) → hp_i l' 2 (cc) → hp_i l' 3 (w) → hp_i l' 4 0 → hp_i l' 5 0 → hp_F cst strs Φ D M 84 l' [] h') : hp_F cst strs Φ D M 77 l [.int x0] h := by
  refine hp_arc c hM bko5_k hD [m, cc, w] rfl hy (hp_Bc (z := m) rfl b0 t0 (hp_Bc (z := cc) rfl b1 t1 (hp_Bc (z := w) rfl b2 t2 hp_Bn))) hp_Fn hp_Kn (hp_La l0 (hp_Li (z := (0 + (1 * m + 0))) l1 rfl (by omega) (hp_Li (z := (0 + (1 * cc + 0))) l2 rfl (by omega) hp_Ln))) (hp_Si (z := (0 + (1 * w + 0))) rfl (by omega) trivial) ?_ ?_
  · intro p_9 hp ys l' st' h' hys a1_9 a2 a3 gZ gL gS
    rcases List.mem_cons.mp hp with rfl | hp
    · obtain rfl := hp_y0 hys
      cases hp_gSn gS
      exact e0 l' h' a1_9 a2 a3 (hp_gLa gL (List.mem_of_getElem? (i := 0) rfl) (by decide)) (hp_gLi (z := (0 + (1 * m + 0))) gL (List.mem_of_getElem? (i := 1) rfl) rfl (by omega)) (hp_gLi (z := (0 + (1 * cc + 0))) gL (List.mem_of_getElem? (i := 2) rfl) rfl (by omega)) (hp_gLi (z := (0 + (1 * w + 0))) gL (List.mem_of_getElem? (i := 3) rfl) rfl (by omega)) (hp_gLi (z := (0 + 0)) gL (List.mem_of_getElem? (i := 4) rfl) rfl (by omega)) (hp_gLi (z := (0 + 0)) gL (List.mem_of_getElem? (i := 5) rfl) rfl (by omega))
    cases hp
  · intro p_9 hp ys v_9 h' hys a1_9 a2 a3 gZ gS
    cases hp
theorem bko7_k : hp_chk 343 84 6 [(0, 0, 99), (1, 0, 1199), (2, 0, 1199), (3, 0, 28), (4, 0, 8), (5, 0, 8)] [((-1), [(4, (-1)), (5, 1)])] [(0, .inr (.inr (.inl (some 94)))), (1, .inl (0, [(0, 1)])), (2, .inl (0, [(1, 1)])), (3, .inl (0, [(2, 1)])), (4, .inl (0, [(3, 1)])), (5, .inl (0, [(4, 1)]))] [] [(24576, (0, [(2, 1)]), (0, [(5, 1)]))] [] 2 [(100, ([], 6, [(0, 0, 99), (1, 0, 1199), (2, 0, 1199), (3, 0, 28), (4, 0, 8), (5, 0, 8)], [], [(0, .inr (.inr (.inl (some 94)))), (1, .inl (0, [(0, 1)])), (2, .inl (0, [(1, 1)])), (3, .inl (0, [(2, 1)])), (4, .inl (0, [(3, 1)])), (5, .inl (0, [(4, 1)]))], [], []))] [] = true := by decide +kernel
theorem bko7 {cst : am_K} {strs : List Nat} {Φ : am_Q → Prop} {D : Nat} {M : am_M} {h : am_H} {l : am_L} (c : hp_C cst strs D) (hM : m_P[343]? = some M) (hD : (2 : Int) ≤ (D : Int) + 1) (hy : ly_hy m_tt ly_TH h) (m cc w f i n : Int) (b0 : 0 ≤ m) (t0 : m ≤ 99) (b1 : 0 ≤ cc) (t1 : cc ≤ 1199) (b2 : 0 ≤ w) (t2 : w ≤ 1199) (b3 : 0 ≤ f) (t3 : f ≤ 28) (b4 : 0 ≤ i) (t4 : i ≤ 8) (b5 : 0 ≤ n) (t5 : n ≤ 8) (f0 : 0 ≤ (n - i - 1)) (k0 : ly_hv cst h 24576 (w) = some (n)) (l0 : hp_a l 0 94) (l1 : hp_i l 1 (m)) (l2 : hp_i l 2 (cc)) (l3 : hp_i l 3 (w)) (l4 : hp_i l 4 (f)) (l5 : hp_i l 5 (i)) (e0 : ∀ (l' : am_L) (h' : am_H), ly_hy m_tt ly_TH h' → ly_fr cst [] h h' → h.length ≤ h'.length → hp_a l' 0 94 → hp_i l' 1 (m) → hp_i l' 2 (cc) → hp_i l' 3 (w) → hp_i l' 4 (f) → hp_i l' 5 (i) → hp_F cst strs Φ D M 100 l' [] h') : hp_F cst strs Φ D M 84 l [] h := by
  refine hp_arc c hM bko7_k hD [m, cc, w, f, i, n] rfl hy (hp_Bc (z := m) rfl b0 t0 (hp_Bc (z := cc) rfl b1 t1 (hp_Bc (z := w) rfl b2 t2 (hp_Bc (z := f) rfl b3 t3 (hp_Bc (z := i) rfl b4 t4 (hp_Bc (z := n) rfl b5 t5 hp_Bn)))))) (hp_Fc (z := ((-1) + ((-1) * i + (1 * n + 0)))) rfl (by omega) hp_Fn) (hp_Kc (zi := (0 + (1 * w + 0))) (zv := (0 + (1 * n + 0))) k0 rfl rfl (by omega) (by omega) hp_Kn) (hp_La l0 (hp_Li (z := (0 + (1 * m + 0))) l1 rfl (by omega) (hp_Li (z := (0 + (1 * cc + 0))) l2 rfl (by omega) (hp_Li (z := (0 + (1 * w + 0))) l3 rfl (by omega) (hp_Li (z := (0 + (1 * f + 0))) l4 rfl (by omega) (hp_Li (z := (0 + (1 * i + 0))) l5 rfl (by omega) hp_Ln)))))) trivial ?_ ?_
  · intro p_9 hp ys l' st' h' hys a1_9 a2 a3 gZ gL gS
    rcases List.mem_cons.mp hp with rfl | hp
    · obtain rfl := hp_y0 hys
      cases hp_gSn gS
      exact e0 l' h' a1_9 a2 a3 (hp_gLa gL (List.mem_of_getElem? (i := 0) rfl) (by decide)) (hp_gLi (z := (0 + (1 * m + 0))) gL (List.mem_of_getElem? (i := 1) rfl) rfl (by omega)) (hp_gLi (z := (0 + (1 * cc + 0))) gL (List.mem_of_getElem? (i := 2) rfl) rfl (by omega)) (hp_gLi (z := (0 + (1 * w + 0))) gL (List.mem_of_getElem? (i := 3) rfl) rfl (by omega)) (hp_gLi (z := (0 + (1 * f + 0))) gL (List.mem_of_getElem? (i := 4) rfl) rfl (by omega)) (hp_gLi (z := (0 + (1 * i + 0))) gL (List.mem_of_getElem? (i := 5) rfl) rfl (by omega))
    cases hp
  · intro p_9 hp ys v_9 h' hys a1_9 a2 a3 gZ gS
    cases hp
theorem bko8_k : hp_chk 343 84 5 [(0, 0, 99), (1, 0, 1199), (2, 0, 1199), (3, 0, 28), (4, 0, 8)] [] [(0, .inr (.inr (.inl (some 94)))), (1, .inl (0, [(0, 1)])), (2, .inl (0, [(1, 1)])), (3, .inl (0, [(2, 1)])), (4, .inl (0, [(3, 1)])), (5, .inl (0, [(4, 1)]))] [] [(24576, (0, [(2, 1)]), (0, [(4, 1)]))] [] 2 [(174, ([], 5, [(0, 0, 99), (1, 0, 1199), (2, 0, 1199), (3, 0, 28), (4, 0, 8)], [], [(0, .inr (.inr (.inl (some 94)))), (1, .inl (0, [(0, 1)])), (2, .inl (0, [(1, 1)]))], [.inl (0, [(0, 2)]), .inl (0, [(1, 1)]), .inr (.inr (.inl (some 94))), .inl (0, [(1, 1)]), .inr (.inr (.inl (some 94)))], []))] [] = true := by decide +kernel
theorem bko8 {cst : am_K} {strs : List Nat} {Φ : am_Q → Prop} {D : Nat} {M : am_M} {h : am_H} {l : am_L} (c : hp_C cst strs D) (hM : m_P[343]? = some M) (hD : (2 : Int) ≤ (D : Int) + 1) (hy : ly_hy m_tt ly_TH h) (m cc w f n : Int) (b0 : 0 ≤ m) (t0 : m ≤ 99) (b1 : 0 ≤ cc) (t1 : cc ≤ 1199) (b2 : 0 ≤ w) (t2 : w ≤ 1199) (b3 : 0 ≤ f) (t3 : f ≤ 28) (b4 : 0 ≤ n) (t4 : n ≤ 8) (k0 : ly_hv cst h 24576 (w) = some (n)) (l0 : hp_a l 0 94) (l1 : hp_i l 1 (m)) (l2 : hp_i l 2 (cc)) (l3 : hp_i l 3 (w)) (l4 : hp_i l 4 (f)) (l5 : hp_i l 5 (n)) (e0 : ∀ (l' : am_L) (h' : am_H) (y0 : Int32) (y1 : Int32) (y3 : Int32), y0.toInt = (2 * m) → y1.toInt = (cc) → y3.toInt = (cc) → ly_hy m_tt ly_TH h' → ly_fr cst [] h h' → h.length ≤ h'.length → hp_a l' 0 94 → hp_i l' 1 (m) → hp_i l' 2 (cc) → hp_F cst strs Φ D M 174 l' [.int y0, .int y1, .ref 94, .int y3, .ref 94] h') : hp_F cst strs Φ D M 84 l [] h := by
  refine hp_arc c hM bko8_k hD [m, cc, w, f, n] rfl hy (hp_Bc (z := m) rfl b0 t0 (hp_Bc (z := cc) rfl b1 t1 (hp_Bc (z := w) rfl b2 t2 (hp_Bc (z := f) rfl b3 t3 (hp_Bc (z := n) rfl b4 t4 hp_Bn))))) hp_Fn (hp_Kc (zi := (0 + (1 * w + 0))) (zv := (0 + (1 * n + 0))) k0 rfl rfl (by omega) (by omega) hp_Kn) (hp_La l0 (hp_Li (z := (0 + (1 * m + 0))) l1 rfl (by omega) (hp_Li (z := (0 + (1 * cc + 0))) l2 rfl (by omega) (hp_Li (z := (0 + (1 * w + 0))) l3 rfl (by omega) (hp_Li (z := (0 + (1 * f + 0))) l4 rfl (by omega) (hp_Li (z := (0 + (1 * n + 0))) l5 rfl (by omega) hp_Ln)))))) trivial ?_ ?_
  · intro p_9 hp ys l' st' h' hys a1_9 a2 a3 gZ gL gS
    rcases List.mem_cons.mp hp with rfl | hp
    · obtain rfl := hp_y0 hys
      obtain ⟨y0, t0, rfl, q0, g0⟩ := hp_gSi (z := (0 + (2 * m + 0))) gS rfl
      obtain ⟨y1, t1, rfl, q1_9, g1⟩ := hp_gSi (z := (0 + (1 * cc + 0))) g0 rfl
      obtain ⟨t2, rfl, g2⟩ := hp_gSa g1 (by decide)
      obtain ⟨y3, t3, rfl, q3_9, g3_9⟩ := hp_gSi (z := (0 + (1 * cc + 0))) g2 rfl
      obtain ⟨t4, rfl, g4⟩ := hp_gSa g3_9 (by decide)
      cases hp_gSn g4
      exact e0 l' h' y0 y1 y3 (by omega) (by omega) (by omega) a1_9 a2 a3 (hp_gLa gL (List.mem_of_getElem? (i := 0) rfl) (by decide)) (hp_gLi (z := (0 + (1 * m + 0))) gL (List.mem_of_getElem? (i := 1) rfl) rfl (by omega)) (hp_gLi (z := (0 + (1 * cc + 0))) gL (List.mem_of_getElem? (i := 2) rfl) rfl (by omega))
    cases hp
  · intro p_9 hp ys v_9 h' hys a1_9 a2 a3 gZ gS
    cases hp
theorem bko9_k : hq_chk [344] 343 100 10 [(0, 0, 99), (1, 0, 1199), (2, 0, 1199), (3, 0, 27), (4, 0, 7), (5, 0, 28), (6, 0, 29), (7, 0, 330), (8, (-9223372036854775808), 9223372036854775807), (9, (-9223372036854775808), 9223372036854775807)] [((-1), [(3, (-1)), (5, 1)]), (329, [(4, (-1)), (7, (-1))])] [(0, .inr (.inr (.inl (some 94)))), (1, .inl (0, [(0, 1)])), (2, .inl (0, [(1, 1)])), (3, .inl (0, [(2, 1)])), (4, .inl (0, [(3, 1)])), (5, .inl (0, [(4, 1)]))] [] [(33280, (0, [(0, 1)]), (0, [(5, 1)])), (33024, (0, [(0, 30), (3, 1)]), (0, [(8, 1)])), (24320, (0, [(2, 1)]), (0, [(7, 1)])), (62040, (0, [(2, 1)]), (0, [(6, 1)])), (27136, (0, [(4, 1), (6, 330), (7, 1)]), (0, [(9, 1)])), (61000, (0, [(8, 1), (9, (-1))]), (1, []))] [] 3 [(100, ([], 10, [(0, 0, 99), (1, 0, 1199), (2, 0, 1199), (3, 0, 27), (4, 0, 7), (5, 0, 28), (6, 0, 29), (7, 0, 330), (8, (-9223372036854775808), 9223372036854775807), (9, (-9223372036854775808), 9223372036854775807)], [], [(0, .inr (.inr (.inl (some 94)))), (1, .inl (0, [(0, 1)])), (2, .inl (0, [(1, 1)])), (3, .inl (0, [(2, 1)])), (4, .inl (1, [(3, 1)])), (5, .inl (0, [(4, 1)]))], [], []))] [] = true := by decide +kernel
theorem bko9 {cst : am_K} {strs : List Nat} {Φ : am_Q → Prop} {D : Nat} {M : am_M} {h : am_H} {l : am_L} (c : hp_C cst strs D) (hM : m_P[343]? = some M) (hD : (3 : Int) ≤ (D : Int) + 1) (hy : ly_hy m_tt ly_TH h) (m cc w f i z a t x v : Int) (b0 : 0 ≤ m) (t0 : m ≤ 99) (b1 : 0 ≤ cc) (t1 : cc ≤ 1199) (b2 : 0 ≤ w) (t2 : w ≤ 1199) (b3 : 0 ≤ f) (t3 : f ≤ 27) (b4 : 0 ≤ i) (t4 : i ≤ 7) (b5 : 0 ≤ z) (t5 : z ≤ 28) (b6 : 0 ≤ a) (t6 : a ≤ 29) (b7 : 0 ≤ t) (t7 : t ≤ 330) (b8 : (-9223372036854775808) ≤ x) (t8 : x ≤ 9223372036854775807) (b9 : (-9223372036854775808) ≤ v) (t9 : v ≤ 9223372036854775807) (f0 : 0 ≤ (z - f - 1)) (f1 : 0 ≤ (-t - i + 329)) (k0 : ly_hv cst h 33280 (m) = some (z)) (k1 : ly_hv cst h 33024 (30 * m + f) = some (x)) (k2 : ly_hv cst h 24320 (w) = some (t)) (k3 : ly_hv cst h 62040 (w) = some (a)) (k4 : ly_hv cst h 27136 (330 * a + t + i) = some (v)) (k5 : ly_hv cst h 61000 (x - v) = some 1) (l0 : hp_a l 0 94) (l1 : hp_i l 1 (m)) (l2 : hp_i l 2 (cc)) (l3 : hp_i l 3 (w)) (l4 : hp_i l 4 (f)) (l5 : hp_i l 5 (i)) (e0 : ∀ (l' : am_L) (h' : am_H), ly_hy m_tt ly_TH h' → ly_fr cst [] h h' → h.length ≤ h'.length → hp_a l' 0 94 → hp_i l' 1 (m) → hp_i l' 2 (cc) → hp_i l' 3 (w) → hp_i l' 4 (f + 1) → hp_i l' 5 (i) → hp_F cst strs Φ D M 100 l' [] h') : hp_F cst strs Φ D M 100 l [] h := by
  refine hq_arc c hM bko9_k hD [m, cc, w, f, i, z, a, t, x, v] rfl hy (hp_Bc (z := m) rfl b0 t0 (hp_Bc (z := cc) rfl b1 t1 (hp_Bc (z := w) rfl b2 t2 (hp_Bc (z := f) rfl b3 t3 (hp_Bc (z := i) rfl b4 t4 (hp_Bc (z := z) rfl b5 t5 (hp_Bc (z := a) rfl b6 t6 (hp_Bc (z := t) rfl b7 t7 (hp_Bc (z := x) rfl b8 t8 (hp_Bc (z := v) rfl b9 t9 hp_Bn)))))))))) (hp_Fc (z := ((-1) + ((-1) * f + (1 * z + 0)))) rfl (by omega) (hp_Fc (z := (329 + ((-1) * i + ((-1) * t + 0)))) rfl (by omega) hp_Fn)) (hp_Kc (zi := (0 + (1 * m + 0))) (zv := (0 + (1 * z + 0))) k0 rfl rfl (by omega) (by omega) (hp_Kc (zi := (0 + (30 * m + (1 * f + 0)))) (zv := (0 + (1 * x + 0))) k1 rfl rfl (by omega) (by omega) (hp_Kc (zi := (0 + (1 * w + 0))) (zv := (0 + (1 * t + 0))) k2 rfl rfl (by omega) (by omega) (hp_Kc (zi := (0 + (1 * w + 0))) (zv := (0 + (1 * a + 0))) k3 rfl rfl (by omega) (by omega) (hp_Kc (zi := (0 + (1 * i + (330 * a + (1 * t + 0))))) (zv := (0 + (1 * v + 0))) k4 rfl rfl (by omega) (by omega) (hp_Kc (zi := (0 + (1 * x + ((-1) * v + 0)))) (zv := (1 + 0)) k5 rfl rfl (by omega) (by omega) hp_Kn)))))) (hp_La l0 (hp_Li (z := (0 + (1 * m + 0))) l1 rfl (by omega) (hp_Li (z := (0 + (1 * cc + 0))) l2 rfl (by omega) (hp_Li (z := (0 + (1 * w + 0))) l3 rfl (by omega) (hp_Li (z := (0 + (1 * f + 0))) l4 rfl (by omega) (hp_Li (z := (0 + (1 * i + 0))) l5 rfl (by omega) hp_Ln)))))) trivial ?_ ?_
  · intro p_9 hp ys l' st' h' hys a1_9 a2 a3 gZ gL gS
    rcases List.mem_cons.mp hp with rfl | hp
    · obtain rfl := hp_y0 hys
      cases hp_gSn gS
      exact e0 l' h' a1_9 a2 a3 (hp_gLa gL (List.mem_of_getElem? (i := 0) rfl) (by decide)) (hp_gLi (z := (0 + (1 * m + 0))) gL (List.mem_of_getElem? (i := 1) rfl) rfl (by omega)) (hp_gLi (z := (0 + (1 * cc + 0))) gL (List.mem_of_getElem? (i := 2) rfl) rfl (by omega)) (hp_gLi (z := (0 + (1 * w + 0))) gL (List.mem_of_getElem? (i := 3) rfl) rfl (by omega)) (hp_gLi (z := (1 + (1 * f + 0))) gL (List.mem_of_getElem? (i := 4) rfl) rfl (by omega)) (hp_gLi (z := (0 + (1 * i + 0))) gL (List.mem_of_getElem? (i := 5) rfl) rfl (by omega))
    cases hp
  · intro p_9 hp ys v h' hys a1_9 a2 a3 gZ gS
    cases hp
theorem bkoA_k : hq_chk [344] 343 100 9 [(0, 0, 99), (1, 0, 1199), (2, 0, 1199), (3, 0, 27), (4, 0, 7), (5, 0, 28), (6, 0, 29), (7, 0, 330), (8, (-9223372036854775808), 9223372036854775807)] [((-1), [(3, (-1)), (5, 1)]), (329, [(4, (-1)), (7, (-1))])] [(0, .inr (.inr (.inl (some 94)))), (1, .inl (0, [(0, 1)])), (2, .inl (0, [(1, 1)])), (3, .inl (0, [(2, 1)])), (4, .inl (0, [(3, 1)])), (5, .inl (0, [(4, 1)]))] [] [(33280, (0, [(0, 1)]), (0, [(5, 1)])), (33024, (0, [(0, 30), (3, 1)]), (0, [(8, 1)])), (24320, (0, [(2, 1)]), (0, [(7, 1)])), (62040, (0, [(2, 1)]), (0, [(6, 1)])), (27136, (0, [(4, 1), (6, 330), (7, 1)]), (0, [(8, 1)]))] [] 3 [(84, ([], 9, [(0, 0, 99), (1, 0, 1199), (2, 0, 1199), (3, 0, 27), (4, 0, 7), (5, 0, 28), (6, 0, 29), (7, 0, 330), (8, (-9223372036854775808), 9223372036854775807)], [], [(0, .inr (.inr (.inl (some 94)))), (1, .inl (0, [(0, 1)])), (2, .inl (0, [(1, 1)])), (3, .inl (0, [(2, 1)])), (4, .inl (1, [(3, 1)])), (5, .inl (1, [(4, 1)]))], [], []))] [] = true := by decide +kernel
theorem bkoA {cst : am_K} {strs : List Nat} {Φ : am_Q → Prop} {D : Nat} {M : am_M} {h : am_H} {l : am_L} (c : hp_C cst strs D) (hM : m_P[343]? = some M) (hD : (3 : Int) ≤ (D : Int) + 1) (hy : ly_hy m_tt ly_TH h) (m cc w f i z a t x : Int) (b0 : 0 ≤ m) (t0 : m ≤ 99) (b1 : 0 ≤ cc) (t1 : cc ≤ 1199) (b2 : 0 ≤ w) (t2 : w ≤ 1199) (b3 : 0 ≤ f) (t3 : f ≤ 27) (b4 : 0 ≤ i) (t4 : i ≤ 7) (b5 : 0 ≤ z) (t5 : z ≤ 28) (b6 : 0 ≤ a) (t6 : a ≤ 29) (b7 : 0 ≤ t) (t7 : t ≤ 330) (b8 : (-9223372036854775808) ≤ x) (t8 : x ≤ 9223372036854775807) (f0 : 0 ≤ (z - f - 1)) (f1 : 0 ≤ (-t - i + 329)) (k0 : ly_hv cst h 33280 (m) = some (z)) (k1 : ly_hv cst h 33024 (30 * m + f) = some (x)) (k2 : ly_hv cst h 24320 (w) = some (t)) (k3 : ly_hv cst h 62040 (w) = some (a)) (k4 : ly_hv cst h 27136 (330 * a + t + i) = some (x)) (l0 : hp_a l 0 94) (l1 : hp_i l 1 (m)) (l2 : hp_i l 2 (cc)) (l3 : hp_i l 3 (w)) (l4 : hp_i l 4 (f)) (l5 : hp_i l 5 (i)) (e0 : ∀ (l' : am_L) (h' : am_H), ly_hy m_tt ly_TH h' → ly_fr cst [] h h' → h.length ≤ h'.length → hp_a l' 0 94 → hp_i l' 1 (m) → hp_i l' 2 (cc) → hp_i l' 3 (w) → hp_i l' 4 (f + 1) → hp_i l' 5 (i + 1) → hp_F cst strs Φ D M 84 l' [] h') : hp_F cst strs Φ D M 100 l [] h := by
  refine hq_arc c hM bkoA_k hD [m, cc, w, f, i, z, a, t, x] rfl hy (hp_Bc (z := m) rfl b0 t0 (hp_Bc (z := cc) rfl b1 t1 (hp_Bc (z := w) rfl b2 t2 (hp_Bc (z := f) rfl b3 t3 (hp_Bc (z := i) rfl b4 t4 (hp_Bc (z := z) rfl b5 t5 (hp_Bc (z := a) rfl b6 t6 (hp_Bc (z := t) rfl b7 t7 (hp_Bc (z := x) rfl b8 t8 hp_Bn))))))))) (hp_Fc (z := ((-1) + ((-1) * f + (1 * z + 0)))) rfl (by omega) (hp_Fc (z := (329 + ((-1) * i + ((-1) * t + 0)))) rfl (by omega) hp_Fn)) (hp_Kc (zi := (0 + (1 * m + 0))) (zv := (0 + (1 * z + 0))) k0 rfl rfl (by omega) (by omega) (hp_Kc (zi := (0 + (30 * m + (1 * f + 0)))) (zv := (0 + (1 * x + 0))) k1 rfl rfl (by omega) (by omega) (hp_Kc (zi := (0 + (1 * w + 0))) (zv := (0 + (1 * t + 0))) k2 rfl rfl (by omega) (by omega) (hp_Kc (zi := (0 + (1 * w + 0))) (zv := (0 + (1 * a + 0))) k3 rfl rfl (by omega) (by omega) (hp_Kc (zi := (0 + (1 * i + (330 * a + (1 * t + 0))))) (zv := (0 + (1 * x + 0))) k4 rfl rfl (by omega) (by omega) hp_Kn))))) (hp_La l0 (hp_Li (z := (0 + (1 * m + 0))) l1 rfl (by omega) (hp_Li (z := (0 + (1 * cc + 0))) l2 rfl (by omega) (hp_Li (z := (0 + (1 * w + 0))) l3 rfl (by omega) (hp_Li (z := (0 + (1 * f + 0))) l4 rfl (by omega) (hp_Li (z := (0 + (1 * i + 0))) l5 rfl (by omega) hp_Ln)))))) trivial ?_ ?_
  · intro p_9 hp ys l' st' h' hys a1_9 a2 a3 gZ gL gS
    rcases List.mem_cons.mp hp with rfl | hp
    · obtain rfl := hp_y0 hys
      cases hp_gSn gS
      exact e0 l' h' a1_9 a2 a3 (hp_gLa gL (List.mem_of_getElem? (i := 0) rfl) (by decide)) (hp_gLi (z := (0 + (1 * m + 0))) gL (List.mem_of_getElem? (i := 1) rfl) rfl (by omega)) (hp_gLi (z := (0 + (1 * cc + 0))) gL (List.mem_of_getElem? (i := 2) rfl) rfl (by omega)) (hp_gLi (z := (0 + (1 * w + 0))) gL (List.mem_of_getElem? (i := 3) rfl) rfl (by omega)) (hp_gLi (z := (1 + (1 * f + 0))) gL (List.mem_of_getElem? (i := 4) rfl) rfl (by omega)) (hp_gLi (z := (1 + (1 * i + 0))) gL (List.mem_of_getElem? (i := 5) rfl) rfl (by omega))
    cases hp
  · intro p_9 hp ys v_9 h' hys a1_9 a2 a3 gZ gS
    cases hp
theorem bkoB_k : hp_chk 343 100 5 [(0, 0, 99), (1, 0, 1199), (2, 0, 1199), (3, 0, 7), (4, 0, 28)] [] [(0, .inr (.inr (.inl (some 94)))), (1, .inl (0, [(0, 1)])), (2, .inl (0, [(1, 1)])), (3, .inl (0, [(2, 1)])), (4, .inl (0, [(4, 1)])), (5, .inl (0, [(3, 1)]))] [] [(33280, (0, [(0, 1)]), (0, [(4, 1)]))] [] 2 [] [([], 5, [(0, 0, 99), (1, 0, 1199), (2, 0, 1199), (3, 0, 7), (4, 0, 28)], [], [], [.inl (300, [(3, 1)])], [])] = true := by decide +kernel
theorem bkoB {cst : am_K} {strs : List Nat} {Φ : am_Q → Prop} {D : Nat} {M : am_M} {h : am_H} {l : am_L} (c : hp_C cst strs D) (hM : m_P[343]? = some M) (hD : (2 : Int) ≤ (D : Int) + 1) (hy : ly_hy m_tt ly_TH h) (m cc w i z : Int) (b0 : 0 ≤ m) (t0 : m ≤ 99) (b1 : 0 ≤ cc) (t1 : cc ≤ 1199) (b2 : 0 ≤ w) (t2 : w ≤ 1199) (b3 : 0 ≤ i) (t3 : i ≤ 7) (b4 : 0 ≤ z) (t4 : z ≤ 28) (k0 : ly_hv cst h 33280 (m) = some (z)) (l0 : hp_a l 0 94) (l1 : hp_i l 1 (m)) (l2 : hp_i l 2 (cc)) (l3 : hp_i l 3 (w)) (l4 : hp_i l 4 (z)) (l5 : hp_i l 5 (i)) (r0 : ∀ (h' : am_H) (y0 : Int32), y0.toInt = (i + 300) → ly_hy m_tt ly_TH h' → ly_fr cst [] h h' → h.length ≤ h'.length → Φ (some (.int y0), h', 0, 0)) : hp_F cst strs Φ D M 100 l [] h := by
  refine hp_arc c hM bkoB_k hD [m, cc, w, i, z] rfl hy (hp_Bc (z := m) rfl b0 t0 (hp_Bc (z := cc) rfl b1 t1 (hp_Bc (z := w) rfl b2 t2 (hp_Bc (z := i) rfl b3 t3 (hp_Bc (z := z) rfl b4 t4 hp_Bn))))) hp_Fn (hp_Kc (zi := (0 + (1 * m + 0))) (zv := (0 + (1 * z + 0))) k0 rfl rfl (by omega) (by omega) hp_Kn) (hp_La l0 (hp_Li (z := (0 + (1 * m + 0))) l1 rfl (by omega) (hp_Li (z := (0 + (1 * cc + 0))) l2 rfl (by omega) (hp_Li (z := (0 + (1 * w + 0))) l3 rfl (by omega) (hp_Li (z := (0 + (1 * z + 0))) l4 rfl (by omega) (hp_Li (z := (0 + (1 * i + 0))) l5 rfl (by omega) hp_Ln)))))) trivial ?_ ?_
  · intro p_9 hp ys l' st' h' hys a1_9 a2 a3 gZ gL gS
    cases hp
  · intro p_9 hp ys v_9 h' hys a1_9 a2 a3 gZ gS
    rcases List.mem_cons.mp hp with rfl | hp
    · obtain rfl := hp_y0 hys
      cases v_9 with
      | none => cases gS
      | some wz =>
        obtain ⟨y0, t0, s0_9, q0, -⟩ := hp_gSi (z := (300 + (1 * i + 0))) gS rfl
        cases s0_9
        exact r0 h' y0 (by omega) a1_9 a2 a3
    cases hp
theorem bkoD_k : hp_chk 343 180 1 [(0, 0, 99)] [] [(0, .inr (.inr (.inl (some 94)))), (1, .inl (0, [(0, 1)]))] [.inl ((-1), [])] [] [] 2 [] [([], 1, [(0, 0, 99)], [], [], [.inl (0, [])], [])] = true := by decide +kernel
theorem bkoD {cst : am_K} {strs : List Nat} {Φ : am_Q → Prop} {D : Nat} {M : am_M} {h : am_H} {l : am_L} (c : hp_C cst strs D) (hM : m_P[343]? = some M) (hD : (2 : Int) ≤ (D : Int) + 1) (hy : ly_hy m_tt ly_TH h) (m : Int) (x0 : Int32) (hx0 : x0.toInt = (-1)) (b0 : 0 ≤ m) (t0 : m ≤ 99) (l0 : hp_a l 0 94) (l1 : hp_i l 1 (m)) (r0 : ∀ (h' : am_H) (y0 : Int32), y0.toInt = 0 → ly_hy m_tt ly_TH h' → ly_fr cst [] h h' → h.length ≤ h'.length → Φ (some (.int y0), h', 0, 0)) : hp_F cst strs Φ D M 180 l [.int x0] h := by
  refine hp_arc c hM bkoD_k hD [m] rfl hy (hp_Bc (z := m) rfl b0 t0 hp_Bn) hp_Fn hp_Kn (hp_La l0 (hp_Li (z := (0 + (1 * m + 0))) l1 rfl (by omega) hp_Ln)) (hp_Si (z := ((-1) + 0)) rfl (by omega) trivial) ?_ ?_
  · intro p_9 hp ys l' st' h' hys a1_9 a2 a3 gZ gL gS
    cases hp
  · intro p_9 hp ys v_9 h' hys a1_9 a2 a3 gZ gS
    rcases List.mem_cons.mp hp with rfl | hp
    · obtain rfl := hp_y0 hys
      cases v_9 with
      | none => cases gS
      | some wz =>
        obtain ⟨y0, t0, s0_9, q0, -⟩ := hp_gSi (z := (0 + 0)) gS rfl
        cases s0_9
        exact r0 h' y0 (by omega) a1_9 a2 a3
    cases hp
theorem bkoE_k : hp_chk 343 180 2 [(0, 0, 99), (1, 0, 99)] [] [(0, .inr (.inr (.inl (some 94)))), (1, .inl (0, [(0, 1)]))] [.inl (0, [(1, 1)])] [] [] 2 [] [([], 2, [(0, 0, 99), (1, 0, 99)], [], [], [.inl (400, [(1, 1)])], [])] = true := by decide +kernel
theorem bkoE {cst : am_K} {strs : List Nat} {Φ : am_Q → Prop} {D : Nat} {M : am_M} {h : am_H} {l : am_L} (c : hp_C cst strs D) (hM : m_P[343]? = some M) (hD : (2 : Int) ≤ (D : Int) + 1) (hy : ly_hy m_tt ly_TH h) (m k : Int) (x0 : Int32) (hx0 : x0.toInt = (k)) (b0 : 0 ≤ m) (t0 : m ≤ 99) (b1 : 0 ≤ k) (t1 : k ≤ 99) (l0 : hp_a l 0 94) (l1 : hp_i l 1 (m)) (r0 : ∀ (h' : am_H) (y0 : Int32), y0.toInt = (k + 400) → ly_hy m_tt ly_TH h' → ly_fr cst [] h h' → h.length ≤ h'.length → Φ (some (.int y0), h', 0, 0)) : hp_F cst strs Φ D M 180 l [.int x0] h := by
  refine hp_arc c hM bkoE_k hD [m, k] rfl hy (hp_Bc (z := m) rfl b0 t0 (hp_Bc (z := k) rfl b1 t1 hp_Bn)) hp_Fn hp_Kn (hp_La l0 (hp_Li (z := (0 + (1 * m + 0))) l1 rfl (by omega) hp_Ln)) (hp_Si (z := (0 + (1 * k + 0))) rfl (by omega) trivial) ?_ ?_
  · intro p_9 hp ys l' st' h' hys a1_9 a2 a3 gZ gL gS
    cases hp
  · intro p_9 hp ys v_9 h' hys a1_9 a2 a3 gZ gS
    rcases List.mem_cons.mp hp with rfl | hp
    · obtain rfl := hp_y0 hys
      cases v_9 with
      | none => cases gS
      | some wz =>
        obtain ⟨y0, t0, s0_9, q0, -⟩ := hp_gSi (z := (400 + (1 * k + 0))) gS rfl
        cases s0_9
        exact r0 h' y0 (by omega) a1_9 a2 a3
    cases hp
theorem if0_k : hp_chk 144 0 1 [(0, 0, 99)] [] [(0, .inr (.inr (.inl (some 44)))), (1, .inr (.inr (.inr (0, (0, [(0, 1)])))))] [] [(45571, (0, [(0, 1)]), (0, []))] [] 2 [] [([], 1, [(0, 0, 99)], [], [], [.inl (100, [])], [])] = true := by decide +kernel
theorem if0 {cst : am_K} {strs : List Nat} {Φ : am_Q → Prop} {D : Nat} {M : am_M} {h : am_H} {l : am_L} (c : hp_C cst strs D) (hM : m_P[144]? = some M) (hD : (2 : Int) ≤ (D : Int) + 1) (hy : ly_hy m_tt ly_TH h) (m : Int) (b0 : 0 ≤ m) (t0 : m ≤ 99) (k0 : ly_hv cst h 45571 (m) = some 0) (l0 : hp_a l 0 44) (l1 : hp_ml l 1 h.length (m)) (r0 : ∀ (h' : am_H) (y0 : Int32), y0.toInt = 100 → ly_hy m_tt ly_TH h' → ly_fr cst [] h h' → h.length ≤ h'.length → Φ (some (.int y0), h', 0, 0)) : hp_F cst strs Φ D M 0 l [] h := by
  refine hp_arc c hM if0_k hD [m] rfl hy (hp_Bc (z := m) rfl b0 t0 hp_Bn) hp_Fn (hp_Kc (zi := (0 + (1 * m + 0))) (zv := (0 + 0)) k0 rfl rfl (by omega) (by omega) hp_Kn) (hp_La l0 (hp_Lm (z := (0 + (1 * m + 0))) l1 rfl (by omega) hp_Ln)) trivial ?_ ?_
  · intro p_9 hp ys l' st' h' hys a1_9 a2 a3 gZ gL gS
    cases hp
  · intro p_9 hp ys v_9 h' hys a1_9 a2 a3 gZ gS
    rcases List.mem_cons.mp hp with rfl | hp
    · obtain rfl := hp_y0 hys
      cases v_9 with
      | none => cases gS
      | some wz =>
        obtain ⟨y0, t0, s0_9, q0, -⟩ := hp_gSi (z := (100 + 0)) gS rfl
        cases s0_9
        exact r0 h' y0 (by omega) a1_9 a2 a3
    cases hp
theorem if1_k : hp_chk 144 0 1 [(0, 0, 99)] [] [(0, .inr (.inr (.inl (some 44)))), (1, .inr (.inr (.inr (0, (0, [(0, 1)])))))] [] [(45571, (0, [(0, 1)]), (1, [])), (46339, (0, [(0, 1)]), (0, []))] [] 2 [] [([], 1, [(0, 0, 99)], [], [], [.inl (100, [])], [])] = true := by decide +kernel
theorem if1 {cst : am_K} {strs : List Nat} {Φ : am_Q → Prop} {D : Nat} {M : am_M} {h : am_H} {l : am_L} (c : hp_C cst strs D) (hM : m_P[144]? = some M) (hD : (2 : Int) ≤ (D : Int) + 1) (hy : ly_hy m_tt ly_TH h) (m : Int) (b0 : 0 ≤ m) (t0 : m ≤ 99) (k0 : ly_hv cst h 45571 (m) = some 1) (k1 : ly_hv cst h 46339 (m) = some 0) (l0 : hp_a l 0 44) (l1 : hp_ml l 1 h.length (m)) (r0 : ∀ (h' : am_H) (y0 : Int32), y0.toInt = 100 → ly_hy m_tt ly_TH h' → ly_fr cst [] h h' → h.length ≤ h'.length → Φ (some (.int y0), h', 0, 0)) : hp_F cst strs Φ D M 0 l [] h := by
  refine hp_arc c hM if1_k hD [m] rfl hy (hp_Bc (z := m) rfl b0 t0 hp_Bn) hp_Fn (hp_Kc (zi := (0 + (1 * m + 0))) (zv := (1 + 0)) k0 rfl rfl (by omega) (by omega) (hp_Kc (zi := (0 + (1 * m + 0))) (zv := (0 + 0)) k1 rfl rfl (by omega) (by omega) hp_Kn)) (hp_La l0 (hp_Lm (z := (0 + (1 * m + 0))) l1 rfl (by omega) hp_Ln)) trivial ?_ ?_
  · intro p_9 hp ys l' st' h' hys a1_9 a2 a3 gZ gL gS
    cases hp
  · intro p_9 hp ys v_9 h' hys a1_9 a2 a3 gZ gS
    rcases List.mem_cons.mp hp with rfl | hp
    · obtain rfl := hp_y0 hys
      cases v_9 with
      | none => cases gS
      | some wz =>
        obtain ⟨y0, t0, s0_9, q0, -⟩ := hp_gSi (z := (100 + 0)) gS rfl
        cases s0_9
        exact r0 h' y0 (by omega) a1_9 a2 a3
    cases hp
theorem if2_k : hp_chk 144 0 4 [(0, 0, 99), (1, (-9223372036854775808), 9223372036854775807), (2, (-2147483648), 2147483647), (3, (-2147483648), 2147483647)] [] [(0, .inr (.inr (.inl (some 44)))), (1, .inr (.inr (.inr (0, (0, [(0, 1)])))))] [] [(45571, (0, [(0, 1)]), (1, [])), (46339, (0, [(0, 1)]), (1, [])), (45312, (0, [(0, 1)]), (0, [(1, 1)])), (45317, (0, [(0, 1)]), (0, [(2, 1)])), (45315, (0, [(0, 1)]), (0, [(3, 1)]))] [] 2 [(40, ([], 4, [(0, 0, 99), (1, (-9223372036854775808), 9223372036854775807), (2, (-2147483648), 2147483647), (3, (-2147483648), 2147483647)], [], [(0, .inr (.inr (.inl (some 44)))), (1, .inr (.inr (.inr (0, (0, [(0, 1)])))))], [.inl (0, [(3, 1)]), .inl (0, [(2, 1)]), .inr (.inl (0, [(1, 1)])), .inl (0, []), .inr (.inr (.inl (some 30)))], []))] [] = true := by decide +kernel
theorem if2 {cst : am_K} {strs : List Nat} {Φ : am_Q → Prop} {D : Nat} {M : am_M} {h : am_H} {l : am_L} (c : hp_C cst strs D) (hM : m_P[144]? = some M) (hD : (2 : Int) ≤ (D : Int) + 1) (hy : ly_hy m_tt ly_TH h) (m d y s : Int) (b0 : 0 ≤ m) (t0 : m ≤ 99) (b1 : (-9223372036854775808) ≤ d) (t1 : d ≤ 9223372036854775807) (b2 : (-2147483648) ≤ y) (t2 : y ≤ 2147483647) (b3 : (-2147483648) ≤ s) (t3 : s ≤ 2147483647) (k0 : ly_hv cst h 45571 (m) = some 1) (k1 : ly_hv cst h 46339 (m) = some 1) (k2 : ly_hv cst h 45312 (m) = some (d)) (k3 : ly_hv cst h 45317 (m) = some (y)) (k4 : ly_hv cst h 45315 (m) = some (s)) (l0 : hp_a l 0 44) (l1 : hp_ml l 1 h.length (m)) (e0 : ∀ (l' : am_L) (h' : am_H) (y0 : Int32) (y1 : Int32) (y2 : Int64) (y3 : Int32), y0.toInt = (s) → y1.toInt = (y) → y2.toInt = (d) → y3.toInt = 0 → ly_hy m_tt ly_TH h' → ly_fr cst [] h h' → h.length ≤ h'.length → hp_a l' 0 44 → hp_ml l' 1 h'.length (m) → hp_F cst strs Φ D M 40 l' [.int y0, .int y1, .long y2, .int y3, .ref 30] h') : hp_F cst strs Φ D M 0 l [] h := by
  refine hp_arc c hM if2_k hD [m, d, y, s] rfl hy (hp_Bc (z := m) rfl b0 t0 (hp_Bc (z := d) rfl b1 t1 (hp_Bc (z := y) rfl b2 t2 (hp_Bc (z := s) rfl b3 t3 hp_Bn)))) hp_Fn (hp_Kc (zi := (0 + (1 * m + 0))) (zv := (1 + 0)) k0 rfl rfl (by omega) (by omega) (hp_Kc (zi := (0 + (1 * m + 0))) (zv := (1 + 0)) k1 rfl rfl (by omega) (by omega) (hp_Kc (zi := (0 + (1 * m + 0))) (zv := (0 + (1 * d + 0))) k2 rfl rfl (by omega) (by omega) (hp_Kc (zi := (0 + (1 * m + 0))) (zv := (0 + (1 * y + 0))) k3 rfl rfl (by omega) (by omega) (hp_Kc (zi := (0 + (1 * m + 0))) (zv := (0 + (1 * s + 0))) k4 rfl rfl (by omega) (by omega) hp_Kn))))) (hp_La l0 (hp_Lm (z := (0 + (1 * m + 0))) l1 rfl (by omega) hp_Ln)) trivial ?_ ?_
  · intro p_9 hp ys l' st' h' hys a1_9 a2 a3 gZ gL gS
    rcases List.mem_cons.mp hp with rfl | hp
    · obtain rfl := hp_y0 hys
      obtain ⟨y0, t0, rfl, q0, g0⟩ := hp_gSi (z := (0 + (1 * s + 0))) gS rfl
      obtain ⟨y1, t1, rfl, q1_9, g1⟩ := hp_gSi (z := (0 + (1 * y + 0))) g0 rfl
      obtain ⟨y2, t2, rfl, q2_9, g2⟩ := hp_gSj (z := (0 + (1 * d + 0))) g1 rfl
      obtain ⟨y3, t3, rfl, q3_9, g3_9⟩ := hp_gSi (z := (0 + 0)) g2 rfl
      obtain ⟨t4_9, rfl, g4⟩ := hp_gSa g3_9 (by decide)
      cases hp_gSn g4
      exact e0 l' h' y0 y1 y2 y3 (by omega) (by omega) (by omega) (by omega) a1_9 a2 a3 (hp_gLa gL (List.mem_of_getElem? (i := 0) rfl) (by decide)) (hp_gLm (z := (0 + (1 * m + 0))) gL (List.mem_of_getElem? (i := 1) rfl) rfl (by omega))
    cases hp
  · intro p_9 hp ys v_9 h' hys a1_9 a2 a3 gZ gS
    cases hp
theorem if3_k : hp_chk 144 43 1 [(0, 0, 99)] [] [(0, .inr (.inr (.inl (some 44)))), (1, .inr (.inr (.inr (0, (0, [(0, 1)])))))] [.inl ((-1), [])] [] [] 2 [] [([], 1, [(0, 0, 99)], [], [], [.inl (200, [])], [])] = true := by decide +kernel
theorem if3 {cst : am_K} {strs : List Nat} {Φ : am_Q → Prop} {D : Nat} {M : am_M} {h : am_H} {l : am_L} (c : hp_C cst strs D) (hM : m_P[144]? = some M) (hD : (2 : Int) ≤ (D : Int) + 1) (hy : ly_hy m_tt ly_TH h) (m : Int) (x0 : Int32) (hx0 : x0.toInt = (-1)) (b0 : 0 ≤ m) (t0 : m ≤ 99) (l0 : hp_a l 0 44) (l1 : hp_ml l 1 h.length (m)) (r0 : ∀ (h' : am_H) (y0 : Int32), y0.toInt = 200 → ly_hy m_tt ly_TH h' → ly_fr cst [] h h' → h.length ≤ h'.length → Φ (some (.int y0), h', 0, 0)) : hp_F cst strs Φ D M 43 l [.int x0] h := by
  refine hp_arc c hM if3_k hD [m] rfl hy (hp_Bc (z := m) rfl b0 t0 hp_Bn) hp_Fn hp_Kn (hp_La l0 (hp_Lm (z := (0 + (1 * m + 0))) l1 rfl (by omega) hp_Ln)) (hp_Si (z := ((-1) + 0)) rfl (by omega) trivial) ?_ ?_
  · intro p_9 hp ys l' st' h' hys a1_9 a2 a3 gZ gL gS
    cases hp
  · intro p_9 hp ys v_9 h' hys a1_9 a2 a3 gZ gS
    rcases List.mem_cons.mp hp with rfl | hp
    · obtain rfl := hp_y0 hys
      cases v_9 with
      | none => cases gS
      | some wz =>
        obtain ⟨y0, t0, s0_9, q0, -⟩ := hp_gSi (z := (200 + 0)) gS rfl
        cases s0_9
        exact r0 h' y0 (by omega) a1_9 a2 a3
    cases hp
theorem if4_k : hp_chk 144 43 2 [(0, 0, 99), (1, 0, 1239)] [] [(0, .inr (.inr (.inl (some 44)))), (1, .inr (.inr (.inr (0, (0, [(0, 1)])))))] [.inl (0, [(1, 1)])] [] [] 2 [(55, ([], 2, [(0, 0, 99), (1, 0, 1239)], [], [(0, .inr (.inr (.inl (some 44)))), (1, .inr (.inr (.inr (0, (0, [(0, 1)]))))), (2, .inl (0, [(1, 1)]))], [.inr (.inr (.inr (0, (0, [(0, 1)])))), .inr (.inr (.inl (some 44)))], []))] [] = true := by decide +kernel
theorem if4 {cst : am_K} {strs : List Nat} {Φ : am_Q → Prop} {D : Nat} {M : am_M} {h : am_H} {l : am_L} (c : hp_C cst strs D) (hM : m_P[144]? = some M) (hD : (2 : Int) ≤ (D : Int) + 1) (hy : ly_hy m_tt ly_TH h) (m cx : Int) (x0 : Int32) (hx0 : x0.toInt = (cx)) (b0 : 0 ≤ m) (t0 : m ≤ 99) (b1 : 0 ≤ cx) (t1 : cx ≤ 1239) (l0 : hp_a l 0 44) (l1 : hp_ml l 1 h.length (m)) (e0 : ∀ (l' : am_L) (h' : am_H) (y0 : Nat), (y0 : Int) = (m) → 177 + 19 * (y0 + 1) ≤ h'.length → ly_hy m_tt ly_TH h' → ly_fr cst [] h h' → h.length ≤ h'.length → hp_a l' 0 44 → hp_ml l' 1 h'.length (m) → hp_i l' 2 (cx) → hp_F cst strs Φ D M 55 l' [.ref (16 + (177 + 19 * y0 + 0)), .ref 44] h') : hp_F cst strs Φ D M 43 l [.int x0] h := by
  refine hp_arc c hM if4_k hD [m, cx] rfl hy (hp_Bc (z := m) rfl b0 t0 (hp_Bc (z := cx) rfl b1 t1 hp_Bn)) hp_Fn hp_Kn (hp_La l0 (hp_Lm (z := (0 + (1 * m + 0))) l1 rfl (by omega) hp_Ln)) (hp_Si (z := (0 + (1 * cx + 0))) rfl (by omega) trivial) ?_ ?_
  · intro p_9 hp ys l' st' h' hys a1_9 a2 a3 gZ gL gS
    rcases List.mem_cons.mp hp with rfl | hp
    · obtain rfl := hp_y0 hys
      obtain ⟨y0, t0, rfl, q0, p0_9, g0⟩ := hp_gSm (z := (0 + (1 * m + 0))) gS rfl
      obtain ⟨t1, rfl, g1⟩ := hp_gSa g0 (by decide)
      cases hp_gSn g1
      exact e0 l' h' y0 (by omega) p0_9 a1_9 a2 a3 (hp_gLa gL (List.mem_of_getElem? (i := 0) rfl) (by decide)) (hp_gLm (z := (0 + (1 * m + 0))) gL (List.mem_of_getElem? (i := 1) rfl) rfl (by omega)) (hp_gLi (z := (0 + (1 * cx + 0))) gL (List.mem_of_getElem? (i := 2) rfl) rfl (by omega))
    cases hp
  · intro p_9 hp ys v_9 h' hys a1_9 a2 a3 gZ gS
    cases hp
theorem if5_k : hp_chk 144 58 3 [(0, 0, 99), (1, 0, 1239), (2, 0, 8)] [] [(0, .inr (.inr (.inl (some 44)))), (1, .inr (.inr (.inr (0, (0, [(0, 1)]))))), (2, .inl (0, [(1, 1)]))] [.inl (0, [(2, 1)])] [] [] 2 [] [([], 3, [(0, 0, 99), (1, 0, 1239), (2, 0, 8)], [], [], [.inl (300, [(2, 1)])], [])] = true := by decide +kernel
theorem if5 {cst : am_K} {strs : List Nat} {Φ : am_Q → Prop} {D : Nat} {M : am_M} {h : am_H} {l : am_L} (c : hp_C cst strs D) (hM : m_P[144]? = some M) (hD : (2 : Int) ≤ (D : Int) + 1) (hy : ly_hy m_tt ly_TH h) (m cx k : Int) (x0 : Int32) (hx0 : x0.toInt = (k)) (b0 : 0 ≤ m) (t0 : m ≤ 99) (b1 : 0 ≤ cx) (t1 : cx ≤ 1239) (b2 : 0 ≤ k) (t2 : k ≤ 8) (l0 : hp_a l 0 44) (l1 : hp_ml l 1 h.length (m)) (l2 : hp_i l 2 (cx)) (r0 : ∀ (h' : am_H) (y0 : Int32), y0.toInt = (k + 300) → ly_hy m_tt ly_TH h' → ly_fr cst [] h h' → h.length ≤ h'.length → Φ (some (.int y0), h', 0, 0)) : hp_F cst strs Φ D M 58 l [.int x0] h := by
  refine hp_arc c hM if5_k hD [m, cx, k] rfl hy (hp_Bc (z := m) rfl b0 t0 (hp_Bc (z := cx) rfl b1 t1 (hp_Bc (z := k) rfl b2 t2 hp_Bn))) hp_Fn hp_Kn (hp_La l0 (hp_Lm (z := (0 + (1 * m + 0))) l1 rfl (by omega) (hp_Li (z := (0 + (1 * cx + 0))) l2 rfl (by omega) hp_Ln))) (hp_Si (z := (0 + (1 * k + 0))) rfl (by omega) trivial) ?_ ?_
  · intro p_9 hp ys l' st' h' hys a1_9 a2 a3 gZ gL gS
    cases hp
  · intro p_9 hp ys v_9 h' hys a1_9 a2 a3 gZ gS
    rcases List.mem_cons.mp hp with rfl | hp
    · obtain rfl := hp_y0 hys
      cases v_9 with
      | none => cases gS
      | some wz =>
        obtain ⟨y0, t0, s0_9, q0, -⟩ := hp_gSi (z := (300 + (1 * k + 0))) gS rfl
        cases s0_9
        exact r0 h' y0 (by omega) a1_9 a2 a3
    cases hp
theorem if6_k : hp_chk 144 58 2 [(0, 0, 99), (1, 0, 1239)] [] [(0, .inr (.inr (.inl (some 44)))), (1, .inr (.inr (.inr (0, (0, [(0, 1)]))))), (2, .inl (0, [(1, 1)]))] [.inl ((-1), [])] [] [] 2 [(84, ([], 2, [(0, 0, 99), (1, 0, 1239)], [], [(0, .inr (.inr (.inl (some 44)))), (1, .inr (.inr (.inr (0, (0, [(0, 1)]))))), (2, .inl (0, [(1, 1)]))], [.inr (.inr (.inr (4, (0, [(0, 1)])))), .inl (0, [(1, 1)]), .inr (.inr (.inl (some 30))), .inl (0, [(1, 1)]), .inr (.inr (.inl (some 30)))], []))] [] = true := by decide +kernel
theorem if6 {cst : am_K} {strs : List Nat} {Φ : am_Q → Prop} {D : Nat} {M : am_M} {h : am_H} {l : am_L} (c : hp_C cst strs D) (hM : m_P[144]? = some M) (hD : (2 : Int) ≤ (D : Int) + 1) (hy : ly_hy m_tt ly_TH h) (m cx : Int) (x0 : Int32) (hx0 : x0.toInt = (-1)) (b0 : 0 ≤ m) (t0 : m ≤ 99) (b1 : 0 ≤ cx) (t1 : cx ≤ 1239) (l0 : hp_a l 0 44) (l1 : hp_ml l 1 h.length (m)) (l2 : hp_i l 2 (cx)) (e0 : ∀ (l' : am_L) (h' : am_H) (y0 : Nat) (y1 : Int32) (y3 : Int32), (y0 : Int) = (m) → 177 + 19 * (y0 + 1) ≤ h'.length → y1.toInt = (cx) → y3.toInt = (cx) → ly_hy m_tt ly_TH h' → ly_fr cst [] h h' → h.length ≤ h'.length → hp_a l' 0 44 → hp_ml l' 1 h'.length (m) → hp_i l' 2 (cx) → hp_F cst strs Φ D M 84 l' [.ref (16 + (177 + 19 * y0 + 4)), .int y1, .ref 30, .int y3, .ref 30] h') : hp_F cst strs Φ D M 58 l [.int x0] h := by
  refine hp_arc c hM if6_k hD [m, cx] rfl hy (hp_Bc (z := m) rfl b0 t0 (hp_Bc (z := cx) rfl b1 t1 hp_Bn)) hp_Fn hp_Kn (hp_La l0 (hp_Lm (z := (0 + (1 * m + 0))) l1 rfl (by omega) (hp_Li (z := (0 + (1 * cx + 0))) l2 rfl (by omega) hp_Ln))) (hp_Si (z := ((-1) + 0)) rfl (by omega) trivial) ?_ ?_
  · intro p_9 hp ys l' st' h' hys a1_9 a2 a3 gZ gL gS
    rcases List.mem_cons.mp hp with rfl | hp
    · obtain rfl := hp_y0 hys
      obtain ⟨y0, t0, rfl, q0, p0_9, g0⟩ := hp_gSmj (z := (0 + (1 * m + 0))) gS rfl
      obtain ⟨y1, t1, rfl, q1_9, g1⟩ := hp_gSi (z := (0 + (1 * cx + 0))) g0 rfl
      obtain ⟨t2_9, rfl, g2⟩ := hp_gSa g1 (by decide)
      obtain ⟨y3, t3_9, rfl, q3_9, g3_9⟩ := hp_gSi (z := (0 + (1 * cx + 0))) g2 rfl
      obtain ⟨t4_9, rfl, g4⟩ := hp_gSa g3_9 (by decide)
      cases hp_gSn g4
      exact e0 l' h' y0 y1 y3 (by omega) p0_9 (by omega) (by omega) a1_9 a2 a3 (hp_gLa gL (List.mem_of_getElem? (i := 0) rfl) (by decide)) (hp_gLm (z := (0 + (1 * m + 0))) gL (List.mem_of_getElem? (i := 1) rfl) rfl (by omega)) (hp_gLi (z := (0 + (1 * cx + 0))) gL (List.mem_of_getElem? (i := 2) rfl) rfl (by omega))
    cases hp
  · intro p_9 hp ys v_9 h' hys a1_9 a2 a3 gZ gS
    cases hp
theorem if8_k : hp_chk 144 90 1 [(0, 0, 99)] [] [(0, .inr (.inr (.inl (some 44)))), (1, .inr (.inr (.inr (0, (0, [(0, 1)])))))] [.inl ((-1), [])] [] [] 2 [] [([], 1, [(0, 0, 99)], [], [], [.inl (0, [])], [])] = true := by decide +kernel
theorem if8 {cst : am_K} {strs : List Nat} {Φ : am_Q → Prop} {D : Nat} {M : am_M} {h : am_H} {l : am_L} (c : hp_C cst strs D) (hM : m_P[144]? = some M) (hD : (2 : Int) ≤ (D : Int) + 1) (hy : ly_hy m_tt ly_TH h) (m : Int) (x0 : Int32) (hx0 : x0.toInt = (-1)) (b0 : 0 ≤ m) (t0 : m ≤ 99) (l0 : hp_a l 0 44) (l1 : hp_ml l 1 h.length (m)) (r0 : ∀ (h' : am_H) (y0 : Int32), y0.toInt = 0 → ly_hy m_tt ly_TH h' → ly_fr cst [] h h' → h.length ≤ h'.length → Φ (some (.int y0), h', 0, 0)) : hp_F cst strs Φ D M 90 l [.int x0] h := by
  refine hp_arc c hM if8_k hD [m] rfl hy (hp_Bc (z := m) rfl b0 t0 hp_Bn) hp_Fn hp_Kn (hp_La l0 (hp_Lm (z := (0 + (1 * m + 0))) l1 rfl (by omega) hp_Ln)) (hp_Si (z := ((-1) + 0)) rfl (by omega) trivial) ?_ ?_
  · intro p_9 hp ys l' st' h' hys a1_9 a2 a3 gZ gL gS
    cases hp
  · intro p_9 hp ys v_9 h' hys a1_9 a2 a3 gZ gS
    rcases List.mem_cons.mp hp with rfl | hp
    · obtain rfl := hp_y0 hys
      cases v_9 with
      | none => cases gS
      | some wz =>
        obtain ⟨y0, t0, s0_9, q0, -⟩ := hp_gSi (z := (0 + 0)) gS rfl
        cases s0_9
        exact r0 h' y0 (by omega) a1_9 a2 a3
    cases hp
theorem if9_k : hp_chk 144 90 2 [(0, 0, 99), (1, 0, 99)] [] [(0, .inr (.inr (.inl (some 44)))), (1, .inr (.inr (.inr (0, (0, [(0, 1)])))))] [.inl (0, [(1, 1)])] [] [] 2 [] [([], 2, [(0, 0, 99), (1, 0, 99)], [], [], [.inl (400, [(1, 1)])], [])] = true := by decide +kernel
theorem if9 {cst : am_K} {strs : List Nat} {Φ : am_Q → Prop} {D : Nat} {M : am_M} {h : am_H} {l : am_L} (c : hp_C cst strs D) (hM : m_P[144]? = some M) (hD : (2 : Int) ≤ (D : Int) + 1) (hy : ly_hy m_tt ly_TH h) (m k : Int) (x0 : Int32) (hx0 : x0.toInt = (k)) (b0 : 0 ≤ m) (t0 : m ≤ 99) (b1 : 0 ≤ k) (t1 : k ≤ 99) (l0 : hp_a l 0 44) (l1 : hp_ml l 1 h.length (m)) (r0 : ∀ (h' : am_H) (y0 : Int32), y0.toInt = (k + 400) → ly_hy m_tt ly_TH h' → ly_fr cst [] h h' → h.length ≤ h'.length → Φ (some (.int y0), h', 0, 0)) : hp_F cst strs Φ D M 90 l [.int x0] h := by
  refine hp_arc c hM if9_k hD [m, k] rfl hy (hp_Bc (z := m) rfl b0 t0 (hp_Bc (z := k) rfl b1 t1 hp_Bn)) hp_Fn hp_Kn (hp_La l0 (hp_Lm (z := (0 + (1 * m + 0))) l1 rfl (by omega) hp_Ln)) (hp_Si (z := (0 + (1 * k + 0))) rfl (by omega) trivial) ?_ ?_
  · intro p_9 hp ys l' st' h' hys a1_9 a2 a3 gZ gL gS
    cases hp
  · intro p_9 hp ys v_9 h' hys a1_9 a2 a3 gZ gS
    rcases List.mem_cons.mp hp with rfl | hp
    · obtain rfl := hp_y0 hys
      cases v_9 with
      | none => cases gS
      | some wz =>
        obtain ⟨y0, t0, s0_9, q0, -⟩ := hp_gSi (z := (400 + (1 * k + 0))) gS rfl
        cases s0_9
        exact r0 h' y0 (by omega) a1_9 a2 a3
    cases hp
/-- the words of a matter, of the reference -/
def wM (cst : am_K) (h : am_H) (m : Int) (row : List Int) : Prop := row.length ≤ 28 ∧ ly_hv cst h 33280 m = some (row.length : Int) ∧ ∀ i (hi : i < row.length), ly_hv cst h 33024 (30 * m + (i : Int)) = some (row[i]) ∧ -9223372036854775808 ≤ row[i] ∧ row[i] ≤ 9223372036854775807
theorem wM_mv {cst : am_K} {h h' : am_H} {m : Int} {row : List Int} {ms : List Nat} (R : wM cst h m row) (fr : ly_fr cst ms h h') (q1 : ly_has 33280 ms = false) (q2 : ly_has 33024 ms = false) : wM cst h' m row := ⟨R.1, fr _ _ _ q1 R.2.1, fun i_9 hi_9 => ⟨fr _ _ _ q2 (R.2.2 i_9 hi_9).1, (R.2.2 i_9 hi_9).2⟩⟩
/-- the words of a clause of the law, of the reference -/
def wL (cst : am_K) (h : am_H) (w a t : Int) (ws : List Int) : Prop := 0 ≤ w ∧ w ≤ 1199 ∧ 0 ≤ a ∧ a ≤ 29 ∧ 0 ≤ t ∧ t + (ws.length : Int) ≤ 330 ∧ ws.length ≤ 8 ∧ ly_hv cst h 62040 w = some a ∧ ly_hv cst h 24576 w = some (ws.length : Int) ∧ ly_hv cst h 24320 w = some t ∧ ∀ k (hk : k < ws.length), ly_hv cst h 27136 (330 * a + t + (k : Int)) = some (ws[k]) ∧ -9223372036854775808 ≤ ws[k] ∧ ws[k] ≤ 9223372036854775807
set_option maxRecDepth 8000 in
/-- the first word of the law that isn't had -/
theorem br_lp {cst : am_K} {strs : List Nat} {D : Nat} {M : am_M} {h0 : am_H} (c : hp_C cst strs D) (hM : m_P[343]? = some M) (hD : 3 ≤ D) {m cc w a t : Int} (m0 : 0 ≤ m) (m1 : m ≤ 99) (c0 : 0 ≤ cc) (c1 : cc ≤ 1199) {row ws : List Int} (R : wM cst h0 m row) (L : wL cst h0 w a t ws) {Φ : am_Q → Prop} (fin : ∀ (v_9 : Int32) (h2 : am_H) (k_9 : Nat), rn9 ws row 0 = some k_9 → v_9.toInt = (k_9 : Int) + 300 → ly_hy m_tt ly_TH h2 → ly_fr cst [] h0 h2 → Φ (some (.int v_9), h2, 0, 0))
    (nxt : ∀ (l2 : am_L) (h2 : am_H) (y0 y1 y3 : Int32), rn9 ws row 0 = none → y0.toInt = 2 * m → y1.toInt = cc → y3.toInt = cc → ly_hy m_tt ly_TH h2 → ly_fr cst [] h0 h2 → hp_a l2 0 94 → hp_i l2 1 m → hp_i l2 2 cc → hp_F cst strs Φ D M 174 l2 [.int y0, .int y1, .ref 94, .int y3, .ref 94] h2) :
    ∀ (Q_9 : Nat) (h_9 : am_H) (l : am_L) (i_9 f_9 : Nat), i_9 + Q_9 = ws.length → f_9 ≤ row.length → ly_hy m_tt ly_TH h_9 → ly_fr cst [] h0 h_9 → rn9 (ws.drop i_9) (row.drop f_9) i_9 = rn9 ws row 0 → hp_a l 0 94 → hp_i l 1 m → hp_i l 2 cc → hp_i l 3 w → hp_i l 4 (f_9 : Int) → hp_i l 5 (i_9 : Int) → hp_F cst strs Φ D M 84 l [] h_9 := by
  obtain ⟨n28_9, kn_9, kr⟩ := R
  obtain ⟨w0_9, w1_9, a0_9, a1_9, t0_9, t1_9, w8, k1_9, k2_9, k3_9, kw⟩ := L
  intro Q_9
  induction Q_9 with
  | zero =>
    intro h_9 l i_9 f_9 e_9 hf hy fr_9 er l0 l1 l2 l3 l4 l5
    have ei : i_9 = ws.length := by omega
    rw [List.drop_eq_nil_of_le (show ws.length ≤ i_9 by omega)] at er
    have er : none = rn9 ws row 0 := er
    rw [ei] at l5
    exact bko8 c hM (by omega) hy m cc w (f_9 : Int) (ws.length : Int) m0 m1 c0 c1 w0_9 w1_9 (by omega) (by omega) (by omega) (by omega) (fr_9 _ _ _ rfl k2_9) l0 l1 l2 l3 l4 l5 (fun l2' h2 y0 y1 y3 e0_9 e1_9 e3_9 u1_9 u2_9 u3 n0_9 n1_9 n2_9 => nxt l2' h2 y0 y1 y3 er.symm e0_9 e1_9 e3_9 u1_9 (ly_fr_tr fr_9 u2_9) n0_9 n1_9 n2_9)
  | succ Q_9 ih_9 =>
    intro h_9 l i_9 f_9 e_9 hf hy fr_9 er l0 l1 l2 l3 l4 l5
    have hi_9 : i_9 < ws.length := by omega
    obtain ⟨kx, x0_9, x1_9⟩ := kw i_9 hi_9
    rw [List.drop_eq_getElem_cons hi_9] at er
    have er : (match dt9 (ws[i_9]) (row.drop f_9) with
      | none => some i_9
      | some rest_9 => rn9 (ws.drop (i_9 + 1)) rest_9 (i_9 + 1)) = rn9 ws row 0 := er
    refine bko7 c hM (by omega) hy m cc w (f_9 : Int) (i_9 : Int) (ws.length : Int) m0 m1 c0 c1 w0_9 w1_9 (by omega) (by omega) (by omega) (by omega) (by omega) (by omega) (by omega) (fr_9 _ _ _ rfl k2_9) l0 l1 l2 l3 l4 l5 (fun l2' h2 u1_9 u2_9 u3 n0_9 n1_9 n2_9 n3_9 n4_9 n5_9 => ?_)
    have F2 : ly_fr cst [] h0 h2 := ly_fr_tr fr_9 u2_9
    have inner_9 : ∀ (P_9 : Nat) (h_9 : am_H) (l : am_L) (f_9 : Nat), f_9 + P_9 = row.length → ly_hy m_tt ly_TH h_9 → ly_fr cst [] h0 h_9 → (match dt9 (ws[i_9]) (row.drop f_9) with
      | none => some i_9
      | some rest_9 => rn9 (ws.drop (i_9 + 1)) rest_9 (i_9 + 1)) = rn9 ws row 0 → hp_a l 0 94 → hp_i l 1 m → hp_i l 2 cc → hp_i l 3 w → hp_i l 4 (f_9 : Int) → hp_i l 5 (i_9 : Int) → hp_F cst strs Φ D M 100 l [] h_9 := by
      intro P_9
      induction P_9 with
      | zero =>
        intro h_9 l f_9 e_9 hy fr_9 er l0 l1 l2 l3 l4 l5
        have ef : f_9 = row.length := by omega
        rw [List.drop_eq_nil_of_le (show row.length ≤ f_9 by omega)] at er
        have er : some i_9 = rn9 ws row 0 := er
        rw [ef] at l4
        exact bkoB c hM (by omega) hy m cc w (i_9 : Int) (row.length : Int) m0 m1 c0 c1 w0_9 w1_9 (by omega) (by omega) (by omega) (by omega) (fr_9 _ _ _ rfl kn_9) l0 l1 l2 l3 l4 l5 (fun h5 v_9 hv v1_9 v2 v3 => fin v_9 h5 i_9 er.symm (by omega) v1_9 (ly_fr_tr fr_9 v2))
      | succ P_9 ihP =>
        intro h_9 l f_9 e_9 hy fr_9 er l0 l1 l2 l3 l4 l5
        have hf : f_9 < row.length := by omega
        obtain ⟨kz, z0, z1⟩ := kr f_9 hf
        rw [List.drop_eq_getElem_cons hf] at er
        have er : (match (if row[f_9] = ws[i_9] then some (row.drop (f_9 + 1)) else dt9 (ws[i_9]) (row.drop (f_9 + 1))) with
          | none => some i_9
          | some rest_9 => rn9 (ws.drop (i_9 + 1)) rest_9 (i_9 + 1)) = rn9 ws row 0 := er
        have nf_9 : (((f_9 + 1 : Nat)) : Int) = (f_9 : Int) + 1 := by omega
        have nn : (((i_9 + 1 : Nat)) : Int) = (i_9 : Int) + 1 := by omega
        have kx' := fr_9 _ _ _ rfl kx
        by_cases q_9 : row[f_9] = ws[i_9]
        · rw [if_pos q_9] at er
          have er : rn9 (ws.drop (i_9 + 1)) (row.drop (f_9 + 1)) (i_9 + 1) = rn9 ws row 0 := er
          rw [← q_9] at kx'
          exact bkoA c hM (by omega) hy m cc w (f_9 : Int) (i_9 : Int) (row.length : Int) a t (row[f_9]) m0 m1 c0 c1 w0_9 w1_9 (by omega) (by omega) (by omega) (by omega) (by omega) (by omega) a0_9 a1_9 t0_9 (by omega) z0 z1 (by omega) (by omega) (fr_9 _ _ _ rfl kn_9) (fr_9 _ _ _ rfl kz) (fr_9 _ _ _ rfl k3_9) (fr_9 _ _ _ rfl k1_9) kx' l0 l1 l2 l3 l4 l5 (fun l3' h3 v1_9 v2 v3 o0_9 o1 o2 o3_9 o4_9 o5_9 => ih_9 h3 l3' (i_9 + 1) (f_9 + 1) (by omega) (by omega) v1_9 (ly_fr_tr fr_9 v2) er o0_9 o1 o2 o3_9 (by rw [nf_9]; exact o4_9) (by rw [nn]; exact o5_9))
        · rw [if_neg q_9] at er
          exact bko9 c hM (by omega) hy m cc w (f_9 : Int) (i_9 : Int) (row.length : Int) a t (row[f_9]) (ws[i_9]) m0 m1 c0 c1 w0_9 w1_9 (by omega) (by omega) (by omega) (by omega) (by omega) (by omega) a0_9 a1_9 t0_9 (by omega) z0 z1 x0_9 x1_9 (by omega) (by omega) (fr_9 _ _ _ rfl kn_9) (fr_9 _ _ _ rfl kz) (fr_9 _ _ _ rfl k3_9) (fr_9 _ _ _ rfl k1_9) kx' (hp_ne (by omega)) l0 l1 l2 l3 l4 l5 (fun l3' h3 v1_9 v2 v3 o0_9 o1 o2 o3_9 o4_9 o5_9 => ihP h3 l3' (f_9 + 1) (by omega) v1_9 (ly_fr_tr fr_9 v2) er o0_9 o1 o2 o3_9 (by rw [nf_9]; exact o4_9) o5_9)
    exact inner_9 (row.length - f_9) h2 l2' f_9 (by omega) u1_9 F2 er n0_9 n1_9 n2_9 n3_9 n4_9 n5_9
