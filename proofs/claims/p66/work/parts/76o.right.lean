/-! PRINTED by wip/p2/hp_right.py: putRight of class and reference, exactly -/
theorem ra0_k : hp_chk 259 0 5 [(0, (-2147483648), (-1)), (1, (-2147483648), 2147483647), (2, (-2147483648), 2147483647), (3, 0, 100), (4, 0, 399)] [] [(0, .inr (.inr (.inl (some 16)))), (1, .inl (0, [(0, 1)])), (2, .inl (0, [(1, 1)])), (3, .inl (0, [(2, 1)]))] [] [(7170, (0, []), (0, [(3, 1)])), (10, (0, []), (0, [(4, 1)]))] [] 4 [] [([], 5, [(0, (-2147483648), (-1)), (1, (-2147483648), 2147483647), (2, (-2147483648), 2147483647), (3, 0, 100), (4, 0, 399)], [], [], [.inl ((-2), [])], [])] = true := by decide +kernel
theorem ra0 {cst : am_K} {strs : List Nat} {Φ : am_Q → Prop} {D : Nat} {M : am_M} {h : am_H} {l : am_L} (c : hp_C cst strs D) (hM : m_P[259]? = some M) (hD : (4 : Int) ≤ (D : Int) + 1) (hy : ly_hy m_tt ly_TH h) (m z f s g : Int) (b0 : (-2147483648) ≤ m) (t0 : m ≤ (-1)) (b1 : (-2147483648) ≤ z) (t1 : z ≤ 2147483647) (b2 : (-2147483648) ≤ f) (t2 : f ≤ 2147483647) (b3 : 0 ≤ s) (t3 : s ≤ 100) (b4 : 0 ≤ g) (t4 : g ≤ 399) (k0 : ly_hv cst h 7170 0 = some (s)) (k1 : ly_hv cst h 10 0 = some (g)) (l0 : hp_a l 0 16) (l1 : hp_i l 1 (m)) (l2 : hp_i l 2 (z)) (l3 : hp_i l 3 (f)) (r0 : ∀ (h' : am_H) (y0 : Int32), y0.toInt = (-2) → ly_hy m_tt ly_TH h' → ly_fr cst [] h h' → h.length ≤ h'.length → Φ (some (.int y0), h', 0, 0)) : hp_F cst strs Φ D M 0 l [] h := by
  refine hp_arc c hM ra0_k hD [m, z, f, s, g] rfl hy (hp_Bc (z := m) rfl b0 t0 (hp_Bc (z := z) rfl b1 t1 (hp_Bc (z := f) rfl b2 t2 (hp_Bc (z := s) rfl b3 t3 (hp_Bc (z := g) rfl b4 t4 hp_Bn))))) hp_Fn (hp_Kc (zi := (0 + 0)) (zv := (0 + (1 * s + 0))) k0 rfl rfl (by omega) (by omega) (hp_Kc (zi := (0 + 0)) (zv := (0 + (1 * g + 0))) k1 rfl rfl (by omega) (by omega) hp_Kn)) (hp_La l0 (hp_Li (z := (0 + (1 * m + 0))) l1 rfl (by omega) (hp_Li (z := (0 + (1 * z + 0))) l2 rfl (by omega) (hp_Li (z := (0 + (1 * f + 0))) l3 rfl (by omega) hp_Ln)))) trivial ?_ ?_
  · intro p hp ys l' st' h' hys a1 a2 a3 gZ gL gS
    cases hp
  · intro p hp ys v h' hys a1 a2 a3 gZ gS
    rcases List.mem_cons.mp hp with rfl | hp
    · obtain rfl := hp_y0 hys
      cases v with
      | none => cases gS
      | some w =>
        obtain ⟨y0, t0, s0, q0, -⟩ := hp_gSi (z := ((-2) + 0)) gS rfl
        cases s0
        exact r0 h' y0 (by omega) a1 a2 a3
    cases hp
theorem ra1_k : hp_chk 259 0 5 [(0, 0, 2147483647), (1, (-2147483648), 2147483647), (2, (-2147483648), 2147483647), (3, 0, 100), (4, 0, 399)] [(0, [(0, 1), (3, (-1))])] [(0, .inr (.inr (.inl (some 16)))), (1, .inl (0, [(0, 1)])), (2, .inl (0, [(1, 1)])), (3, .inl (0, [(2, 1)]))] [] [(7170, (0, []), (0, [(3, 1)])), (10, (0, []), (0, [(4, 1)]))] [] 4 [] [([], 5, [(0, 0, 2147483647), (1, (-2147483648), 2147483647), (2, (-2147483648), 2147483647), (3, 0, 100), (4, 0, 399)], [], [], [.inl ((-2), [])], [])] = true := by decide +kernel
theorem ra1 {cst : am_K} {strs : List Nat} {Φ : am_Q → Prop} {D : Nat} {M : am_M} {h : am_H} {l : am_L} (c : hp_C cst strs D) (hM : m_P[259]? = some M) (hD : (4 : Int) ≤ (D : Int) + 1) (hy : ly_hy m_tt ly_TH h) (m z f s g : Int) (b0 : 0 ≤ m) (t0 : m ≤ 2147483647) (b1 : (-2147483648) ≤ z) (t1 : z ≤ 2147483647) (b2 : (-2147483648) ≤ f) (t2 : f ≤ 2147483647) (b3 : 0 ≤ s) (t3 : s ≤ 100) (b4 : 0 ≤ g) (t4 : g ≤ 399) (f0 : 0 ≤ (m - s)) (k0 : ly_hv cst h 7170 0 = some (s)) (k1 : ly_hv cst h 10 0 = some (g)) (l0 : hp_a l 0 16) (l1 : hp_i l 1 (m)) (l2 : hp_i l 2 (z)) (l3 : hp_i l 3 (f)) (r0 : ∀ (h' : am_H) (y0 : Int32), y0.toInt = (-2) → ly_hy m_tt ly_TH h' → ly_fr cst [] h h' → h.length ≤ h'.length → Φ (some (.int y0), h', 0, 0)) : hp_F cst strs Φ D M 0 l [] h := by
  refine hp_arc c hM ra1_k hD [m, z, f, s, g] rfl hy (hp_Bc (z := m) rfl b0 t0 (hp_Bc (z := z) rfl b1 t1 (hp_Bc (z := f) rfl b2 t2 (hp_Bc (z := s) rfl b3 t3 (hp_Bc (z := g) rfl b4 t4 hp_Bn))))) (hp_Fc (z := (0 + (1 * m + ((-1) * s + 0)))) rfl (by omega) hp_Fn) (hp_Kc (zi := (0 + 0)) (zv := (0 + (1 * s + 0))) k0 rfl rfl (by omega) (by omega) (hp_Kc (zi := (0 + 0)) (zv := (0 + (1 * g + 0))) k1 rfl rfl (by omega) (by omega) hp_Kn)) (hp_La l0 (hp_Li (z := (0 + (1 * m + 0))) l1 rfl (by omega) (hp_Li (z := (0 + (1 * z + 0))) l2 rfl (by omega) (hp_Li (z := (0 + (1 * f + 0))) l3 rfl (by omega) hp_Ln)))) trivial ?_ ?_
  · intro p hp ys l' st' h' hys a1 a2 a3 gZ gL gS
    cases hp
  · intro p hp ys v h' hys a1 a2 a3 gZ gS
    rcases List.mem_cons.mp hp with rfl | hp
    · obtain rfl := hp_y0 hys
      cases v with
      | none => cases gS
      | some w =>
        obtain ⟨y0, t0, s0, q0, -⟩ := hp_gSi (z := ((-2) + 0)) gS rfl
        cases s0
        exact r0 h' y0 (by omega) a1 a2 a3
    cases hp
theorem ra2_k : hp_chk 259 0 5 [(0, 0, 99), (1, (-2147483648), (-1)), (2, (-2147483648), 2147483647), (3, 0, 100), (4, 0, 399)] [((-1), [(0, (-1)), (3, 1)])] [(0, .inr (.inr (.inl (some 16)))), (1, .inl (0, [(0, 1)])), (2, .inl (0, [(1, 1)])), (3, .inl (0, [(2, 1)]))] [] [(7170, (0, []), (0, [(3, 1)])), (10, (0, []), (0, [(4, 1)])), (7424, (0, [(0, 1)]), (1, []))] [] 4 [] [([], 5, [(0, 0, 99), (1, (-2147483648), (-1)), (2, (-2147483648), 2147483647), (3, 0, 100), (4, 0, 399)], [], [], [.inl ((-2), [])], [])] = true := by decide +kernel
theorem ra2 {cst : am_K} {strs : List Nat} {Φ : am_Q → Prop} {D : Nat} {M : am_M} {h : am_H} {l : am_L} (c : hp_C cst strs D) (hM : m_P[259]? = some M) (hD : (4 : Int) ≤ (D : Int) + 1) (hy : ly_hy m_tt ly_TH h) (m z f s g : Int) (b0 : 0 ≤ m) (t0 : m ≤ 99) (b1 : (-2147483648) ≤ z) (t1 : z ≤ (-1)) (b2 : (-2147483648) ≤ f) (t2 : f ≤ 2147483647) (b3 : 0 ≤ s) (t3 : s ≤ 100) (b4 : 0 ≤ g) (t4 : g ≤ 399) (f0 : 0 ≤ (s - m - 1)) (k0 : ly_hv cst h 7170 0 = some (s)) (k1 : ly_hv cst h 10 0 = some (g)) (k2 : ly_hv cst h 7424 (m) = some 1) (l0 : hp_a l 0 16) (l1 : hp_i l 1 (m)) (l2 : hp_i l 2 (z)) (l3 : hp_i l 3 (f)) (r0 : ∀ (h' : am_H) (y0 : Int32), y0.toInt = (-2) → ly_hy m_tt ly_TH h' → ly_fr cst [] h h' → h.length ≤ h'.length → Φ (some (.int y0), h', 0, 0)) : hp_F cst strs Φ D M 0 l [] h := by
  refine hp_arc c hM ra2_k hD [m, z, f, s, g] rfl hy (hp_Bc (z := m) rfl b0 t0 (hp_Bc (z := z) rfl b1 t1 (hp_Bc (z := f) rfl b2 t2 (hp_Bc (z := s) rfl b3 t3 (hp_Bc (z := g) rfl b4 t4 hp_Bn))))) (hp_Fc (z := ((-1) + ((-1) * m + (1 * s + 0)))) rfl (by omega) hp_Fn) (hp_Kc (zi := (0 + 0)) (zv := (0 + (1 * s + 0))) k0 rfl rfl (by omega) (by omega) (hp_Kc (zi := (0 + 0)) (zv := (0 + (1 * g + 0))) k1 rfl rfl (by omega) (by omega) (hp_Kc (zi := (0 + (1 * m + 0))) (zv := (1 + 0)) k2 rfl rfl (by omega) (by omega) hp_Kn))) (hp_La l0 (hp_Li (z := (0 + (1 * m + 0))) l1 rfl (by omega) (hp_Li (z := (0 + (1 * z + 0))) l2 rfl (by omega) (hp_Li (z := (0 + (1 * f + 0))) l3 rfl (by omega) hp_Ln)))) trivial ?_ ?_
  · intro p hp ys l' st' h' hys a1 a2 a3 gZ gL gS
    cases hp
  · intro p hp ys v h' hys a1 a2 a3 gZ gS
    rcases List.mem_cons.mp hp with rfl | hp
    · obtain rfl := hp_y0 hys
      cases v with
      | none => cases gS
      | some w =>
        obtain ⟨y0, t0, s0, q0, -⟩ := hp_gSi (z := ((-2) + 0)) gS rfl
        cases s0
        exact r0 h' y0 (by omega) a1 a2 a3
    cases hp
theorem ra3_k : hp_chk 259 0 5 [(0, 0, 99), (1, 10, 2147483647), (2, (-2147483648), 2147483647), (3, 0, 100), (4, 0, 399)] [((-1), [(0, (-1)), (3, 1)])] [(0, .inr (.inr (.inl (some 16)))), (1, .inl (0, [(0, 1)])), (2, .inl (0, [(1, 1)])), (3, .inl (0, [(2, 1)]))] [] [(7170, (0, []), (0, [(3, 1)])), (10, (0, []), (0, [(4, 1)])), (7424, (0, [(0, 1)]), (1, []))] [] 4 [] [([], 5, [(0, 0, 99), (1, 10, 2147483647), (2, (-2147483648), 2147483647), (3, 0, 100), (4, 0, 399)], [], [], [.inl ((-2), [])], [])] = true := by decide +kernel
theorem ra3 {cst : am_K} {strs : List Nat} {Φ : am_Q → Prop} {D : Nat} {M : am_M} {h : am_H} {l : am_L} (c : hp_C cst strs D) (hM : m_P[259]? = some M) (hD : (4 : Int) ≤ (D : Int) + 1) (hy : ly_hy m_tt ly_TH h) (m z f s g : Int) (b0 : 0 ≤ m) (t0 : m ≤ 99) (b1 : 10 ≤ z) (t1 : z ≤ 2147483647) (b2 : (-2147483648) ≤ f) (t2 : f ≤ 2147483647) (b3 : 0 ≤ s) (t3 : s ≤ 100) (b4 : 0 ≤ g) (t4 : g ≤ 399) (f0 : 0 ≤ (s - m - 1)) (k0 : ly_hv cst h 7170 0 = some (s)) (k1 : ly_hv cst h 10 0 = some (g)) (k2 : ly_hv cst h 7424 (m) = some 1) (l0 : hp_a l 0 16) (l1 : hp_i l 1 (m)) (l2 : hp_i l 2 (z)) (l3 : hp_i l 3 (f)) (r0 : ∀ (h' : am_H) (y0 : Int32), y0.toInt = (-2) → ly_hy m_tt ly_TH h' → ly_fr cst [] h h' → h.length ≤ h'.length → Φ (some (.int y0), h', 0, 0)) : hp_F cst strs Φ D M 0 l [] h := by
  refine hp_arc c hM ra3_k hD [m, z, f, s, g] rfl hy (hp_Bc (z := m) rfl b0 t0 (hp_Bc (z := z) rfl b1 t1 (hp_Bc (z := f) rfl b2 t2 (hp_Bc (z := s) rfl b3 t3 (hp_Bc (z := g) rfl b4 t4 hp_Bn))))) (hp_Fc (z := ((-1) + ((-1) * m + (1 * s + 0)))) rfl (by omega) hp_Fn) (hp_Kc (zi := (0 + 0)) (zv := (0 + (1 * s + 0))) k0 rfl rfl (by omega) (by omega) (hp_Kc (zi := (0 + 0)) (zv := (0 + (1 * g + 0))) k1 rfl rfl (by omega) (by omega) (hp_Kc (zi := (0 + (1 * m + 0))) (zv := (1 + 0)) k2 rfl rfl (by omega) (by omega) hp_Kn))) (hp_La l0 (hp_Li (z := (0 + (1 * m + 0))) l1 rfl (by omega) (hp_Li (z := (0 + (1 * z + 0))) l2 rfl (by omega) (hp_Li (z := (0 + (1 * f + 0))) l3 rfl (by omega) hp_Ln)))) trivial ?_ ?_
  · intro p hp ys l' st' h' hys a1 a2 a3 gZ gL gS
    cases hp
  · intro p hp ys v h' hys a1 a2 a3 gZ gS
    rcases List.mem_cons.mp hp with rfl | hp
    · obtain rfl := hp_y0 hys
      cases v with
      | none => cases gS
      | some w =>
        obtain ⟨y0, t0, s0, q0, -⟩ := hp_gSi (z := ((-2) + 0)) gS rfl
        cases s0
        exact r0 h' y0 (by omega) a1 a2 a3
    cases hp
theorem ra4_k : hp_chk 259 0 5 [(0, 0, 99), (1, 0, 9), (2, (-2147483648), (-1)), (3, 0, 100), (4, 0, 399)] [((-1), [(0, (-1)), (3, 1)])] [(0, .inr (.inr (.inl (some 16)))), (1, .inl (0, [(0, 1)])), (2, .inl (0, [(1, 1)])), (3, .inl (0, [(2, 1)]))] [] [(7170, (0, []), (0, [(3, 1)])), (10, (0, []), (0, [(4, 1)])), (7424, (0, [(0, 1)]), (1, []))] [] 4 [] [([], 5, [(0, 0, 99), (1, 0, 9), (2, (-2147483648), (-1)), (3, 0, 100), (4, 0, 399)], [], [], [.inl ((-2), [])], [])] = true := by decide +kernel
theorem ra4 {cst : am_K} {strs : List Nat} {Φ : am_Q → Prop} {D : Nat} {M : am_M} {h : am_H} {l : am_L} (c : hp_C cst strs D) (hM : m_P[259]? = some M) (hD : (4 : Int) ≤ (D : Int) + 1) (hy : ly_hy m_tt ly_TH h) (m z f s g : Int) (b0 : 0 ≤ m) (t0 : m ≤ 99) (b1 : 0 ≤ z) (t1 : z ≤ 9) (b2 : (-2147483648) ≤ f) (t2 : f ≤ (-1)) (b3 : 0 ≤ s) (t3 : s ≤ 100) (b4 : 0 ≤ g) (t4 : g ≤ 399) (f0 : 0 ≤ (s - m - 1)) (k0 : ly_hv cst h 7170 0 = some (s)) (k1 : ly_hv cst h 10 0 = some (g)) (k2 : ly_hv cst h 7424 (m) = some 1) (l0 : hp_a l 0 16) (l1 : hp_i l 1 (m)) (l2 : hp_i l 2 (z)) (l3 : hp_i l 3 (f)) (r0 : ∀ (h' : am_H) (y0 : Int32), y0.toInt = (-2) → ly_hy m_tt ly_TH h' → ly_fr cst [] h h' → h.length ≤ h'.length → Φ (some (.int y0), h', 0, 0)) : hp_F cst strs Φ D M 0 l [] h := by
  refine hp_arc c hM ra4_k hD [m, z, f, s, g] rfl hy (hp_Bc (z := m) rfl b0 t0 (hp_Bc (z := z) rfl b1 t1 (hp_Bc (z := f) rfl b2 t2 (hp_Bc (z := s) rfl b3 t3 (hp_Bc (z := g) rfl b4 t4 hp_Bn))))) (hp_Fc (z := ((-1) + ((-1) * m + (1 * s + 0)))) rfl (by omega) hp_Fn) (hp_Kc (zi := (0 + 0)) (zv := (0 + (1 * s + 0))) k0 rfl rfl (by omega) (by omega) (hp_Kc (zi := (0 + 0)) (zv := (0 + (1 * g + 0))) k1 rfl rfl (by omega) (by omega) (hp_Kc (zi := (0 + (1 * m + 0))) (zv := (1 + 0)) k2 rfl rfl (by omega) (by omega) hp_Kn))) (hp_La l0 (hp_Li (z := (0 + (1 * m + 0))) l1 rfl (by omega) (hp_Li (z := (0 + (1 * z + 0))) l2 rfl (by omega) (hp_Li (z := (0 + (1 * f + 0))) l3 rfl (by omega) hp_Ln)))) trivial ?_ ?_
  · intro p hp ys l' st' h' hys a1 a2 a3 gZ gL gS
    cases hp
  · intro p hp ys v h' hys a1 a2 a3 gZ gS
    rcases List.mem_cons.mp hp with rfl | hp
    · obtain rfl := hp_y0 hys
      cases v with
      | none => cases gS
      | some w =>
        obtain ⟨y0, t0, s0, q0, -⟩ := hp_gSi (z := ((-2) + 0)) gS rfl
        cases s0
        exact r0 h' y0 (by omega) a1 a2 a3
    cases hp
theorem ra5_k : hp_chk 259 0 5 [(0, 0, 99), (1, 0, 9), (2, 0, 2147483647), (3, 0, 100), (4, 0, 399)] [((-1), [(0, (-1)), (3, 1)]), ((-1), [(2, 1), (4, (-1))])] [(0, .inr (.inr (.inl (some 16)))), (1, .inl (0, [(0, 1)])), (2, .inl (0, [(1, 1)])), (3, .inl (0, [(2, 1)]))] [] [(7170, (0, []), (0, [(3, 1)])), (10, (0, []), (0, [(4, 1)])), (7424, (0, [(0, 1)]), (1, []))] [] 4 [] [([], 5, [(0, 0, 99), (1, 0, 9), (2, 0, 2147483647), (3, 0, 100), (4, 0, 399)], [], [], [.inl ((-2), [])], [])] = true := by decide +kernel
theorem ra5 {cst : am_K} {strs : List Nat} {Φ : am_Q → Prop} {D : Nat} {M : am_M} {h : am_H} {l : am_L} (c : hp_C cst strs D) (hM : m_P[259]? = some M) (hD : (4 : Int) ≤ (D : Int) + 1) (hy : ly_hy m_tt ly_TH h) (m z f s g : Int) (b0 : 0 ≤ m) (t0 : m ≤ 99) (b1 : 0 ≤ z) (t1 : z ≤ 9) (b2 : 0 ≤ f) (t2 : f ≤ 2147483647) (b3 : 0 ≤ s) (t3 : s ≤ 100) (b4 : 0 ≤ g) (t4 : g ≤ 399) (f0 : 0 ≤ (s - m - 1)) (f1 : 0 ≤ (f - g - 1)) (k0 : ly_hv cst h 7170 0 = some (s)) (k1 : ly_hv cst h 10 0 = some (g)) (k2 : ly_hv cst h 7424 (m) = some 1) (l0 : hp_a l 0 16) (l1 : hp_i l 1 (m)) (l2 : hp_i l 2 (z)) (l3 : hp_i l 3 (f)) (r0 : ∀ (h' : am_H) (y0 : Int32), y0.toInt = (-2) → ly_hy m_tt ly_TH h' → ly_fr cst [] h h' → h.length ≤ h'.length → Φ (some (.int y0), h', 0, 0)) : hp_F cst strs Φ D M 0 l [] h := by
  refine hp_arc c hM ra5_k hD [m, z, f, s, g] rfl hy (hp_Bc (z := m) rfl b0 t0 (hp_Bc (z := z) rfl b1 t1 (hp_Bc (z := f) rfl b2 t2 (hp_Bc (z := s) rfl b3 t3 (hp_Bc (z := g) rfl b4 t4 hp_Bn))))) (hp_Fc (z := ((-1) + ((-1) * m + (1 * s + 0)))) rfl (by omega) (hp_Fc (z := ((-1) + (1 * f + ((-1) * g + 0)))) rfl (by omega) hp_Fn)) (hp_Kc (zi := (0 + 0)) (zv := (0 + (1 * s + 0))) k0 rfl rfl (by omega) (by omega) (hp_Kc (zi := (0 + 0)) (zv := (0 + (1 * g + 0))) k1 rfl rfl (by omega) (by omega) (hp_Kc (zi := (0 + (1 * m + 0))) (zv := (1 + 0)) k2 rfl rfl (by omega) (by omega) hp_Kn))) (hp_La l0 (hp_Li (z := (0 + (1 * m + 0))) l1 rfl (by omega) (hp_Li (z := (0 + (1 * z + 0))) l2 rfl (by omega) (hp_Li (z := (0 + (1 * f + 0))) l3 rfl (by omega) hp_Ln)))) trivial ?_ ?_
  · intro p hp ys l' st' h' hys a1 a2 a3 gZ gL gS
    cases hp
  · intro p hp ys v h' hys a1 a2 a3 gZ gS
    rcases List.mem_cons.mp hp with rfl | hp
    · obtain rfl := hp_y0 hys
      cases v with
      | none => cases gS
      | some w =>
        obtain ⟨y0, t0, s0, q0, -⟩ := hp_gSi (z := ((-2) + 0)) gS rfl
        cases s0
        exact r0 h' y0 (by omega) a1 a2 a3
    cases hp
theorem rb0_k : hp_chk 415 0 5 [(0, (-2147483648), (-1)), (1, (-2147483648), 2147483647), (2, (-2147483648), 2147483647), (3, 0, 100), (4, 0, 399)] [] [(0, .inr (.inr (.inl (some 94)))), (1, .inl (0, [(0, 1)])), (2, .inl (0, [(1, 1)])), (3, .inl (0, [(2, 1)]))] [] [(20024, (0, []), (0, [(3, 1)])), (19977, (0, []), (0, [(4, 1)]))] [] 4 [] [([], 5, [(0, (-2147483648), (-1)), (1, (-2147483648), 2147483647), (2, (-2147483648), 2147483647), (3, 0, 100), (4, 0, 399)], [], [], [.inl ((-2), [])], [])] = true := by decide +kernel
theorem rb0 {cst : am_K} {strs : List Nat} {Φ : am_Q → Prop} {D : Nat} {M : am_M} {h : am_H} {l : am_L} (c : hp_C cst strs D) (hM : m_P[415]? = some M) (hD : (4 : Int) ≤ (D : Int) + 1) (hy : ly_hy m_tt ly_TH h) (m z f s g : Int) (b0 : (-2147483648) ≤ m) (t0 : m ≤ (-1)) (b1 : (-2147483648) ≤ z) (t1 : z ≤ 2147483647) (b2 : (-2147483648) ≤ f) (t2 : f ≤ 2147483647) (b3 : 0 ≤ s) (t3 : s ≤ 100) (b4 : 0 ≤ g) (t4 : g ≤ 399) (k0 : ly_hv cst h 20024 0 = some (s)) (k1 : ly_hv cst h 19977 0 = some (g)) (l0 : hp_a l 0 94) (l1 : hp_i l 1 (m)) (l2 : hp_i l 2 (z)) (l3 : hp_i l 3 (f)) (r0 : ∀ (h' : am_H) (y0 : Int32), y0.toInt = (-2) → ly_hy m_tt ly_TH h' → ly_fr cst [] h h' → h.length ≤ h'.length → Φ (some (.int y0), h', 0, 0)) : hp_F cst strs Φ D M 0 l [] h := by
  refine hp_arc c hM rb0_k hD [m, z, f, s, g] rfl hy (hp_Bc (z := m) rfl b0 t0 (hp_Bc (z := z) rfl b1 t1 (hp_Bc (z := f) rfl b2 t2 (hp_Bc (z := s) rfl b3 t3 (hp_Bc (z := g) rfl b4 t4 hp_Bn))))) hp_Fn (hp_Kc (zi := (0 + 0)) (zv := (0 + (1 * s + 0))) k0 rfl rfl (by omega) (by omega) (hp_Kc (zi := (0 + 0)) (zv := (0 + (1 * g + 0))) k1 rfl rfl (by omega) (by omega) hp_Kn)) (hp_La l0 (hp_Li (z := (0 + (1 * m + 0))) l1 rfl (by omega) (hp_Li (z := (0 + (1 * z + 0))) l2 rfl (by omega) (hp_Li (z := (0 + (1 * f + 0))) l3 rfl (by omega) hp_Ln)))) trivial ?_ ?_
  · intro p hp ys l' st' h' hys a1 a2 a3 gZ gL gS
    cases hp
  · intro p hp ys v h' hys a1 a2 a3 gZ gS
    rcases List.mem_cons.mp hp with rfl | hp
    · obtain rfl := hp_y0 hys
      cases v with
      | none => cases gS
      | some w =>
        obtain ⟨y0, t0, s0, q0, -⟩ := hp_gSi (z := ((-2) + 0)) gS rfl
        cases s0
        exact r0 h' y0 (by omega) a1 a2 a3
    cases hp
theorem rb1_k : hp_chk 415 0 5 [(0, 0, 2147483647), (1, (-2147483648), 2147483647), (2, (-2147483648), 2147483647), (3, 0, 100), (4, 0, 399)] [(0, [(0, 1), (3, (-1))])] [(0, .inr (.inr (.inl (some 94)))), (1, .inl (0, [(0, 1)])), (2, .inl (0, [(1, 1)])), (3, .inl (0, [(2, 1)]))] [] [(20024, (0, []), (0, [(3, 1)])), (19977, (0, []), (0, [(4, 1)]))] [] 4 [] [([], 5, [(0, 0, 2147483647), (1, (-2147483648), 2147483647), (2, (-2147483648), 2147483647), (3, 0, 100), (4, 0, 399)], [], [], [.inl ((-2), [])], [])] = true := by decide +kernel
theorem rb1 {cst : am_K} {strs : List Nat} {Φ : am_Q → Prop} {D : Nat} {M : am_M} {h : am_H} {l : am_L} (c : hp_C cst strs D) (hM : m_P[415]? = some M) (hD : (4 : Int) ≤ (D : Int) + 1) (hy : ly_hy m_tt ly_TH h) (m z f s g : Int) (b0 : 0 ≤ m) (t0 : m ≤ 2147483647) (b1 : (-2147483648) ≤ z) (t1 : z ≤ 2147483647) (b2 : (-2147483648) ≤ f) (t2 : f ≤ 2147483647) (b3 : 0 ≤ s) (t3 : s ≤ 100) (b4 : 0 ≤ g) (t4 : g ≤ 399) (f0 : 0 ≤ (m - s)) (k0 : ly_hv cst h 20024 0 = some (s)) (k1 : ly_hv cst h 19977 0 = some (g)) (l0 : hp_a l 0 94) (l1 : hp_i l 1 (m)) (l2 : hp_i l 2 (z)) (l3 : hp_i l 3 (f)) (r0 : ∀ (h' : am_H) (y0 : Int32), y0.toInt = (-2) → ly_hy m_tt ly_TH h' → ly_fr cst [] h h' → h.length ≤ h'.length → Φ (some (.int y0), h', 0, 0)) : hp_F cst strs Φ D M 0 l [] h := by
  refine hp_arc c hM rb1_k hD [m, z, f, s, g] rfl hy (hp_Bc (z := m) rfl b0 t0 (hp_Bc (z := z) rfl b1 t1 (hp_Bc (z := f) rfl b2 t2 (hp_Bc (z := s) rfl b3 t3 (hp_Bc (z := g) rfl b4 t4 hp_Bn))))) (hp_Fc (z := (0 + (1 * m + ((-1) * s + 0)))) rfl (by omega) hp_Fn) (hp_Kc (zi := (0 + 0)) (zv := (0 + (1 * s + 0))) k0 rfl rfl (by omega) (by omega) (hp_Kc (zi := (0 + 0)) (zv := (0 + (1 * g + 0))) k1 rfl rfl (by omega) (by omega) hp_Kn)) (hp_La l0 (hp_Li (z := (0 + (1 * m + 0))) l1 rfl (by omega) (hp_Li (z := (0 + (1 * z + 0))) l2 rfl (by omega) (hp_Li (z := (0 + (1 * f + 0))) l3 rfl (by omega) hp_Ln)))) trivial ?_ ?_
  · intro p hp ys l' st' h' hys a1 a2 a3 gZ gL gS
    cases hp
  · intro p hp ys v h' hys a1 a2 a3 gZ gS
    rcases List.mem_cons.mp hp with rfl | hp
    · obtain rfl := hp_y0 hys
      cases v with
      | none => cases gS
      | some w =>
        obtain ⟨y0, t0, s0, q0, -⟩ := hp_gSi (z := ((-2) + 0)) gS rfl
        cases s0
        exact r0 h' y0 (by omega) a1 a2 a3
    cases hp
theorem rb2_k : hp_chk 415 0 5 [(0, 0, 99), (1, (-2147483648), (-1)), (2, (-2147483648), 2147483647), (3, 0, 100), (4, 0, 399)] [((-1), [(0, (-1)), (3, 1)])] [(0, .inr (.inr (.inl (some 94)))), (1, .inl (0, [(0, 1)])), (2, .inl (0, [(1, 1)])), (3, .inl (0, [(2, 1)]))] [] [(20024, (0, []), (0, [(3, 1)])), (19977, (0, []), (0, [(4, 1)]))] [] 4 [] [([], 5, [(0, 0, 99), (1, (-2147483648), (-1)), (2, (-2147483648), 2147483647), (3, 0, 100), (4, 0, 399)], [], [], [.inl ((-2), [])], [])] = true := by decide +kernel
theorem rb2 {cst : am_K} {strs : List Nat} {Φ : am_Q → Prop} {D : Nat} {M : am_M} {h : am_H} {l : am_L} (c : hp_C cst strs D) (hM : m_P[415]? = some M) (hD : (4 : Int) ≤ (D : Int) + 1) (hy : ly_hy m_tt ly_TH h) (m z f s g : Int) (b0 : 0 ≤ m) (t0 : m ≤ 99) (b1 : (-2147483648) ≤ z) (t1 : z ≤ (-1)) (b2 : (-2147483648) ≤ f) (t2 : f ≤ 2147483647) (b3 : 0 ≤ s) (t3 : s ≤ 100) (b4 : 0 ≤ g) (t4 : g ≤ 399) (f0 : 0 ≤ (s - m - 1)) (k0 : ly_hv cst h 20024 0 = some (s)) (k1 : ly_hv cst h 19977 0 = some (g)) (l0 : hp_a l 0 94) (l1 : hp_i l 1 (m)) (l2 : hp_i l 2 (z)) (l3 : hp_i l 3 (f)) (r0 : ∀ (h' : am_H) (y0 : Int32), y0.toInt = (-2) → ly_hy m_tt ly_TH h' → ly_fr cst [] h h' → h.length ≤ h'.length → Φ (some (.int y0), h', 0, 0)) : hp_F cst strs Φ D M 0 l [] h := by
  refine hp_arc c hM rb2_k hD [m, z, f, s, g] rfl hy (hp_Bc (z := m) rfl b0 t0 (hp_Bc (z := z) rfl b1 t1 (hp_Bc (z := f) rfl b2 t2 (hp_Bc (z := s) rfl b3 t3 (hp_Bc (z := g) rfl b4 t4 hp_Bn))))) (hp_Fc (z := ((-1) + ((-1) * m + (1 * s + 0)))) rfl (by omega) hp_Fn) (hp_Kc (zi := (0 + 0)) (zv := (0 + (1 * s + 0))) k0 rfl rfl (by omega) (by omega) (hp_Kc (zi := (0 + 0)) (zv := (0 + (1 * g + 0))) k1 rfl rfl (by omega) (by omega) hp_Kn)) (hp_La l0 (hp_Li (z := (0 + (1 * m + 0))) l1 rfl (by omega) (hp_Li (z := (0 + (1 * z + 0))) l2 rfl (by omega) (hp_Li (z := (0 + (1 * f + 0))) l3 rfl (by omega) hp_Ln)))) trivial ?_ ?_
  · intro p hp ys l' st' h' hys a1 a2 a3 gZ gL gS
    cases hp
  · intro p hp ys v h' hys a1 a2 a3 gZ gS
    rcases List.mem_cons.mp hp with rfl | hp
    · obtain rfl := hp_y0 hys
      cases v with
      | none => cases gS
      | some w =>
        obtain ⟨y0, t0, s0, q0, -⟩ := hp_gSi (z := ((-2) + 0)) gS rfl
        cases s0
        exact r0 h' y0 (by omega) a1 a2 a3
    cases hp
theorem rb3_k : hp_chk 415 0 5 [(0, 0, 99), (1, 10, 2147483647), (2, (-2147483648), 2147483647), (3, 0, 100), (4, 0, 399)] [((-1), [(0, (-1)), (3, 1)])] [(0, .inr (.inr (.inl (some 94)))), (1, .inl (0, [(0, 1)])), (2, .inl (0, [(1, 1)])), (3, .inl (0, [(2, 1)]))] [] [(20024, (0, []), (0, [(3, 1)])), (19977, (0, []), (0, [(4, 1)]))] [] 4 [] [([], 5, [(0, 0, 99), (1, 10, 2147483647), (2, (-2147483648), 2147483647), (3, 0, 100), (4, 0, 399)], [], [], [.inl ((-2), [])], [])] = true := by decide +kernel
theorem rb3 {cst : am_K} {strs : List Nat} {Φ : am_Q → Prop} {D : Nat} {M : am_M} {h : am_H} {l : am_L} (c : hp_C cst strs D) (hM : m_P[415]? = some M) (hD : (4 : Int) ≤ (D : Int) + 1) (hy : ly_hy m_tt ly_TH h) (m z f s g : Int) (b0 : 0 ≤ m) (t0 : m ≤ 99) (b1 : 10 ≤ z) (t1 : z ≤ 2147483647) (b2 : (-2147483648) ≤ f) (t2 : f ≤ 2147483647) (b3 : 0 ≤ s) (t3 : s ≤ 100) (b4 : 0 ≤ g) (t4 : g ≤ 399) (f0 : 0 ≤ (s - m - 1)) (k0 : ly_hv cst h 20024 0 = some (s)) (k1 : ly_hv cst h 19977 0 = some (g)) (l0 : hp_a l 0 94) (l1 : hp_i l 1 (m)) (l2 : hp_i l 2 (z)) (l3 : hp_i l 3 (f)) (r0 : ∀ (h' : am_H) (y0 : Int32), y0.toInt = (-2) → ly_hy m_tt ly_TH h' → ly_fr cst [] h h' → h.length ≤ h'.length → Φ (some (.int y0), h', 0, 0)) : hp_F cst strs Φ D M 0 l [] h := by
  refine hp_arc c hM rb3_k hD [m, z, f, s, g] rfl hy (hp_Bc (z := m) rfl b0 t0 (hp_Bc (z := z) rfl b1 t1 (hp_Bc (z := f) rfl b2 t2 (hp_Bc (z := s) rfl b3 t3 (hp_Bc (z := g) rfl b4 t4 hp_Bn))))) (hp_Fc (z := ((-1) + ((-1) * m + (1 * s + 0)))) rfl (by omega) hp_Fn) (hp_Kc (zi := (0 + 0)) (zv := (0 + (1 * s + 0))) k0 rfl rfl (by omega) (by omega) (hp_Kc (zi := (0 + 0)) (zv := (0 + (1 * g + 0))) k1 rfl rfl (by omega) (by omega) hp_Kn)) (hp_La l0 (hp_Li (z := (0 + (1 * m + 0))) l1 rfl (by omega) (hp_Li (z := (0 + (1 * z + 0))) l2 rfl (by omega) (hp_Li (z := (0 + (1 * f + 0))) l3 rfl (by omega) hp_Ln)))) trivial ?_ ?_
  · intro p hp ys l' st' h' hys a1 a2 a3 gZ gL gS
    cases hp
  · intro p hp ys v h' hys a1 a2 a3 gZ gS
    rcases List.mem_cons.mp hp with rfl | hp
    · obtain rfl := hp_y0 hys
      cases v with
      | none => cases gS
      | some w =>
        obtain ⟨y0, t0, s0, q0, -⟩ := hp_gSi (z := ((-2) + 0)) gS rfl
        cases s0
        exact r0 h' y0 (by omega) a1 a2 a3
    cases hp
theorem rb4_k : hp_chk 415 0 5 [(0, 0, 99), (1, 0, 9), (2, (-2147483648), (-1)), (3, 0, 100), (4, 0, 399)] [((-1), [(0, (-1)), (3, 1)])] [(0, .inr (.inr (.inl (some 94)))), (1, .inl (0, [(0, 1)])), (2, .inl (0, [(1, 1)])), (3, .inl (0, [(2, 1)]))] [] [(20024, (0, []), (0, [(3, 1)])), (19977, (0, []), (0, [(4, 1)]))] [] 4 [] [([], 5, [(0, 0, 99), (1, 0, 9), (2, (-2147483648), (-1)), (3, 0, 100), (4, 0, 399)], [], [], [.inl ((-2), [])], [])] = true := by decide +kernel
theorem rb4 {cst : am_K} {strs : List Nat} {Φ : am_Q → Prop} {D : Nat} {M : am_M} {h : am_H} {l : am_L} (c : hp_C cst strs D) (hM : m_P[415]? = some M) (hD : (4 : Int) ≤ (D : Int) + 1) (hy : ly_hy m_tt ly_TH h) (m z f s g : Int) (b0 : 0 ≤ m) (t0 : m ≤ 99) (b1 : 0 ≤ z) (t1 : z ≤ 9) (b2 : (-2147483648) ≤ f) (t2 : f ≤ (-1)) (b3 : 0 ≤ s) (t3 : s ≤ 100) (b4 : 0 ≤ g) (t4 : g ≤ 399) (f0 : 0 ≤ (s - m - 1)) (k0 : ly_hv cst h 20024 0 = some (s)) (k1 : ly_hv cst h 19977 0 = some (g)) (l0 : hp_a l 0 94) (l1 : hp_i l 1 (m)) (l2 : hp_i l 2 (z)) (l3 : hp_i l 3 (f)) (r0 : ∀ (h' : am_H) (y0 : Int32), y0.toInt = (-2) → ly_hy m_tt ly_TH h' → ly_fr cst [] h h' → h.length ≤ h'.length → Φ (some (.int y0), h', 0, 0)) : hp_F cst strs Φ D M 0 l [] h := by
  refine hp_arc c hM rb4_k hD [m, z, f, s, g] rfl hy (hp_Bc (z := m) rfl b0 t0 (hp_Bc (z := z) rfl b1 t1 (hp_Bc (z := f) rfl b2 t2 (hp_Bc (z := s) rfl b3 t3 (hp_Bc (z := g) rfl b4 t4 hp_Bn))))) (hp_Fc (z := ((-1) + ((-1) * m + (1 * s + 0)))) rfl (by omega) hp_Fn) (hp_Kc (zi := (0 + 0)) (zv := (0 + (1 * s + 0))) k0 rfl rfl (by omega) (by omega) (hp_Kc (zi := (0 + 0)) (zv := (0 + (1 * g + 0))) k1 rfl rfl (by omega) (by omega) hp_Kn)) (hp_La l0 (hp_Li (z := (0 + (1 * m + 0))) l1 rfl (by omega) (hp_Li (z := (0 + (1 * z + 0))) l2 rfl (by omega) (hp_Li (z := (0 + (1 * f + 0))) l3 rfl (by omega) hp_Ln)))) trivial ?_ ?_
  · intro p hp ys l' st' h' hys a1 a2 a3 gZ gL gS
    cases hp
  · intro p hp ys v h' hys a1 a2 a3 gZ gS
    rcases List.mem_cons.mp hp with rfl | hp
    · obtain rfl := hp_y0 hys
      cases v with
      | none => cases gS
      | some w =>
        obtain ⟨y0, t0, s0, q0, -⟩ := hp_gSi (z := ((-2) + 0)) gS rfl
        cases s0
        exact r0 h' y0 (by omega) a1 a2 a3
    cases hp
theorem rb5_k : hp_chk 415 0 5 [(0, 0, 99), (1, 0, 9), (2, 0, 2147483647), (3, 0, 100), (4, 0, 399)] [((-1), [(0, (-1)), (3, 1)]), ((-1), [(2, 1), (4, (-1))])] [(0, .inr (.inr (.inl (some 94)))), (1, .inl (0, [(0, 1)])), (2, .inl (0, [(1, 1)])), (3, .inl (0, [(2, 1)]))] [] [(20024, (0, []), (0, [(3, 1)])), (19977, (0, []), (0, [(4, 1)]))] [] 4 [] [([], 5, [(0, 0, 99), (1, 0, 9), (2, 0, 2147483647), (3, 0, 100), (4, 0, 399)], [], [], [.inl ((-2), [])], [])] = true := by decide +kernel
theorem rb5 {cst : am_K} {strs : List Nat} {Φ : am_Q → Prop} {D : Nat} {M : am_M} {h : am_H} {l : am_L} (c : hp_C cst strs D) (hM : m_P[415]? = some M) (hD : (4 : Int) ≤ (D : Int) + 1) (hy : ly_hy m_tt ly_TH h) (m z f s g : Int) (b0 : 0 ≤ m) (t0 : m ≤ 99) (b1 : 0 ≤ z) (t1 : z ≤ 9) (b2 : 0 ≤ f) (t2 : f ≤ 2147483647) (b3 : 0 ≤ s) (t3 : s ≤ 100) (b4 : 0 ≤ g) (t4 : g ≤ 399) (f0 : 0 ≤ (s - m - 1)) (f1 : 0 ≤ (f - g - 1)) (k0 : ly_hv cst h 20024 0 = some (s)) (k1 : ly_hv cst h 19977 0 = some (g)) (l0 : hp_a l 0 94) (l1 : hp_i l 1 (m)) (l2 : hp_i l 2 (z)) (l3 : hp_i l 3 (f)) (r0 : ∀ (h' : am_H) (y0 : Int32), y0.toInt = (-2) → ly_hy m_tt ly_TH h' → ly_fr cst [] h h' → h.length ≤ h'.length → Φ (some (.int y0), h', 0, 0)) : hp_F cst strs Φ D M 0 l [] h := by
  refine hp_arc c hM rb5_k hD [m, z, f, s, g] rfl hy (hp_Bc (z := m) rfl b0 t0 (hp_Bc (z := z) rfl b1 t1 (hp_Bc (z := f) rfl b2 t2 (hp_Bc (z := s) rfl b3 t3 (hp_Bc (z := g) rfl b4 t4 hp_Bn))))) (hp_Fc (z := ((-1) + ((-1) * m + (1 * s + 0)))) rfl (by omega) (hp_Fc (z := ((-1) + (1 * f + ((-1) * g + 0)))) rfl (by omega) hp_Fn)) (hp_Kc (zi := (0 + 0)) (zv := (0 + (1 * s + 0))) k0 rfl rfl (by omega) (by omega) (hp_Kc (zi := (0 + 0)) (zv := (0 + (1 * g + 0))) k1 rfl rfl (by omega) (by omega) hp_Kn)) (hp_La l0 (hp_Li (z := (0 + (1 * m + 0))) l1 rfl (by omega) (hp_Li (z := (0 + (1 * z + 0))) l2 rfl (by omega) (hp_Li (z := (0 + (1 * f + 0))) l3 rfl (by omega) hp_Ln)))) trivial ?_ ?_
  · intro p hp ys l' st' h' hys a1 a2 a3 gZ gL gS
    cases hp
  · intro p hp ys v h' hys a1 a2 a3 gZ gS
    rcases List.mem_cons.mp hp with rfl | hp
    · obtain rfl := hp_y0 hys
      cases v with
      | none => cases gS
      | some w =>
        obtain ⟨y0, t0, s0, q0, -⟩ := hp_gSi (z := ((-2) + 0)) gS rfl
        cases s0
        exact r0 h' y0 (by omega) a1 a2 a3
    cases hp
theorem rak_k : hp_chk 259 0 5 [(0, 0, 99), (1, 0, 9), (2, 0, 399), (3, 0, 100), (4, 0, 399)] [((-1), [(0, (-1)), (3, 1)]), (0, [(2, (-1)), (4, 1)])] [(0, .inr (.inr (.inl (some 16)))), (1, .inl (0, [(0, 1)])), (2, .inl (0, [(1, 1)])), (3, .inl (0, [(2, 1)]))] [] [(7170, (0, []), (0, [(3, 1)])), (10, (0, []), (0, [(4, 1)])), (7424, (0, [(0, 1)]), (1, []))] [] 4 [(47, ([], 5, [(0, 0, 99), (1, 0, 9), (2, 0, 399), (3, 0, 100), (4, 0, 399)], [], [(0, .inr (.inr (.inl (some 16))))], [.inl (0, [(4, 1)]), .inl (0, [(2, 1)]), .inl (0, [(1, 1)]), .inl (0, [(0, 1)]), .inr (.inr (.inl (some 44)))], []))] [] = true := by decide +kernel
theorem rak {cst : am_K} {strs : List Nat} {Φ : am_Q → Prop} {D : Nat} {M : am_M} {h : am_H} {l : am_L} (c : hp_C cst strs D) (hM : m_P[259]? = some M) (hD : (4 : Int) ≤ (D : Int) + 1) (hy : ly_hy m_tt ly_TH h) (m z f s g : Int) (b0 : 0 ≤ m) (t0 : m ≤ 99) (b1 : 0 ≤ z) (t1 : z ≤ 9) (b2 : 0 ≤ f) (t2 : f ≤ 399) (b3 : 0 ≤ s) (t3 : s ≤ 100) (b4 : 0 ≤ g) (t4 : g ≤ 399) (f0 : 0 ≤ (s - m - 1)) (f1 : 0 ≤ (g - f)) (k0 : ly_hv cst h 7170 0 = some (s)) (k1 : ly_hv cst h 10 0 = some (g)) (k2 : ly_hv cst h 7424 (m) = some 1) (l0 : hp_a l 0 16) (l1 : hp_i l 1 (m)) (l2 : hp_i l 2 (z)) (l3 : hp_i l 3 (f)) (e0 : ∀ (l' : am_L) (h' : am_H) (y0 : Int32) (y1 : Int32) (y2 : Int32) (y3 : Int32), y0.toInt = (g) → y1.toInt = (f) → y2.toInt = (z) → y3.toInt = (m) → ly_hy m_tt ly_TH h' → ly_fr cst [] h h' → h.length ≤ h'.length → hp_a l' 0 16 → hp_F cst strs Φ D M 47 l' [.int y0, .int y1, .int y2, .int y3, .ref 44] h') : hp_F cst strs Φ D M 0 l [] h := by
  refine hp_arc c hM rak_k hD [m, z, f, s, g] rfl hy (hp_Bc (z := m) rfl b0 t0 (hp_Bc (z := z) rfl b1 t1 (hp_Bc (z := f) rfl b2 t2 (hp_Bc (z := s) rfl b3 t3 (hp_Bc (z := g) rfl b4 t4 hp_Bn))))) (hp_Fc (z := ((-1) + ((-1) * m + (1 * s + 0)))) rfl (by omega) (hp_Fc (z := (0 + ((-1) * f + (1 * g + 0)))) rfl (by omega) hp_Fn)) (hp_Kc (zi := (0 + 0)) (zv := (0 + (1 * s + 0))) k0 rfl rfl (by omega) (by omega) (hp_Kc (zi := (0 + 0)) (zv := (0 + (1 * g + 0))) k1 rfl rfl (by omega) (by omega) (hp_Kc (zi := (0 + (1 * m + 0))) (zv := (1 + 0)) k2 rfl rfl (by omega) (by omega) hp_Kn))) (hp_La l0 (hp_Li (z := (0 + (1 * m + 0))) l1 rfl (by omega) (hp_Li (z := (0 + (1 * z + 0))) l2 rfl (by omega) (hp_Li (z := (0 + (1 * f + 0))) l3 rfl (by omega) hp_Ln)))) trivial ?_ ?_
  · intro p hp ys l' st' h' hys a1 a2 a3 gZ gL gS
    rcases List.mem_cons.mp hp with rfl | hp
    · obtain rfl := hp_y0 hys
      obtain ⟨y0, t0, rfl, q0, g0⟩ := hp_gSi (z := (0 + (1 * g + 0))) gS rfl
      obtain ⟨y1, t1, rfl, q1, g1⟩ := hp_gSi (z := (0 + (1 * f + 0))) g0 rfl
      obtain ⟨y2, t2, rfl, q2, g2⟩ := hp_gSi (z := (0 + (1 * z + 0))) g1 rfl
      obtain ⟨y3, t3, rfl, q3, g3⟩ := hp_gSi (z := (0 + (1 * m + 0))) g2 rfl
      obtain ⟨t4, rfl, g4⟩ := hp_gSa g3 (by decide)
      cases hp_gSn g4
      exact e0 l' h' y0 y1 y2 y3 (by omega) (by omega) (by omega) (by omega) a1 a2 a3 (hp_gLa gL (List.mem_of_getElem? (i := 0) rfl) (by decide))
    cases hp
  · intro p hp ys v h' hys a1 a2 a3 gZ gS
    cases hp
theorem rar_k : hp_chk 259 50 1 [(0, (-2147483648), 2147483647)] [] [(0, .inr (.inr (.inl (some 16))))] [.inl (0, [(0, 1)])] [] [] 2 [] [([], 1, [(0, (-2147483648), 2147483647)], [], [], [.inl (0, [(0, 1)])], [])] = true := by decide +kernel
theorem rar {cst : am_K} {strs : List Nat} {Φ : am_Q → Prop} {D : Nat} {M : am_M} {h : am_H} {l : am_L} (c : hp_C cst strs D) (hM : m_P[259]? = some M) (hD : (2 : Int) ≤ (D : Int) + 1) (hy : ly_hy m_tt ly_TH h) (a : Int) (x0 : Int32) (hx0 : x0.toInt = (a)) (b0 : (-2147483648) ≤ a) (t0 : a ≤ 2147483647) (l0 : hp_a l 0 16) (r0 : ∀ (h' : am_H) (y0 : Int32), y0.toInt = (a) → ly_hy m_tt ly_TH h' → ly_fr cst [] h h' → h.length ≤ h'.length → Φ (some (.int y0), h', 0, 0)) : hp_F cst strs Φ D M 50 l [.int x0] h := by
  refine hp_arc c hM rar_k hD [a] rfl hy (hp_Bc (z := a) rfl b0 t0 hp_Bn) hp_Fn hp_Kn (hp_La l0 hp_Ln) (hp_Si (z := (0 + (1 * a + 0))) rfl (by omega) trivial) ?_ ?_
  · intro p hp ys l' st' h' hys a1 a2 a3 gZ gL gS
    cases hp
  · intro p hp ys v h' hys a1 a2 a3 gZ gS
    rcases List.mem_cons.mp hp with rfl | hp
    · obtain rfl := hp_y0 hys
      cases v with
      | none => cases gS
      | some w =>
        obtain ⟨y0, t0, s0, q0, -⟩ := hp_gSi (z := (0 + (1 * a + 0))) gS rfl
        cases s0
        exact r0 h' y0 (by omega) a1 a2 a3
    cases hp
theorem rg0_k : hp_chk 260 0 4 [(0, 0, 99), (1, (-2147483648), 2147483647), (2, (-2147483648), 2147483647), (3, 0, 399)] [] [(0, .inr (.inr (.inl (some 44)))), (1, .inl (0, [(0, 1)])), (2, .inl (0, [(1, 1)])), (3, .inl (0, [(2, 1)])), (4, .inl (0, [(3, 1)]))] [] [(8448, (0, [(0, 1)]), (40, []))] [] 2 [] [([], 4, [(0, 0, 99), (1, (-2147483648), 2147483647), (2, (-2147483648), 2147483647), (3, 0, 399)], [], [], [.inl ((-3), [])], [])] = true := by decide +kernel
theorem rg0 {cst : am_K} {strs : List Nat} {Φ : am_Q → Prop} {D : Nat} {M : am_M} {h : am_H} {l : am_L} (c : hp_C cst strs D) (hM : m_P[260]? = some M) (hD : (2 : Int) ≤ (D : Int) + 1) (hy : ly_hy m_tt ly_TH h) (m z f g : Int) (b0 : 0 ≤ m) (t0 : m ≤ 99) (b1 : (-2147483648) ≤ z) (t1 : z ≤ 2147483647) (b2 : (-2147483648) ≤ f) (t2 : f ≤ 2147483647) (b3 : 0 ≤ g) (t3 : g ≤ 399) (k0 : ly_hv cst h 8448 (m) = some 40) (l0 : hp_a l 0 44) (l1 : hp_i l 1 (m)) (l2 : hp_i l 2 (z)) (l3 : hp_i l 3 (f)) (l4 : hp_i l 4 (g)) (r0 : ∀ (h' : am_H) (y0 : Int32), y0.toInt = (-3) → ly_hy m_tt ly_TH h' → ly_fr cst [] h h' → h.length ≤ h'.length → Φ (some (.int y0), h', 0, 0)) : hp_F cst strs Φ D M 0 l [] h := by
  refine hp_arc c hM rg0_k hD [m, z, f, g] rfl hy (hp_Bc (z := m) rfl b0 t0 (hp_Bc (z := z) rfl b1 t1 (hp_Bc (z := f) rfl b2 t2 (hp_Bc (z := g) rfl b3 t3 hp_Bn)))) hp_Fn (hp_Kc (zi := (0 + (1 * m + 0))) (zv := (40 + 0)) k0 rfl rfl (by omega) (by omega) hp_Kn) (hp_La l0 (hp_Li (z := (0 + (1 * m + 0))) l1 rfl (by omega) (hp_Li (z := (0 + (1 * z + 0))) l2 rfl (by omega) (hp_Li (z := (0 + (1 * f + 0))) l3 rfl (by omega) (hp_Li (z := (0 + (1 * g + 0))) l4 rfl (by omega) hp_Ln))))) trivial ?_ ?_
  · intro p hp ys l' st' h' hys a1 a2 a3 gZ gL gS
    cases hp
  · intro p hp ys v h' hys a1 a2 a3 gZ gS
    rcases List.mem_cons.mp hp with rfl | hp
    · obtain rfl := hp_y0 hys
      cases v with
      | none => cases gS
      | some w =>
        obtain ⟨y0, t0, s0, q0, -⟩ := hp_gSi (z := ((-3) + 0)) gS rfl
        cases s0
        exact r0 h' y0 (by omega) a1 a2 a3
    cases hp
theorem rg1_k : hp_chk 260 0 5 [(0, 0, 99), (1, (-2147483648), 2147483647), (2, (-2147483648), 2147483647), (3, 0, 399), (4, 0, 39)] [] [(0, .inr (.inr (.inl (some 44)))), (1, .inl (0, [(0, 1)])), (2, .inl (0, [(1, 1)])), (3, .inl (0, [(2, 1)])), (4, .inl (0, [(3, 1)]))] [] [(8448, (0, [(0, 1)]), (0, [(4, 1)]))] [] 2 [(33, ([], 5, [(0, 0, 99), (1, (-2147483648), 2147483647), (2, (-2147483648), 2147483647), (3, 0, 399), (4, 0, 39)], [], [(0, .inr (.inr (.inl (some 44)))), (1, .inl (0, [(0, 1)])), (2, .inl (0, [(1, 1)])), (3, .inl (0, [(2, 1)])), (4, .inl (0, [(3, 1)]))], [.inl (1, [(4, 1)]), .inl (0, [(0, 1)]), .inr (.inr (.inl (some 49)))], []))] [] = true := by decide +kernel
theorem rg1 {cst : am_K} {strs : List Nat} {Φ : am_Q → Prop} {D : Nat} {M : am_M} {h : am_H} {l : am_L} (c : hp_C cst strs D) (hM : m_P[260]? = some M) (hD : (2 : Int) ≤ (D : Int) + 1) (hy : ly_hy m_tt ly_TH h) (m z f g v : Int) (b0 : 0 ≤ m) (t0 : m ≤ 99) (b1 : (-2147483648) ≤ z) (t1 : z ≤ 2147483647) (b2 : (-2147483648) ≤ f) (t2 : f ≤ 2147483647) (b3 : 0 ≤ g) (t3 : g ≤ 399) (b4 : 0 ≤ v) (t4 : v ≤ 39) (k0 : ly_hv cst h 8448 (m) = some (v)) (l0 : hp_a l 0 44) (l1 : hp_i l 1 (m)) (l2 : hp_i l 2 (z)) (l3 : hp_i l 3 (f)) (l4 : hp_i l 4 (g)) (e0 : ∀ (l' : am_L) (h' : am_H) (y0 : Int32) (y1 : Int32), y0.toInt = (v + 1) → y1.toInt = (m) → ly_hy m_tt ly_TH h' → ly_fr cst [] h h' → h.length ≤ h'.length → hp_a l' 0 44 → hp_i l' 1 (m) → hp_i l' 2 (z) → hp_i l' 3 (f) → hp_i l' 4 (g) → hp_F cst strs Φ D M 33 l' [.int y0, .int y1, .ref 49] h') : hp_F cst strs Φ D M 0 l [] h := by
  refine hp_arc c hM rg1_k hD [m, z, f, g, v] rfl hy (hp_Bc (z := m) rfl b0 t0 (hp_Bc (z := z) rfl b1 t1 (hp_Bc (z := f) rfl b2 t2 (hp_Bc (z := g) rfl b3 t3 (hp_Bc (z := v) rfl b4 t4 hp_Bn))))) hp_Fn (hp_Kc (zi := (0 + (1 * m + 0))) (zv := (0 + (1 * v + 0))) k0 rfl rfl (by omega) (by omega) hp_Kn) (hp_La l0 (hp_Li (z := (0 + (1 * m + 0))) l1 rfl (by omega) (hp_Li (z := (0 + (1 * z + 0))) l2 rfl (by omega) (hp_Li (z := (0 + (1 * f + 0))) l3 rfl (by omega) (hp_Li (z := (0 + (1 * g + 0))) l4 rfl (by omega) hp_Ln))))) trivial ?_ ?_
  · intro p hp ys l' st' h' hys a1 a2 a3 gZ gL gS
    rcases List.mem_cons.mp hp with rfl | hp
    · obtain rfl := hp_y0 hys
      obtain ⟨y0, t0, rfl, q0, g0⟩ := hp_gSi (z := (1 + (1 * v + 0))) gS rfl
      obtain ⟨y1, t1, rfl, q1, g1⟩ := hp_gSi (z := (0 + (1 * m + 0))) g0 rfl
      obtain ⟨t2, rfl, g2⟩ := hp_gSa g1 (by decide)
      cases hp_gSn g2
      exact e0 l' h' y0 y1 (by omega) (by omega) a1 a2 a3 (hp_gLa gL (List.mem_of_getElem? (i := 0) rfl) (by decide)) (hp_gLi (z := (0 + (1 * m + 0))) gL (List.mem_of_getElem? (i := 1) rfl) rfl (by omega)) (hp_gLi (z := (0 + (1 * z + 0))) gL (List.mem_of_getElem? (i := 2) rfl) rfl (by omega)) (hp_gLi (z := (0 + (1 * f + 0))) gL (List.mem_of_getElem? (i := 3) rfl) rfl (by omega)) (hp_gLi (z := (0 + (1 * g + 0))) gL (List.mem_of_getElem? (i := 4) rfl) rfl (by omega))
    cases hp
  · intro p hp ys v h' hys a1 a2 a3 gZ gS
    cases hp
theorem rg2_k : hp_chk 260 34 5 [(0, 0, 99), (1, (-2147483648), 2147483647), (2, (-2147483648), 2147483647), (3, 0, 399), (4, 1, 40)] [] [(0, .inr (.inr (.inl (some 44)))), (1, .inl (0, [(0, 1)])), (2, .inl (0, [(1, 1)])), (3, .inl (0, [(2, 1)])), (4, .inl (0, [(3, 1)]))] [] [(8448, (0, [(0, 1)]), (0, [(4, 1)]))] [7182, 8704, 8960, 9216, 9472] 4 [] [([], 5, [(0, 0, 99), (1, (-2147483648), 2147483647), (2, (-2147483648), 2147483647), (3, 0, 399), (4, 1, 40)], [], [], [.inl (0, [(4, 1)])], [(8448, (0, [(0, 1)]), (0, [(4, 1)]))])] = true := by decide +kernel
theorem rg2 {cst : am_K} {strs : List Nat} {Φ : am_Q → Prop} {D : Nat} {M : am_M} {h : am_H} {l : am_L} (c : hp_C cst strs D) (hM : m_P[260]? = some M) (hD : (4 : Int) ≤ (D : Int) + 1) (hy : ly_hy m_tt ly_TH h) (m z f g v : Int) (b0 : 0 ≤ m) (t0 : m ≤ 99) (b1 : (-2147483648) ≤ z) (t1 : z ≤ 2147483647) (b2 : (-2147483648) ≤ f) (t2 : f ≤ 2147483647) (b3 : 0 ≤ g) (t3 : g ≤ 399) (b4 : 1 ≤ v) (t4 : v ≤ 40) (k0 : ly_hv cst h 8448 (m) = some (v)) (l0 : hp_a l 0 44) (l1 : hp_i l 1 (m)) (l2 : hp_i l 2 (z)) (l3 : hp_i l 3 (f)) (l4 : hp_i l 4 (g)) (r0 : ∀ (h' : am_H) (y0 : Int32), y0.toInt = (v) → ly_hy m_tt ly_TH h' → ly_fr cst [7182, 8704, 8960, 9216, 9472] h h' → h.length ≤ h'.length → ly_hv cst h' 8448 (m) = some (v) → Φ (some (.int y0), h', 0, 0)) : hp_F cst strs Φ D M 34 l [] h := by
  refine hp_arc c hM rg2_k hD [m, z, f, g, v] rfl hy (hp_Bc (z := m) rfl b0 t0 (hp_Bc (z := z) rfl b1 t1 (hp_Bc (z := f) rfl b2 t2 (hp_Bc (z := g) rfl b3 t3 (hp_Bc (z := v) rfl b4 t4 hp_Bn))))) hp_Fn (hp_Kc (zi := (0 + (1 * m + 0))) (zv := (0 + (1 * v + 0))) k0 rfl rfl (by omega) (by omega) hp_Kn) (hp_La l0 (hp_Li (z := (0 + (1 * m + 0))) l1 rfl (by omega) (hp_Li (z := (0 + (1 * z + 0))) l2 rfl (by omega) (hp_Li (z := (0 + (1 * f + 0))) l3 rfl (by omega) (hp_Li (z := (0 + (1 * g + 0))) l4 rfl (by omega) hp_Ln))))) trivial ?_ ?_
  · intro p hp ys l' st' h' hys a1 a2 a3 gZ gL gS
    cases hp
  · intro p hp ys v h' hys a1 a2 a3 gZ gS
    rcases List.mem_cons.mp hp with rfl | hp
    · obtain rfl := hp_y0 hys
      cases v with
      | none => cases gS
      | some w =>
        obtain ⟨y0, t0, s0, q0, -⟩ := hp_gSi (z := (0 + (1 * v + 0))) gS rfl
        cases s0
        exact r0 h' y0 (by omega) a1 a2 a3 (hp_gK (zi := (0 + (1 * m + 0))) (zv := (0 + (1 * v + 0))) gZ.2.2.2 (List.mem_of_getElem? (i := 0) rfl) rfl rfl (by omega) (by omega))
    cases hp
theorem rbk_k : hp_chk 415 0 5 [(0, 0, 99), (1, 0, 9), (2, 0, 399), (3, 0, 100), (4, 0, 399)] [((-1), [(0, (-1)), (3, 1)]), (0, [(2, (-1)), (4, 1)])] [(0, .inr (.inr (.inl (some 94)))), (1, .inl (0, [(0, 1)])), (2, .inl (0, [(1, 1)])), (3, .inl (0, [(2, 1)]))] [] [(20024, (0, []), (0, [(3, 1)])), (19977, (0, []), (0, [(4, 1)]))] [] 4 [(39, ([], 5, [(0, 0, 99), (1, 0, 9), (2, 0, 399), (3, 0, 100), (4, 0, 399)], [], [(0, .inr (.inr (.inl (some 94)))), (1, .inl (0, [(0, 1)])), (2, .inl (0, [(1, 1)])), (3, .inl (0, [(2, 1)])), (4, .inl (0, [])), (5, .inl (0, []))], [], []))] [] = true := by decide +kernel
theorem rbk {cst : am_K} {strs : List Nat} {Φ : am_Q → Prop} {D : Nat} {M : am_M} {h : am_H} {l : am_L} (c : hp_C cst strs D) (hM : m_P[415]? = some M) (hD : (4 : Int) ≤ (D : Int) + 1) (hy : ly_hy m_tt ly_TH h) (m z f s g : Int) (b0 : 0 ≤ m) (t0 : m ≤ 99) (b1 : 0 ≤ z) (t1 : z ≤ 9) (b2 : 0 ≤ f) (t2 : f ≤ 399) (b3 : 0 ≤ s) (t3 : s ≤ 100) (b4 : 0 ≤ g) (t4 : g ≤ 399) (f0 : 0 ≤ (s - m - 1)) (f1 : 0 ≤ (g - f)) (k0 : ly_hv cst h 20024 0 = some (s)) (k1 : ly_hv cst h 19977 0 = some (g)) (l0 : hp_a l 0 94) (l1 : hp_i l 1 (m)) (l2 : hp_i l 2 (z)) (l3 : hp_i l 3 (f)) (e0 : ∀ (l' : am_L) (h' : am_H), ly_hy m_tt ly_TH h' → ly_fr cst [] h h' → h.length ≤ h'.length → hp_a l' 0 94 → hp_i l' 1 (m) → hp_i l' 2 (z) → hp_i l' 3 (f) → hp_i l' 4 0 → hp_i l' 5 0 → hp_F cst strs Φ D M 39 l' [] h') : hp_F cst strs Φ D M 0 l [] h := by
  refine hp_arc c hM rbk_k hD [m, z, f, s, g] rfl hy (hp_Bc (z := m) rfl b0 t0 (hp_Bc (z := z) rfl b1 t1 (hp_Bc (z := f) rfl b2 t2 (hp_Bc (z := s) rfl b3 t3 (hp_Bc (z := g) rfl b4 t4 hp_Bn))))) (hp_Fc (z := ((-1) + ((-1) * m + (1 * s + 0)))) rfl (by omega) (hp_Fc (z := (0 + ((-1) * f + (1 * g + 0)))) rfl (by omega) hp_Fn)) (hp_Kc (zi := (0 + 0)) (zv := (0 + (1 * s + 0))) k0 rfl rfl (by omega) (by omega) (hp_Kc (zi := (0 + 0)) (zv := (0 + (1 * g + 0))) k1 rfl rfl (by omega) (by omega) hp_Kn)) (hp_La l0 (hp_Li (z := (0 + (1 * m + 0))) l1 rfl (by omega) (hp_Li (z := (0 + (1 * z + 0))) l2 rfl (by omega) (hp_Li (z := (0 + (1 * f + 0))) l3 rfl (by omega) hp_Ln)))) trivial ?_ ?_
  · intro p hp ys l' st' h' hys a1 a2 a3 gZ gL gS
    rcases List.mem_cons.mp hp with rfl | hp
    · obtain rfl := hp_y0 hys
      cases hp_gSn gS
      exact e0 l' h' a1 a2 a3 (hp_gLa gL (List.mem_of_getElem? (i := 0) rfl) (by decide)) (hp_gLi (z := (0 + (1 * m + 0))) gL (List.mem_of_getElem? (i := 1) rfl) rfl (by omega)) (hp_gLi (z := (0 + (1 * z + 0))) gL (List.mem_of_getElem? (i := 2) rfl) rfl (by omega)) (hp_gLi (z := (0 + (1 * f + 0))) gL (List.mem_of_getElem? (i := 3) rfl) rfl (by omega)) (hp_gLi (z := (0 + 0)) gL (List.mem_of_getElem? (i := 4) rfl) rfl (by omega)) (hp_gLi (z := (0 + 0)) gL (List.mem_of_getElem? (i := 5) rfl) rfl (by omega))
    cases hp
  · intro p hp ys v h' hys a1 a2 a3 gZ gS
    cases hp
theorem rd0_k : hp_chk 415 39 6 [(0, 0, 99), (1, 0, 9), (2, 0, 399), (3, 0, 511), (4, 0, 511), (5, 0, 510)] [((-1), [(3, 1), (5, (-1))]), (0, [(4, (-1)), (5, 1)])] [(0, .inr (.inr (.inl (some 94)))), (1, .inl (0, [(0, 1)])), (2, .inl (0, [(1, 1)])), (3, .inl (0, [(2, 1)])), (4, .inl (0, [(4, 1)])), (5, .inl (0, [(5, 1)]))] [] [(20055, (0, []), (0, [(3, 1)])), (36096, (0, [(5, 1)]), (0, [(0, 1)]))] [] 2 [(39, ([], 6, [(0, 0, 99), (1, 0, 9), (2, 0, 399), (3, 0, 511), (4, 0, 511), (5, 0, 510)], [], [(0, .inr (.inr (.inl (some 94)))), (1, .inl (0, [(0, 1)])), (2, .inl (0, [(1, 1)])), (3, .inl (0, [(2, 1)])), (4, .inl (1, [(4, 1)])), (5, .inl (1, [(5, 1)]))], [], []))] [] = true := by decide +kernel
theorem rd0 {cst : am_K} {strs : List Nat} {Φ : am_Q → Prop} {D : Nat} {M : am_M} {h : am_H} {l : am_L} (c : hp_C cst strs D) (hM : m_P[415]? = some M) (hD : (2 : Int) ≤ (D : Int) + 1) (hy : ly_hy m_tt ly_TH h) (m z f r cn k : Int) (b0 : 0 ≤ m) (t0 : m ≤ 99) (b1 : 0 ≤ z) (t1 : z ≤ 9) (b2 : 0 ≤ f) (t2 : f ≤ 399) (b3 : 0 ≤ r) (t3 : r ≤ 511) (b4 : 0 ≤ cn) (t4 : cn ≤ 511) (b5 : 0 ≤ k) (t5 : k ≤ 510) (f0 : 0 ≤ (r - k - 1)) (f1 : 0 ≤ (k - cn)) (k0 : ly_hv cst h 20055 0 = some (r)) (k1 : ly_hv cst h 36096 (k) = some (m)) (l0 : hp_a l 0 94) (l1 : hp_i l 1 (m)) (l2 : hp_i l 2 (z)) (l3 : hp_i l 3 (f)) (l4 : hp_i l 4 (cn)) (l5 : hp_i l 5 (k)) (e0 : ∀ (l' : am_L) (h' : am_H), ly_hy m_tt ly_TH h' → ly_fr cst [] h h' → h.length ≤ h'.length → hp_a l' 0 94 → hp_i l' 1 (m) → hp_i l' 2 (z) → hp_i l' 3 (f) → hp_i l' 4 (cn + 1) → hp_i l' 5 (k + 1) → hp_F cst strs Φ D M 39 l' [] h') : hp_F cst strs Φ D M 39 l [] h := by
  refine hp_arc c hM rd0_k hD [m, z, f, r, cn, k] rfl hy (hp_Bc (z := m) rfl b0 t0 (hp_Bc (z := z) rfl b1 t1 (hp_Bc (z := f) rfl b2 t2 (hp_Bc (z := r) rfl b3 t3 (hp_Bc (z := cn) rfl b4 t4 (hp_Bc (z := k) rfl b5 t5 hp_Bn)))))) (hp_Fc (z := ((-1) + (1 * r + ((-1) * k + 0)))) rfl (by omega) (hp_Fc (z := (0 + ((-1) * cn + (1 * k + 0)))) rfl (by omega) hp_Fn)) (hp_Kc (zi := (0 + 0)) (zv := (0 + (1 * r + 0))) k0 rfl rfl (by omega) (by omega) (hp_Kc (zi := (0 + (1 * k + 0))) (zv := (0 + (1 * m + 0))) k1 rfl rfl (by omega) (by omega) hp_Kn)) (hp_La l0 (hp_Li (z := (0 + (1 * m + 0))) l1 rfl (by omega) (hp_Li (z := (0 + (1 * z + 0))) l2 rfl (by omega) (hp_Li (z := (0 + (1 * f + 0))) l3 rfl (by omega) (hp_Li (z := (0 + (1 * cn + 0))) l4 rfl (by omega) (hp_Li (z := (0 + (1 * k + 0))) l5 rfl (by omega) hp_Ln)))))) trivial ?_ ?_
  · intro p hp ys l' st' h' hys a1 a2 a3 gZ gL gS
    rcases List.mem_cons.mp hp with rfl | hp
    · obtain rfl := hp_y0 hys
      cases hp_gSn gS
      exact e0 l' h' a1 a2 a3 (hp_gLa gL (List.mem_of_getElem? (i := 0) rfl) (by decide)) (hp_gLi (z := (0 + (1 * m + 0))) gL (List.mem_of_getElem? (i := 1) rfl) rfl (by omega)) (hp_gLi (z := (0 + (1 * z + 0))) gL (List.mem_of_getElem? (i := 2) rfl) rfl (by omega)) (hp_gLi (z := (0 + (1 * f + 0))) gL (List.mem_of_getElem? (i := 3) rfl) rfl (by omega)) (hp_gLi (z := (1 + (1 * cn + 0))) gL (List.mem_of_getElem? (i := 4) rfl) rfl (by omega)) (hp_gLi (z := (1 + (1 * k + 0))) gL (List.mem_of_getElem? (i := 5) rfl) rfl (by omega))
    cases hp
  · intro p hp ys v h' hys a1 a2 a3 gZ gS
    cases hp
theorem rd1_k : hp_chk 415 39 7 [(0, 0, 99), (1, 0, 9), (2, 0, 399), (3, 0, 511), (4, 0, 511), (5, 0, 510), (6, (-2147483648), 2147483647)] [((-1), [(3, 1), (5, (-1))]), (0, [(4, (-1)), (5, 1)])] [(0, .inr (.inr (.inl (some 94)))), (1, .inl (0, [(0, 1)])), (2, .inl (0, [(1, 1)])), (3, .inl (0, [(2, 1)])), (4, .inl (0, [(4, 1)])), (5, .inl (0, [(5, 1)]))] [] [(20055, (0, []), (0, [(3, 1)])), (36096, (0, [(5, 1)]), (0, [(6, 1)])), (61000, (0, [(0, (-1)), (6, 1)]), (1, []))] [] 2 [(39, ([], 7, [(0, 0, 99), (1, 0, 9), (2, 0, 399), (3, 0, 511), (4, 0, 511), (5, 0, 510), (6, (-2147483648), 2147483647)], [], [(0, .inr (.inr (.inl (some 94)))), (1, .inl (0, [(0, 1)])), (2, .inl (0, [(1, 1)])), (3, .inl (0, [(2, 1)])), (4, .inl (0, [(4, 1)])), (5, .inl (1, [(5, 1)]))], [], []))] [] = true := by decide +kernel
theorem rd1 {cst : am_K} {strs : List Nat} {Φ : am_Q → Prop} {D : Nat} {M : am_M} {h : am_H} {l : am_L} (c : hp_C cst strs D) (hM : m_P[415]? = some M) (hD : (2 : Int) ≤ (D : Int) + 1) (hy : ly_hy m_tt ly_TH h) (m z f r cn k x : Int) (b0 : 0 ≤ m) (t0 : m ≤ 99) (b1 : 0 ≤ z) (t1 : z ≤ 9) (b2 : 0 ≤ f) (t2 : f ≤ 399) (b3 : 0 ≤ r) (t3 : r ≤ 511) (b4 : 0 ≤ cn) (t4 : cn ≤ 511) (b5 : 0 ≤ k) (t5 : k ≤ 510) (b6 : (-2147483648) ≤ x) (t6 : x ≤ 2147483647) (f0 : 0 ≤ (r - k - 1)) (f1 : 0 ≤ (k - cn)) (k0 : ly_hv cst h 20055 0 = some (r)) (k1 : ly_hv cst h 36096 (k) = some (x)) (k2 : ly_hv cst h 61000 (x - m) = some 1) (l0 : hp_a l 0 94) (l1 : hp_i l 1 (m)) (l2 : hp_i l 2 (z)) (l3 : hp_i l 3 (f)) (l4 : hp_i l 4 (cn)) (l5 : hp_i l 5 (k)) (e0 : ∀ (l' : am_L) (h' : am_H), ly_hy m_tt ly_TH h' → ly_fr cst [] h h' → h.length ≤ h'.length → hp_a l' 0 94 → hp_i l' 1 (m) → hp_i l' 2 (z) → hp_i l' 3 (f) → hp_i l' 4 (cn) → hp_i l' 5 (k + 1) → hp_F cst strs Φ D M 39 l' [] h') : hp_F cst strs Φ D M 39 l [] h := by
  refine hp_arc c hM rd1_k hD [m, z, f, r, cn, k, x] rfl hy (hp_Bc (z := m) rfl b0 t0 (hp_Bc (z := z) rfl b1 t1 (hp_Bc (z := f) rfl b2 t2 (hp_Bc (z := r) rfl b3 t3 (hp_Bc (z := cn) rfl b4 t4 (hp_Bc (z := k) rfl b5 t5 (hp_Bc (z := x) rfl b6 t6 hp_Bn))))))) (hp_Fc (z := ((-1) + (1 * r + ((-1) * k + 0)))) rfl (by omega) (hp_Fc (z := (0 + ((-1) * cn + (1 * k + 0)))) rfl (by omega) hp_Fn)) (hp_Kc (zi := (0 + 0)) (zv := (0 + (1 * r + 0))) k0 rfl rfl (by omega) (by omega) (hp_Kc (zi := (0 + (1 * k + 0))) (zv := (0 + (1 * x + 0))) k1 rfl rfl (by omega) (by omega) (hp_Kc (zi := (0 + ((-1) * m + (1 * x + 0)))) (zv := (1 + 0)) k2 rfl rfl (by omega) (by omega) hp_Kn))) (hp_La l0 (hp_Li (z := (0 + (1 * m + 0))) l1 rfl (by omega) (hp_Li (z := (0 + (1 * z + 0))) l2 rfl (by omega) (hp_Li (z := (0 + (1 * f + 0))) l3 rfl (by omega) (hp_Li (z := (0 + (1 * cn + 0))) l4 rfl (by omega) (hp_Li (z := (0 + (1 * k + 0))) l5 rfl (by omega) hp_Ln)))))) trivial ?_ ?_
  · intro p hp ys l' st' h' hys a1 a2 a3 gZ gL gS
    rcases List.mem_cons.mp hp with rfl | hp
    · obtain rfl := hp_y0 hys
      cases hp_gSn gS
      exact e0 l' h' a1 a2 a3 (hp_gLa gL (List.mem_of_getElem? (i := 0) rfl) (by decide)) (hp_gLi (z := (0 + (1 * m + 0))) gL (List.mem_of_getElem? (i := 1) rfl) rfl (by omega)) (hp_gLi (z := (0 + (1 * z + 0))) gL (List.mem_of_getElem? (i := 2) rfl) rfl (by omega)) (hp_gLi (z := (0 + (1 * f + 0))) gL (List.mem_of_getElem? (i := 3) rfl) rfl (by omega)) (hp_gLi (z := (0 + (1 * cn + 0))) gL (List.mem_of_getElem? (i := 4) rfl) rfl (by omega)) (hp_gLi (z := (1 + (1 * k + 0))) gL (List.mem_of_getElem? (i := 5) rfl) rfl (by omega))
    cases hp
  · intro p hp ys v h' hys a1 a2 a3 gZ gS
    cases hp
theorem rd2_k : hp_chk 415 39 4 [(0, 0, 99), (1, 0, 9), (2, 0, 399), (3, 0, 511)] [] [(0, .inr (.inr (.inl (some 94)))), (1, .inl (0, [(0, 1)])), (2, .inl (0, [(1, 1)])), (3, .inl (0, [(2, 1)])), (4, .inl (40, [])), (5, .inl (0, [(3, 1)]))] [] [(20055, (0, []), (0, [(3, 1)]))] [] 2 [] [([], 4, [(0, 0, 99), (1, 0, 9), (2, 0, 399), (3, 0, 511)], [], [], [.inl ((-3), [])], [])] = true := by decide +kernel
theorem rd2 {cst : am_K} {strs : List Nat} {Φ : am_Q → Prop} {D : Nat} {M : am_M} {h : am_H} {l : am_L} (c : hp_C cst strs D) (hM : m_P[415]? = some M) (hD : (2 : Int) ≤ (D : Int) + 1) (hy : ly_hy m_tt ly_TH h) (m z f r : Int) (b0 : 0 ≤ m) (t0 : m ≤ 99) (b1 : 0 ≤ z) (t1 : z ≤ 9) (b2 : 0 ≤ f) (t2 : f ≤ 399) (b3 : 0 ≤ r) (t3 : r ≤ 511) (k0 : ly_hv cst h 20055 0 = some (r)) (l0 : hp_a l 0 94) (l1 : hp_i l 1 (m)) (l2 : hp_i l 2 (z)) (l3 : hp_i l 3 (f)) (l4 : hp_i l 4 40) (l5 : hp_i l 5 (r)) (r0 : ∀ (h' : am_H) (y0 : Int32), y0.toInt = (-3) → ly_hy m_tt ly_TH h' → ly_fr cst [] h h' → h.length ≤ h'.length → Φ (some (.int y0), h', 0, 0)) : hp_F cst strs Φ D M 39 l [] h := by
  refine hp_arc c hM rd2_k hD [m, z, f, r] rfl hy (hp_Bc (z := m) rfl b0 t0 (hp_Bc (z := z) rfl b1 t1 (hp_Bc (z := f) rfl b2 t2 (hp_Bc (z := r) rfl b3 t3 hp_Bn)))) hp_Fn (hp_Kc (zi := (0 + 0)) (zv := (0 + (1 * r + 0))) k0 rfl rfl (by omega) (by omega) hp_Kn) (hp_La l0 (hp_Li (z := (0 + (1 * m + 0))) l1 rfl (by omega) (hp_Li (z := (0 + (1 * z + 0))) l2 rfl (by omega) (hp_Li (z := (0 + (1 * f + 0))) l3 rfl (by omega) (hp_Li (z := (40 + 0)) l4 rfl (by omega) (hp_Li (z := (0 + (1 * r + 0))) l5 rfl (by omega) hp_Ln)))))) trivial ?_ ?_
  · intro p hp ys l' st' h' hys a1 a2 a3 gZ gL gS
    cases hp
  · intro p hp ys v h' hys a1 a2 a3 gZ gS
    rcases List.mem_cons.mp hp with rfl | hp
    · obtain rfl := hp_y0 hys
      cases v with
      | none => cases gS
      | some w =>
        obtain ⟨y0, t0, s0, q0, -⟩ := hp_gSi (z := ((-3) + 0)) gS rfl
        cases s0
        exact r0 h' y0 (by omega) a1 a2 a3
    cases hp
theorem rd3_k : hp_chk 415 39 5 [(0, 0, 99), (1, 0, 9), (2, 0, 399), (3, 0, 511), (4, 0, 39)] [] [(0, .inr (.inr (.inl (some 94)))), (1, .inl (0, [(0, 1)])), (2, .inl (0, [(1, 1)])), (3, .inl (0, [(2, 1)])), (4, .inl (0, [(4, 1)])), (5, .inl (0, [(3, 1)]))] [] [(20055, (0, []), (0, [(3, 1)]))] [20054] 2 [(104, ([], 5, [(0, 0, 99), (1, 0, 9), (2, 0, 399), (3, 0, 511), (4, 0, 39)], [], [(0, .inr (.inr (.inl (some 94)))), (1, .inl (0, [(0, 1)])), (2, .inl (0, [(1, 1)])), (3, .inl (0, [(2, 1)])), (4, .inl (0, [(4, 1)]))], [.inl (0, [(0, 1)]), .inl (0, [(3, 1)]), .inr (.inr (.inl (some 157)))], [(20055, (0, []), (0, [(3, 1)]))]))] [] = true := by decide +kernel
theorem rd3 {cst : am_K} {strs : List Nat} {Φ : am_Q → Prop} {D : Nat} {M : am_M} {h : am_H} {l : am_L} (c : hp_C cst strs D) (hM : m_P[415]? = some M) (hD : (2 : Int) ≤ (D : Int) + 1) (hy : ly_hy m_tt ly_TH h) (m z f r cn : Int) (b0 : 0 ≤ m) (t0 : m ≤ 99) (b1 : 0 ≤ z) (t1 : z ≤ 9) (b2 : 0 ≤ f) (t2 : f ≤ 399) (b3 : 0 ≤ r) (t3 : r ≤ 511) (b4 : 0 ≤ cn) (t4 : cn ≤ 39) (k0 : ly_hv cst h 20055 0 = some (r)) (l0 : hp_a l 0 94) (l1 : hp_i l 1 (m)) (l2 : hp_i l 2 (z)) (l3 : hp_i l 3 (f)) (l4 : hp_i l 4 (cn)) (l5 : hp_i l 5 (r)) (e0 : ∀ (l' : am_L) (h' : am_H) (y0 : Int32) (y1 : Int32), y0.toInt = (m) → y1.toInt = (r) → ly_hy m_tt ly_TH h' → ly_fr cst [20054] h h' → h.length ≤ h'.length → ly_hv cst h' 20055 0 = some (r) → hp_a l' 0 94 → hp_i l' 1 (m) → hp_i l' 2 (z) → hp_i l' 3 (f) → hp_i l' 4 (cn) → hp_F cst strs Φ D M 104 l' [.int y0, .int y1, .ref 157] h') : hp_F cst strs Φ D M 39 l [] h := by
  refine hp_arc c hM rd3_k hD [m, z, f, r, cn] rfl hy (hp_Bc (z := m) rfl b0 t0 (hp_Bc (z := z) rfl b1 t1 (hp_Bc (z := f) rfl b2 t2 (hp_Bc (z := r) rfl b3 t3 (hp_Bc (z := cn) rfl b4 t4 hp_Bn))))) hp_Fn (hp_Kc (zi := (0 + 0)) (zv := (0 + (1 * r + 0))) k0 rfl rfl (by omega) (by omega) hp_Kn) (hp_La l0 (hp_Li (z := (0 + (1 * m + 0))) l1 rfl (by omega) (hp_Li (z := (0 + (1 * z + 0))) l2 rfl (by omega) (hp_Li (z := (0 + (1 * f + 0))) l3 rfl (by omega) (hp_Li (z := (0 + (1 * cn + 0))) l4 rfl (by omega) (hp_Li (z := (0 + (1 * r + 0))) l5 rfl (by omega) hp_Ln)))))) trivial ?_ ?_
  · intro p hp ys l' st' h' hys a1 a2 a3 gZ gL gS
    rcases List.mem_cons.mp hp with rfl | hp
    · obtain rfl := hp_y0 hys
      obtain ⟨y0, t0, rfl, q0, g0⟩ := hp_gSi (z := (0 + (1 * m + 0))) gS rfl
      obtain ⟨y1, t1, rfl, q1, g1⟩ := hp_gSi (z := (0 + (1 * r + 0))) g0 rfl
      obtain ⟨t2, rfl, g2⟩ := hp_gSa g1 (by decide)
      cases hp_gSn g2
      exact e0 l' h' y0 y1 (by omega) (by omega) a1 a2 a3 (hp_gK (zi := (0 + 0)) (zv := (0 + (1 * r + 0))) gZ.2.2.2 (List.mem_of_getElem? (i := 0) rfl) rfl rfl (by omega) (by omega)) (hp_gLa gL (List.mem_of_getElem? (i := 0) rfl) (by decide)) (hp_gLi (z := (0 + (1 * m + 0))) gL (List.mem_of_getElem? (i := 1) rfl) rfl (by omega)) (hp_gLi (z := (0 + (1 * z + 0))) gL (List.mem_of_getElem? (i := 2) rfl) rfl (by omega)) (hp_gLi (z := (0 + (1 * f + 0))) gL (List.mem_of_getElem? (i := 3) rfl) rfl (by omega)) (hp_gLi (z := (0 + (1 * cn + 0))) gL (List.mem_of_getElem? (i := 4) rfl) rfl (by omega))
    cases hp
  · intro p hp ys v h' hys a1 a2 a3 gZ gS
    cases hp
theorem rd4_k : hp_chk 415 105 5 [(0, 0, 99), (1, 0, 9), (2, 0, 399), (3, 0, 511), (4, 0, 39)] [] [(0, .inr (.inr (.inl (some 94)))), (1, .inl (0, [(0, 1)])), (2, .inl (0, [(1, 1)])), (3, .inl (0, [(2, 1)])), (4, .inl (0, [(4, 1)]))] [] [(20055, (0, []), (0, [(3, 1)]))] [20055, 36352, 36608, 36864, 37120] 2 [] [([], 5, [(0, 0, 99), (1, 0, 9), (2, 0, 399), (3, 0, 511), (4, 0, 39)], [], [], [.inl (1, [(4, 1)])], [(20055, (0, []), (1, [(3, 1)]))])] = true := by decide +kernel
theorem rd4 {cst : am_K} {strs : List Nat} {Φ : am_Q → Prop} {D : Nat} {M : am_M} {h : am_H} {l : am_L} (c : hp_C cst strs D) (hM : m_P[415]? = some M) (hD : (2 : Int) ≤ (D : Int) + 1) (hy : ly_hy m_tt ly_TH h) (m z f r cn : Int) (b0 : 0 ≤ m) (t0 : m ≤ 99) (b1 : 0 ≤ z) (t1 : z ≤ 9) (b2 : 0 ≤ f) (t2 : f ≤ 399) (b3 : 0 ≤ r) (t3 : r ≤ 511) (b4 : 0 ≤ cn) (t4 : cn ≤ 39) (k0 : ly_hv cst h 20055 0 = some (r)) (l0 : hp_a l 0 94) (l1 : hp_i l 1 (m)) (l2 : hp_i l 2 (z)) (l3 : hp_i l 3 (f)) (l4 : hp_i l 4 (cn)) (r0 : ∀ (h' : am_H) (y0 : Int32), y0.toInt = (cn + 1) → ly_hy m_tt ly_TH h' → ly_fr cst [20055, 36352, 36608, 36864, 37120] h h' → h.length ≤ h'.length → ly_hv cst h' 20055 0 = some (r + 1) → Φ (some (.int y0), h', 0, 0)) : hp_F cst strs Φ D M 105 l [] h := by
  refine hp_arc c hM rd4_k hD [m, z, f, r, cn] rfl hy (hp_Bc (z := m) rfl b0 t0 (hp_Bc (z := z) rfl b1 t1 (hp_Bc (z := f) rfl b2 t2 (hp_Bc (z := r) rfl b3 t3 (hp_Bc (z := cn) rfl b4 t4 hp_Bn))))) hp_Fn (hp_Kc (zi := (0 + 0)) (zv := (0 + (1 * r + 0))) k0 rfl rfl (by omega) (by omega) hp_Kn) (hp_La l0 (hp_Li (z := (0 + (1 * m + 0))) l1 rfl (by omega) (hp_Li (z := (0 + (1 * z + 0))) l2 rfl (by omega) (hp_Li (z := (0 + (1 * f + 0))) l3 rfl (by omega) (hp_Li (z := (0 + (1 * cn + 0))) l4 rfl (by omega) hp_Ln))))) trivial ?_ ?_
  · intro p hp ys l' st' h' hys a1 a2 a3 gZ gL gS
    cases hp
  · intro p hp ys v h' hys a1 a2 a3 gZ gS
    rcases List.mem_cons.mp hp with rfl | hp
    · obtain rfl := hp_y0 hys
      cases v with
      | none => cases gS
      | some w =>
        obtain ⟨y0, t0, s0, q0, -⟩ := hp_gSi (z := (1 + (1 * cn + 0))) gS rfl
        cases s0
        exact r0 h' y0 (by omega) a1 a2 a3 (hp_gK (zi := (0 + 0)) (zv := (1 + (1 * r + 0))) gZ.2.2.2 (List.mem_of_getElem? (i := 0) rfl) rfl rfl (by omega) (by omega))
    cases hp
def rt_ok (m z f s g : Int) : Prop := 0 ≤ m ∧ m < s ∧ 0 ≤ z ∧ z ≤ 9 ∧ 0 ≤ f ∧ f ≤ g
/-- how often m stands in a row below k -/
def rt_c (f : Int → Option Int) (m : Int) : Nat → Int
  | 0 => 0
  | k + 1 => rt_c f m k + (if f (k : Int) = some m then 1 else 0)
theorem rt_c0 (f : Int → Option Int) (m : Int) : ∀ k : Nat, 0 ≤ rt_c f m k ∧ rt_c f m k ≤ (k : Int)
  | 0 => ⟨Int.le_refl _, Int.le_refl _⟩
  | k + 1 => by
    have := rt_c0 f m k
    show 0 ≤ rt_c f m k + (if f (k : Int) = some m then 1 else 0) ∧ rt_c f m k + (if f (k : Int) = some m then 1 else 0) ≤ ((k + 1 : Nat) : Int)
    split <;> omega
theorem rt_cu {f : Int → Option Int} {m v : Int} {R : Int} : ∀ k : Nat, (k : Int) ≤ R → rt_c (hp_upd f R v) m k = rt_c f m k
  | 0, _ => rfl
  | k + 1, h => by
    show rt_c (hp_upd f R v) m k + (if hp_upd f R v (k : Int) = some m then 1 else 0) = rt_c f m k + (if f (k : Int) = some m then 1 else 0)
    rw [rt_cu k (by omega), show hp_upd f R v (k : Int) = f (k : Int) from if_neg (by omega)]
theorem rt_cs {f : Int → Option Int} {m v : Int} (k : Nat) : rt_c (hp_upd f (k : Int) v) m (k + 1) = rt_c f m k + (if v = m then 1 else 0) := by
  show rt_c (hp_upd f (k : Int) v) m k + (if hp_upd f (k : Int) v (k : Int) = some m then 1 else 0) = _
  rw [rt_cu k (Int.le_refl _), show hp_upd f (k : Int) v (k : Int) = some v from if_pos rfl]
  by_cases e : v = m
  · rw [if_pos e, if_pos (by rw [e])]
  · rw [if_neg e, if_neg (fun z => e (Option.some.inj z))]
def rt_A (ok : Prop) (v a : Int) : Prop := (¬ ok → a = -2) ∧ (ok → (v = 40 → a = -3) ∧ (v ≠ 40 → a = v + 1))
theorem rt_uni {ok : Prop} {v a b : Int} (A : rt_A ok v a) (B : rt_A ok v b) : a = b := by
  by_cases o : ok
  · by_cases e : v = 40
    · rw [(A.2 o).1 e, (B.2 o).1 e]
    · rw [(A.2 o).2 e, (B.2 o).2 e]
  · rw [A.1 o, B.1 o]
theorem ra_run {cst : am_K} {strs : List Nat} {D : Nat} {h : am_H} (c1 : hp_C cst strs D) (c : hp_C cst strs (D + 1)) (hD : (4 : Int) ≤ (D : Int) + 1) (hy : ly_hy m_tt ly_TH h) {xm xz xf : Int32} {s g v : Int} (s0 : 0 ≤ s) (s1 : s ≤ 100) (ks : ly_hv cst h 7170 0 = some s) (ko : ∀ j, 0 ≤ j → j < s → ly_hv cst h 7424 j = some 1) (g0 : 0 ≤ g) (g1 : g ≤ 399) (kg : ly_hv cst h 10 0 = some g) (v0 : 0 ≤ v) (v1 : v ≤ 40) (kv : 0 ≤ xm.toInt → xm.toInt < s → ly_hv cst h 8448 xm.toInt = some v) :
    ∃ r, am_Run cst m_cl m_tt m_P strs sx_bi (D + 1 + 1) 259 [.ref 16, .int xm, .int xz, .int xf] h r ∧ ∃ a : Int32, r.1 = some (.int a) ∧ r.2.2.1 = 0 ∧ r.2.2.2 = 0 ∧ ly_hy m_tt ly_TH r.2.1 ∧ ly_fr cst [7182, 8448, 8704, 8960, 9216, 9472] h r.2.1 ∧ (rt_A (rt_ok xm.toInt xz.toInt xf.toInt s g) v a.toInt ∧ (((rt_ok xm.toInt xz.toInt xf.toInt s g) ∧ v ≠ 40 → ly_hv cst r.2.1 8448 = hp_upd (ly_hv cst h 8448) xm.toInt (v + 1)) ∧ (¬ ((rt_ok xm.toInt xz.toInt xf.toInt s g) ∧ v ≠ 40) → ly_hv cst r.2.1 8448 = ly_hv cst h 8448))) := by
  obtain ⟨M, hM, hl⟩ := hp_M (mi := 259) (k := 4) (by decide +kernel)
  have bm0 : -2147483648 ≤ xm.toInt := xm.le_toInt
  have bm1 : xm.toInt ≤ 2147483647 := xm.toInt_le
  have bz0 : -2147483648 ≤ xz.toInt := xz.le_toInt
  have bz1 : xz.toInt ≤ 2147483647 := xz.toInt_le
  have bf0 : -2147483648 ≤ xf.toInt := xf.le_toInt
  have bf1 : xf.toInt ≤ 2147483647 := xf.toInt_le
  have ml : ∀ {a b : am_H}, ly_fr cst [] a b → ly_fr cst [7182, 8448, 8704, 8960, 9216, 9472] a b := fun f r i v _ e => f r i v rfl e
  have go : hp_F cst strs (fun r : am_Q => ∃ a : Int32, r.1 = some (.int a) ∧ r.2.2.1 = 0 ∧ r.2.2.2 = 0 ∧ ly_hy m_tt ly_TH r.2.1 ∧ ly_fr cst [7182, 8448, 8704, 8960, 9216, 9472] h r.2.1 ∧ (rt_A (rt_ok xm.toInt xz.toInt xf.toInt s g) v a.toInt ∧ (((rt_ok xm.toInt xz.toInt xf.toInt s g) ∧ v ≠ 40 → ly_hv cst r.2.1 8448 = hp_upd (ly_hv cst h 8448) xm.toInt (v + 1)) ∧ (¬ ((rt_ok xm.toInt xz.toInt xf.toInt s g) ∧ v ≠ 40) → ly_hv cst r.2.1 8448 = ly_hv cst h 8448)))) (D + 1) M 0 (lv_args 0 [.ref 16, .int xm, .int xz, .int xf]) [] h := by
    have no : ¬ (rt_ok xm.toInt xz.toInt xf.toInt s g) → ∀ (h' : am_H) (w : Int32), w.toInt = -2 → ly_hy m_tt ly_TH h' → ly_fr cst [] h h' → h.length ≤ h'.length → (fun r : am_Q => ∃ a : Int32, r.1 = some (.int a) ∧ r.2.2.1 = 0 ∧ r.2.2.2 = 0 ∧ ly_hy m_tt ly_TH r.2.1 ∧ ly_fr cst [7182, 8448, 8704, 8960, 9216, 9472] h r.2.1 ∧ (rt_A (rt_ok xm.toInt xz.toInt xf.toInt s g) v a.toInt ∧ (((rt_ok xm.toInt xz.toInt xf.toInt s g) ∧ v ≠ 40 → ly_hv cst r.2.1 8448 = hp_upd (ly_hv cst h 8448) xm.toInt (v + 1)) ∧ (¬ ((rt_ok xm.toInt xz.toInt xf.toInt s g) ∧ v ≠ 40) → ly_hv cst r.2.1 8448 = ly_hv cst h 8448)))) (some (.int w), h', 0, 0) := fun nk h' w hw w1 w2 w3 => ⟨w, rfl, rfl, rfl, w1, ml w2, ⟨fun _ => hw, fun ok => absurd ok nk⟩, fun gg => absurd gg.1 nk, fun _ => hp_same (show ly_ths ly_TH 33 = some (.inl (.int, 100, -2147483648, 2147483647)) from rfl) rfl hy w1 w2⟩
    by_cases q0 : xm.toInt ≤ -1
    · exact ra0 c hM (by omega) hy xm.toInt xz.toInt xf.toInt s g (by omega) (by omega) (by omega) (by omega) (by omega) (by omega) s0 s1 g0 g1 ks kg rfl ⟨xm, rfl, rfl⟩ ⟨xz, rfl, rfl⟩ ⟨xf, rfl, rfl⟩ (no (fun k => by have := k.1; omega))
    by_cases q1 : s ≤ xm.toInt
    · exact ra1 c hM (by omega) hy xm.toInt xz.toInt xf.toInt s g (by omega) (by omega) (by omega) (by omega) (by omega) (by omega) s0 s1 g0 g1 (by omega) ks kg rfl ⟨xm, rfl, rfl⟩ ⟨xz, rfl, rfl⟩ ⟨xf, rfl, rfl⟩ (no (fun k => by have := k.2.1; omega))
    by_cases q2 : xz.toInt ≤ -1
    · exact ra2 c hM (by omega) hy xm.toInt xz.toInt xf.toInt s g (by omega) (by omega) (by omega) (by omega) (by omega) (by omega) s0 s1 g0 g1 (by omega) ks kg (ko _ (by omega) (by omega)) rfl ⟨xm, rfl, rfl⟩ ⟨xz, rfl, rfl⟩ ⟨xf, rfl, rfl⟩ (no (fun k => by have := k.2.2.1; omega))
    by_cases q3 : 10 ≤ xz.toInt
    · exact ra3 c hM (by omega) hy xm.toInt xz.toInt xf.toInt s g (by omega) (by omega) (by omega) (by omega) (by omega) (by omega) s0 s1 g0 g1 (by omega) ks kg (ko _ (by omega) (by omega)) rfl ⟨xm, rfl, rfl⟩ ⟨xz, rfl, rfl⟩ ⟨xf, rfl, rfl⟩ (no (fun k => by have := k.2.2.2.1; omega))
    by_cases q4 : xf.toInt ≤ -1
    · exact ra4 c hM (by omega) hy xm.toInt xz.toInt xf.toInt s g (by omega) (by omega) (by omega) (by omega) (by omega) (by omega) s0 s1 g0 g1 (by omega) ks kg (ko _ (by omega) (by omega)) rfl ⟨xm, rfl, rfl⟩ ⟨xz, rfl, rfl⟩ ⟨xf, rfl, rfl⟩ (no (fun k => by have := k.2.2.2.2.1; omega))
    by_cases q5 : g < xf.toInt
    · exact ra5 c hM (by omega) hy xm.toInt xz.toInt xf.toInt s g (by omega) (by omega) (by omega) (by omega) (by omega) (by omega) s0 s1 g0 g1 (by omega) (by omega) ks kg (ko _ (by omega) (by omega)) rfl ⟨xm, rfl, rfl⟩ ⟨xz, rfl, rfl⟩ ⟨xf, rfl, rfl⟩ (no (fun k => by have := k.2.2.2.2.2; omega))
    have ok : (rt_ok xm.toInt xz.toInt xf.toInt s g) := ⟨by omega, by omega, by omega, by omega, by omega, by omega⟩
    have kvv := kv ok.1 ok.2.1
    refine rak c hM (by omega) hy xm.toInt xz.toInt xf.toInt s g (by omega) (by omega) (by omega) (by omega) (by omega) (by omega) s0 s1 g0 g1 (by omega) (by omega) ks kg (ko _ ok.1 ok.2.1) rfl ⟨xm, rfl, rfl⟩ ⟨xz, rfl, rfl⟩ ⟨xf, rfl, rfl⟩ (fun l1 h1 y0 y1 y2 y3 f0 f1 f2 f3 u1 u2 u3 j0 => ?_)
    have row1 : ly_hv cst h1 8448 = ly_hv cst h 8448 := hp_same (show ly_ths ly_TH 33 = some (.inl (.int, 100, -2147483648, 2147483647)) from rfl) rfl hy u1 u2
    have go2 : ∃ r, am_Run cst m_cl m_tt m_P strs sx_bi (D + 1) 260 [.ref 44, .int y3, .int y2, .int y1, .int y0] h1 r ∧ ∃ b : Int32, r.1 = some (.int b) ∧ r.2.2.1 = 0 ∧ r.2.2.2 = 0 ∧ ly_hy m_tt ly_TH r.2.1 ∧ ly_fr cst [7182, 8448, 8704, 8960, 9216, 9472] h1 r.2.1 ∧ ((v = 40 → b.toInt = -3 ∧ ly_hv cst r.2.1 8448 = ly_hv cst h1 8448) ∧ (v ≠ 40 → b.toInt = v + 1 ∧ ly_hv cst r.2.1 8448 = hp_upd (ly_hv cst h1 8448) xm.toInt (v + 1))) := by
      obtain ⟨M2, hM2, hl2⟩ := hp_M (mi := 260) (k := 5) (by decide +kernel)
      have go3 : hp_F cst strs (fun r => ∃ b : Int32, r.1 = some (.int b) ∧ r.2.2.1 = 0 ∧ r.2.2.2 = 0 ∧ ly_hy m_tt ly_TH r.2.1 ∧ ly_fr cst [7182, 8448, 8704, 8960, 9216, 9472] h1 r.2.1 ∧ ((v = 40 → b.toInt = -3 ∧ ly_hv cst r.2.1 8448 = ly_hv cst h1 8448) ∧ (v ≠ 40 → b.toInt = v + 1 ∧ ly_hv cst r.2.1 8448 = hp_upd (ly_hv cst h1 8448) xm.toInt (v + 1)))) D M2 0 (lv_args 0 [.ref 44, .int y3, .int y2, .int y1, .int y0]) [] h1 := by
        have kv1 := u2 _ _ _ rfl kvv
        by_cases e : v = 40
        · rw [e] at kv1
          exact rg0 c1 hM2 (by omega) u1 xm.toInt y2.toInt y1.toInt g (by omega) (by omega) y2.le_toInt y2.toInt_le y1.le_toInt y1.toInt_le g0 g1 kv1 rfl ⟨y3, rfl, f3⟩ ⟨y2, rfl, rfl⟩ ⟨y1, rfl, rfl⟩ ⟨y0, rfl, f0⟩ (fun h4 b hb t1 t2 t3 => ⟨b, rfl, rfl, rfl, t1, ml t2, fun _ => ⟨hb, hp_same (show ly_ths ly_TH 33 = some (.inl (.int, 100, -2147483648, 2147483647)) from rfl) rfl u1 t1 t2⟩, fun n => absurd e n⟩)
        · refine rg1 c1 hM2 (by omega) u1 xm.toInt y2.toInt y1.toInt g v (by omega) (by omega) y2.le_toInt y2.toInt_le y1.le_toInt y1.toInt_le g0 g1 v0 (by omega) kv1 rfl ⟨y3, rfl, f3⟩ ⟨y2, rfl, rfl⟩ ⟨y1, rfl, rfl⟩ ⟨y0, rfl, f0⟩ (fun l3 h3 w0 w1 e0 e1 t1 t2 t3 o0 o1 o2 o3 o4 => ?_)
          refine hp_st (c := 33) hM2 (by decide +kernel) t1 (show ly_ths ly_TH 33 = some (.inl (.int, 100, -2147483648, 2147483647)) from rfl) rfl (by omega) (by omega) w0.le_toInt w0.toInt_le (fun h4 q1 q2 q3 => ?_)
          rw [e0, e1] at q3
          refine rg2 c1 hM2 (by omega) q1 xm.toInt y2.toInt y1.toInt g (v + 1) (by omega) (by omega) y2.le_toInt y2.toInt_le y1.le_toInt y1.toInt_le g0 g1 (by omega) (by omega) q3.1 o0 o1 o2 o3 o4 (fun h5 b hb s1' s2' s3' s4' => ⟨b, rfl, rfl, rfl, s1', ly_fr_tr (ml t2) (ly_fr_tr (hp_put_fr (by rfl) q3) (hp_sub2 rfl s2')), fun z => absurd z e, fun _ => ⟨hb, ?_⟩⟩)
          show ly_hv cst h5 8448 = _
          rw [hp_same (show ly_ths ly_TH 33 = some (.inl (.int, 100, -2147483648, 2147483647)) from rfl) rfl q1 s1' s2', hp_put_eq q3, hp_same (show ly_ths ly_TH 33 = some (.inl (.int, 100, -2147483648, 2147483647)) from rfl) rfl u1 t1 t2]
      obtain ⟨n', r, hgo, b, x1, x2, x3, x4⟩ := go3
      simp only [Nat.zero_add] at x2 x3
      exact ⟨r, Or.inr ⟨M2, n', hM2, hl2, hgo⟩, b, x1, x2, x3, x4⟩
    obtain ⟨r, hrun, b, x1, x2, x3, x4, x5, x6, x7⟩ := go2
    refine hp_call (mi := 259) (pc := 47) (tg := 260) (na := 5) (c := 28) (ci := 5) (st0 := [.int y0, .int y1, .int y2, .int y3, .ref 44]) (st := []) (av := [.int y3, .int y2, .int y1, .int y0]) hM (by decide +kernel) u1 rfl rfl rfl (by decide) hrun x2 x3 ?_
    rw [x1]
    rw [row1] at x6 x7
    refine rar c hM (by omega) x4 b.toInt b rfl b.le_toInt b.toInt_le j0 (fun h4 w hw t1 t2 t3 => ⟨w, rfl, rfl, rfl, t1, ly_fr_tr (ml u2) (ly_fr_tr x5 (ml t2)), ⟨fun nk => absurd ok nk, fun _ => ⟨fun e => by rw [hw]; exact (x6 e).1, fun n => by rw [hw]; exact (x7 n).1⟩⟩, fun gg => ?_, fun ng => ?_⟩)
    · show ly_hv cst h4 8448 = _
      rw [hp_same (show ly_ths ly_TH 33 = some (.inl (.int, 100, -2147483648, 2147483647)) from rfl) rfl x4 t1 t2]
      exact (x7 gg.2).2
    · show ly_hv cst h4 8448 = _
      rw [hp_same (show ly_ths ly_TH 33 = some (.inl (.int, 100, -2147483648, 2147483647)) from rfl) rfl x4 t1 t2]
      by_cases e : v = 40
      · exact (x6 e).2
      · exact absurd ⟨ok, e⟩ ng
  obtain ⟨n', r, hgo, a, r1, r2, r3, r4⟩ := go
  simp only [Nat.zero_add] at r2 r3
  exact ⟨r, Or.inr ⟨M, n', hM, hl, hgo⟩, a, r1, r2, r3, r4⟩
theorem rb_run {cst : am_K} {strs : List Nat} {D : Nat} {h : am_H} (c : hp_C cst strs D) (hD : (4 : Int) ≤ (D : Int) + 1) (hy : ly_hy m_tt ly_TH h) {xm xz xf : Int32} {s g R : Int} (s0 : 0 ≤ s) (s1 : s ≤ 100) (ks : ly_hv cst h 20024 0 = some s) (g0 : 0 ≤ g) (g1 : g ≤ 399) (kg : ly_hv cst h 19977 0 = some g) (R0 : 0 ≤ R) (R1 : R ≤ 511) (kR : ly_hv cst h 20055 0 = some R) (cb : 0 ≤ xm.toInt → xm.toInt < s → (rt_c (ly_hv cst h 36096) xm.toInt R.toNat) ≤ 40) :
    ∃ r, am_Run cst m_cl m_tt m_P strs sx_bi (D + 1) 415 [.ref 94, .int xm, .int xz, .int xf] h r ∧ (fun r : am_Q => ∃ a : Int32, r.1 = some (.int a) ∧ r.2.2.1 = 0 ∧ r.2.2.2 = 0 ∧ ly_hy m_tt ly_TH r.2.1 ∧ ly_fr cst [20054, 20055, 36096, 36352, 36608, 36864, 37120] h r.2.1 ∧ (rt_A (rt_ok xm.toInt xz.toInt xf.toInt s g) (rt_c (ly_hv cst h 36096) xm.toInt R.toNat) a.toInt ∧ (((rt_ok xm.toInt xz.toInt xf.toInt s g) ∧ (rt_c (ly_hv cst h 36096) xm.toInt R.toNat) ≠ 40 → ly_hv cst r.2.1 20055 0 = some (R + 1) ∧ ly_hv cst r.2.1 36096 = hp_upd (ly_hv cst h 36096) R xm.toInt) ∧ (¬ ((rt_ok xm.toInt xz.toInt xf.toInt s g) ∧ (rt_c (ly_hv cst h 36096) xm.toInt R.toNat) ≠ 40) → ly_hv cst r.2.1 20055 0 = some R ∧ ly_hv cst r.2.1 36096 = ly_hv cst h 36096)))) r := by
  obtain ⟨M, hM, hl⟩ := hp_M (mi := 415) (k := 4) (by decide +kernel)
  have bm0 : -2147483648 ≤ xm.toInt := xm.le_toInt
  have bm1 : xm.toInt ≤ 2147483647 := xm.toInt_le
  have bz0 : -2147483648 ≤ xz.toInt := xz.le_toInt
  have bz1 : xz.toInt ≤ 2147483647 := xz.toInt_le
  have bf0 : -2147483648 ≤ xf.toInt := xf.le_toInt
  have bf1 : xf.toInt ≤ 2147483647 := xf.toInt_le
  have ml : ∀ {a b : am_H}, ly_fr cst [] a b → ly_fr cst [20054, 20055, 36096, 36352, 36608, 36864, 37120] a b := fun f r i v _ e => f r i v rfl e
  have go : hp_F cst strs (fun r : am_Q => ∃ a : Int32, r.1 = some (.int a) ∧ r.2.2.1 = 0 ∧ r.2.2.2 = 0 ∧ ly_hy m_tt ly_TH r.2.1 ∧ ly_fr cst [20054, 20055, 36096, 36352, 36608, 36864, 37120] h r.2.1 ∧ (rt_A (rt_ok xm.toInt xz.toInt xf.toInt s g) (rt_c (ly_hv cst h 36096) xm.toInt R.toNat) a.toInt ∧ (((rt_ok xm.toInt xz.toInt xf.toInt s g) ∧ (rt_c (ly_hv cst h 36096) xm.toInt R.toNat) ≠ 40 → ly_hv cst r.2.1 20055 0 = some (R + 1) ∧ ly_hv cst r.2.1 36096 = hp_upd (ly_hv cst h 36096) R xm.toInt) ∧ (¬ ((rt_ok xm.toInt xz.toInt xf.toInt s g) ∧ (rt_c (ly_hv cst h 36096) xm.toInt R.toNat) ≠ 40) → ly_hv cst r.2.1 20055 0 = some R ∧ ly_hv cst r.2.1 36096 = ly_hv cst h 36096)))) D M 0 (lv_args 0 [.ref 94, .int xm, .int xz, .int xf]) [] h := by
    have no : ¬ (rt_ok xm.toInt xz.toInt xf.toInt s g) → ∀ (h' : am_H) (w : Int32), w.toInt = -2 → ly_hy m_tt ly_TH h' → ly_fr cst [] h h' → h.length ≤ h'.length → (fun r : am_Q => ∃ a : Int32, r.1 = some (.int a) ∧ r.2.2.1 = 0 ∧ r.2.2.2 = 0 ∧ ly_hy m_tt ly_TH r.2.1 ∧ ly_fr cst [20054, 20055, 36096, 36352, 36608, 36864, 37120] h r.2.1 ∧ (rt_A (rt_ok xm.toInt xz.toInt xf.toInt s g) (rt_c (ly_hv cst h 36096) xm.toInt R.toNat) a.toInt ∧ (((rt_ok xm.toInt xz.toInt xf.toInt s g) ∧ (rt_c (ly_hv cst h 36096) xm.toInt R.toNat) ≠ 40 → ly_hv cst r.2.1 20055 0 = some (R + 1) ∧ ly_hv cst r.2.1 36096 = hp_upd (ly_hv cst h 36096) R xm.toInt) ∧ (¬ ((rt_ok xm.toInt xz.toInt xf.toInt s g) ∧ (rt_c (ly_hv cst h 36096) xm.toInt R.toNat) ≠ 40) → ly_hv cst r.2.1 20055 0 = some R ∧ ly_hv cst r.2.1 36096 = ly_hv cst h 36096)))) (some (.int w), h', 0, 0) := fun nk h' w hw w1 w2 w3 => ⟨w, rfl, rfl, rfl, w1, ml w2, ⟨fun _ => hw, fun ok => absurd ok nk⟩, fun gg => absurd gg.1 nk, fun _ => ⟨w2 _ _ _ rfl kR, hp_same (show ly_ths ly_TH 141 = some (.inl (.int, 4000, -2147483648, 2147483647)) from rfl) rfl hy w1 w2⟩⟩
    by_cases q0 : xm.toInt ≤ -1
    · exact rb0 c hM (by omega) hy xm.toInt xz.toInt xf.toInt s g (by omega) (by omega) (by omega) (by omega) (by omega) (by omega) s0 s1 g0 g1 ks kg rfl ⟨xm, rfl, rfl⟩ ⟨xz, rfl, rfl⟩ ⟨xf, rfl, rfl⟩ (no (fun k => by have := k.1; omega))
    by_cases q1 : s ≤ xm.toInt
    · exact rb1 c hM (by omega) hy xm.toInt xz.toInt xf.toInt s g (by omega) (by omega) (by omega) (by omega) (by omega) (by omega) s0 s1 g0 g1 (by omega) ks kg rfl ⟨xm, rfl, rfl⟩ ⟨xz, rfl, rfl⟩ ⟨xf, rfl, rfl⟩ (no (fun k => by have := k.2.1; omega))
    by_cases q2 : xz.toInt ≤ -1
    · exact rb2 c hM (by omega) hy xm.toInt xz.toInt xf.toInt s g (by omega) (by omega) (by omega) (by omega) (by omega) (by omega) s0 s1 g0 g1 (by omega) ks kg rfl ⟨xm, rfl, rfl⟩ ⟨xz, rfl, rfl⟩ ⟨xf, rfl, rfl⟩ (no (fun k => by have := k.2.2.1; omega))
    by_cases q3 : 10 ≤ xz.toInt
    · exact rb3 c hM (by omega) hy xm.toInt xz.toInt xf.toInt s g (by omega) (by omega) (by omega) (by omega) (by omega) (by omega) s0 s1 g0 g1 (by omega) ks kg rfl ⟨xm, rfl, rfl⟩ ⟨xz, rfl, rfl⟩ ⟨xf, rfl, rfl⟩ (no (fun k => by have := k.2.2.2.1; omega))
    by_cases q4 : xf.toInt ≤ -1
    · exact rb4 c hM (by omega) hy xm.toInt xz.toInt xf.toInt s g (by omega) (by omega) (by omega) (by omega) (by omega) (by omega) s0 s1 g0 g1 (by omega) ks kg rfl ⟨xm, rfl, rfl⟩ ⟨xz, rfl, rfl⟩ ⟨xf, rfl, rfl⟩ (no (fun k => by have := k.2.2.2.2.1; omega))
    by_cases q5 : g < xf.toInt
    · exact rb5 c hM (by omega) hy xm.toInt xz.toInt xf.toInt s g (by omega) (by omega) (by omega) (by omega) (by omega) (by omega) s0 s1 g0 g1 (by omega) (by omega) ks kg rfl ⟨xm, rfl, rfl⟩ ⟨xz, rfl, rfl⟩ ⟨xf, rfl, rfl⟩ (no (fun k => by have := k.2.2.2.2.2; omega))
    have ok : (rt_ok xm.toInt xz.toInt xf.toInt s g) := ⟨by omega, by omega, by omega, by omega, by omega, by omega⟩
    have cb' := cb ok.1 ok.2.1
    have loop : ∀ (N : Nat) (k : Nat) (h' : am_H) (l : am_L), R.toNat - k < N → (k : Int) ≤ R → ly_hy m_tt ly_TH h' → ly_fr cst [] h h' → hp_a l 0 94 → hp_i l 1 xm.toInt → hp_i l 2 xz.toInt → hp_i l 3 xf.toInt → hp_i l 4 (rt_c (ly_hv cst h 36096) xm.toInt k) → hp_i l 5 (k : Int) → hp_F cst strs (fun r : am_Q => ∃ a : Int32, r.1 = some (.int a) ∧ r.2.2.1 = 0 ∧ r.2.2.2 = 0 ∧ ly_hy m_tt ly_TH r.2.1 ∧ ly_fr cst [20054, 20055, 36096, 36352, 36608, 36864, 37120] h r.2.1 ∧ (rt_A (rt_ok xm.toInt xz.toInt xf.toInt s g) (rt_c (ly_hv cst h 36096) xm.toInt R.toNat) a.toInt ∧ (((rt_ok xm.toInt xz.toInt xf.toInt s g) ∧ (rt_c (ly_hv cst h 36096) xm.toInt R.toNat) ≠ 40 → ly_hv cst r.2.1 20055 0 = some (R + 1) ∧ ly_hv cst r.2.1 36096 = hp_upd (ly_hv cst h 36096) R xm.toInt) ∧ (¬ ((rt_ok xm.toInt xz.toInt xf.toInt s g) ∧ (rt_c (ly_hv cst h 36096) xm.toInt R.toNat) ≠ 40) → ly_hv cst r.2.1 20055 0 = some R ∧ ly_hv cst r.2.1 36096 = ly_hv cst h 36096)))) D M 39 l [] h' := by
      intro N
      induction N with
      | zero => intro k h' l hN; omega
      | succ N ih =>
        intro k h' l hN hk hy' fr l0 l1 l2 l3 l4 l5
        have row : ly_hv cst h' 36096 = ly_hv cst h 36096 := hp_same (show ly_ths ly_TH 141 = some (.inl (.int, 4000, -2147483648, 2147483647)) from rfl) rfl hy hy' fr
        have kR' := fr _ _ _ rfl kR
        have cc := rt_c0 (ly_hv cst h 36096) xm.toInt k
        by_cases he : (k : Int) = R
        · have ek : R.toNat = k := by omega
          rw [he] at l5
          rw [← ek] at l4
          by_cases e : (rt_c (ly_hv cst h 36096) xm.toInt R.toNat) = 40
          · rw [e] at l4
            exact rd2 c hM (by omega) hy' xm.toInt xz.toInt xf.toInt R (by omega) (by omega) (by omega) (by omega) (by omega) (by omega) R0 R1 kR' l0 l1 l2 l3 l4 l5 (fun h2 a ha u1 u2 u3 => ⟨a, rfl, rfl, rfl, u1, ml (ly_fr_tr fr u2), ⟨fun nk => absurd ok nk, fun _ => ⟨fun _ => ha, fun n => absurd e n⟩⟩, fun gg => absurd e gg.2, fun _ => ⟨u2 _ _ _ rfl kR', by rw [hp_same (show ly_ths ly_TH 141 = some (.inl (.int, 4000, -2147483648, 2147483647)) from rfl) rfl hy' u1 u2, row]⟩⟩)
          · have c0 := rt_c0 (ly_hv cst h 36096) xm.toInt R.toNat
            refine rd3 c hM (by omega) hy' xm.toInt xz.toInt xf.toInt R (rt_c (ly_hv cst h 36096) xm.toInt R.toNat) (by omega) (by omega) (by omega) (by omega) (by omega) (by omega) R0 R1 c0.1 (by omega) kR' l0 l1 l2 l3 l4 l5 (fun l3' h3 y0 y1 f0 f1 v1 v2 v3 k3 j0 j1 j2 j3 j4 => ?_)
            refine hp_st (c := 141) hM (by decide +kernel) v1 (show ly_ths ly_TH 141 = some (.inl (.int, 4000, -2147483648, 2147483647)) from rfl) rfl (by omega) (by omega) y0.le_toInt y0.toInt_le (fun h4 q1 q2 q3 => ?_)
            rw [f0, f1] at q3
            refine rd4 c hM (by omega) q1 xm.toInt xz.toInt xf.toInt R (rt_c (ly_hv cst h 36096) xm.toInt R.toNat) (by omega) (by omega) (by omega) (by omega) (by omega) (by omega) R0 R1 c0.1 (by omega) (by rw [hp_put_ne q3 (by decide)]; exact k3) j0 j1 j2 j3 j4 (fun h5 a ha t1 t2 t3 k5 => ⟨a, rfl, rfl, rfl, t1, ly_fr_tr (ml fr) (ly_fr_tr (hp_sub2 rfl v2) (ly_fr_tr (hp_put_fr (by rfl) q3) (hp_sub2 rfl t2))), ⟨fun nk => absurd ok nk, fun _ => ⟨fun z => absurd z e, fun _ => ha⟩⟩, fun _ => ⟨k5, ?_⟩, fun ng => absurd ⟨ok, e⟩ ng⟩)
            show ly_hv cst h5 36096 = _
            rw [hp_same (show ly_ths ly_TH 141 = some (.inl (.int, 4000, -2147483648, 2147483647)) from rfl) rfl q1 t1 t2, hp_put_eq q3, hp_same (show ly_ths ly_TH 141 = some (.inl (.int, 4000, -2147483648, 2147483647)) from rfl) rfl hy' v1 v2, row]
        · obtain ⟨x, kx, x0, x1⟩ := hp_row (cst := cst) (i := (k : Int)) hy' (show ly_ths ly_TH 141 = some (.inl (.int, 4000, -2147483648, 2147483647)) from rfl) (by omega) (by omega)
          have kx' : ly_hv cst h 36096 (k : Int) = some x := by rw [← row]; exact kx
          have cs : rt_c (ly_hv cst h 36096) xm.toInt (k + 1) = rt_c (ly_hv cst h 36096) xm.toInt k + (if ly_hv cst h 36096 (k : Int) = some xm.toInt then 1 else 0) := rfl
          by_cases q : x = xm.toInt
          · rw [q] at kx kx'
            exact rd0 c hM (by omega) hy' xm.toInt xz.toInt xf.toInt R (rt_c (ly_hv cst h 36096) xm.toInt k) (k : Int) (by omega) (by omega) (by omega) (by omega) (by omega) (by omega) R0 R1 cc.1 (by omega) (by omega) (by omega) (by omega) (by omega) kR' kx l0 l1 l2 l3 l4 l5 (fun l2' h2 u1 u2 u3 j0 j1 j2 j3 j4 j5 => ih (k + 1) h2 l2' (by omega) (by omega) u1 (ly_fr_tr fr u2) j0 j1 j2 j3 (by rw [cs, if_pos kx']; exact j4) (by rw [show ((k + 1 : Nat) : Int) = (k : Int) + 1 by omega]; exact j5))
          · exact rd1 c hM (by omega) hy' xm.toInt xz.toInt xf.toInt R (rt_c (ly_hv cst h 36096) xm.toInt k) (k : Int) x (by omega) (by omega) (by omega) (by omega) (by omega) (by omega) R0 R1 cc.1 (by omega) (by omega) (by omega) x0 x1 (by omega) (by omega) kR' kx (hp_ne (by omega)) l0 l1 l2 l3 l4 l5 (fun l2' h2 u1 u2 u3 j0 j1 j2 j3 j4 j5 => ih (k + 1) h2 l2' (by omega) (by omega) u1 (ly_fr_tr fr u2) j0 j1 j2 j3 (by rw [cs, if_neg (by rw [kx']; intro z; exact q (Option.some.inj z)), Int.add_zero]; exact j4) (by rw [show ((k + 1 : Nat) : Int) = (k : Int) + 1 by omega]; exact j5))
    exact rbk c hM (by omega) hy xm.toInt xz.toInt xf.toInt s g (by omega) (by omega) (by omega) (by omega) (by omega) (by omega) s0 s1 g0 g1 (by omega) (by omega) ks kg rfl ⟨xm, rfl, rfl⟩ ⟨xz, rfl, rfl⟩ ⟨xf, rfl, rfl⟩ (fun l1 h1 u1 u2 u3 j0 j1 j2 j3 j4 j5 => loop (R.toNat + 1) 0 h1 l1 (by omega) (by omega) u1 u2 j0 j1 j2 j3 j4 j5)
  obtain ⟨n', r, hgo, a, r1, r2, r3, r4⟩ := go
  simp only [Nat.zero_add] at r2 r3
  exact ⟨r, Or.inr ⟨M, n', hM, hl, hgo⟩, a, r1, r2, r3, r4⟩
/-- rightings of a matter: told in the class, counted in the reference -/
def rt_H (cst : am_K) (h1 h2 : am_H) : Prop := ∃ R, ly_hv cst h2 20055 0 = some R ∧ 0 ≤ R ∧ ∀ m, 0 ≤ m → m < 100 → rt_c (ly_hv cst h2 36096) m R.toNat ≤ 40 ∧ ly_hv cst h1 8448 m = some (rt_c (ly_hv cst h2 36096) m R.toNat)
theorem rt_mv {cst : am_K} {mc mm : List Nat} {h1 r1 h2 r2 : am_H} (I : rt_H cst h1 h2) (u1 : ly_hy m_tt ly_TH h1) (u2 : ly_hy m_tt ly_TH r1) (w1 : ly_hy m_tt ly_TH h2) (w2 : ly_hy m_tt ly_TH r2) (fc : ly_fr cst mc h1 r1) (fm : ly_fr cst mm h2 r2) (hc : ly_has 8448 mc = false) (hm : [20055, 36096].all (fun q => !ly_has q mm) = true) : rt_H cst r1 r2 := by
  simp only [List.all_cons, List.all_nil, Bool.and_true, Bool.and_eq_true, Bool.not_eq_true'] at hm
  obtain ⟨R, k1, k2, k3⟩ := I
  refine ⟨R, fm _ _ _ hm.1 k1, k2, ?_⟩
  rw [hp_same (show ly_ths ly_TH 33 = some (.inl (.int, 100, -2147483648, 2147483647)) from rfl) hc u1 u2 fc, hp_same (show ly_ths ly_TH 141 = some (.inl (.int, 4000, -2147483648, 2147483647)) from rfl) hm.2 w1 w2 fm]
  exact k3
theorem rt_two {cst : am_K} {h1 h2 q1 q2 : am_H} {ok : Prop} {m v R : Int} (I : ∀ m, 0 ≤ m → m < 100 → rt_c (ly_hv cst h2 36096) m R.toNat ≤ 40 ∧ ly_hv cst h1 8448 m = some (rt_c (ly_hv cst h2 36096) m R.toNat)) (R0 : 0 ≤ R) (ev : ok → v = rt_c (ly_hv cst h2 36096) m R.toNat) (m9 : ok → v ≤ 40)
    (C : (ok ∧ v ≠ 40 → ly_hv cst q1 8448 = hp_upd (ly_hv cst h1 8448) m (v + 1)) ∧ (¬ (ok ∧ v ≠ 40) → ly_hv cst q1 8448 = ly_hv cst h1 8448)) (M : (ok ∧ v ≠ 40 → ly_hv cst q2 20055 0 = some (R + 1) ∧ ly_hv cst q2 36096 = hp_upd (ly_hv cst h2 36096) R m) ∧ (¬ (ok ∧ v ≠ 40) → ly_hv cst q2 20055 0 = some R ∧ ly_hv cst q2 36096 = ly_hv cst h2 36096)) : ∃ R', ly_hv cst q2 20055 0 = some R' ∧ R ≤ R' ∧ R' ≤ R + 1 ∧ ∀ m, 0 ≤ m → m < 100 → rt_c (ly_hv cst q2 36096) m R'.toNat ≤ 40 ∧ ly_hv cst q1 8448 m = some (rt_c (ly_hv cst q2 36096) m R'.toNat) := by
  by_cases g : ok ∧ v ≠ 40
  · obtain ⟨m1, m2⟩ := M.1 g
    have c1 := C.1 g
    have e1 := ev g.1
    have e2 := m9 g.1
    have g2 := g.2
    refine ⟨R + 1, m1, by omega, by omega, fun n n0 n1 => ?_⟩
    obtain ⟨k1, k2⟩ := I n n0 n1
    rw [m2, c1, show (R + 1).toNat = R.toNat + 1 by omega]
    have er : hp_upd (ly_hv cst h2 36096) R m = hp_upd (ly_hv cst h2 36096) ((R.toNat : Nat) : Int) m := by rw [show ((R.toNat : Nat) : Int) = R by omega]
    rw [er, rt_cs]
    by_cases z : m = n
    · subst z
      rw [if_pos rfl, show hp_upd (ly_hv cst h1 8448) m (v + 1) m = some (v + 1) from if_pos rfl, ← e1]
      exact ⟨by omega, rfl⟩
    · rw [if_neg z, show hp_upd (ly_hv cst h1 8448) m (v + 1) n = ly_hv cst h1 8448 n from if_neg (fun y => z y.symm), Int.add_zero]
      exact ⟨k1, k2⟩
  · obtain ⟨m1, m2⟩ := M.2 g
    have c1 := C.2 g
    refine ⟨R, m1, Int.le_refl _, by omega, ?_⟩
    rw [m2, c1]
    exact I
theorem rt_of {cst : am_K} {h1 h2 : am_H} {R : Int} (I : rt_H cst h1 h2) (k : ly_hv cst h2 20055 0 = some R) : ∀ m, 0 ≤ m → m < 100 → rt_c (ly_hv cst h2 36096) m R.toNat ≤ 40 ∧ ly_hv cst h1 8448 m = some (rt_c (ly_hv cst h2 36096) m R.toNat) := by
  obtain ⟨R', k1, k2, k3⟩ := I
  rw [k] at k1
  cases k1
  exact k3
theorem rt_v {cst : am_K} {h1 h2 : am_H} {R : Int} (I : ∀ m, 0 ≤ m → m < 100 → rt_c (ly_hv cst h2 36096) m R.toNat ≤ 40 ∧ ly_hv cst h1 8448 m = some (rt_c (ly_hv cst h2 36096) m R.toNat)) (m : Int) : ∃ v, 0 ≤ v ∧ v ≤ 40 ∧ (0 ≤ m → m < 100 → ly_hv cst h1 8448 m = some v ∧ v = rt_c (ly_hv cst h2 36096) m R.toNat) := by
  by_cases o : 0 ≤ m ∧ m < 100
  · obtain ⟨k1, k2⟩ := I m o.1 o.2
    exact ⟨_, (rt_c0 _ _ _).1, k1, fun _ _ => ⟨k2, rfl⟩⟩
  · exact ⟨0, Int.le_refl _, by decide, fun a b => absurd ⟨a, b⟩ o⟩
theorem rt_0 {cst : am_K} {h : am_H} (hy : ly_hy m_tt ly_TH h) (k : ly_hv cst h 20055 0 = some 0) (hz : ∀ i v, ly_hv cst h 8448 i = some v → v = 0) : rt_H cst h h := by
  refine ⟨0, k, Int.le_refl _, fun m m0 m1 => ?_⟩
  obtain ⟨x, kx, -, -⟩ := hp_row (cst := cst) (i := m) hy (show ly_ths ly_TH 33 = some (.inl (.int, 100, -2147483648, 2147483647)) from rfl) m0 (by omega)
  have kx' : ly_hv cst h 8448 m = some x := kx
  rw [kx', hz _ _ kx']
  exact ⟨(by show (0 : Int) ≤ 40; decide), rfl⟩
