/-! PRINTED by wip/p2/hp_hours.py: hours of class and reference, exactly -/
theorem hw0_k : hp_chk 213 0 3 [(0, (-2147483648), (-1)), (1, (-2147483648), 2147483647), (2, 0, 100)] [] [(0, .inr (.inr (.inl (some 16)))), (1, .inl (0, [(0, 1)])), (2, .inl (0, [(1, 1)]))] [] [(7170, (0, []), (0, [(2, 1)]))] [] 4 [] [([], 3, [(0, (-2147483648), (-1)), (1, (-2147483648), 2147483647), (2, 0, 100)], [], [], [.inl ((-2), [])], [])] = true := by decide +kernel
theorem hw0 {cst : am_K} {strs : List Nat} {Φ : am_Q → Prop} {D : Nat} {M : am_M} {h : am_H} {l : am_L} (c : hp_C cst strs D) (hM : m_P[213]? = some M) (hD : (4 : Int) ≤ (D : Int) + 1) (hy : ly_hy m_tt ly_TH h) (m n s : Int) (b0 : (-2147483648) ≤ m) (t0 : m ≤ (-1)) (b1 : (-2147483648) ≤ n) (t1 : n ≤ 2147483647) (b2 : 0 ≤ s) (t2 : s ≤ 100) (k0 : ly_hv cst h 7170 0 = some (s)) (l0 : hp_a l 0 16) (l1 : hp_i l 1 (m)) (l2 : hp_i l 2 (n)) (r0 : ∀ (h' : am_H) (y0 : Int32), y0.toInt = (-2) → ly_hy m_tt ly_TH h' → ly_fr cst [] h h' → h.length ≤ h'.length → Φ (some (.int y0), h', 0, 0)) : hp_F cst strs Φ D M 0 l [] h := by
  refine hp_arc c hM hw0_k hD [m, n, s] rfl hy (hp_Bc (z := m) rfl b0 t0 (hp_Bc (z := n) rfl b1 t1 (hp_Bc (z := s) rfl b2 t2 hp_Bn))) hp_Fn (hp_Kc (zi := (0 + 0)) (zv := (0 + (1 * s + 0))) k0 rfl rfl (by omega) (by omega) hp_Kn) (hp_La l0 (hp_Li (z := (0 + (1 * m + 0))) l1 rfl (by omega) (hp_Li (z := (0 + (1 * n + 0))) l2 rfl (by omega) hp_Ln))) trivial ?_ ?_
  · intro p hp ys l' st' h' hys a1 a2 a3 gZ gL gS
    cases hp
  · intro p hp ys v h' hys a1 a2 a3 gZ gS
    rcases List.mem_cons.mp hp with rfl | hp
    · obtain rfl := hp_y0 hys
      cases v with
      | none => cases gS
      | some w =>
        obtain ⟨y0, t0, s0, q0, -⟩ := hp_gSi (z := ((-2) + 0)) gS rfl
        cases s0
        exact r0 h' y0 (by omega) a1 a2 a3
    cases hp
theorem hw1_k : hp_chk 213 0 3 [(0, 0, 2147483647), (1, (-2147483648), 2147483647), (2, 0, 100)] [(0, [(0, 1), (2, (-1))])] [(0, .inr (.inr (.inl (some 16)))), (1, .inl (0, [(0, 1)])), (2, .inl (0, [(1, 1)]))] [] [(7170, (0, []), (0, [(2, 1)]))] [] 4 [] [([], 3, [(0, 0, 2147483647), (1, (-2147483648), 2147483647), (2, 0, 100)], [], [], [.inl ((-2), [])], [])] = true := by decide +kernel
theorem hw1 {cst : am_K} {strs : List Nat} {Φ : am_Q → Prop} {D : Nat} {M : am_M} {h : am_H} {l : am_L} (c : hp_C cst strs D) (hM : m_P[213]? = some M) (hD : (4 : Int) ≤ (D : Int) + 1) (hy : ly_hy m_tt ly_TH h) (m n s : Int) (b0 : 0 ≤ m) (t0 : m ≤ 2147483647) (b1 : (-2147483648) ≤ n) (t1 : n ≤ 2147483647) (b2 : 0 ≤ s) (t2 : s ≤ 100) (f0 : 0 ≤ (m - s)) (k0 : ly_hv cst h 7170 0 = some (s)) (l0 : hp_a l 0 16) (l1 : hp_i l 1 (m)) (l2 : hp_i l 2 (n)) (r0 : ∀ (h' : am_H) (y0 : Int32), y0.toInt = (-2) → ly_hy m_tt ly_TH h' → ly_fr cst [] h h' → h.length ≤ h'.length → Φ (some (.int y0), h', 0, 0)) : hp_F cst strs Φ D M 0 l [] h := by
  refine hp_arc c hM hw1_k hD [m, n, s] rfl hy (hp_Bc (z := m) rfl b0 t0 (hp_Bc (z := n) rfl b1 t1 (hp_Bc (z := s) rfl b2 t2 hp_Bn))) (hp_Fc (z := (0 + (1 * m + ((-1) * s + 0)))) rfl (by omega) hp_Fn) (hp_Kc (zi := (0 + 0)) (zv := (0 + (1 * s + 0))) k0 rfl rfl (by omega) (by omega) hp_Kn) (hp_La l0 (hp_Li (z := (0 + (1 * m + 0))) l1 rfl (by omega) (hp_Li (z := (0 + (1 * n + 0))) l2 rfl (by omega) hp_Ln))) trivial ?_ ?_
  · intro p hp ys l' st' h' hys a1 a2 a3 gZ gL gS
    cases hp
  · intro p hp ys v h' hys a1 a2 a3 gZ gS
    rcases List.mem_cons.mp hp with rfl | hp
    · obtain rfl := hp_y0 hys
      cases v with
      | none => cases gS
      | some w =>
        obtain ⟨y0, t0, s0, q0, -⟩ := hp_gSi (z := ((-2) + 0)) gS rfl
        cases s0
        exact r0 h' y0 (by omega) a1 a2 a3
    cases hp
theorem hw2_k : hp_chk 213 0 3 [(0, 0, 99), (1, (-2147483648), 0), (2, 0, 100)] [((-1), [(0, (-1)), (2, 1)])] [(0, .inr (.inr (.inl (some 16)))), (1, .inl (0, [(0, 1)])), (2, .inl (0, [(1, 1)]))] [] [(7170, (0, []), (0, [(2, 1)])), (7424, (0, [(0, 1)]), (1, []))] [] 4 [] [([], 3, [(0, 0, 99), (1, (-2147483648), 0), (2, 0, 100)], [], [], [.inl ((-2), [])], [])] = true := by decide +kernel
theorem hw2 {cst : am_K} {strs : List Nat} {Φ : am_Q → Prop} {D : Nat} {M : am_M} {h : am_H} {l : am_L} (c : hp_C cst strs D) (hM : m_P[213]? = some M) (hD : (4 : Int) ≤ (D : Int) + 1) (hy : ly_hy m_tt ly_TH h) (m n s : Int) (b0 : 0 ≤ m) (t0 : m ≤ 99) (b1 : (-2147483648) ≤ n) (t1 : n ≤ 0) (b2 : 0 ≤ s) (t2 : s ≤ 100) (f0 : 0 ≤ (s - m - 1)) (k0 : ly_hv cst h 7170 0 = some (s)) (k1 : ly_hv cst h 7424 (m) = some 1) (l0 : hp_a l 0 16) (l1 : hp_i l 1 (m)) (l2 : hp_i l 2 (n)) (r0 : ∀ (h' : am_H) (y0 : Int32), y0.toInt = (-2) → ly_hy m_tt ly_TH h' → ly_fr cst [] h h' → h.length ≤ h'.length → Φ (some (.int y0), h', 0, 0)) : hp_F cst strs Φ D M 0 l [] h := by
  refine hp_arc c hM hw2_k hD [m, n, s] rfl hy (hp_Bc (z := m) rfl b0 t0 (hp_Bc (z := n) rfl b1 t1 (hp_Bc (z := s) rfl b2 t2 hp_Bn))) (hp_Fc (z := ((-1) + ((-1) * m + (1 * s + 0)))) rfl (by omega) hp_Fn) (hp_Kc (zi := (0 + 0)) (zv := (0 + (1 * s + 0))) k0 rfl rfl (by omega) (by omega) (hp_Kc (zi := (0 + (1 * m + 0))) (zv := (1 + 0)) k1 rfl rfl (by omega) (by omega) hp_Kn)) (hp_La l0 (hp_Li (z := (0 + (1 * m + 0))) l1 rfl (by omega) (hp_Li (z := (0 + (1 * n + 0))) l2 rfl (by omega) hp_Ln))) trivial ?_ ?_
  · intro p hp ys l' st' h' hys a1 a2 a3 gZ gL gS
    cases hp
  · intro p hp ys v h' hys a1 a2 a3 gZ gS
    rcases List.mem_cons.mp hp with rfl | hp
    · obtain rfl := hp_y0 hys
      cases v with
      | none => cases gS
      | some w =>
        obtain ⟨y0, t0, s0, q0, -⟩ := hp_gSi (z := ((-2) + 0)) gS rfl
        cases s0
        exact r0 h' y0 (by omega) a1 a2 a3
    cases hp
theorem hw3_k : hp_chk 213 0 3 [(0, 0, 99), (1, 5, 2147483647), (2, 0, 100)] [((-1), [(0, (-1)), (2, 1)])] [(0, .inr (.inr (.inl (some 16)))), (1, .inl (0, [(0, 1)])), (2, .inl (0, [(1, 1)]))] [] [(7170, (0, []), (0, [(2, 1)])), (7424, (0, [(0, 1)]), (1, []))] [] 4 [] [([], 3, [(0, 0, 99), (1, 5, 2147483647), (2, 0, 100)], [], [], [.inl ((-2), [])], [])] = true := by decide +kernel
theorem hw3 {cst : am_K} {strs : List Nat} {Φ : am_Q → Prop} {D : Nat} {M : am_M} {h : am_H} {l : am_L} (c : hp_C cst strs D) (hM : m_P[213]? = some M) (hD : (4 : Int) ≤ (D : Int) + 1) (hy : ly_hy m_tt ly_TH h) (m n s : Int) (b0 : 0 ≤ m) (t0 : m ≤ 99) (b1 : 5 ≤ n) (t1 : n ≤ 2147483647) (b2 : 0 ≤ s) (t2 : s ≤ 100) (f0 : 0 ≤ (s - m - 1)) (k0 : ly_hv cst h 7170 0 = some (s)) (k1 : ly_hv cst h 7424 (m) = some 1) (l0 : hp_a l 0 16) (l1 : hp_i l 1 (m)) (l2 : hp_i l 2 (n)) (r0 : ∀ (h' : am_H) (y0 : Int32), y0.toInt = (-2) → ly_hy m_tt ly_TH h' → ly_fr cst [] h h' → h.length ≤ h'.length → Φ (some (.int y0), h', 0, 0)) : hp_F cst strs Φ D M 0 l [] h := by
  refine hp_arc c hM hw3_k hD [m, n, s] rfl hy (hp_Bc (z := m) rfl b0 t0 (hp_Bc (z := n) rfl b1 t1 (hp_Bc (z := s) rfl b2 t2 hp_Bn))) (hp_Fc (z := ((-1) + ((-1) * m + (1 * s + 0)))) rfl (by omega) hp_Fn) (hp_Kc (zi := (0 + 0)) (zv := (0 + (1 * s + 0))) k0 rfl rfl (by omega) (by omega) (hp_Kc (zi := (0 + (1 * m + 0))) (zv := (1 + 0)) k1 rfl rfl (by omega) (by omega) hp_Kn)) (hp_La l0 (hp_Li (z := (0 + (1 * m + 0))) l1 rfl (by omega) (hp_Li (z := (0 + (1 * n + 0))) l2 rfl (by omega) hp_Ln))) trivial ?_ ?_
  · intro p hp ys l' st' h' hys a1 a2 a3 gZ gL gS
    cases hp
  · intro p hp ys v h' hys a1 a2 a3 gZ gS
    rcases List.mem_cons.mp hp with rfl | hp
    · obtain rfl := hp_y0 hys
      cases v with
      | none => cases gS
      | some w =>
        obtain ⟨y0, t0, s0, q0, -⟩ := hp_gSi (z := ((-2) + 0)) gS rfl
        cases s0
        exact r0 h' y0 (by omega) a1 a2 a3
    cases hp
theorem hx0_k : hp_chk 390 0 3 [(0, (-2147483648), (-1)), (1, (-2147483648), 2147483647), (2, 0, 100)] [] [(0, .inr (.inr (.inl (some 94)))), (1, .inl (0, [(0, 1)])), (2, .inl (0, [(1, 1)]))] [] [(20024, (0, []), (0, [(2, 1)]))] [] 4 [] [([], 3, [(0, (-2147483648), (-1)), (1, (-2147483648), 2147483647), (2, 0, 100)], [], [], [.inl ((-2), [])], [])] = true := by decide +kernel
theorem hx0 {cst : am_K} {strs : List Nat} {Φ : am_Q → Prop} {D : Nat} {M : am_M} {h : am_H} {l : am_L} (c : hp_C cst strs D) (hM : m_P[390]? = some M) (hD : (4 : Int) ≤ (D : Int) + 1) (hy : ly_hy m_tt ly_TH h) (m n s : Int) (b0 : (-2147483648) ≤ m) (t0 : m ≤ (-1)) (b1 : (-2147483648) ≤ n) (t1 : n ≤ 2147483647) (b2 : 0 ≤ s) (t2 : s ≤ 100) (k0 : ly_hv cst h 20024 0 = some (s)) (l0 : hp_a l 0 94) (l1 : hp_i l 1 (m)) (l2 : hp_i l 2 (n)) (r0 : ∀ (h' : am_H) (y0 : Int32), y0.toInt = (-2) → ly_hy m_tt ly_TH h' → ly_fr cst [] h h' → h.length ≤ h'.length → Φ (some (.int y0), h', 0, 0)) : hp_F cst strs Φ D M 0 l [] h := by
  refine hp_arc c hM hx0_k hD [m, n, s] rfl hy (hp_Bc (z := m) rfl b0 t0 (hp_Bc (z := n) rfl b1 t1 (hp_Bc (z := s) rfl b2 t2 hp_Bn))) hp_Fn (hp_Kc (zi := (0 + 0)) (zv := (0 + (1 * s + 0))) k0 rfl rfl (by omega) (by omega) hp_Kn) (hp_La l0 (hp_Li (z := (0 + (1 * m + 0))) l1 rfl (by omega) (hp_Li (z := (0 + (1 * n + 0))) l2 rfl (by omega) hp_Ln))) trivial ?_ ?_
  · intro p hp ys l' st' h' hys a1 a2 a3 gZ gL gS
    cases hp
  · intro p hp ys v h' hys a1 a2 a3 gZ gS
    rcases List.mem_cons.mp hp with rfl | hp
    · obtain rfl := hp_y0 hys
      cases v with
      | none => cases gS
      | some w =>
        obtain ⟨y0, t0, s0, q0, -⟩ := hp_gSi (z := ((-2) + 0)) gS rfl
        cases s0
        exact r0 h' y0 (by omega) a1 a2 a3
    cases hp
theorem hx1_k : hp_chk 390 0 3 [(0, 0, 2147483647), (1, (-2147483648), 2147483647), (2, 0, 100)] [(0, [(0, 1), (2, (-1))])] [(0, .inr (.inr (.inl (some 94)))), (1, .inl (0, [(0, 1)])), (2, .inl (0, [(1, 1)]))] [] [(20024, (0, []), (0, [(2, 1)]))] [] 4 [] [([], 3, [(0, 0, 2147483647), (1, (-2147483648), 2147483647), (2, 0, 100)], [], [], [.inl ((-2), [])], [])] = true := by decide +kernel
theorem hx1 {cst : am_K} {strs : List Nat} {Φ : am_Q → Prop} {D : Nat} {M : am_M} {h : am_H} {l : am_L} (c : hp_C cst strs D) (hM : m_P[390]? = some M) (hD : (4 : Int) ≤ (D : Int) + 1) (hy : ly_hy m_tt ly_TH h) (m n s : Int) (b0 : 0 ≤ m) (t0 : m ≤ 2147483647) (b1 : (-2147483648) ≤ n) (t1 : n ≤ 2147483647) (b2 : 0 ≤ s) (t2 : s ≤ 100) (f0 : 0 ≤ (m - s)) (k0 : ly_hv cst h 20024 0 = some (s)) (l0 : hp_a l 0 94) (l1 : hp_i l 1 (m)) (l2 : hp_i l 2 (n)) (r0 : ∀ (h' : am_H) (y0 : Int32), y0.toInt = (-2) → ly_hy m_tt ly_TH h' → ly_fr cst [] h h' → h.length ≤ h'.length → Φ (some (.int y0), h', 0, 0)) : hp_F cst strs Φ D M 0 l [] h := by
  refine hp_arc c hM hx1_k hD [m, n, s] rfl hy (hp_Bc (z := m) rfl b0 t0 (hp_Bc (z := n) rfl b1 t1 (hp_Bc (z := s) rfl b2 t2 hp_Bn))) (hp_Fc (z := (0 + (1 * m + ((-1) * s + 0)))) rfl (by omega) hp_Fn) (hp_Kc (zi := (0 + 0)) (zv := (0 + (1 * s + 0))) k0 rfl rfl (by omega) (by omega) hp_Kn) (hp_La l0 (hp_Li (z := (0 + (1 * m + 0))) l1 rfl (by omega) (hp_Li (z := (0 + (1 * n + 0))) l2 rfl (by omega) hp_Ln))) trivial ?_ ?_
  · intro p hp ys l' st' h' hys a1 a2 a3 gZ gL gS
    cases hp
  · intro p hp ys v h' hys a1 a2 a3 gZ gS
    rcases List.mem_cons.mp hp with rfl | hp
    · obtain rfl := hp_y0 hys
      cases v with
      | none => cases gS
      | some w =>
        obtain ⟨y0, t0, s0, q0, -⟩ := hp_gSi (z := ((-2) + 0)) gS rfl
        cases s0
        exact r0 h' y0 (by omega) a1 a2 a3
    cases hp
theorem hx2_k : hp_chk 390 0 3 [(0, 0, 99), (1, (-2147483648), 0), (2, 0, 100)] [((-1), [(0, (-1)), (2, 1)])] [(0, .inr (.inr (.inl (some 94)))), (1, .inl (0, [(0, 1)])), (2, .inl (0, [(1, 1)]))] [] [(20024, (0, []), (0, [(2, 1)]))] [] 4 [] [([], 3, [(0, 0, 99), (1, (-2147483648), 0), (2, 0, 100)], [], [], [.inl ((-2), [])], [])] = true := by decide +kernel
theorem hx2 {cst : am_K} {strs : List Nat} {Φ : am_Q → Prop} {D : Nat} {M : am_M} {h : am_H} {l : am_L} (c : hp_C cst strs D) (hM : m_P[390]? = some M) (hD : (4 : Int) ≤ (D : Int) + 1) (hy : ly_hy m_tt ly_TH h) (m n s : Int) (b0 : 0 ≤ m) (t0 : m ≤ 99) (b1 : (-2147483648) ≤ n) (t1 : n ≤ 0) (b2 : 0 ≤ s) (t2 : s ≤ 100) (f0 : 0 ≤ (s - m - 1)) (k0 : ly_hv cst h 20024 0 = some (s)) (l0 : hp_a l 0 94) (l1 : hp_i l 1 (m)) (l2 : hp_i l 2 (n)) (r0 : ∀ (h' : am_H) (y0 : Int32), y0.toInt = (-2) → ly_hy m_tt ly_TH h' → ly_fr cst [] h h' → h.length ≤ h'.length → Φ (some (.int y0), h', 0, 0)) : hp_F cst strs Φ D M 0 l [] h := by
  refine hp_arc c hM hx2_k hD [m, n, s] rfl hy (hp_Bc (z := m) rfl b0 t0 (hp_Bc (z := n) rfl b1 t1 (hp_Bc (z := s) rfl b2 t2 hp_Bn))) (hp_Fc (z := ((-1) + ((-1) * m + (1 * s + 0)))) rfl (by omega) hp_Fn) (hp_Kc (zi := (0 + 0)) (zv := (0 + (1 * s + 0))) k0 rfl rfl (by omega) (by omega) hp_Kn) (hp_La l0 (hp_Li (z := (0 + (1 * m + 0))) l1 rfl (by omega) (hp_Li (z := (0 + (1 * n + 0))) l2 rfl (by omega) hp_Ln))) trivial ?_ ?_
  · intro p hp ys l' st' h' hys a1 a2 a3 gZ gL gS
    cases hp
  · intro p hp ys v h' hys a1 a2 a3 gZ gS
    rcases List.mem_cons.mp hp with rfl | hp
    · obtain rfl := hp_y0 hys
      cases v with
      | none => cases gS
      | some w =>
        obtain ⟨y0, t0, s0, q0, -⟩ := hp_gSi (z := ((-2) + 0)) gS rfl
        cases s0
        exact r0 h' y0 (by omega) a1 a2 a3
    cases hp
theorem hx3_k : hp_chk 390 0 3 [(0, 0, 99), (1, 5, 2147483647), (2, 0, 100)] [((-1), [(0, (-1)), (2, 1)])] [(0, .inr (.inr (.inl (some 94)))), (1, .inl (0, [(0, 1)])), (2, .inl (0, [(1, 1)]))] [] [(20024, (0, []), (0, [(2, 1)]))] [] 4 [] [([], 3, [(0, 0, 99), (1, 5, 2147483647), (2, 0, 100)], [], [], [.inl ((-2), [])], [])] = true := by decide +kernel
theorem hx3 {cst : am_K} {strs : List Nat} {Φ : am_Q → Prop} {D : Nat} {M : am_M} {h : am_H} {l : am_L} (c : hp_C cst strs D) (hM : m_P[390]? = some M) (hD : (4 : Int) ≤ (D : Int) + 1) (hy : ly_hy m_tt ly_TH h) (m n s : Int) (b0 : 0 ≤ m) (t0 : m ≤ 99) (b1 : 5 ≤ n) (t1 : n ≤ 2147483647) (b2 : 0 ≤ s) (t2 : s ≤ 100) (f0 : 0 ≤ (s - m - 1)) (k0 : ly_hv cst h 20024 0 = some (s)) (l0 : hp_a l 0 94) (l1 : hp_i l 1 (m)) (l2 : hp_i l 2 (n)) (r0 : ∀ (h' : am_H) (y0 : Int32), y0.toInt = (-2) → ly_hy m_tt ly_TH h' → ly_fr cst [] h h' → h.length ≤ h'.length → Φ (some (.int y0), h', 0, 0)) : hp_F cst strs Φ D M 0 l [] h := by
  refine hp_arc c hM hx3_k hD [m, n, s] rfl hy (hp_Bc (z := m) rfl b0 t0 (hp_Bc (z := n) rfl b1 t1 (hp_Bc (z := s) rfl b2 t2 hp_Bn))) (hp_Fc (z := ((-1) + ((-1) * m + (1 * s + 0)))) rfl (by omega) hp_Fn) (hp_Kc (zi := (0 + 0)) (zv := (0 + (1 * s + 0))) k0 rfl rfl (by omega) (by omega) hp_Kn) (hp_La l0 (hp_Li (z := (0 + (1 * m + 0))) l1 rfl (by omega) (hp_Li (z := (0 + (1 * n + 0))) l2 rfl (by omega) hp_Ln))) trivial ?_ ?_
  · intro p hp ys l' st' h' hys a1 a2 a3 gZ gL gS
    cases hp
  · intro p hp ys v h' hys a1 a2 a3 gZ gS
    rcases List.mem_cons.mp hp with rfl | hp
    · obtain rfl := hp_y0 hys
      cases v with
      | none => cases gS
      | some w =>
        obtain ⟨y0, t0, s0, q0, -⟩ := hp_gSi (z := ((-2) + 0)) gS rfl
        cases s0
        exact r0 h' y0 (by omega) a1 a2 a3
    cases hp
theorem hwk_k : hp_chk 213 0 4 [(0, 0, 99), (1, 1, 4), (2, 0, 100), (3, 1, 4)] [((-1), [(0, (-1)), (2, 1)])] [(0, .inr (.inr (.inl (some 16)))), (1, .inl (0, [(0, 1)])), (2, .inl (0, [(1, 1)]))] [] [(7170, (0, []), (0, [(2, 1)])), (7424, (0, [(0, 1)]), (1, [])), (45322, (0, [(0, 1)]), (0, [(3, 1)]))] [] 4 [(33, ([], 4, [(0, 0, 99), (1, 1, 4), (2, 0, 100), (3, 1, 4)], [], [(4, .inl (0, [(3, 1)]))], [.inl (0, [(1, 1)]), .inr (.inr (.inr (0, (0, [(0, 1)]))))], []))] [] = true := by decide +kernel
theorem hwk {cst : am_K} {strs : List Nat} {Φ : am_Q → Prop} {D : Nat} {M : am_M} {h : am_H} {l : am_L} (c : hp_C cst strs D) (hM : m_P[213]? = some M) (hD : (4 : Int) ≤ (D : Int) + 1) (hy : ly_hy m_tt ly_TH h) (m n s v : Int) (b0 : 0 ≤ m) (t0 : m ≤ 99) (b1 : 1 ≤ n) (t1 : n ≤ 4) (b2 : 0 ≤ s) (t2 : s ≤ 100) (b3 : 1 ≤ v) (t3 : v ≤ 4) (f0 : 0 ≤ (s - m - 1)) (k0 : ly_hv cst h 7170 0 = some (s)) (k1 : ly_hv cst h 7424 (m) = some 1) (k2 : ly_hv cst h 45322 (m) = some (v)) (l0 : hp_a l 0 16) (l1 : hp_i l 1 (m)) (l2 : hp_i l 2 (n)) (e0 : ∀ (l' : am_L) (h' : am_H) (y0 : Int32) (y1 : Nat), y0.toInt = (n) → (y1 : Int) = (m) → 177 + 19 * (y1 + 1) ≤ h'.length → ly_hy m_tt ly_TH h' → ly_fr cst [] h h' → h.length ≤ h'.length → hp_i l' 4 (v) → hp_F cst strs Φ D M 33 l' [.int y0, .ref (16 + (177 + 19 * y1 + 0))] h') : hp_F cst strs Φ D M 0 l [] h := by
  refine hp_arc c hM hwk_k hD [m, n, s, v] rfl hy (hp_Bc (z := m) rfl b0 t0 (hp_Bc (z := n) rfl b1 t1 (hp_Bc (z := s) rfl b2 t2 (hp_Bc (z := v) rfl b3 t3 hp_Bn)))) (hp_Fc (z := ((-1) + ((-1) * m + (1 * s + 0)))) rfl (by omega) hp_Fn) (hp_Kc (zi := (0 + 0)) (zv := (0 + (1 * s + 0))) k0 rfl rfl (by omega) (by omega) (hp_Kc (zi := (0 + (1 * m + 0))) (zv := (1 + 0)) k1 rfl rfl (by omega) (by omega) (hp_Kc (zi := (0 + (1 * m + 0))) (zv := (0 + (1 * v + 0))) k2 rfl rfl (by omega) (by omega) hp_Kn))) (hp_La l0 (hp_Li (z := (0 + (1 * m + 0))) l1 rfl (by omega) (hp_Li (z := (0 + (1 * n + 0))) l2 rfl (by omega) hp_Ln))) trivial ?_ ?_
  · intro p hp ys l' st' h' hys a1 a2 a3 gZ gL gS
    rcases List.mem_cons.mp hp with rfl | hp
    · obtain rfl := hp_y0 hys
      obtain ⟨y0, t0, rfl, q0, g0⟩ := hp_gSi (z := (0 + (1 * n + 0))) gS rfl
      obtain ⟨y1, t1, rfl, q1, p1, g1⟩ := hp_gSm (z := (0 + (1 * m + 0))) g0 rfl
      cases hp_gSn g1
      exact e0 l' h' y0 y1 (by omega) (by omega) p1 a1 a2 a3 (hp_gLi (z := (0 + (1 * v + 0))) gL (List.mem_of_getElem? (i := 0) rfl) rfl (by omega))
    cases hp
  · intro p hp ys v h' hys a1 a2 a3 gZ gS
    cases hp
theorem hwr_k : hp_chk 213 36 1 [(0, 1, 4)] [] [(4, .inl (0, [(0, 1)]))] [] [] [] 2 [] [([], 1, [(0, 1, 4)], [], [], [.inl (0, [(0, 1)])], [])] = true := by decide +kernel
theorem hwr {cst : am_K} {strs : List Nat} {Φ : am_Q → Prop} {D : Nat} {M : am_M} {h : am_H} {l : am_L} (c : hp_C cst strs D) (hM : m_P[213]? = some M) (hD : (2 : Int) ≤ (D : Int) + 1) (hy : ly_hy m_tt ly_TH h) (v : Int) (b0 : 1 ≤ v) (t0 : v ≤ 4) (l4 : hp_i l 4 (v)) (r0 : ∀ (h' : am_H) (y0 : Int32), y0.toInt = (v) → ly_hy m_tt ly_TH h' → ly_fr cst [] h h' → h.length ≤ h'.length → Φ (some (.int y0), h', 0, 0)) : hp_F cst strs Φ D M 36 l [] h := by
  refine hp_arc c hM hwr_k hD [v] rfl hy (hp_Bc (z := v) rfl b0 t0 hp_Bn) hp_Fn hp_Kn (hp_Li (z := (0 + (1 * v + 0))) l4 rfl (by omega) hp_Ln) trivial ?_ ?_
  · intro p hp ys l' st' h' hys a1 a2 a3 gZ gL gS
    cases hp
  · intro p hp ys v h' hys a1 a2 a3 gZ gS
    rcases List.mem_cons.mp hp with rfl | hp
    · obtain rfl := hp_y0 hys
      cases v with
      | none => cases gS
      | some w =>
        obtain ⟨y0, t0, s0, q0, -⟩ := hp_gSi (z := (0 + (1 * v + 0))) gS rfl
        cases s0
        exact r0 h' y0 (by omega) a1 a2 a3
    cases hp
theorem hxk_k : hp_chk 390 0 4 [(0, 0, 99), (1, 1, 4), (2, 0, 100), (3, 1, 4)] [((-1), [(0, (-1)), (2, 1)])] [(0, .inr (.inr (.inl (some 94)))), (1, .inl (0, [(0, 1)])), (2, .inl (0, [(1, 1)]))] [] [(20024, (0, []), (0, [(2, 1)])), (32768, (0, [(0, 1)]), (0, [(3, 1)]))] [] 4 [(33, ([], 4, [(0, 0, 99), (1, 1, 4), (2, 0, 100), (3, 1, 4)], [], [(3, .inl (0, [(3, 1)]))], [.inl (0, [(1, 1)]), .inl (0, [(0, 1)]), .inr (.inr (.inl (some 144)))], []))] [] = true := by decide +kernel
theorem hxk {cst : am_K} {strs : List Nat} {Φ : am_Q → Prop} {D : Nat} {M : am_M} {h : am_H} {l : am_L} (c : hp_C cst strs D) (hM : m_P[390]? = some M) (hD : (4 : Int) ≤ (D : Int) + 1) (hy : ly_hy m_tt ly_TH h) (m n s v : Int) (b0 : 0 ≤ m) (t0 : m ≤ 99) (b1 : 1 ≤ n) (t1 : n ≤ 4) (b2 : 0 ≤ s) (t2 : s ≤ 100) (b3 : 1 ≤ v) (t3 : v ≤ 4) (f0 : 0 ≤ (s - m - 1)) (k0 : ly_hv cst h 20024 0 = some (s)) (k1 : ly_hv cst h 32768 (m) = some (v)) (l0 : hp_a l 0 94) (l1 : hp_i l 1 (m)) (l2 : hp_i l 2 (n)) (e0 : ∀ (l' : am_L) (h' : am_H) (y0 : Int32) (y1 : Int32), y0.toInt = (n) → y1.toInt = (m) → ly_hy m_tt ly_TH h' → ly_fr cst [] h h' → h.length ≤ h'.length → hp_i l' 3 (v) → hp_F cst strs Φ D M 33 l' [.int y0, .int y1, .ref 144] h') : hp_F cst strs Φ D M 0 l [] h := by
  refine hp_arc c hM hxk_k hD [m, n, s, v] rfl hy (hp_Bc (z := m) rfl b0 t0 (hp_Bc (z := n) rfl b1 t1 (hp_Bc (z := s) rfl b2 t2 (hp_Bc (z := v) rfl b3 t3 hp_Bn)))) (hp_Fc (z := ((-1) + ((-1) * m + (1 * s + 0)))) rfl (by omega) hp_Fn) (hp_Kc (zi := (0 + 0)) (zv := (0 + (1 * s + 0))) k0 rfl rfl (by omega) (by omega) (hp_Kc (zi := (0 + (1 * m + 0))) (zv := (0 + (1 * v + 0))) k1 rfl rfl (by omega) (by omega) hp_Kn)) (hp_La l0 (hp_Li (z := (0 + (1 * m + 0))) l1 rfl (by omega) (hp_Li (z := (0 + (1 * n + 0))) l2 rfl (by omega) hp_Ln))) trivial ?_ ?_
  · intro p hp ys l' st' h' hys a1 a2 a3 gZ gL gS
    rcases List.mem_cons.mp hp with rfl | hp
    · obtain rfl := hp_y0 hys
      obtain ⟨y0, t0, rfl, q0, g0⟩ := hp_gSi (z := (0 + (1 * n + 0))) gS rfl
      obtain ⟨y1, t1, rfl, q1, g1⟩ := hp_gSi (z := (0 + (1 * m + 0))) g0 rfl
      obtain ⟨t2, rfl, g2⟩ := hp_gSa g1 (by decide)
      cases hp_gSn g2
      exact e0 l' h' y0 y1 (by omega) (by omega) a1 a2 a3 (hp_gLi (z := (0 + (1 * v + 0))) gL (List.mem_of_getElem? (i := 0) rfl) rfl (by omega))
    cases hp
  · intro p hp ys v h' hys a1 a2 a3 gZ gS
    cases hp
theorem hxr_k : hp_chk 390 34 1 [(0, 1, 4)] [] [(3, .inl (0, [(0, 1)]))] [] [] [] 2 [] [([], 1, [(0, 1, 4)], [], [], [.inl (0, [(0, 1)])], [])] = true := by decide +kernel
theorem hxr {cst : am_K} {strs : List Nat} {Φ : am_Q → Prop} {D : Nat} {M : am_M} {h : am_H} {l : am_L} (c : hp_C cst strs D) (hM : m_P[390]? = some M) (hD : (2 : Int) ≤ (D : Int) + 1) (hy : ly_hy m_tt ly_TH h) (v : Int) (b0 : 1 ≤ v) (t0 : v ≤ 4) (l3 : hp_i l 3 (v)) (r0 : ∀ (h' : am_H) (y0 : Int32), y0.toInt = (v) → ly_hy m_tt ly_TH h' → ly_fr cst [] h h' → h.length ≤ h'.length → Φ (some (.int y0), h', 0, 0)) : hp_F cst strs Φ D M 34 l [] h := by
  refine hp_arc c hM hxr_k hD [v] rfl hy (hp_Bc (z := v) rfl b0 t0 hp_Bn) hp_Fn hp_Kn (hp_Li (z := (0 + (1 * v + 0))) l3 rfl (by omega) hp_Ln) trivial ?_ ?_
  · intro p hp ys l' st' h' hys a1 a2 a3 gZ gL gS
    cases hp
  · intro p hp ys v h' hys a1 a2 a3 gZ gS
    rcases List.mem_cons.mp hp with rfl | hp
    · obtain rfl := hp_y0 hys
      cases v with
      | none => cases gS
      | some w =>
        obtain ⟨y0, t0, s0, q0, -⟩ := hp_gSi (z := (0 + (1 * v + 0))) gS rfl
        cases s0
        exact r0 h' y0 (by omega) a1 a2 a3
    cases hp
def ho_ok (m n s : Int) : Prop := 0 ≤ m ∧ m < s ∧ 1 ≤ n ∧ n ≤ 4
def ho_P (cst : am_K) (h h2 : am_H) (R : Nat) (ok : Prop) (m n a : Int) : Prop := (¬ ok → a = -2 ∧ ∀ j v, ly_hv cst h R j = some v → ly_hv cst h2 R j = some v) ∧ (ok → ly_hv cst h R m = some a ∧ ly_hv cst h2 R m = some n ∧ ∀ j v, j ≠ m → ly_hv cst h R j = some v → ly_hv cst h2 R j = some v)
theorem hw_run {cst : am_K} {strs : List Nat} {D : Nat} {h : am_H} (c : hp_C cst strs D) (hD : (4 : Int) ≤ (D : Int) + 1) (hy : ly_hy m_tt ly_TH h) {xm xn : Int32} {s : Int} (s0 : 0 ≤ s) (s1 : s ≤ 100) (ks : ly_hv cst h 7170 0 = some s) (ko : ∀ j, 0 ≤ j → j < s → ly_hv cst h 7424 j = some 1) (kv : ∀ j, 0 ≤ j → j < s → ∃ v, ly_hv cst h 45322 j = some v ∧ 1 ≤ v ∧ v ≤ 4) :
    ∃ r, am_Run cst m_cl m_tt m_P strs sx_bi (D + 1) 213 [.ref 16, .int xm, .int xn] h r ∧ (fun r : am_Q => ∃ a : Int32, r.1 = some (.int a) ∧ r.2.2.1 = 0 ∧ r.2.2.2 = 0 ∧ ly_hy m_tt ly_TH r.2.1 ∧ ly_fr cst [45322] h r.2.1 ∧ ho_P cst h r.2.1 45322 (ho_ok xm.toInt xn.toInt s) xm.toInt xn.toInt a.toInt) r := by
  obtain ⟨M, hM, hl⟩ := hp_M (mi := 213) (k := 3) (by decide +kernel)
  have bm0 : -2147483648 ≤ xm.toInt := xm.le_toInt
  have bm1 : xm.toInt ≤ 2147483647 := xm.toInt_le
  have bn0 : -2147483648 ≤ xn.toInt := xn.le_toInt
  have bn1 : xn.toInt ≤ 2147483647 := xn.toInt_le
  have ml : ∀ {a b : am_H}, ly_fr cst [] a b → ly_fr cst [45322] a b := fun f r i v _ e => f r i v rfl e
  have go : hp_F cst strs (fun r : am_Q => ∃ a : Int32, r.1 = some (.int a) ∧ r.2.2.1 = 0 ∧ r.2.2.2 = 0 ∧ ly_hy m_tt ly_TH r.2.1 ∧ ly_fr cst [45322] h r.2.1 ∧ ho_P cst h r.2.1 45322 (ho_ok xm.toInt xn.toInt s) xm.toInt xn.toInt a.toInt) D M 0 (lv_args 0 [.ref 16, .int xm, .int xn]) [] h := by
    have no : ¬ (ho_ok xm.toInt xn.toInt s) → ∀ (h' : am_H) (w : Int32), w.toInt = -2 → ly_hy m_tt ly_TH h' → ly_fr cst [] h h' → h.length ≤ h'.length → (fun r : am_Q => ∃ a : Int32, r.1 = some (.int a) ∧ r.2.2.1 = 0 ∧ r.2.2.2 = 0 ∧ ly_hy m_tt ly_TH r.2.1 ∧ ly_fr cst [45322] h r.2.1 ∧ ho_P cst h r.2.1 45322 (ho_ok xm.toInt xn.toInt s) xm.toInt xn.toInt a.toInt) (some (.int w), h', 0, 0) := fun nk h' w hw w1 w2 w3 => ⟨w, rfl, rfl, rfl, w1, ml w2, fun _ => ⟨hw, fun j v e => w2 _ _ _ rfl e⟩, fun ok => absurd ok nk⟩
    by_cases q0 : xm.toInt ≤ -1
    · exact hw0 c hM (by omega) hy xm.toInt xn.toInt s (by omega) (by omega) (by omega) (by omega) s0 s1 ks rfl ⟨xm, rfl, rfl⟩ ⟨xn, rfl, rfl⟩ (no (fun k => by have := k.1; omega))
    by_cases q1 : s ≤ xm.toInt
    · exact hw1 c hM (by omega) hy xm.toInt xn.toInt s (by omega) (by omega) (by omega) (by omega) s0 s1 (by omega) ks rfl ⟨xm, rfl, rfl⟩ ⟨xn, rfl, rfl⟩ (no (fun k => by have := k.2.1; omega))
    by_cases q2 : xn.toInt ≤ 0
    · exact hw2 c hM (by omega) hy xm.toInt xn.toInt s (by omega) (by omega) (by omega) (by omega) s0 s1 (by omega) ks (ko _ (by omega) (by omega)) rfl ⟨xm, rfl, rfl⟩ ⟨xn, rfl, rfl⟩ (no (fun k => by have := k.2.2.1; omega))
    by_cases q3 : 5 ≤ xn.toInt
    · exact hw3 c hM (by omega) hy xm.toInt xn.toInt s (by omega) (by omega) (by omega) (by omega) s0 s1 (by omega) ks (ko _ (by omega) (by omega)) rfl ⟨xm, rfl, rfl⟩ ⟨xn, rfl, rfl⟩ (no (fun k => by have := k.2.2.2; omega))
    have ok : (ho_ok xm.toInt xn.toInt s) := ⟨by omega, by omega, by omega, by omega⟩
    obtain ⟨v, kvv, v0, v1⟩ := kv _ ok.1 ok.2.1
    refine hwk c hM (by omega) hy xm.toInt xn.toInt s v (by omega) (by omega) (by omega) (by omega) s0 s1 v0 v1 (by omega) ks (ko _ (by omega) (by omega)) kvv rfl ⟨xm, rfl, rfl⟩ ⟨xn, rfl, rfl⟩ (fun l1 h1 y0 y1 f0 f1 f2 u1 u2 u3 j0 => ?_)
    refine hp_stm (lo := -2147483648) (hi := 2147483647) hM (by decide +kernel) u1 f2 (by decide +kernel) (by decide +kernel) rfl y0.le_toInt y0.toInt_le (fun h2 q1 q2 q3 => ?_)
    rw [f0, f1] at q3
    refine hwr c hM (by omega) q1 v v0 v1 j0 (fun h5 a ha t1 t2 t3 => ⟨a, rfl, rfl, rfl, t1, ly_fr_tr (ml u2) (ly_fr_tr (hp_put_fr (by rfl) q3) (ml t2)), fun nk => absurd ok nk, fun _ => ⟨?_, ?_, ?_⟩⟩)
    · show ly_hv cst h 45322 xm.toInt = some a.toInt
      rw [ha]; exact kvv
    · exact t2 _ _ _ rfl q3.1
    · intro j v' hj e
      refine t2 _ _ _ rfl ?_
      rw [q3.2 _ _ (Or.inr hj)]
      exact u2 _ _ _ rfl e
  obtain ⟨n', r, hgo, a, r1, r2, r3, r4⟩ := go
  simp only [Nat.zero_add] at r2 r3
  exact ⟨r, Or.inr ⟨M, n', hM, hl, hgo⟩, a, r1, r2, r3, r4⟩
theorem hx_run {cst : am_K} {strs : List Nat} {D : Nat} {h : am_H} (c : hp_C cst strs D) (hD : (4 : Int) ≤ (D : Int) + 1) (hy : ly_hy m_tt ly_TH h) {xm xn : Int32} {s : Int} (s0 : 0 ≤ s) (s1 : s ≤ 100) (ks : ly_hv cst h 20024 0 = some s) (kv : ∀ j, 0 ≤ j → j < s → ∃ v, ly_hv cst h 32768 j = some v ∧ 1 ≤ v ∧ v ≤ 4) :
    ∃ r, am_Run cst m_cl m_tt m_P strs sx_bi (D + 1) 390 [.ref 94, .int xm, .int xn] h r ∧ (fun r : am_Q => ∃ a : Int32, r.1 = some (.int a) ∧ r.2.2.1 = 0 ∧ r.2.2.2 = 0 ∧ ly_hy m_tt ly_TH r.2.1 ∧ ly_fr cst [32768] h r.2.1 ∧ ho_P cst h r.2.1 32768 (ho_ok xm.toInt xn.toInt s) xm.toInt xn.toInt a.toInt) r := by
  obtain ⟨M, hM, hl⟩ := hp_M (mi := 390) (k := 3) (by decide +kernel)
  have bm0 : -2147483648 ≤ xm.toInt := xm.le_toInt
  have bm1 : xm.toInt ≤ 2147483647 := xm.toInt_le
  have bn0 : -2147483648 ≤ xn.toInt := xn.le_toInt
  have bn1 : xn.toInt ≤ 2147483647 := xn.toInt_le
  have ml : ∀ {a b : am_H}, ly_fr cst [] a b → ly_fr cst [32768] a b := fun f r i v _ e => f r i v rfl e
  have go : hp_F cst strs (fun r : am_Q => ∃ a : Int32, r.1 = some (.int a) ∧ r.2.2.1 = 0 ∧ r.2.2.2 = 0 ∧ ly_hy m_tt ly_TH r.2.1 ∧ ly_fr cst [32768] h r.2.1 ∧ ho_P cst h r.2.1 32768 (ho_ok xm.toInt xn.toInt s) xm.toInt xn.toInt a.toInt) D M 0 (lv_args 0 [.ref 94, .int xm, .int xn]) [] h := by
    have no : ¬ (ho_ok xm.toInt xn.toInt s) → ∀ (h' : am_H) (w : Int32), w.toInt = -2 → ly_hy m_tt ly_TH h' → ly_fr cst [] h h' → h.length ≤ h'.length → (fun r : am_Q => ∃ a : Int32, r.1 = some (.int a) ∧ r.2.2.1 = 0 ∧ r.2.2.2 = 0 ∧ ly_hy m_tt ly_TH r.2.1 ∧ ly_fr cst [32768] h r.2.1 ∧ ho_P cst h r.2.1 32768 (ho_ok xm.toInt xn.toInt s) xm.toInt xn.toInt a.toInt) (some (.int w), h', 0, 0) := fun nk h' w hw w1 w2 w3 => ⟨w, rfl, rfl, rfl, w1, ml w2, fun _ => ⟨hw, fun j v e => w2 _ _ _ rfl e⟩, fun ok => absurd ok nk⟩
    by_cases q0 : xm.toInt ≤ -1
    · exact hx0 c hM (by omega) hy xm.toInt xn.toInt s (by omega) (by omega) (by omega) (by omega) s0 s1 ks rfl ⟨xm, rfl, rfl⟩ ⟨xn, rfl, rfl⟩ (no (fun k => by have := k.1; omega))
    by_cases q1 : s ≤ xm.toInt
    · exact hx1 c hM (by omega) hy xm.toInt xn.toInt s (by omega) (by omega) (by omega) (by omega) s0 s1 (by omega) ks rfl ⟨xm, rfl, rfl⟩ ⟨xn, rfl, rfl⟩ (no (fun k => by have := k.2.1; omega))
    by_cases q2 : xn.toInt ≤ 0
    · exact hx2 c hM (by omega) hy xm.toInt xn.toInt s (by omega) (by omega) (by omega) (by omega) s0 s1 (by omega) ks rfl ⟨xm, rfl, rfl⟩ ⟨xn, rfl, rfl⟩ (no (fun k => by have := k.2.2.1; omega))
    by_cases q3 : 5 ≤ xn.toInt
    · exact hx3 c hM (by omega) hy xm.toInt xn.toInt s (by omega) (by omega) (by omega) (by omega) s0 s1 (by omega) ks rfl ⟨xm, rfl, rfl⟩ ⟨xn, rfl, rfl⟩ (no (fun k => by have := k.2.2.2; omega))
    have ok : (ho_ok xm.toInt xn.toInt s) := ⟨by omega, by omega, by omega, by omega⟩
    obtain ⟨v, kvv, v0, v1⟩ := kv _ ok.1 ok.2.1
    refine hxk c hM (by omega) hy xm.toInt xn.toInt s v (by omega) (by omega) (by omega) (by omega) s0 s1 v0 v1 (by omega) ks kvv rfl ⟨xm, rfl, rfl⟩ ⟨xn, rfl, rfl⟩ (fun l1 h1 y0 y1 f0 f1 u1 u2 u3 j0 => ?_)
    refine hp_st (c := 128) hM (by decide +kernel) u1 (show ly_ths ly_TH 128 = some (.inl (.int, 100, -2147483648, 2147483647)) from rfl) rfl (by omega) (by omega) y0.le_toInt y0.toInt_le (fun h2 q1 q2 q3 => ?_)
    rw [f0, f1] at q3
    refine hxr c hM (by omega) q1 v v0 v1 j0 (fun h5 a ha t1 t2 t3 => ⟨a, rfl, rfl, rfl, t1, ly_fr_tr (ml u2) (ly_fr_tr (hp_put_fr (by rfl) q3) (ml t2)), fun nk => absurd ok nk, fun _ => ⟨?_, ?_, ?_⟩⟩)
    · show ly_hv cst h 32768 xm.toInt = some a.toInt
      rw [ha]; exact kvv
    · exact t2 _ _ _ rfl q3.1
    · intro j v' hj e
      refine t2 _ _ _ rfl ?_
      rw [q3.2 _ _ (Or.inr hj)]
      exact u2 _ _ _ rfl e
  obtain ⟨n', r, hgo, a, r1, r2, r3, r4⟩ := go
  simp only [Nat.zero_add] at r2 r3
  exact ⟨r, Or.inr ⟨M, n', hM, hl, hgo⟩, a, r1, r2, r3, r4⟩
theorem ho_two {cst : am_K} {h1 h2 q1 q2 : am_H} {s m n a b : Int} (I : ∀ j, 0 ≤ j → j < s → ∃ v, ly_hv cst h1 45322 j = some v ∧ ly_hv cst h2 32768 j = some v ∧ 1 ≤ v ∧ v ≤ 4) (C : ho_P cst h1 q1 45322 (ho_ok m n s) m n a) (M : ho_P cst h2 q2 32768 (ho_ok m n s) m n b) : b = a ∧ ∀ j, 0 ≤ j → j < s → ∃ v, ly_hv cst q1 45322 j = some v ∧ ly_hv cst q2 32768 j = some v ∧ 1 ≤ v ∧ v ≤ 4 := by
  by_cases ok : ho_ok m n s
  · obtain ⟨c1, c2, c3⟩ := C.2 ok
    obtain ⟨m1, m2, m3⟩ := M.2 ok
    refine ⟨?_, fun j j0 j1 => ?_⟩
    · obtain ⟨v, k1, k2, -⟩ := I m ok.1 ok.2.1
      rw [k1] at c1
      rw [k2] at m1
      exact (Option.some.inj m1).symm.trans (Option.some.inj c1)
    · by_cases e : j = m
      · rw [e]
        exact ⟨n, c2, m2, ok.2.2.1, ok.2.2.2⟩
      · obtain ⟨v, k1, k2, k3⟩ := I j j0 j1
        exact ⟨v, c3 _ _ e k1, m3 _ _ e k2, k3⟩
  · obtain ⟨c1, c3⟩ := C.1 ok
    obtain ⟨m1, m3⟩ := M.1 ok
    refine ⟨by rw [c1, m1], fun j j0 j1 => ?_⟩
    obtain ⟨v, k1, k2, k3⟩ := I j j0 j1
    exact ⟨v, c3 _ _ k1, m3 _ _ k2, k3⟩
