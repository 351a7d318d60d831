/-! PRINTED by wip/p2/hp_billx.py: bill of both, exactly -/
theorem bx0_k : hq_chk [139] 152 0 3 [(0, (-2147483648), (-1)), (1, 0, 100), (2, (-2147483648), 2147483647)] [] [(0, .inr (.inr (.inl (some 16)))), (1, .inl (0, [(0, 1)])), (2, .inl (0, [(2, 1)]))] [] [(7170, (0, []), (0, [(1, 1)]))] [] 8 [] [([], 3, [(0, (-2147483648), (-1)), (1, 0, 100), (2, (-2147483648), 2147483647)], [], [], [.inl ((-2), [])], [])] = true := by decide +kernel
theorem bx0 {cst : am_K} {strs : List Nat} {Φ : am_Q → Prop} {D : Nat} {M : am_M} {h : am_H} {l : am_L} (c : hp_C cst strs D) (hM : m_P[152]? = some M) (hD : (8 : Int) ≤ (D : Int) + 1) (hy : ly_hy m_tt ly_TH h) (m s q : Int) (b0 : (-2147483648) ≤ m) (t0 : m ≤ (-1)) (b1 : 0 ≤ s) (t1 : s ≤ 100) (b2 : (-2147483648) ≤ q) (t2 : q ≤ 2147483647) (k0 : ly_hv cst h 7170 0 = some (s)) (l0 : hp_a l 0 16) (l1 : hp_i l 1 (m)) (l2 : hp_i l 2 (q)) (r0 : ∀ (h_9' : am_H) (y0 : Int32), y0.toInt = (-2) → ly_hy m_tt ly_TH h_9' → ly_fr cst [] h h_9' → h.length ≤ h_9'.length → Φ (some (.int y0), h_9', 0, 0)) : hp_F cst strs Φ D M 0 l [] h := by
  refine hq_arc c hM bx0_k hD [m, s, q] rfl hy (hp_Bc (z := m) rfl b0 t0 (hp_Bc (z := s) rfl b1 t1 (hp_Bc (z := q) rfl b2 t2 hp_Bn))) hp_Fn (hp_Kc (zi := (0 + 0)) (zv := (0 + (1 * s + 0))) k0 rfl rfl (by omega) (by omega) hp_Kn) (hp_La l0 (hp_Li (z := (0 + (1 * m + 0))) l1 rfl (by omega) (hp_Li (z := (0 + (1 * q + 0))) l2 rfl (by omega) hp_Ln))) trivial ?_ ?_
  · intro p_9 hp ys l' st_9' h_9' hys a1_9 a2 a3 gZ gL gS
    cases hp
  · intro p_9 hp ys v_9 h_9' hys a1_9 a2 a3 gZ gS
    rcases List.mem_cons.mp hp with rfl | hp
    · obtain rfl := hp_y0 hys
      cases v_9 with
      | none => cases gS
      | some wz =>
        obtain ⟨y0, t0, s0_9, q0, -⟩ := hp_gSi (z := ((-2) + 0)) gS rfl
        cases s0_9
        exact r0 h_9' y0 (by omega) a1_9 a2 a3
    cases hp
theorem bx1_k : hq_chk [139] 152 0 3 [(0, 0, 2147483647), (1, 0, 100), (2, (-2147483648), 2147483647)] [(0, [(0, 1), (1, (-1))])] [(0, .inr (.inr (.inl (some 16)))), (1, .inl (0, [(0, 1)])), (2, .inl (0, [(2, 1)]))] [] [(7170, (0, []), (0, [(1, 1)]))] [] 8 [] [([], 3, [(0, 0, 2147483647), (1, 0, 100), (2, (-2147483648), 2147483647)], [], [], [.inl ((-2), [])], [])] = true := by decide +kernel
theorem bx1 {cst : am_K} {strs : List Nat} {Φ : am_Q → Prop} {D : Nat} {M : am_M} {h : am_H} {l : am_L} (c : hp_C cst strs D) (hM : m_P[152]? = some M) (hD : (8 : Int) ≤ (D : Int) + 1) (hy : ly_hy m_tt ly_TH h) (m s q : Int) (b0 : 0 ≤ m) (t0 : m ≤ 2147483647) (b1 : 0 ≤ s) (t1 : s ≤ 100) (b2 : (-2147483648) ≤ q) (t2 : q ≤ 2147483647) (f0 : 0 ≤ (m - s)) (k0 : ly_hv cst h 7170 0 = some (s)) (l0 : hp_a l 0 16) (l1 : hp_i l 1 (m)) (l2 : hp_i l 2 (q)) (r0 : ∀ (h_9' : am_H) (y0 : Int32), y0.toInt = (-2) → ly_hy m_tt ly_TH h_9' → ly_fr cst [] h h_9' → h.length ≤ h_9'.length → Φ (some (.int y0), h_9', 0, 0)) : hp_F cst strs Φ D M 0 l [] h := by
  refine hq_arc c hM bx1_k hD [m, s, q] rfl hy (hp_Bc (z := m) rfl b0 t0 (hp_Bc (z := s) rfl b1 t1 (hp_Bc (z := q) rfl b2 t2 hp_Bn))) (hp_Fc (z := (0 + (1 * m + ((-1) * s + 0)))) rfl (by omega) hp_Fn) (hp_Kc (zi := (0 + 0)) (zv := (0 + (1 * s + 0))) k0 rfl rfl (by omega) (by omega) hp_Kn) (hp_La l0 (hp_Li (z := (0 + (1 * m + 0))) l1 rfl (by omega) (hp_Li (z := (0 + (1 * q + 0))) l2 rfl (by omega) hp_Ln))) trivial ?_ ?_
  · intro p_9 hp ys l' st_9' h_9' hys a1_9 a2 a3 gZ gL gS
    cases hp
  · intro p_9 hp ys v_9 h_9' hys a1_9 a2 a3 gZ gS
    rcases List.mem_cons.mp hp with rfl | hp
    · obtain rfl := hp_y0 hys
      cases v_9 with
      | none => cases gS
      | some wz =>
        obtain ⟨y0, t0, s0_9, q0, -⟩ := hp_gSi (z := ((-2) + 0)) gS rfl
        cases s0_9
        exact r0 h_9' y0 (by omega) a1_9 a2 a3
    cases hp
theorem bx20_k : hq_chk [139] 152 0 4 [(0, 0, 99), (1, 0, 100), (2, (-2147483648), 2147483647), (3, (-2147483648), (-2))] [((-1), [(0, (-1)), (1, 1)])] [(0, .inr (.inr (.inl (some 16)))), (1, .inl (0, [(0, 1)])), (2, .inl (0, [(2, 1)]))] [] [(7170, (0, []), (0, [(1, 1)])), (7424, (0, [(0, 1)]), (1, [])), (45313, (0, [(0, 1)]), (0, [(3, 1)]))] [] 8 [] [([], 4, [(0, 0, 99), (1, 0, 100), (2, (-2147483648), 2147483647), (3, (-2147483648), (-2))], [], [], [.inl ((-2), [])], [])] = true := by decide +kernel
theorem bx20 {cst : am_K} {strs : List Nat} {Φ : am_Q → Prop} {D : Nat} {M : am_M} {h : am_H} {l : am_L} (c : hp_C cst strs D) (hM : m_P[152]? = some M) (hD : (8 : Int) ≤ (D : Int) + 1) (hy : ly_hy m_tt ly_TH h) (m s q u : Int) (b0 : 0 ≤ m) (t0 : m ≤ 99) (b1 : 0 ≤ s) (t1 : s ≤ 100) (b2 : (-2147483648) ≤ q) (t2 : q ≤ 2147483647) (b3 : (-2147483648) ≤ u) (t3 : u ≤ (-2)) (f0 : 0 ≤ (s - m - 1)) (k0 : ly_hv cst h 7170 0 = some (s)) (k1 : ly_hv cst h 7424 (m) = some 1) (k2 : ly_hv cst h 45313 (m) = some (u)) (l0 : hp_a l 0 16) (l1 : hp_i l 1 (m)) (l2 : hp_i l 2 (q)) (r0 : ∀ (h_9' : am_H) (y0 : Int32), y0.toInt = (-2) → ly_hy m_tt ly_TH h_9' → ly_fr cst [] h h_9' → h.length ≤ h_9'.length → Φ (some (.int y0), h_9', 0, 0)) : hp_F cst strs Φ D M 0 l [] h := by
  refine hq_arc c hM bx20_k hD [m, s, q, u] rfl hy (hp_Bc (z := m) rfl b0 t0 (hp_Bc (z := s) rfl b1 t1 (hp_Bc (z := q) rfl b2 t2 (hp_Bc (z := u) rfl b3 t3 hp_Bn)))) (hp_Fc (z := ((-1) + ((-1) * m + (1 * s + 0)))) rfl (by omega) hp_Fn) (hp_Kc (zi := (0 + 0)) (zv := (0 + (1 * s + 0))) k0 rfl rfl (by omega) (by omega) (hp_Kc (zi := (0 + (1 * m + 0))) (zv := (1 + 0)) k1 rfl rfl (by omega) (by omega) (hp_Kc (zi := (0 + (1 * m + 0))) (zv := (0 + (1 * u + 0))) k2 rfl rfl (by omega) (by omega) hp_Kn))) (hp_La l0 (hp_Li (z := (0 + (1 * m + 0))) l1 rfl (by omega) (hp_Li (z := (0 + (1 * q + 0))) l2 rfl (by omega) hp_Ln))) trivial ?_ ?_
  · intro p_9 hp ys l' st_9' h_9' hys a1_9 a2 a3 gZ gL gS
    cases hp
  · intro p_9 hp ys v_9 h_9' hys a1_9 a2 a3 gZ gS
    rcases List.mem_cons.mp hp with rfl | hp
    · obtain rfl := hp_y0 hys
      cases v_9 with
      | none => cases gS
      | some wz =>
        obtain ⟨y0, t0, s0_9, q0, -⟩ := hp_gSi (z := ((-2) + 0)) gS rfl
        cases s0_9
        exact r0 h_9' y0 (by omega) a1_9 a2 a3
    cases hp
theorem bx21_k : hq_chk [139] 152 0 4 [(0, 0, 99), (1, 0, 100), (2, (-2147483648), 2147483647), (3, 0, 2147483647)] [((-1), [(0, (-1)), (1, 1)])] [(0, .inr (.inr (.inl (some 16)))), (1, .inl (0, [(0, 1)])), (2, .inl (0, [(2, 1)]))] [] [(7170, (0, []), (0, [(1, 1)])), (7424, (0, [(0, 1)]), (1, [])), (45313, (0, [(0, 1)]), (0, [(3, 1)]))] [] 8 [] [([], 4, [(0, 0, 99), (1, 0, 100), (2, (-2147483648), 2147483647), (3, 0, 2147483647)], [], [], [.inl ((-2), [])], [])] = true := by decide +kernel
theorem bx21 {cst : am_K} {strs : List Nat} {Φ : am_Q → Prop} {D : Nat} {M : am_M} {h : am_H} {l : am_L} (c : hp_C cst strs D) (hM : m_P[152]? = some M) (hD : (8 : Int) ≤ (D : Int) + 1) (hy : ly_hy m_tt ly_TH h) (m s q u : Int) (b0 : 0 ≤ m) (t0 : m ≤ 99) (b1 : 0 ≤ s) (t1 : s ≤ 100) (b2 : (-2147483648) ≤ q) (t2 : q ≤ 2147483647) (b3 : 0 ≤ u) (t3 : u ≤ 2147483647) (f0 : 0 ≤ (s - m - 1)) (k0 : ly_hv cst h 7170 0 = some (s)) (k1 : ly_hv cst h 7424 (m) = some 1) (k2 : ly_hv cst h 45313 (m) = some (u)) (l0 : hp_a l 0 16) (l1 : hp_i l 1 (m)) (l2 : hp_i l 2 (q)) (r0 : ∀ (h_9' : am_H) (y0 : Int32), y0.toInt = (-2) → ly_hy m_tt ly_TH h_9' → ly_fr cst [] h h_9' → h.length ≤ h_9'.length → Φ (some (.int y0), h_9', 0, 0)) : hp_F cst strs Φ D M 0 l [] h := by
  refine hq_arc c hM bx21_k hD [m, s, q, u] rfl hy (hp_Bc (z := m) rfl b0 t0 (hp_Bc (z := s) rfl b1 t1 (hp_Bc (z := q) rfl b2 t2 (hp_Bc (z := u) rfl b3 t3 hp_Bn)))) (hp_Fc (z := ((-1) + ((-1) * m + (1 * s + 0)))) rfl (by omega) hp_Fn) (hp_Kc (zi := (0 + 0)) (zv := (0 + (1 * s + 0))) k0 rfl rfl (by omega) (by omega) (hp_Kc (zi := (0 + (1 * m + 0))) (zv := (1 + 0)) k1 rfl rfl (by omega) (by omega) (hp_Kc (zi := (0 + (1 * m + 0))) (zv := (0 + (1 * u + 0))) k2 rfl rfl (by omega) (by omega) hp_Kn))) (hp_La l0 (hp_Li (z := (0 + (1 * m + 0))) l1 rfl (by omega) (hp_Li (z := (0 + (1 * q + 0))) l2 rfl (by omega) hp_Ln))) trivial ?_ ?_
  · intro p_9 hp ys l' st_9' h_9' hys a1_9 a2 a3 gZ gL gS
    cases hp
  · intro p_9 hp ys v_9 h_9' hys a1_9 a2 a3 gZ gS
    rcases List.mem_cons.mp hp with rfl | hp
    · obtain rfl := hp_y0 hys
      cases v_9 with
      | none => cases gS
      | some wz =>
        obtain ⟨y0, t0, s0_9, q0, -⟩ := hp_gSi (z := ((-2) + 0)) gS rfl
        cases s0_9
        exact r0 h_9' y0 (by omega) a1_9 a2 a3
    cases hp
theorem bx30_k : hq_chk [139] 152 0 3 [(0, 0, 99), (1, 0, 100), (2, (-2147483648), (-1))] [((-1), [(0, (-1)), (1, 1)])] [(0, .inr (.inr (.inl (some 16)))), (1, .inl (0, [(0, 1)])), (2, .inl (0, [(2, 1)]))] [] [(7170, (0, []), (0, [(1, 1)])), (7424, (0, [(0, 1)]), (1, [])), (45313, (0, [(0, 1)]), ((-1), []))] [] 8 [] [([], 3, [(0, 0, 99), (1, 0, 100), (2, (-2147483648), (-1))], [], [], [.inl ((-2), [])], [])] = true := by decide +kernel
theorem bx30 {cst : am_K} {strs : List Nat} {Φ : am_Q → Prop} {D : Nat} {M : am_M} {h : am_H} {l : am_L} (c : hp_C cst strs D) (hM : m_P[152]? = some M) (hD : (8 : Int) ≤ (D : Int) + 1) (hy : ly_hy m_tt ly_TH h) (m s q : Int) (b0 : 0 ≤ m) (t0 : m ≤ 99) (b1 : 0 ≤ s) (t1 : s ≤ 100) (b2 : (-2147483648) ≤ q) (t2 : q ≤ (-1)) (f0 : 0 ≤ (s - m - 1)) (k0 : ly_hv cst h 7170 0 = some (s)) (k1 : ly_hv cst h 7424 (m) = some 1) (k2 : ly_hv cst h 45313 (m) = some (-1)) (l0 : hp_a l 0 16) (l1 : hp_i l 1 (m)) (l2 : hp_i l 2 (q)) (r0 : ∀ (h_9' : am_H) (y0 : Int32), y0.toInt = (-2) → ly_hy m_tt ly_TH h_9' → ly_fr cst [] h h_9' → h.length ≤ h_9'.length → Φ (some (.int y0), h_9', 0, 0)) : hp_F cst strs Φ D M 0 l [] h := by
  refine hq_arc c hM bx30_k hD [m, s, q] rfl hy (hp_Bc (z := m) rfl b0 t0 (hp_Bc (z := s) rfl b1 t1 (hp_Bc (z := q) rfl b2 t2 hp_Bn))) (hp_Fc (z := ((-1) + ((-1) * m + (1 * s + 0)))) rfl (by omega) hp_Fn) (hp_Kc (zi := (0 + 0)) (zv := (0 + (1 * s + 0))) k0 rfl rfl (by omega) (by omega) (hp_Kc (zi := (0 + (1 * m + 0))) (zv := (1 + 0)) k1 rfl rfl (by omega) (by omega) (hp_Kc (zi := (0 + (1 * m + 0))) (zv := ((-1) + 0)) k2 rfl rfl (by omega) (by omega) hp_Kn))) (hp_La l0 (hp_Li (z := (0 + (1 * m + 0))) l1 rfl (by omega) (hp_Li (z := (0 + (1 * q + 0))) l2 rfl (by omega) hp_Ln))) trivial ?_ ?_
  · intro p_9 hp ys l' st_9' h_9' hys a1_9 a2 a3 gZ gL gS
    cases hp
  · intro p_9 hp ys v_9 h_9' hys a1_9 a2 a3 gZ gS
    rcases List.mem_cons.mp hp with rfl | hp
    · obtain rfl := hp_y0 hys
      cases v_9 with
      | none => cases gS
      | some wz =>
        obtain ⟨y0, t0, s0_9, q0, -⟩ := hp_gSi (z := ((-2) + 0)) gS rfl
        cases s0_9
        exact r0 h_9' y0 (by omega) a1_9 a2 a3
    cases hp
theorem bx31_k : hq_chk [139] 152 0 3 [(0, 0, 99), (1, 0, 100), (2, 24, 2147483647)] [((-1), [(0, (-1)), (1, 1)])] [(0, .inr (.inr (.inl (some 16)))), (1, .inl (0, [(0, 1)])), (2, .inl (0, [(2, 1)]))] [] [(7170, (0, []), (0, [(1, 1)])), (7424, (0, [(0, 1)]), (1, [])), (45313, (0, [(0, 1)]), ((-1), []))] [] 8 [] [([], 3, [(0, 0, 99), (1, 0, 100), (2, 24, 2147483647)], [], [], [.inl ((-2), [])], [])] = true := by decide +kernel
theorem bx31 {cst : am_K} {strs : List Nat} {Φ : am_Q → Prop} {D : Nat} {M : am_M} {h : am_H} {l : am_L} (c : hp_C cst strs D) (hM : m_P[152]? = some M) (hD : (8 : Int) ≤ (D : Int) + 1) (hy : ly_hy m_tt ly_TH h) (m s q : Int) (b0 : 0 ≤ m) (t0 : m ≤ 99) (b1 : 0 ≤ s) (t1 : s ≤ 100) (b2 : 24 ≤ q) (t2 : q ≤ 2147483647) (f0 : 0 ≤ (s - m - 1)) (k0 : ly_hv cst h 7170 0 = some (s)) (k1 : ly_hv cst h 7424 (m) = some 1) (k2 : ly_hv cst h 45313 (m) = some (-1)) (l0 : hp_a l 0 16) (l1 : hp_i l 1 (m)) (l2 : hp_i l 2 (q)) (r0 : ∀ (h_9' : am_H) (y0 : Int32), y0.toInt = (-2) → ly_hy m_tt ly_TH h_9' → ly_fr cst [] h h_9' → h.length ≤ h_9'.length → Φ (some (.int y0), h_9', 0, 0)) : hp_F cst strs Φ D M 0 l [] h := by
  refine hq_arc c hM bx31_k hD [m, s, q] rfl hy (hp_Bc (z := m) rfl b0 t0 (hp_Bc (z := s) rfl b1 t1 (hp_Bc (z := q) rfl b2 t2 hp_Bn))) (hp_Fc (z := ((-1) + ((-1) * m + (1 * s + 0)))) rfl (by omega) hp_Fn) (hp_Kc (zi := (0 + 0)) (zv := (0 + (1 * s + 0))) k0 rfl rfl (by omega) (by omega) (hp_Kc (zi := (0 + (1 * m + 0))) (zv := (1 + 0)) k1 rfl rfl (by omega) (by omega) (hp_Kc (zi := (0 + (1 * m + 0))) (zv := ((-1) + 0)) k2 rfl rfl (by omega) (by omega) hp_Kn))) (hp_La l0 (hp_Li (z := (0 + (1 * m + 0))) l1 rfl (by omega) (hp_Li (z := (0 + (1 * q + 0))) l2 rfl (by omega) hp_Ln))) trivial ?_ ?_
  · intro p_9 hp ys l' st_9' h_9' hys a1_9 a2 a3 gZ gL gS
    cases hp
  · intro p_9 hp ys v_9 h_9' hys a1_9 a2 a3 gZ gS
    rcases List.mem_cons.mp hp with rfl | hp
    · obtain rfl := hp_y0 hys
      cases v_9 with
      | none => cases gS
      | some wz =>
        obtain ⟨y0, t0, s0_9, q0, -⟩ := hp_gSi (z := ((-2) + 0)) gS rfl
        cases s0_9
        exact r0 h_9' y0 (by omega) a1_9 a2 a3
    cases hp
theorem bx40_k : hq_chk [139] 152 0 4 [(0, 0, 99), (1, 0, 100), (2, 0, 23), (3, (-2147483648), (-1))] [((-1), [(0, (-1)), (1, 1)])] [(0, .inr (.inr (.inl (some 16)))), (1, .inl (0, [(0, 1)])), (2, .inl (0, [(2, 1)]))] [] [(7170, (0, []), (0, [(1, 1)])), (7424, (0, [(0, 1)]), (1, [])), (45313, (0, [(0, 1)]), ((-1), [])), (45319, (0, [(0, 1)]), (0, [(3, 1)]))] [] 8 [] [([], 4, [(0, 0, 99), (1, 0, 100), (2, 0, 23), (3, (-2147483648), (-1))], [], [], [.inl ((-4), [])], [])] = true := by decide +kernel
theorem bx40 {cst : am_K} {strs : List Nat} {Φ : am_Q → Prop} {D : Nat} {M : am_M} {h : am_H} {l : am_L} (c : hp_C cst strs D) (hM : m_P[152]? = some M) (hD : (8 : Int) ≤ (D : Int) + 1) (hy : ly_hy m_tt ly_TH h) (m s q v : Int) (b0 : 0 ≤ m) (t0 : m ≤ 99) (b1 : 0 ≤ s) (t1 : s ≤ 100) (b2 : 0 ≤ q) (t2 : q ≤ 23) (b3 : (-2147483648) ≤ v) (t3 : v ≤ (-1)) (f0 : 0 ≤ (s - m - 1)) (k0 : ly_hv cst h 7170 0 = some (s)) (k1 : ly_hv cst h 7424 (m) = some 1) (k2 : ly_hv cst h 45313 (m) = some (-1)) (k3 : ly_hv cst h 45319 (m) = some (v)) (l0 : hp_a l 0 16) (l1 : hp_i l 1 (m)) (l2 : hp_i l 2 (q)) (r0 : ∀ (h_9' : am_H) (y0 : Int32), y0.toInt = (-4) → ly_hy m_tt ly_TH h_9' → ly_fr cst [] h h_9' → h.length ≤ h_9'.length → Φ (some (.int y0), h_9', 0, 0)) : hp_F cst strs Φ D M 0 l [] h := by
  refine hq_arc c hM bx40_k hD [m, s, q, v] rfl hy (hp_Bc (z := m) rfl b0 t0 (hp_Bc (z := s) rfl b1 t1 (hp_Bc (z := q) rfl b2 t2 (hp_Bc (z := v) rfl b3 t3 hp_Bn)))) (hp_Fc (z := ((-1) + ((-1) * m + (1 * s + 0)))) rfl (by omega) hp_Fn) (hp_Kc (zi := (0 + 0)) (zv := (0 + (1 * s + 0))) k0 rfl rfl (by omega) (by omega) (hp_Kc (zi := (0 + (1 * m + 0))) (zv := (1 + 0)) k1 rfl rfl (by omega) (by omega) (hp_Kc (zi := (0 + (1 * m + 0))) (zv := ((-1) + 0)) k2 rfl rfl (by omega) (by omega) (hp_Kc (zi := (0 + (1 * m + 0))) (zv := (0 + (1 * v + 0))) k3 rfl rfl (by omega) (by omega) hp_Kn)))) (hp_La l0 (hp_Li (z := (0 + (1 * m + 0))) l1 rfl (by omega) (hp_Li (z := (0 + (1 * q + 0))) l2 rfl (by omega) hp_Ln))) trivial ?_ ?_
  · intro p_9 hp ys l' st_9' h_9' hys a1_9 a2 a3 gZ gL gS
    cases hp
  · intro p_9 hp ys v h_9' hys a1_9 a2 a3 gZ gS
    rcases List.mem_cons.mp hp with rfl | hp
    · obtain rfl := hp_y0 hys
      cases v with
      | none => cases gS
      | some wz =>
        obtain ⟨y0, t0, s0_9, q0, -⟩ := hp_gSi (z := ((-4) + 0)) gS rfl
        cases s0_9
        exact r0 h_9' y0 (by omega) a1_9 a2 a3
    cases hp
theorem bx41_k : hq_chk [139] 152 0 4 [(0, 0, 99), (1, 0, 100), (2, 0, 23), (3, 1, 2147483647)] [((-1), [(0, (-1)), (1, 1)])] [(0, .inr (.inr (.inl (some 16)))), (1, .inl (0, [(0, 1)])), (2, .inl (0, [(2, 1)]))] [] [(7170, (0, []), (0, [(1, 1)])), (7424, (0, [(0, 1)]), (1, [])), (45313, (0, [(0, 1)]), ((-1), [])), (45319, (0, [(0, 1)]), (0, [(3, 1)]))] [] 8 [] [([], 4, [(0, 0, 99), (1, 0, 100), (2, 0, 23), (3, 1, 2147483647)], [], [], [.inl ((-4), [])], [])] = true := by decide +kernel
theorem bx41 {cst : am_K} {strs : List Nat} {Φ : am_Q → Prop} {D : Nat} {M : am_M} {h : am_H} {l : am_L} (c : hp_C cst strs D) (hM : m_P[152]? = some M) (hD : (8 : Int) ≤ (D : Int) + 1) (hy : ly_hy m_tt ly_TH h) (m s q v : Int) (b0 : 0 ≤ m) (t0 : m ≤ 99) (b1 : 0 ≤ s) (t1 : s ≤ 100) (b2 : 0 ≤ q) (t2 : q ≤ 23) (b3 : 1 ≤ v) (t3 : v ≤ 2147483647) (f0 : 0 ≤ (s - m - 1)) (k0 : ly_hv cst h 7170 0 = some (s)) (k1 : ly_hv cst h 7424 (m) = some 1) (k2 : ly_hv cst h 45313 (m) = some (-1)) (k3 : ly_hv cst h 45319 (m) = some (v)) (l0 : hp_a l 0 16) (l1 : hp_i l 1 (m)) (l2 : hp_i l 2 (q)) (r0 : ∀ (h_9' : am_H) (y0 : Int32), y0.toInt = (-4) → ly_hy m_tt ly_TH h_9' → ly_fr cst [] h h_9' → h.length ≤ h_9'.length → Φ (some (.int y0), h_9', 0, 0)) : hp_F cst strs Φ D M 0 l [] h := by
  refine hq_arc c hM bx41_k hD [m, s, q, v] rfl hy (hp_Bc (z := m) rfl b0 t0 (hp_Bc (z := s) rfl b1 t1 (hp_Bc (z := q) rfl b2 t2 (hp_Bc (z := v) rfl b3 t3 hp_Bn)))) (hp_Fc (z := ((-1) + ((-1) * m + (1 * s + 0)))) rfl (by omega) hp_Fn) (hp_Kc (zi := (0 + 0)) (zv := (0 + (1 * s + 0))) k0 rfl rfl (by omega) (by omega) (hp_Kc (zi := (0 + (1 * m + 0))) (zv := (1 + 0)) k1 rfl rfl (by omega) (by omega) (hp_Kc (zi := (0 + (1 * m + 0))) (zv := ((-1) + 0)) k2 rfl rfl (by omega) (by omega) (hp_Kc (zi := (0 + (1 * m + 0))) (zv := (0 + (1 * v + 0))) k3 rfl rfl (by omega) (by omega) hp_Kn)))) (hp_La l0 (hp_Li (z := (0 + (1 * m + 0))) l1 rfl (by omega) (hp_Li (z := (0 + (1 * q + 0))) l2 rfl (by omega) hp_Ln))) trivial ?_ ?_
  · intro p_9 hp ys l' st_9' h_9' hys a1_9 a2 a3 gZ gL gS
    cases hp
  · intro p_9 hp ys v h_9' hys a1_9 a2 a3 gZ gS
    rcases List.mem_cons.mp hp with rfl | hp
    · obtain rfl := hp_y0 hys
      cases v with
      | none => cases gS
      | some wz =>
        obtain ⟨y0, t0, s0_9, q0, -⟩ := hp_gSi (z := ((-4) + 0)) gS rfl
        cases s0_9
        exact r0 h_9' y0 (by omega) a1_9 a2 a3
    cases hp
theorem bx5_k : hq_chk [139] 152 0 3 [(0, 0, 99), (1, 0, 100), (2, 0, 23)] [((-1), [(0, (-1)), (1, 1)])] [(0, .inr (.inr (.inl (some 16)))), (1, .inl (0, [(0, 1)])), (2, .inl (0, [(2, 1)]))] [] [(7170, (0, []), (0, [(1, 1)])), (7424, (0, [(0, 1)]), (1, [])), (45313, (0, [(0, 1)]), ((-1), [])), (45319, (0, [(0, 1)]), (0, []))] [] 8 [(44, ([], 3, [(0, 0, 99), (1, 0, 100), (2, 0, 23)], [], [(0, .inr (.inr (.inl (some 16)))), (1, .inl (0, [(0, 1)])), (2, .inl (0, [(2, 1)])), (3, .inr (.inr (.inr (0, (0, [(0, 1)])))))], [.inl (12, []), .inr (.inr (.inr (0, (0, [(0, 1)])))), .inr (.inr (.inl (some 44))), .inl (0, [(2, 1)])], []))] [] = true := by decide +kernel
theorem bx5 {cst : am_K} {strs : List Nat} {Φ : am_Q → Prop} {D : Nat} {M : am_M} {h : am_H} {l : am_L} (c : hp_C cst strs D) (hM : m_P[152]? = some M) (hD : (8 : Int) ≤ (D : Int) + 1) (hy : ly_hy m_tt ly_TH h) (m s q : Int) (b0 : 0 ≤ m) (t0 : m ≤ 99) (b1 : 0 ≤ s) (t1 : s ≤ 100) (b2 : 0 ≤ q) (t2 : q ≤ 23) (f0 : 0 ≤ (s - m - 1)) (k0 : ly_hv cst h 7170 0 = some (s)) (k1 : ly_hv cst h 7424 (m) = some 1) (k2 : ly_hv cst h 45313 (m) = some (-1)) (k3 : ly_hv cst h 45319 (m) = some 0) (l0 : hp_a l 0 16) (l1 : hp_i l 1 (m)) (l2 : hp_i l 2 (q)) (e0 : ∀ (l' : am_L) (h_9' : am_H) (y0 : Int32) (y1 : Nat) (y3 : Int32), y0.toInt = 12 → (y1 : Int) = (m) → 177 + 19 * (y1 + 1) ≤ h_9'.length → y3.toInt = (q) → ly_hy m_tt ly_TH h_9' → ly_fr cst [] h h_9' → h.length ≤ h_9'.length → hp_a l' 0 16 → hp_i l' 1 (m) → hp_i l' 2 (q) → hp_ml l' 3 h_9'.length (m) → hp_F cst strs Φ D M 44 l' [.int y0, .ref (16 + (177 + 19 * y1 + 0)), .ref 44, .int y3] h_9') : hp_F cst strs Φ D M 0 l [] h := by
  refine hq_arc c hM bx5_k hD [m, s, q] rfl hy (hp_Bc (z := m) rfl b0 t0 (hp_Bc (z := s) rfl b1 t1 (hp_Bc (z := q) rfl b2 t2 hp_Bn))) (hp_Fc (z := ((-1) + ((-1) * m + (1 * s + 0)))) rfl (by omega) hp_Fn) (hp_Kc (zi := (0 + 0)) (zv := (0 + (1 * s + 0))) k0 rfl rfl (by omega) (by omega) (hp_Kc (zi := (0 + (1 * m + 0))) (zv := (1 + 0)) k1 rfl rfl (by omega) (by omega) (hp_Kc (zi := (0 + (1 * m + 0))) (zv := ((-1) + 0)) k2 rfl rfl (by omega) (by omega) (hp_Kc (zi := (0 + (1 * m + 0))) (zv := (0 + 0)) k3 rfl rfl (by omega) (by omega) hp_Kn)))) (hp_La l0 (hp_Li (z := (0 + (1 * m + 0))) l1 rfl (by omega) (hp_Li (z := (0 + (1 * q + 0))) l2 rfl (by omega) hp_Ln))) trivial ?_ ?_
  · intro p_9 hp ys l' st_9' h_9' hys a1_9 a2 a3 gZ gL gS
    rcases List.mem_cons.mp hp with rfl | hp
    · obtain rfl := hp_y0 hys
      obtain ⟨y0, t0, rfl, q0, g0⟩ := hp_gSi (z := (12 + 0)) gS rfl
      obtain ⟨y1, t1, rfl, q1_9, p1_9, g1⟩ := hp_gSm (z := (0 + (1 * m + 0))) g0 rfl
      obtain ⟨t2, rfl, g2⟩ := hp_gSa g1 (by decide)
      obtain ⟨y3, t3_9, rfl, q3_9, g3_9⟩ := hp_gSi (z := (0 + (1 * q + 0))) g2 rfl
      cases hp_gSn g3_9
      exact e0 l' h_9' y0 y1 y3 (by omega) (by omega) p1_9 (by omega) a1_9 a2 a3 (hp_gLa gL (List.mem_of_getElem? (i := 0) rfl) (by decide)) (hp_gLi (z := (0 + (1 * m + 0))) gL (List.mem_of_getElem? (i := 1) rfl) rfl (by omega)) (hp_gLi (z := (0 + (1 * q + 0))) gL (List.mem_of_getElem? (i := 2) rfl) rfl (by omega)) (hp_gLm (z := (0 + (1 * m + 0))) gL (List.mem_of_getElem? (i := 3) rfl) rfl (by omega))
    cases hp
  · intro p_9 hp ys v_9 h_9' hys a1_9 a2 a3 gZ gS
    cases hp
theorem bx6_k : hp_chk 152 47 4 [(0, 0, 99), (1, 0, 23), (2, (-2147483648), 2147483647), (3, 0, 399)] [((-1), [(1, (-1)), (2, 1)])] [(0, .inr (.inr (.inl (some 16)))), (1, .inl (0, [(0, 1)])), (2, .inl (0, [(1, 1)])), (3, .inr (.inr (.inr (0, (0, [(0, 1)])))))] [.inl (0, [(2, 1)]), .inl (0, [(1, 1)])] [(10, (0, []), (0, [(3, 1)]))] [] 2 [(87, ([], 4, [(0, 0, 99), (1, 0, 23), (2, (-2147483648), 2147483647), (3, 0, 399)], [], [(0, .inr (.inr (.inl (some 16))))], [.inl (0, [(3, 1)]), .inl (1, []), .inl (0, [(0, 1)]), .inr (.inr (.inl (some 44)))], []))] [] = true := by decide +kernel
theorem bx6 {cst : am_K} {strs : List Nat} {Φ : am_Q → Prop} {D : Nat} {M : am_M} {h : am_H} {l : am_L} (c : hp_C cst strs D) (hM : m_P[152]? = some M) (hD : (2 : Int) ≤ (D : Int) + 1) (hy : ly_hy m_tt ly_TH h) (m q w d : Int) (x0 : Int32) (x1 : Int32) (hx0 : x0.toInt = (w)) (hx1 : x1.toInt = (q)) (b0 : 0 ≤ m) (t0 : m ≤ 99) (b1 : 0 ≤ q) (t1 : q ≤ 23) (b2 : (-2147483648) ≤ w) (t2 : w ≤ 2147483647) (b3 : 0 ≤ d) (t3 : d ≤ 399) (f0 : 0 ≤ (w - q - 1)) (k0 : ly_hv cst h 10 0 = some (d)) (l0 : hp_a l 0 16) (l1 : hp_i l 1 (m)) (l2 : hp_i l 2 (q)) (l3 : hp_ml l 3 h.length (m)) (e0 : ∀ (l' : am_L) (h_9' : am_H) (y0 : Int32) (y1 : Int32) (y2 : Int32), y0.toInt = (d) → y1.toInt = 1 → y2.toInt = (m) → ly_hy m_tt ly_TH h_9' → ly_fr cst [] h h_9' → h.length ≤ h_9'.length → hp_a l' 0 16 → hp_F cst strs Φ D M 87 l' [.int y0, .int y1, .int y2, .ref 44] h_9') : hp_F cst strs Φ D M 47 l [.int x0, .int x1] h := by
  refine hp_arc c hM bx6_k hD [m, q, w, d] rfl hy (hp_Bc (z := m) rfl b0 t0 (hp_Bc (z := q) rfl b1 t1 (hp_Bc (z := w) rfl b2 t2 (hp_Bc (z := d) rfl b3 t3 hp_Bn)))) (hp_Fc (z := ((-1) + ((-1) * q + (1 * w + 0)))) rfl (by omega) hp_Fn) (hp_Kc (zi := (0 + 0)) (zv := (0 + (1 * d + 0))) k0 rfl rfl (by omega) (by omega) hp_Kn) (hp_La l0 (hp_Li (z := (0 + (1 * m + 0))) l1 rfl (by omega) (hp_Li (z := (0 + (1 * q + 0))) l2 rfl (by omega) (hp_Lm (z := (0 + (1 * m + 0))) l3 rfl (by omega) hp_Ln)))) (hp_Si (z := (0 + (1 * w + 0))) rfl (by omega) (hp_Si (z := (0 + (1 * q + 0))) rfl (by omega) trivial)) ?_ ?_
  · intro p_9 hp ys l' st_9' h_9' hys a1_9 a2 a3 gZ gL gS
    rcases List.mem_cons.mp hp with rfl | hp
    · obtain rfl := hp_y0 hys
      obtain ⟨y0, t0, rfl, q0, g0⟩ := hp_gSi (z := (0 + (1 * d + 0))) gS rfl
      obtain ⟨y1, t1, rfl, q1_9, g1⟩ := hp_gSi (z := (1 + 0)) g0 rfl
      obtain ⟨y2, t2, rfl, q2_9, g2⟩ := hp_gSi (z := (0 + (1 * m + 0))) g1 rfl
      obtain ⟨t3, rfl, g3_9⟩ := hp_gSa g2 (by decide)
      cases hp_gSn g3_9
      exact e0 l' h_9' y0 y1 y2 (by omega) (by omega) (by omega) a1_9 a2 a3 (hp_gLa gL (List.mem_of_getElem? (i := 0) rfl) (by decide))
    cases hp
  · intro p_9 hp ys v_9 h_9' hys a1_9 a2 a3 gZ gS
    cases hp
theorem bx7_k : hp_chk 152 47 3 [(0, 0, 99), (1, 0, 23), (2, (-2147483648), 2147483647)] [(0, [(1, 1), (2, (-1))])] [(0, .inr (.inr (.inl (some 16)))), (1, .inl (0, [(0, 1)])), (2, .inl (0, [(1, 1)])), (3, .inr (.inr (.inr (0, (0, [(0, 1)])))))] [.inl (0, [(2, 1)]), .inl (0, [(1, 1)])] [] [] 2 [(55, ([], 3, [(0, 0, 99), (1, 0, 23), (2, (-2147483648), 2147483647)], [], [(0, .inr (.inr (.inl (some 16)))), (1, .inl (0, [(0, 1)])), (2, .inl (0, [(1, 1)])), (3, .inr (.inr (.inr (0, (0, [(0, 1)])))))], [.inr (.inr (.inr (0, (0, [(0, 1)])))), .inr (.inr (.inl (some 44)))], []))] [] = true := by decide +kernel
theorem bx7 {cst : am_K} {strs : List Nat} {Φ : am_Q → Prop} {D : Nat} {M : am_M} {h : am_H} {l : am_L} (c : hp_C cst strs D) (hM : m_P[152]? = some M) (hD : (2 : Int) ≤ (D : Int) + 1) (hy : ly_hy m_tt ly_TH h) (m q w : Int) (x0 : Int32) (x1 : Int32) (hx0 : x0.toInt = (w)) (hx1 : x1.toInt = (q)) (b0 : 0 ≤ m) (t0 : m ≤ 99) (b1 : 0 ≤ q) (t1 : q ≤ 23) (b2 : (-2147483648) ≤ w) (t2 : w ≤ 2147483647) (f0 : 0 ≤ (q - w)) (l0 : hp_a l 0 16) (l1 : hp_i l 1 (m)) (l2 : hp_i l 2 (q)) (l3 : hp_ml l 3 h.length (m)) (e0 : ∀ (l' : am_L) (h_9' : am_H) (y0 : Nat), (y0 : Int) = (m) → 177 + 19 * (y0 + 1) ≤ h_9'.length → ly_hy m_tt ly_TH h_9' → ly_fr cst [] h h_9' → h.length ≤ h_9'.length → hp_a l' 0 16 → hp_i l' 1 (m) → hp_i l' 2 (q) → hp_ml l' 3 h_9'.length (m) → hp_F cst strs Φ D M 55 l' [.ref (16 + (177 + 19 * y0 + 0)), .ref 44] h_9') : hp_F cst strs Φ D M 47 l [.int x0, .int x1] h := by
  refine hp_arc c hM bx7_k hD [m, q, w] rfl hy (hp_Bc (z := m) rfl b0 t0 (hp_Bc (z := q) rfl b1 t1 (hp_Bc (z := w) rfl b2 t2 hp_Bn))) (hp_Fc (z := (0 + (1 * q + ((-1) * w + 0)))) rfl (by omega) hp_Fn) hp_Kn (hp_La l0 (hp_Li (z := (0 + (1 * m + 0))) l1 rfl (by omega) (hp_Li (z := (0 + (1 * q + 0))) l2 rfl (by omega) (hp_Lm (z := (0 + (1 * m + 0))) l3 rfl (by omega) hp_Ln)))) (hp_Si (z := (0 + (1 * w + 0))) rfl (by omega) (hp_Si (z := (0 + (1 * q + 0))) rfl (by omega) trivial)) ?_ ?_
  · intro p_9 hp ys l' st_9' h_9' hys a1_9 a2 a3 gZ gL gS
    rcases List.mem_cons.mp hp with rfl | hp
    · obtain rfl := hp_y0 hys
      obtain ⟨y0, t0, rfl, q0, p0_9, g0⟩ := hp_gSm (z := (0 + (1 * m + 0))) gS rfl
      obtain ⟨t1, rfl, g1⟩ := hp_gSa g0 (by decide)
      cases hp_gSn g1
      exact e0 l' h_9' y0 (by omega) p0_9 a1_9 a2 a3 (hp_gLa gL (List.mem_of_getElem? (i := 0) rfl) (by decide)) (hp_gLi (z := (0 + (1 * m + 0))) gL (List.mem_of_getElem? (i := 1) rfl) rfl (by omega)) (hp_gLi (z := (0 + (1 * q + 0))) gL (List.mem_of_getElem? (i := 2) rfl) rfl (by omega)) (hp_gLm (z := (0 + (1 * m + 0))) gL (List.mem_of_getElem? (i := 3) rfl) rfl (by omega))
    cases hp
  · intro p_9 hp ys v_9 h_9' hys a1_9 a2 a3 gZ gS
    cases hp
theorem bx8_k : hp_chk 152 58 3 [(0, 0, 99), (1, 0, 23), (2, 0, 399)] [] [(0, .inr (.inr (.inl (some 16)))), (1, .inl (0, [(0, 1)])), (2, .inl (0, [(1, 1)])), (3, .inr (.inr (.inr (0, (0, [(0, 1)])))))] [.inl (0, [])] [(10, (0, []), (0, [(2, 1)]))] [] 2 [(87, ([], 3, [(0, 0, 99), (1, 0, 23), (2, 0, 399)], [], [(0, .inr (.inr (.inl (some 16))))], [.inl (0, [(2, 1)]), .inl (2, []), .inl (0, [(0, 1)]), .inr (.inr (.inl (some 44)))], []))] [] = true := by decide +kernel
theorem bx8 {cst : am_K} {strs : List Nat} {Φ : am_Q → Prop} {D : Nat} {M : am_M} {h : am_H} {l : am_L} (c : hp_C cst strs D) (hM : m_P[152]? = some M) (hD : (2 : Int) ≤ (D : Int) + 1) (hy : ly_hy m_tt ly_TH h) (m q d : Int) (x0 : Int32) (hx0 : x0.toInt = 0) (b0 : 0 ≤ m) (t0 : m ≤ 99) (b1 : 0 ≤ q) (t1 : q ≤ 23) (b2 : 0 ≤ d) (t2 : d ≤ 399) (k0 : ly_hv cst h 10 0 = some (d)) (l0 : hp_a l 0 16) (l1 : hp_i l 1 (m)) (l2 : hp_i l 2 (q)) (l3 : hp_ml l 3 h.length (m)) (e0 : ∀ (l' : am_L) (h_9' : am_H) (y0 : Int32) (y1 : Int32) (y2 : Int32), y0.toInt = (d) → y1.toInt = 2 → y2.toInt = (m) → ly_hy m_tt ly_TH h_9' → ly_fr cst [] h h_9' → h.length ≤ h_9'.length → hp_a l' 0 16 → hp_F cst strs Φ D M 87 l' [.int y0, .int y1, .int y2, .ref 44] h_9') : hp_F cst strs Φ D M 58 l [.int x0] h := by
  refine hp_arc c hM bx8_k hD [m, q, d] rfl hy (hp_Bc (z := m) rfl b0 t0 (hp_Bc (z := q) rfl b1 t1 (hp_Bc (z := d) rfl b2 t2 hp_Bn))) hp_Fn (hp_Kc (zi := (0 + 0)) (zv := (0 + (1 * d + 0))) k0 rfl rfl (by omega) (by omega) hp_Kn) (hp_La l0 (hp_Li (z := (0 + (1 * m + 0))) l1 rfl (by omega) (hp_Li (z := (0 + (1 * q + 0))) l2 rfl (by omega) (hp_Lm (z := (0 + (1 * m + 0))) l3 rfl (by omega) hp_Ln)))) (hp_Si (z := (0 + 0)) rfl (by omega) trivial) ?_ ?_
  · intro p_9 hp ys l' st_9' h_9' hys a1_9 a2 a3 gZ gL gS
    rcases List.mem_cons.mp hp with rfl | hp
    · obtain rfl := hp_y0 hys
      obtain ⟨y0, t0, rfl, q0, g0⟩ := hp_gSi (z := (0 + (1 * d + 0))) gS rfl
      obtain ⟨y1, t1, rfl, q1_9, g1⟩ := hp_gSi (z := (2 + 0)) g0 rfl
      obtain ⟨y2, t2, rfl, q2_9, g2⟩ := hp_gSi (z := (0 + (1 * m + 0))) g1 rfl
      obtain ⟨t3_9, rfl, g3_9⟩ := hp_gSa g2 (by decide)
      cases hp_gSn g3_9
      exact e0 l' h_9' y0 y1 y2 (by omega) (by omega) (by omega) a1_9 a2 a3 (hp_gLa gL (List.mem_of_getElem? (i := 0) rfl) (by decide))
    cases hp
  · intro p_9 hp ys v_9 h_9' hys a1_9 a2 a3 gZ gS
    cases hp
theorem bx90_k : hp_chk 152 58 4 [(0, 0, 99), (1, 0, 23), (2, 0, 399), (3, (-2147483648), (-1))] [] [(0, .inr (.inr (.inl (some 16)))), (1, .inl (0, [(0, 1)])), (2, .inl (0, [(1, 1)])), (3, .inr (.inr (.inr (0, (0, [(0, 1)])))))] [.inl (0, [(3, 1)])] [(10, (0, []), (0, [(2, 1)]))] [] 2 [(87, ([], 4, [(0, 0, 99), (1, 0, 23), (2, 0, 399), (3, (-2147483648), (-1))], [], [(0, .inr (.inr (.inl (some 16))))], [.inl (0, [(2, 1)]), .inl (1, []), .inl (0, [(0, 1)]), .inr (.inr (.inl (some 44)))], []))] [] = true := by decide +kernel
theorem bx90 {cst : am_K} {strs : List Nat} {Φ : am_Q → Prop} {D : Nat} {M : am_M} {h : am_H} {l : am_L} (c : hp_C cst strs D) (hM : m_P[152]? = some M) (hD : (2 : Int) ≤ (D : Int) + 1) (hy : ly_hy m_tt ly_TH h) (m q d v : Int) (x0 : Int32) (hx0 : x0.toInt = (v)) (b0 : 0 ≤ m) (t0 : m ≤ 99) (b1 : 0 ≤ q) (t1 : q ≤ 23) (b2 : 0 ≤ d) (t2 : d ≤ 399) (b3 : (-2147483648) ≤ v) (t3 : v ≤ (-1)) (k0 : ly_hv cst h 10 0 = some (d)) (l0 : hp_a l 0 16) (l1 : hp_i l 1 (m)) (l2 : hp_i l 2 (q)) (l3 : hp_ml l 3 h.length (m)) (e0 : ∀ (l' : am_L) (h_9' : am_H) (y0 : Int32) (y1 : Int32) (y2 : Int32), y0.toInt = (d) → y1.toInt = 1 → y2.toInt = (m) → ly_hy m_tt ly_TH h_9' → ly_fr cst [] h h_9' → h.length ≤ h_9'.length → hp_a l' 0 16 → hp_F cst strs Φ D M 87 l' [.int y0, .int y1, .int y2, .ref 44] h_9') : hp_F cst strs Φ D M 58 l [.int x0] h := by
  refine hp_arc c hM bx90_k hD [m, q, d, v] rfl hy (hp_Bc (z := m) rfl b0 t0 (hp_Bc (z := q) rfl b1 t1 (hp_Bc (z := d) rfl b2 t2 (hp_Bc (z := v) rfl b3 t3 hp_Bn)))) hp_Fn (hp_Kc (zi := (0 + 0)) (zv := (0 + (1 * d + 0))) k0 rfl rfl (by omega) (by omega) hp_Kn) (hp_La l0 (hp_Li (z := (0 + (1 * m + 0))) l1 rfl (by omega) (hp_Li (z := (0 + (1 * q + 0))) l2 rfl (by omega) (hp_Lm (z := (0 + (1 * m + 0))) l3 rfl (by omega) hp_Ln)))) (hp_Si (z := (0 + (1 * v + 0))) rfl (by omega) trivial) ?_ ?_
  · intro p_9 hp ys l' st_9' h_9' hys a1_9 a2 a3 gZ gL gS
    rcases List.mem_cons.mp hp with rfl | hp
    · obtain rfl := hp_y0 hys
      obtain ⟨y0, t0, rfl, q0, g0⟩ := hp_gSi (z := (0 + (1 * d + 0))) gS rfl
      obtain ⟨y1, t1, rfl, q1_9, g1⟩ := hp_gSi (z := (1 + 0)) g0 rfl
      obtain ⟨y2, t2, rfl, q2_9, g2⟩ := hp_gSi (z := (0 + (1 * m + 0))) g1 rfl
      obtain ⟨t3, rfl, g3_9⟩ := hp_gSa g2 (by decide)
      cases hp_gSn g3_9
      exact e0 l' h_9' y0 y1 y2 (by omega) (by omega) (by omega) a1_9 a2 a3 (hp_gLa gL (List.mem_of_getElem? (i := 0) rfl) (by decide))
    cases hp
  · intro p_9 hp ys v h_9' hys a1_9 a2 a3 gZ gS
    cases hp
theorem bx91_k : hp_chk 152 58 4 [(0, 0, 99), (1, 0, 23), (2, 0, 399), (3, 1, 2147483647)] [] [(0, .inr (.inr (.inl (some 16)))), (1, .inl (0, [(0, 1)])), (2, .inl (0, [(1, 1)])), (3, .inr (.inr (.inr (0, (0, [(0, 1)])))))] [.inl (0, [(3, 1)])] [(10, (0, []), (0, [(2, 1)]))] [] 2 [(87, ([], 4, [(0, 0, 99), (1, 0, 23), (2, 0, 399), (3, 1, 2147483647)], [], [(0, .inr (.inr (.inl (some 16))))], [.inl (0, [(2, 1)]), .inl (1, []), .inl (0, [(0, 1)]), .inr (.inr (.inl (some 44)))], []))] [] = true := by decide +kernel
theorem bx91 {cst : am_K} {strs : List Nat} {Φ : am_Q → Prop} {D : Nat} {M : am_M} {h : am_H} {l : am_L} (c : hp_C cst strs D) (hM : m_P[152]? = some M) (hD : (2 : Int) ≤ (D : Int) + 1) (hy : ly_hy m_tt ly_TH h) (m q d v : Int) (x0 : Int32) (hx0 : x0.toInt = (v)) (b0 : 0 ≤ m) (t0 : m ≤ 99) (b1 : 0 ≤ q) (t1 : q ≤ 23) (b2 : 0 ≤ d) (t2 : d ≤ 399) (b3 : 1 ≤ v) (t3 : v ≤ 2147483647) (k0 : ly_hv cst h 10 0 = some (d)) (l0 : hp_a l 0 16) (l1 : hp_i l 1 (m)) (l2 : hp_i l 2 (q)) (l3 : hp_ml l 3 h.length (m)) (e0 : ∀ (l' : am_L) (h_9' : am_H) (y0 : Int32) (y1 : Int32) (y2 : Int32), y0.toInt = (d) → y1.toInt = 1 → y2.toInt = (m) → ly_hy m_tt ly_TH h_9' → ly_fr cst [] h h_9' → h.length ≤ h_9'.length → hp_a l' 0 16 → hp_F cst strs Φ D M 87 l' [.int y0, .int y1, .int y2, .ref 44] h_9') : hp_F cst strs Φ D M 58 l [.int x0] h := by
  refine hp_arc c hM bx91_k hD [m, q, d, v] rfl hy (hp_Bc (z := m) rfl b0 t0 (hp_Bc (z := q) rfl b1 t1 (hp_Bc (z := d) rfl b2 t2 (hp_Bc (z := v) rfl b3 t3 hp_Bn)))) hp_Fn (hp_Kc (zi := (0 + 0)) (zv := (0 + (1 * d + 0))) k0 rfl rfl (by omega) (by omega) hp_Kn) (hp_La l0 (hp_Li (z := (0 + (1 * m + 0))) l1 rfl (by omega) (hp_Li (z := (0 + (1 * q + 0))) l2 rfl (by omega) (hp_Lm (z := (0 + (1 * m + 0))) l3 rfl (by omega) hp_Ln)))) (hp_Si (z := (0 + (1 * v + 0))) rfl (by omega) trivial) ?_ ?_
  · intro p_9 hp ys l' st_9' h_9' hys a1_9 a2 a3 gZ gL gS
    rcases List.mem_cons.mp hp with rfl | hp
    · obtain rfl := hp_y0 hys
      obtain ⟨y0, t0, rfl, q0, g0⟩ := hp_gSi (z := (0 + (1 * d + 0))) gS rfl
      obtain ⟨y1, t1, rfl, q1_9, g1⟩ := hp_gSi (z := (1 + 0)) g0 rfl
      obtain ⟨y2, t2, rfl, q2_9, g2⟩ := hp_gSi (z := (0 + (1 * m + 0))) g1 rfl
      obtain ⟨t3, rfl, g3_9⟩ := hp_gSa g2 (by decide)
      cases hp_gSn g3_9
      exact e0 l' h_9' y0 y1 y2 (by omega) (by omega) (by omega) a1_9 a2 a3 (hp_gLa gL (List.mem_of_getElem? (i := 0) rfl) (by decide))
    cases hp
  · intro p_9 hp ys v h_9' hys a1_9 a2 a3 gZ gS
    cases hp
theorem bxA_k : hp_chk 152 90 1 [(0, (-2147483648), 2147483647)] [] [(0, .inr (.inr (.inl (some 16))))] [.inl (0, [(0, 1)])] [] [] 2 [] [([], 1, [(0, (-2147483648), 2147483647)], [], [], [.inl (0, [(0, 1)])], [])] = true := by decide +kernel
theorem bxA {cst : am_K} {strs : List Nat} {Φ : am_Q → Prop} {D : Nat} {M : am_M} {h : am_H} {l : am_L} (c : hp_C cst strs D) (hM : m_P[152]? = some M) (hD : (2 : Int) ≤ (D : Int) + 1) (hy : ly_hy m_tt ly_TH h) (y : Int) (x0 : Int32) (hx0 : x0.toInt = (y)) (b0 : (-2147483648) ≤ y) (t0 : y ≤ 2147483647) (l0 : hp_a l 0 16) (r0 : ∀ (h_9' : am_H) (y0 : Int32), y0.toInt = (y) → ly_hy m_tt ly_TH h_9' → ly_fr cst [] h h_9' → h.length ≤ h_9'.length → Φ (some (.int y0), h_9', 0, 0)) : hp_F cst strs Φ D M 90 l [.int x0] h := by
  refine hp_arc c hM bxA_k hD [y] rfl hy (hp_Bc (z := y) rfl b0 t0 hp_Bn) hp_Fn hp_Kn (hp_La l0 hp_Ln) (hp_Si (z := (0 + (1 * y + 0))) rfl (by omega) trivial) ?_ ?_
  · intro p_9 hp ys l' st_9' h_9' hys a1_9 a2 a3 gZ gL gS
    cases hp
  · intro p_9 hp ys v_9 h_9' hys a1_9 a2 a3 gZ gS
    rcases List.mem_cons.mp hp with rfl | hp
    · obtain rfl := hp_y0 hys
      cases v_9 with
      | none => cases gS
      | some wz =>
        obtain ⟨y0, t0, s0_9, q0, -⟩ := hp_gSi (z := (0 + (1 * y + 0))) gS rfl
        cases s0_9
        exact r0 h_9' y0 (by omega) a1_9 a2 a3
    cases hp
theorem by0_k : hp_chk 347 0 3 [(0, (-2147483648), (-1)), (1, 0, 100), (2, (-2147483648), 2147483647)] [] [(0, .inr (.inr (.inl (some 94)))), (1, .inl (0, [(0, 1)])), (2, .inl (0, [(2, 1)]))] [] [(20024, (0, []), (0, [(1, 1)]))] [] 5 [] [([], 3, [(0, (-2147483648), (-1)), (1, 0, 100), (2, (-2147483648), 2147483647)], [], [], [.inl ((-2), [])], [])] = true := by decide +kernel
theorem by0 {cst : am_K} {strs : List Nat} {Φ : am_Q → Prop} {D : Nat} {M : am_M} {h : am_H} {l : am_L} (c : hp_C cst strs D) (hM : m_P[347]? = some M) (hD : (5 : Int) ≤ (D : Int) + 1) (hy : ly_hy m_tt ly_TH h) (m s q : Int) (b0 : (-2147483648) ≤ m) (t0 : m ≤ (-1)) (b1 : 0 ≤ s) (t1 : s ≤ 100) (b2 : (-2147483648) ≤ q) (t2 : q ≤ 2147483647) (k0 : ly_hv cst h 20024 0 = some (s)) (l0 : hp_a l 0 94) (l1 : hp_i l 1 (m)) (l2 : hp_i l 2 (q)) (r0 : ∀ (h_9' : am_H) (y0 : Int32), y0.toInt = (-2) → ly_hy m_tt ly_TH h_9' → ly_fr cst [] h h_9' → h.length ≤ h_9'.length → Φ (some (.int y0), h_9', 0, 0)) : hp_F cst strs Φ D M 0 l [] h := by
  refine hp_arc c hM by0_k hD [m, s, q] rfl hy (hp_Bc (z := m) rfl b0 t0 (hp_Bc (z := s) rfl b1 t1 (hp_Bc (z := q) rfl b2 t2 hp_Bn))) hp_Fn (hp_Kc (zi := (0 + 0)) (zv := (0 + (1 * s + 0))) k0 rfl rfl (by omega) (by omega) hp_Kn) (hp_La l0 (hp_Li (z := (0 + (1 * m + 0))) l1 rfl (by omega) (hp_Li (z := (0 + (1 * q + 0))) l2 rfl (by omega) hp_Ln))) trivial ?_ ?_
  · intro p_9 hp ys l' st_9' h_9' hys a1_9 a2 a3 gZ gL gS
    cases hp
  · intro p_9 hp ys v_9 h_9' hys a1_9 a2 a3 gZ gS
    rcases List.mem_cons.mp hp with rfl | hp
    · obtain rfl := hp_y0 hys
      cases v_9 with
      | none => cases gS
      | some wz =>
        obtain ⟨y0, t0, s0_9, q0, -⟩ := hp_gSi (z := ((-2) + 0)) gS rfl
        cases s0_9
        exact r0 h_9' y0 (by omega) a1_9 a2 a3
    cases hp
theorem by1_k : hp_chk 347 0 3 [(0, 0, 2147483647), (1, 0, 100), (2, (-2147483648), 2147483647)] [(0, [(0, 1), (1, (-1))])] [(0, .inr (.inr (.inl (some 94)))), (1, .inl (0, [(0, 1)])), (2, .inl (0, [(2, 1)]))] [] [(20024, (0, []), (0, [(1, 1)]))] [] 5 [] [([], 3, [(0, 0, 2147483647), (1, 0, 100), (2, (-2147483648), 2147483647)], [], [], [.inl ((-2), [])], [])] = true := by decide +kernel
theorem by1 {cst : am_K} {strs : List Nat} {Φ : am_Q → Prop} {D : Nat} {M : am_M} {h : am_H} {l : am_L} (c : hp_C cst strs D) (hM : m_P[347]? = some M) (hD : (5 : Int) ≤ (D : Int) + 1) (hy : ly_hy m_tt ly_TH h) (m s q : Int) (b0 : 0 ≤ m) (t0 : m ≤ 2147483647) (b1 : 0 ≤ s) (t1 : s ≤ 100) (b2 : (-2147483648) ≤ q) (t2 : q ≤ 2147483647) (f0 : 0 ≤ (m - s)) (k0 : ly_hv cst h 20024 0 = some (s)) (l0 : hp_a l 0 94) (l1 : hp_i l 1 (m)) (l2 : hp_i l 2 (q)) (r0 : ∀ (h_9' : am_H) (y0 : Int32), y0.toInt = (-2) → ly_hy m_tt ly_TH h_9' → ly_fr cst [] h h_9' → h.length ≤ h_9'.length → Φ (some (.int y0), h_9', 0, 0)) : hp_F cst strs Φ D M 0 l [] h := by
  refine hp_arc c hM by1_k hD [m, s, q] rfl hy (hp_Bc (z := m) rfl b0 t0 (hp_Bc (z := s) rfl b1 t1 (hp_Bc (z := q) rfl b2 t2 hp_Bn))) (hp_Fc (z := (0 + (1 * m + ((-1) * s + 0)))) rfl (by omega) hp_Fn) (hp_Kc (zi := (0 + 0)) (zv := (0 + (1 * s + 0))) k0 rfl rfl (by omega) (by omega) hp_Kn) (hp_La l0 (hp_Li (z := (0 + (1 * m + 0))) l1 rfl (by omega) (hp_Li (z := (0 + (1 * q + 0))) l2 rfl (by omega) hp_Ln))) trivial ?_ ?_
  · intro p_9 hp ys l' st_9' h_9' hys a1_9 a2 a3 gZ gL gS
    cases hp
  · intro p_9 hp ys v_9 h_9' hys a1_9 a2 a3 gZ gS
    rcases List.mem_cons.mp hp with rfl | hp
    · obtain rfl := hp_y0 hys
      cases v_9 with
      | none => cases gS
      | some wz =>
        obtain ⟨y0, t0, s0_9, q0, -⟩ := hp_gSi (z := ((-2) + 0)) gS rfl
        cases s0_9
        exact r0 h_9' y0 (by omega) a1_9 a2 a3
    cases hp
theorem by2_k : hp_chk 347 0 3 [(0, 0, 99), (1, 0, 100), (2, (-2147483648), 2147483647)] [((-1), [(0, (-1)), (1, 1)])] [(0, .inr (.inr (.inl (some 94)))), (1, .inl (0, [(0, 1)])), (2, .inl (0, [(2, 1)]))] [] [(20024, (0, []), (0, [(1, 1)])), (28416, (0, [(0, 1)]), (1, []))] [] 5 [] [([], 3, [(0, 0, 99), (1, 0, 100), (2, (-2147483648), 2147483647)], [], [], [.inl ((-2), [])], [])] = true := by decide +kernel
theorem by2 {cst : am_K} {strs : List Nat} {Φ : am_Q → Prop} {D : Nat} {M : am_M} {h : am_H} {l : am_L} (c : hp_C cst strs D) (hM : m_P[347]? = some M) (hD : (5 : Int) ≤ (D : Int) + 1) (hy : ly_hy m_tt ly_TH h) (m s q : Int) (b0 : 0 ≤ m) (t0 : m ≤ 99) (b1 : 0 ≤ s) (t1 : s ≤ 100) (b2 : (-2147483648) ≤ q) (t2 : q ≤ 2147483647) (f0 : 0 ≤ (s - m - 1)) (k0 : ly_hv cst h 20024 0 = some (s)) (k1 : ly_hv cst h 28416 (m) = some 1) (l0 : hp_a l 0 94) (l1 : hp_i l 1 (m)) (l2 : hp_i l 2 (q)) (r0 : ∀ (h_9' : am_H) (y0 : Int32), y0.toInt = (-2) → ly_hy m_tt ly_TH h_9' → ly_fr cst [] h h_9' → h.length ≤ h_9'.length → Φ (some (.int y0), h_9', 0, 0)) : hp_F cst strs Φ D M 0 l [] h := by
  refine hp_arc c hM by2_k hD [m, s, q] rfl hy (hp_Bc (z := m) rfl b0 t0 (hp_Bc (z := s) rfl b1 t1 (hp_Bc (z := q) rfl b2 t2 hp_Bn))) (hp_Fc (z := ((-1) + ((-1) * m + (1 * s + 0)))) rfl (by omega) hp_Fn) (hp_Kc (zi := (0 + 0)) (zv := (0 + (1 * s + 0))) k0 rfl rfl (by omega) (by omega) (hp_Kc (zi := (0 + (1 * m + 0))) (zv := (1 + 0)) k1 rfl rfl (by omega) (by omega) hp_Kn)) (hp_La l0 (hp_Li (z := (0 + (1 * m + 0))) l1 rfl (by omega) (hp_Li (z := (0 + (1 * q + 0))) l2 rfl (by omega) hp_Ln))) trivial ?_ ?_
  · intro p_9 hp ys l' st_9' h_9' hys a1_9 a2 a3 gZ gL gS
    cases hp
  · intro p_9 hp ys v_9 h_9' hys a1_9 a2 a3 gZ gS
    rcases List.mem_cons.mp hp with rfl | hp
    · obtain rfl := hp_y0 hys
      cases v_9 with
      | none => cases gS
      | some wz =>
        obtain ⟨y0, t0, s0_9, q0, -⟩ := hp_gSi (z := ((-2) + 0)) gS rfl
        cases s0_9
        exact r0 h_9' y0 (by omega) a1_9 a2 a3
    cases hp
theorem by30_k : hp_chk 347 0 3 [(0, 0, 99), (1, 0, 100), (2, (-2147483648), (-1))] [((-1), [(0, (-1)), (1, 1)])] [(0, .inr (.inr (.inl (some 94)))), (1, .inl (0, [(0, 1)])), (2, .inl (0, [(2, 1)]))] [] [(20024, (0, []), (0, [(1, 1)])), (28416, (0, [(0, 1)]), (0, []))] [] 5 [] [([], 3, [(0, 0, 99), (1, 0, 100), (2, (-2147483648), (-1))], [], [], [.inl ((-2), [])], [])] = true := by decide +kernel
theorem by30 {cst : am_K} {strs : List Nat} {Φ : am_Q → Prop} {D : Nat} {M : am_M} {h : am_H} {l : am_L} (c : hp_C cst strs D) (hM : m_P[347]? = some M) (hD : (5 : Int) ≤ (D : Int) + 1) (hy : ly_hy m_tt ly_TH h) (m s q : Int) (b0 : 0 ≤ m) (t0 : m ≤ 99) (b1 : 0 ≤ s) (t1 : s ≤ 100) (b2 : (-2147483648) ≤ q) (t2 : q ≤ (-1)) (f0 : 0 ≤ (s - m - 1)) (k0 : ly_hv cst h 20024 0 = some (s)) (k1 : ly_hv cst h 28416 (m) = some 0) (l0 : hp_a l 0 94) (l1 : hp_i l 1 (m)) (l2 : hp_i l 2 (q)) (r0 : ∀ (h_9' : am_H) (y0 : Int32), y0.toInt = (-2) → ly_hy m_tt ly_TH h_9' → ly_fr cst [] h h_9' → h.length ≤ h_9'.length → Φ (some (.int y0), h_9', 0, 0)) : hp_F cst strs Φ D M 0 l [] h := by
  refine hp_arc c hM by30_k hD [m, s, q] rfl hy (hp_Bc (z := m) rfl b0 t0 (hp_Bc (z := s) rfl b1 t1 (hp_Bc (z := q) rfl b2 t2 hp_Bn))) (hp_Fc (z := ((-1) + ((-1) * m + (1 * s + 0)))) rfl (by omega) hp_Fn) (hp_Kc (zi := (0 + 0)) (zv := (0 + (1 * s + 0))) k0 rfl rfl (by omega) (by omega) (hp_Kc (zi := (0 + (1 * m + 0))) (zv := (0 + 0)) k1 rfl rfl (by omega) (by omega) hp_Kn)) (hp_La l0 (hp_Li (z := (0 + (1 * m + 0))) l1 rfl (by omega) (hp_Li (z := (0 + (1 * q + 0))) l2 rfl (by omega) hp_Ln))) trivial ?_ ?_
  · intro p_9 hp ys l' st_9' h_9' hys a1_9 a2 a3 gZ gL gS
    cases hp
  · intro p_9 hp ys v_9 h_9' hys a1_9 a2 a3 gZ gS
    rcases List.mem_cons.mp hp with rfl | hp
    · obtain rfl := hp_y0 hys
      cases v_9 with
      | none => cases gS
      | some wz =>
        obtain ⟨y0, t0, s0_9, q0, -⟩ := hp_gSi (z := ((-2) + 0)) gS rfl
        cases s0_9
        exact r0 h_9' y0 (by omega) a1_9 a2 a3
    cases hp
theorem by31_k : hp_chk 347 0 3 [(0, 0, 99), (1, 0, 100), (2, 24, 2147483647)] [((-1), [(0, (-1)), (1, 1)])] [(0, .inr (.inr (.inl (some 94)))), (1, .inl (0, [(0, 1)])), (2, .inl (0, [(2, 1)]))] [] [(20024, (0, []), (0, [(1, 1)])), (28416, (0, [(0, 1)]), (0, []))] [] 5 [] [([], 3, [(0, 0, 99), (1, 0, 100), (2, 24, 2147483647)], [], [], [.inl ((-2), [])], [])] = true := by decide +kernel
theorem by31 {cst : am_K} {strs : List Nat} {Φ : am_Q → Prop} {D : Nat} {M : am_M} {h : am_H} {l : am_L} (c : hp_C cst strs D) (hM : m_P[347]? = some M) (hD : (5 : Int) ≤ (D : Int) + 1) (hy : ly_hy m_tt ly_TH h) (m s q : Int) (b0 : 0 ≤ m) (t0 : m ≤ 99) (b1 : 0 ≤ s) (t1 : s ≤ 100) (b2 : 24 ≤ q) (t2 : q ≤ 2147483647) (f0 : 0 ≤ (s - m - 1)) (k0 : ly_hv cst h 20024 0 = some (s)) (k1 : ly_hv cst h 28416 (m) = some 0) (l0 : hp_a l 0 94) (l1 : hp_i l 1 (m)) (l2 : hp_i l 2 (q)) (r0 : ∀ (h_9' : am_H) (y0 : Int32), y0.toInt = (-2) → ly_hy m_tt ly_TH h_9' → ly_fr cst [] h h_9' → h.length ≤ h_9'.length → Φ (some (.int y0), h_9', 0, 0)) : hp_F cst strs Φ D M 0 l [] h := by
  refine hp_arc c hM by31_k hD [m, s, q] rfl hy (hp_Bc (z := m) rfl b0 t0 (hp_Bc (z := s) rfl b1 t1 (hp_Bc (z := q) rfl b2 t2 hp_Bn))) (hp_Fc (z := ((-1) + ((-1) * m + (1 * s + 0)))) rfl (by omega) hp_Fn) (hp_Kc (zi := (0 + 0)) (zv := (0 + (1 * s + 0))) k0 rfl rfl (by omega) (by omega) (hp_Kc (zi := (0 + (1 * m + 0))) (zv := (0 + 0)) k1 rfl rfl (by omega) (by omega) hp_Kn)) (hp_La l0 (hp_Li (z := (0 + (1 * m + 0))) l1 rfl (by omega) (hp_Li (z := (0 + (1 * q + 0))) l2 rfl (by omega) hp_Ln))) trivial ?_ ?_
  · intro p_9 hp ys l' st_9' h_9' hys a1_9 a2 a3 gZ gL gS
    cases hp
  · intro p_9 hp ys v_9 h_9' hys a1_9 a2 a3 gZ gS
    rcases List.mem_cons.mp hp with rfl | hp
    · obtain rfl := hp_y0 hys
      cases v_9 with
      | none => cases gS
      | some wz =>
        obtain ⟨y0, t0, s0_9, q0, -⟩ := hp_gSi (z := ((-2) + 0)) gS rfl
        cases s0_9
        exact r0 h_9' y0 (by omega) a1_9 a2 a3
    cases hp
theorem by40_k : hp_chk 347 0 4 [(0, 0, 99), (1, 0, 100), (2, 0, 23), (3, (-2147483648), (-1))] [((-1), [(0, (-1)), (1, 1)])] [(0, .inr (.inr (.inl (some 94)))), (1, .inl (0, [(0, 1)])), (2, .inl (0, [(2, 1)]))] [] [(20024, (0, []), (0, [(1, 1)])), (28416, (0, [(0, 1)]), (0, [])), (30464, (0, [(0, 1)]), (0, [(3, 1)]))] [] 5 [] [([], 4, [(0, 0, 99), (1, 0, 100), (2, 0, 23), (3, (-2147483648), (-1))], [], [], [.inl ((-4), [])], [])] = true := by decide +kernel
theorem by40 {cst : am_K} {strs : List Nat} {Φ : am_Q → Prop} {D : Nat} {M : am_M} {h : am_H} {l : am_L} (c : hp_C cst strs D) (hM : m_P[347]? = some M) (hD : (5 : Int) ≤ (D : Int) + 1) (hy : ly_hy m_tt ly_TH h) (m s q v : Int) (b0 : 0 ≤ m) (t0 : m ≤ 99) (b1 : 0 ≤ s) (t1 : s ≤ 100) (b2 : 0 ≤ q) (t2 : q ≤ 23) (b3 : (-2147483648) ≤ v) (t3 : v ≤ (-1)) (f0 : 0 ≤ (s - m - 1)) (k0 : ly_hv cst h 20024 0 = some (s)) (k1 : ly_hv cst h 28416 (m) = some 0) (k2 : ly_hv cst h 30464 (m) = some (v)) (l0 : hp_a l 0 94) (l1 : hp_i l 1 (m)) (l2 : hp_i l 2 (q)) (r0 : ∀ (h_9' : am_H) (y0 : Int32), y0.toInt = (-4) → ly_hy m_tt ly_TH h_9' → ly_fr cst [] h h_9' → h.length ≤ h_9'.length → Φ (some (.int y0), h_9', 0, 0)) : hp_F cst strs Φ D M 0 l [] h := by
  refine hp_arc c hM by40_k hD [m, s, q, v] rfl hy (hp_Bc (z := m) rfl b0 t0 (hp_Bc (z := s) rfl b1 t1 (hp_Bc (z := q) rfl b2 t2 (hp_Bc (z := v) rfl b3 t3 hp_Bn)))) (hp_Fc (z := ((-1) + ((-1) * m + (1 * s + 0)))) rfl (by omega) hp_Fn) (hp_Kc (zi := (0 + 0)) (zv := (0 + (1 * s + 0))) k0 rfl rfl (by omega) (by omega) (hp_Kc (zi := (0 + (1 * m + 0))) (zv := (0 + 0)) k1 rfl rfl (by omega) (by omega) (hp_Kc (zi := (0 + (1 * m + 0))) (zv := (0 + (1 * v + 0))) k2 rfl rfl (by omega) (by omega) hp_Kn))) (hp_La l0 (hp_Li (z := (0 + (1 * m + 0))) l1 rfl (by omega) (hp_Li (z := (0 + (1 * q + 0))) l2 rfl (by omega) hp_Ln))) trivial ?_ ?_
  · intro p_9 hp ys l' st_9' h_9' hys a1_9 a2 a3 gZ gL gS
    cases hp
  · intro p_9 hp ys v h_9' hys a1_9 a2 a3 gZ gS
    rcases List.mem_cons.mp hp with rfl | hp
    · obtain rfl := hp_y0 hys
      cases v with
      | none => cases gS
      | some wz =>
        obtain ⟨y0, t0, s0_9, q0, -⟩ := hp_gSi (z := ((-4) + 0)) gS rfl
        cases s0_9
        exact r0 h_9' y0 (by omega) a1_9 a2 a3
    cases hp
theorem by41_k : hp_chk 347 0 4 [(0, 0, 99), (1, 0, 100), (2, 0, 23), (3, 1, 2147483647)] [((-1), [(0, (-1)), (1, 1)])] [(0, .inr (.inr (.inl (some 94)))), (1, .inl (0, [(0, 1)])), (2, .inl (0, [(2, 1)]))] [] [(20024, (0, []), (0, [(1, 1)])), (28416, (0, [(0, 1)]), (0, [])), (30464, (0, [(0, 1)]), (0, [(3, 1)]))] [] 5 [] [([], 4, [(0, 0, 99), (1, 0, 100), (2, 0, 23), (3, 1, 2147483647)], [], [], [.inl ((-4), [])], [])] = true := by decide +kernel
theorem by41 {cst : am_K} {strs : List Nat} {Φ : am_Q → Prop} {D : Nat} {M : am_M} {h : am_H} {l : am_L} (c : hp_C cst strs D) (hM : m_P[347]? = some M) (hD : (5 : Int) ≤ (D : Int) + 1) (hy : ly_hy m_tt ly_TH h) (m s q v : Int) (b0 : 0 ≤ m) (t0 : m ≤ 99) (b1 : 0 ≤ s) (t1 : s ≤ 100) (b2 : 0 ≤ q) (t2 : q ≤ 23) (b3 : 1 ≤ v) (t3 : v ≤ 2147483647) (f0 : 0 ≤ (s - m - 1)) (k0 : ly_hv cst h 20024 0 = some (s)) (k1 : ly_hv cst h 28416 (m) = some 0) (k2 : ly_hv cst h 30464 (m) = some (v)) (l0 : hp_a l 0 94) (l1 : hp_i l 1 (m)) (l2 : hp_i l 2 (q)) (r0 : ∀ (h_9' : am_H) (y0 : Int32), y0.toInt = (-4) → ly_hy m_tt ly_TH h_9' → ly_fr cst [] h h_9' → h.length ≤ h_9'.length → Φ (some (.int y0), h_9', 0, 0)) : hp_F cst strs Φ D M 0 l [] h := by
  refine hp_arc c hM by41_k hD [m, s, q, v] rfl hy (hp_Bc (z := m) rfl b0 t0 (hp_Bc (z := s) rfl b1 t1 (hp_Bc (z := q) rfl b2 t2 (hp_Bc (z := v) rfl b3 t3 hp_Bn)))) (hp_Fc (z := ((-1) + ((-1) * m + (1 * s + 0)))) rfl (by omega) hp_Fn) (hp_Kc (zi := (0 + 0)) (zv := (0 + (1 * s + 0))) k0 rfl rfl (by omega) (by omega) (hp_Kc (zi := (0 + (1 * m + 0))) (zv := (0 + 0)) k1 rfl rfl (by omega) (by omega) (hp_Kc (zi := (0 + (1 * m + 0))) (zv := (0 + (1 * v + 0))) k2 rfl rfl (by omega) (by omega) hp_Kn))) (hp_La l0 (hp_Li (z := (0 + (1 * m + 0))) l1 rfl (by omega) (hp_Li (z := (0 + (1 * q + 0))) l2 rfl (by omega) hp_Ln))) trivial ?_ ?_
  · intro p_9 hp ys l' st_9' h_9' hys a1_9 a2 a3 gZ gL gS
    cases hp
  · intro p_9 hp ys v h_9' hys a1_9 a2 a3 gZ gS
    rcases List.mem_cons.mp hp with rfl | hp
    · obtain rfl := hp_y0 hys
      cases v with
      | none => cases gS
      | some wz =>
        obtain ⟨y0, t0, s0_9, q0, -⟩ := hp_gSi (z := ((-4) + 0)) gS rfl
        cases s0_9
        exact r0 h_9' y0 (by omega) a1_9 a2 a3
    cases hp
theorem by5_k : hp_chk 347 0 3 [(0, 0, 99), (1, 0, 100), (2, 0, 23)] [((-1), [(0, (-1)), (1, 1)])] [(0, .inr (.inr (.inl (some 94)))), (1, .inl (0, [(0, 1)])), (2, .inl (0, [(2, 1)]))] [] [(20024, (0, []), (0, [(1, 1)])), (28416, (0, [(0, 1)]), (0, [])), (30464, (0, [(0, 1)]), (0, []))] [] 5 [(37, ([], 3, [(0, 0, 99), (1, 0, 100), (2, 0, 23)], [], [(0, .inr (.inr (.inl (some 94)))), (1, .inl (0, [(0, 1)])), (2, .inl (0, [(2, 1)]))], [.inl (0, [(0, 1)]), .inr (.inr (.inl (some 94))), .inl (0, [(0, 1)]), .inr (.inr (.inl (some 94)))], []))] [] = true := by decide +kernel
theorem by5 {cst : am_K} {strs : List Nat} {Φ : am_Q → Prop} {D : Nat} {M : am_M} {h : am_H} {l : am_L} (c : hp_C cst strs D) (hM : m_P[347]? = some M) (hD : (5 : Int) ≤ (D : Int) + 1) (hy : ly_hy m_tt ly_TH h) (m s q : Int) (b0 : 0 ≤ m) (t0 : m ≤ 99) (b1 : 0 ≤ s) (t1 : s ≤ 100) (b2 : 0 ≤ q) (t2 : q ≤ 23) (f0 : 0 ≤ (s - m - 1)) (k0 : ly_hv cst h 20024 0 = some (s)) (k1 : ly_hv cst h 28416 (m) = some 0) (k2 : ly_hv cst h 30464 (m) = some 0) (l0 : hp_a l 0 94) (l1 : hp_i l 1 (m)) (l2 : hp_i l 2 (q)) (e0 : ∀ (l' : am_L) (h_9' : am_H) (y0 : Int32) (y2 : Int32), y0.toInt = (m) → y2.toInt = (m) → ly_hy m_tt ly_TH h_9' → ly_fr cst [] h h_9' → h.length ≤ h_9'.length → hp_a l' 0 94 → hp_i l' 1 (m) → hp_i l' 2 (q) → hp_F cst strs Φ D M 37 l' [.int y0, .ref 94, .int y2, .ref 94] h_9') : hp_F cst strs Φ D M 0 l [] h := by
  refine hp_arc c hM by5_k hD [m, s, q] rfl hy (hp_Bc (z := m) rfl b0 t0 (hp_Bc (z := s) rfl b1 t1 (hp_Bc (z := q) rfl b2 t2 hp_Bn))) (hp_Fc (z := ((-1) + ((-1) * m + (1 * s + 0)))) rfl (by omega) hp_Fn) (hp_Kc (zi := (0 + 0)) (zv := (0 + (1 * s + 0))) k0 rfl rfl (by omega) (by omega) (hp_Kc (zi := (0 + (1 * m + 0))) (zv := (0 + 0)) k1 rfl rfl (by omega) (by omega) (hp_Kc (zi := (0 + (1 * m + 0))) (zv := (0 + 0)) k2 rfl rfl (by omega) (by omega) hp_Kn))) (hp_La l0 (hp_Li (z := (0 + (1 * m + 0))) l1 rfl (by omega) (hp_Li (z := (0 + (1 * q + 0))) l2 rfl (by omega) hp_Ln))) trivial ?_ ?_
  · intro p_9 hp ys l' st_9' h_9' hys a1_9 a2 a3 gZ gL gS
    rcases List.mem_cons.mp hp with rfl | hp
    · obtain rfl := hp_y0 hys
      obtain ⟨y0, t0, rfl, q0, g0⟩ := hp_gSi (z := (0 + (1 * m + 0))) gS rfl
      obtain ⟨t1, rfl, g1⟩ := hp_gSa g0 (by decide)
      obtain ⟨y2, t2, rfl, q2_9, g2⟩ := hp_gSi (z := (0 + (1 * m + 0))) g1 rfl
      obtain ⟨t3_9, rfl, g3_9⟩ := hp_gSa g2 (by decide)
      cases hp_gSn g3_9
      exact e0 l' h_9' y0 y2 (by omega) (by omega) a1_9 a2 a3 (hp_gLa gL (List.mem_of_getElem? (i := 0) rfl) (by decide)) (hp_gLi (z := (0 + (1 * m + 0))) gL (List.mem_of_getElem? (i := 1) rfl) rfl (by omega)) (hp_gLi (z := (0 + (1 * q + 0))) gL (List.mem_of_getElem? (i := 2) rfl) rfl (by omega))
    cases hp
  · intro p_9 hp ys v_9 h_9' hys a1_9 a2 a3 gZ gS
    cases hp
theorem by60_k : hp_chk 347 40 3 [(0, 0, 99), (1, 0, 23), (2, (-2147483648), (-1))] [] [(0, .inr (.inr (.inl (some 94)))), (1, .inl (0, [(0, 1)])), (2, .inl (0, [(1, 1)]))] [.inl (0, [(2, 1)]), .inl (0, [(0, 1)]), .inr (.inr (.inl (some 94)))] [] [] 2 [(60, ([], 3, [(0, 0, 99), (1, 0, 23), (2, (-2147483648), (-1))], [], [(0, .inr (.inr (.inl (some 94)))), (1, .inl (0, [(0, 1)]))], [.inl (1, []), .inl (0, [(0, 1)]), .inr (.inr (.inl (some 94)))], []))] [] = true := by decide +kernel
theorem by60 {cst : am_K} {strs : List Nat} {Φ : am_Q → Prop} {D : Nat} {M : am_M} {h : am_H} {l : am_L} (c : hp_C cst strs D) (hM : m_P[347]? = some M) (hD : (2 : Int) ≤ (D : Int) + 1) (hy : ly_hy m_tt ly_TH h) (m q v : Int) (x0 : Int32) (x1 : Int32) (hx0 : x0.toInt = (v)) (hx1 : x1.toInt = (m)) (b0 : 0 ≤ m) (t0 : m ≤ 99) (b1 : 0 ≤ q) (t1 : q ≤ 23) (b2 : (-2147483648) ≤ v) (t2 : v ≤ (-1)) (l0 : hp_a l 0 94) (l1 : hp_i l 1 (m)) (l2 : hp_i l 2 (q)) (e0 : ∀ (l' : am_L) (h_9' : am_H) (y0 : Int32) (y1 : Int32), y0.toInt = 1 → y1.toInt = (m) → ly_hy m_tt ly_TH h_9' → ly_fr cst [] h h_9' → h.length ≤ h_9'.length → hp_a l' 0 94 → hp_i l' 1 (m) → hp_F cst strs Φ D M 60 l' [.int y0, .int y1, .ref 94] h_9') : hp_F cst strs Φ D M 40 l [.int x0, .int x1, .ref 94] h := by
  refine hp_arc c hM by60_k hD [m, q, v] rfl hy (hp_Bc (z := m) rfl b0 t0 (hp_Bc (z := q) rfl b1 t1 (hp_Bc (z := v) rfl b2 t2 hp_Bn))) hp_Fn hp_Kn (hp_La l0 (hp_Li (z := (0 + (1 * m + 0))) l1 rfl (by omega) (hp_Li (z := (0 + (1 * q + 0))) l2 rfl (by omega) hp_Ln))) (hp_Si (z := (0 + (1 * v + 0))) rfl (by omega) (hp_Si (z := (0 + (1 * m + 0))) rfl (by omega) (hp_Sa trivial))) ?_ ?_
  · intro p_9 hp ys l' st_9' h_9' hys a1_9 a2 a3 gZ gL gS
    rcases List.mem_cons.mp hp with rfl | hp
    · obtain rfl := hp_y0 hys
      obtain ⟨y0, t0, rfl, q0, g0⟩ := hp_gSi (z := (1 + 0)) gS rfl
      obtain ⟨y1, t1, rfl, q1_9, g1⟩ := hp_gSi (z := (0 + (1 * m + 0))) g0 rfl
      obtain ⟨t2, rfl, g2⟩ := hp_gSa g1 (by decide)
      cases hp_gSn g2
      exact e0 l' h_9' y0 y1 (by omega) (by omega) a1_9 a2 a3 (hp_gLa gL (List.mem_of_getElem? (i := 0) rfl) (by decide)) (hp_gLi (z := (0 + (1 * m + 0))) gL (List.mem_of_getElem? (i := 1) rfl) rfl (by omega))
    cases hp
  · intro p_9 hp ys v h_9' hys a1_9 a2 a3 gZ gS
    cases hp
theorem by61_k : hp_chk 347 40 3 [(0, 0, 99), (1, 0, 23), (2, 1, 2147483647)] [] [(0, .inr (.inr (.inl (some 94)))), (1, .inl (0, [(0, 1)])), (2, .inl (0, [(1, 1)]))] [.inl (0, [(2, 1)]), .inl (0, [(0, 1)]), .inr (.inr (.inl (some 94)))] [] [] 2 [(60, ([], 3, [(0, 0, 99), (1, 0, 23), (2, 1, 2147483647)], [], [(0, .inr (.inr (.inl (some 94)))), (1, .inl (0, [(0, 1)]))], [.inl (1, []), .inl (0, [(0, 1)]), .inr (.inr (.inl (some 94)))], []))] [] = true := by decide +kernel
theorem by61 {cst : am_K} {strs : List Nat} {Φ : am_Q → Prop} {D : Nat} {M : am_M} {h : am_H} {l : am_L} (c : hp_C cst strs D) (hM : m_P[347]? = some M) (hD : (2 : Int) ≤ (D : Int) + 1) (hy : ly_hy m_tt ly_TH h) (m q v : Int) (x0 : Int32) (x1 : Int32) (hx0 : x0.toInt = (v)) (hx1 : x1.toInt = (m)) (b0 : 0 ≤ m) (t0 : m ≤ 99) (b1 : 0 ≤ q) (t1 : q ≤ 23) (b2 : 1 ≤ v) (t2 : v ≤ 2147483647) (l0 : hp_a l 0 94) (l1 : hp_i l 1 (m)) (l2 : hp_i l 2 (q)) (e0 : ∀ (l' : am_L) (h_9' : am_H) (y0 : Int32) (y1 : Int32), y0.toInt = 1 → y1.toInt = (m) → ly_hy m_tt ly_TH h_9' → ly_fr cst [] h h_9' → h.length ≤ h_9'.length → hp_a l' 0 94 → hp_i l' 1 (m) → hp_F cst strs Φ D M 60 l' [.int y0, .int y1, .ref 94] h_9') : hp_F cst strs Φ D M 40 l [.int x0, .int x1, .ref 94] h := by
  refine hp_arc c hM by61_k hD [m, q, v] rfl hy (hp_Bc (z := m) rfl b0 t0 (hp_Bc (z := q) rfl b1 t1 (hp_Bc (z := v) rfl b2 t2 hp_Bn))) hp_Fn hp_Kn (hp_La l0 (hp_Li (z := (0 + (1 * m + 0))) l1 rfl (by omega) (hp_Li (z := (0 + (1 * q + 0))) l2 rfl (by omega) hp_Ln))) (hp_Si (z := (0 + (1 * v + 0))) rfl (by omega) (hp_Si (z := (0 + (1 * m + 0))) rfl (by omega) (hp_Sa trivial))) ?_ ?_
  · intro p_9 hp ys l' st_9' h_9' hys a1_9 a2 a3 gZ gL gS
    rcases List.mem_cons.mp hp with rfl | hp
    · obtain rfl := hp_y0 hys
      obtain ⟨y0, t0, rfl, q0, g0⟩ := hp_gSi (z := (1 + 0)) gS rfl
      obtain ⟨y1, t1, rfl, q1_9, g1⟩ := hp_gSi (z := (0 + (1 * m + 0))) g0 rfl
      obtain ⟨t2, rfl, g2⟩ := hp_gSa g1 (by decide)
      cases hp_gSn g2
      exact e0 l' h_9' y0 y1 (by omega) (by omega) a1_9 a2 a3 (hp_gLa gL (List.mem_of_getElem? (i := 0) rfl) (by decide)) (hp_gLi (z := (0 + (1 * m + 0))) gL (List.mem_of_getElem? (i := 1) rfl) rfl (by omega))
    cases hp
  · intro p_9 hp ys v h_9' hys a1_9 a2 a3 gZ gS
    cases hp
theorem by7_k : hp_chk 347 40 2 [(0, 0, 99), (1, 0, 23)] [] [(0, .inr (.inr (.inl (some 94)))), (1, .inl (0, [(0, 1)])), (2, .inl (0, [(1, 1)]))] [.inl (0, []), .inl (0, [(0, 1)]), .inr (.inr (.inl (some 94)))] [] [] 2 [(49, ([], 2, [(0, 0, 99), (1, 0, 23)], [], [(0, .inr (.inr (.inl (some 94)))), (1, .inl (0, [(0, 1)])), (2, .inl (0, [(1, 1)]))], [.inl (0, [(0, 1)]), .inr (.inl (0, [])), .inl (12, []), .inr (.inr (.inl (some 94))), .inl (0, [(1, 1)]), .inl (0, [(0, 1)]), .inr (.inr (.inl (some 94)))], []))] [] = true := by decide +kernel
theorem by7 {cst : am_K} {strs : List Nat} {Φ : am_Q → Prop} {D : Nat} {M : am_M} {h : am_H} {l : am_L} (c : hp_C cst strs D) (hM : m_P[347]? = some M) (hD : (2 : Int) ≤ (D : Int) + 1) (hy : ly_hy m_tt ly_TH h) (m q : Int) (x0 : Int32) (x1 : Int32) (hx0 : x0.toInt = 0) (hx1 : x1.toInt = (m)) (b0 : 0 ≤ m) (t0 : m ≤ 99) (b1 : 0 ≤ q) (t1 : q ≤ 23) (l0 : hp_a l 0 94) (l1 : hp_i l 1 (m)) (l2 : hp_i l 2 (q)) (e0 : ∀ (l' : am_L) (h_9' : am_H) (y0 : Int32) (y1 : Int64) (y2 : Int32) (y4 : Int32) (y5 : Int32), y0.toInt = (m) → y1.toInt = 0 → y2.toInt = 12 → y4.toInt = (q) → y5.toInt = (m) → ly_hy m_tt ly_TH h_9' → ly_fr cst [] h h_9' → h.length ≤ h_9'.length → hp_a l' 0 94 → hp_i l' 1 (m) → hp_i l' 2 (q) → hp_F cst strs Φ D M 49 l' [.int y0, .long y1, .int y2, .ref 94, .int y4, .int y5, .ref 94] h_9') : hp_F cst strs Φ D M 40 l [.int x0, .int x1, .ref 94] h := by
  refine hp_arc c hM by7_k hD [m, q] rfl hy (hp_Bc (z := m) rfl b0 t0 (hp_Bc (z := q) rfl b1 t1 hp_Bn)) hp_Fn hp_Kn (hp_La l0 (hp_Li (z := (0 + (1 * m + 0))) l1 rfl (by omega) (hp_Li (z := (0 + (1 * q + 0))) l2 rfl (by omega) hp_Ln))) (hp_Si (z := (0 + 0)) rfl (by omega) (hp_Si (z := (0 + (1 * m + 0))) rfl (by omega) (hp_Sa trivial))) ?_ ?_
  · intro p_9 hp ys l' st_9' h_9' hys a1_9 a2 a3 gZ gL gS
    rcases List.mem_cons.mp hp with rfl | hp
    · obtain rfl := hp_y0 hys
      obtain ⟨y0, t0, rfl, q0, g0⟩ := hp_gSi (z := (0 + (1 * m + 0))) gS rfl
      obtain ⟨y1, t1, rfl, q1_9, g1⟩ := hp_gSj (z := (0 + 0)) g0 rfl
      obtain ⟨y2, t2_9, rfl, q2_9, g2⟩ := hp_gSi (z := (12 + 0)) g1 rfl
      obtain ⟨t3_9, rfl, g3_9⟩ := hp_gSa g2 (by decide)
      obtain ⟨y4, t4_9, rfl, q4_9, g4⟩ := hp_gSi (z := (0 + (1 * q + 0))) g3_9 rfl
      obtain ⟨y5, t5_9, rfl, q5_9, g5_9⟩ := hp_gSi (z := (0 + (1 * m + 0))) g4 rfl
      obtain ⟨t6, rfl, g6⟩ := hp_gSa g5_9 (by decide)
      cases hp_gSn g6
      exact e0 l' h_9' y0 y1 y2 y4 y5 (by omega) (by omega) (by omega) (by omega) (by omega) a1_9 a2 a3 (hp_gLa gL (List.mem_of_getElem? (i := 0) rfl) (by decide)) (hp_gLi (z := (0 + (1 * m + 0))) gL (List.mem_of_getElem? (i := 1) rfl) rfl (by omega)) (hp_gLi (z := (0 + (1 * q + 0))) gL (List.mem_of_getElem? (i := 2) rfl) rfl (by omega))
    cases hp
  · intro p_9 hp ys v_9 h_9' hys a1_9 a2 a3 gZ gS
    cases hp
theorem by8_k : hp_chk 347 52 3 [(0, 0, 99), (1, 0, 23), (2, (-2147483648), 2147483647)] [((-1), [(1, (-1)), (2, 1)])] [(0, .inr (.inr (.inl (some 94)))), (1, .inl (0, [(0, 1)])), (2, .inl (0, [(1, 1)]))] [.inl (0, [(2, 1)]), .inl (0, [(1, 1)]), .inl (0, [(0, 1)]), .inr (.inr (.inl (some 94)))] [] [] 2 [(60, ([], 3, [(0, 0, 99), (1, 0, 23), (2, (-2147483648), 2147483647)], [], [(0, .inr (.inr (.inl (some 94)))), (1, .inl (0, [(0, 1)]))], [.inl (1, []), .inl (0, [(0, 1)]), .inr (.inr (.inl (some 94)))], []))] [] = true := by decide +kernel
theorem by8 {cst : am_K} {strs : List Nat} {Φ : am_Q → Prop} {D : Nat} {M : am_M} {h : am_H} {l : am_L} (c : hp_C cst strs D) (hM : m_P[347]? = some M) (hD : (2 : Int) ≤ (D : Int) + 1) (hy : ly_hy m_tt ly_TH h) (m q w : Int) (x0 : Int32) (x1 : Int32) (x2 : Int32) (hx0 : x0.toInt = (w)) (hx1 : x1.toInt = (q)) (hx2 : x2.toInt = (m)) (b0 : 0 ≤ m) (t0 : m ≤ 99) (b1 : 0 ≤ q) (t1 : q ≤ 23) (b2 : (-2147483648) ≤ w) (t2 : w ≤ 2147483647) (f0 : 0 ≤ (w - q - 1)) (l0 : hp_a l 0 94) (l1 : hp_i l 1 (m)) (l2 : hp_i l 2 (q)) (e0 : ∀ (l' : am_L) (h_9' : am_H) (y0 : Int32) (y1 : Int32), y0.toInt = 1 → y1.toInt = (m) → ly_hy m_tt ly_TH h_9' → ly_fr cst [] h h_9' → h.length ≤ h_9'.length → hp_a l' 0 94 → hp_i l' 1 (m) → hp_F cst strs Φ D M 60 l' [.int y0, .int y1, .ref 94] h_9') : hp_F cst strs Φ D M 52 l [.int x0, .int x1, .int x2, .ref 94] h := by
  refine hp_arc c hM by8_k hD [m, q, w] rfl hy (hp_Bc (z := m) rfl b0 t0 (hp_Bc (z := q) rfl b1 t1 (hp_Bc (z := w) rfl b2 t2 hp_Bn))) (hp_Fc (z := ((-1) + ((-1) * q + (1 * w + 0)))) rfl (by omega) hp_Fn) hp_Kn (hp_La l0 (hp_Li (z := (0 + (1 * m + 0))) l1 rfl (by omega) (hp_Li (z := (0 + (1 * q + 0))) l2 rfl (by omega) hp_Ln))) (hp_Si (z := (0 + (1 * w + 0))) rfl (by omega) (hp_Si (z := (0 + (1 * q + 0))) rfl (by omega) (hp_Si (z := (0 + (1 * m + 0))) rfl (by omega) (hp_Sa trivial)))) ?_ ?_
  · intro p_9 hp ys l' st_9' h_9' hys a1_9 a2 a3 gZ gL gS
    rcases List.mem_cons.mp hp with rfl | hp
    · obtain rfl := hp_y0 hys
      obtain ⟨y0, t0, rfl, q0, g0⟩ := hp_gSi (z := (1 + 0)) gS rfl
      obtain ⟨y1, t1, rfl, q1_9, g1⟩ := hp_gSi (z := (0 + (1 * m + 0))) g0 rfl
      obtain ⟨t2, rfl, g2⟩ := hp_gSa g1 (by decide)
      cases hp_gSn g2
      exact e0 l' h_9' y0 y1 (by omega) (by omega) a1_9 a2 a3 (hp_gLa gL (List.mem_of_getElem? (i := 0) rfl) (by decide)) (hp_gLi (z := (0 + (1 * m + 0))) gL (List.mem_of_getElem? (i := 1) rfl) rfl (by omega))
    cases hp
  · intro p_9 hp ys v_9 h_9' hys a1_9 a2 a3 gZ gS
    cases hp
theorem by9_k : hp_chk 347 52 3 [(0, 0, 99), (1, 0, 23), (2, (-2147483648), 2147483647)] [(0, [(1, 1), (2, (-1))])] [(0, .inr (.inr (.inl (some 94)))), (1, .inl (0, [(0, 1)])), (2, .inl (0, [(1, 1)]))] [.inl (0, [(2, 1)]), .inl (0, [(1, 1)]), .inl (0, [(0, 1)]), .inr (.inr (.inl (some 94)))] [] [] 2 [(60, ([], 3, [(0, 0, 99), (1, 0, 23), (2, (-2147483648), 2147483647)], [], [(0, .inr (.inr (.inl (some 94)))), (1, .inl (0, [(0, 1)]))], [.inl (2, []), .inl (0, [(0, 1)]), .inr (.inr (.inl (some 94)))], []))] [] = true := by decide +kernel
theorem by9 {cst : am_K} {strs : List Nat} {Φ : am_Q → Prop} {D : Nat} {M : am_M} {h : am_H} {l : am_L} (c : hp_C cst strs D) (hM : m_P[347]? = some M) (hD : (2 : Int) ≤ (D : Int) + 1) (hy : ly_hy m_tt ly_TH h) (m q w : Int) (x0 : Int32) (x1 : Int32) (x2 : Int32) (hx0 : x0.toInt = (w)) (hx1 : x1.toInt = (q)) (hx2 : x2.toInt = (m)) (b0 : 0 ≤ m) (t0 : m ≤ 99) (b1 : 0 ≤ q) (t1 : q ≤ 23) (b2 : (-2147483648) ≤ w) (t2 : w ≤ 2147483647) (f0 : 0 ≤ (q - w)) (l0 : hp_a l 0 94) (l1 : hp_i l 1 (m)) (l2 : hp_i l 2 (q)) (e0 : ∀ (l' : am_L) (h_9' : am_H) (y0 : Int32) (y1 : Int32), y0.toInt = 2 → y1.toInt = (m) → ly_hy m_tt ly_TH h_9' → ly_fr cst [] h h_9' → h.length ≤ h_9'.length → hp_a l' 0 94 → hp_i l' 1 (m) → hp_F cst strs Φ D M 60 l' [.int y0, .int y1, .ref 94] h_9') : hp_F cst strs Φ D M 52 l [.int x0, .int x1, .int x2, .ref 94] h := by
  refine hp_arc c hM by9_k hD [m, q, w] rfl hy (hp_Bc (z := m) rfl b0 t0 (hp_Bc (z := q) rfl b1 t1 (hp_Bc (z := w) rfl b2 t2 hp_Bn))) (hp_Fc (z := (0 + (1 * q + ((-1) * w + 0)))) rfl (by omega) hp_Fn) hp_Kn (hp_La l0 (hp_Li (z := (0 + (1 * m + 0))) l1 rfl (by omega) (hp_Li (z := (0 + (1 * q + 0))) l2 rfl (by omega) hp_Ln))) (hp_Si (z := (0 + (1 * w + 0))) rfl (by omega) (hp_Si (z := (0 + (1 * q + 0))) rfl (by omega) (hp_Si (z := (0 + (1 * m + 0))) rfl (by omega) (hp_Sa trivial)))) ?_ ?_
  · intro p_9 hp ys l' st_9' h_9' hys a1_9 a2 a3 gZ gL gS
    rcases List.mem_cons.mp hp with rfl | hp
    · obtain rfl := hp_y0 hys
      obtain ⟨y0, t0, rfl, q0, g0⟩ := hp_gSi (z := (2 + 0)) gS rfl
      obtain ⟨y1, t1, rfl, q1_9, g1⟩ := hp_gSi (z := (0 + (1 * m + 0))) g0 rfl
      obtain ⟨t2, rfl, g2⟩ := hp_gSa g1 (by decide)
      cases hp_gSn g2
      exact e0 l' h_9' y0 y1 (by omega) (by omega) a1_9 a2 a3 (hp_gLa gL (List.mem_of_getElem? (i := 0) rfl) (by decide)) (hp_gLi (z := (0 + (1 * m + 0))) gL (List.mem_of_getElem? (i := 1) rfl) rfl (by omega))
    cases hp
  · intro p_9 hp ys v_9 h_9' hys a1_9 a2 a3 gZ gS
    cases hp
theorem byA_k : hp_chk 347 63 2 [(0, 0, 99), (1, (-2147483648), 2147483647)] [] [(0, .inr (.inr (.inl (some 94)))), (1, .inl (0, [(0, 1)]))] [] [(30464, (0, [(0, 1)]), (0, [(1, 1)]))] [] 5 [] [([], 2, [(0, 0, 99), (1, (-2147483648), 2147483647)], [], [], [.inl (0, [(1, 1)])], [])] = true := by decide +kernel
theorem byA {cst : am_K} {strs : List Nat} {Φ : am_Q → Prop} {D : Nat} {M : am_M} {h : am_H} {l : am_L} (c : hp_C cst strs D) (hM : m_P[347]? = some M) (hD : (5 : Int) ≤ (D : Int) + 1) (hy : ly_hy m_tt ly_TH h) (m v : Int) (b0 : 0 ≤ m) (t0 : m ≤ 99) (b1 : (-2147483648) ≤ v) (t1 : v ≤ 2147483647) (k0 : ly_hv cst h 30464 (m) = some (v)) (l0 : hp_a l 0 94) (l1 : hp_i l 1 (m)) (r0 : ∀ (h_9' : am_H) (y0 : Int32), y0.toInt = (v) → ly_hy m_tt ly_TH h_9' → ly_fr cst [] h h_9' → h.length ≤ h_9'.length → Φ (some (.int y0), h_9', 0, 0)) : hp_F cst strs Φ D M 63 l [] h := by
  refine hp_arc c hM byA_k hD [m, v] rfl hy (hp_Bc (z := m) rfl b0 t0 (hp_Bc (z := v) rfl b1 t1 hp_Bn)) hp_Fn (hp_Kc (zi := (0 + (1 * m + 0))) (zv := (0 + (1 * v + 0))) k0 rfl rfl (by omega) (by omega) hp_Kn) (hp_La l0 (hp_Li (z := (0 + (1 * m + 0))) l1 rfl (by omega) hp_Ln)) trivial ?_ ?_
  · intro p_9 hp ys l' st_9' h_9' hys a1_9 a2 a3 gZ gL gS
    cases hp
  · intro p_9 hp ys v h_9' hys a1_9 a2 a3 gZ gS
    rcases List.mem_cons.mp hp with rfl | hp
    · obtain rfl := hp_y0 hys
      cases v with
      | none => cases gS
      | some wz =>
        obtain ⟨y0, t0, s0_9, q0, -⟩ := hp_gSi (z := (0 + (1 * v + 0))) gS rfl
        cases s0_9
        exact r0 h_9' y0 (by omega) a1_9 a2 a3
    cases hp
/-- what bill answers -/
def bxP (X : List rX) (d y s wt ft : Int) (row ns vs : List Int) (sz m q : Int) (su st : Option Int) (cr a : Int) : Prop := (¬ (0 ≤ m ∧ m < sz ∧ su = some cr ∧ 0 ≤ q ∧ q ≤ 23) → a = -2) ∧ ((0 ≤ m ∧ m < sz ∧ su = some cr ∧ 0 ≤ q ∧ q ≤ 23) → (st ≠ some 0 → a = -4) ∧ (st = some 0 → ∃ n v, nmP X 12 0 y s n ∧ bdP X d y s wt ft row ns vs v ∧ a = if n ≤ q ∧ v = 0 then 2 else 1))
/-- bill of the class -/
theorem bx_run {cst : am_K} {strs : List Nat} {D : Nat} {h0 : am_H} (cc : ∀ d, hp_C cst strs d) (hy : ly_hy m_tt ly_TH h0) {X : List rX} {i0 : List Int} (I : LC cst h0 X i0) (x30 : X.length ≤ 30) (g12 : (fX X).length ≤ 1240) (P : ∀ a_9 (ha_9 : a_9 < X.length), ra_l (X[a_9])) {xm xq : Int32} {sz dy : Int} (sz0 : 0 ≤ sz) (sz1 : sz ≤ 100) (dy0 : 0 ≤ dy) (dy1 : dy ≤ 399) (kdy : ly_hv cst h0 10 0 = some dy) (ksz : ly_hv cst h0 7170 0 = some sz) (hl9 : 177 + 19 * sz ≤ (h0.length : Int)) (ko : ∀ j_9, 0 ≤ j_9 → j_9 < sz → ly_hv cst h0 7424 j_9 = some 1) (kc : ∀ j_9, 0 ≤ j_9 → j_9 < sz → ∃ su st, ly_hv cst h0 45313 j_9 = some su ∧ ly_hv cst h0 45319 j_9 = some st ∧ -2147483648 ≤ su ∧ su ≤ 2147483647 ∧ -2147483648 ≤ st ∧ st ≤ 2147483647) {d y s wt ft : Int} {row ns vs : List Int} (kk : 0 ≤ xm.toInt → xm.toInt < sz → ly_hv cst h0 45312 xm.toInt = some d ∧ ly_hv cst h0 45317 xm.toInt = some y ∧ ly_hv cst h0 45315 xm.toInt = some s ∧ ly_hv cst h0 45571 xm.toInt = some wt ∧ ly_hv cst h0 46339 xm.toInt = some ft ∧ (wt = 1 → wR cst h0 xm.toInt row) ∧ (ft = 1 → rFm cst h0 xm.toInt ns vs)) (d0 : -9223372036854775808 ≤ d) (d1 : d ≤ 9223372036854775807) (y0 : -2147483648 ≤ y) (y1 : y ≤ 2147483647) (s0 : -2147483648 ≤ s) (s1 : s ≤ 2147483647) (bw : wt = 0 ∨ wt = 1) (bf : ft = 0 ∨ ft = 1) :
    ∃ r_9, am_Run cst m_cl m_tt m_P strs sx_bi (D + 14) 152 [.ref 16, .int xm, .int xq] h0 r_9 ∧ (fun r_9 : am_Q => ∃ w_9 : Int32, r_9.1 = some (.int w_9) ∧ r_9.2.2.1 = 0 ∧ r_9.2.2.2 = 0 ∧ ly_hy m_tt ly_TH r_9.2.1 ∧ ly_fr cst [7182, 8704, 8960, 9216, 9472, 45319, 60090] h0 r_9.2.1 ∧ bl_E cst h0 r_9.2.1 60090 (bl_ok xm.toInt xq.toInt sz (ly_hv cst h0 45313 xm.toInt) (ly_hv cst h0 45319 xm.toInt) (-1)) xm.toInt ∧ bxP X d y s wt ft row ns vs sz xm.toInt xq.toInt (ly_hv cst h0 45313 xm.toInt) (ly_hv cst h0 45319 xm.toInt) (-1) w_9.toInt) r_9 := by
  obtain ⟨M_9, hM_9, hl⟩ := hp_M (mi := 152) (k := 3) (by decide +kernel)
  have c_9 : hp_C cst strs (D + 13) := cc _
  have b0 := xm.le_toInt
  have b1 := xm.toInt_le
  have a0_9 := xq.le_toInt
  have a1_9 := xq.toInt_le
  have go_9 : hp_F cst strs (fun r_9 : am_Q => ∃ w_9 : Int32, r_9.1 = some (.int w_9) ∧ r_9.2.2.1 = 0 ∧ r_9.2.2.2 = 0 ∧ ly_hy m_tt ly_TH r_9.2.1 ∧ ly_fr cst [7182, 8704, 8960, 9216, 9472, 45319, 60090] h0 r_9.2.1 ∧ bl_E cst h0 r_9.2.1 60090 (bl_ok xm.toInt xq.toInt sz (ly_hv cst h0 45313 xm.toInt) (ly_hv cst h0 45319 xm.toInt) (-1)) xm.toInt ∧ bxP X d y s wt ft row ns vs sz xm.toInt xq.toInt (ly_hv cst h0 45313 xm.toInt) (ly_hv cst h0 45319 xm.toInt) (-1) w_9.toInt) (D + 13) M_9 0 (lv_args 0 [.ref 16, .int xm, .int xq]) [] h0 := by
    have rng : ¬ (0 ≤ xm.toInt ∧ xm.toInt < sz ∧ ly_hv cst h0 45313 xm.toInt = some (-1) ∧ 0 ≤ xq.toInt ∧ xq.toInt ≤ 23) → ∀ (h_9' : am_H) (w_9 : Int32), w_9.toInt = -2 → ly_hy m_tt ly_TH h_9' → ly_fr cst [] h0 h_9' → h0.length ≤ h_9'.length → (fun r_9 : am_Q => ∃ w_9 : Int32, r_9.1 = some (.int w_9) ∧ r_9.2.2.1 = 0 ∧ r_9.2.2.2 = 0 ∧ ly_hy m_tt ly_TH r_9.2.1 ∧ ly_fr cst [7182, 8704, 8960, 9216, 9472, 45319, 60090] h0 r_9.2.1 ∧ bl_E cst h0 r_9.2.1 60090 (bl_ok xm.toInt xq.toInt sz (ly_hv cst h0 45313 xm.toInt) (ly_hv cst h0 45319 xm.toInt) (-1)) xm.toInt ∧ bxP X d y s wt ft row ns vs sz xm.toInt xq.toInt (ly_hv cst h0 45313 xm.toInt) (ly_hv cst h0 45319 xm.toInt) (-1) w_9.toInt) (some (.int w_9), h_9', 0, 0) := fun nk h_9' w_9 hw w1_9 w2_9 w3_9 => ⟨w_9, rfl, rfl, rfl, w1_9, hp_sub2 rfl w2_9, ⟨fun _ j_9 z_9 hz => w2_9 _ _ _ rfl hz, fun ok_9 => absurd ⟨ok_9.1, ok_9.2.1, ok_9.2.2.1, ok_9.2.2.2.1, ok_9.2.2.2.2.1⟩ nk⟩, fun _ => hw, fun ok_9 => absurd ok_9 nk⟩
    by_cases q1_9 : xm.toInt ≤ -1
    · exact bx0 c_9 hM_9 (by omega) hy xm.toInt sz xq.toInt b0 q1_9 sz0 sz1 a0_9 a1_9 ksz rfl ⟨xm, rfl, rfl⟩ ⟨xq, rfl, rfl⟩ (rng (fun k_9 => by have := k_9.1; omega))
    by_cases q2_9 : sz ≤ xm.toInt
    · exact bx1 c_9 hM_9 (by omega) hy xm.toInt sz xq.toInt (by omega) b1 sz0 sz1 a0_9 a1_9 (by omega) ksz rfl ⟨xm, rfl, rfl⟩ ⟨xq, rfl, rfl⟩ (rng (fun k_9 => by have := k_9.2.1; omega))
    have ko' := ko xm.toInt (by omega) (by omega)
    obtain ⟨su, st, k1_9, k2_9, e1_9, e2_9, e3_9, e4_9⟩ := kc xm.toInt (by omega) (by omega)
    by_cases q3_9 : su = -1
    rotate_left
    · have nk : ¬ (0 ≤ xm.toInt ∧ xm.toInt < sz ∧ ly_hv cst h0 45313 xm.toInt = some (-1) ∧ 0 ≤ xq.toInt ∧ xq.toInt ≤ 23) := fun k_9 => by
        have := k_9.2.2.1
        rw [k1_9] at this
        exact q3_9 (Option.some.inj this)
      by_cases q4_9 : su ≤ -2
      · exact bx20 c_9 hM_9 (by omega) hy xm.toInt sz xq.toInt su (by omega) (by omega) sz0 sz1 a0_9 a1_9 e1_9 q4_9 (by omega) ksz ko' k1_9 rfl ⟨xm, rfl, rfl⟩ ⟨xq, rfl, rfl⟩ (rng nk)
      · exact bx21 c_9 hM_9 (by omega) hy xm.toInt sz xq.toInt su (by omega) (by omega) sz0 sz1 a0_9 a1_9 (by omega) e2_9 (by omega) ksz ko' k1_9 rfl ⟨xm, rfl, rfl⟩ ⟨xq, rfl, rfl⟩ (rng nk)
    rw [q3_9] at k1_9
    by_cases q5_9 : xq.toInt ≤ -1
    · exact bx30 c_9 hM_9 (by omega) hy xm.toInt sz xq.toInt (by omega) (by omega) sz0 sz1 a0_9 q5_9 (by omega) ksz ko' k1_9 rfl ⟨xm, rfl, rfl⟩ ⟨xq, rfl, rfl⟩ (rng (fun k_9 => by have := k_9.2.2.2.1; omega))
    by_cases q6_9 : 24 ≤ xq.toInt
    · exact bx31 c_9 hM_9 (by omega) hy xm.toInt sz xq.toInt (by omega) (by omega) sz0 sz1 q6_9 a1_9 (by omega) ksz ko' k1_9 rfl ⟨xm, rfl, rfl⟩ ⟨xq, rfl, rfl⟩ (rng (fun k_9 => by have := k_9.2.2.2.2; omega))
    have ok_9 : 0 ≤ xm.toInt ∧ xm.toInt < sz ∧ ly_hv cst h0 45313 xm.toInt = some (-1) ∧ 0 ≤ xq.toInt ∧ xq.toInt ≤ 23 := ⟨by omega, by omega, k1_9, by omega, by omega⟩
    by_cases q7_9 : st = 0
    rotate_left
    · have ns9 : ly_hv cst h0 45319 xm.toInt ≠ some 0 := fun z_9 => by
        rw [k2_9] at z_9
        exact q7_9 (Option.some.inj z_9)
      have no4 : ∀ (h_9' : am_H) (w_9 : Int32), w_9.toInt = -4 → ly_hy m_tt ly_TH h_9' → ly_fr cst [] h0 h_9' → h0.length ≤ h_9'.length → (fun r_9 : am_Q => ∃ w_9 : Int32, r_9.1 = some (.int w_9) ∧ r_9.2.2.1 = 0 ∧ r_9.2.2.2 = 0 ∧ ly_hy m_tt ly_TH r_9.2.1 ∧ ly_fr cst [7182, 8704, 8960, 9216, 9472, 45319, 60090] h0 r_9.2.1 ∧ bl_E cst h0 r_9.2.1 60090 (bl_ok xm.toInt xq.toInt sz (ly_hv cst h0 45313 xm.toInt) (ly_hv cst h0 45319 xm.toInt) (-1)) xm.toInt ∧ bxP X d y s wt ft row ns vs sz xm.toInt xq.toInt (ly_hv cst h0 45313 xm.toInt) (ly_hv cst h0 45319 xm.toInt) (-1) w_9.toInt) (some (.int w_9), h_9', 0, 0) := fun h_9' w_9 hw w1_9 w2_9 w3_9 => ⟨w_9, rfl, rfl, rfl, w1_9, hp_sub2 rfl w2_9, ⟨fun _ j_9 z_9 hz => w2_9 _ _ _ rfl hz, fun o => absurd o.2.2.2.2.2 ns9⟩, fun z_9 => absurd ok_9 z_9, fun _ => ⟨fun _ => hw, fun z_9 => absurd z_9 ns9⟩⟩
      by_cases q8_9 : st ≤ -1
      · exact bx40 c_9 hM_9 (by omega) hy xm.toInt sz xq.toInt st (by omega) (by omega) sz0 sz1 (by omega) (by omega) e3_9 q8_9 (by omega) ksz ko' k1_9 k2_9 rfl ⟨xm, rfl, rfl⟩ ⟨xq, rfl, rfl⟩ no4
      · exact bx41 c_9 hM_9 (by omega) hy xm.toInt sz xq.toInt st (by omega) (by omega) sz0 sz1 (by omega) (by omega) (by omega) e4_9 (by omega) ksz ko' k1_9 k2_9 rfl ⟨xm, rfl, rfl⟩ ⟨xq, rfl, rfl⟩ no4
    rw [q7_9] at k2_9
    obtain ⟨kd, ky, ks_9, kw, kf, RR, RF⟩ := kk (by omega) (by omega)
    obtain ⟨mN, em⟩ : ∃ q_9 : Nat, xm.toInt = (q_9 : Int) := ⟨xm.toInt.toNat, by omega⟩
    have kd' := kd
    have ky' := ky
    have ks_9' := ks_9
    have kw' := kw
    have kf' := kf
    have RR' := RR
    have RF' := RF
    rw [em] at kd' ky' ks_9' kw' kf' RR' RF'
    have hm0 : 177 + 19 * (mN + 1) ≤ h0.length := by omega
    -- behind the verdict
    have fin_9 : ∀ (l5 : am_L) (h5 : am_H) (z0 z1 z2 : Int32) (v_9 : Int), (v_9 = 1 ∨ v_9 = 2) → (∃ n_9 u_9, nmP X 12 0 y s n_9 ∧ bdP X d y s wt ft row ns vs u_9 ∧ v_9 = if n_9 ≤ xq.toInt ∧ u_9 = 0 then 2 else 1) → z0.toInt = dy → z1.toInt = v_9 → z2.toInt = xm.toInt → ly_hy m_tt ly_TH h5 → ly_fr cst [] h0 h5 → hp_a l5 0 16 → hp_F cst strs (fun r_9 : am_Q => ∃ w_9 : Int32, r_9.1 = some (.int w_9) ∧ r_9.2.2.1 = 0 ∧ r_9.2.2.2 = 0 ∧ ly_hy m_tt ly_TH r_9.2.1 ∧ ly_fr cst [7182, 8704, 8960, 9216, 9472, 45319, 60090] h0 r_9.2.1 ∧ bl_E cst h0 r_9.2.1 60090 (bl_ok xm.toInt xq.toInt sz (ly_hv cst h0 45313 xm.toInt) (ly_hv cst h0 45319 xm.toInt) (-1)) xm.toInt ∧ bxP X d y s wt ft row ns vs sz xm.toInt xq.toInt (ly_hv cst h0 45313 xm.toInt) (ly_hv cst h0 45319 xm.toInt) (-1) w_9.toInt) (D + 13) M_9 87 l5 [.int z0, .int z1, .int z2, .ref 44] h5 := by
      intro l5 h5 z0 z1 z2 v_9 hv ex_9 f0_9 f1_9 f2_9 t1_9 F5 o0_9
      obtain ⟨r_9, hrun, a_9, r1_9, r2, r3, rhy, rfr, rE_9, ra⟩ := bc_run (xm := z2) (xv := z1) (xd := z0) (s := sz) (cc (D + 12)) (by omega) t1_9 (by omega) (by omega) sz1 (F5 _ _ _ rfl ksz) (by rw [f2_9]; exact F5 _ _ _ rfl ko') (by omega) (by omega) (by omega) (by omega)
      refine hp_call (mi := 152) (pc := 87) (tg := 63) (na := 4) (c := 28) (ci := 5) (st0 := [.int z0, .int z1, .int z2, .ref 44]) (st := []) (av := [.int z2, .int z1, .int z0]) hM_9 (by decide +kernel) t1_9 rfl rfl rfl (by decide) hrun r2 r3 ?_
      rw [r1_9]
      rw [f2_9] at rE_9
      obtain ⟨E1_9, E2⟩ := rE_9.2 trivial
      exact bxA c_9 hM_9 (by omega) rhy a_9.toInt a_9 rfl a_9.le_toInt a_9.toInt_le o0_9 (fun h7 w_9 hw y1 y2 y3 => ⟨w_9, rfl, rfl, rfl, y1, ly_fr_tr (hp_sub2 rfl F5) (ly_fr_tr rfr (hp_sub2 rfl y2)), ⟨fun z_9 => absurd ⟨ok_9.1, ok_9.2.1, ok_9.2.2.1, ok_9.2.2.2.1, ok_9.2.2.2.2, k2_9⟩ z_9, fun _ => ⟨fun z_9 hz => y2 _ _ _ rfl (E1_9 z_9 (F5 _ _ _ rfl hz)), fun j_9 z_9 hj hz => y2 _ _ _ rfl (E2 j_9 z_9 hj (F5 _ _ _ rfl hz))⟩⟩, fun z_9 => absurd ok_9 z_9, fun _ => ⟨fun z_9 => absurd k2_9 z_9, fun _ => by
        obtain ⟨n_9, u_9, x1_9, x2_9, x3⟩ := ex_9
        exact ⟨n_9, u_9, x1_9, x2_9, by rw [hw, ra, f1_9, x3]⟩⟩⟩)
    refine bx5 c_9 hM_9 (by omega) hy xm.toInt sz xq.toInt (by omega) (by omega) sz0 sz1 (by omega) (by omega) (by omega) ksz ko' k1_9 k2_9 rfl ⟨xm, rfl, rfl⟩ ⟨xq, rfl, rfl⟩ (fun l3 h3 z0 z1 z3 e0_9 e1_9' el e3_9' v1_9 v2 v3 m0_9 m1_9' m2_9 m3_9 => ?_)
    have ym : z1 = mN := by omega
    rw [ym] at el
    rw [ym]
    obtain ⟨r_9, hrun, w_9, r1_9, r2, r3, rhy, rfr, rnm⟩ := lm12_run (D := D + 12) cc (by omega) v1_9 (LC_mv I v2 rfl) x30 g12 (m := mN) (by omega) el (v2 _ _ _ rfl kd') (v2 _ _ _ rfl ky') (v2 _ _ _ rfl ks_9') d0 d1 y0 y1 s0 s1 (xk := z0) e0_9
    refine hp_call (mi := 152) (pc := 44) (tg := 51) (na := 3) (c := 28) (ci := 5) (st0 := [.int z0, .ref (16 + (177 + 19 * mN + 0)), .ref 44]) (st := [.int z3]) (av := [.ref (16 + (177 + 19 * mN + 0)), .int z0]) hM_9 (by decide +kernel) v1_9 rfl rfl rfl (Nat.le_of_ble_eq_true rfl) hrun r2 r3 ?_
    rw [r1_9]
    have F4 : ly_fr cst [] h0 r_9.2.1 := ly_fr_tr v2 rfr
    have m3_9' := hp_mlm m3_9 (hp_len2 rfr rfl)
    by_cases q9_9 : xq.toInt < w_9.toInt
    · refine bx6 c_9 hM_9 (by omega) rhy xm.toInt xq.toInt w_9.toInt dy w_9 z3 rfl e3_9' (by omega) (by omega) (by omega) (by omega) w_9.le_toInt w_9.toInt_le dy0 dy1 (by omega) (F4 _ _ _ rfl kdy) m0_9 m1_9' m2_9 m3_9' (fun l5 h5 p0_9 p1_9 p2_9 f0_9 f1_9 f2_9 t1_9 t2_9 t3_9 o0_9 => fin_9 l5 h5 p0_9 p1_9 p2_9 1 (Or.inl rfl) ?_ f0_9 f1_9 f2_9 t1_9 (ly_fr_tr F4 t2_9) o0_9)
      obtain ⟨rX', -, wX, -, -, -, -, -, bX_9⟩ := if_run (D := D) cc hy I x30 g12 P (m := mN) (by omega) hm0 kd' ky' ks_9' d0 d1 y0 y1 s0 s1 kw' kf' bw bf RR' RF'
      exact ⟨w_9.toInt, wX.toInt, rnm, bX_9, by rw [if_neg (by omega)]⟩
    refine bx7 c_9 hM_9 (by omega) rhy xm.toInt xq.toInt w_9.toInt w_9 z3 rfl e3_9' (by omega) (by omega) (by omega) (by omega) w_9.le_toInt w_9.toInt_le (by omega) m0_9 m1_9' m2_9 m3_9' (fun l5 h5 p0_9 f0_9 el5 t1_9 t2_9 t3_9 o0_9 o1 o2 o3_9 => ?_)
    have ym5 : p0_9 = mN := by omega
    rw [ym5] at el5
    rw [ym5]
    have F5 : ly_fr cst [] h0 h5 := ly_fr_tr F4 t2_9
    obtain ⟨r6, hrun6, w6_9, s1_9', s2_9', s3_9', shy, sfr, sB⟩ := if_run (D := D) cc t1_9 (LC_mv I F5 rfl) x30 g12 P (m := mN) (by omega) el5 (F5 _ _ _ rfl kd') (F5 _ _ _ rfl ky') (F5 _ _ _ rfl ks_9') d0 d1 y0 y1 s0 s1 (F5 _ _ _ rfl kw') (F5 _ _ _ rfl kf') bw bf (fun z_9 => wR_mv (RR' z_9) F5 rfl rfl) (fun z_9 => rFm_mv (RF' z_9) F5 rfl rfl rfl)
    refine hp_call (mi := 152) (pc := 55) (tg := 144) (na := 2) (c := 28) (ci := 5) (st0 := [.ref (16 + (177 + 19 * mN + 0)), .ref 44]) (st := []) (av := [.ref (16 + (177 + 19 * mN + 0))]) hM_9 (by decide +kernel) t1_9 rfl rfl rfl (by decide) hrun6 s2_9' s3_9' ?_
    rw [s1_9']
    have F6 : ly_fr cst [] h0 r6.2.1 := ly_fr_tr F5 sfr
    have o3_9' := hp_mlm o3_9 (hp_len2 sfr rfl)
    by_cases qa : w6_9.toInt = 0
    · exact bx8 c_9 hM_9 (by omega) shy xm.toInt xq.toInt dy w6_9 qa (by omega) (by omega) (by omega) (by omega) dy0 dy1 (F6 _ _ _ rfl kdy) o0_9 o1 o2 o3_9' (fun l7 h7 p0_9 p1_9 p2_9 f0_9 f1_9 f2_9 y1 y2 y3 i0_9' => fin_9 l7 h7 p0_9 p1_9 p2_9 2 (Or.inr rfl) ⟨w_9.toInt, w6_9.toInt, rnm, sB, by rw [if_pos ⟨by omega, qa⟩]⟩ f0_9 f1_9 f2_9 y1 (ly_fr_tr F6 y2) i0_9')
    have no1 : ∀ (l7 : am_L) (h7 : am_H) (p0_9 p1_9 p2_9 : Int32), p0_9.toInt = dy → p1_9.toInt = 1 → p2_9.toInt = xm.toInt → ly_hy m_tt ly_TH h7 → ly_fr cst [] r6.2.1 h7 → r6.2.1.length ≤ h7.length → hp_a l7 0 16 → hp_F cst strs (fun r_9 : am_Q => ∃ w_9 : Int32, r_9.1 = some (.int w_9) ∧ r_9.2.2.1 = 0 ∧ r_9.2.2.2 = 0 ∧ ly_hy m_tt ly_TH r_9.2.1 ∧ ly_fr cst [7182, 8704, 8960, 9216, 9472, 45319, 60090] h0 r_9.2.1 ∧ bl_E cst h0 r_9.2.1 60090 (bl_ok xm.toInt xq.toInt sz (ly_hv cst h0 45313 xm.toInt) (ly_hv cst h0 45319 xm.toInt) (-1)) xm.toInt ∧ bxP X d y s wt ft row ns vs sz xm.toInt xq.toInt (ly_hv cst h0 45313 xm.toInt) (ly_hv cst h0 45319 xm.toInt) (-1) w_9.toInt) (D + 13) M_9 87 l7 [.int p0_9, .int p1_9, .int p2_9, .ref 44] h7 := fun l7 h7 p0_9 p1_9 p2_9 f0_9 f1_9 f2_9 y1 y2 y3 i0_9' => fin_9 l7 h7 p0_9 p1_9 p2_9 1 (Or.inl rfl) ⟨w_9.toInt, w6_9.toInt, rnm, sB, by rw [if_neg (fun z_9 => qa z_9.2)]⟩ f0_9 f1_9 f2_9 y1 (ly_fr_tr F6 y2) i0_9'
    by_cases qb : w6_9.toInt ≤ -1
    · exact bx90 c_9 hM_9 (by omega) shy xm.toInt xq.toInt dy w6_9.toInt w6_9 rfl (by omega) (by omega) (by omega) (by omega) dy0 dy1 w6_9.le_toInt qb (F6 _ _ _ rfl kdy) o0_9 o1 o2 o3_9' no1
    · exact bx91 c_9 hM_9 (by omega) shy xm.toInt xq.toInt dy w6_9.toInt w6_9 rfl (by omega) (by omega) (by omega) (by omega) dy0 dy1 (by omega) w6_9.toInt_le (F6 _ _ _ rfl kdy) o0_9 o1 o2 o3_9' no1
  obtain ⟨n_9', r_9, hgo, w_9, r1_9, r2, r3, r4⟩ := go_9
  simp only [Nat.zero_add] at r2 r3
  exact ⟨r_9, Or.inr ⟨M_9, n_9', hM_9, hl, hgo⟩, w_9, r1_9, r2, r3, r4⟩
/-- bill of the reference -/
theorem by_run {cst : am_K} {strs : List Nat} {D : Nat} {h0 : am_H} (cc : ∀ d, hp_C cst strs d) (hy : ly_hy m_tt ly_TH h0) {X : List rX} (RA : rA cst h0 X) (x30 : X.length ≤ 30) (wd : ∀ a_9 (ha_9 : a_9 < X.length), wD (X[a_9]).2.2.1) (P : ∀ a_9 (ha_9 : a_9 < X.length), ra_l (X[a_9])) {xm xq : Int32} {sz dy : Int} (sz0 : 0 ≤ sz) (sz1 : sz ≤ 100) (dy0 : 0 ≤ dy) (dy1 : dy ≤ 399) (kdy : ly_hv cst h0 19977 0 = some dy) (ksz : ly_hv cst h0 20024 0 = some sz) (kc : ∀ j_9, 0 ≤ j_9 → j_9 < sz → ∃ su st, ly_hv cst h0 28416 j_9 = some su ∧ ly_hv cst h0 30464 j_9 = some st ∧ (su = 0 ∨ su = 1) ∧ -2147483648 ≤ st ∧ st ≤ 2147483647) {d y s wt ft : Int} {row ns vs : List Int} (kk : 0 ≤ xm.toInt → xm.toInt < sz → ly_hv cst h0 30208 xm.toInt = some d ∧ ly_hv cst h0 29696 xm.toInt = some y ∧ ly_hv cst h0 29184 xm.toInt = some s ∧ ly_hv cst h0 33536 xm.toInt = some wt ∧ ly_hv cst h0 33792 xm.toInt = some ft ∧ (wt = 1 → wM cst h0 xm.toInt row) ∧ (ft = 1 → rG cst h0 (2 * xm.toInt) ns vs)) (d0 : -9223372036854775808 ≤ d) (d1 : d ≤ 9223372036854775807) (y0 : -2147483648 ≤ y) (y1 : y ≤ 2147483647) (s0 : -2147483648 ≤ s) (s1 : s ≤ 2147483647) (bw : wt = 0 ∨ wt = 1) (bf : ft = 0 ∨ ft = 1) :
    ∃ r_9, am_Run cst m_cl m_tt m_P strs sx_bi (D + 14) 347 [.ref 94, .int xm, .int xq] h0 r_9 ∧ (fun r_9 : am_Q => ∃ w_9 : Int32, r_9.1 = some (.int w_9) ∧ r_9.2.2.1 = 0 ∧ r_9.2.2.2 = 0 ∧ ly_hy m_tt ly_TH r_9.2.1 ∧ ly_fr cst [20054, 28160, 30464, 35584, 35840, 60091] h0 r_9.2.1 ∧ bl_E cst h0 r_9.2.1 60091 (bl_ok xm.toInt xq.toInt sz (ly_hv cst h0 28416 xm.toInt) (ly_hv cst h0 30464 xm.toInt) 0) xm.toInt ∧ bxP X d y s wt ft row ns vs sz xm.toInt xq.toInt (ly_hv cst h0 28416 xm.toInt) (ly_hv cst h0 30464 xm.toInt) 0 w_9.toInt) r_9 := by
  obtain ⟨M_9, hM_9, hl⟩ := hp_M (mi := 347) (k := 3) (by decide +kernel)
  have c_9 : hp_C cst strs (D + 13) := cc _
  have b0 := xm.le_toInt
  have b1 := xm.toInt_le
  have a0_9 := xq.le_toInt
  have a1_9 := xq.toInt_le
  have go_9 : hp_F cst strs (fun r_9 : am_Q => ∃ w_9 : Int32, r_9.1 = some (.int w_9) ∧ r_9.2.2.1 = 0 ∧ r_9.2.2.2 = 0 ∧ ly_hy m_tt ly_TH r_9.2.1 ∧ ly_fr cst [20054, 28160, 30464, 35584, 35840, 60091] h0 r_9.2.1 ∧ bl_E cst h0 r_9.2.1 60091 (bl_ok xm.toInt xq.toInt sz (ly_hv cst h0 28416 xm.toInt) (ly_hv cst h0 30464 xm.toInt) 0) xm.toInt ∧ bxP X d y s wt ft row ns vs sz xm.toInt xq.toInt (ly_hv cst h0 28416 xm.toInt) (ly_hv cst h0 30464 xm.toInt) 0 w_9.toInt) (D + 13) M_9 0 (lv_args 0 [.ref 94, .int xm, .int xq]) [] h0 := by
    have rng : ¬ (0 ≤ xm.toInt ∧ xm.toInt < sz ∧ ly_hv cst h0 28416 xm.toInt = some 0 ∧ 0 ≤ xq.toInt ∧ xq.toInt ≤ 23) → ∀ (h_9' : am_H) (w_9 : Int32), w_9.toInt = -2 → ly_hy m_tt ly_TH h_9' → ly_fr cst [] h0 h_9' → h0.length ≤ h_9'.length → (fun r_9 : am_Q => ∃ w_9 : Int32, r_9.1 = some (.int w_9) ∧ r_9.2.2.1 = 0 ∧ r_9.2.2.2 = 0 ∧ ly_hy m_tt ly_TH r_9.2.1 ∧ ly_fr cst [20054, 28160, 30464, 35584, 35840, 60091] h0 r_9.2.1 ∧ bl_E cst h0 r_9.2.1 60091 (bl_ok xm.toInt xq.toInt sz (ly_hv cst h0 28416 xm.toInt) (ly_hv cst h0 30464 xm.toInt) 0) xm.toInt ∧ bxP X d y s wt ft row ns vs sz xm.toInt xq.toInt (ly_hv cst h0 28416 xm.toInt) (ly_hv cst h0 30464 xm.toInt) 0 w_9.toInt) (some (.int w_9), h_9', 0, 0) := fun nk h_9' w_9 hw w1_9 w2_9 w3_9 => ⟨w_9, rfl, rfl, rfl, w1_9, hp_sub2 rfl w2_9, ⟨fun _ j_9 z_9 hz => w2_9 _ _ _ rfl hz, fun ok_9 => absurd ⟨ok_9.1, ok_9.2.1, ok_9.2.2.1, ok_9.2.2.2.1, ok_9.2.2.2.2.1⟩ nk⟩, fun _ => hw, fun ok_9 => absurd ok_9 nk⟩
    by_cases q1_9 : xm.toInt ≤ -1
    · exact by0 c_9 hM_9 (by omega) hy xm.toInt sz xq.toInt b0 q1_9 sz0 sz1 a0_9 a1_9 ksz rfl ⟨xm, rfl, rfl⟩ ⟨xq, rfl, rfl⟩ (rng (fun k_9 => by have := k_9.1; omega))
    by_cases q2_9 : sz ≤ xm.toInt
    · exact by1 c_9 hM_9 (by omega) hy xm.toInt sz xq.toInt (by omega) b1 sz0 sz1 a0_9 a1_9 (by omega) ksz rfl ⟨xm, rfl, rfl⟩ ⟨xq, rfl, rfl⟩ (rng (fun k_9 => by have := k_9.2.1; omega))
    obtain ⟨su, st, k1_9, k2_9, e1_9, e3_9, e4_9⟩ := kc xm.toInt (by omega) (by omega)
    rcases e1_9 with e1_9 | e1_9
    rotate_left
    · rw [e1_9] at k1_9
      exact by2 c_9 hM_9 (by omega) hy xm.toInt sz xq.toInt (by omega) (by omega) sz0 sz1 a0_9 a1_9 (by omega) ksz k1_9 rfl ⟨xm, rfl, rfl⟩ ⟨xq, rfl, rfl⟩ (rng (fun k_9 => by
        have := k_9.2.2.1
        rw [k1_9] at this
        exact absurd (Option.some.inj this) (by decide)))
    rw [e1_9] at k1_9
    by_cases q5_9 : xq.toInt ≤ -1
    · exact by30 c_9 hM_9 (by omega) hy xm.toInt sz xq.toInt (by omega) (by omega) sz0 sz1 a0_9 q5_9 (by omega) ksz k1_9 rfl ⟨xm, rfl, rfl⟩ ⟨xq, rfl, rfl⟩ (rng (fun k_9 => by have := k_9.2.2.2.1; omega))
    by_cases q6_9 : 24 ≤ xq.toInt
    · exact by31 c_9 hM_9 (by omega) hy xm.toInt sz xq.toInt (by omega) (by omega) sz0 sz1 q6_9 a1_9 (by omega) ksz k1_9 rfl ⟨xm, rfl, rfl⟩ ⟨xq, rfl, rfl⟩ (rng (fun k_9 => by have := k_9.2.2.2.2; omega))
    have ok_9 : 0 ≤ xm.toInt ∧ xm.toInt < sz ∧ ly_hv cst h0 28416 xm.toInt = some 0 ∧ 0 ≤ xq.toInt ∧ xq.toInt ≤ 23 := ⟨by omega, by omega, k1_9, by omega, by omega⟩
    by_cases q7_9 : st = 0
    rotate_left
    · have ns9 : ly_hv cst h0 30464 xm.toInt ≠ some 0 := fun z_9 => by
        rw [k2_9] at z_9
        exact q7_9 (Option.some.inj z_9)
      have no4 : ∀ (h_9' : am_H) (w_9 : Int32), w_9.toInt = -4 → ly_hy m_tt ly_TH h_9' → ly_fr cst [] h0 h_9' → h0.length ≤ h_9'.length → (fun r_9 : am_Q => ∃ w_9 : Int32, r_9.1 = some (.int w_9) ∧ r_9.2.2.1 = 0 ∧ r_9.2.2.2 = 0 ∧ ly_hy m_tt ly_TH r_9.2.1 ∧ ly_fr cst [20054, 28160, 30464, 35584, 35840, 60091] h0 r_9.2.1 ∧ bl_E cst h0 r_9.2.1 60091 (bl_ok xm.toInt xq.toInt sz (ly_hv cst h0 28416 xm.toInt) (ly_hv cst h0 30464 xm.toInt) 0) xm.toInt ∧ bxP X d y s wt ft row ns vs sz xm.toInt xq.toInt (ly_hv cst h0 28416 xm.toInt) (ly_hv cst h0 30464 xm.toInt) 0 w_9.toInt) (some (.int w_9), h_9', 0, 0) := fun h_9' w_9 hw w1_9 w2_9 w3_9 => ⟨w_9, rfl, rfl, rfl, w1_9, hp_sub2 rfl w2_9, ⟨fun _ j_9 z_9 hz => w2_9 _ _ _ rfl hz, fun o => absurd o.2.2.2.2.2 ns9⟩, fun z_9 => absurd ok_9 z_9, fun _ => ⟨fun _ => hw, fun z_9 => absurd z_9 ns9⟩⟩
      by_cases q8_9 : st ≤ -1
      · exact by40 c_9 hM_9 (by omega) hy xm.toInt sz xq.toInt st (by omega) (by omega) sz0 sz1 (by omega) (by omega) e3_9 q8_9 (by omega) ksz k1_9 k2_9 rfl ⟨xm, rfl, rfl⟩ ⟨xq, rfl, rfl⟩ no4
      · exact by41 c_9 hM_9 (by omega) hy xm.toInt sz xq.toInt st (by omega) (by omega) sz0 sz1 (by omega) (by omega) (by omega) e4_9 (by omega) ksz k1_9 k2_9 rfl ⟨xm, rfl, rfl⟩ ⟨xq, rfl, rfl⟩ no4
    rw [q7_9] at k2_9
    obtain ⟨kd, ky, ks_9, kw, kf, RR, RF⟩ := kk (by omega) (by omega)
    obtain ⟨mN, em⟩ : ∃ q_9 : Nat, xm.toInt = (q_9 : Int) := ⟨xm.toInt.toNat, by omega⟩
    rw [em] at kd ky ks_9 kw kf RR RF
    have fin_9 : ∀ (l5 : am_L) (h5 : am_H) (z0 z1 : Int32) (v_9 : Int), (v_9 = 1 ∨ v_9 = 2) → (∃ n_9 u_9, nmP X 12 0 y s n_9 ∧ bdP X d y s wt ft row ns vs u_9 ∧ v_9 = if n_9 ≤ xq.toInt ∧ u_9 = 0 then 2 else 1) → z0.toInt = v_9 → z1.toInt = xm.toInt → ly_hy m_tt ly_TH h5 → ly_fr cst [28160] h0 h5 → hp_a l5 0 94 → hp_i l5 1 xm.toInt → hp_F cst strs (fun r_9 : am_Q => ∃ w_9 : Int32, r_9.1 = some (.int w_9) ∧ r_9.2.2.1 = 0 ∧ r_9.2.2.2 = 0 ∧ ly_hy m_tt ly_TH r_9.2.1 ∧ ly_fr cst [20054, 28160, 30464, 35584, 35840, 60091] h0 r_9.2.1 ∧ bl_E cst h0 r_9.2.1 60091 (bl_ok xm.toInt xq.toInt sz (ly_hv cst h0 28416 xm.toInt) (ly_hv cst h0 30464 xm.toInt) 0) xm.toInt ∧ bxP X d y s wt ft row ns vs sz xm.toInt xq.toInt (ly_hv cst h0 28416 xm.toInt) (ly_hv cst h0 30464 xm.toInt) 0 w_9.toInt) (D + 13) M_9 60 l5 [.int z0, .int z1, .ref 94] h5 := by
      intro l5 h5 z0 z1 v_9 hv ex_9 f0_9 f1_9 t1_9 F5 o0_9 o1
      obtain ⟨r_9, hrun, r1_9, r2, r3, rhy, rfr, rE_9⟩ := bn_run (xm := z1) (xv := z0) (d := dy) (cc (D + 12)) (by omega) t1_9 (by omega) (by omega) (by omega) (by omega) dy0 dy1 (F5 _ _ _ rfl kdy)
      refine hp_call (mi := 347) (pc := 60) (tg := 290) (na := 3) (c := 78) (ci := 12) (st0 := [.int z0, .int z1, .ref 94]) (st := []) (av := [.int z1, .int z0]) hM_9 (by decide +kernel) t1_9 rfl rfl rfl (by decide) hrun r2 r3 ?_
      rw [r1_9]
      rw [f1_9] at rE_9
      have E0_9 := rE_9.1
      have E1_9 := rE_9.2.1 (by omega)
      have E2 := rE_9.2.2
      exact byA c_9 hM_9 (by omega) rhy xm.toInt z0.toInt (by omega) (by omega) z0.le_toInt z0.toInt_le E0_9 o0_9 o1 (fun h7 w_9 hw y1 y2 y3 => ⟨w_9, rfl, rfl, rfl, y1, ly_fr_tr (hp_sub2 rfl F5) (ly_fr_tr (hp_sub2 rfl rfr) (hp_sub2 rfl y2)), ⟨fun z_9 => absurd ⟨ok_9.1, ok_9.2.1, ok_9.2.2.1, ok_9.2.2.2.1, ok_9.2.2.2.2, k2_9⟩ z_9, fun _ => ⟨fun z_9 hz => y2 _ _ _ rfl (E1_9 z_9 (F5 _ _ _ rfl hz)), fun j_9 z_9 hj hz => y2 _ _ _ rfl (E2 j_9 z_9 hj (F5 _ _ _ rfl hz))⟩⟩, fun z_9 => absurd ok_9 z_9, fun _ => ⟨fun z_9 => absurd k2_9 z_9, fun _ => by
        obtain ⟨n_9, u_9, x1_9, x2_9, x3⟩ := ex_9
        exact ⟨n_9, u_9, x1_9, x2_9, by rw [hw, f0_9, x3]⟩⟩⟩)
    refine by5 c_9 hM_9 (by omega) hy xm.toInt sz xq.toInt (by omega) (by omega) sz0 sz1 (by omega) (by omega) (by omega) ksz k1_9 k2_9 rfl ⟨xm, rfl, rfl⟩ ⟨xq, rfl, rfl⟩ (fun l3 h3 z0 z2 e0_9 e2_9 v1_9 v2 v3 m0_9 m1_9' m2_9 => ?_)
    have RA3 : rA cst h3 X := rA_k RA (gk_fr v2 rfl rfl) (v2 _ _ _ rfl RA.1)
    obtain ⟨r6, hrun6, w6_9, s1_9', s2_9', s3_9', shy, sfr, sB⟩ := bko_run (D := D) cc v1_9 RA3 x30 wd P (m := mN) (by omega) (v2 _ _ _ rfl kd) (v2 _ _ _ rfl ky) (v2 _ _ _ rfl ks_9) d0 d1 y0 y1 s0 s1 (v2 _ _ _ rfl kw) (v2 _ _ _ rfl kf) bw bf (fun z_9 => wM_mv (RR z_9) v2 rfl rfl) (fun z_9 => rG_mv (RF z_9) v2 rfl rfl rfl) (xm := z0) (by rw [e0_9, em])
    refine hp_call (mi := 347) (pc := 37) (tg := 343) (na := 2) (c := 78) (ci := 12) (st0 := [.int z0, .ref 94]) (st := [.int z2, .ref 94]) (av := [.int z0]) hM_9 (by decide +kernel) v1_9 rfl rfl rfl (Nat.le_of_ble_eq_true rfl) hrun6 s2_9' s3_9' ?_
    rw [s1_9']
    have F6 : ly_fr cst [28160] h0 r6.2.1 := ly_fr_tr (hp_sub2 rfl v2) sfr
    have RA6 : rA cst r6.2.1 X := rA_k RA (gk_fr F6 rfl rfl) (F6 _ _ _ rfl RA.1)
    by_cases qa : w6_9.toInt = 0
    rotate_left
    · have no1 : ∀ (l7 : am_L) (h7 : am_H) (p0_9 p1_9 : Int32), p0_9.toInt = 1 → p1_9.toInt = xm.toInt → ly_hy m_tt ly_TH h7 → ly_fr cst [] r6.2.1 h7 → r6.2.1.length ≤ h7.length → hp_a l7 0 94 → hp_i l7 1 xm.toInt → hp_F cst strs (fun r_9 : am_Q => ∃ w_9 : Int32, r_9.1 = some (.int w_9) ∧ r_9.2.2.1 = 0 ∧ r_9.2.2.2 = 0 ∧ ly_hy m_tt ly_TH r_9.2.1 ∧ ly_fr cst [20054, 28160, 30464, 35584, 35840, 60091] h0 r_9.2.1 ∧ bl_E cst h0 r_9.2.1 60091 (bl_ok xm.toInt xq.toInt sz (ly_hv cst h0 28416 xm.toInt) (ly_hv cst h0 30464 xm.toInt) 0) xm.toInt ∧ bxP X d y s wt ft row ns vs sz xm.toInt xq.toInt (ly_hv cst h0 28416 xm.toInt) (ly_hv cst h0 30464 xm.toInt) 0 w_9.toInt) (D + 13) M_9 60 l7 [.int p0_9, .int p1_9, .ref 94] h7 := fun l7 h7 p0_9 p1_9 f0_9 f1_9 y1' y2' y3' i0_9' i1_9' => by
        have ez : ∃ xz : Int64, xz.toInt = 0 := ⟨0, rfl⟩
        have ek : ∃ xk : Int32, xk.toInt = 12 := ⟨12, rfl⟩
        obtain ⟨xz, ez⟩ := ez
        obtain ⟨xk, ek⟩ := ek
        obtain ⟨rT, -, wT, -, -, -, -, -, nT⟩ := tl12_run (D := D + 12) cc (by omega) hy RA x30 wd (m := mN) (by omega) kd ky ks_9 d0 d1 y0 y1 s0 s1 (xk := xk) (xz := xz) (xm := xm) ek ez em
        exact fin_9 l7 h7 p0_9 p1_9 1 (Or.inl rfl) ⟨wT.toInt, w6_9.toInt, nT, sB, by rw [if_neg (fun z_9 => qa z_9.2)]⟩ f0_9 f1_9 y1' (ly_fr_tr F6 (hp_sub2 rfl y2')) i0_9' i1_9'
      by_cases qb : w6_9.toInt ≤ -1
      · exact by60 c_9 hM_9 (by omega) shy xm.toInt xq.toInt w6_9.toInt w6_9 z2 rfl e2_9 (by omega) (by omega) (by omega) (by omega) w6_9.le_toInt qb m0_9 m1_9' m2_9 no1
      · exact by61 c_9 hM_9 (by omega) shy xm.toInt xq.toInt w6_9.toInt w6_9 z2 rfl e2_9 (by omega) (by omega) (by omega) (by omega) (by omega) w6_9.toInt_le m0_9 m1_9' m2_9 no1
    refine by7 c_9 hM_9 (by omega) shy xm.toInt xq.toInt w6_9 z2 qa e2_9 (by omega) (by omega) (by omega) (by omega) m0_9 m1_9' m2_9 (fun l5 h5 p0_9 p1_9 p2_9 p4_9 p5_9 f0_9 f1_9 f2_9 f4_9 f5_9 t1_9 t2_9 t3_9 o0_9 o1 o2 => ?_)
    have F7 : ly_fr cst [28160] h0 h5 := ly_fr_tr F6 (hp_sub2 rfl t2_9)
    have RA7 : rA cst h5 X := rA_k RA (gk_fr F7 rfl rfl) (F7 _ _ _ rfl RA.1)
    obtain ⟨r8, hrun8, w8, x1_9', x2_9', x3', xhy, xfr, xN_9⟩ := tl12_run (D := D + 12) cc (by omega) t1_9 RA7 x30 wd (m := mN) (by omega) (F7 _ _ _ rfl kd) (F7 _ _ _ rfl ky) (F7 _ _ _ rfl ks_9) d0 d1 y0 y1 s0 s1 (xk := p2_9) (xz := p1_9) (xm := p0_9) f2_9 f1_9 (by rw [f0_9, em])
    refine hp_call (mi := 347) (pc := 49) (tg := 282) (na := 4) (c := 78) (ci := 12) (st0 := [.int p0_9, .long p1_9, .int p2_9, .ref 94]) (st := [.int p4_9, .int p5_9, .ref 94]) (av := [.int p2_9, .long p1_9, .int p0_9]) hM_9 (by decide +kernel) t1_9 rfl rfl rfl (Nat.le_of_ble_eq_true rfl) hrun8 x2_9' x3' ?_
    rw [x1_9']
    have F8 : ly_fr cst [28160] h0 r8.2.1 := ly_fr_tr F7 (hp_sub2 rfl xfr)
    by_cases q9_9 : xq.toInt < w8.toInt
    · exact by8 c_9 hM_9 (by omega) xhy xm.toInt xq.toInt w8.toInt w8 p4_9 p5_9 rfl f4_9 f5_9 (by omega) (by omega) (by omega) (by omega) w8.le_toInt w8.toInt_le (by omega) o0_9 o1 o2 (fun l7 h7 z4 z5 g0 g1 y1' y2' y3' i0_9' i1_9' => fin_9 l7 h7 z4 z5 1 (Or.inl rfl) ⟨w8.toInt, w6_9.toInt, xN_9, sB, by rw [if_neg (by omega)]⟩ g0 g1 y1' (ly_fr_tr F8 (hp_sub2 rfl y2')) i0_9' i1_9')
    · exact by9 c_9 hM_9 (by omega) xhy xm.toInt xq.toInt w8.toInt w8 p4_9 p5_9 rfl f4_9 f5_9 (by omega) (by omega) (by omega) (by omega) w8.le_toInt w8.toInt_le (by omega) o0_9 o1 o2 (fun l7 h7 z4 z5 g0 g1 y1' y2' y3' i0_9' i1_9' => fin_9 l7 h7 z4 z5 2 (Or.inr rfl) ⟨w8.toInt, w6_9.toInt, xN_9, sB, by rw [if_pos ⟨by omega, qa⟩]⟩ g0 g1 y1' (ly_fr_tr F8 (hp_sub2 rfl y2')) i0_9' i1_9')
  obtain ⟨n_9', r_9, hgo, w_9, r1_9, r2, r3, r4⟩ := go_9
  simp only [Nat.zero_add] at r2 r3
  exact ⟨r_9, Or.inr ⟨M_9, n_9', hM_9, hl, hgo⟩, w_9, r1_9, r2, r3, r4⟩

