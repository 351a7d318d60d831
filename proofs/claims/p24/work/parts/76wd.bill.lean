/-! PRINTED by wip/p2/hp_bill.py: bill of class and reference, as to state 0 -/
theorem bl0_k : hq_chk [139] 152 0 3 [(0, (-2147483648), (-1)), (1, 0, 100), (2, (-2147483648), 2147483647)] [] [(0, .inr (.inr (.inl (some 16)))), (1, .inl (0, [(0, 1)])), (2, .inl (0, [(2, 1)]))] [] [(7170, (0, []), (0, [(1, 1)]))] [] 30 [] [([], 3, [(0, (-2147483648), (-1)), (1, 0, 100), (2, (-2147483648), 2147483647)], [], [], [.inl ((-2), [])], [])] = true := by decide +kernel
theorem bl0 {cst : am_K} {strs : List Nat} {Φ : am_Q → Prop} {D : Nat} {M : am_M} {h : am_H} {l : am_L} (c : hp_C cst strs D) (hM : m_P[152]? = some M) (hD : (30 : Int) ≤ (D : Int) + 1) (hy : ly_hy m_tt ly_TH h) (m s q : Int) (b0 : (-2147483648) ≤ m) (t0 : m ≤ (-1)) (b1 : 0 ≤ s) (t1 : s ≤ 100) (b2 : (-2147483648) ≤ q) (t2 : q ≤ 2147483647) (k0 : ly_hv cst h 7170 0 = some (s)) (l0 : hp_a l 0 16) (l1 : hp_i l 1 (m)) (l2 : hp_i l 2 (q)) (r0 : ∀ (h' : am_H) (y0 : Int32), y0.toInt = (-2) → ly_hy m_tt ly_TH h' → ly_fr cst [] h h' → h.length ≤ h'.length → Φ (some (.int y0), h', 0, 0)) : hp_F cst strs Φ D M 0 l [] h := by
  refine hq_arc c hM bl0_k hD [m, s, q] rfl hy (hp_Bc (z := m) rfl b0 t0 (hp_Bc (z := s) rfl b1 t1 (hp_Bc (z := q) rfl b2 t2 hp_Bn))) hp_Fn (hp_Kc (zi := (0 + 0)) (zv := (0 + (1 * s + 0))) k0 rfl rfl (by omega) (by omega) hp_Kn) (hp_La l0 (hp_Li (z := (0 + (1 * m + 0))) l1 rfl (by omega) (hp_Li (z := (0 + (1 * q + 0))) l2 rfl (by omega) hp_Ln))) trivial ?_ ?_
  · intro p_9 hp ys l' st' h' hys a1_9 a2 a3 gZ gL gS
    cases hp
  · intro p_9 hp ys v_9 h' hys a1_9 a2 a3 gZ gS
    rcases List.mem_cons.mp hp with rfl | hp
    · obtain rfl := hp_y0 hys
      cases v_9 with
      | none => cases gS
      | some wz =>
        obtain ⟨y0, t0, s0_9, q0, -⟩ := hp_gSi (z := ((-2) + 0)) gS rfl
        cases s0_9
        exact r0 h' y0 (by omega) a1_9 a2 a3
    cases hp
theorem bl1_k : hq_chk [139] 152 0 3 [(0, 0, 2147483647), (1, 0, 100), (2, (-2147483648), 2147483647)] [(0, [(0, 1), (1, (-1))])] [(0, .inr (.inr (.inl (some 16)))), (1, .inl (0, [(0, 1)])), (2, .inl (0, [(2, 1)]))] [] [(7170, (0, []), (0, [(1, 1)]))] [] 30 [] [([], 3, [(0, 0, 2147483647), (1, 0, 100), (2, (-2147483648), 2147483647)], [], [], [.inl ((-2), [])], [])] = true := by decide +kernel
theorem bl1 {cst : am_K} {strs : List Nat} {Φ : am_Q → Prop} {D : Nat} {M : am_M} {h : am_H} {l : am_L} (c : hp_C cst strs D) (hM : m_P[152]? = some M) (hD : (30 : Int) ≤ (D : Int) + 1) (hy : ly_hy m_tt ly_TH h) (m s q : Int) (b0 : 0 ≤ m) (t0 : m ≤ 2147483647) (b1 : 0 ≤ s) (t1 : s ≤ 100) (b2 : (-2147483648) ≤ q) (t2 : q ≤ 2147483647) (f0 : 0 ≤ (m - s)) (k0 : ly_hv cst h 7170 0 = some (s)) (l0 : hp_a l 0 16) (l1 : hp_i l 1 (m)) (l2 : hp_i l 2 (q)) (r0 : ∀ (h' : am_H) (y0 : Int32), y0.toInt = (-2) → ly_hy m_tt ly_TH h' → ly_fr cst [] h h' → h.length ≤ h'.length → Φ (some (.int y0), h', 0, 0)) : hp_F cst strs Φ D M 0 l [] h := by
  refine hq_arc c hM bl1_k hD [m, s, q] rfl hy (hp_Bc (z := m) rfl b0 t0 (hp_Bc (z := s) rfl b1 t1 (hp_Bc (z := q) rfl b2 t2 hp_Bn))) (hp_Fc (z := (0 + (1 * m + ((-1) * s + 0)))) rfl (by omega) hp_Fn) (hp_Kc (zi := (0 + 0)) (zv := (0 + (1 * s + 0))) k0 rfl rfl (by omega) (by omega) hp_Kn) (hp_La l0 (hp_Li (z := (0 + (1 * m + 0))) l1 rfl (by omega) (hp_Li (z := (0 + (1 * q + 0))) l2 rfl (by omega) hp_Ln))) trivial ?_ ?_
  · intro p_9 hp ys l' st' h' hys a1_9 a2 a3 gZ gL gS
    cases hp
  · intro p_9 hp ys v_9 h' hys a1_9 a2 a3 gZ gS
    rcases List.mem_cons.mp hp with rfl | hp
    · obtain rfl := hp_y0 hys
      cases v_9 with
      | none => cases gS
      | some wz =>
        obtain ⟨y0, t0, s0_9, q0, -⟩ := hp_gSi (z := ((-2) + 0)) gS rfl
        cases s0_9
        exact r0 h' y0 (by omega) a1_9 a2 a3
    cases hp
theorem bl20_k : hq_chk [139] 152 0 4 [(0, 0, 99), (1, 0, 100), (2, (-2147483648), 2147483647), (3, (-2147483648), (-2))] [((-1), [(0, (-1)), (1, 1)])] [(0, .inr (.inr (.inl (some 16)))), (1, .inl (0, [(0, 1)])), (2, .inl (0, [(2, 1)]))] [] [(7170, (0, []), (0, [(1, 1)])), (7424, (0, [(0, 1)]), (1, [])), (45313, (0, [(0, 1)]), (0, [(3, 1)]))] [] 30 [] [([], 4, [(0, 0, 99), (1, 0, 100), (2, (-2147483648), 2147483647), (3, (-2147483648), (-2))], [], [], [.inl ((-2), [])], [])] = true := by decide +kernel
theorem bl20 {cst : am_K} {strs : List Nat} {Φ : am_Q → Prop} {D : Nat} {M : am_M} {h : am_H} {l : am_L} (c : hp_C cst strs D) (hM : m_P[152]? = some M) (hD : (30 : Int) ≤ (D : Int) + 1) (hy : ly_hy m_tt ly_TH h) (m s q u : Int) (b0 : 0 ≤ m) (t0 : m ≤ 99) (b1 : 0 ≤ s) (t1 : s ≤ 100) (b2 : (-2147483648) ≤ q) (t2 : q ≤ 2147483647) (b3 : (-2147483648) ≤ u) (t3 : u ≤ (-2)) (f0 : 0 ≤ (s - m - 1)) (k0 : ly_hv cst h 7170 0 = some (s)) (k1 : ly_hv cst h 7424 (m) = some 1) (k2 : ly_hv cst h 45313 (m) = some (u)) (l0 : hp_a l 0 16) (l1 : hp_i l 1 (m)) (l2 : hp_i l 2 (q)) (r0 : ∀ (h' : am_H) (y0 : Int32), y0.toInt = (-2) → ly_hy m_tt ly_TH h' → ly_fr cst [] h h' → h.length ≤ h'.length → Φ (some (.int y0), h', 0, 0)) : hp_F cst strs Φ D M 0 l [] h := by
  refine hq_arc c hM bl20_k hD [m, s, q, u] rfl hy (hp_Bc (z := m) rfl b0 t0 (hp_Bc (z := s) rfl b1 t1 (hp_Bc (z := q) rfl b2 t2 (hp_Bc (z := u) rfl b3 t3 hp_Bn)))) (hp_Fc (z := ((-1) + ((-1) * m + (1 * s + 0)))) rfl (by omega) hp_Fn) (hp_Kc (zi := (0 + 0)) (zv := (0 + (1 * s + 0))) k0 rfl rfl (by omega) (by omega) (hp_Kc (zi := (0 + (1 * m + 0))) (zv := (1 + 0)) k1 rfl rfl (by omega) (by omega) (hp_Kc (zi := (0 + (1 * m + 0))) (zv := (0 + (1 * u + 0))) k2 rfl rfl (by omega) (by omega) hp_Kn))) (hp_La l0 (hp_Li (z := (0 + (1 * m + 0))) l1 rfl (by omega) (hp_Li (z := (0 + (1 * q + 0))) l2 rfl (by omega) hp_Ln))) trivial ?_ ?_
  · intro p_9 hp ys l' st' h' hys a1_9 a2 a3 gZ gL gS
    cases hp
  · intro p_9 hp ys v_9 h' hys a1_9 a2 a3 gZ gS
    rcases List.mem_cons.mp hp with rfl | hp
    · obtain rfl := hp_y0 hys
      cases v_9 with
      | none => cases gS
      | some wz =>
        obtain ⟨y0, t0, s0_9, q0, -⟩ := hp_gSi (z := ((-2) + 0)) gS rfl
        cases s0_9
        exact r0 h' y0 (by omega) a1_9 a2 a3
    cases hp
theorem bl21_k : hq_chk [139] 152 0 4 [(0, 0, 99), (1, 0, 100), (2, (-2147483648), 2147483647), (3, 0, 2147483647)] [((-1), [(0, (-1)), (1, 1)])] [(0, .inr (.inr (.inl (some 16)))), (1, .inl (0, [(0, 1)])), (2, .inl (0, [(2, 1)]))] [] [(7170, (0, []), (0, [(1, 1)])), (7424, (0, [(0, 1)]), (1, [])), (45313, (0, [(0, 1)]), (0, [(3, 1)]))] [] 30 [] [([], 4, [(0, 0, 99), (1, 0, 100), (2, (-2147483648), 2147483647), (3, 0, 2147483647)], [], [], [.inl ((-2), [])], [])] = true := by decide +kernel
theorem bl21 {cst : am_K} {strs : List Nat} {Φ : am_Q → Prop} {D : Nat} {M : am_M} {h : am_H} {l : am_L} (c : hp_C cst strs D) (hM : m_P[152]? = some M) (hD : (30 : Int) ≤ (D : Int) + 1) (hy : ly_hy m_tt ly_TH h) (m s q u : Int) (b0 : 0 ≤ m) (t0 : m ≤ 99) (b1 : 0 ≤ s) (t1 : s ≤ 100) (b2 : (-2147483648) ≤ q) (t2 : q ≤ 2147483647) (b3 : 0 ≤ u) (t3 : u ≤ 2147483647) (f0 : 0 ≤ (s - m - 1)) (k0 : ly_hv cst h 7170 0 = some (s)) (k1 : ly_hv cst h 7424 (m) = some 1) (k2 : ly_hv cst h 45313 (m) = some (u)) (l0 : hp_a l 0 16) (l1 : hp_i l 1 (m)) (l2 : hp_i l 2 (q)) (r0 : ∀ (h' : am_H) (y0 : Int32), y0.toInt = (-2) → ly_hy m_tt ly_TH h' → ly_fr cst [] h h' → h.length ≤ h'.length → Φ (some (.int y0), h', 0, 0)) : hp_F cst strs Φ D M 0 l [] h := by
  refine hq_arc c hM bl21_k hD [m, s, q, u] rfl hy (hp_Bc (z := m) rfl b0 t0 (hp_Bc (z := s) rfl b1 t1 (hp_Bc (z := q) rfl b2 t2 (hp_Bc (z := u) rfl b3 t3 hp_Bn)))) (hp_Fc (z := ((-1) + ((-1) * m + (1 * s + 0)))) rfl (by omega) hp_Fn) (hp_Kc (zi := (0 + 0)) (zv := (0 + (1 * s + 0))) k0 rfl rfl (by omega) (by omega) (hp_Kc (zi := (0 + (1 * m + 0))) (zv := (1 + 0)) k1 rfl rfl (by omega) (by omega) (hp_Kc (zi := (0 + (1 * m + 0))) (zv := (0 + (1 * u + 0))) k2 rfl rfl (by omega) (by omega) hp_Kn))) (hp_La l0 (hp_Li (z := (0 + (1 * m + 0))) l1 rfl (by omega) (hp_Li (z := (0 + (1 * q + 0))) l2 rfl (by omega) hp_Ln))) trivial ?_ ?_
  · intro p_9 hp ys l' st' h' hys a1_9 a2 a3 gZ gL gS
    cases hp
  · intro p_9 hp ys v_9 h' hys a1_9 a2 a3 gZ gS
    rcases List.mem_cons.mp hp with rfl | hp
    · obtain rfl := hp_y0 hys
      cases v_9 with
      | none => cases gS
      | some wz =>
        obtain ⟨y0, t0, s0_9, q0, -⟩ := hp_gSi (z := ((-2) + 0)) gS rfl
        cases s0_9
        exact r0 h' y0 (by omega) a1_9 a2 a3
    cases hp
theorem bl30_k : hq_chk [139] 152 0 3 [(0, 0, 99), (1, 0, 100), (2, (-2147483648), (-1))] [((-1), [(0, (-1)), (1, 1)])] [(0, .inr (.inr (.inl (some 16)))), (1, .inl (0, [(0, 1)])), (2, .inl (0, [(2, 1)]))] [] [(7170, (0, []), (0, [(1, 1)])), (7424, (0, [(0, 1)]), (1, [])), (45313, (0, [(0, 1)]), ((-1), []))] [] 30 [] [([], 3, [(0, 0, 99), (1, 0, 100), (2, (-2147483648), (-1))], [], [], [.inl ((-2), [])], [])] = true := by decide +kernel
theorem bl30 {cst : am_K} {strs : List Nat} {Φ : am_Q → Prop} {D : Nat} {M : am_M} {h : am_H} {l : am_L} (c : hp_C cst strs D) (hM : m_P[152]? = some M) (hD : (30 : Int) ≤ (D : Int) + 1) (hy : ly_hy m_tt ly_TH h) (m s q : Int) (b0 : 0 ≤ m) (t0 : m ≤ 99) (b1 : 0 ≤ s) (t1 : s ≤ 100) (b2 : (-2147483648) ≤ q) (t2 : q ≤ (-1)) (f0 : 0 ≤ (s - m - 1)) (k0 : ly_hv cst h 7170 0 = some (s)) (k1 : ly_hv cst h 7424 (m) = some 1) (k2 : ly_hv cst h 45313 (m) = some (-1)) (l0 : hp_a l 0 16) (l1 : hp_i l 1 (m)) (l2 : hp_i l 2 (q)) (r0 : ∀ (h' : am_H) (y0 : Int32), y0.toInt = (-2) → ly_hy m_tt ly_TH h' → ly_fr cst [] h h' → h.length ≤ h'.length → Φ (some (.int y0), h', 0, 0)) : hp_F cst strs Φ D M 0 l [] h := by
  refine hq_arc c hM bl30_k hD [m, s, q] rfl hy (hp_Bc (z := m) rfl b0 t0 (hp_Bc (z := s) rfl b1 t1 (hp_Bc (z := q) rfl b2 t2 hp_Bn))) (hp_Fc (z := ((-1) + ((-1) * m + (1 * s + 0)))) rfl (by omega) hp_Fn) (hp_Kc (zi := (0 + 0)) (zv := (0 + (1 * s + 0))) k0 rfl rfl (by omega) (by omega) (hp_Kc (zi := (0 + (1 * m + 0))) (zv := (1 + 0)) k1 rfl rfl (by omega) (by omega) (hp_Kc (zi := (0 + (1 * m + 0))) (zv := ((-1) + 0)) k2 rfl rfl (by omega) (by omega) hp_Kn))) (hp_La l0 (hp_Li (z := (0 + (1 * m + 0))) l1 rfl (by omega) (hp_Li (z := (0 + (1 * q + 0))) l2 rfl (by omega) hp_Ln))) trivial ?_ ?_
  · intro p_9 hp ys l' st' h' hys a1_9 a2 a3 gZ gL gS
    cases hp
  · intro p_9 hp ys v_9 h' hys a1_9 a2 a3 gZ gS
    rcases List.mem_cons.mp hp with rfl | hp
    · obtain rfl := hp_y0 hys
      cases v_9 with
      | none => cases gS
      | some wz =>
        obtain ⟨y0, t0, s0_9, q0, -⟩ := hp_gSi (z := ((-2) + 0)) gS rfl
        cases s0_9
        exact r0 h' y0 (by omega) a1_9 a2 a3
    cases hp
theorem bl31_k : hq_chk [139] 152 0 3 [(0, 0, 99), (1, 0, 100), (2, 24, 2147483647)] [((-1), [(0, (-1)), (1, 1)])] [(0, .inr (.inr (.inl (some 16)))), (1, .inl (0, [(0, 1)])), (2, .inl (0, [(2, 1)]))] [] [(7170, (0, []), (0, [(1, 1)])), (7424, (0, [(0, 1)]), (1, [])), (45313, (0, [(0, 1)]), ((-1), []))] [] 30 [] [([], 3, [(0, 0, 99), (1, 0, 100), (2, 24, 2147483647)], [], [], [.inl ((-2), [])], [])] = true := by decide +kernel
theorem bl31 {cst : am_K} {strs : List Nat} {Φ : am_Q → Prop} {D : Nat} {M : am_M} {h : am_H} {l : am_L} (c : hp_C cst strs D) (hM : m_P[152]? = some M) (hD : (30 : Int) ≤ (D : Int) + 1) (hy : ly_hy m_tt ly_TH h) (m s q : Int) (b0 : 0 ≤ m) (t0 : m ≤ 99) (b1 : 0 ≤ s) (t1 : s ≤ 100) (b2 : 24 ≤ q) (t2 : q ≤ 2147483647) (f0 : 0 ≤ (s - m - 1)) (k0 : ly_hv cst h 7170 0 = some (s)) (k1 : ly_hv cst h 7424 (m) = some 1) (k2 : ly_hv cst h 45313 (m) = some (-1)) (l0 : hp_a l 0 16) (l1 : hp_i l 1 (m)) (l2 : hp_i l 2 (q)) (r0 : ∀ (h' : am_H) (y0 : Int32), y0.toInt = (-2) → ly_hy m_tt ly_TH h' → ly_fr cst [] h h' → h.length ≤ h'.length → Φ (some (.int y0), h', 0, 0)) : hp_F cst strs Φ D M 0 l [] h := by
  refine hq_arc c hM bl31_k hD [m, s, q] rfl hy (hp_Bc (z := m) rfl b0 t0 (hp_Bc (z := s) rfl b1 t1 (hp_Bc (z := q) rfl b2 t2 hp_Bn))) (hp_Fc (z := ((-1) + ((-1) * m + (1 * s + 0)))) rfl (by omega) hp_Fn) (hp_Kc (zi := (0 + 0)) (zv := (0 + (1 * s + 0))) k0 rfl rfl (by omega) (by omega) (hp_Kc (zi := (0 + (1 * m + 0))) (zv := (1 + 0)) k1 rfl rfl (by omega) (by omega) (hp_Kc (zi := (0 + (1 * m + 0))) (zv := ((-1) + 0)) k2 rfl rfl (by omega) (by omega) hp_Kn))) (hp_La l0 (hp_Li (z := (0 + (1 * m + 0))) l1 rfl (by omega) (hp_Li (z := (0 + (1 * q + 0))) l2 rfl (by omega) hp_Ln))) trivial ?_ ?_
  · intro p_9 hp ys l' st' h' hys a1_9 a2 a3 gZ gL gS
    cases hp
  · intro p_9 hp ys v_9 h' hys a1_9 a2 a3 gZ gS
    rcases List.mem_cons.mp hp with rfl | hp
    · obtain rfl := hp_y0 hys
      cases v_9 with
      | none => cases gS
      | some wz =>
        obtain ⟨y0, t0, s0_9, q0, -⟩ := hp_gSi (z := ((-2) + 0)) gS rfl
        cases s0_9
        exact r0 h' y0 (by omega) a1_9 a2 a3
    cases hp
theorem bl40_k : hq_chk [139] 152 0 4 [(0, 0, 99), (1, 0, 100), (2, 0, 23), (3, (-2147483648), (-1))] [((-1), [(0, (-1)), (1, 1)])] [(0, .inr (.inr (.inl (some 16)))), (1, .inl (0, [(0, 1)])), (2, .inl (0, [(2, 1)]))] [] [(7170, (0, []), (0, [(1, 1)])), (7424, (0, [(0, 1)]), (1, [])), (45313, (0, [(0, 1)]), ((-1), [])), (45319, (0, [(0, 1)]), (0, [(3, 1)]))] [] 30 [] [([], 4, [(0, 0, 99), (1, 0, 100), (2, 0, 23), (3, (-2147483648), (-1))], [], [], [.inl ((-4), [])], [])] = true := by decide +kernel
theorem bl40 {cst : am_K} {strs : List Nat} {Φ : am_Q → Prop} {D : Nat} {M : am_M} {h : am_H} {l : am_L} (c : hp_C cst strs D) (hM : m_P[152]? = some M) (hD : (30 : Int) ≤ (D : Int) + 1) (hy : ly_hy m_tt ly_TH h) (m s q v : Int) (b0 : 0 ≤ m) (t0 : m ≤ 99) (b1 : 0 ≤ s) (t1 : s ≤ 100) (b2 : 0 ≤ q) (t2 : q ≤ 23) (b3 : (-2147483648) ≤ v) (t3 : v ≤ (-1)) (f0 : 0 ≤ (s - m - 1)) (k0 : ly_hv cst h 7170 0 = some (s)) (k1 : ly_hv cst h 7424 (m) = some 1) (k2 : ly_hv cst h 45313 (m) = some (-1)) (k3 : ly_hv cst h 45319 (m) = some (v)) (l0 : hp_a l 0 16) (l1 : hp_i l 1 (m)) (l2 : hp_i l 2 (q)) (r0 : ∀ (h' : am_H) (y0 : Int32), y0.toInt = (-4) → ly_hy m_tt ly_TH h' → ly_fr cst [] h h' → h.length ≤ h'.length → Φ (some (.int y0), h', 0, 0)) : hp_F cst strs Φ D M 0 l [] h := by
  refine hq_arc c hM bl40_k hD [m, s, q, v] rfl hy (hp_Bc (z := m) rfl b0 t0 (hp_Bc (z := s) rfl b1 t1 (hp_Bc (z := q) rfl b2 t2 (hp_Bc (z := v) rfl b3 t3 hp_Bn)))) (hp_Fc (z := ((-1) + ((-1) * m + (1 * s + 0)))) rfl (by omega) hp_Fn) (hp_Kc (zi := (0 + 0)) (zv := (0 + (1 * s + 0))) k0 rfl rfl (by omega) (by omega) (hp_Kc (zi := (0 + (1 * m + 0))) (zv := (1 + 0)) k1 rfl rfl (by omega) (by omega) (hp_Kc (zi := (0 + (1 * m + 0))) (zv := ((-1) + 0)) k2 rfl rfl (by omega) (by omega) (hp_Kc (zi := (0 + (1 * m + 0))) (zv := (0 + (1 * v + 0))) k3 rfl rfl (by omega) (by omega) hp_Kn)))) (hp_La l0 (hp_Li (z := (0 + (1 * m + 0))) l1 rfl (by omega) (hp_Li (z := (0 + (1 * q + 0))) l2 rfl (by omega) hp_Ln))) trivial ?_ ?_
  · intro p_9 hp ys l' st' h' hys a1_9 a2 a3 gZ gL gS
    cases hp
  · intro p_9 hp ys v h' hys a1_9 a2 a3 gZ gS
    rcases List.mem_cons.mp hp with rfl | hp
    · obtain rfl := hp_y0 hys
      cases v with
      | none => cases gS
      | some wz =>
        obtain ⟨y0, t0, s0_9, q0, -⟩ := hp_gSi (z := ((-4) + 0)) gS rfl
        cases s0_9
        exact r0 h' y0 (by omega) a1_9 a2 a3
    cases hp
theorem bl41_k : hq_chk [139] 152 0 4 [(0, 0, 99), (1, 0, 100), (2, 0, 23), (3, 1, 2147483647)] [((-1), [(0, (-1)), (1, 1)])] [(0, .inr (.inr (.inl (some 16)))), (1, .inl (0, [(0, 1)])), (2, .inl (0, [(2, 1)]))] [] [(7170, (0, []), (0, [(1, 1)])), (7424, (0, [(0, 1)]), (1, [])), (45313, (0, [(0, 1)]), ((-1), [])), (45319, (0, [(0, 1)]), (0, [(3, 1)]))] [] 30 [] [([], 4, [(0, 0, 99), (1, 0, 100), (2, 0, 23), (3, 1, 2147483647)], [], [], [.inl ((-4), [])], [])] = true := by decide +kernel
theorem bl41 {cst : am_K} {strs : List Nat} {Φ : am_Q → Prop} {D : Nat} {M : am_M} {h : am_H} {l : am_L} (c : hp_C cst strs D) (hM : m_P[152]? = some M) (hD : (30 : Int) ≤ (D : Int) + 1) (hy : ly_hy m_tt ly_TH h) (m s q v : Int) (b0 : 0 ≤ m) (t0 : m ≤ 99) (b1 : 0 ≤ s) (t1 : s ≤ 100) (b2 : 0 ≤ q) (t2 : q ≤ 23) (b3 : 1 ≤ v) (t3 : v ≤ 2147483647) (f0 : 0 ≤ (s - m - 1)) (k0 : ly_hv cst h 7170 0 = some (s)) (k1 : ly_hv cst h 7424 (m) = some 1) (k2 : ly_hv cst h 45313 (m) = some (-1)) (k3 : ly_hv cst h 45319 (m) = some (v)) (l0 : hp_a l 0 16) (l1 : hp_i l 1 (m)) (l2 : hp_i l 2 (q)) (r0 : ∀ (h' : am_H) (y0 : Int32), y0.toInt = (-4) → ly_hy m_tt ly_TH h' → ly_fr cst [] h h' → h.length ≤ h'.length → Φ (some (.int y0), h', 0, 0)) : hp_F cst strs Φ D M 0 l [] h := by
  refine hq_arc c hM bl41_k hD [m, s, q, v] rfl hy (hp_Bc (z := m) rfl b0 t0 (hp_Bc (z := s) rfl b1 t1 (hp_Bc (z := q) rfl b2 t2 (hp_Bc (z := v) rfl b3 t3 hp_Bn)))) (hp_Fc (z := ((-1) + ((-1) * m + (1 * s + 0)))) rfl (by omega) hp_Fn) (hp_Kc (zi := (0 + 0)) (zv := (0 + (1 * s + 0))) k0 rfl rfl (by omega) (by omega) (hp_Kc (zi := (0 + (1 * m + 0))) (zv := (1 + 0)) k1 rfl rfl (by omega) (by omega) (hp_Kc (zi := (0 + (1 * m + 0))) (zv := ((-1) + 0)) k2 rfl rfl (by omega) (by omega) (hp_Kc (zi := (0 + (1 * m + 0))) (zv := (0 + (1 * v + 0))) k3 rfl rfl (by omega) (by omega) hp_Kn)))) (hp_La l0 (hp_Li (z := (0 + (1 * m + 0))) l1 rfl (by omega) (hp_Li (z := (0 + (1 * q + 0))) l2 rfl (by omega) hp_Ln))) trivial ?_ ?_
  · intro p_9 hp ys l' st' h' hys a1_9 a2 a3 gZ gL gS
    cases hp
  · intro p_9 hp ys v h' hys a1_9 a2 a3 gZ gS
    rcases List.mem_cons.mp hp with rfl | hp
    · obtain rfl := hp_y0 hys
      cases v with
      | none => cases gS
      | some wz =>
        obtain ⟨y0, t0, s0_9, q0, -⟩ := hp_gSi (z := ((-4) + 0)) gS rfl
        cases s0_9
        exact r0 h' y0 (by omega) a1_9 a2 a3
    cases hp
theorem bl5_k : hq_chk [139] 152 0 4 [(0, 0, 99), (1, 0, 100), (2, 0, 23), (3, 0, 399)] [((-1), [(0, (-1)), (1, 1)])] [(0, .inr (.inr (.inl (some 16)))), (1, .inl (0, [(0, 1)])), (2, .inl (0, [(2, 1)]))] [] [(7170, (0, []), (0, [(1, 1)])), (7424, (0, [(0, 1)]), (1, [])), (45313, (0, [(0, 1)]), ((-1), [])), (45319, (0, [(0, 1)]), (0, [])), (10, (0, []), (0, [(3, 1)]))] [] 30 [(87, ([(1, 1, (0, []))], 5, [(0, 0, 99), (1, 0, 100), (2, 0, 23), (3, 0, 399), (4, 1, 2)], [], [(0, .inr (.inr (.inl (some 16))))], [.inl (0, [(3, 1)]), .inl (0, [(4, 1)]), .inl (0, [(0, 1)]), .inr (.inr (.inl (some 44)))], []))] [] = true := by decide +kernel
theorem bl5 {cst : am_K} {strs : List Nat} {Φ : am_Q → Prop} {D : Nat} {M : am_M} {h : am_H} {l : am_L} (c : hp_C cst strs D) (hM : m_P[152]? = some M) (hD : (30 : Int) ≤ (D : Int) + 1) (hy : ly_hy m_tt ly_TH h) (m s q d : Int) (b0 : 0 ≤ m) (t0 : m ≤ 99) (b1 : 0 ≤ s) (t1 : s ≤ 100) (b2 : 0 ≤ q) (t2 : q ≤ 23) (b3 : 0 ≤ d) (t3 : d ≤ 399) (f0 : 0 ≤ (s - m - 1)) (k0 : ly_hv cst h 7170 0 = some (s)) (k1 : ly_hv cst h 7424 (m) = some 1) (k2 : ly_hv cst h 45313 (m) = some (-1)) (k3 : ly_hv cst h 45319 (m) = some 0) (k4 : ly_hv cst h 10 0 = some (d)) (l0 : hp_a l 0 16) (l1 : hp_i l 1 (m)) (l2 : hp_i l 2 (q)) (e0 : ∀ (l' : am_L) (h' : am_H) (v_9 : Int) (y0 : Int32) (y1 : Int32) (y2 : Int32), y0.toInt = (d) → y1.toInt = (v_9) → y2.toInt = (m) → ly_hy m_tt ly_TH h' → ly_fr cst [] h h' → h.length ≤ h'.length → 1 ≤ v_9 → v_9 ≤ 2 → hp_a l' 0 16 → hp_F cst strs Φ D M 87 l' [.int y0, .int y1, .int y2, .ref 44] h') : hp_F cst strs Φ D M 0 l [] h := by
  refine hq_arc c hM bl5_k hD [m, s, q, d] rfl hy (hp_Bc (z := m) rfl b0 t0 (hp_Bc (z := s) rfl b1 t1 (hp_Bc (z := q) rfl b2 t2 (hp_Bc (z := d) rfl b3 t3 hp_Bn)))) (hp_Fc (z := ((-1) + ((-1) * m + (1 * s + 0)))) rfl (by omega) hp_Fn) (hp_Kc (zi := (0 + 0)) (zv := (0 + (1 * s + 0))) k0 rfl rfl (by omega) (by omega) (hp_Kc (zi := (0 + (1 * m + 0))) (zv := (1 + 0)) k1 rfl rfl (by omega) (by omega) (hp_Kc (zi := (0 + (1 * m + 0))) (zv := ((-1) + 0)) k2 rfl rfl (by omega) (by omega) (hp_Kc (zi := (0 + (1 * m + 0))) (zv := (0 + 0)) k3 rfl rfl (by omega) (by omega) (hp_Kc (zi := (0 + 0)) (zv := (0 + (1 * d + 0))) k4 rfl rfl (by omega) (by omega) hp_Kn))))) (hp_La l0 (hp_Li (z := (0 + (1 * m + 0))) l1 rfl (by omega) (hp_Li (z := (0 + (1 * q + 0))) l2 rfl (by omega) hp_Ln))) trivial ?_ ?_
  · intro p_9 hp ys l' st' h' hys a1_9 a2 a3 gZ gL gS
    rcases List.mem_cons.mp hp with rfl | hp
    · obtain ⟨v_9, rfl⟩ := hp_y1 hys
      obtain ⟨y0, t0, rfl, q0, g0⟩ := hp_gSi (z := (0 + (1 * d + 0))) gS rfl
      obtain ⟨y1, t1, rfl, q1_9, g1⟩ := hp_gSi (z := (0 + (1 * v_9 + 0))) g0 rfl
      obtain ⟨y2, t2, rfl, q2_9, g2⟩ := hp_gSi (z := (0 + (1 * m + 0))) g1 rfl
      obtain ⟨t3, rfl, g3_9⟩ := hp_gSa g2 (by decide)
      cases hp_gSn g3_9
      exact e0 l' h' v_9 y0 y1 y2 (by omega) (by omega) (by omega) a1_9 a2 a3 (hp_gB (z := v_9) gZ.2.1 (List.mem_of_getElem? (i := 4) rfl) rfl).1 (hp_gB (z := v_9) gZ.2.1 (List.mem_of_getElem? (i := 4) rfl) rfl).2 (hp_gLa gL (List.mem_of_getElem? (i := 0) rfl) (by decide))
    cases hp
  · intro p_9 hp ys v_9 h' hys a1_9 a2 a3 gZ gS
    cases hp
theorem bl6_k : hp_chk 152 90 1 [(0, (-2147483648), 2147483647)] [] [(0, .inr (.inr (.inl (some 16))))] [.inl (0, [(0, 1)])] [] [] 2 [] [([], 1, [(0, (-2147483648), 2147483647)], [], [], [.inl (0, [(0, 1)])], [])] = true := by decide +kernel
theorem bl6 {cst : am_K} {strs : List Nat} {Φ : am_Q → Prop} {D : Nat} {M : am_M} {h : am_H} {l : am_L} (c : hp_C cst strs D) (hM : m_P[152]? = some M) (hD : (2 : Int) ≤ (D : Int) + 1) (hy : ly_hy m_tt ly_TH h) (y : Int) (x0 : Int32) (hx0 : x0.toInt = (y)) (b0 : (-2147483648) ≤ y) (t0 : y ≤ 2147483647) (l0 : hp_a l 0 16) (r0 : ∀ (h' : am_H) (y0 : Int32), y0.toInt = (y) → ly_hy m_tt ly_TH h' → ly_fr cst [] h h' → h.length ≤ h'.length → Φ (some (.int y0), h', 0, 0)) : hp_F cst strs Φ D M 90 l [.int x0] h := by
  refine hp_arc c hM bl6_k hD [y] rfl hy (hp_Bc (z := y) rfl b0 t0 hp_Bn) hp_Fn hp_Kn (hp_La l0 hp_Ln) (hp_Si (z := (0 + (1 * y + 0))) rfl (by omega) trivial) ?_ ?_
  · intro p_9 hp ys l' st' h' hys a1_9 a2 a3 gZ gL gS
    cases hp
  · intro p_9 hp ys v_9 h' hys a1_9 a2 a3 gZ gS
    rcases List.mem_cons.mp hp with rfl | hp
    · obtain rfl := hp_y0 hys
      cases v_9 with
      | none => cases gS
      | some wz =>
        obtain ⟨y0, t0, s0_9, q0, -⟩ := hp_gSi (z := (0 + (1 * y + 0))) gS rfl
        cases s0_9
        exact r0 h' y0 (by omega) a1_9 a2 a3
    cases hp
theorem bc0_k : hp_chk 63 0 4 [(0, 0, 99), (1, 0, 100), (2, 1, 2), (3, 0, 399)] [((-1), [(0, (-1)), (1, 1)])] [(0, .inr (.inr (.inl (some 44)))), (1, .inl (0, [(0, 1)])), (2, .inl (0, [(2, 1)])), (3, .inl (0, [(3, 1)]))] [] [(7170, (0, []), (0, [(1, 1)])), (7424, (0, [(0, 1)]), (1, []))] [] 5 [(15, ([], 4, [(0, 0, 99), (1, 0, 100), (2, 1, 2), (3, 0, 399)], [], [(0, .inr (.inr (.inl (some 44)))), (1, .inl (0, [(0, 1)])), (2, .inl (0, [(2, 1)])), (3, .inl (0, [(3, 1)]))], [.inl (0, [(2, 1)]), .inr (.inr (.inr (0, (0, [(0, 1)]))))], []))] [] = true := by decide +kernel
theorem bc0 {cst : am_K} {strs : List Nat} {Φ : am_Q → Prop} {D : Nat} {M : am_M} {h : am_H} {l : am_L} (c : hp_C cst strs D) (hM : m_P[63]? = some M) (hD : (5 : Int) ≤ (D : Int) + 1) (hy : ly_hy m_tt ly_TH h) (m s v d : Int) (b0 : 0 ≤ m) (t0 : m ≤ 99) (b1 : 0 ≤ s) (t1 : s ≤ 100) (b2 : 1 ≤ v) (t2 : v ≤ 2) (b3 : 0 ≤ d) (t3 : d ≤ 399) (f0 : 0 ≤ (s - m - 1)) (k0 : ly_hv cst h 7170 0 = some (s)) (k1 : ly_hv cst h 7424 (m) = some 1) (l0 : hp_a l 0 44) (l1 : hp_i l 1 (m)) (l2 : hp_i l 2 (v)) (l3 : hp_i l 3 (d)) (e0 : ∀ (l' : am_L) (h' : am_H) (y0 : Int32) (y1 : Nat), y0.toInt = (v) → (y1 : Int) = (m) → 177 + 19 * (y1 + 1) ≤ h'.length → ly_hy m_tt ly_TH h' → ly_fr cst [] h h' → h.length ≤ h'.length → hp_a l' 0 44 → hp_i l' 1 (m) → hp_i l' 2 (v) → hp_i l' 3 (d) → hp_F cst strs Φ D M 15 l' [.int y0, .ref (16 + (177 + 19 * y1 + 0))] h') : hp_F cst strs Φ D M 0 l [] h := by
  refine hp_arc c hM bc0_k hD [m, s, v, d] rfl hy (hp_Bc (z := m) rfl b0 t0 (hp_Bc (z := s) rfl b1 t1 (hp_Bc (z := v) rfl b2 t2 (hp_Bc (z := d) rfl b3 t3 hp_Bn)))) (hp_Fc (z := ((-1) + ((-1) * m + (1 * s + 0)))) rfl (by omega) hp_Fn) (hp_Kc (zi := (0 + 0)) (zv := (0 + (1 * s + 0))) k0 rfl rfl (by omega) (by omega) (hp_Kc (zi := (0 + (1 * m + 0))) (zv := (1 + 0)) k1 rfl rfl (by omega) (by omega) hp_Kn)) (hp_La l0 (hp_Li (z := (0 + (1 * m + 0))) l1 rfl (by omega) (hp_Li (z := (0 + (1 * v + 0))) l2 rfl (by omega) (hp_Li (z := (0 + (1 * d + 0))) l3 rfl (by omega) hp_Ln)))) trivial ?_ ?_
  · intro p_9 hp ys l' st' h' hys a1_9 a2 a3 gZ gL gS
    rcases List.mem_cons.mp hp with rfl | hp
    · obtain rfl := hp_y0 hys
      obtain ⟨y0, t0, rfl, q0, g0⟩ := hp_gSi (z := (0 + (1 * v + 0))) gS rfl
      obtain ⟨y1, t1, rfl, q1_9, p1_9, g1⟩ := hp_gSm (z := (0 + (1 * m + 0))) g0 rfl
      cases hp_gSn g1
      exact e0 l' h' y0 y1 (by omega) (by omega) p1_9 a1_9 a2 a3 (hp_gLa gL (List.mem_of_getElem? (i := 0) rfl) (by decide)) (hp_gLi (z := (0 + (1 * m + 0))) gL (List.mem_of_getElem? (i := 1) rfl) rfl (by omega)) (hp_gLi (z := (0 + (1 * v + 0))) gL (List.mem_of_getElem? (i := 2) rfl) rfl (by omega)) (hp_gLi (z := (0 + (1 * d + 0))) gL (List.mem_of_getElem? (i := 3) rfl) rfl (by omega))
    cases hp
  · intro p_9 hp ys v h' hys a1_9 a2 a3 gZ gS
    cases hp
theorem bc1_k : hp_chk 63 18 3 [(0, 0, 99), (1, 1, 2), (2, 0, 399)] [] [(0, .inr (.inr (.inl (some 44)))), (1, .inl (0, [(0, 1)])), (2, .inl (0, [(1, 1)])), (3, .inl (0, [(2, 1)]))] [] [] [7182, 8704, 8960, 9216, 9472] 5 [] [([], 3, [(0, 0, 99), (1, 1, 2), (2, 0, 399)], [], [], [.inl (0, [(1, 1)])], [])] = true := by decide +kernel
theorem bc1 {cst : am_K} {strs : List Nat} {Φ : am_Q → Prop} {D : Nat} {M : am_M} {h : am_H} {l : am_L} (c : hp_C cst strs D) (hM : m_P[63]? = some M) (hD : (5 : Int) ≤ (D : Int) + 1) (hy : ly_hy m_tt ly_TH h) (m v d : Int) (b0 : 0 ≤ m) (t0 : m ≤ 99) (b1 : 1 ≤ v) (t1 : v ≤ 2) (b2 : 0 ≤ d) (t2 : d ≤ 399) (l0 : hp_a l 0 44) (l1 : hp_i l 1 (m)) (l2 : hp_i l 2 (v)) (l3 : hp_i l 3 (d)) (r0 : ∀ (h' : am_H) (y0 : Int32), y0.toInt = (v) → ly_hy m_tt ly_TH h' → ly_fr cst [7182, 8704, 8960, 9216, 9472] h h' → h.length ≤ h'.length → Φ (some (.int y0), h', 0, 0)) : hp_F cst strs Φ D M 18 l [] h := by
  refine hp_arc c hM bc1_k hD [m, v, d] rfl hy (hp_Bc (z := m) rfl b0 t0 (hp_Bc (z := v) rfl b1 t1 (hp_Bc (z := d) rfl b2 t2 hp_Bn))) hp_Fn hp_Kn (hp_La l0 (hp_Li (z := (0 + (1 * m + 0))) l1 rfl (by omega) (hp_Li (z := (0 + (1 * v + 0))) l2 rfl (by omega) (hp_Li (z := (0 + (1 * d + 0))) l3 rfl (by omega) hp_Ln)))) trivial ?_ ?_
  · intro p_9 hp ys l' st' h' hys a1_9 a2 a3 gZ gL gS
    cases hp
  · intro p_9 hp ys v h' hys a1_9 a2 a3 gZ gS
    rcases List.mem_cons.mp hp with rfl | hp
    · obtain rfl := hp_y0 hys
      cases v with
      | none => cases gS
      | some wz =>
        obtain ⟨y0, t0, s0_9, q0, -⟩ := hp_gSi (z := (0 + (1 * v + 0))) gS rfl
        cases s0_9
        exact r0 h' y0 (by omega) a1_9 a2 a3
    cases hp
theorem bm0_k : hp_chk 347 0 3 [(0, (-2147483648), (-1)), (1, 0, 100), (2, (-2147483648), 2147483647)] [] [(0, .inr (.inr (.inl (some 94)))), (1, .inl (0, [(0, 1)])), (2, .inl (0, [(2, 1)]))] [] [(20024, (0, []), (0, [(1, 1)]))] [] 30 [] [([], 3, [(0, (-2147483648), (-1)), (1, 0, 100), (2, (-2147483648), 2147483647)], [], [], [.inl ((-2), [])], [])] = true := by decide +kernel
theorem bm0 {cst : am_K} {strs : List Nat} {Φ : am_Q → Prop} {D : Nat} {M : am_M} {h : am_H} {l : am_L} (c : hp_C cst strs D) (hM : m_P[347]? = some M) (hD : (30 : Int) ≤ (D : Int) + 1) (hy : ly_hy m_tt ly_TH h) (m s q : Int) (b0 : (-2147483648) ≤ m) (t0 : m ≤ (-1)) (b1 : 0 ≤ s) (t1 : s ≤ 100) (b2 : (-2147483648) ≤ q) (t2 : q ≤ 2147483647) (k0 : ly_hv cst h 20024 0 = some (s)) (l0 : hp_a l 0 94) (l1 : hp_i l 1 (m)) (l2 : hp_i l 2 (q)) (r0 : ∀ (h' : am_H) (y0 : Int32), y0.toInt = (-2) → ly_hy m_tt ly_TH h' → ly_fr cst [] h h' → h.length ≤ h'.length → Φ (some (.int y0), h', 0, 0)) : hp_F cst strs Φ D M 0 l [] h := by
  refine hp_arc c hM bm0_k hD [m, s, q] rfl hy (hp_Bc (z := m) rfl b0 t0 (hp_Bc (z := s) rfl b1 t1 (hp_Bc (z := q) rfl b2 t2 hp_Bn))) hp_Fn (hp_Kc (zi := (0 + 0)) (zv := (0 + (1 * s + 0))) k0 rfl rfl (by omega) (by omega) hp_Kn) (hp_La l0 (hp_Li (z := (0 + (1 * m + 0))) l1 rfl (by omega) (hp_Li (z := (0 + (1 * q + 0))) l2 rfl (by omega) hp_Ln))) trivial ?_ ?_
  · intro p_9 hp ys l' st' h' hys a1_9 a2 a3 gZ gL gS
    cases hp
  · intro p_9 hp ys v_9 h' hys a1_9 a2 a3 gZ gS
    rcases List.mem_cons.mp hp with rfl | hp
    · obtain rfl := hp_y0 hys
      cases v_9 with
      | none => cases gS
      | some wz =>
        obtain ⟨y0, t0, s0_9, q0, -⟩ := hp_gSi (z := ((-2) + 0)) gS rfl
        cases s0_9
        exact r0 h' y0 (by omega) a1_9 a2 a3
    cases hp
theorem bm1_k : hp_chk 347 0 3 [(0, 0, 2147483647), (1, 0, 100), (2, (-2147483648), 2147483647)] [(0, [(0, 1), (1, (-1))])] [(0, .inr (.inr (.inl (some 94)))), (1, .inl (0, [(0, 1)])), (2, .inl (0, [(2, 1)]))] [] [(20024, (0, []), (0, [(1, 1)]))] [] 30 [] [([], 3, [(0, 0, 2147483647), (1, 0, 100), (2, (-2147483648), 2147483647)], [], [], [.inl ((-2), [])], [])] = true := by decide +kernel
theorem bm1 {cst : am_K} {strs : List Nat} {Φ : am_Q → Prop} {D : Nat} {M : am_M} {h : am_H} {l : am_L} (c : hp_C cst strs D) (hM : m_P[347]? = some M) (hD : (30 : Int) ≤ (D : Int) + 1) (hy : ly_hy m_tt ly_TH h) (m s q : Int) (b0 : 0 ≤ m) (t0 : m ≤ 2147483647) (b1 : 0 ≤ s) (t1 : s ≤ 100) (b2 : (-2147483648) ≤ q) (t2 : q ≤ 2147483647) (f0 : 0 ≤ (m - s)) (k0 : ly_hv cst h 20024 0 = some (s)) (l0 : hp_a l 0 94) (l1 : hp_i l 1 (m)) (l2 : hp_i l 2 (q)) (r0 : ∀ (h' : am_H) (y0 : Int32), y0.toInt = (-2) → ly_hy m_tt ly_TH h' → ly_fr cst [] h h' → h.length ≤ h'.length → Φ (some (.int y0), h', 0, 0)) : hp_F cst strs Φ D M 0 l [] h := by
  refine hp_arc c hM bm1_k hD [m, s, q] rfl hy (hp_Bc (z := m) rfl b0 t0 (hp_Bc (z := s) rfl b1 t1 (hp_Bc (z := q) rfl b2 t2 hp_Bn))) (hp_Fc (z := (0 + (1 * m + ((-1) * s + 0)))) rfl (by omega) hp_Fn) (hp_Kc (zi := (0 + 0)) (zv := (0 + (1 * s + 0))) k0 rfl rfl (by omega) (by omega) hp_Kn) (hp_La l0 (hp_Li (z := (0 + (1 * m + 0))) l1 rfl (by omega) (hp_Li (z := (0 + (1 * q + 0))) l2 rfl (by omega) hp_Ln))) trivial ?_ ?_
  · intro p_9 hp ys l' st' h' hys a1_9 a2 a3 gZ gL gS
    cases hp
  · intro p_9 hp ys v_9 h' hys a1_9 a2 a3 gZ gS
    rcases List.mem_cons.mp hp with rfl | hp
    · obtain rfl := hp_y0 hys
      cases v_9 with
      | none => cases gS
      | some wz =>
        obtain ⟨y0, t0, s0_9, q0, -⟩ := hp_gSi (z := ((-2) + 0)) gS rfl
        cases s0_9
        exact r0 h' y0 (by omega) a1_9 a2 a3
    cases hp
theorem bm2_k : hp_chk 347 0 3 [(0, 0, 99), (1, 0, 100), (2, (-2147483648), 2147483647)] [((-1), [(0, (-1)), (1, 1)])] [(0, .inr (.inr (.inl (some 94)))), (1, .inl (0, [(0, 1)])), (2, .inl (0, [(2, 1)]))] [] [(20024, (0, []), (0, [(1, 1)])), (28416, (0, [(0, 1)]), (1, []))] [] 30 [] [([], 3, [(0, 0, 99), (1, 0, 100), (2, (-2147483648), 2147483647)], [], [], [.inl ((-2), [])], [])] = true := by decide +kernel
theorem bm2 {cst : am_K} {strs : List Nat} {Φ : am_Q → Prop} {D : Nat} {M : am_M} {h : am_H} {l : am_L} (c : hp_C cst strs D) (hM : m_P[347]? = some M) (hD : (30 : Int) ≤ (D : Int) + 1) (hy : ly_hy m_tt ly_TH h) (m s q : Int) (b0 : 0 ≤ m) (t0 : m ≤ 99) (b1 : 0 ≤ s) (t1 : s ≤ 100) (b2 : (-2147483648) ≤ q) (t2 : q ≤ 2147483647) (f0 : 0 ≤ (s - m - 1)) (k0 : ly_hv cst h 20024 0 = some (s)) (k1 : ly_hv cst h 28416 (m) = some 1) (l0 : hp_a l 0 94) (l1 : hp_i l 1 (m)) (l2 : hp_i l 2 (q)) (r0 : ∀ (h' : am_H) (y0 : Int32), y0.toInt = (-2) → ly_hy m_tt ly_TH h' → ly_fr cst [] h h' → h.length ≤ h'.length → Φ (some (.int y0), h', 0, 0)) : hp_F cst strs Φ D M 0 l [] h := by
  refine hp_arc c hM bm2_k hD [m, s, q] rfl hy (hp_Bc (z := m) rfl b0 t0 (hp_Bc (z := s) rfl b1 t1 (hp_Bc (z := q) rfl b2 t2 hp_Bn))) (hp_Fc (z := ((-1) + ((-1) * m + (1 * s + 0)))) rfl (by omega) hp_Fn) (hp_Kc (zi := (0 + 0)) (zv := (0 + (1 * s + 0))) k0 rfl rfl (by omega) (by omega) (hp_Kc (zi := (0 + (1 * m + 0))) (zv := (1 + 0)) k1 rfl rfl (by omega) (by omega) hp_Kn)) (hp_La l0 (hp_Li (z := (0 + (1 * m + 0))) l1 rfl (by omega) (hp_Li (z := (0 + (1 * q + 0))) l2 rfl (by omega) hp_Ln))) trivial ?_ ?_
  · intro p_9 hp ys l' st' h' hys a1_9 a2 a3 gZ gL gS
    cases hp
  · intro p_9 hp ys v_9 h' hys a1_9 a2 a3 gZ gS
    rcases List.mem_cons.mp hp with rfl | hp
    · obtain rfl := hp_y0 hys
      cases v_9 with
      | none => cases gS
      | some wz =>
        obtain ⟨y0, t0, s0_9, q0, -⟩ := hp_gSi (z := ((-2) + 0)) gS rfl
        cases s0_9
        exact r0 h' y0 (by omega) a1_9 a2 a3
    cases hp
theorem bm30_k : hp_chk 347 0 3 [(0, 0, 99), (1, 0, 100), (2, (-2147483648), (-1))] [((-1), [(0, (-1)), (1, 1)])] [(0, .inr (.inr (.inl (some 94)))), (1, .inl (0, [(0, 1)])), (2, .inl (0, [(2, 1)]))] [] [(20024, (0, []), (0, [(1, 1)])), (28416, (0, [(0, 1)]), (0, []))] [] 30 [] [([], 3, [(0, 0, 99), (1, 0, 100), (2, (-2147483648), (-1))], [], [], [.inl ((-2), [])], [])] = true := by decide +kernel
theorem bm30 {cst : am_K} {strs : List Nat} {Φ : am_Q → Prop} {D : Nat} {M : am_M} {h : am_H} {l : am_L} (c : hp_C cst strs D) (hM : m_P[347]? = some M) (hD : (30 : Int) ≤ (D : Int) + 1) (hy : ly_hy m_tt ly_TH h) (m s q : Int) (b0 : 0 ≤ m) (t0 : m ≤ 99) (b1 : 0 ≤ s) (t1 : s ≤ 100) (b2 : (-2147483648) ≤ q) (t2 : q ≤ (-1)) (f0 : 0 ≤ (s - m - 1)) (k0 : ly_hv cst h 20024 0 = some (s)) (k1 : ly_hv cst h 28416 (m) = some 0) (l0 : hp_a l 0 94) (l1 : hp_i l 1 (m)) (l2 : hp_i l 2 (q)) (r0 : ∀ (h' : am_H) (y0 : Int32), y0.toInt = (-2) → ly_hy m_tt ly_TH h' → ly_fr cst [] h h' → h.length ≤ h'.length → Φ (some (.int y0), h', 0, 0)) : hp_F cst strs Φ D M 0 l [] h := by
  refine hp_arc c hM bm30_k hD [m, s, q] rfl hy (hp_Bc (z := m) rfl b0 t0 (hp_Bc (z := s) rfl b1 t1 (hp_Bc (z := q) rfl b2 t2 hp_Bn))) (hp_Fc (z := ((-1) + ((-1) * m + (1 * s + 0)))) rfl (by omega) hp_Fn) (hp_Kc (zi := (0 + 0)) (zv := (0 + (1 * s + 0))) k0 rfl rfl (by omega) (by omega) (hp_Kc (zi := (0 + (1 * m + 0))) (zv := (0 + 0)) k1 rfl rfl (by omega) (by omega) hp_Kn)) (hp_La l0 (hp_Li (z := (0 + (1 * m + 0))) l1 rfl (by omega) (hp_Li (z := (0 + (1 * q + 0))) l2 rfl (by omega) hp_Ln))) trivial ?_ ?_
  · intro p_9 hp ys l' st' h' hys a1_9 a2 a3 gZ gL gS
    cases hp
  · intro p_9 hp ys v_9 h' hys a1_9 a2 a3 gZ gS
    rcases List.mem_cons.mp hp with rfl | hp
    · obtain rfl := hp_y0 hys
      cases v_9 with
      | none => cases gS
      | some wz =>
        obtain ⟨y0, t0, s0_9, q0, -⟩ := hp_gSi (z := ((-2) + 0)) gS rfl
        cases s0_9
        exact r0 h' y0 (by omega) a1_9 a2 a3
    cases hp
theorem bm31_k : hp_chk 347 0 3 [(0, 0, 99), (1, 0, 100), (2, 24, 2147483647)] [((-1), [(0, (-1)), (1, 1)])] [(0, .inr (.inr (.inl (some 94)))), (1, .inl (0, [(0, 1)])), (2, .inl (0, [(2, 1)]))] [] [(20024, (0, []), (0, [(1, 1)])), (28416, (0, [(0, 1)]), (0, []))] [] 30 [] [([], 3, [(0, 0, 99), (1, 0, 100), (2, 24, 2147483647)], [], [], [.inl ((-2), [])], [])] = true := by decide +kernel
theorem bm31 {cst : am_K} {strs : List Nat} {Φ : am_Q → Prop} {D : Nat} {M : am_M} {h : am_H} {l : am_L} (c : hp_C cst strs D) (hM : m_P[347]? = some M) (hD : (30 : Int) ≤ (D : Int) + 1) (hy : ly_hy m_tt ly_TH h) (m s q : Int) (b0 : 0 ≤ m) (t0 : m ≤ 99) (b1 : 0 ≤ s) (t1 : s ≤ 100) (b2 : 24 ≤ q) (t2 : q ≤ 2147483647) (f0 : 0 ≤ (s - m - 1)) (k0 : ly_hv cst h 20024 0 = some (s)) (k1 : ly_hv cst h 28416 (m) = some 0) (l0 : hp_a l 0 94) (l1 : hp_i l 1 (m)) (l2 : hp_i l 2 (q)) (r0 : ∀ (h' : am_H) (y0 : Int32), y0.toInt = (-2) → ly_hy m_tt ly_TH h' → ly_fr cst [] h h' → h.length ≤ h'.length → Φ (some (.int y0), h', 0, 0)) : hp_F cst strs Φ D M 0 l [] h := by
  refine hp_arc c hM bm31_k hD [m, s, q] rfl hy (hp_Bc (z := m) rfl b0 t0 (hp_Bc (z := s) rfl b1 t1 (hp_Bc (z := q) rfl b2 t2 hp_Bn))) (hp_Fc (z := ((-1) + ((-1) * m + (1 * s + 0)))) rfl (by omega) hp_Fn) (hp_Kc (zi := (0 + 0)) (zv := (0 + (1 * s + 0))) k0 rfl rfl (by omega) (by omega) (hp_Kc (zi := (0 + (1 * m + 0))) (zv := (0 + 0)) k1 rfl rfl (by omega) (by omega) hp_Kn)) (hp_La l0 (hp_Li (z := (0 + (1 * m + 0))) l1 rfl (by omega) (hp_Li (z := (0 + (1 * q + 0))) l2 rfl (by omega) hp_Ln))) trivial ?_ ?_
  · intro p_9 hp ys l' st' h' hys a1_9 a2 a3 gZ gL gS
    cases hp
  · intro p_9 hp ys v_9 h' hys a1_9 a2 a3 gZ gS
    rcases List.mem_cons.mp hp with rfl | hp
    · obtain rfl := hp_y0 hys
      cases v_9 with
      | none => cases gS
      | some wz =>
        obtain ⟨y0, t0, s0_9, q0, -⟩ := hp_gSi (z := ((-2) + 0)) gS rfl
        cases s0_9
        exact r0 h' y0 (by omega) a1_9 a2 a3
    cases hp
theorem bm40_k : hp_chk 347 0 4 [(0, 0, 99), (1, 0, 100), (2, 0, 23), (3, (-2147483648), (-1))] [((-1), [(0, (-1)), (1, 1)])] [(0, .inr (.inr (.inl (some 94)))), (1, .inl (0, [(0, 1)])), (2, .inl (0, [(2, 1)]))] [] [(20024, (0, []), (0, [(1, 1)])), (28416, (0, [(0, 1)]), (0, [])), (30464, (0, [(0, 1)]), (0, [(3, 1)]))] [] 30 [] [([], 4, [(0, 0, 99), (1, 0, 100), (2, 0, 23), (3, (-2147483648), (-1))], [], [], [.inl ((-4), [])], [])] = true := by decide +kernel
theorem bm40 {cst : am_K} {strs : List Nat} {Φ : am_Q → Prop} {D : Nat} {M : am_M} {h : am_H} {l : am_L} (c : hp_C cst strs D) (hM : m_P[347]? = some M) (hD : (30 : Int) ≤ (D : Int) + 1) (hy : ly_hy m_tt ly_TH h) (m s q v : Int) (b0 : 0 ≤ m) (t0 : m ≤ 99) (b1 : 0 ≤ s) (t1 : s ≤ 100) (b2 : 0 ≤ q) (t2 : q ≤ 23) (b3 : (-2147483648) ≤ v) (t3 : v ≤ (-1)) (f0 : 0 ≤ (s - m - 1)) (k0 : ly_hv cst h 20024 0 = some (s)) (k1 : ly_hv cst h 28416 (m) = some 0) (k2 : ly_hv cst h 30464 (m) = some (v)) (l0 : hp_a l 0 94) (l1 : hp_i l 1 (m)) (l2 : hp_i l 2 (q)) (r0 : ∀ (h' : am_H) (y0 : Int32), y0.toInt = (-4) → ly_hy m_tt ly_TH h' → ly_fr cst [] h h' → h.length ≤ h'.length → Φ (some (.int y0), h', 0, 0)) : hp_F cst strs Φ D M 0 l [] h := by
  refine hp_arc c hM bm40_k hD [m, s, q, v] rfl hy (hp_Bc (z := m) rfl b0 t0 (hp_Bc (z := s) rfl b1 t1 (hp_Bc (z := q) rfl b2 t2 (hp_Bc (z := v) rfl b3 t3 hp_Bn)))) (hp_Fc (z := ((-1) + ((-1) * m + (1 * s + 0)))) rfl (by omega) hp_Fn) (hp_Kc (zi := (0 + 0)) (zv := (0 + (1 * s + 0))) k0 rfl rfl (by omega) (by omega) (hp_Kc (zi := (0 + (1 * m + 0))) (zv := (0 + 0)) k1 rfl rfl (by omega) (by omega) (hp_Kc (zi := (0 + (1 * m + 0))) (zv := (0 + (1 * v + 0))) k2 rfl rfl (by omega) (by omega) hp_Kn))) (hp_La l0 (hp_Li (z := (0 + (1 * m + 0))) l1 rfl (by omega) (hp_Li (z := (0 + (1 * q + 0))) l2 rfl (by omega) hp_Ln))) trivial ?_ ?_
  · intro p_9 hp ys l' st' h' hys a1_9 a2 a3 gZ gL gS
    cases hp
  · intro p_9 hp ys v h' hys a1_9 a2 a3 gZ gS
    rcases List.mem_cons.mp hp with rfl | hp
    · obtain rfl := hp_y0 hys
      cases v with
      | none => cases gS
      | some wz =>
        obtain ⟨y0, t0, s0_9, q0, -⟩ := hp_gSi (z := ((-4) + 0)) gS rfl
        cases s0_9
        exact r0 h' y0 (by omega) a1_9 a2 a3
    cases hp
theorem bm41_k : hp_chk 347 0 4 [(0, 0, 99), (1, 0, 100), (2, 0, 23), (3, 1, 2147483647)] [((-1), [(0, (-1)), (1, 1)])] [(0, .inr (.inr (.inl (some 94)))), (1, .inl (0, [(0, 1)])), (2, .inl (0, [(2, 1)]))] [] [(20024, (0, []), (0, [(1, 1)])), (28416, (0, [(0, 1)]), (0, [])), (30464, (0, [(0, 1)]), (0, [(3, 1)]))] [] 30 [] [([], 4, [(0, 0, 99), (1, 0, 100), (2, 0, 23), (3, 1, 2147483647)], [], [], [.inl ((-4), [])], [])] = true := by decide +kernel
theorem bm41 {cst : am_K} {strs : List Nat} {Φ : am_Q → Prop} {D : Nat} {M : am_M} {h : am_H} {l : am_L} (c : hp_C cst strs D) (hM : m_P[347]? = some M) (hD : (30 : Int) ≤ (D : Int) + 1) (hy : ly_hy m_tt ly_TH h) (m s q v : Int) (b0 : 0 ≤ m) (t0 : m ≤ 99) (b1 : 0 ≤ s) (t1 : s ≤ 100) (b2 : 0 ≤ q) (t2 : q ≤ 23) (b3 : 1 ≤ v) (t3 : v ≤ 2147483647) (f0 : 0 ≤ (s - m - 1)) (k0 : ly_hv cst h 20024 0 = some (s)) (k1 : ly_hv cst h 28416 (m) = some 0) (k2 : ly_hv cst h 30464 (m) = some (v)) (l0 : hp_a l 0 94) (l1 : hp_i l 1 (m)) (l2 : hp_i l 2 (q)) (r0 : ∀ (h' : am_H) (y0 : Int32), y0.toInt = (-4) → ly_hy m_tt ly_TH h' → ly_fr cst [] h h' → h.length ≤ h'.length → Φ (some (.int y0), h', 0, 0)) : hp_F cst strs Φ D M 0 l [] h := by
  refine hp_arc c hM bm41_k hD [m, s, q, v] rfl hy (hp_Bc (z := m) rfl b0 t0 (hp_Bc (z := s) rfl b1 t1 (hp_Bc (z := q) rfl b2 t2 (hp_Bc (z := v) rfl b3 t3 hp_Bn)))) (hp_Fc (z := ((-1) + ((-1) * m + (1 * s + 0)))) rfl (by omega) hp_Fn) (hp_Kc (zi := (0 + 0)) (zv := (0 + (1 * s + 0))) k0 rfl rfl (by omega) (by omega) (hp_Kc (zi := (0 + (1 * m + 0))) (zv := (0 + 0)) k1 rfl rfl (by omega) (by omega) (hp_Kc (zi := (0 + (1 * m + 0))) (zv := (0 + (1 * v + 0))) k2 rfl rfl (by omega) (by omega) hp_Kn))) (hp_La l0 (hp_Li (z := (0 + (1 * m + 0))) l1 rfl (by omega) (hp_Li (z := (0 + (1 * q + 0))) l2 rfl (by omega) hp_Ln))) trivial ?_ ?_
  · intro p_9 hp ys l' st' h' hys a1_9 a2 a3 gZ gL gS
    cases hp
  · intro p_9 hp ys v h' hys a1_9 a2 a3 gZ gS
    rcases List.mem_cons.mp hp with rfl | hp
    · obtain rfl := hp_y0 hys
      cases v with
      | none => cases gS
      | some wz =>
        obtain ⟨y0, t0, s0_9, q0, -⟩ := hp_gSi (z := ((-4) + 0)) gS rfl
        cases s0_9
        exact r0 h' y0 (by omega) a1_9 a2 a3
    cases hp
theorem bm5_k : hp_chk 347 0 3 [(0, 0, 99), (1, 0, 100), (2, 0, 23)] [((-1), [(0, (-1)), (1, 1)])] [(0, .inr (.inr (.inl (some 94)))), (1, .inl (0, [(0, 1)])), (2, .inl (0, [(2, 1)]))] [] [(20024, (0, []), (0, [(1, 1)])), (28416, (0, [(0, 1)]), (0, [])), (30464, (0, [(0, 1)]), (0, [])), (60020, (0, []), (1, []))] [28160] 40 [(60, ([(1, 0, (0, []))], 4, [(0, 0, 99), (1, 0, 100), (2, 0, 23), (3, 1, 2)], [], [(0, .inr (.inr (.inl (some 94)))), (1, .inl (0, [(0, 1)]))], [.inl (0, [(3, 1)]), .inl (0, [(0, 1)]), .inr (.inr (.inl (some 94)))], []))] [] = true := by decide +kernel
theorem bm5 {cst : am_K} {strs : List Nat} {Φ : am_Q → Prop} {D : Nat} {M : am_M} {h : am_H} {l : am_L} (c : hp_C cst strs D) (hM : m_P[347]? = some M) (hD : (40 : Int) ≤ (D : Int) + 1) (hy : ly_hy m_tt ly_TH h) (m s q : Int) (b0 : 0 ≤ m) (t0 : m ≤ 99) (b1 : 0 ≤ s) (t1 : s ≤ 100) (b2 : 0 ≤ q) (t2 : q ≤ 23) (f0 : 0 ≤ (s - m - 1)) (k0 : ly_hv cst h 20024 0 = some (s)) (k1 : ly_hv cst h 28416 (m) = some 0) (k2 : ly_hv cst h 30464 (m) = some 0) (k3 : ly_hv cst h 60020 0 = some 1) (l0 : hp_a l 0 94) (l1 : hp_i l 1 (m)) (l2 : hp_i l 2 (q)) (e0 : ∀ (l' : am_L) (h' : am_H) (v_9 : Int) (y0 : Int32) (y1 : Int32), y0.toInt = (v_9) → y1.toInt = (m) → ly_hy m_tt ly_TH h' → ly_fr cst [28160] h h' → h.length ≤ h'.length → 1 ≤ v_9 → v_9 ≤ 2 → hp_a l' 0 94 → hp_i l' 1 (m) → hp_F cst strs Φ D M 60 l' [.int y0, .int y1, .ref 94] h') : hp_F cst strs Φ D M 0 l [] h := by
  refine hp_arc c hM bm5_k hD [m, s, q] rfl hy (hp_Bc (z := m) rfl b0 t0 (hp_Bc (z := s) rfl b1 t1 (hp_Bc (z := q) rfl b2 t2 hp_Bn))) (hp_Fc (z := ((-1) + ((-1) * m + (1 * s + 0)))) rfl (by omega) hp_Fn) (hp_Kc (zi := (0 + 0)) (zv := (0 + (1 * s + 0))) k0 rfl rfl (by omega) (by omega) (hp_Kc (zi := (0 + (1 * m + 0))) (zv := (0 + 0)) k1 rfl rfl (by omega) (by omega) (hp_Kc (zi := (0 + (1 * m + 0))) (zv := (0 + 0)) k2 rfl rfl (by omega) (by omega) (hp_Kc (zi := (0 + 0)) (zv := (1 + 0)) k3 rfl rfl (by omega) (by omega) hp_Kn)))) (hp_La l0 (hp_Li (z := (0 + (1 * m + 0))) l1 rfl (by omega) (hp_Li (z := (0 + (1 * q + 0))) l2 rfl (by omega) hp_Ln))) trivial ?_ ?_
  · intro p_9 hp ys l' st' h' hys a1_9 a2 a3 gZ gL gS
    rcases List.mem_cons.mp hp with rfl | hp
    · obtain ⟨v_9, rfl⟩ := hp_y1 hys
      obtain ⟨y0, t0, rfl, q0, g0⟩ := hp_gSi (z := (0 + (1 * v_9 + 0))) gS rfl
      obtain ⟨y1, t1, rfl, q1_9, g1⟩ := hp_gSi (z := (0 + (1 * m + 0))) g0 rfl
      obtain ⟨t2, rfl, g2⟩ := hp_gSa g1 (by decide)
      cases hp_gSn g2
      exact e0 l' h' v_9 y0 y1 (by omega) (by omega) a1_9 a2 a3 (hp_gB (z := v_9) gZ.2.1 (List.mem_of_getElem? (i := 3) rfl) rfl).1 (hp_gB (z := v_9) gZ.2.1 (List.mem_of_getElem? (i := 3) rfl) rfl).2 (hp_gLa gL (List.mem_of_getElem? (i := 0) rfl) (by decide)) (hp_gLi (z := (0 + (1 * m + 0))) gL (List.mem_of_getElem? (i := 1) rfl) rfl (by omega))
    cases hp
  · intro p_9 hp ys v_9 h' hys a1_9 a2 a3 gZ gS
    cases hp
theorem bm6_k : hp_chk 347 63 1 [(0, 0, 99)] [] [(0, .inr (.inr (.inl (some 94)))), (1, .inl (0, [(0, 1)]))] [] [] [] 5 [] [([(1, 0, (0, []))], 2, [(0, 0, 99), (1, (-2147483648), 2147483647)], [], [], [.inl (0, [(1, 1)])], [])] = true := by decide +kernel
theorem bm6 {cst : am_K} {strs : List Nat} {Φ : am_Q → Prop} {D : Nat} {M : am_M} {h : am_H} {l : am_L} (c : hp_C cst strs D) (hM : m_P[347]? = some M) (hD : (5 : Int) ≤ (D : Int) + 1) (hy : ly_hy m_tt ly_TH h) (m : Int) (b0 : 0 ≤ m) (t0 : m ≤ 99) (l0 : hp_a l 0 94) (l1 : hp_i l 1 (m)) (r0 : ∀ (h' : am_H) (y_9 : Int) (y0 : Int32), y0.toInt = (y_9) → ly_hy m_tt ly_TH h' → ly_fr cst [] h h' → h.length ≤ h'.length → (-2147483648) ≤ y_9 → y_9 ≤ 2147483647 → Φ (some (.int y0), h', 0, 0)) : hp_F cst strs Φ D M 63 l [] h := by
  refine hp_arc c hM bm6_k hD [m] rfl hy (hp_Bc (z := m) rfl b0 t0 hp_Bn) hp_Fn hp_Kn (hp_La l0 (hp_Li (z := (0 + (1 * m + 0))) l1 rfl (by omega) hp_Ln)) trivial ?_ ?_
  · intro p_9 hp ys l' st' h' hys a1_9 a2 a3 gZ gL gS
    cases hp
  · intro p_9 hp ys v_9 h' hys a1_9 a2 a3 gZ gS
    rcases List.mem_cons.mp hp with rfl | hp
    · obtain ⟨y_9, rfl⟩ := hp_y1 hys
      cases v_9 with
      | none => cases gS
      | some wz =>
        obtain ⟨y0, t0, s0_9, q0, -⟩ := hp_gSi (z := (0 + (1 * y_9 + 0))) gS rfl
        cases s0_9
        exact r0 h' y_9 y0 (by omega) a1_9 a2 a3 (hp_gB (z := y_9) gZ.2.1 (List.mem_of_getElem? (i := 1) rfl) rfl).1 (hp_gB (z := y_9) gZ.2.1 (List.mem_of_getElem? (i := 1) rfl) rfl).2
    cases hp
theorem bn0_k : hp_chk 290 0 2 [(0, 0, 99), (1, 0, 2)] [] [(0, .inr (.inr (.inl (some 94)))), (1, .inl (0, [(0, 1)])), (2, .inl (0, [(1, 1)]))] [] [] [] 2 [(6, ([], 2, [(0, 0, 99), (1, 0, 2)], [], [(0, .inr (.inr (.inl (some 94)))), (1, .inl (0, [(0, 1)])), (2, .inl (0, [(1, 1)]))], [.inl (0, [(1, 1)]), .inl (0, [(0, 1)]), .inr (.inr (.inl (some 135)))], []))] [] = true := by decide +kernel
theorem bn0 {cst : am_K} {strs : List Nat} {Φ : am_Q → Prop} {D : Nat} {M : am_M} {h : am_H} {l : am_L} (c : hp_C cst strs D) (hM : m_P[290]? = some M) (hD : (2 : Int) ≤ (D : Int) + 1) (hy : ly_hy m_tt ly_TH h) (m v : Int) (b0 : 0 ≤ m) (t0 : m ≤ 99) (b1 : 0 ≤ v) (t1 : v ≤ 2) (l0 : hp_a l 0 94) (l1 : hp_i l 1 (m)) (l2 : hp_i l 2 (v)) (e0 : ∀ (l' : am_L) (h' : am_H) (y0 : Int32) (y1 : Int32), y0.toInt = (v) → y1.toInt = (m) → ly_hy m_tt ly_TH h' → ly_fr cst [] h h' → h.length ≤ h'.length → hp_a l' 0 94 → hp_i l' 1 (m) → hp_i l' 2 (v) → hp_F cst strs Φ D M 6 l' [.int y0, .int y1, .ref 135] h') : hp_F cst strs Φ D M 0 l [] h := by
  refine hp_arc c hM bn0_k hD [m, v] rfl hy (hp_Bc (z := m) rfl b0 t0 (hp_Bc (z := v) rfl b1 t1 hp_Bn)) hp_Fn hp_Kn (hp_La l0 (hp_Li (z := (0 + (1 * m + 0))) l1 rfl (by omega) (hp_Li (z := (0 + (1 * v + 0))) l2 rfl (by omega) hp_Ln))) trivial ?_ ?_
  · intro p_9 hp ys l' st' h' hys a1_9 a2 a3 gZ gL gS
    rcases List.mem_cons.mp hp with rfl | hp
    · obtain rfl := hp_y0 hys
      obtain ⟨y0, t0, rfl, q0, g0⟩ := hp_gSi (z := (0 + (1 * v + 0))) gS rfl
      obtain ⟨y1, t1, rfl, q1_9, g1⟩ := hp_gSi (z := (0 + (1 * m + 0))) g0 rfl
      obtain ⟨t2_9, rfl, g2⟩ := hp_gSa g1 (by decide)
      cases hp_gSn g2
      exact e0 l' h' y0 y1 (by omega) (by omega) a1_9 a2 a3 (hp_gLa gL (List.mem_of_getElem? (i := 0) rfl) (by decide)) (hp_gLi (z := (0 + (1 * m + 0))) gL (List.mem_of_getElem? (i := 1) rfl) rfl (by omega)) (hp_gLi (z := (0 + (1 * v + 0))) gL (List.mem_of_getElem? (i := 2) rfl) rfl (by omega))
    cases hp
  · intro p_9 hp ys v h' hys a1_9 a2 a3 gZ gS
    cases hp
theorem bn1_k : hp_chk 290 7 4 [(0, 0, 99), (1, 0, 2), (2, 0, 399), (3, 0, 100000)] [] [(0, .inr (.inr (.inl (some 94)))), (1, .inl (0, [(0, 1)])), (2, .inl (0, [(1, 1)]))] [] [(19977, (0, []), (0, [(2, 1)]))] [20054, 35584, 35840] 5 [] [([], 4, [(0, 0, 99), (1, 0, 2), (2, 0, 399), (3, 0, 100000)], [], [], [], [])] = true := by decide +kernel
theorem bn1 {cst : am_K} {strs : List Nat} {Φ : am_Q → Prop} {D : Nat} {M : am_M} {h : am_H} {l : am_L} (c : hp_C cst strs D) (hM : m_P[290]? = some M) (hD : (5 : Int) ≤ (D : Int) + 1) (hy : ly_hy m_tt ly_TH h) (m v d y : Int) (b0 : 0 ≤ m) (t0 : m ≤ 99) (b1 : 0 ≤ v) (t1 : v ≤ 2) (b2 : 0 ≤ d) (t2 : d ≤ 399) (b3 : 0 ≤ y) (t3 : y ≤ 100000) (k0 : ly_hv cst h 19977 0 = some (d)) (l0 : hp_a l 0 94) (l1 : hp_i l 1 (m)) (l2 : hp_i l 2 (v)) (r0 : ∀ (h' : am_H), ly_hy m_tt ly_TH h' → ly_fr cst [20054, 35584, 35840] h h' → h.length ≤ h'.length → Φ (none, h', 0, 0)) : hp_F cst strs Φ D M 7 l [] h := by
  refine hp_arc c hM bn1_k hD [m, v, d, y] rfl hy (hp_Bc (z := m) rfl b0 t0 (hp_Bc (z := v) rfl b1 t1 (hp_Bc (z := d) rfl b2 t2 (hp_Bc (z := y) rfl b3 t3 hp_Bn)))) hp_Fn (hp_Kc (zi := (0 + 0)) (zv := (0 + (1 * d + 0))) k0 rfl rfl (by omega) (by omega) hp_Kn) (hp_La l0 (hp_Li (z := (0 + (1 * m + 0))) l1 rfl (by omega) (hp_Li (z := (0 + (1 * v + 0))) l2 rfl (by omega) hp_Ln))) trivial ?_ ?_
  · intro p_9 hp ys l' st' h' hys a1_9 a2 a3 gZ gL gS
    cases hp
  · intro p_9 hp ys v h' hys a1_9 a2 a3 gZ gS
    rcases List.mem_cons.mp hp with rfl | hp
    · obtain rfl := hp_y0 hys
      have sv := hp_gSn gS
      cases v with
      | some wz => cases sv
      | none =>
        exact r0 h' a1_9 a2 a3
    cases hp
/-- what a store leaves, ghosts aside -/
theorem hp_stm7 {cst : am_K} {strs : List Nat} {Φ : am_Q → Prop} {D mi pc : Nat} {M : am_M} {l : am_L} {st : List Value} {h : am_H} {m : Nat} {x : Int32} {lo hi : Int} (hM : m_P[mi]? = some M) (hI : hp_isF mi pc 11 7 = true) (hy : ly_hy m_tt ly_TH h) (hm : 177 + 19 * (m + 1) ≤ h.length) (hk : (match ly_thm ly_TH 0 with
    | some (.inr (_, fs)) => (match sx_ch 8 7 fs with
      | some (.inl p_9) => decide (p_9 = (lo, hi))
      | _ => false)
    | _ => false) = true) (hT : (m_tt.getD 11 [])[7]? = some .int) (v0 : lo ≤ x.toInt) (v1 : x.toInt ≤ hi)
    (k : ∀ h', ly_hy m_tt ly_TH h' → h'.length = h.length → hp_p0 cst 45319 (m : Int) x.toInt h h' → hp_F cst strs Φ D M (pc + 3) l st h') : hp_F cst strs Φ D M pc l (.int x :: .ref (16 + (177 + 19 * m + 0)) :: st) h := by
  obtain ⟨fs, ht⟩ := hp_thm0
  rw [ht] at hk
  simp only at hk
  split at hk
  case h_2 => cases hk
  rename_i p_9 hp
  have hp' := of_decide_eq_true hk
  obtain ⟨xc, hx, vs, rfl, hlen, hfs⟩ := hy.2.2 m 0 _ hm ht
  have hx : h[177 + 19 * m + 0]? = some (.inr (11, vs)) := hx
  obtain ⟨u_9, hu, -⟩ := hfs _ _ hp
  have hl := (List.getElem?_eq_some_iff.mp hu).1
  have hh := (List.getElem?_eq_some_iff.mp hx).1
  unfold hp_isF at hI
  split at hI
  case h_2 => cases hI
  rename_i mm hmm
  rw [Bool.and_eq_true, sx_beqn] at hI
  obtain ⟨c0_9, hI⟩ := hI
  split at hI
  case h_2 => cases hI
  rename_i ix X_9 hX
  simp only [Bool.and_eq_true, sx_beqn] at hI
  obtain ⟨x1_9, x2_9⟩ := hI
  obtain ⟨M', hM', hmok, -⟩ := sx_tok_m mi mm hmm c0_9
  rw [hM] at hM'
  cases hM'
  have hfind := hmok.2.2 _ _ hX
  have hgd : (m_tt.getD 11 []).getD 7 .char = .int := by
    rw [List.getD_eq_getElem?_getD, hT]
    rfl
  have hs : am_s cst m_cl m_tt (.putfield ix) X_9 pc l (.int x :: .ref (16 + (177 + 19 * m + 0)) :: st) h = some (pc + 3, l, st, h.set (177 + 19 * m + 0) (.inr (11, vs.set 7 (.int x)))) := by
    have e16_9 : 16 + (177 + 19 * m + 0) - 16 = 177 + 19 * m + 0 := by omega
    have g16 : ¬ 16 + (177 + 19 * m + 0) < 16 := by omega
    simp only [am_s, if_neg g16, e16_9, hx, x1_9, x2_9, if_pos (show True ∧ 7 < vs.length from ⟨trivial, hl⟩), hgd]
    rfl
  have oth : ∀ r_9 i_9, (r_9 ≠ 45319 ∨ i_9 ≠ (m : Int)) → ly_h0 cst (h.set (177 + 19 * m + 0) (.inr (11, vs.set 7 (.int x)))) r_9 i_9 = ly_h0 cst h r_9 i_9 := fun r_9 i_9 hne => ly_h0_set2 (by decide) hx (fun er ei => by
    have : r_9 % 256 ≠ 7 := fun q_9 => hne.elim (fun z => z (by omega)) (fun z => z ei)
    simp only [ly_hm]
    rw [List.getElem?_set_ne (fun q_9 => this q_9.symm)])
  refine sx_Fin_step rfl (fun n_9 r_9 hgo => ⟨_, X_9, hfind, Or.inl ⟨_, hs, hgo⟩⟩) (k _ (ly_hy_set2 hy (by decide) hm fun t_9 ht' => ?_) (by rw [List.length_set]) ⟨?_, fun r' i' hne => ?_⟩)
  · rw [ht] at ht'
    cases ht'
    refine ⟨_, rfl, by rw [List.length_set]; exact hlen, fun k' f_9 hf => ?_⟩
    by_cases ek : k' = 7
    · subst ek
      rw [hp] at hf
      cases hf
      rw [hp']
      exact ⟨_, List.getElem?_set_self hl, x, rfl, v0, v1⟩
    · rw [List.getElem?_set_ne (Ne.symm ek)]
      exact hfs _ _ hf
  · have o : ly_h0 cst (h.set (177 + 19 * m + 0) (.inr (11, vs.set 7 (.int x)))) 45319 (m : Int) = ly_hm (h.set (177 + 19 * m + 0) (.inr (11, vs.set 7 (.int x))))[177 + 19 * m + 0]? 7 := ly_h0_of2 (z := m) (j := 0) (k := 7) (by decide) (by decide)
    rw [o, List.getElem?_set_self hh]
    simp only [ly_hm]
    rw [List.getElem?_set_self hl]
  · exact oth _ _ hne
theorem hp_fld1 {cst : am_K} {h : am_H} {m : Nat} {lo hi : Int} (hy : ly_hy m_tt ly_TH h) (hm : 177 + 19 * (m + 1) ≤ h.length) (hk : (match ly_thm ly_TH 0 with
    | some (.inr (_, fs)) => (match sx_ch 8 1 fs with
      | some (.inl p_9) => decide (p_9 = (lo, hi))
      | _ => false)
    | _ => false) = true) : ∃ v_9, ly_hv cst h 45313 (m : Int) = some v_9 ∧ lo ≤ v_9 ∧ v_9 ≤ hi := by
  obtain ⟨fs, ht⟩ := hp_thm0
  rw [ht] at hk
  simp only at hk
  split at hk
  case h_2 => cases hk
  rename_i p_9 hp
  have hp' := of_decide_eq_true hk
  obtain ⟨xc, hx, vs, rfl, hlen, hfs⟩ := hy.2.2 m 0 _ hm ht
  have hx : h[177 + 19 * m + 0]? = some (.inr (11, vs)) := hx
  obtain ⟨u_9, hu, y_9, rfl, y0, y1⟩ := hfs _ _ hp
  rw [hp'] at y0 y1
  refine ⟨y_9.toInt, ?_, y0, y1⟩
  rw [ly_hv0 (by decide)]
  have o : ly_h0 cst h 45313 (m : Int) = ly_hm h[177 + 19 * m + 0]? 1 := ly_h0_of2 (z := m) (j := 0) (k := 1) (by decide) (by decide)
  rw [o, hx]
  simp only [ly_hm]
  rw [hu]
theorem hp_fld7 {cst : am_K} {h : am_H} {m : Nat} {lo hi : Int} (hy : ly_hy m_tt ly_TH h) (hm : 177 + 19 * (m + 1) ≤ h.length) (hk : (match ly_thm ly_TH 0 with
    | some (.inr (_, fs)) => (match sx_ch 8 7 fs with
      | some (.inl p_9) => decide (p_9 = (lo, hi))
      | _ => false)
    | _ => false) = true) : ∃ v_9, ly_hv cst h 45319 (m : Int) = some v_9 ∧ lo ≤ v_9 ∧ v_9 ≤ hi := by
  obtain ⟨fs, ht⟩ := hp_thm0
  rw [ht] at hk
  simp only at hk
  split at hk
  case h_2 => cases hk
  rename_i p_9 hp
  have hp' := of_decide_eq_true hk
  obtain ⟨xc, hx, vs, rfl, hlen, hfs⟩ := hy.2.2 m 0 _ hm ht
  have hx : h[177 + 19 * m + 0]? = some (.inr (11, vs)) := hx
  obtain ⟨u_9, hu, y_9, rfl, y0, y1⟩ := hfs _ _ hp
  rw [hp'] at y0 y1
  refine ⟨y_9.toInt, ?_, y0, y1⟩
  rw [ly_hv0 (by decide)]
  have o : ly_h0 cst h 45319 (m : Int) = ly_hm h[177 + 19 * m + 0]? 7 := ly_h0_of2 (z := m) (j := 0) (k := 7) (by decide) (by decide)
  rw [o, hx]
  simp only [ly_hm]
  rw [hu]
theorem hp_stz {cst : am_K} {strs : List Nat} {Φ : am_Q → Prop} {D mi pc : Nat} {M : am_M} {l : am_L} {st : List Value} {h : am_H} {c n : Nat} {lo hi : Int} {x i : Int32} (hM : m_P[mi]? = some M) (hI : hp_isBs mi pc = true) (hy : ly_hy m_tt ly_TH h) (ht : ly_ths ly_TH c = some (.inl (.boolean, n, lo, hi))) (h0 : 0 ≤ i.toInt) (h1 : i.toInt < (n : Int)) (v0 : lo ≤ (vp_nar .boolean x).toInt) (v1 : (vp_nar .boolean x).toInt ≤ hi)
    (k : ∀ h', ly_hy m_tt ly_TH h' → h'.length = h.length → hp_p0 cst (256 * c) i.toInt (vp_nar .boolean x).toInt h h' → hp_F cst strs Φ D M (pc + 1) l st h') : hp_F cst strs Φ D M pc l (.int x :: .int i :: .ref (16 + c) :: st) h := by
  have hc_9 := ly_ths_lt ht
  obtain ⟨xc, hx, cc, rfl, f_9, rfl, hf⟩ := hy.2.1 _ _ ht
  unfold hp_isBs at hI
  split at hI
  case h_2 => cases hI
  rename_i m_9 hm_9
  rw [Bool.and_eq_true, sx_beqn] at hI
  obtain ⟨c0_9, hI⟩ := hI
  split at hI
  case h_2 => cases hI
  rename_i X_9 hX
  obtain ⟨M', hM', hmok, -⟩ := sx_tok_m mi m_9 hm_9 c0_9
  rw [hM] at hM'
  cases hM'
  have hfind := hmok.2.2 _ _ hX
  have en : i.toNatClampNeg = i.toInt.toNat := rfl
  have hlt : ¬ (i < 0 ∨ n ≤ i.toNatClampNeg) := by
    rintro (q_9 | q_9)
    · have := Int32.lt_iff_toInt_lt.mp q_9
      have z_9 : (0 : Int32).toInt = 0 := rfl
      omega
    · omega
  have hs : am_s cst m_cl m_tt .bastore X_9 pc l (.int x :: .int i :: .ref (16 + c) :: st) h = some (pc + 1, l, st, h.set c (.inl (.boolean, n, .inl (upd f_9 i.toNatClampNeg (vp_nar .boolean x))))) := by
    have e16_9 : 16 + c - 16 = c := by omega
    have g16 : ¬ 16 + c < 16 := by omega
    simp only [am_s, if_neg g16, e16_9, hx, if_neg hlt]
  have up_9 : ∀ j_9, upd f_9 i.toNatClampNeg (vp_nar .boolean x) j_9 = if j_9 = i.toNatClampNeg then vp_nar .boolean x else f_9 j_9 := fun j_9 => rfl
  refine sx_Fin_step rfl (fun n r_9 hgo => ⟨_, X_9, hfind, Or.inl ⟨_, hs, hgo⟩⟩) (k _ (ly_hy_set1 hy hc_9 fun t_9 ht' => ?_) (by rw [List.length_set]) (hp_p0_of hc_9 hx ?_ ?_))
  · rw [ht] at ht'
    cases ht'
    refine ⟨_, rfl, _, rfl, fun j_9 hj => ?_⟩
    rw [up_9]
    by_cases ej : j_9 = i.toNatClampNeg
    · rw [if_pos ej]; exact ⟨v0, v1⟩
    · rw [if_neg ej]; exact hf j_9 hj
  · simp only [ly_hs]
    rw [if_pos ⟨trivial, h0, by omega⟩, up_9, if_pos (by omega)]
  · intro k i' hne
    simp only [ly_hs]
    by_cases hk : k = 0 ∧ 0 ≤ i' ∧ i'.toNat < n
    · rw [if_pos hk, if_pos hk, up_9, if_neg]
      have := hne.resolve_left (fun q_9 => q_9 hk.1)
      omega
    · rw [if_neg hk, if_neg hk]
theorem nar_z1 {x : Int32} (x0 : 0 ≤ x.toInt) (x1 : x.toInt ≤ 1) : (vp_nar .boolean x).toInt = x.toInt := by
  by_cases z_9 : x.toInt = 0
  · have : x = 0 := Int32.toInt_inj.mp (z_9.trans rfl)
    rw [this]
    rfl
  · have : x = 1 := Int32.toInt_inj.mp ((show x.toInt = 1 by omega).trans rfl)
    rw [this]
    rfl
/-- the ghost of state 0 behind a state of 1 or more -/
theorem gz_put {cst : am_K} {g rs rp : Nat} {c : Int} (hg : ∀ (h : am_H) (i : Int), ly_hv cst h g i = gz_s (ly_h0 cst h rs) (ly_h0 cst h rp) c i) (hne : rp ≠ rs) {i v : Int} {h h' : am_H} (p : hp_p0 cst rs i v h h') : (1 ≤ v → ∀ z_9, ly_hv cst h g i = some z_9 → ly_hv cst h' g i = some 0) ∧ ∀ j_9 z_9, j_9 ≠ i → ly_hv cst h g j_9 = some z_9 → ly_hv cst h' g j_9 = some z_9 := by
  constructor
  · intro v1_9 z_9 hz
    rw [hg] at hz ⊢
    unfold gz_s at hz ⊢
    rw [p.1, p.2 rp i (Or.inl hne)]
    split at hz
    case h_2 => cases hz
    rename_i s_9 q_9 h1 h2
    rw [h2]
    simp only
    rw [if_neg (by omega)]
  · intro j_9 z_9 hj hz
    rw [hg] at hz ⊢
    unfold gz_s at hz ⊢
    rw [p.2 rs j_9 (Or.inr hj), p.2 rp j_9 (Or.inl hne)]
    exact hz
theorem gz_oth {cst : am_K} {g rs rp : Nat} {c : Int} (hg : ∀ (h : am_H) (i : Int), ly_hv cst h g i = gz_s (ly_h0 cst h rs) (ly_h0 cst h rp) c i) {r : Nat} {i v : Int} {h h' : am_H} (p : hp_p0 cst r i v h h') : ∀ j_9 z_9, j_9 ≠ i → ly_hv cst h g j_9 = some z_9 → ly_hv cst h' g j_9 = some z_9 := by
  intro j_9 z_9 hj hz
  rw [hg] at hz ⊢
  unfold gz_s at hz ⊢
  rw [p.2 rs j_9 (Or.inr hj), p.2 rp j_9 (Or.inr hj)]
  exact hz
theorem gz_c {cst : am_K} (h : am_H) (i : Int) : ly_hv cst h 60090 i = gz_s (ly_h0 cst h 45319) (ly_h0 cst h 45313) (-1) i := by
  rw [gh_hv (by decide) (by decide)]
  rfl
theorem gz_m {cst : am_K} (h : am_H) (i : Int) : ly_hv cst h 60091 i = gz_s (ly_h0 cst h 30464) (ly_h0 cst h 28416) 0 i := by
  rw [gh_hv (by decide) (by decide)]
  rfl
/-- what is left of state 0 -/
def bl_E (cst : am_K) (h h' : am_H) (g : Nat) (ok : Prop) (m : Int) : Prop := (¬ ok → ∀ j z, ly_hv cst h g j = some z → ly_hv cst h' g j = some z) ∧ (ok → (∀ z, ly_hv cst h g m = some z → ly_hv cst h' g m = some 0) ∧ ∀ j z, j ≠ m → ly_hv cst h g j = some z → ly_hv cst h' g j = some z)
def bl_ok (m q s : Int) (su st : Option Int) (c : Int) : Prop := 0 ≤ m ∧ m < s ∧ su = some c ∧ 0 ≤ q ∧ q ≤ 23 ∧ st = some 0
theorem bc_run {cst : am_K} {strs : List Nat} {D : Nat} {h : am_H} (c : hp_C cst strs D) (hD : (5 : Int) ≤ (D : Int) + 1) (hy : ly_hy m_tt ly_TH h) {xm xv xd : Int32} {s : Int} (m0 : 0 ≤ xm.toInt) (m1 : xm.toInt < s) (s1 : s ≤ 100) (ks : ly_hv cst h 7170 0 = some s) (ko : ly_hv cst h 7424 xm.toInt = some 1) (v0 : 1 ≤ xv.toInt) (v1 : xv.toInt ≤ 2) (d0 : 0 ≤ xd.toInt) (d1 : xd.toInt ≤ 399) :
    ∃ r_9, am_Run cst m_cl m_tt m_P strs sx_bi (D + 1) 63 [.ref 44, .int xm, .int xv, .int xd] h r_9 ∧ ∃ a_9 : Int32, r_9.1 = some (.int a_9) ∧ r_9.2.2.1 = 0 ∧ r_9.2.2.2 = 0 ∧ ly_hy m_tt ly_TH r_9.2.1 ∧ ly_fr cst [7182, 8704, 8960, 9216, 9472, 45319, 60090] h r_9.2.1 ∧ bl_E cst h r_9.2.1 60090 True xm.toInt ∧ a_9.toInt = xv.toInt := by
  obtain ⟨M_9, hM_9, hl⟩ := hp_M (mi := 63) (k := 4) (by decide +kernel)
  have go_9 : hp_F cst strs (fun r_9 : am_Q => ∃ a_9 : Int32, r_9.1 = some (.int a_9) ∧ r_9.2.2.1 = 0 ∧ r_9.2.2.2 = 0 ∧ ly_hy m_tt ly_TH r_9.2.1 ∧ ly_fr cst [7182, 8704, 8960, 9216, 9472, 45319, 60090] h r_9.2.1 ∧ bl_E cst h r_9.2.1 60090 True xm.toInt ∧ a_9.toInt = xv.toInt) D M_9 0 (lv_args 0 [.ref 44, .int xm, .int xv, .int xd]) [] h := by
    refine bc0 c hM_9 (by omega) hy xm.toInt s xv.toInt xd.toInt m0 (by omega) (by omega) s1 v0 v1 d0 d1 (by omega) ks ko rfl ⟨xm, rfl, rfl⟩ ⟨xv, rfl, rfl⟩ ⟨xd, rfl, rfl⟩ (fun l1 h1 y0 y1 f0_9 f1_9 f2_9 u1_9 u2_9 u3 g0 g1 g2 g3_9 => ?_)
    refine hp_stm7 (lo := -2147483648) (hi := 2147483647) hM_9 (by decide +kernel) u1_9 f2_9 (by decide +kernel) (by decide +kernel) y0.le_toInt y0.toInt_le (fun h2 q1_9 q2_9 q3_9 => ?_)
    rw [f0_9, f1_9] at q3_9
    obtain ⟨e1_9, e2_9⟩ := gz_put (cst := cst) gz_c (by decide) q3_9
    exact bc1 c hM_9 (by omega) q1_9 xm.toInt xv.toInt xd.toInt m0 (by omega) v0 v1 d0 d1 g0 g1 g2 g3_9 (fun h5 a_9 ha_9 t1_9 t2_9 t3_9 => ⟨a_9, rfl, rfl, rfl, t1_9, ly_fr_tr (hp_sub2 rfl u2_9) (ly_fr_tr (hp_p0_fr q3_9 (by decide) rfl rfl) (hp_sub2 rfl t2_9)), ⟨fun z_9 => absurd trivial z_9, fun _ => ⟨fun z_9 hz => t2_9 _ _ _ rfl (e1_9 v0 z_9 (u2_9 _ _ _ rfl hz)), fun j_9 z_9 hj hz => t2_9 _ _ _ rfl (e2_9 j_9 z_9 hj (u2_9 _ _ _ rfl hz))⟩⟩, ha_9⟩)
  obtain ⟨n', r_9, hgo, a_9, r1_9, r2, r3, r4⟩ := go_9
  simp only [Nat.zero_add] at r2 r3
  exact ⟨r_9, Or.inr ⟨M_9, n', hM_9, hl, hgo⟩, a_9, r1_9, r2, r3, r4⟩
theorem bn_run {cst : am_K} {strs : List Nat} {D : Nat} {h : am_H} (c : hp_C cst strs D) (hD : (5 : Int) ≤ (D : Int) + 1) (hy : ly_hy m_tt ly_TH h) {xm xv : Int32} {d : Int} (m0 : 0 ≤ xm.toInt) (m1 : xm.toInt ≤ 99) (v0 : 0 ≤ xv.toInt) (v1 : xv.toInt ≤ 2) (d0 : 0 ≤ d) (d1 : d ≤ 399) (kd : ly_hv cst h 19977 0 = some d) :
    ∃ r_9, am_Run cst m_cl m_tt m_P strs sx_bi (D + 1) 290 [.ref 94, .int xm, .int xv] h r_9 ∧ r_9.1 = none ∧ r_9.2.2.1 = 0 ∧ r_9.2.2.2 = 0 ∧ ly_hy m_tt ly_TH r_9.2.1 ∧ ly_fr cst [20054, 30464, 35584, 35840, 60091] h r_9.2.1 ∧ (ly_hv cst r_9.2.1 30464 xm.toInt = some xv.toInt ∧ (1 ≤ xv.toInt → ∀ z_9, ly_hv cst h 60091 xm.toInt = some z_9 → ly_hv cst r_9.2.1 60091 xm.toInt = some 0) ∧ ∀ j_9 z_9, j_9 ≠ xm.toInt → ly_hv cst h 60091 j_9 = some z_9 → ly_hv cst r_9.2.1 60091 j_9 = some z_9) := by
  obtain ⟨M_9, hM_9, hl⟩ := hp_M (mi := 290) (k := 3) (by decide +kernel)
  have go_9 : hp_F cst strs (fun r_9 : am_Q => r_9.1 = none ∧ r_9.2.2.1 = 0 ∧ r_9.2.2.2 = 0 ∧ ly_hy m_tt ly_TH r_9.2.1 ∧ ly_fr cst [20054, 30464, 35584, 35840, 60091] h r_9.2.1 ∧ (ly_hv cst r_9.2.1 30464 xm.toInt = some xv.toInt ∧ (1 ≤ xv.toInt → ∀ z_9, ly_hv cst h 60091 xm.toInt = some z_9 → ly_hv cst r_9.2.1 60091 xm.toInt = some 0) ∧ ∀ j_9 z_9, j_9 ≠ xm.toInt → ly_hv cst h 60091 j_9 = some z_9 → ly_hv cst r_9.2.1 60091 j_9 = some z_9)) D M_9 0 (lv_args 0 [.ref 94, .int xm, .int xv]) [] h := by
    refine bn0 c hM_9 (by omega) hy xm.toInt xv.toInt m0 m1 v0 v1 rfl ⟨xm, rfl, rfl⟩ ⟨xv, rfl, rfl⟩ (fun l1 h1 y0 y1 f0_9 f1_9 u1_9 u2_9 u3 g0 g1 g2 => ?_)
    refine hp_st0 (c := 119) hM_9 (by decide +kernel) u1_9 (show ly_ths ly_TH 119 = some (.inl (.int, 100, -2147483648, 2147483647)) from rfl) (by omega) (by omega) (by omega) (by omega) (fun h2 q1_9 q2_9 q3_9 => ?_)
    rw [f0_9, f1_9] at q3_9
    have q3_9 : hp_p0 cst 30464 xm.toInt xv.toInt h1 h2 := q3_9
    obtain ⟨e1_9, e2_9⟩ := gz_put (cst := cst) gz_m (by decide) q3_9
    have kd2 : ly_hv cst h2 19977 0 = some d := by
      rw [hp_p0_hv q3_9 (by decide) (by decide) rfl]
      exact u2_9 _ _ _ rfl kd
    exact bn1 c hM_9 (by omega) q1_9 xm.toInt xv.toInt d 0 m0 m1 v0 v1 d0 d1 (by decide) (by decide) kd2 g0 g1 g2 (fun h5 t1_9 t2_9 t3_9 => ⟨rfl, rfl, rfl, t1_9, ly_fr_tr (hp_sub2 rfl u2_9) (ly_fr_tr (hp_p0_fr q3_9 (by decide) rfl rfl) (hp_sub2 rfl t2_9)), t2_9 _ _ _ rfl (by rw [ly_hv0 (by decide)]; exact q3_9.1), fun v1 z_9 hz => t2_9 _ _ _ rfl (e1_9 v1 z_9 (u2_9 _ _ _ rfl hz)), fun j_9 z_9 hj hz => t2_9 _ _ _ rfl (e2_9 j_9 z_9 hj (u2_9 _ _ _ rfl hz))⟩)
  obtain ⟨n', r_9, hgo, r1_9, r2, r3, r4⟩ := go_9
  simp only [Nat.zero_add] at r2 r3
  exact ⟨r_9, Or.inr ⟨M_9, n', hM_9, hl, hgo⟩, r1_9, r2, r3, r4⟩
theorem bl_run {cst : am_K} {strs : List Nat} {D : Nat} {h : am_H} (c1 : hp_C cst strs D) (c : hp_C cst strs (D + 1)) (hD : (40 : Int) ≤ (D : Int) + 1) (hy : ly_hy m_tt ly_TH h) {xm xq : Int32} {s d : Int} (s0 : 0 ≤ s) (s1 : s ≤ 100) (d0 : 0 ≤ d) (d1 : d ≤ 399) (kd : ly_hv cst h 10 0 = some d) (ks : ly_hv cst h 7170 0 = some s) (ko : ∀ j_9, 0 ≤ j_9 → j_9 < s → ly_hv cst h 7424 j_9 = some 1) (kc : ∀ j_9, 0 ≤ j_9 → j_9 < s → ∃ su st, ly_hv cst h 45313 j_9 = some su ∧ ly_hv cst h 45319 j_9 = some st ∧ -2147483648 ≤ su ∧ su ≤ 2147483647 ∧ -2147483648 ≤ st ∧ st ≤ 2147483647) :
    ∃ r_9, am_Run cst m_cl m_tt m_P strs sx_bi (D + 1 + 1) 152 [.ref 16, .int xm, .int xq] h r_9 ∧ (fun r_9 : am_Q => ∃ a_9 : Int32, r_9.1 = some (.int a_9) ∧ r_9.2.2.1 = 0 ∧ r_9.2.2.2 = 0 ∧ ly_hy m_tt ly_TH r_9.2.1 ∧ ly_fr cst [7182, 8704, 8960, 9216, 9472, 45319, 60090] h r_9.2.1 ∧ bl_E cst h r_9.2.1 60090 (bl_ok xm.toInt xq.toInt s (ly_hv cst h 45313 xm.toInt) (ly_hv cst h 45319 xm.toInt) (-1)) xm.toInt) r_9 := by
  obtain ⟨M_9, hM_9, hl⟩ := hp_M (mi := 152) (k := 3) (by decide +kernel)
  have b0 := xm.le_toInt
  have b1 := xm.toInt_le
  have a0_9 := xq.le_toInt
  have a1_9 := xq.toInt_le
  have go_9 : hp_F cst strs (fun r_9 : am_Q => ∃ a_9 : Int32, r_9.1 = some (.int a_9) ∧ r_9.2.2.1 = 0 ∧ r_9.2.2.2 = 0 ∧ ly_hy m_tt ly_TH r_9.2.1 ∧ ly_fr cst [7182, 8704, 8960, 9216, 9472, 45319, 60090] h r_9.2.1 ∧ bl_E cst h r_9.2.1 60090 (bl_ok xm.toInt xq.toInt s (ly_hv cst h 45313 xm.toInt) (ly_hv cst h 45319 xm.toInt) (-1)) xm.toInt) (D + 1) M_9 0 (lv_args 0 [.ref 16, .int xm, .int xq]) [] h := by
    have no_9 : ¬ (bl_ok xm.toInt xq.toInt s (ly_hv cst h 45313 xm.toInt) (ly_hv cst h 45319 xm.toInt) (-1)) → ∀ (h' : am_H) (w_9 : Int32), ly_hy m_tt ly_TH h' → ly_fr cst [] h h' → h.length ≤ h'.length → (fun r_9 : am_Q => ∃ a_9 : Int32, r_9.1 = some (.int a_9) ∧ r_9.2.2.1 = 0 ∧ r_9.2.2.2 = 0 ∧ ly_hy m_tt ly_TH r_9.2.1 ∧ ly_fr cst [7182, 8704, 8960, 9216, 9472, 45319, 60090] h r_9.2.1 ∧ bl_E cst h r_9.2.1 60090 (bl_ok xm.toInt xq.toInt s (ly_hv cst h 45313 xm.toInt) (ly_hv cst h 45319 xm.toInt) (-1)) xm.toInt) (some (.int w_9), h', 0, 0) := fun nk h' w_9 w1_9 w2_9 w3_9 => ⟨w_9, rfl, rfl, rfl, w1_9, hp_sub2 rfl w2_9, fun _ j_9 z_9 hz => w2_9 _ _ _ rfl hz, fun ok_9 => absurd ok_9 nk⟩
    by_cases q1_9 : xm.toInt ≤ -1
    · exact bl0 c hM_9 (by omega) hy xm.toInt s xq.toInt b0 q1_9 s0 s1 a0_9 a1_9 ks rfl ⟨xm, rfl, rfl⟩ ⟨xq, rfl, rfl⟩ (fun h' w_9 hw w1_9 w2_9 w3_9 => no_9 (fun k => by have := k.1; omega) h' w_9 w1_9 w2_9 w3_9)
    by_cases q2_9 : s ≤ xm.toInt
    · exact bl1 c hM_9 (by omega) hy xm.toInt s xq.toInt (by omega) b1 s0 s1 a0_9 a1_9 (by omega) ks rfl ⟨xm, rfl, rfl⟩ ⟨xq, rfl, rfl⟩ (fun h' w_9 hw w1_9 w2_9 w3_9 => no_9 (fun k => by have := k.2.1; omega) h' w_9 w1_9 w2_9 w3_9)
    have ko := ko xm.toInt (by omega) (by omega)
    obtain ⟨su, st, k1_9, k2_9, e1_9, e2_9, e3_9, e4_9⟩ := kc xm.toInt (by omega) (by omega)
    by_cases q3_9 : su = -1
    rotate_left
    · have nk : ¬ (bl_ok xm.toInt xq.toInt s (ly_hv cst h 45313 xm.toInt) (ly_hv cst h 45319 xm.toInt) (-1)) := fun k => by
        have := k.2.2.1
        rw [k1_9] at this
        exact q3_9 (Option.some.inj this)
      by_cases q4_9 : su ≤ -2
      · exact bl20 c hM_9 (by omega) hy xm.toInt s xq.toInt su (by omega) (by omega) s0 s1 a0_9 a1_9 e1_9 q4_9 (by omega) ks ko k1_9 rfl ⟨xm, rfl, rfl⟩ ⟨xq, rfl, rfl⟩ (fun h' w_9 hw w1_9 w2_9 w3_9 => no_9 (nk) h' w_9 w1_9 w2_9 w3_9)
      · exact bl21 c hM_9 (by omega) hy xm.toInt s xq.toInt su (by omega) (by omega) s0 s1 a0_9 a1_9 (by omega) e2_9 (by omega) ks ko k1_9 rfl ⟨xm, rfl, rfl⟩ ⟨xq, rfl, rfl⟩ (fun h' w_9 hw w1_9 w2_9 w3_9 => no_9 (nk) h' w_9 w1_9 w2_9 w3_9)
    rw [q3_9] at k1_9
    by_cases q5_9 : xq.toInt ≤ -1
    · exact bl30 c hM_9 (by omega) hy xm.toInt s xq.toInt (by omega) (by omega) s0 s1 a0_9 q5_9 (by omega) ks ko k1_9 rfl ⟨xm, rfl, rfl⟩ ⟨xq, rfl, rfl⟩ (fun h' w_9 hw w1_9 w2_9 w3_9 => no_9 (fun k => by have := k.2.2.2.1; omega) h' w_9 w1_9 w2_9 w3_9)
    by_cases q6_9 : 24 ≤ xq.toInt
    · exact bl31 c hM_9 (by omega) hy xm.toInt s xq.toInt (by omega) (by omega) s0 s1 q6_9 a1_9 (by omega) ks ko k1_9 rfl ⟨xm, rfl, rfl⟩ ⟨xq, rfl, rfl⟩ (fun h' w_9 hw w1_9 w2_9 w3_9 => no_9 (fun k => by have := k.2.2.2.2.1; omega) h' w_9 w1_9 w2_9 w3_9)
    by_cases q7_9 : st = 0
    rotate_left
    · have nk : ¬ (bl_ok xm.toInt xq.toInt s (ly_hv cst h 45313 xm.toInt) (ly_hv cst h 45319 xm.toInt) (-1)) := fun k => by
        have := k.2.2.2.2.2
        rw [k2_9] at this
        exact q7_9 (Option.some.inj this)
      by_cases q8_9 : st ≤ -1
      · exact bl40 c hM_9 (by omega) hy xm.toInt s xq.toInt st (by omega) (by omega) s0 s1 (by omega) (by omega) e3_9 q8_9 (by omega) ks ko k1_9 k2_9 rfl ⟨xm, rfl, rfl⟩ ⟨xq, rfl, rfl⟩ (fun h' w_9 hw w1_9 w2_9 w3_9 => no_9 (nk) h' w_9 w1_9 w2_9 w3_9)
      · exact bl41 c hM_9 (by omega) hy xm.toInt s xq.toInt st (by omega) (by omega) s0 s1 (by omega) (by omega) (by omega) e4_9 (by omega) ks ko k1_9 k2_9 rfl ⟨xm, rfl, rfl⟩ ⟨xq, rfl, rfl⟩ (fun h' w_9 hw w1_9 w2_9 w3_9 => no_9 (nk) h' w_9 w1_9 w2_9 w3_9)
    rw [q7_9] at k2_9
    have ok_9 : bl_ok xm.toInt xq.toInt s (ly_hv cst h 45313 xm.toInt) (ly_hv cst h 45319 xm.toInt) (-1) := ⟨by omega, by omega, k1_9, by omega, by omega, k2_9⟩
    refine bl5 c hM_9 (by omega) hy xm.toInt s xq.toInt d (by omega) (by omega) s0 s1 (by omega) (by omega) d0 d1 (by omega) ks ko k1_9 k2_9 kd rfl ⟨xm, rfl, rfl⟩ ⟨xq, rfl, rfl⟩ (fun l1 h1 v_9 y0 y1 y2 f0_9 f1_9 f2_9 u1_9 u2_9 u3 v0_9 v1_9 g0 => ?_)
    obtain ⟨r_9, hrun, a_9, r1_9, r2, r3, rhy, rfr, rE_9, -⟩ := bc_run (xm := y2) (xv := y1) (xd := y0) (s := s) c1 (by omega) u1_9 (by omega) (by omega) s1 (u2_9 _ _ _ rfl ks) (by rw [f2_9]; exact u2_9 _ _ _ rfl ko) (by omega) (by omega) (by omega) (by omega)
    refine hp_call (mi := 152) (pc := 87) (tg := 63) (na := 4) (c := 28) (ci := 5) (st0 := [.int y0, .int y1, .int y2, .ref 44]) (st := []) (av := [.int y2, .int y1, .int y0]) hM_9 (by decide +kernel) u1_9 rfl rfl rfl (by decide) hrun r2 r3 ?_
    rw [r1_9]
    rw [f2_9] at rE_9
    obtain ⟨E1_9, E2⟩ := rE_9.2 trivial
    exact bl6 c hM_9 (by omega) rhy a_9.toInt a_9 rfl a_9.le_toInt a_9.toInt_le g0 (fun h5 w_9 hw t1_9 t2_9 t3_9 => ⟨w_9, rfl, rfl, rfl, t1_9, ly_fr_tr (hp_sub2 rfl u2_9) (ly_fr_tr rfr (hp_sub2 rfl t2_9)), fun z_9 => absurd ok_9 z_9, fun _ => ⟨fun z_9 hz => t2_9 _ _ _ rfl (E1_9 z_9 (u2_9 _ _ _ rfl hz)), fun j_9 z_9 hj hz => t2_9 _ _ _ rfl (E2 j_9 z_9 hj (u2_9 _ _ _ rfl hz))⟩⟩)
  obtain ⟨n', r_9, hgo, a_9, r1_9, r2, r3, r4⟩ := go_9
  simp only [Nat.zero_add] at r2 r3
  exact ⟨r_9, Or.inr ⟨M_9, n', hM_9, hl, hgo⟩, a_9, r1_9, r2, r3, r4⟩
theorem bj_run {cst : am_K} {strs : List Nat} {D : Nat} {h : am_H} (c1 : hp_C cst strs D) (c : hp_C cst strs (D + 1)) (hD : (40 : Int) ≤ (D : Int) + 1) (hy : ly_hy m_tt ly_TH h) {xm xq : Int32} {s d : Int} (s0 : 0 ≤ s) (s1 : s ≤ 100) (d0 : 0 ≤ d) (d1 : d ≤ 399) (kd : ly_hv cst h 19977 0 = some d) (ks : ly_hv cst h 20024 0 = some s) (kg : ly_hv cst h 60020 0 = some 1) (kc : ∀ j_9, 0 ≤ j_9 → j_9 < s → ∃ su st, ly_hv cst h 28416 j_9 = some su ∧ ly_hv cst h 30464 j_9 = some st ∧ (su = 0 ∨ su = 1) ∧ -2147483648 ≤ st ∧ st ≤ 2147483647) :
    ∃ r_9, am_Run cst m_cl m_tt m_P strs sx_bi (D + 1 + 1) 347 [.ref 94, .int xm, .int xq] h r_9 ∧ (fun r_9 : am_Q => ∃ a_9 : Int32, r_9.1 = some (.int a_9) ∧ r_9.2.2.1 = 0 ∧ r_9.2.2.2 = 0 ∧ ly_hy m_tt ly_TH r_9.2.1 ∧ ly_fr cst [20054, 28160, 30464, 35584, 35840, 60091] h r_9.2.1 ∧ bl_E cst h r_9.2.1 60091 (bl_ok xm.toInt xq.toInt s (ly_hv cst h 28416 xm.toInt) (ly_hv cst h 30464 xm.toInt) 0) xm.toInt) r_9 := by
  obtain ⟨M_9, hM_9, hl⟩ := hp_M (mi := 347) (k := 3) (by decide +kernel)
  have b0 := xm.le_toInt
  have b1 := xm.toInt_le
  have a0_9 := xq.le_toInt
  have a1_9 := xq.toInt_le
  have go_9 : hp_F cst strs (fun r_9 : am_Q => ∃ a_9 : Int32, r_9.1 = some (.int a_9) ∧ r_9.2.2.1 = 0 ∧ r_9.2.2.2 = 0 ∧ ly_hy m_tt ly_TH r_9.2.1 ∧ ly_fr cst [20054, 28160, 30464, 35584, 35840, 60091] h r_9.2.1 ∧ bl_E cst h r_9.2.1 60091 (bl_ok xm.toInt xq.toInt s (ly_hv cst h 28416 xm.toInt) (ly_hv cst h 30464 xm.toInt) 0) xm.toInt) (D + 1) M_9 0 (lv_args 0 [.ref 94, .int xm, .int xq]) [] h := by
    have no_9 : ¬ (bl_ok xm.toInt xq.toInt s (ly_hv cst h 28416 xm.toInt) (ly_hv cst h 30464 xm.toInt) 0) → ∀ (h' : am_H) (w_9 : Int32), ly_hy m_tt ly_TH h' → ly_fr cst [] h h' → h.length ≤ h'.length → (fun r_9 : am_Q => ∃ a_9 : Int32, r_9.1 = some (.int a_9) ∧ r_9.2.2.1 = 0 ∧ r_9.2.2.2 = 0 ∧ ly_hy m_tt ly_TH r_9.2.1 ∧ ly_fr cst [20054, 28160, 30464, 35584, 35840, 60091] h r_9.2.1 ∧ bl_E cst h r_9.2.1 60091 (bl_ok xm.toInt xq.toInt s (ly_hv cst h 28416 xm.toInt) (ly_hv cst h 30464 xm.toInt) 0) xm.toInt) (some (.int w_9), h', 0, 0) := fun nk h' w_9 w1_9 w2_9 w3_9 => ⟨w_9, rfl, rfl, rfl, w1_9, hp_sub2 rfl w2_9, fun _ j_9 z_9 hz => w2_9 _ _ _ rfl hz, fun ok_9 => absurd ok_9 nk⟩
    by_cases q1_9 : xm.toInt ≤ -1
    · exact bm0 c hM_9 (by omega) hy xm.toInt s xq.toInt b0 q1_9 s0 s1 a0_9 a1_9 ks rfl ⟨xm, rfl, rfl⟩ ⟨xq, rfl, rfl⟩ (fun h' w_9 hw w1_9 w2_9 w3_9 => no_9 (fun k => by have := k.1; omega) h' w_9 w1_9 w2_9 w3_9)
    by_cases q2_9 : s ≤ xm.toInt
    · exact bm1 c hM_9 (by omega) hy xm.toInt s xq.toInt (by omega) b1 s0 s1 a0_9 a1_9 (by omega) ks rfl ⟨xm, rfl, rfl⟩ ⟨xq, rfl, rfl⟩ (fun h' w_9 hw w1_9 w2_9 w3_9 => no_9 (fun k => by have := k.2.1; omega) h' w_9 w1_9 w2_9 w3_9)
    obtain ⟨su, st, k1_9, k2_9, e1_9, e3_9, e4_9⟩ := kc xm.toInt (by omega) (by omega)
    rcases e1_9 with e1_9 | e1_9
    rotate_left
    · rw [e1_9] at k1_9
      have nk : ¬ (bl_ok xm.toInt xq.toInt s (ly_hv cst h 28416 xm.toInt) (ly_hv cst h 30464 xm.toInt) 0) := fun k => by
        have := k.2.2.1
        rw [k1_9] at this
        exact absurd (Option.some.inj this) (by decide)
      exact bm2 c hM_9 (by omega) hy xm.toInt s xq.toInt (by omega) (by omega) s0 s1 a0_9 a1_9 (by omega) ks k1_9 rfl ⟨xm, rfl, rfl⟩ ⟨xq, rfl, rfl⟩ (fun h' w_9 hw w1_9 w2_9 w3_9 => no_9 (nk) h' w_9 w1_9 w2_9 w3_9)
    rw [e1_9] at k1_9
    by_cases q5_9 : xq.toInt ≤ -1
    · exact bm30 c hM_9 (by omega) hy xm.toInt s xq.toInt (by omega) (by omega) s0 s1 a0_9 q5_9 (by omega) ks k1_9 rfl ⟨xm, rfl, rfl⟩ ⟨xq, rfl, rfl⟩ (fun h' w_9 hw w1_9 w2_9 w3_9 => no_9 (fun k => by have := k.2.2.2.1; omega) h' w_9 w1_9 w2_9 w3_9)
    by_cases q6_9 : 24 ≤ xq.toInt
    · exact bm31 c hM_9 (by omega) hy xm.toInt s xq.toInt (by omega) (by omega) s0 s1 q6_9 a1_9 (by omega) ks k1_9 rfl ⟨xm, rfl, rfl⟩ ⟨xq, rfl, rfl⟩ (fun h' w_9 hw w1_9 w2_9 w3_9 => no_9 (fun k => by have := k.2.2.2.2.1; omega) h' w_9 w1_9 w2_9 w3_9)
    by_cases q7_9 : st = 0
    rotate_left
    · have nk : ¬ (bl_ok xm.toInt xq.toInt s (ly_hv cst h 28416 xm.toInt) (ly_hv cst h 30464 xm.toInt) 0) := fun k => by
        have := k.2.2.2.2.2
        rw [k2_9] at this
        exact q7_9 (Option.some.inj this)
      by_cases q8_9 : st ≤ -1
      · exact bm40 c hM_9 (by omega) hy xm.toInt s xq.toInt st (by omega) (by omega) s0 s1 (by omega) (by omega) e3_9 q8_9 (by omega) ks k1_9 k2_9 rfl ⟨xm, rfl, rfl⟩ ⟨xq, rfl, rfl⟩ (fun h' w_9 hw w1_9 w2_9 w3_9 => no_9 (nk) h' w_9 w1_9 w2_9 w3_9)
      · exact bm41 c hM_9 (by omega) hy xm.toInt s xq.toInt st (by omega) (by omega) s0 s1 (by omega) (by omega) (by omega) e4_9 (by omega) ks k1_9 k2_9 rfl ⟨xm, rfl, rfl⟩ ⟨xq, rfl, rfl⟩ (fun h' w_9 hw w1_9 w2_9 w3_9 => no_9 (nk) h' w_9 w1_9 w2_9 w3_9)
    rw [q7_9] at k2_9
    have ok_9 : bl_ok xm.toInt xq.toInt s (ly_hv cst h 28416 xm.toInt) (ly_hv cst h 30464 xm.toInt) 0 := ⟨by omega, by omega, k1_9, by omega, by omega, k2_9⟩
    refine bm5 c hM_9 (by omega) hy xm.toInt s xq.toInt (by omega) (by omega) s0 s1 (by omega) (by omega) (by omega) ks k1_9 k2_9 kg rfl ⟨xm, rfl, rfl⟩ ⟨xq, rfl, rfl⟩ (fun l1 h1 v_9 y0 y1 f0_9 f1_9 u1_9 u2_9 u3 v0_9 v1_9 g0 g1 => ?_)
    obtain ⟨r_9, hrun, r1_9, r2, r3, rhy, rfr, rE_9⟩ := bn_run (xm := y1) (xv := y0) (d := d) c1 (by omega) u1_9 (by omega) (by omega) (by omega) (by omega) d0 d1 (u2_9 _ _ _ rfl kd)
    refine hp_call (mi := 347) (pc := 60) (tg := 290) (na := 3) (c := 78) (ci := 12) (st0 := [.int y0, .int y1, .ref 94]) (st := []) (av := [.int y1, .int y0]) hM_9 (by decide +kernel) u1_9 rfl rfl rfl (by decide) hrun r2 r3 ?_
    rw [r1_9]
    rw [f1_9] at rE_9
    have E1_9 := rE_9.2.1 (by omega)
    have E2 := rE_9.2.2
    exact bm6 c hM_9 (by omega) rhy xm.toInt (by omega) (by omega) g0 g1 (fun h5 y_9 w_9 hw t1_9 t2_9 t3_9 y0' y1' => ⟨w_9, rfl, rfl, rfl, t1_9, ly_fr_tr (hp_sub2 rfl u2_9) (ly_fr_tr (hp_sub2 rfl rfr) (hp_sub2 rfl t2_9)), fun z_9 => absurd ok_9 z_9, fun _ => ⟨fun z_9 hz => t2_9 _ _ _ rfl (E1_9 z_9 (u2_9 _ _ _ rfl hz)), fun j_9 z_9 hj hz => t2_9 _ _ _ rfl (E2 j_9 z_9 hj (u2_9 _ _ _ rfl hz))⟩⟩)
  obtain ⟨n', r_9, hgo, a_9, r1_9, r2, r3, r4⟩ := go_9
  simp only [Nat.zero_add] at r2 r3
  exact ⟨r_9, Or.inr ⟨M_9, n', hM_9, hl, hgo⟩, a_9, r1_9, r2, r3, r4⟩
