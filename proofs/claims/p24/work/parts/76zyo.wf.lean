/-! PRINTED by wip/p2/hp_wf.py: bad of both; what is kept of the matters -/
theorem bq0_k : hq_chk [139] 143 0 2 [(0, (-2147483648), (-1)), (1, 0, 100)] [] [(0, .inr (.inr (.inl (some 16)))), (1, .inl (0, [(0, 1)]))] [] [(7170, (0, []), (0, [(1, 1)]))] [] 8 [] [([], 2, [(0, (-2147483648), (-1)), (1, 0, 100)], [], [], [.inl ((-2), [])], [])] = true := by decide +kernel
theorem bq0 {cst : am_K} {strs : List Nat} {Φ : am_Q → Prop} {D : Nat} {M : am_M} {h : am_H} {l : am_L} (c : hp_C cst strs D) (hM : m_P[143]? = some M) (hD : (8 : Int) ≤ (D : Int) + 1) (hy : ly_hy m_tt ly_TH h) (m s : Int) (b0 : (-2147483648) ≤ m) (t0 : m ≤ (-1)) (b1 : 0 ≤ s) (t1 : s ≤ 100) (k0 : ly_hv cst h 7170 0 = some (s)) (l0 : hp_a l 0 16) (l1 : hp_i l 1 (m)) (r0 : ∀ (h_9' : am_H) (y0 : Int32), y0.toInt = (-2) → ly_hy m_tt ly_TH h_9' → ly_fr cst [] h h_9' → h.length ≤ h_9'.length → Φ (some (.int y0), h_9', 0, 0)) : hp_F cst strs Φ D M 0 l [] h := by
  refine hq_arc c hM bq0_k hD [m, s] rfl hy (hp_Bc (z := m) rfl b0 t0 (hp_Bc (z := s) rfl b1 t1 hp_Bn)) hp_Fn (hp_Kc (zi := (0 + 0)) (zv := (0 + (1 * s + 0))) k0 rfl rfl (by omega) (by omega) hp_Kn) (hp_La l0 (hp_Li (z := (0 + (1 * m + 0))) l1 rfl (by omega) hp_Ln)) trivial ?_ ?_
  · intro p_9 hp ys l' st_9' h_9' hys a1_9 a2 a3 gZ gL gS
    cases hp
  · intro p_9 hp ys v_9 h_9' hys a1_9 a2 a3 gZ gS
    rcases List.mem_cons.mp hp with rfl | hp
    · obtain rfl := hp_y0 hys
      cases v_9 with
      | none => cases gS
      | some wz =>
        obtain ⟨y0, t0, s0_9, q0, -⟩ := hp_gSi (z := ((-2) + 0)) gS rfl
        cases s0_9
        exact r0 h_9' y0 (by omega) a1_9 a2 a3
    cases hp
theorem bq1_k : hq_chk [139] 143 0 2 [(0, 0, 2147483647), (1, 0, 100)] [(0, [(0, 1), (1, (-1))])] [(0, .inr (.inr (.inl (some 16)))), (1, .inl (0, [(0, 1)]))] [] [(7170, (0, []), (0, [(1, 1)]))] [] 8 [] [([], 2, [(0, 0, 2147483647), (1, 0, 100)], [], [], [.inl ((-2), [])], [])] = true := by decide +kernel
theorem bq1 {cst : am_K} {strs : List Nat} {Φ : am_Q → Prop} {D : Nat} {M : am_M} {h : am_H} {l : am_L} (c : hp_C cst strs D) (hM : m_P[143]? = some M) (hD : (8 : Int) ≤ (D : Int) + 1) (hy : ly_hy m_tt ly_TH h) (m s : Int) (b0 : 0 ≤ m) (t0 : m ≤ 2147483647) (b1 : 0 ≤ s) (t1 : s ≤ 100) (f0 : 0 ≤ (m - s)) (k0 : ly_hv cst h 7170 0 = some (s)) (l0 : hp_a l 0 16) (l1 : hp_i l 1 (m)) (r0 : ∀ (h_9' : am_H) (y0 : Int32), y0.toInt = (-2) → ly_hy m_tt ly_TH h_9' → ly_fr cst [] h h_9' → h.length ≤ h_9'.length → Φ (some (.int y0), h_9', 0, 0)) : hp_F cst strs Φ D M 0 l [] h := by
  refine hq_arc c hM bq1_k hD [m, s] rfl hy (hp_Bc (z := m) rfl b0 t0 (hp_Bc (z := s) rfl b1 t1 hp_Bn)) (hp_Fc (z := (0 + (1 * m + ((-1) * s + 0)))) rfl (by omega) hp_Fn) (hp_Kc (zi := (0 + 0)) (zv := (0 + (1 * s + 0))) k0 rfl rfl (by omega) (by omega) hp_Kn) (hp_La l0 (hp_Li (z := (0 + (1 * m + 0))) l1 rfl (by omega) hp_Ln)) trivial ?_ ?_
  · intro p_9 hp ys l' st_9' h_9' hys a1_9 a2 a3 gZ gL gS
    cases hp
  · intro p_9 hp ys v_9 h_9' hys a1_9 a2 a3 gZ gS
    rcases List.mem_cons.mp hp with rfl | hp
    · obtain rfl := hp_y0 hys
      cases v_9 with
      | none => cases gS
      | some wz =>
        obtain ⟨y0, t0, s0_9, q0, -⟩ := hp_gSi (z := ((-2) + 0)) gS rfl
        cases s0_9
        exact r0 h_9' y0 (by omega) a1_9 a2 a3
    cases hp
theorem bq20_k : hq_chk [139] 143 0 3 [(0, 0, 99), (1, 0, 100), (2, (-2147483648), (-2))] [((-1), [(0, (-1)), (1, 1)])] [(0, .inr (.inr (.inl (some 16)))), (1, .inl (0, [(0, 1)]))] [] [(7170, (0, []), (0, [(1, 1)])), (7424, (0, [(0, 1)]), (1, [])), (45313, (0, [(0, 1)]), (0, [(2, 1)]))] [] 8 [] [([], 3, [(0, 0, 99), (1, 0, 100), (2, (-2147483648), (-2))], [], [], [.inl ((-2), [])], [])] = true := by decide +kernel
theorem bq20 {cst : am_K} {strs : List Nat} {Φ : am_Q → Prop} {D : Nat} {M : am_M} {h : am_H} {l : am_L} (c : hp_C cst strs D) (hM : m_P[143]? = some M) (hD : (8 : Int) ≤ (D : Int) + 1) (hy : ly_hy m_tt ly_TH h) (m s q : Int) (b0 : 0 ≤ m) (t0 : m ≤ 99) (b1 : 0 ≤ s) (t1 : s ≤ 100) (b2 : (-2147483648) ≤ q) (t2 : q ≤ (-2)) (f0 : 0 ≤ (s - m - 1)) (k0 : ly_hv cst h 7170 0 = some (s)) (k1 : ly_hv cst h 7424 (m) = some 1) (k2 : ly_hv cst h 45313 (m) = some (q)) (l0 : hp_a l 0 16) (l1 : hp_i l 1 (m)) (r0 : ∀ (h_9' : am_H) (y0 : Int32), y0.toInt = (-2) → ly_hy m_tt ly_TH h_9' → ly_fr cst [] h h_9' → h.length ≤ h_9'.length → Φ (some (.int y0), h_9', 0, 0)) : hp_F cst strs Φ D M 0 l [] h := by
  refine hq_arc c hM bq20_k hD [m, s, q] rfl hy (hp_Bc (z := m) rfl b0 t0 (hp_Bc (z := s) rfl b1 t1 (hp_Bc (z := q) rfl b2 t2 hp_Bn))) (hp_Fc (z := ((-1) + ((-1) * m + (1 * s + 0)))) rfl (by omega) hp_Fn) (hp_Kc (zi := (0 + 0)) (zv := (0 + (1 * s + 0))) k0 rfl rfl (by omega) (by omega) (hp_Kc (zi := (0 + (1 * m + 0))) (zv := (1 + 0)) k1 rfl rfl (by omega) (by omega) (hp_Kc (zi := (0 + (1 * m + 0))) (zv := (0 + (1 * q + 0))) k2 rfl rfl (by omega) (by omega) hp_Kn))) (hp_La l0 (hp_Li (z := (0 + (1 * m + 0))) l1 rfl (by omega) hp_Ln)) trivial ?_ ?_
  · intro p_9 hp ys l' st_9' h_9' hys a1_9 a2 a3 gZ gL gS
    cases hp
  · intro p_9 hp ys v_9 h_9' hys a1_9 a2 a3 gZ gS
    rcases List.mem_cons.mp hp with rfl | hp
    · obtain rfl := hp_y0 hys
      cases v_9 with
      | none => cases gS
      | some wz =>
        obtain ⟨y0, t0, s0_9, q0, -⟩ := hp_gSi (z := ((-2) + 0)) gS rfl
        cases s0_9
        exact r0 h_9' y0 (by omega) a1_9 a2 a3
    cases hp
theorem bq21_k : hq_chk [139] 143 0 3 [(0, 0, 99), (1, 0, 100), (2, 0, 2147483647)] [((-1), [(0, (-1)), (1, 1)])] [(0, .inr (.inr (.inl (some 16)))), (1, .inl (0, [(0, 1)]))] [] [(7170, (0, []), (0, [(1, 1)])), (7424, (0, [(0, 1)]), (1, [])), (45313, (0, [(0, 1)]), (0, [(2, 1)]))] [] 8 [] [([], 3, [(0, 0, 99), (1, 0, 100), (2, 0, 2147483647)], [], [], [.inl ((-2), [])], [])] = true := by decide +kernel
theorem bq21 {cst : am_K} {strs : List Nat} {Φ : am_Q → Prop} {D : Nat} {M : am_M} {h : am_H} {l : am_L} (c : hp_C cst strs D) (hM : m_P[143]? = some M) (hD : (8 : Int) ≤ (D : Int) + 1) (hy : ly_hy m_tt ly_TH h) (m s q : Int) (b0 : 0 ≤ m) (t0 : m ≤ 99) (b1 : 0 ≤ s) (t1 : s ≤ 100) (b2 : 0 ≤ q) (t2 : q ≤ 2147483647) (f0 : 0 ≤ (s - m - 1)) (k0 : ly_hv cst h 7170 0 = some (s)) (k1 : ly_hv cst h 7424 (m) = some 1) (k2 : ly_hv cst h 45313 (m) = some (q)) (l0 : hp_a l 0 16) (l1 : hp_i l 1 (m)) (r0 : ∀ (h_9' : am_H) (y0 : Int32), y0.toInt = (-2) → ly_hy m_tt ly_TH h_9' → ly_fr cst [] h h_9' → h.length ≤ h_9'.length → Φ (some (.int y0), h_9', 0, 0)) : hp_F cst strs Φ D M 0 l [] h := by
  refine hq_arc c hM bq21_k hD [m, s, q] rfl hy (hp_Bc (z := m) rfl b0 t0 (hp_Bc (z := s) rfl b1 t1 (hp_Bc (z := q) rfl b2 t2 hp_Bn))) (hp_Fc (z := ((-1) + ((-1) * m + (1 * s + 0)))) rfl (by omega) hp_Fn) (hp_Kc (zi := (0 + 0)) (zv := (0 + (1 * s + 0))) k0 rfl rfl (by omega) (by omega) (hp_Kc (zi := (0 + (1 * m + 0))) (zv := (1 + 0)) k1 rfl rfl (by omega) (by omega) (hp_Kc (zi := (0 + (1 * m + 0))) (zv := (0 + (1 * q + 0))) k2 rfl rfl (by omega) (by omega) hp_Kn))) (hp_La l0 (hp_Li (z := (0 + (1 * m + 0))) l1 rfl (by omega) hp_Ln)) trivial ?_ ?_
  · intro p_9 hp ys l' st_9' h_9' hys a1_9 a2 a3 gZ gL gS
    cases hp
  · intro p_9 hp ys v_9 h_9' hys a1_9 a2 a3 gZ gS
    rcases List.mem_cons.mp hp with rfl | hp
    · obtain rfl := hp_y0 hys
      cases v_9 with
      | none => cases gS
      | some wz =>
        obtain ⟨y0, t0, s0_9, q0, -⟩ := hp_gSi (z := ((-2) + 0)) gS rfl
        cases s0_9
        exact r0 h_9' y0 (by omega) a1_9 a2 a3
    cases hp
theorem bq5_k : hq_chk [139] 143 0 2 [(0, 0, 99), (1, 0, 100)] [((-1), [(0, (-1)), (1, 1)])] [(0, .inr (.inr (.inl (some 16)))), (1, .inl (0, [(0, 1)]))] [] [(7170, (0, []), (0, [(1, 1)])), (7424, (0, [(0, 1)]), (1, [])), (45313, (0, [(0, 1)]), ((-1), []))] [] 8 [(23, ([], 2, [(0, 0, 99), (1, 0, 100)], [], [(0, .inr (.inr (.inl (some 16))))], [.inr (.inr (.inr (0, (0, [(0, 1)])))), .inr (.inr (.inl (some 44)))], []))] [] = true := by decide +kernel
theorem bq5 {cst : am_K} {strs : List Nat} {Φ : am_Q → Prop} {D : Nat} {M : am_M} {h : am_H} {l : am_L} (c : hp_C cst strs D) (hM : m_P[143]? = some M) (hD : (8 : Int) ≤ (D : Int) + 1) (hy : ly_hy m_tt ly_TH h) (m s : Int) (b0 : 0 ≤ m) (t0 : m ≤ 99) (b1 : 0 ≤ s) (t1 : s ≤ 100) (f0 : 0 ≤ (s - m - 1)) (k0 : ly_hv cst h 7170 0 = some (s)) (k1 : ly_hv cst h 7424 (m) = some 1) (k2 : ly_hv cst h 45313 (m) = some (-1)) (l0 : hp_a l 0 16) (l1 : hp_i l 1 (m)) (e0 : ∀ (l' : am_L) (h_9' : am_H) (y0 : Nat), (y0 : Int) = (m) → 177 + 19 * (y0 + 1) ≤ h_9'.length → ly_hy m_tt ly_TH h_9' → ly_fr cst [] h h_9' → h.length ≤ h_9'.length → hp_a l' 0 16 → hp_F cst strs Φ D M 23 l' [.ref (16 + (177 + 19 * y0 + 0)), .ref 44] h_9') : hp_F cst strs Φ D M 0 l [] h := by
  refine hq_arc c hM bq5_k hD [m, s] rfl hy (hp_Bc (z := m) rfl b0 t0 (hp_Bc (z := s) rfl b1 t1 hp_Bn)) (hp_Fc (z := ((-1) + ((-1) * m + (1 * s + 0)))) rfl (by omega) hp_Fn) (hp_Kc (zi := (0 + 0)) (zv := (0 + (1 * s + 0))) k0 rfl rfl (by omega) (by omega) (hp_Kc (zi := (0 + (1 * m + 0))) (zv := (1 + 0)) k1 rfl rfl (by omega) (by omega) (hp_Kc (zi := (0 + (1 * m + 0))) (zv := ((-1) + 0)) k2 rfl rfl (by omega) (by omega) hp_Kn))) (hp_La l0 (hp_Li (z := (0 + (1 * m + 0))) l1 rfl (by omega) hp_Ln)) trivial ?_ ?_
  · intro p_9 hp ys l' st_9' h_9' hys a1_9 a2 a3 gZ gL gS
    rcases List.mem_cons.mp hp with rfl | hp
    · obtain rfl := hp_y0 hys
      obtain ⟨y0, t0, rfl, q0, p0_9, g0⟩ := hp_gSm (z := (0 + (1 * m + 0))) gS rfl
      obtain ⟨t1, rfl, g1⟩ := hp_gSa g0 (by decide)
      cases hp_gSn g1
      exact e0 l' h_9' y0 (by omega) p0_9 a1_9 a2 a3 (hp_gLa gL (List.mem_of_getElem? (i := 0) rfl) (by decide))
    cases hp
  · intro p_9 hp ys v_9 h_9' hys a1_9 a2 a3 gZ gS
    cases hp
theorem bq6_k : hp_chk 143 26 1 [(0, (-2147483648), 2147483647)] [] [(0, .inr (.inr (.inl (some 16))))] [.inl (0, [(0, 1)])] [] [] 2 [] [([], 1, [(0, (-2147483648), 2147483647)], [], [], [.inl (0, [(0, 1)])], [])] = true := by decide +kernel
theorem bq6 {cst : am_K} {strs : List Nat} {Φ : am_Q → Prop} {D : Nat} {M : am_M} {h : am_H} {l : am_L} (c : hp_C cst strs D) (hM : m_P[143]? = some M) (hD : (2 : Int) ≤ (D : Int) + 1) (hy : ly_hy m_tt ly_TH h) (v : Int) (x0 : Int32) (hx0 : x0.toInt = (v)) (b0 : (-2147483648) ≤ v) (t0 : v ≤ 2147483647) (l0 : hp_a l 0 16) (r0 : ∀ (h_9' : am_H) (y0 : Int32), y0.toInt = (v) → ly_hy m_tt ly_TH h_9' → ly_fr cst [] h h_9' → h.length ≤ h_9'.length → Φ (some (.int y0), h_9', 0, 0)) : hp_F cst strs Φ D M 26 l [.int x0] h := by
  refine hp_arc c hM bq6_k hD [v] rfl hy (hp_Bc (z := v) rfl b0 t0 hp_Bn) hp_Fn hp_Kn (hp_La l0 hp_Ln) (hp_Si (z := (0 + (1 * v + 0))) rfl (by omega) trivial) ?_ ?_
  · intro p_9 hp ys l' st_9' h_9' hys a1_9 a2 a3 gZ gL gS
    cases hp
  · intro p_9 hp ys v h_9' hys a1_9 a2 a3 gZ gS
    rcases List.mem_cons.mp hp with rfl | hp
    · obtain rfl := hp_y0 hys
      cases v with
      | none => cases gS
      | some wz =>
        obtain ⟨y0, t0, s0_9, q0, -⟩ := hp_gSi (z := (0 + (1 * v + 0))) gS rfl
        cases s0_9
        exact r0 h_9' y0 (by omega) a1_9 a2 a3
    cases hp
theorem br1_k : hp_chk 342 0 2 [(0, (-2147483648), (-1)), (1, 0, 100)] [] [(0, .inr (.inr (.inl (some 94)))), (1, .inl (0, [(0, 1)]))] [] [(20024, (0, []), (0, [(1, 1)]))] [] 5 [] [([], 2, [(0, (-2147483648), (-1)), (1, 0, 100)], [], [], [.inl ((-2), [])], [])] = true := by decide +kernel
theorem br1 {cst : am_K} {strs : List Nat} {Φ : am_Q → Prop} {D : Nat} {M : am_M} {h : am_H} {l : am_L} (c : hp_C cst strs D) (hM : m_P[342]? = some M) (hD : (5 : Int) ≤ (D : Int) + 1) (hy : ly_hy m_tt ly_TH h) (m s : Int) (b0 : (-2147483648) ≤ m) (t0 : m ≤ (-1)) (b1 : 0 ≤ s) (t1 : s ≤ 100) (k0 : ly_hv cst h 20024 0 = some (s)) (l0 : hp_a l 0 94) (l1 : hp_i l 1 (m)) (r0 : ∀ (h_9' : am_H) (y0 : Int32), y0.toInt = (-2) → ly_hy m_tt ly_TH h_9' → ly_fr cst [] h h_9' → h.length ≤ h_9'.length → Φ (some (.int y0), h_9', 0, 0)) : hp_F cst strs Φ D M 0 l [] h := by
  refine hp_arc c hM br1_k hD [m, s] rfl hy (hp_Bc (z := m) rfl b0 t0 (hp_Bc (z := s) rfl b1 t1 hp_Bn)) hp_Fn (hp_Kc (zi := (0 + 0)) (zv := (0 + (1 * s + 0))) k0 rfl rfl (by omega) (by omega) hp_Kn) (hp_La l0 (hp_Li (z := (0 + (1 * m + 0))) l1 rfl (by omega) hp_Ln)) trivial ?_ ?_
  · intro p_9 hp ys l' st_9' h_9' hys a1_9 a2 a3 gZ gL gS
    cases hp
  · intro p_9 hp ys v_9 h_9' hys a1_9 a2 a3 gZ gS
    rcases List.mem_cons.mp hp with rfl | hp
    · obtain rfl := hp_y0 hys
      cases v_9 with
      | none => cases gS
      | some wz =>
        obtain ⟨y0, t0, s0_9, q0, -⟩ := hp_gSi (z := ((-2) + 0)) gS rfl
        cases s0_9
        exact r0 h_9' y0 (by omega) a1_9 a2 a3
    cases hp
theorem br2_k : hp_chk 342 0 2 [(0, 0, 2147483647), (1, 0, 100)] [(0, [(0, 1), (1, (-1))])] [(0, .inr (.inr (.inl (some 94)))), (1, .inl (0, [(0, 1)]))] [] [(20024, (0, []), (0, [(1, 1)]))] [] 5 [] [([], 2, [(0, 0, 2147483647), (1, 0, 100)], [], [], [.inl ((-2), [])], [])] = true := by decide +kernel
theorem br2 {cst : am_K} {strs : List Nat} {Φ : am_Q → Prop} {D : Nat} {M : am_M} {h : am_H} {l : am_L} (c : hp_C cst strs D) (hM : m_P[342]? = some M) (hD : (5 : Int) ≤ (D : Int) + 1) (hy : ly_hy m_tt ly_TH h) (m s : Int) (b0 : 0 ≤ m) (t0 : m ≤ 2147483647) (b1 : 0 ≤ s) (t1 : s ≤ 100) (f0 : 0 ≤ (m - s)) (k0 : ly_hv cst h 20024 0 = some (s)) (l0 : hp_a l 0 94) (l1 : hp_i l 1 (m)) (r0 : ∀ (h_9' : am_H) (y0 : Int32), y0.toInt = (-2) → ly_hy m_tt ly_TH h_9' → ly_fr cst [] h h_9' → h.length ≤ h_9'.length → Φ (some (.int y0), h_9', 0, 0)) : hp_F cst strs Φ D M 0 l [] h := by
  refine hp_arc c hM br2_k hD [m, s] rfl hy (hp_Bc (z := m) rfl b0 t0 (hp_Bc (z := s) rfl b1 t1 hp_Bn)) (hp_Fc (z := (0 + (1 * m + ((-1) * s + 0)))) rfl (by omega) hp_Fn) (hp_Kc (zi := (0 + 0)) (zv := (0 + (1 * s + 0))) k0 rfl rfl (by omega) (by omega) hp_Kn) (hp_La l0 (hp_Li (z := (0 + (1 * m + 0))) l1 rfl (by omega) hp_Ln)) trivial ?_ ?_
  · intro p_9 hp ys l' st_9' h_9' hys a1_9 a2 a3 gZ gL gS
    cases hp
  · intro p_9 hp ys v_9 h_9' hys a1_9 a2 a3 gZ gS
    rcases List.mem_cons.mp hp with rfl | hp
    · obtain rfl := hp_y0 hys
      cases v_9 with
      | none => cases gS
      | some wz =>
        obtain ⟨y0, t0, s0_9, q0, -⟩ := hp_gSi (z := ((-2) + 0)) gS rfl
        cases s0_9
        exact r0 h_9' y0 (by omega) a1_9 a2 a3
    cases hp
theorem br3_k : hp_chk 342 0 2 [(0, 0, 99), (1, 0, 100)] [((-1), [(0, (-1)), (1, 1)])] [(0, .inr (.inr (.inl (some 94)))), (1, .inl (0, [(0, 1)]))] [] [(20024, (0, []), (0, [(1, 1)])), (28416, (0, [(0, 1)]), (1, []))] [] 5 [] [([], 2, [(0, 0, 99), (1, 0, 100)], [], [], [.inl ((-2), [])], [])] = true := by decide +kernel
theorem br3 {cst : am_K} {strs : List Nat} {Φ : am_Q → Prop} {D : Nat} {M : am_M} {h : am_H} {l : am_L} (c : hp_C cst strs D) (hM : m_P[342]? = some M) (hD : (5 : Int) ≤ (D : Int) + 1) (hy : ly_hy m_tt ly_TH h) (m s : Int) (b0 : 0 ≤ m) (t0 : m ≤ 99) (b1 : 0 ≤ s) (t1 : s ≤ 100) (f0 : 0 ≤ (s - m - 1)) (k0 : ly_hv cst h 20024 0 = some (s)) (k1 : ly_hv cst h 28416 (m) = some 1) (l0 : hp_a l 0 94) (l1 : hp_i l 1 (m)) (r0 : ∀ (h_9' : am_H) (y0 : Int32), y0.toInt = (-2) → ly_hy m_tt ly_TH h_9' → ly_fr cst [] h h_9' → h.length ≤ h_9'.length → Φ (some (.int y0), h_9', 0, 0)) : hp_F cst strs Φ D M 0 l [] h := by
  refine hp_arc c hM br3_k hD [m, s] rfl hy (hp_Bc (z := m) rfl b0 t0 (hp_Bc (z := s) rfl b1 t1 hp_Bn)) (hp_Fc (z := ((-1) + ((-1) * m + (1 * s + 0)))) rfl (by omega) hp_Fn) (hp_Kc (zi := (0 + 0)) (zv := (0 + (1 * s + 0))) k0 rfl rfl (by omega) (by omega) (hp_Kc (zi := (0 + (1 * m + 0))) (zv := (1 + 0)) k1 rfl rfl (by omega) (by omega) hp_Kn)) (hp_La l0 (hp_Li (z := (0 + (1 * m + 0))) l1 rfl (by omega) hp_Ln)) trivial ?_ ?_
  · intro p_9 hp ys l' st_9' h_9' hys a1_9 a2 a3 gZ gL gS
    cases hp
  · intro p_9 hp ys v_9 h_9' hys a1_9 a2 a3 gZ gS
    rcases List.mem_cons.mp hp with rfl | hp
    · obtain rfl := hp_y0 hys
      cases v_9 with
      | none => cases gS
      | some wz =>
        obtain ⟨y0, t0, s0_9, q0, -⟩ := hp_gSi (z := ((-2) + 0)) gS rfl
        cases s0_9
        exact r0 h_9' y0 (by omega) a1_9 a2 a3
    cases hp
theorem br5_k : hp_chk 342 0 2 [(0, 0, 99), (1, 0, 100)] [((-1), [(0, (-1)), (1, 1)])] [(0, .inr (.inr (.inl (some 94)))), (1, .inl (0, [(0, 1)]))] [] [(20024, (0, []), (0, [(1, 1)])), (28416, (0, [(0, 1)]), (0, []))] [] 5 [(10, ([], 2, [(0, 0, 99), (1, 0, 100)], [], [(0, .inr (.inr (.inl (some 94))))], [.inl (0, [(0, 1)]), .inr (.inr (.inl (some 94)))], []))] [] = true := by decide +kernel
theorem br5 {cst : am_K} {strs : List Nat} {Φ : am_Q → Prop} {D : Nat} {M : am_M} {h : am_H} {l : am_L} (c : hp_C cst strs D) (hM : m_P[342]? = some M) (hD : (5 : Int) ≤ (D : Int) + 1) (hy : ly_hy m_tt ly_TH h) (m s : Int) (b0 : 0 ≤ m) (t0 : m ≤ 99) (b1 : 0 ≤ s) (t1 : s ≤ 100) (f0 : 0 ≤ (s - m - 1)) (k0 : ly_hv cst h 20024 0 = some (s)) (k1 : ly_hv cst h 28416 (m) = some 0) (l0 : hp_a l 0 94) (l1 : hp_i l 1 (m)) (e0 : ∀ (l' : am_L) (h_9' : am_H) (y0 : Int32), y0.toInt = (m) → ly_hy m_tt ly_TH h_9' → ly_fr cst [] h h_9' → h.length ≤ h_9'.length → hp_a l' 0 94 → hp_F cst strs Φ D M 10 l' [.int y0, .ref 94] h_9') : hp_F cst strs Φ D M 0 l [] h := by
  refine hp_arc c hM br5_k hD [m, s] rfl hy (hp_Bc (z := m) rfl b0 t0 (hp_Bc (z := s) rfl b1 t1 hp_Bn)) (hp_Fc (z := ((-1) + ((-1) * m + (1 * s + 0)))) rfl (by omega) hp_Fn) (hp_Kc (zi := (0 + 0)) (zv := (0 + (1 * s + 0))) k0 rfl rfl (by omega) (by omega) (hp_Kc (zi := (0 + (1 * m + 0))) (zv := (0 + 0)) k1 rfl rfl (by omega) (by omega) hp_Kn)) (hp_La l0 (hp_Li (z := (0 + (1 * m + 0))) l1 rfl (by omega) hp_Ln)) trivial ?_ ?_
  · intro p_9 hp ys l' st_9' h_9' hys a1_9 a2 a3 gZ gL gS
    rcases List.mem_cons.mp hp with rfl | hp
    · obtain rfl := hp_y0 hys
      obtain ⟨y0, t0, rfl, q0, g0⟩ := hp_gSi (z := (0 + (1 * m + 0))) gS rfl
      obtain ⟨t1, rfl, g1⟩ := hp_gSa g0 (by decide)
      cases hp_gSn g1
      exact e0 l' h_9' y0 (by omega) a1_9 a2 a3 (hp_gLa gL (List.mem_of_getElem? (i := 0) rfl) (by decide))
    cases hp
  · intro p_9 hp ys v_9 h_9' hys a1_9 a2 a3 gZ gS
    cases hp
theorem br6_k : hp_chk 342 13 1 [(0, (-2147483648), 2147483647)] [] [(0, .inr (.inr (.inl (some 94))))] [.inl (0, [(0, 1)])] [] [] 2 [] [([], 1, [(0, (-2147483648), 2147483647)], [], [], [.inl (0, [(0, 1)])], [])] = true := by decide +kernel
theorem br6 {cst : am_K} {strs : List Nat} {Φ : am_Q → Prop} {D : Nat} {M : am_M} {h : am_H} {l : am_L} (c : hp_C cst strs D) (hM : m_P[342]? = some M) (hD : (2 : Int) ≤ (D : Int) + 1) (hy : ly_hy m_tt ly_TH h) (v : Int) (x0 : Int32) (hx0 : x0.toInt = (v)) (b0 : (-2147483648) ≤ v) (t0 : v ≤ 2147483647) (l0 : hp_a l 0 94) (r0 : ∀ (h_9' : am_H) (y0 : Int32), y0.toInt = (v) → ly_hy m_tt ly_TH h_9' → ly_fr cst [] h h_9' → h.length ≤ h_9'.length → Φ (some (.int y0), h_9', 0, 0)) : hp_F cst strs Φ D M 13 l [.int x0] h := by
  refine hp_arc c hM br6_k hD [v] rfl hy (hp_Bc (z := v) rfl b0 t0 hp_Bn) hp_Fn hp_Kn (hp_La l0 hp_Ln) (hp_Si (z := (0 + (1 * v + 0))) rfl (by omega) trivial) ?_ ?_
  · intro p_9 hp ys l' st_9' h_9' hys a1_9 a2 a3 gZ gL gS
    cases hp
  · intro p_9 hp ys v h_9' hys a1_9 a2 a3 gZ gS
    rcases List.mem_cons.mp hp with rfl | hp
    · obtain rfl := hp_y0 hys
      cases v with
      | none => cases gS
      | some wz =>
        obtain ⟨y0, t0, s0_9, q0, -⟩ := hp_gSi (z := (0 + (1 * v + 0))) gS rfl
        cases s0_9
        exact r0 h_9' y0 (by omega) a1_9 a2 a3
    cases hp
/-- what bad answers -/
def bpP (X : List rX) (d y s wt ft : Int) (row ns vs : List Int) (sz m : Int) (su : Option Int) (cr a : Int) : Prop := (¬ (0 ≤ m ∧ m < sz ∧ su = some cr) → a = -2) ∧ ((0 ≤ m ∧ m < sz ∧ su = some cr) → bdP X d y s wt ft row ns vs a)
/-- a matter as to its indictment: deed, day, shire, words told, facts told, the words, the facts -/
def wfB (d y s wt ft : Int) : Prop := (-9223372036854775808 ≤ d ∧ d ≤ 9223372036854775807) ∧ (-2147483648 ≤ y ∧ y ≤ 2147483647) ∧ (-2147483648 ≤ s ∧ s ≤ 2147483647) ∧ (wt = 0 ∨ wt = 1) ∧ (ft = 0 ∨ ft = 1)
def wfC (cst : am_K) (h : am_H) (j : Int) (d y s wt ft : Int) (row ns vs : List Int) : Prop := ly_hv cst h 45312 j = some d ∧ ly_hv cst h 45317 j = some y ∧ ly_hv cst h 45315 j = some s ∧ ly_hv cst h 45571 j = some wt ∧ ly_hv cst h 46339 j = some ft ∧ (wt = 1 → wR cst h j row) ∧ (ft = 1 → rFm cst h j ns vs)
def wfM (cst : am_K) (h : am_H) (j : Int) (d y s wt ft : Int) (row ns vs : List Int) : Prop := ly_hv cst h 30208 j = some d ∧ ly_hv cst h 29696 j = some y ∧ ly_hv cst h 29184 j = some s ∧ ly_hv cst h 33536 j = some wt ∧ ly_hv cst h 33792 j = some ft ∧ (wt = 1 → wM cst h j row) ∧ (ft = 1 → rGg cst h j ns vs ∧ vs.length = ns.length ∧ ns.length ≤ 20 ∧ (∀ v ∈ vs, 0 ≤ v ∧ v ≤ 9999) ∧ ndl ns)
theorem wfM_g {cst : am_K} {h : am_H} {j : Int} {ns vs : List Int} (G : rGg cst h j ns vs ∧ vs.length = ns.length ∧ ns.length ≤ 20 ∧ (∀ v ∈ vs, 0 ≤ v ∧ v ≤ 9999) ∧ ndl ns) : rG cst h (2 * j) ns vs := rG_gh G.1 G.2.1 G.2.2.1 G.2.2.2.1 G.2.2.2.2
/-- the cells of a matter -/
def wcC (j : Int) (r : Nat) (i : Int) : Prop := ((r = 45312 ∨ r = 45315 ∨ r = 45317 ∨ r = 45570 ∨ r = 45571 ∨ r = 46338 ∨ r = 46339) ∧ i = j) ∨ ((r = 45824 ∨ r = 46592 ∨ r = 46848) ∧ 32 * j ≤ i ∧ i < 32 * j + 32)
def wcM (j : Int) (r : Nat) (i : Int) : Prop := ((r = 30208 ∨ r = 29696 ∨ r = 29184 ∨ r = 33280 ∨ r = 33536 ∨ r = 33792) ∧ i = j) ∨ (r = 33024 ∧ 30 * j ≤ i ∧ i < 30 * j + 30) ∨ (r = 60092 ∧ i = 2 * j) ∨ ((r = 60093 ∨ r = 60094) ∧ 40 * j ≤ i ∧ i < 40 * j + 20)
theorem wfC_k {cst : am_K} {h h' : am_H} {j : Int} {d y s wt ft : Int} {row ns vs : List Int} (C : wfC cst h j d y s wt ft row ns vs) (K : ∀ r_9 i_9 v_9, wcC j r_9 i_9 → ly_hv cst h r_9 i_9 = some v_9 → ly_hv cst h' r_9 i_9 = some v_9) : wfC cst h' j d y s wt ft row ns vs := by
  obtain ⟨a1_9, a2, a3, a4, a5, a6, a7⟩ := C
  refine ⟨K _ _ _ (Or.inl ⟨by decide, rfl⟩) a1_9, K _ _ _ (Or.inl ⟨by decide, rfl⟩) a2, K _ _ _ (Or.inl ⟨by decide, rfl⟩) a3, K _ _ _ (Or.inl ⟨by decide, rfl⟩) a4, K _ _ _ (Or.inl ⟨by decide, rfl⟩) a5, fun z_9 => ?_, fun z_9 => ?_⟩
  · obtain ⟨b1, b2, b3⟩ := a6 z_9
    exact ⟨b1, K _ _ _ (Or.inl ⟨by decide, rfl⟩) b2, fun i_9 hi_9 => ⟨K _ _ _ (Or.inr ⟨by decide, by omega, by omega⟩) (b3 i_9 hi_9).1, (b3 i_9 hi_9).2⟩⟩
  · obtain ⟨b1, b2, b3, b4, b5, b6⟩ := a7 z_9
    exact ⟨K _ _ _ (Or.inl ⟨by decide, rfl⟩) b1, fun k_9 hk => K _ _ _ (Or.inr ⟨by decide, by omega, by omega⟩) (b2 k_9 hk), fun k_9 hk => K _ _ _ (Or.inr ⟨by decide, by omega, by omega⟩) (b3 k_9 hk), b4, b5, b6⟩
theorem wfM_k {cst : am_K} {h h' : am_H} {j : Int} {d y s wt ft : Int} {row ns vs : List Int} (C : wfM cst h j d y s wt ft row ns vs) (K : ∀ r_9 i_9 v_9, wcM j r_9 i_9 → ly_hv cst h r_9 i_9 = some v_9 → ly_hv cst h' r_9 i_9 = some v_9) : wfM cst h' j d y s wt ft row ns vs := by
  obtain ⟨a1_9, a2, a3, a4, a5, a6, a7⟩ := C
  refine ⟨K _ _ _ (Or.inl ⟨by decide, rfl⟩) a1_9, K _ _ _ (Or.inl ⟨by decide, rfl⟩) a2, K _ _ _ (Or.inl ⟨by decide, rfl⟩) a3, K _ _ _ (Or.inl ⟨by decide, rfl⟩) a4, K _ _ _ (Or.inl ⟨by decide, rfl⟩) a5, fun z_9 => ?_, fun z_9 => ?_⟩
  · obtain ⟨b1, b2, b3⟩ := a6 z_9
    exact ⟨b1, K _ _ _ (Or.inl ⟨by decide, rfl⟩) b2, fun i_9 hi_9 => ⟨K _ _ _ (Or.inr (Or.inl ⟨rfl, by omega, by omega⟩)) (b3 i_9 hi_9).1, (b3 i_9 hi_9).2⟩⟩
  · obtain ⟨⟨b1, b2, b3⟩, b4, b5, b6⟩ := a7 z_9
    exact ⟨⟨K _ _ _ (Or.inr (Or.inr (Or.inl ⟨rfl, rfl⟩))) b1, fun k_9 hk => K _ _ _ (Or.inr (Or.inr (Or.inr ⟨by decide, by omega, by omega⟩))) (b2 k_9 hk), fun k_9 hk => K _ _ _ (Or.inr (Or.inr (Or.inr ⟨by decide, by omega, by omega⟩))) (b3 k_9 hk)⟩, b4, b5, b6⟩
def wf_J (cst : am_K) (hc hm : am_H) (sz : Int) : Prop := (∀ j, 0 ≤ j → j < sz → ∃ (d y s wt ft : Int) (row ns vs : List Int), wfB d y s wt ft ∧ wfC cst hc j d y s wt ft row ns vs ∧ wfM cst hm j d y s wt ft row ns vs) ∧ ∀ j, sz ≤ j → j ≤ 99 → ly_hv cst hm 33536 j = some 0 ∧ ly_hv cst hm 33792 j = some 0
def wf_H (cst : am_K) (hc hm : am_H) : Prop := ∃ sz, ly_hv cst hc 7170 0 = some sz ∧ wf_J cst hc hm sz
theorem wf_of {cst : am_K} {h1 h2 : am_H} {s : Int} (I : wf_H cst h1 h2) (k : ly_hv cst h1 7170 0 = some s) : wf_J cst h1 h2 s := by
  obtain ⟨s_9', k1_9, k2_9⟩ := I
  rw [k] at k1_9
  cases k1_9
  exact k2_9
theorem wf_Jk {cst : am_K} {hc hm qc qm : am_H} {sz : Int} (J : wf_J cst hc hm sz) (KC : ∀ j_9, 0 ≤ j_9 → j_9 < sz → ∀ r_9 i_9 v_9, wcC j_9 r_9 i_9 → ly_hv cst hc r_9 i_9 = some v_9 → ly_hv cst qc r_9 i_9 = some v_9) (KM : ∀ j_9, 0 ≤ j_9 → j_9 < sz → ∀ r_9 i_9 v_9, wcM j_9 r_9 i_9 → ly_hv cst hm r_9 i_9 = some v_9 → ly_hv cst qm r_9 i_9 = some v_9) (KZ : ∀ r_9 j_9 v_9, (r_9 = 33536 ∨ r_9 = 33792) → sz ≤ j_9 → ly_hv cst hm r_9 j_9 = some v_9 → ly_hv cst qm r_9 j_9 = some v_9) : wf_J cst qc qm sz := by
  refine ⟨fun j_9 j0 j1 => ?_, fun j_9 j0 j1 => ?_⟩
  · obtain ⟨d_9, y_9, s_9, wt, ft, row_9, ns, vs, B_9, C_9, M_9⟩ := J.1 j_9 j0 j1
    exact ⟨d_9, y_9, s_9, wt, ft, row_9, ns, vs, B_9, wfC_k C_9 (KC j_9 j0 j1), wfM_k M_9 (KM j_9 j0 j1)⟩
  · obtain ⟨a_9, b_9⟩ := J.2 j_9 j0 j1
    exact ⟨KZ _ _ _ (Or.inl rfl) j0 a_9, KZ _ _ _ (Or.inr rfl) j0 b_9⟩
theorem wcC_h {j : Int} {r : Nat} {i : Int} (w : wcC j r i) {ms : List Nat} (q : [45312, 45315, 45317, 45570, 45571, 46338, 46339, 45824, 46592, 46848].all (fun x_9 => !ly_has x_9 ms) = true) : ly_has r ms = false := by
  have hr : r ∈ [45312, 45315, 45317, 45570, 45571, 46338, 46339, 45824, 46592, 46848] := by
    simp only [List.mem_cons, List.not_mem_nil, or_false]
    rcases w with ⟨w, -⟩ | ⟨w, -⟩ <;> omega
  have := List.all_eq_true.mp q r hr
  simpa using this
theorem wcM_h {j : Int} {r : Nat} {i : Int} (w : wcM j r i) {ms : List Nat} (q : [30208, 29696, 29184, 33280, 33536, 33792, 33024, 60092, 60093, 60094].all (fun x_9 => !ly_has x_9 ms) = true) : ly_has r ms = false := by
  have hr : r ∈ [30208, 29696, 29184, 33280, 33536, 33792, 33024, 60092, 60093, 60094] := by
    simp only [List.mem_cons, List.not_mem_nil, or_false]
    rcases w with ⟨w, -⟩ | ⟨w, -⟩ | ⟨w, -⟩ | ⟨w, -⟩ <;> omega
  have := List.all_eq_true.mp q r hr
  simpa using this
theorem wf_Jmv {cst : am_K} {hc hm qc qm : am_H} {sz : Int} {mc mm : List Nat} (J : wf_J cst hc hm sz) (fc : ly_fr cst mc hc qc) (fm : ly_fr cst mm hm qm) (q1 : [45312, 45315, 45317, 45570, 45571, 46338, 46339, 45824, 46592, 46848].all (fun x => !ly_has x mc) = true) (q2 : [30208, 29696, 29184, 33280, 33536, 33792, 33024, 60092, 60093, 60094].all (fun x => !ly_has x mm) = true) : wf_J cst qc qm sz :=
  wf_Jk J (fun j _ _ r i v w e => fc _ _ _ (wcC_h w q1) e) (fun j _ _ r i v w e => fm _ _ _ (wcM_h w q2) e) (fun r j v hr _ e => fm _ _ _ (wcM_h (j := j) (i := j) (Or.inl ⟨by omega, rfl⟩) q2) e)
theorem wf_mv {cst : am_K} {hc hm qc qm : am_H} {mc mm : List Nat} (I : wf_H cst hc hm) (fc : ly_fr cst mc hc qc) (fm : ly_fr cst mm hm qm) (h7 : ly_has 7170 mc = false) (q1 : [45312, 45315, 45317, 45570, 45571, 46338, 46339, 45824, 46592, 46848].all (fun x_9 => !ly_has x_9 mc) = true) (q2 : [30208, 29696, 29184, 33280, 33536, 33792, 33024, 60092, 60093, 60094].all (fun x_9 => !ly_has x_9 mm) = true) : wf_H cst qc qm := by
  obtain ⟨s_9, k1_9, k2_9⟩ := I
  exact ⟨s_9, fc _ _ _ h7 k1_9, wf_Jmv k2_9 fc fm q1 q2⟩
/-- how a matter stands in both -/
theorem zr_cs {cst : am_K} {h1 h2 : am_H} {s : Int} (Z : zr_J cst h1 h2 s) (m : Int) : (¬ (0 ≤ m ∧ m < s ∧ ly_hv cst h1 45313 m = some (-1)) ∧ ¬ (0 ≤ m ∧ m < s ∧ ly_hv cst h2 28416 m = some 0)) ∨ ((0 ≤ m ∧ m < s ∧ ly_hv cst h1 45313 m = some (-1)) ∧ (0 ≤ m ∧ m < s ∧ ly_hv cst h2 28416 m = some 0) ∧ ((ly_hv cst h1 45319 m ≠ some 0 ∧ ly_hv cst h2 30464 m ≠ some 0) ∨ (ly_hv cst h1 45319 m = some 0 ∧ ly_hv cst h2 30464 m = some 0))) := by
  by_cases q1_9 : 0 ≤ m ∧ m < s
  rotate_left
  · exact Or.inl ⟨fun z_9 => q1_9 ⟨z_9.1, z_9.2.1⟩, fun z_9 => q1_9 ⟨z_9.1, z_9.2.1⟩⟩
  obtain ⟨⟨z_9, k1_9, k2_9⟩, p_9, w_9, p1_9, p2_9, p3_9⟩ := Z m q1_9.1 q1_9.2
  by_cases q2_9 : p_9 = -1
  rotate_left
  · refine Or.inl ⟨fun y_9 => ?_, fun y_9 => ?_⟩
    · have y_9 := y_9.2.2
      rw [p1_9] at y_9
      exact q2_9 (Option.some.inj y_9)
    · have y_9 := y_9.2.2
      rw [p2_9] at y_9
      exact q2_9 (p3_9.mpr (Option.some.inj y_9))
  have w0_9 := p3_9.mp q2_9
  rw [q2_9] at p1_9
  rw [w0_9] at p2_9
  have g1 := gz_one gz_c (by decide) (by decide) k1_9
  have g2 := gz_one gz_m (by decide) (by decide) k2_9
  refine Or.inr ⟨⟨q1_9.1, q1_9.2, p1_9⟩, ⟨q1_9.1, q1_9.2, p2_9⟩, ?_⟩
  by_cases q3_9 : z_9 = 1
  · exact Or.inr ⟨(g1.mpr q3_9).2, (g2.mpr q3_9).2⟩
  · exact Or.inl ⟨fun y_9 => q3_9 (g1.mp ⟨p1_9, y_9⟩), fun y_9 => q3_9 (g2.mp ⟨p2_9, y_9⟩)⟩
/-- the record of a matter, whatever the number -/
theorem wf_at {cst : am_K} {h1 h2 : am_H} {sz : Int} (J : wf_J cst h1 h2 sz) (m : Int) : ∃ (d_9 y_9 s_9 wt ft : Int) (row_9 ns vs : List Int), wfB d_9 y_9 s_9 wt ft ∧ (0 ≤ m → m < sz → wfC cst h1 m d_9 y_9 s_9 wt ft row_9 ns vs) ∧ (0 ≤ m → m < sz → wfM cst h2 m d_9 y_9 s_9 wt ft row_9 ns vs) := by
  by_cases q_9 : 0 ≤ m ∧ m < sz
  · obtain ⟨d_9, y_9, s_9, wt, ft, row_9, ns, vs, B_9, C_9, M_9⟩ := J.1 m q_9.1 q_9.2
    exact ⟨d_9, y_9, s_9, wt, ft, row_9, ns, vs, B_9, fun _ _ => C_9, fun _ _ => M_9⟩
  · exact ⟨0, 0, 0, 0, 0, [], [], [], ⟨⟨by decide, by decide⟩, ⟨by decide, by decide⟩, ⟨by decide, by decide⟩, Or.inl rfl, Or.inl rfl⟩, fun a_9 b_9 => absurd ⟨a_9, b_9⟩ q_9, fun a_9 b_9 => absurd ⟨a_9, b_9⟩ q_9⟩
theorem wcM_nfs {cst : am_K} {h h' : am_H} {L : List Nat} (a : nfs cst L h h') (q : [30208, 29696, 29184, 33280, 33536, 33792, 33024, 60092, 60093, 60094].all (fun x_9 => !ly_has x_9 L) = true) {j : Int} (j0 : 0 ≤ j) (j1 : j ≤ 99) : ∀ r_9 i_9 v_9, wcM j r_9 i_9 → ly_hv cst h r_9 i_9 = some v_9 → ly_hv cst h' r_9 i_9 = some v_9 := fun r_9 i_9 v_9 w_9 e_9 => a r_9 i_9 v_9 (wcM_h w_9 q) (fun z_9 => by rcases w_9 with ⟨w_9, x_9⟩ | ⟨w_9, x_9, y_9⟩ | ⟨w_9, x_9⟩ | ⟨w_9, x_9, y_9⟩ <;> omega) e_9
theorem wcM_nfr {cst : am_K} {h h' : am_H} {m : Int} {L : List Nat} (a : nfr cst m L h h') (q : [30208, 29696, 29184, 33280, 33536, 33792, 33024, 60092, 60093, 60094].all (fun x_9 => !ly_has x_9 L) = true) {j : Int} (j0 : 0 ≤ j) (j1 : j ≤ 99) (ne : j ≠ m) : ∀ r_9 i_9 v_9, wcM j r_9 i_9 → ly_hv cst h r_9 i_9 = some v_9 → ly_hv cst h' r_9 i_9 = some v_9 := fun r_9 i_9 v_9 w_9 e_9 => a r_9 i_9 v_9 (wcM_h w_9 q) (fun z_9 => by rcases w_9 with ⟨w_9, x_9⟩ | ⟨w_9, x_9, y_9⟩ | ⟨w_9, x_9⟩ | ⟨w_9, x_9, y_9⟩ <;> omega) (fun z_9 => by rcases w_9 with ⟨w_9, x_9⟩ | ⟨w_9, x_9, y_9⟩ | ⟨w_9, x_9⟩ | ⟨w_9, x_9, y_9⟩ <;> omega) e_9
theorem wcM_afr {cst : am_K} {h h' : am_H} {m : Int} {L : List Nat} (a : afr cst m L h h') (q : [30208, 29696, 29184, 33280, 33536, 33792, 33024, 60092, 60093, 60094].all (fun x_9 => !ly_has x_9 L) = true) {j : Int} (ne : j ≠ m) : ∀ r_9 i_9 v_9, wcM j r_9 i_9 → ly_hv cst h r_9 i_9 = some v_9 → ly_hv cst h' r_9 i_9 = some v_9 := fun r_9 i_9 v_9 w_9 e_9 => a r_9 i_9 v_9 (wcM_h w_9 q) (fun z_9 => by rcases w_9 with ⟨w_9, x_9⟩ | ⟨w_9, x_9, y_9⟩ | ⟨w_9, x_9⟩ | ⟨w_9, x_9, y_9⟩ <;> omega) (fun z_9 => by rcases w_9 with ⟨w_9, x_9⟩ | ⟨w_9, x_9, y_9⟩ | ⟨w_9, x_9⟩ | ⟨w_9, x_9, y_9⟩ <;> omega) (fun z_9 => by rcases w_9 with ⟨w_9, x_9⟩ | ⟨w_9, x_9, y_9⟩ | ⟨w_9, x_9⟩ | ⟨w_9, x_9, y_9⟩ <;> omega) e_9
theorem wcC_mfr {cst : am_K} {h h' : am_H} {B : Nat} {m : Int} {L : List Nat} (a : mfr cst B m L h h') (bB : B = 45568 ∨ B = 46336) (q : [45312, 45315, 45317, 45570, 45571, 46338, 46339, 45824, 46592, 46848].all (fun x_9 => !ly_has x_9 L) = true) {j : Int} (ne : j ≠ m) : ∀ r_9 i_9 v_9, wcC j r_9 i_9 → ly_hv cst h r_9 i_9 = some v_9 → ly_hv cst h' r_9 i_9 = some v_9 := fun r_9 i_9 v_9 w_9 e_9 => a r_9 i_9 v_9 (wcC_h w_9 q) (fun z_9 => by rcases w_9 with ⟨w_9, x_9⟩ | ⟨w_9, x_9, y_9⟩ <;> omega) (fun z_9 => by rcases w_9 with ⟨w_9, x_9⟩ | ⟨w_9, x_9, y_9⟩ <;> omega) e_9
/-- new words of the matter m -/
theorem wfC_words {cst : am_K} {h h' : am_H} {m : Int} {L : List Nat} {d y s wt ft : Int} {row ns vs ws : List Int} (C : wfC cst h m d y s wt ft row ns vs) (a : mfr cst 45568 m L h h') (q : [45312, 45315, 45317, 45570, 45571, 46338, 46339, 45824, 46592, 46848].all (fun x_9 => !ly_has x_9 L) = true) (R : wR cst h' m ws) (T : ly_hv cst h' 45571 m = some 1) : wfC cst h' m d y s 1 ft ws ns vs := by
  have K_9 : ∀ r_9 i_9 v_9, wcC m r_9 i_9 → r_9 ≠ 45570 → r_9 ≠ 45571 → r_9 ≠ 45824 → ly_hv cst h r_9 i_9 = some v_9 → ly_hv cst h' r_9 i_9 = some v_9 := fun r_9 i_9 v_9 w_9 n1_9 n2_9 n3_9 e_9 => a r_9 i_9 v_9 (wcC_h w_9 q) (fun z_9 => by omega) (fun z_9 => by rcases w_9 with ⟨w_9, x_9⟩ | ⟨w_9, x_9, y⟩ <;> omega) e_9
  obtain ⟨a1_9, a2, a3, a4, a5, a6, a7⟩ := C
  refine ⟨K_9 _ _ _ (Or.inl ⟨by decide, rfl⟩) (by decide) (by decide) (by decide) a1_9, K_9 _ _ _ (Or.inl ⟨by decide, rfl⟩) (by decide) (by decide) (by decide) a2, K_9 _ _ _ (Or.inl ⟨by decide, rfl⟩) (by decide) (by decide) (by decide) a3, T, K_9 _ _ _ (Or.inl ⟨by decide, rfl⟩) (by decide) (by decide) (by decide) a5, fun _ => R, fun z_9 => ?_⟩
  obtain ⟨b1, b2, b3, b4, b5, b6⟩ := a7 z_9
  exact ⟨K_9 _ _ _ (Or.inl ⟨by decide, rfl⟩) (by decide) (by decide) (by decide) b1, fun k_9 hk => K_9 _ _ _ (Or.inr ⟨by decide, by omega, by omega⟩) (by decide) (by decide) (by decide) (b2 k_9 hk), fun k_9 hk => K_9 _ _ _ (Or.inr ⟨by decide, by omega, by omega⟩) (by decide) (by decide) (by decide) (b3 k_9 hk), b4, b5, b6⟩
theorem wfC_facts {cst : am_K} {h h' : am_H} {m : Int} {L : List Nat} {d y s wt ft : Int} {row ns vs ns' vs' : List Int} (C : wfC cst h m d y s wt ft row ns vs) (a : mfr cst 46336 m L h h') (q : [45312, 45315, 45317, 45570, 45571, 46338, 46339, 45824, 46592, 46848].all (fun x_9 => !ly_has x_9 L) = true) (F : rFm cst h' m ns' vs') (T : ly_hv cst h' 46339 m = some 1) : wfC cst h' m d y s wt 1 row ns' vs' := by
  have K_9 : ∀ r_9 i_9 v_9, wcC m r_9 i_9 → r_9 ≠ 46338 → r_9 ≠ 46339 → r_9 ≠ 46592 → r_9 ≠ 46848 → ly_hv cst h r_9 i_9 = some v_9 → ly_hv cst h' r_9 i_9 = some v_9 := fun r_9 i_9 v_9 w_9 n1_9 n2_9 n3_9 n4_9 e_9 => a r_9 i_9 v_9 (wcC_h w_9 q) (fun z_9 => by omega) (fun z_9 => by omega) e_9
  obtain ⟨a1_9, a2, a3, a4, a5, a6, a7⟩ := C
  refine ⟨K_9 _ _ _ (Or.inl ⟨by decide, rfl⟩) (by decide) (by decide) (by decide) (by decide) a1_9, K_9 _ _ _ (Or.inl ⟨by decide, rfl⟩) (by decide) (by decide) (by decide) (by decide) a2, K_9 _ _ _ (Or.inl ⟨by decide, rfl⟩) (by decide) (by decide) (by decide) (by decide) a3, K_9 _ _ _ (Or.inl ⟨by decide, rfl⟩) (by decide) (by decide) (by decide) (by decide) a4, T, fun z_9 => ?_, fun _ => F⟩
  obtain ⟨b1, b2, b3⟩ := a6 z_9
  exact ⟨b1, K_9 _ _ _ (Or.inl ⟨by decide, rfl⟩) (by decide) (by decide) (by decide) (by decide) b2, fun i_9 hi_9 => ⟨K_9 _ _ _ (Or.inr ⟨by decide, by omega, by omega⟩) (by decide) (by decide) (by decide) (by decide) (b3 i_9 hi_9).1, (b3 i_9 hi_9).2⟩⟩
theorem wfM_words {cst : am_K} {h h' : am_H} {m : Int} {L : List Nat} {d y s wt ft : Int} {row ns vs ws : List Int} (C : wfM cst h m d y s wt ft row ns vs) (a : nfr cst m L h h') (q : [30208, 29696, 29184, 33280, 33536, 33792, 33024, 60092, 60093, 60094].all (fun x_9 => !ly_has x_9 L) = true) (R : wM cst h' m ws) (T : ly_hv cst h' 33536 m = some 1) : wfM cst h' m d y s 1 ft ws ns vs := by
  have K_9 : ∀ r_9 i_9 v_9, wcM m r_9 i_9 → r_9 ≠ 33280 → r_9 ≠ 33536 → r_9 ≠ 33024 → ly_hv cst h r_9 i_9 = some v_9 → ly_hv cst h' r_9 i_9 = some v_9 := fun r_9 i_9 v_9 w_9 n1_9 n2_9 n3_9 e_9 => a r_9 i_9 v_9 (wcM_h w_9 q) (fun z_9 => by omega) (fun z_9 => by omega) e_9
  obtain ⟨a1_9, a2, a3, a4, a5, a6, a7⟩ := C
  refine ⟨K_9 _ _ _ (Or.inl ⟨by decide, rfl⟩) (by decide) (by decide) (by decide) a1_9, K_9 _ _ _ (Or.inl ⟨by decide, rfl⟩) (by decide) (by decide) (by decide) a2, K_9 _ _ _ (Or.inl ⟨by decide, rfl⟩) (by decide) (by decide) (by decide) a3, T, K_9 _ _ _ (Or.inl ⟨by decide, rfl⟩) (by decide) (by decide) (by decide) a5, fun _ => R, fun z_9 => ?_⟩
  obtain ⟨⟨b1, b2, b3⟩, b4, b5, b6⟩ := a7 z_9
  exact ⟨⟨K_9 _ _ _ (Or.inr (Or.inr (Or.inl ⟨rfl, rfl⟩))) (by decide) (by decide) (by decide) b1, fun k_9 hk => K_9 _ _ _ (Or.inr (Or.inr (Or.inr ⟨by decide, by omega, by omega⟩))) (by decide) (by decide) (by decide) (b2 k_9 hk), fun k_9 hk => K_9 _ _ _ (Or.inr (Or.inr (Or.inr ⟨by decide, by omega, by omega⟩))) (by decide) (by decide) (by decide) (b3 k_9 hk)⟩, b4, b5, b6⟩
theorem wfM_facts {cst : am_K} {h h' : am_H} {m : Int} {L : List Nat} {d y s wt ft : Int} {row ns vs ns' vs' : List Int} (C : wfM cst h m d y s wt ft row ns vs) (a : afr cst m L h h') (q : [30208, 29696, 29184, 33280, 33536, 33792, 33024, 60092, 60093, 60094].all (fun x_9 => !ly_has x_9 L) = true) (G : rGg cst h' m ns' vs') (l2 : vs'.length = ns'.length) (l1 : ns'.length ≤ 20) (vb : ∀ v_9 ∈ vs', 0 ≤ v_9 ∧ v_9 ≤ 9999) (nd : ndl ns') (T : ly_hv cst h' 33792 m = some 1) : wfM cst h' m d y s wt 1 row ns' vs' := by
  have K_9 : ∀ r_9 i_9 v_9, wcM m r_9 i_9 → r_9 ≠ 33792 → r_9 ≠ 60092 → r_9 ≠ 60093 → r_9 ≠ 60094 → ly_hv cst h r_9 i_9 = some v_9 → ly_hv cst h' r_9 i_9 = some v_9 := fun r_9 i_9 v_9 w_9 n1_9 n2_9 n3_9 n4_9 e_9 => a r_9 i_9 v_9 (wcM_h w_9 q) (fun z_9 => by omega) (fun z_9 => by omega) (fun z_9 => by omega) e_9
  obtain ⟨a1_9, a2, a3, a4, a5, a6, a7⟩ := C
  refine ⟨K_9 _ _ _ (Or.inl ⟨by decide, rfl⟩) (by decide) (by decide) (by decide) (by decide) a1_9, K_9 _ _ _ (Or.inl ⟨by decide, rfl⟩) (by decide) (by decide) (by decide) (by decide) a2, K_9 _ _ _ (Or.inl ⟨by decide, rfl⟩) (by decide) (by decide) (by decide) (by decide) a3, K_9 _ _ _ (Or.inl ⟨by decide, rfl⟩) (by decide) (by decide) (by decide) (by decide) a4, T, fun z_9 => ?_, fun _ => ⟨G, l2, l1, vb, nd⟩⟩
  obtain ⟨b1, b2, b3⟩ := a6 z_9
  exact ⟨b1, K_9 _ _ _ (Or.inl ⟨by decide, rfl⟩) (by decide) (by decide) (by decide) (by decide) b2, fun i_9 hi_9 => ⟨K_9 _ _ _ (Or.inr (Or.inl ⟨rfl, by omega, by omega⟩)) (by decide) (by decide) (by decide) (by decide) (b3 i_9 hi_9).1, (b3 i_9 hi_9).2⟩⟩
/-- one matter told anew, the others as they were -/
theorem wf_set {cst : am_K} {hc hm qc qm : am_H} {sz m : Int} (J : wf_J cst hc hm sz) (m1 : m < sz) (KC : ∀ j_9, j_9 ≠ m → ∀ r_9 i_9 v_9, wcC j_9 r_9 i_9 → ly_hv cst hc r_9 i_9 = some v_9 → ly_hv cst qc r_9 i_9 = some v_9) (KM : ∀ j_9, 0 ≤ j_9 → j_9 ≤ 99 → j_9 ≠ m → ∀ r_9 i_9 v_9, wcM j_9 r_9 i_9 → ly_hv cst hm r_9 i_9 = some v_9 → ly_hv cst qm r_9 i_9 = some v_9) (sz0 : 0 ≤ sz) (sz1 : sz ≤ 100) (N : ∀ (d_9 y_9 s_9 wt ft : Int) (row_9 ns vs : List Int), wfB d_9 y_9 s_9 wt ft → wfC cst hc m d_9 y_9 s_9 wt ft row_9 ns vs → wfM cst hm m d_9 y_9 s_9 wt ft row_9 ns vs → ∃ (d_9' y_9' s_9' wt' ft' : Int) (row_9' ns' vs' : List Int), wfB d_9' y_9' s_9' wt' ft' ∧ wfC cst qc m d_9' y_9' s_9' wt' ft' row_9' ns' vs' ∧ wfM cst qm m d_9' y_9' s_9' wt' ft' row_9' ns' vs') : wf_J cst qc qm sz := by
  refine ⟨fun j_9 j0 j1 => ?_, fun j_9 j0 j1 => ?_⟩
  · obtain ⟨d_9, y_9, s_9, wt, ft, row_9, ns, vs, B_9, C_9, M_9⟩ := J.1 j_9 j0 j1
    by_cases e_9 : j_9 = m
    · subst e_9
      exact N d_9 y_9 s_9 wt ft row_9 ns vs B_9 C_9 M_9
    · exact ⟨d_9, y_9, s_9, wt, ft, row_9, ns, vs, B_9, wfC_k C_9 (KC j_9 e_9), wfM_k M_9 (KM j_9 j0 (by omega) e_9)⟩
  · obtain ⟨a_9, b_9⟩ := J.2 j_9 j0 j1
    exact ⟨KM j_9 (by omega) j1 (by omega) _ _ _ (Or.inl ⟨by decide, rfl⟩) a_9, KM j_9 (by omega) j1 (by omega) _ _ _ (Or.inl ⟨by decide, rfl⟩) b_9⟩
/-- words of both -/
theorem wf_words {cst : am_K} {h1 h2 q1 q2 : am_H} {s m a b : Int} {res : Option (List Int)} (Z : zr_J cst h1 h2 s) (J : wf_J cst h1 h2 s) (s0 : 0 ≤ s) (s1 : s ≤ 100) (fc : mfr cst 45568 m wq_mods h1 q1) (C : wdP res s m (ly_hv cst h1 45313 m) (ly_hv cst h1 45319 m) (-1) a (ly_fr cst wq_mods h1 q1) (fun ws_9 => wR cst q1 m ws_9 ∧ ly_hv cst q1 45571 m = some 1)) (fm : nfr cst m wo_mods h2 q2) (M : wdP res s m (ly_hv cst h2 28416 m) (ly_hv cst h2 30464 m) 0 b (nfs cst wo_mods h2 q2) (fun ws_9 => wM cst q2 m ws_9 ∧ ly_hv cst q2 33536 m = some 1)) : a = b ∧ wf_J cst q1 q2 s := by
  have keep_9 : ly_fr cst wq_mods h1 q1 → nfs cst wo_mods h2 q2 → wf_J cst q1 q2 s := fun f_9 g_9 => wf_Jk J (fun j_9 _ _ r_9 i_9 v_9 w_9 e_9 => f_9 _ _ _ (wcC_h w_9 rfl) e_9) (fun j_9 j0 j1 => wcM_nfs g_9 rfl j0 (by omega)) (fun r_9 j_9 v_9 hr _ e_9 => g_9 r_9 j_9 v_9 (by rcases hr with rfl | rfl <;> rfl) (fun z_9 => by omega) e_9)
  rcases zr_cs Z m with ⟨n1_9, n2_9⟩ | ⟨o1, o2, ⟨t1_9, t2_9⟩ | ⟨t1_9, t2_9⟩⟩
  · obtain ⟨e1_9, k1_9⟩ := C.1 n1_9
    obtain ⟨e2_9, k2_9⟩ := M.1 n2_9
    exact ⟨by rw [e1_9, e2_9], keep_9 k1_9 k2_9⟩
  · obtain ⟨e1_9, k1_9⟩ := (C.2 o1).1 t1_9
    obtain ⟨e2_9, k2_9⟩ := (M.2 o2).1 t2_9
    exact ⟨by rw [e1_9, e2_9], keep_9 k1_9 k2_9⟩
  · have C := (C.2 o1).2 t1_9
    have M := (M.2 o2).2 t2_9
    cases res with
    | none =>
      obtain ⟨e1_9, k1_9⟩ := C.1 rfl
      obtain ⟨e2_9, k2_9⟩ := M.1 rfl
      exact ⟨by rw [e1_9, e2_9], keep_9 k1_9 k2_9⟩
    | some ws_9 =>
      obtain ⟨e1_9, R1, T1⟩ := C.2 ws_9 rfl
      obtain ⟨e2_9, R2, T2⟩ := M.2 ws_9 rfl
      exact ⟨by rw [e1_9, e2_9], wf_set J o1.2.1 (fun j_9 ne_9 => wcC_mfr fc (Or.inl rfl) rfl ne_9) (fun j_9 j0 j1 ne_9 => wcM_nfr fm rfl j0 j1 ne_9) s0 s1 (fun d_9 y_9 s_9' wt ft row_9 ns vs B_9 kC_9 kM => ⟨d_9, y_9, s_9', 1, ft, ws_9, ns, vs, ⟨B_9.1, B_9.2.1, B_9.2.2.1, Or.inr rfl, B_9.2.2.2.2⟩, wfC_words kC_9 fc rfl R1 T1, wfM_words kM fm rfl R2 T2⟩)⟩
/-- allege of both -/
theorem wf_alle {cst : am_K} {h1 h2 q1 q2 : am_H} {s m a b : Int} {res : Option (List Int × List Int)} (Z : zr_J cst h1 h2 s) (J : wf_J cst h1 h2 s) (s0 : 0 ≤ s) (s1 : s ≤ 100) (fc : mfr cst 46336 m aq_mods h1 q1) (C : alP res s m (ly_hv cst h1 45313 m) (ly_hv cst h1 45319 m) (-1) a (ly_fr cst aq_mods h1 q1) (fun ns vs => rFm cst q1 m ns vs ∧ ly_hv cst q1 46339 m = some 1 ∧ ndl ns)) (fm : afr cst m ar_mods h2 q2) (M : alP res s m (ly_hv cst h2 28416 m) (ly_hv cst h2 30464 m) 0 b (ly_fr cst ar_mods h2 q2) (fun ns vs => rGg cst q2 m ns vs ∧ ly_hv cst q2 33792 m = some 1)) : a = b ∧ wf_J cst q1 q2 s := by
  have keep_9 : ly_fr cst aq_mods h1 q1 → ly_fr cst ar_mods h2 q2 → wf_J cst q1 q2 s := fun f_9 g_9 => wf_Jmv J f_9 g_9 rfl rfl
  rcases zr_cs Z m with ⟨n1_9, n2_9⟩ | ⟨o1, o2, ⟨t1_9, t2_9⟩ | ⟨t1_9, t2_9⟩⟩
  · obtain ⟨e1_9, k1_9⟩ := C.1 n1_9
    obtain ⟨e2_9, k2_9⟩ := M.1 n2_9
    exact ⟨by rw [e1_9, e2_9], keep_9 k1_9 k2_9⟩
  · obtain ⟨e1_9, k1_9⟩ := (C.2 o1).1 t1_9
    obtain ⟨e2_9, k2_9⟩ := (M.2 o2).1 t2_9
    exact ⟨by rw [e1_9, e2_9], keep_9 k1_9 k2_9⟩
  · have C := (C.2 o1).2 t1_9
    have M := (M.2 o2).2 t2_9
    cases res with
    | none =>
      obtain ⟨e1_9, k1_9⟩ := C.1 rfl
      obtain ⟨e2_9, k2_9⟩ := M.1 rfl
      exact ⟨by rw [e1_9, e2_9], keep_9 k1_9 k2_9⟩
    | some q_9 =>
      obtain ⟨e1_9, R1, T1, nd_9⟩ := C.2 q_9.1 q_9.2 rfl
      obtain ⟨e2_9, R2, T2⟩ := M.2 q_9.1 q_9.2 rfl
      exact ⟨by rw [e1_9, e2_9], wf_set J o1.2.1 (fun j_9 ne_9 => wcC_mfr fc (Or.inr rfl) rfl ne_9) (fun j_9 j0 j1 ne_9 => wcM_afr fm rfl ne_9) s0 s1 (fun d_9 y_9 s_9' wt ft row_9 ns vs B_9 kC_9 kM => ⟨d_9, y_9, s_9', wt, 1, row_9, q_9.1, q_9.2, ⟨B_9.1, B_9.2.1, B_9.2.2.1, B_9.2.2.2.1, Or.inr rfl⟩, wfC_facts kC_9 fc rfl R1 T1, wfM_facts kM fm rfl R2 R1.2.2.2.1 R1.2.2.2.2.1 R1.2.2.2.2.2.1 nd_9 T2⟩)⟩
/-- mend of both -/
theorem wf_mend {cst : am_K} {h1 h2 q1 q2 : am_H} {X : List rX} {sz m a b d y s wt : Int} {row : List Int} (Z : zr_J cst h1 h2 sz) (J : wf_J cst h1 h2 sz) (s0 : 0 ≤ sz) (s1 : sz ≤ 100) (bw : wt = 0 ∨ wt = 1) (fc : mfr cst 45568 m wi_mods h1 q1) (C : mdP X d y s wt row sz m (ly_hv cst h1 45313 m) (ly_hv cst h1 45319 m) (-1) a (ly_fr cst wi_mods h1 q1) (fun us => wR cst q1 m us ∧ ly_hv cst q1 45571 m = some 1)) (fm : nfr cst m [37376] h2 q2) (M : mdP X d y s wt row sz m (ly_hv cst h2 28416 m) (ly_hv cst h2 30464 m) 0 b (nfs cst [37376] h2 q2) (fun us => wM cst q2 m us ∧ ly_hv cst q2 33536 m = some 1)) : a = b ∧ wf_J cst q1 q2 sz := by
  have keep_9 : ly_fr cst wi_mods h1 q1 → nfs cst [37376] h2 q2 → wf_J cst q1 q2 sz := fun f_9 g_9 => wf_Jk J (fun j_9 _ _ r_9 i_9 v_9 w_9 e_9 => f_9 _ _ _ (wcC_h w_9 rfl) e_9) (fun j_9 j0 j1 => wcM_nfs g_9 rfl j0 (by omega)) (fun r_9 j_9 v_9 hr _ e_9 => g_9 r_9 j_9 v_9 (by rcases hr with rfl | rfl <;> rfl) (fun z_9 => by omega) e_9)
  rcases zr_cs Z m with ⟨n1_9, n2_9⟩ | ⟨o1, o2, ⟨t1_9, t2_9⟩ | ⟨t1_9, t2_9⟩⟩
  · obtain ⟨e1_9, k1_9⟩ := C.1 n1_9
    obtain ⟨e2_9, k2_9⟩ := M.1 n2_9
    exact ⟨by rw [e1_9, e2_9], keep_9 k1_9 k2_9⟩
  · obtain ⟨e1_9, k1_9⟩ := (C.2 o1).1 (Or.inl t1_9)
    obtain ⟨e2_9, k2_9⟩ := (M.2 o2).1 (Or.inl t2_9)
    exact ⟨by rw [e1_9, e2_9], keep_9 k1_9 k2_9⟩
  · rcases bw with bw | bw
    · obtain ⟨e1_9, k1_9⟩ := (C.2 o1).1 (Or.inr bw)
      obtain ⟨e2_9, k2_9⟩ := (M.2 o2).1 (Or.inr bw)
      exact ⟨by rw [e1_9, e2_9], keep_9 k1_9 k2_9⟩
    obtain ⟨v_9, nv, C⟩ := (C.2 o1).2 t1_9 bw
    obtain ⟨v_9', nv', M⟩ := (M.2 o2).2 t2_9 bw
    have ev_9 := nmP_u nv nv'
    subst ev_9
    rcases C with ⟨z1, e1_9, k1_9⟩ | ⟨z1, ws_9, lw, C⟩
    · rcases M with ⟨z2, e2_9, k2_9⟩ | ⟨z2, -⟩
      · exact ⟨by rw [e1_9, e2_9], keep_9 k1_9 k2_9⟩
      · exact absurd z1 z2
    rcases M with ⟨z2, e2_9, k2_9⟩ | ⟨z2, ws_9', lw', M⟩
    · exact absurd z2 z1
    have ew := lwP_u lw lw'
    subst ew
    rcases C with ⟨g1, e1_9, k1_9⟩ | ⟨g1, e1_9, R1, T1⟩
    · rcases M with ⟨g2, e2_9, k2_9⟩ | ⟨g2, -⟩
      · exact ⟨by rw [e1_9, e2_9], keep_9 k1_9 k2_9⟩
      · omega
    rcases M with ⟨g2, -⟩ | ⟨g2, e2_9, R2, T2⟩
    · omega
    exact ⟨by rw [e1_9, e2_9], wf_set J o1.2.1 (fun j_9 ne_9 => wcC_mfr fc (Or.inl rfl) rfl ne_9) (fun j_9 j0 j1 ne_9 => wcM_nfr fm rfl j0 j1 ne_9) s0 s1 (fun d y s_9' wt ft row_9' ns vs B_9 kC_9 kM => ⟨d, y, s_9', 1, ft, wv9 row ws_9, ns, vs, ⟨B_9.1, B_9.2.1, B_9.2.2.1, Or.inr rfl, B_9.2.2.2.2⟩, wfC_words kC_9 fc rfl R1 T1, wfM_words kM fm rfl R2 T2⟩)⟩
/-- bad, bill of both -/
theorem bp_u {cst : am_K} {h1 h2 : am_H} {X : List rX} {sz m a b d y s wt ft : Int} {row ns vs : List Int} (Z : zr_J cst h1 h2 sz) (A : bpP X d y s wt ft row ns vs sz m (ly_hv cst h1 45313 m) (-1) a) (B : bpP X d y s wt ft row ns vs sz m (ly_hv cst h2 28416 m) 0 b) : a = b := by
  rcases zr_cs Z m with ⟨n1_9, n2_9⟩ | ⟨o1, o2, -⟩
  · rw [A.1 n1_9, B.1 n2_9]
  · exact bdP_u (A.2 o1) (B.2 o2)
theorem bx_u {cst : am_K} {h1 h2 : am_H} {X : List rX} {sz m q a b d y s wt ft : Int} {row ns vs : List Int} (Z : zr_J cst h1 h2 sz) (A : bxP X d y s wt ft row ns vs sz m q (ly_hv cst h1 45313 m) (ly_hv cst h1 45319 m) (-1) a) (B : bxP X d y s wt ft row ns vs sz m q (ly_hv cst h2 28416 m) (ly_hv cst h2 30464 m) 0 b) : a = b := by
  rcases zr_cs Z m with ⟨n1_9, n2_9⟩ | ⟨o1, o2, t_9⟩
  · rw [A.1 (fun z_9 => n1_9 ⟨z_9.1, z_9.2.1, z_9.2.2.1⟩), B.1 (fun z_9 => n2_9 ⟨z_9.1, z_9.2.1, z_9.2.2.1⟩)]
  by_cases g_9 : 0 ≤ q ∧ q ≤ 23
  rotate_left
  · rw [A.1 (fun z_9 => g_9 ⟨z_9.2.2.2.1, z_9.2.2.2.2⟩), B.1 (fun z_9 => g_9 ⟨z_9.2.2.2.1, z_9.2.2.2.2⟩)]
  have A := A.2 ⟨o1.1, o1.2.1, o1.2.2, g_9.1, g_9.2⟩
  have B := B.2 ⟨o2.1, o2.2.1, o2.2.2, g_9.1, g_9.2⟩
  rcases t_9 with ⟨t1_9, t2_9⟩ | ⟨t1_9, t2_9⟩
  · rw [A.1 t1_9, B.1 t2_9]
  · obtain ⟨n_9, v_9, x1_9, x2_9, x3⟩ := A.2 t1_9
    obtain ⟨n_9', v_9', y1, y2, y3⟩ := B.2 t2_9
    have en := nmP_u x1_9 y1
    have ev_9 := bdP_u x2_9 y2
    subst en
    subst ev_9
    rw [x3, y3]
/-- a matter begun in both or in neither -/
theorem mt_two9 {cst : am_K} {h h1 h2 : am_H} {g : Prop} {s u w sh y d sh' y' d' : Int} (s0 : 0 ≤ s) (s1 : s ≤ 100) (g1 : g → s ≠ 100) (C : ngC cst h1 g s u sh y d) (M : ngM cst h h2 g s w sh' y' d') : ∃ t2_9 s2_9, ly_hv cst h1 60002 0 = some t2_9 ∧ ly_hv cst h1 7170 0 = some s2_9 ∧ ly_hv cst h2 20024 0 = some s2_9 ∧ t2_9 = 177 + 19 * s2_9 ∧ 0 ≤ s2_9 ∧ s2_9 ≤ 100 := by
  by_cases z_9 : g
  · obtain ⟨c1_9, c2_9, -⟩ := C.1 z_9
    have := g1 z_9
    exact ⟨196 + 19 * s, s + 1, c2_9, c1_9, (M.1 z_9).1, by omega, by omega, by omega⟩
  · obtain ⟨c1_9, c2_9⟩ := C.2 z_9
    exact ⟨177 + 19 * s, s, c2_9, c1_9, M.2.1 z_9, rfl, s0, s1⟩
theorem mo_two9 {cst : am_K} {h h1 : am_H} {g : Prop} {s u sh y d : Int} (I : mo_H cst h) (ks : ly_hv cst h 7170 0 = some s) (f : ∀ j_9 v_9, ly_hv cst h 7424 j_9 = some v_9 → ly_hv cst h1 7424 j_9 = some v_9) (C : ngC cst h1 g s u sh y d) : mo_H cst h1 := by
  have o := mo_of I ks
  by_cases z_9 : g
  · obtain ⟨c1_9, -, c3_9, -⟩ := C.1 z_9
    refine ⟨s + 1, c1_9, fun j_9 j0 j1 => ?_⟩
    by_cases e_9 : j_9 = s
    · rw [e_9]; exact c3_9
    · exact f _ _ (o j_9 j0 (by omega))
  · exact ⟨s, (C.2 z_9).1, fun j_9 j0 j1 => f _ _ (o j_9 j0 j1)⟩
theorem wf_new {cst : am_K} {h1 h2 q1 q2 : am_H} {g : Prop} {s u w sh y d : Int} (J : wf_J cst h1 h2 s) (s0 : 0 ≤ s) (s1 : s ≤ 100) (g1 : g → s ≠ 100) (B : g → wfB d y sh 0 0) (fc : ly_fr cst ng_mc h1 q1) (C : ngC cst q1 g s u sh y d) (fm : ly_fr cst ng_mm h2 q2) (M : ngM cst h2 q2 g s w sh y d) : wf_H cst q1 q2 := by
  have KM_9 : ∀ j_9, j_9 ≠ s → ∀ r_9 i_9 v_9, wcM j_9 r_9 i_9 → ly_hv cst h2 r_9 i_9 = some v_9 → ly_hv cst q2 r_9 i_9 = some v_9 := fun j_9 ne_9 r_9 i_9 v_9 wc e_9 => by
    by_cases z_9 : r_9 = 29184 ∨ r_9 = 29696 ∨ r_9 = 30208
    · have ei : i_9 = j_9 := by rcases wc with ⟨-, x_9⟩ | ⟨x_9, -⟩ | ⟨x_9, -⟩ | ⟨x_9, -⟩ <;> omega
      exact M.2.2 r_9 i_9 v_9 (by omega) (by omega) e_9
    · refine fm r_9 i_9 v_9 ?_ e_9
      have hr : r_9 ∈ [33280, 33536, 33792, 33024, 60092, 60093, 60094] := by
        simp only [List.mem_cons, List.not_mem_nil, or_false]
        rcases wc with ⟨x_9, -⟩ | ⟨x_9, -⟩ | ⟨x_9, -⟩ | ⟨x_9, -⟩ <;> omega
      have := List.all_eq_true.mp (show [33280, 33536, 33792, 33024, 60092, 60093, 60094].all (fun x_9 => !ly_has x_9 ng_mm) = true from rfl) r_9 hr
      simpa using this
  have old_9 : ∀ j_9, 0 ≤ j_9 → j_9 < s → ∃ (d y s wt ft : Int) (row_9 ns vs : List Int), wfB d y s wt ft ∧ wfC cst q1 j_9 d y s wt ft row_9 ns vs ∧ wfM cst q2 j_9 d y s wt ft row_9 ns vs := fun j_9 j0 j1 => by
    obtain ⟨d, y, s_9', wt, ft, row_9, ns, vs, B, kC_9, kM⟩ := J.1 j_9 j0 j1
    exact ⟨d, y, s_9', wt, ft, row_9, ns, vs, B, wfC_k kC_9 (fun r_9 i_9 v_9 w e_9 => fc _ _ _ (wcC_h w rfl) e_9), wfM_k kM (KM_9 j_9 (by omega))⟩
  have zr : ∀ j_9, s ≤ j_9 → j_9 ≤ 99 → ly_hv cst q2 33536 j_9 = some 0 ∧ ly_hv cst q2 33792 j_9 = some 0 := fun j_9 j0 j1 => by
    obtain ⟨a_9, b_9⟩ := J.2 j_9 j0 j1
    exact ⟨fm _ _ _ rfl a_9, fm _ _ _ rfl b_9⟩
  by_cases z_9 : g
  · obtain ⟨c1_9, c2_9, c3_9, c4_9, c5_9, c6_9, c7_9, c8_9, c9_9, ca⟩ := C.1 z_9
    obtain ⟨m1_9, m2_9, m3_9, m4_9, m5_9, m6_9⟩ := M.1 z_9
    refine ⟨s + 1, c1_9, fun j_9 j0 j1 => ?_, fun j_9 j0 j1 => zr j_9 (by omega) j1⟩
    by_cases e_9 : j_9 = s
    · subst e_9
      have := g1 z_9
      obtain ⟨z1, z2⟩ := zr j_9 (Int.le_refl _) (by omega)
      exact ⟨d, y, sh, 0, 0, [], [], [], B z_9, ⟨c8_9, c7_9, c6_9, c9_9, ca, fun x_9 => by omega, fun x_9 => by omega⟩, ⟨m6_9, m5_9, m4_9, z1, z2, fun x_9 => by omega, fun x_9 => by omega⟩⟩
    · exact old_9 j_9 j0 (by omega)
  · exact ⟨s, (C.2 z_9).1, old_9, zr⟩
/-- bad of the class -/
theorem bq_run {cst : am_K} {strs : List Nat} {D : Nat} {h0 : am_H} (cc : ∀ d, hp_C cst strs d) (hy : ly_hy m_tt ly_TH h0) {X : List rX} {i0 : List Int} (I : LC cst h0 X i0) (x30 : X.length ≤ 30) (g12 : (fX X).length ≤ 1240) (P : ∀ a_9 (ha_9 : a_9 < X.length), ra_l (X[a_9])) {xm : Int32} {sz : Int} (sz0 : 0 ≤ sz) (sz1 : sz ≤ 100) (ksz : ly_hv cst h0 7170 0 = some sz) (ko : ∀ j_9, 0 ≤ j_9 → j_9 < sz → ly_hv cst h0 7424 j_9 = some 1) (kc : ∀ j_9, 0 ≤ j_9 → j_9 < sz → ∃ su st, ly_hv cst h0 45313 j_9 = some su ∧ ly_hv cst h0 45319 j_9 = some st ∧ -2147483648 ≤ su ∧ su ≤ 2147483647 ∧ -2147483648 ≤ st ∧ st ≤ 2147483647) {d y s wt ft : Int} {row ns vs : List Int} (B : wfB d y s wt ft) (kk : 0 ≤ xm.toInt → xm.toInt < sz → wfC cst h0 xm.toInt d y s wt ft row ns vs) :
    ∃ r_9, am_Run cst m_cl m_tt m_P strs sx_bi (D + 14) 143 [.ref 16, .int xm] h0 r_9 ∧ (fun r_9 : am_Q => ∃ w_9 : Int32, r_9.1 = some (.int w_9) ∧ r_9.2.2.1 = 0 ∧ r_9.2.2.2 = 0 ∧ ly_hy m_tt ly_TH r_9.2.1 ∧ ly_fr cst [] h0 r_9.2.1 ∧ bpP X d y s wt ft row ns vs sz xm.toInt (ly_hv cst h0 45313 xm.toInt) (-1) w_9.toInt) r_9 := by
  obtain ⟨M_9, hM_9, hl⟩ := hp_M (mi := 143) (k := 2) (by decide +kernel)
  have c_9 : hp_C cst strs (D + 13) := cc _
  have b0 := xm.le_toInt
  have b1 := xm.toInt_le
  obtain ⟨⟨d0_9, d1_9⟩, ⟨y0, y1⟩, ⟨s0_9, s1_9⟩, bw, bf⟩ := B
  have go_9 : hp_F cst strs (fun r_9 : am_Q => ∃ w_9 : Int32, r_9.1 = some (.int w_9) ∧ r_9.2.2.1 = 0 ∧ r_9.2.2.2 = 0 ∧ ly_hy m_tt ly_TH r_9.2.1 ∧ ly_fr cst [] h0 r_9.2.1 ∧ bpP X d y s wt ft row ns vs sz xm.toInt (ly_hv cst h0 45313 xm.toInt) (-1) w_9.toInt) (D + 13) M_9 0 (lv_args 0 [.ref 16, .int xm]) [] h0 := by
    have no_9 : ¬ (0 ≤ xm.toInt ∧ xm.toInt < sz ∧ ly_hv cst h0 45313 xm.toInt = some (-1)) → ∀ (h_9' : am_H) (w_9 : Int32), w_9.toInt = -2 → ly_hy m_tt ly_TH h_9' → ly_fr cst [] h0 h_9' → h0.length ≤ h_9'.length → (fun r_9 : am_Q => ∃ w_9 : Int32, r_9.1 = some (.int w_9) ∧ r_9.2.2.1 = 0 ∧ r_9.2.2.2 = 0 ∧ ly_hy m_tt ly_TH r_9.2.1 ∧ ly_fr cst [] h0 r_9.2.1 ∧ bpP X d y s wt ft row ns vs sz xm.toInt (ly_hv cst h0 45313 xm.toInt) (-1) w_9.toInt) (some (.int w_9), h_9', 0, 0) := fun nk h_9' w_9 hw w1_9 w2_9 w3_9 => ⟨w_9, rfl, rfl, rfl, w1_9, w2_9, fun _ => hw, fun ok_9 => absurd ok_9 nk⟩
    by_cases q1_9 : xm.toInt ≤ -1
    · exact bq0 c_9 hM_9 (by omega) hy xm.toInt sz b0 q1_9 sz0 sz1 ksz rfl ⟨xm, rfl, rfl⟩ (no_9 (fun k_9 => by have := k_9.1; omega))
    by_cases q2_9 : sz ≤ xm.toInt
    · exact bq1 c_9 hM_9 (by omega) hy xm.toInt sz (by omega) b1 sz0 sz1 (by omega) ksz rfl ⟨xm, rfl, rfl⟩ (no_9 (fun k_9 => by have := k_9.2.1; omega))
    have ko' := ko xm.toInt (by omega) (by omega)
    obtain ⟨su, st, k1_9, -, e1_9, e2_9, -⟩ := kc xm.toInt (by omega) (by omega)
    by_cases q3_9 : su = -1
    rotate_left
    · have nk : ¬ (0 ≤ xm.toInt ∧ xm.toInt < sz ∧ ly_hv cst h0 45313 xm.toInt = some (-1)) := fun k_9 => by
        have := k_9.2.2
        rw [k1_9] at this
        exact q3_9 (Option.some.inj this)
      by_cases q4_9 : su ≤ -2
      · exact bq20 c_9 hM_9 (by omega) hy xm.toInt sz su (by omega) (by omega) sz0 sz1 e1_9 q4_9 (by omega) ksz ko' k1_9 rfl ⟨xm, rfl, rfl⟩ (no_9 nk)
      · exact bq21 c_9 hM_9 (by omega) hy xm.toInt sz su (by omega) (by omega) sz0 sz1 (by omega) e2_9 (by omega) ksz ko' k1_9 rfl ⟨xm, rfl, rfl⟩ (no_9 nk)
    rw [q3_9] at k1_9
    have ok_9 : 0 ≤ xm.toInt ∧ xm.toInt < sz ∧ ly_hv cst h0 45313 xm.toInt = some (-1) := ⟨by omega, by omega, k1_9⟩
    obtain ⟨kd, ky, ks_9, kw, kf, RR, RF⟩ := kk (by omega) (by omega)
    obtain ⟨mN, em⟩ : ∃ q_9 : Nat, xm.toInt = (q_9 : Int) := ⟨xm.toInt.toNat, by omega⟩
    rw [em] at kd ky ks_9 kw kf RR RF
    refine bq5 c_9 hM_9 (by omega) hy xm.toInt sz (by omega) (by omega) sz0 sz1 (by omega) ksz ko' k1_9 rfl ⟨xm, rfl, rfl⟩ (fun l3 h3 z0 e0_9 el v1_9 v2 v3 m0_9 => ?_)
    have ym : z0 = mN := by omega
    rw [ym] at el
    rw [ym]
    obtain ⟨r_9, hrun, w_9, r1_9, r2, r3, rhy, rfr, rB_9⟩ := if_run (D := D) cc v1_9 (LC_mv I v2 rfl) x30 g12 P (m := mN) (by omega) el (v2 _ _ _ rfl kd) (v2 _ _ _ rfl ky) (v2 _ _ _ rfl ks_9) d0_9 d1_9 y0 y1 s0_9 s1_9 (v2 _ _ _ rfl kw) (v2 _ _ _ rfl kf) bw bf (fun z_9 => wR_mv (RR z_9) v2 rfl rfl) (fun z_9 => rFm_mv (RF z_9) v2 rfl rfl rfl)
    refine hp_call (mi := 143) (pc := 23) (tg := 144) (na := 2) (c := 28) (ci := 5) (st0 := [.ref (16 + (177 + 19 * mN + 0)), .ref 44]) (st := []) (av := [.ref (16 + (177 + 19 * mN + 0))]) hM_9 (by decide +kernel) v1_9 rfl rfl rfl (by decide) hrun r2 r3 ?_
    rw [r1_9]
    exact bq6 c_9 hM_9 (by omega) rhy w_9.toInt w_9 rfl w_9.le_toInt w_9.toInt_le m0_9 (fun h5 a_9 ha_9 t1_9 t2_9 t3_9 => ⟨a_9, rfl, rfl, rfl, t1_9, ly_fr_tr v2 (ly_fr_tr rfr t2_9), fun z_9 => absurd ok_9 z_9, fun _ => by rw [ha_9]; exact rB_9⟩)
  obtain ⟨n_9', r_9, hgo, w_9, r1_9, r2, r3, r4⟩ := go_9
  simp only [Nat.zero_add] at r2 r3
  exact ⟨r_9, Or.inr ⟨M_9, n_9', hM_9, hl, hgo⟩, w_9, r1_9, r2, r3, r4⟩
/-- bad of the reference -/
theorem br_run {cst : am_K} {strs : List Nat} {D : Nat} {h0 : am_H} (cc : ∀ d, hp_C cst strs d) (hy : ly_hy m_tt ly_TH h0) {X : List rX} (RA : rA cst h0 X) (x30 : X.length ≤ 30) (wd : ∀ a_9 (ha_9 : a_9 < X.length), wD (X[a_9]).2.2.1) (P : ∀ a_9 (ha_9 : a_9 < X.length), ra_l (X[a_9])) {xm : Int32} {sz : Int} (sz0 : 0 ≤ sz) (sz1 : sz ≤ 100) (ksz : ly_hv cst h0 20024 0 = some sz) (kc : ∀ j_9, 0 ≤ j_9 → j_9 < sz → ∃ su st, ly_hv cst h0 28416 j_9 = some su ∧ ly_hv cst h0 30464 j_9 = some st ∧ (su = 0 ∨ su = 1) ∧ -2147483648 ≤ st ∧ st ≤ 2147483647) {d y s wt ft : Int} {row ns vs : List Int} (B : wfB d y s wt ft) (kk : 0 ≤ xm.toInt → xm.toInt < sz → wfM cst h0 xm.toInt d y s wt ft row ns vs) :
    ∃ r_9, am_Run cst m_cl m_tt m_P strs sx_bi (D + 14) 342 [.ref 94, .int xm] h0 r_9 ∧ (fun r_9 : am_Q => ∃ w_9 : Int32, r_9.1 = some (.int w_9) ∧ r_9.2.2.1 = 0 ∧ r_9.2.2.2 = 0 ∧ ly_hy m_tt ly_TH r_9.2.1 ∧ ly_fr cst [28160] h0 r_9.2.1 ∧ bpP X d y s wt ft row ns vs sz xm.toInt (ly_hv cst h0 28416 xm.toInt) 0 w_9.toInt) r_9 := by
  obtain ⟨M_9, hM_9, hl⟩ := hp_M (mi := 342) (k := 2) (by decide +kernel)
  have c_9 : hp_C cst strs (D + 13) := cc _
  have b0 := xm.le_toInt
  have b1 := xm.toInt_le
  obtain ⟨⟨d0_9, d1_9⟩, ⟨y0, y1⟩, ⟨s0_9, s1_9⟩, bw, bf⟩ := B
  have go_9 : hp_F cst strs (fun r_9 : am_Q => ∃ w_9 : Int32, r_9.1 = some (.int w_9) ∧ r_9.2.2.1 = 0 ∧ r_9.2.2.2 = 0 ∧ ly_hy m_tt ly_TH r_9.2.1 ∧ ly_fr cst [28160] h0 r_9.2.1 ∧ bpP X d y s wt ft row ns vs sz xm.toInt (ly_hv cst h0 28416 xm.toInt) 0 w_9.toInt) (D + 13) M_9 0 (lv_args 0 [.ref 94, .int xm]) [] h0 := by
    have no_9 : ¬ (0 ≤ xm.toInt ∧ xm.toInt < sz ∧ ly_hv cst h0 28416 xm.toInt = some 0) → ∀ (h_9' : am_H) (w_9 : Int32), w_9.toInt = -2 → ly_hy m_tt ly_TH h_9' → ly_fr cst [] h0 h_9' → h0.length ≤ h_9'.length → (fun r_9 : am_Q => ∃ w_9 : Int32, r_9.1 = some (.int w_9) ∧ r_9.2.2.1 = 0 ∧ r_9.2.2.2 = 0 ∧ ly_hy m_tt ly_TH r_9.2.1 ∧ ly_fr cst [28160] h0 r_9.2.1 ∧ bpP X d y s wt ft row ns vs sz xm.toInt (ly_hv cst h0 28416 xm.toInt) 0 w_9.toInt) (some (.int w_9), h_9', 0, 0) := fun nk h_9' w_9 hw w1_9 w2_9 w3_9 => ⟨w_9, rfl, rfl, rfl, w1_9, hp_sub2 rfl w2_9, fun _ => hw, fun ok_9 => absurd ok_9 nk⟩
    by_cases q1_9 : xm.toInt ≤ -1
    · exact br1 c_9 hM_9 (by omega) hy xm.toInt sz b0 q1_9 sz0 sz1 ksz rfl ⟨xm, rfl, rfl⟩ (no_9 (fun k_9 => by have := k_9.1; omega))
    by_cases q2_9 : sz ≤ xm.toInt
    · exact br2 c_9 hM_9 (by omega) hy xm.toInt sz (by omega) b1 sz0 sz1 (by omega) ksz rfl ⟨xm, rfl, rfl⟩ (no_9 (fun k_9 => by have := k_9.2.1; omega))
    obtain ⟨su, st, k1_9, -, e1_9, -⟩ := kc xm.toInt (by omega) (by omega)
    rcases e1_9 with e1_9 | e1_9
    rotate_left
    · rw [e1_9] at k1_9
      exact br3 c_9 hM_9 (by omega) hy xm.toInt sz (by omega) (by omega) sz0 sz1 (by omega) ksz k1_9 rfl ⟨xm, rfl, rfl⟩ (no_9 (fun k_9 => by
        have := k_9.2.2
        rw [k1_9] at this
        exact absurd (Option.some.inj this) (by decide)))
    rw [e1_9] at k1_9
    have ok_9 : 0 ≤ xm.toInt ∧ xm.toInt < sz ∧ ly_hv cst h0 28416 xm.toInt = some 0 := ⟨by omega, by omega, k1_9⟩
    obtain ⟨kd, ky, ks_9, kw, kf, RR, RF⟩ := kk (by omega) (by omega)
    obtain ⟨mN, em⟩ : ∃ q_9 : Nat, xm.toInt = (q_9 : Int) := ⟨xm.toInt.toNat, by omega⟩
    rw [em] at kd ky ks_9 kw kf RR RF
    refine br5 c_9 hM_9 (by omega) hy xm.toInt sz (by omega) (by omega) sz0 sz1 (by omega) ksz k1_9 rfl ⟨xm, rfl, rfl⟩ (fun l3 h3 z0 e0_9 v1_9 v2 v3 m0_9 => ?_)
    have RA3 : rA cst h3 X := rA_k RA (gk_fr v2 rfl rfl) (v2 _ _ _ rfl RA.1)
    obtain ⟨r_9, hrun, w_9, r1_9, r2, r3, rhy, rfr, rB_9⟩ := bko_run (D := D) cc v1_9 RA3 x30 wd P (m := mN) (by omega) (v2 _ _ _ rfl kd) (v2 _ _ _ rfl ky) (v2 _ _ _ rfl ks_9) d0_9 d1_9 y0 y1 s0_9 s1_9 (v2 _ _ _ rfl kw) (v2 _ _ _ rfl kf) bw bf (fun z_9 => wM_mv (RR z_9) v2 rfl rfl) (fun z_9 => rG_mv (wfM_g (RF z_9)) v2 rfl rfl rfl) (xm := z0) (by rw [e0_9, em])
    refine hp_call (mi := 342) (pc := 10) (tg := 343) (na := 2) (c := 78) (ci := 12) (st0 := [.int z0, .ref 94]) (st := []) (av := [.int z0]) hM_9 (by decide +kernel) v1_9 rfl rfl rfl (by decide) hrun r2 r3 ?_
    rw [r1_9]
    exact br6 c_9 hM_9 (by omega) rhy w_9.toInt w_9 rfl w_9.le_toInt w_9.toInt_le m0_9 (fun h5 a_9 ha_9 t1_9 t2_9 t3_9 => ⟨a_9, rfl, rfl, rfl, t1_9, ly_fr_tr (hp_sub2 rfl v2) (ly_fr_tr rfr (hp_sub2 rfl t2_9)), fun z_9 => absurd ok_9 z_9, fun _ => by rw [ha_9]; exact rB_9⟩)
  obtain ⟨n_9', r_9, hgo, w_9, r1_9, r2, r3, r4⟩ := go_9
  simp only [Nat.zero_add] at r2 r3
  exact ⟨r_9, Or.inr ⟨M_9, n_9', hM_9, hl, hgo⟩, w_9, r1_9, r2, r3, r4⟩

