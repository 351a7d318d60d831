/-! PRINTED by wip/p2/hp_wrdr.py: words of the reference, exactly -/
theorem wo0_k : hp_chk 337 0 1 [(0, (-2147483648), 2147483647)] [] [(0, .inr (.inr (.inl (some 94)))), (1, .inl (0, [(0, 1)]))] [] [] [] 2 [(1, ([], 1, [(0, (-2147483648), 2147483647)], [], [(0, .inr (.inr (.inl (some 94)))), (1, .inl (0, [(0, 1)]))], [.inr (.inr (.inl (some 94)))], []))] [] = true := by decide +kernel
theorem wo0 {cst : am_K} {strs : List Nat} {Φ : am_Q → Prop} {D : Nat} {M : am_M} {h : am_H} {l : am_L} (c : hp_C cst strs D) (hM : m_P[337]? = some M) (hD : (2 : Int) ≤ (D : Int) + 1) (hy : ly_hy m_tt ly_TH h) (m : Int) (b0 : (-2147483648) ≤ m) (t0 : m ≤ 2147483647) (l0 : hp_a l 0 94) (l1 : hp_i l 1 (m)) (e0 : ∀ (l' : am_L) (h_9' : am_H), ly_hy m_tt ly_TH h_9' → ly_fr cst [] h h_9' → h.length ≤ h_9'.length → hp_a l' 0 94 → hp_i l' 1 (m) → hp_F cst strs Φ D M 1 l' [.ref 94] h_9') : hp_F cst strs Φ D M 0 l [] h := by
  refine hp_arc c hM wo0_k hD [m] rfl hy (hp_Bc (z := m) rfl b0 t0 hp_Bn) hp_Fn hp_Kn (hp_La l0 (hp_Li (z := (0 + (1 * m + 0))) l1 rfl (by omega) hp_Ln)) trivial ?_ ?_
  · intro p_9 hp ys l' st_9' h_9' hys a1_9 a2 a3 gZ gL gS
    rcases List.mem_cons.mp hp with rfl | hp
    · obtain rfl := hp_y0 hys
      obtain ⟨t0, rfl, g0⟩ := hp_gSa gS (by decide)
      cases hp_gSn g0
      exact e0 l' h_9' a1_9 a2 a3 (hp_gLa gL (List.mem_of_getElem? (i := 0) rfl) (by decide)) (hp_gLi (z := (0 + (1 * m + 0))) gL (List.mem_of_getElem? (i := 1) rfl) rfl (by omega))
    cases hp
  · intro p_9 hp ys v_9 h_9' hys a1_9 a2 a3 gZ gS
    cases hp
theorem wo1_k : hp_chk 337 4 2 [(0, (-2147483648), (-1)), (1, 0, 100)] [] [(0, .inr (.inr (.inl (some 94)))), (1, .inl (0, [(0, 1)]))] [] [(20024, (0, []), (0, [(1, 1)]))] [] 5 [] [([], 2, [(0, (-2147483648), (-1)), (1, 0, 100)], [], [], [.inl ((-2), [])], [])] = true := by decide +kernel
theorem wo1 {cst : am_K} {strs : List Nat} {Φ : am_Q → Prop} {D : Nat} {M : am_M} {h : am_H} {l : am_L} (c : hp_C cst strs D) (hM : m_P[337]? = some M) (hD : (5 : Int) ≤ (D : Int) + 1) (hy : ly_hy m_tt ly_TH h) (m s : Int) (b0 : (-2147483648) ≤ m) (t0 : m ≤ (-1)) (b1 : 0 ≤ s) (t1 : s ≤ 100) (k0 : ly_hv cst h 20024 0 = some (s)) (l0 : hp_a l 0 94) (l1 : hp_i l 1 (m)) (r0 : ∀ (h_9' : am_H) (y0 : Int32), y0.toInt = (-2) → ly_hy m_tt ly_TH h_9' → ly_fr cst [] h h_9' → h.length ≤ h_9'.length → Φ (some (.int y0), h_9', 0, 0)) : hp_F cst strs Φ D M 4 l [] h := by
  refine hp_arc c hM wo1_k hD [m, s] rfl hy (hp_Bc (z := m) rfl b0 t0 (hp_Bc (z := s) rfl b1 t1 hp_Bn)) hp_Fn (hp_Kc (zi := (0 + 0)) (zv := (0 + (1 * s + 0))) k0 rfl rfl (by omega) (by omega) hp_Kn) (hp_La l0 (hp_Li (z := (0 + (1 * m + 0))) l1 rfl (by omega) hp_Ln)) trivial ?_ ?_
  · intro p_9 hp ys l' st_9' h_9' hys a1_9 a2 a3 gZ gL gS
    cases hp
  · intro p_9 hp ys v_9 h_9' hys a1_9 a2 a3 gZ gS
    rcases List.mem_cons.mp hp with rfl | hp
    · obtain rfl := hp_y0 hys
      cases v_9 with
      | none => cases gS
      | some wz =>
        obtain ⟨y0, t0, s0_9, q0, -⟩ := hp_gSi (z := ((-2) + 0)) gS rfl
        cases s0_9
        exact r0 h_9' y0 (by omega) a1_9 a2 a3
    cases hp
theorem wo2_k : hp_chk 337 4 2 [(0, 0, 2147483647), (1, 0, 100)] [(0, [(0, 1), (1, (-1))])] [(0, .inr (.inr (.inl (some 94)))), (1, .inl (0, [(0, 1)]))] [] [(20024, (0, []), (0, [(1, 1)]))] [] 5 [] [([], 2, [(0, 0, 2147483647), (1, 0, 100)], [], [], [.inl ((-2), [])], [])] = true := by decide +kernel
theorem wo2 {cst : am_K} {strs : List Nat} {Φ : am_Q → Prop} {D : Nat} {M : am_M} {h : am_H} {l : am_L} (c : hp_C cst strs D) (hM : m_P[337]? = some M) (hD : (5 : Int) ≤ (D : Int) + 1) (hy : ly_hy m_tt ly_TH h) (m s : Int) (b0 : 0 ≤ m) (t0 : m ≤ 2147483647) (b1 : 0 ≤ s) (t1 : s ≤ 100) (f0 : 0 ≤ (m - s)) (k0 : ly_hv cst h 20024 0 = some (s)) (l0 : hp_a l 0 94) (l1 : hp_i l 1 (m)) (r0 : ∀ (h_9' : am_H) (y0 : Int32), y0.toInt = (-2) → ly_hy m_tt ly_TH h_9' → ly_fr cst [] h h_9' → h.length ≤ h_9'.length → Φ (some (.int y0), h_9', 0, 0)) : hp_F cst strs Φ D M 4 l [] h := by
  refine hp_arc c hM wo2_k hD [m, s] rfl hy (hp_Bc (z := m) rfl b0 t0 (hp_Bc (z := s) rfl b1 t1 hp_Bn)) (hp_Fc (z := (0 + (1 * m + ((-1) * s + 0)))) rfl (by omega) hp_Fn) (hp_Kc (zi := (0 + 0)) (zv := (0 + (1 * s + 0))) k0 rfl rfl (by omega) (by omega) hp_Kn) (hp_La l0 (hp_Li (z := (0 + (1 * m + 0))) l1 rfl (by omega) hp_Ln)) trivial ?_ ?_
  · intro p_9 hp ys l' st_9' h_9' hys a1_9 a2 a3 gZ gL gS
    cases hp
  · intro p_9 hp ys v_9 h_9' hys a1_9 a2 a3 gZ gS
    rcases List.mem_cons.mp hp with rfl | hp
    · obtain rfl := hp_y0 hys
      cases v_9 with
      | none => cases gS
      | some wz =>
        obtain ⟨y0, t0, s0_9, q0, -⟩ := hp_gSi (z := ((-2) + 0)) gS rfl
        cases s0_9
        exact r0 h_9' y0 (by omega) a1_9 a2 a3
    cases hp
theorem wo3_k : hp_chk 337 4 2 [(0, 0, 99), (1, 0, 100)] [((-1), [(0, (-1)), (1, 1)])] [(0, .inr (.inr (.inl (some 94)))), (1, .inl (0, [(0, 1)]))] [] [(20024, (0, []), (0, [(1, 1)])), (28416, (0, [(0, 1)]), (1, []))] [] 5 [] [([], 2, [(0, 0, 99), (1, 0, 100)], [], [], [.inl ((-2), [])], [])] = true := by decide +kernel
theorem wo3 {cst : am_K} {strs : List Nat} {Φ : am_Q → Prop} {D : Nat} {M : am_M} {h : am_H} {l : am_L} (c : hp_C cst strs D) (hM : m_P[337]? = some M) (hD : (5 : Int) ≤ (D : Int) + 1) (hy : ly_hy m_tt ly_TH h) (m s : Int) (b0 : 0 ≤ m) (t0 : m ≤ 99) (b1 : 0 ≤ s) (t1 : s ≤ 100) (f0 : 0 ≤ (s - m - 1)) (k0 : ly_hv cst h 20024 0 = some (s)) (k1 : ly_hv cst h 28416 (m) = some 1) (l0 : hp_a l 0 94) (l1 : hp_i l 1 (m)) (r0 : ∀ (h_9' : am_H) (y0 : Int32), y0.toInt = (-2) → ly_hy m_tt ly_TH h_9' → ly_fr cst [] h h_9' → h.length ≤ h_9'.length → Φ (some (.int y0), h_9', 0, 0)) : hp_F cst strs Φ D M 4 l [] h := by
  refine hp_arc c hM wo3_k hD [m, s] rfl hy (hp_Bc (z := m) rfl b0 t0 (hp_Bc (z := s) rfl b1 t1 hp_Bn)) (hp_Fc (z := ((-1) + ((-1) * m + (1 * s + 0)))) rfl (by omega) hp_Fn) (hp_Kc (zi := (0 + 0)) (zv := (0 + (1 * s + 0))) k0 rfl rfl (by omega) (by omega) (hp_Kc (zi := (0 + (1 * m + 0))) (zv := (1 + 0)) k1 rfl rfl (by omega) (by omega) hp_Kn)) (hp_La l0 (hp_Li (z := (0 + (1 * m + 0))) l1 rfl (by omega) hp_Ln)) trivial ?_ ?_
  · intro p_9 hp ys l' st_9' h_9' hys a1_9 a2 a3 gZ gL gS
    cases hp
  · intro p_9 hp ys v_9 h_9' hys a1_9 a2 a3 gZ gS
    rcases List.mem_cons.mp hp with rfl | hp
    · obtain rfl := hp_y0 hys
      cases v_9 with
      | none => cases gS
      | some wz =>
        obtain ⟨y0, t0, s0_9, q0, -⟩ := hp_gSi (z := ((-2) + 0)) gS rfl
        cases s0_9
        exact r0 h_9' y0 (by omega) a1_9 a2 a3
    cases hp
theorem wo40_k : hp_chk 337 4 3 [(0, 0, 99), (1, 0, 100), (2, (-2147483648), (-1))] [((-1), [(0, (-1)), (1, 1)])] [(0, .inr (.inr (.inl (some 94)))), (1, .inl (0, [(0, 1)]))] [] [(20024, (0, []), (0, [(1, 1)])), (28416, (0, [(0, 1)]), (0, [])), (30464, (0, [(0, 1)]), (0, [(2, 1)]))] [] 5 [] [([], 3, [(0, 0, 99), (1, 0, 100), (2, (-2147483648), (-1))], [], [], [.inl ((-4), [])], [])] = true := by decide +kernel
theorem wo40 {cst : am_K} {strs : List Nat} {Φ : am_Q → Prop} {D : Nat} {M : am_M} {h : am_H} {l : am_L} (c : hp_C cst strs D) (hM : m_P[337]? = some M) (hD : (5 : Int) ≤ (D : Int) + 1) (hy : ly_hy m_tt ly_TH h) (m s v : Int) (b0 : 0 ≤ m) (t0 : m ≤ 99) (b1 : 0 ≤ s) (t1 : s ≤ 100) (b2 : (-2147483648) ≤ v) (t2 : v ≤ (-1)) (f0 : 0 ≤ (s - m - 1)) (k0 : ly_hv cst h 20024 0 = some (s)) (k1 : ly_hv cst h 28416 (m) = some 0) (k2 : ly_hv cst h 30464 (m) = some (v)) (l0 : hp_a l 0 94) (l1 : hp_i l 1 (m)) (r0 : ∀ (h_9' : am_H) (y0 : Int32), y0.toInt = (-4) → ly_hy m_tt ly_TH h_9' → ly_fr cst [] h h_9' → h.length ≤ h_9'.length → Φ (some (.int y0), h_9', 0, 0)) : hp_F cst strs Φ D M 4 l [] h := by
  refine hp_arc c hM wo40_k hD [m, s, v] rfl hy (hp_Bc (z := m) rfl b0 t0 (hp_Bc (z := s) rfl b1 t1 (hp_Bc (z := v) rfl b2 t2 hp_Bn))) (hp_Fc (z := ((-1) + ((-1) * m + (1 * s + 0)))) rfl (by omega) hp_Fn) (hp_Kc (zi := (0 + 0)) (zv := (0 + (1 * s + 0))) k0 rfl rfl (by omega) (by omega) (hp_Kc (zi := (0 + (1 * m + 0))) (zv := (0 + 0)) k1 rfl rfl (by omega) (by omega) (hp_Kc (zi := (0 + (1 * m + 0))) (zv := (0 + (1 * v + 0))) k2 rfl rfl (by omega) (by omega) hp_Kn))) (hp_La l0 (hp_Li (z := (0 + (1 * m + 0))) l1 rfl (by omega) hp_Ln)) trivial ?_ ?_
  · intro p_9 hp ys l' st_9' h_9' hys a1_9 a2 a3 gZ gL gS
    cases hp
  · intro p_9 hp ys v h_9' hys a1_9 a2 a3 gZ gS
    rcases List.mem_cons.mp hp with rfl | hp
    · obtain rfl := hp_y0 hys
      cases v with
      | none => cases gS
      | some wz =>
        obtain ⟨y0, t0, s0_9, q0, -⟩ := hp_gSi (z := ((-4) + 0)) gS rfl
        cases s0_9
        exact r0 h_9' y0 (by omega) a1_9 a2 a3
    cases hp
theorem wo41_k : hp_chk 337 4 3 [(0, 0, 99), (1, 0, 100), (2, 1, 2147483647)] [((-1), [(0, (-1)), (1, 1)])] [(0, .inr (.inr (.inl (some 94)))), (1, .inl (0, [(0, 1)]))] [] [(20024, (0, []), (0, [(1, 1)])), (28416, (0, [(0, 1)]), (0, [])), (30464, (0, [(0, 1)]), (0, [(2, 1)]))] [] 5 [] [([], 3, [(0, 0, 99), (1, 0, 100), (2, 1, 2147483647)], [], [], [.inl ((-4), [])], [])] = true := by decide +kernel
theorem wo41 {cst : am_K} {strs : List Nat} {Φ : am_Q → Prop} {D : Nat} {M : am_M} {h : am_H} {l : am_L} (c : hp_C cst strs D) (hM : m_P[337]? = some M) (hD : (5 : Int) ≤ (D : Int) + 1) (hy : ly_hy m_tt ly_TH h) (m s v : Int) (b0 : 0 ≤ m) (t0 : m ≤ 99) (b1 : 0 ≤ s) (t1 : s ≤ 100) (b2 : 1 ≤ v) (t2 : v ≤ 2147483647) (f0 : 0 ≤ (s - m - 1)) (k0 : ly_hv cst h 20024 0 = some (s)) (k1 : ly_hv cst h 28416 (m) = some 0) (k2 : ly_hv cst h 30464 (m) = some (v)) (l0 : hp_a l 0 94) (l1 : hp_i l 1 (m)) (r0 : ∀ (h_9' : am_H) (y0 : Int32), y0.toInt = (-4) → ly_hy m_tt ly_TH h_9' → ly_fr cst [] h h_9' → h.length ≤ h_9'.length → Φ (some (.int y0), h_9', 0, 0)) : hp_F cst strs Φ D M 4 l [] h := by
  refine hp_arc c hM wo41_k hD [m, s, v] rfl hy (hp_Bc (z := m) rfl b0 t0 (hp_Bc (z := s) rfl b1 t1 (hp_Bc (z := v) rfl b2 t2 hp_Bn))) (hp_Fc (z := ((-1) + ((-1) * m + (1 * s + 0)))) rfl (by omega) hp_Fn) (hp_Kc (zi := (0 + 0)) (zv := (0 + (1 * s + 0))) k0 rfl rfl (by omega) (by omega) (hp_Kc (zi := (0 + (1 * m + 0))) (zv := (0 + 0)) k1 rfl rfl (by omega) (by omega) (hp_Kc (zi := (0 + (1 * m + 0))) (zv := (0 + (1 * v + 0))) k2 rfl rfl (by omega) (by omega) hp_Kn))) (hp_La l0 (hp_Li (z := (0 + (1 * m + 0))) l1 rfl (by omega) hp_Ln)) trivial ?_ ?_
  · intro p_9 hp ys l' st_9' h_9' hys a1_9 a2 a3 gZ gL gS
    cases hp
  · intro p_9 hp ys v h_9' hys a1_9 a2 a3 gZ gS
    rcases List.mem_cons.mp hp with rfl | hp
    · obtain rfl := hp_y0 hys
      cases v with
      | none => cases gS
      | some wz =>
        obtain ⟨y0, t0, s0_9, q0, -⟩ := hp_gSi (z := ((-4) + 0)) gS rfl
        cases s0_9
        exact r0 h_9' y0 (by omega) a1_9 a2 a3
    cases hp
theorem wo5_k : hp_chk 337 4 2 [(0, 0, 99), (1, 0, 100)] [((-1), [(0, (-1)), (1, 1)])] [(0, .inr (.inr (.inl (some 94)))), (1, .inl (0, [(0, 1)]))] [] [(20024, (0, []), (0, [(1, 1)])), (28416, (0, [(0, 1)]), (0, [])), (30464, (0, [(0, 1)]), (0, []))] [] 5 [(29, ([], 2, [(0, 0, 99), (1, 0, 100)], [], [(0, .inr (.inr (.inl (some 94)))), (1, .inl (0, [(0, 1)])), (2, .inl (0, []))], [], []))] [] = true := by decide +kernel
theorem wo5 {cst : am_K} {strs : List Nat} {Φ : am_Q → Prop} {D : Nat} {M : am_M} {h : am_H} {l : am_L} (c : hp_C cst strs D) (hM : m_P[337]? = some M) (hD : (5 : Int) ≤ (D : Int) + 1) (hy : ly_hy m_tt ly_TH h) (m s : Int) (b0 : 0 ≤ m) (t0 : m ≤ 99) (b1 : 0 ≤ s) (t1 : s ≤ 100) (f0 : 0 ≤ (s - m - 1)) (k0 : ly_hv cst h 20024 0 = some (s)) (k1 : ly_hv cst h 28416 (m) = some 0) (k2 : ly_hv cst h 30464 (m) = some 0) (l0 : hp_a l 0 94) (l1 : hp_i l 1 (m)) (e0 : ∀ (l' : am_L) (h_9' : am_H), ly_hy m_tt ly_TH h_9' → ly_fr cst [] h h_9' → h.length ≤ h_9'.length → hp_a l' 0 94 → hp_i l' 1 (m) → hp_i l' 2 0 → hp_F cst strs Φ D M 29 l' [] h_9') : hp_F cst strs Φ D M 4 l [] h := by
  refine hp_arc c hM wo5_k hD [m, s] rfl hy (hp_Bc (z := m) rfl b0 t0 (hp_Bc (z := s) rfl b1 t1 hp_Bn)) (hp_Fc (z := ((-1) + ((-1) * m + (1 * s + 0)))) rfl (by omega) hp_Fn) (hp_Kc (zi := (0 + 0)) (zv := (0 + (1 * s + 0))) k0 rfl rfl (by omega) (by omega) (hp_Kc (zi := (0 + (1 * m + 0))) (zv := (0 + 0)) k1 rfl rfl (by omega) (by omega) (hp_Kc (zi := (0 + (1 * m + 0))) (zv := (0 + 0)) k2 rfl rfl (by omega) (by omega) hp_Kn))) (hp_La l0 (hp_Li (z := (0 + (1 * m + 0))) l1 rfl (by omega) hp_Ln)) trivial ?_ ?_
  · intro p_9 hp ys l' st_9' h_9' hys a1_9 a2 a3 gZ gL gS
    rcases List.mem_cons.mp hp with rfl | hp
    · obtain rfl := hp_y0 hys
      cases hp_gSn gS
      exact e0 l' h_9' a1_9 a2 a3 (hp_gLa gL (List.mem_of_getElem? (i := 0) rfl) (by decide)) (hp_gLi (z := (0 + (1 * m + 0))) gL (List.mem_of_getElem? (i := 1) rfl) rfl (by omega)) (hp_gLi (z := (0 + 0)) gL (List.mem_of_getElem? (i := 2) rfl) rfl (by omega))
    cases hp
  · intro p_9 hp ys v_9 h_9' hys a1_9 a2 a3 gZ gS
    cases hp
theorem wo6_k : hp_chk 337 29 3 [(0, 0, 99), (1, 0, 19), (2, (-9223372036854775808), 9223372036854775807)] [] [(0, .inr (.inr (.inl (some 94)))), (1, .inl (0, [(0, 1)])), (2, .inl (0, [(1, 1)]))] [] [(19971, (0, []), (1, [])), (19976, (0, []), (0, [(2, 1)]))] [] 2 [(56, ([], 3, [(0, 0, 99), (1, 0, 19), (2, (-9223372036854775808), 9223372036854775807)], [], [(0, .inr (.inr (.inl (some 94)))), (1, .inl (0, [(0, 1)])), (2, .inl (0, [(1, 1)]))], [.inr (.inl (0, [(2, 1)])), .inl (3000, [(1, 1)]), .inr (.inr (.inl (some 145)))], []))] [] = true := by decide +kernel
theorem wo6 {cst : am_K} {strs : List Nat} {Φ : am_Q → Prop} {D : Nat} {M : am_M} {h : am_H} {l : am_L} (c : hp_C cst strs D) (hM : m_P[337]? = some M) (hD : (2 : Int) ≤ (D : Int) + 1) (hy : ly_hy m_tt ly_TH h) (m n v : Int) (b0 : 0 ≤ m) (t0 : m ≤ 99) (b1 : 0 ≤ n) (t1 : n ≤ 19) (b2 : (-9223372036854775808) ≤ v) (t2 : v ≤ 9223372036854775807) (k0 : ly_hv cst h 19971 0 = some 1) (k1 : ly_hv cst h 19976 0 = some (v)) (l0 : hp_a l 0 94) (l1 : hp_i l 1 (m)) (l2 : hp_i l 2 (n)) (e0 : ∀ (l' : am_L) (h_9' : am_H) (y0 : Int64) (y1 : Int32), y0.toInt = (v) → y1.toInt = (n + 3000) → ly_hy m_tt ly_TH h_9' → ly_fr cst [] h h_9' → h.length ≤ h_9'.length → hp_a l' 0 94 → hp_i l' 1 (m) → hp_i l' 2 (n) → hp_F cst strs Φ D M 56 l' [.long y0, .int y1, .ref 145] h_9') : hp_F cst strs Φ D M 29 l [] h := by
  refine hp_arc c hM wo6_k hD [m, n, v] rfl hy (hp_Bc (z := m) rfl b0 t0 (hp_Bc (z := n) rfl b1 t1 (hp_Bc (z := v) rfl b2 t2 hp_Bn))) hp_Fn (hp_Kc (zi := (0 + 0)) (zv := (1 + 0)) k0 rfl rfl (by omega) (by omega) (hp_Kc (zi := (0 + 0)) (zv := (0 + (1 * v + 0))) k1 rfl rfl (by omega) (by omega) hp_Kn)) (hp_La l0 (hp_Li (z := (0 + (1 * m + 0))) l1 rfl (by omega) (hp_Li (z := (0 + (1 * n + 0))) l2 rfl (by omega) hp_Ln))) trivial ?_ ?_
  · intro p_9 hp ys l' st_9' h_9' hys a1_9 a2 a3 gZ gL gS
    rcases List.mem_cons.mp hp with rfl | hp
    · obtain rfl := hp_y0 hys
      obtain ⟨y0, t0, rfl, q0, g0⟩ := hp_gSj (z := (0 + (1 * v + 0))) gS rfl
      obtain ⟨y1, t1, rfl, q1_9, g1⟩ := hp_gSi (z := (3000 + (1 * n + 0))) g0 rfl
      obtain ⟨t2, rfl, g2⟩ := hp_gSa g1 (by decide)
      cases hp_gSn g2
      exact e0 l' h_9' y0 y1 (by omega) (by omega) a1_9 a2 a3 (hp_gLa gL (List.mem_of_getElem? (i := 0) rfl) (by decide)) (hp_gLi (z := (0 + (1 * m + 0))) gL (List.mem_of_getElem? (i := 1) rfl) rfl (by omega)) (hp_gLi (z := (0 + (1 * n + 0))) gL (List.mem_of_getElem? (i := 2) rfl) rfl (by omega))
    cases hp
  · intro p_9 hp ys v h_9' hys a1_9 a2 a3 gZ gS
    cases hp
theorem wo7_k : hp_chk 337 57 2 [(0, 0, 99), (1, 0, 19)] [] [(0, .inr (.inr (.inl (some 94)))), (1, .inl (0, [(0, 1)])), (2, .inl (0, [(1, 1)]))] [] [] [] 2 [(61, ([], 2, [(0, 0, 99), (1, 0, 19)], [], [(0, .inr (.inr (.inl (some 94)))), (1, .inl (0, [(0, 1)])), (2, .inl (1, [(1, 1)]))], [.inr (.inr (.inl (some 94)))], []))] [] = true := by decide +kernel
theorem wo7 {cst : am_K} {strs : List Nat} {Φ : am_Q → Prop} {D : Nat} {M : am_M} {h : am_H} {l : am_L} (c : hp_C cst strs D) (hM : m_P[337]? = some M) (hD : (2 : Int) ≤ (D : Int) + 1) (hy : ly_hy m_tt ly_TH h) (m n : Int) (b0 : 0 ≤ m) (t0 : m ≤ 99) (b1 : 0 ≤ n) (t1 : n ≤ 19) (l0 : hp_a l 0 94) (l1 : hp_i l 1 (m)) (l2 : hp_i l 2 (n)) (e0 : ∀ (l' : am_L) (h_9' : am_H), ly_hy m_tt ly_TH h_9' → ly_fr cst [] h h_9' → h.length ≤ h_9'.length → hp_a l' 0 94 → hp_i l' 1 (m) → hp_i l' 2 (n + 1) → hp_F cst strs Φ D M 61 l' [.ref 94] h_9') : hp_F cst strs Φ D M 57 l [] h := by
  refine hp_arc c hM wo7_k hD [m, n] rfl hy (hp_Bc (z := m) rfl b0 t0 (hp_Bc (z := n) rfl b1 t1 hp_Bn)) hp_Fn hp_Kn (hp_La l0 (hp_Li (z := (0 + (1 * m + 0))) l1 rfl (by omega) (hp_Li (z := (0 + (1 * n + 0))) l2 rfl (by omega) hp_Ln))) trivial ?_ ?_
  · intro p_9 hp ys l' st_9' h_9' hys a1_9 a2 a3 gZ gL gS
    rcases List.mem_cons.mp hp with rfl | hp
    · obtain rfl := hp_y0 hys
      obtain ⟨t0, rfl, g0⟩ := hp_gSa gS (by decide)
      cases hp_gSn g0
      exact e0 l' h_9' a1_9 a2 a3 (hp_gLa gL (List.mem_of_getElem? (i := 0) rfl) (by decide)) (hp_gLi (z := (0 + (1 * m + 0))) gL (List.mem_of_getElem? (i := 1) rfl) rfl (by omega)) (hp_gLi (z := (1 + (1 * n + 0))) gL (List.mem_of_getElem? (i := 2) rfl) rfl (by omega))
    cases hp
  · intro p_9 hp ys v_9 h_9' hys a1_9 a2 a3 gZ gS
    cases hp
theorem wo8_k : hp_chk 337 64 2 [(0, 0, 99), (1, 0, 20)] [] [(0, .inr (.inr (.inl (some 94)))), (1, .inl (0, [(0, 1)])), (2, .inl (0, [(1, 1)]))] [] [] [] 2 [(29, ([], 2, [(0, 0, 99), (1, 0, 20)], [], [(0, .inr (.inr (.inl (some 94)))), (1, .inl (0, [(0, 1)])), (2, .inl (0, [(1, 1)]))], [], []))] [] = true := by decide +kernel
theorem wo8 {cst : am_K} {strs : List Nat} {Φ : am_Q → Prop} {D : Nat} {M : am_M} {h : am_H} {l : am_L} (c : hp_C cst strs D) (hM : m_P[337]? = some M) (hD : (2 : Int) ≤ (D : Int) + 1) (hy : ly_hy m_tt ly_TH h) (m n : Int) (b0 : 0 ≤ m) (t0 : m ≤ 99) (b1 : 0 ≤ n) (t1 : n ≤ 20) (l0 : hp_a l 0 94) (l1 : hp_i l 1 (m)) (l2 : hp_i l 2 (n)) (e0 : ∀ (l' : am_L) (h_9' : am_H), ly_hy m_tt ly_TH h_9' → ly_fr cst [] h h_9' → h.length ≤ h_9'.length → hp_a l' 0 94 → hp_i l' 1 (m) → hp_i l' 2 (n) → hp_F cst strs Φ D M 29 l' [] h_9') : hp_F cst strs Φ D M 64 l [] h := by
  refine hp_arc c hM wo8_k hD [m, n] rfl hy (hp_Bc (z := m) rfl b0 t0 (hp_Bc (z := n) rfl b1 t1 hp_Bn)) hp_Fn hp_Kn (hp_La l0 (hp_Li (z := (0 + (1 * m + 0))) l1 rfl (by omega) (hp_Li (z := (0 + (1 * n + 0))) l2 rfl (by omega) hp_Ln))) trivial ?_ ?_
  · intro p_9 hp ys l' st_9' h_9' hys a1_9 a2 a3 gZ gL gS
    rcases List.mem_cons.mp hp with rfl | hp
    · obtain rfl := hp_y0 hys
      cases hp_gSn gS
      exact e0 l' h_9' a1_9 a2 a3 (hp_gLa gL (List.mem_of_getElem? (i := 0) rfl) (by decide)) (hp_gLi (z := (0 + (1 * m + 0))) gL (List.mem_of_getElem? (i := 1) rfl) rfl (by omega)) (hp_gLi (z := (0 + (1 * n + 0))) gL (List.mem_of_getElem? (i := 2) rfl) rfl (by omega))
    cases hp
  · intro p_9 hp ys v_9 h_9' hys a1_9 a2 a3 gZ gS
    cases hp
theorem wo9_k : hp_chk 337 29 1 [(0, 0, 99)] [] [(0, .inr (.inr (.inl (some 94)))), (1, .inl (0, [(0, 1)])), (2, .inl (20, []))] [] [(19971, (0, []), (1, []))] [] 2 [] [([], 1, [(0, 0, 99)], [], [], [.inl ((-1), [])], [])] = true := by decide +kernel
theorem wo9 {cst : am_K} {strs : List Nat} {Φ : am_Q → Prop} {D : Nat} {M : am_M} {h : am_H} {l : am_L} (c : hp_C cst strs D) (hM : m_P[337]? = some M) (hD : (2 : Int) ≤ (D : Int) + 1) (hy : ly_hy m_tt ly_TH h) (m : Int) (b0 : 0 ≤ m) (t0 : m ≤ 99) (k0 : ly_hv cst h 19971 0 = some 1) (l0 : hp_a l 0 94) (l1 : hp_i l 1 (m)) (l2 : hp_i l 2 20) (r0 : ∀ (h_9' : am_H) (y0 : Int32), y0.toInt = (-1) → ly_hy m_tt ly_TH h_9' → ly_fr cst [] h h_9' → h.length ≤ h_9'.length → Φ (some (.int y0), h_9', 0, 0)) : hp_F cst strs Φ D M 29 l [] h := by
  refine hp_arc c hM wo9_k hD [m] rfl hy (hp_Bc (z := m) rfl b0 t0 hp_Bn) hp_Fn (hp_Kc (zi := (0 + 0)) (zv := (1 + 0)) k0 rfl rfl (by omega) (by omega) hp_Kn) (hp_La l0 (hp_Li (z := (0 + (1 * m + 0))) l1 rfl (by omega) (hp_Li (z := (20 + 0)) l2 rfl (by omega) hp_Ln))) trivial ?_ ?_
  · intro p_9 hp ys l' st_9' h_9' hys a1_9 a2 a3 gZ gL gS
    cases hp
  · intro p_9 hp ys v_9 h_9' hys a1_9 a2 a3 gZ gS
    rcases List.mem_cons.mp hp with rfl | hp
    · obtain rfl := hp_y0 hys
      cases v_9 with
      | none => cases gS
      | some wz =>
        obtain ⟨y0, t0, s0_9, q0, -⟩ := hp_gSi (z := ((-1) + 0)) gS rfl
        cases s0_9
        exact r0 h_9' y0 (by omega) a1_9 a2 a3
    cases hp
theorem woA0_k : hp_chk 337 29 2 [(0, 0, 99), (1, 0, 20)] [] [(0, .inr (.inr (.inl (some 94)))), (1, .inl (0, [(0, 1)])), (2, .inl (0, [(1, 1)]))] [] [(19971, (0, []), (0, []))] [] 2 [] [([], 2, [(0, 0, 99), (1, 0, 20)], [], [], [.inl ((-1), [])], [])] = true := by decide +kernel
theorem woA0 {cst : am_K} {strs : List Nat} {Φ : am_Q → Prop} {D : Nat} {M : am_M} {h : am_H} {l : am_L} (c : hp_C cst strs D) (hM : m_P[337]? = some M) (hD : (2 : Int) ≤ (D : Int) + 1) (hy : ly_hy m_tt ly_TH h) (m n : Int) (b0 : 0 ≤ m) (t0 : m ≤ 99) (b1 : 0 ≤ n) (t1 : n ≤ 20) (k0 : ly_hv cst h 19971 0 = some 0) (l0 : hp_a l 0 94) (l1 : hp_i l 1 (m)) (l2 : hp_i l 2 (n)) (r0 : ∀ (h_9' : am_H) (y0 : Int32), y0.toInt = (-1) → ly_hy m_tt ly_TH h_9' → ly_fr cst [] h h_9' → h.length ≤ h_9'.length → Φ (some (.int y0), h_9', 0, 0)) : hp_F cst strs Φ D M 29 l [] h := by
  refine hp_arc c hM woA0_k hD [m, n] rfl hy (hp_Bc (z := m) rfl b0 t0 (hp_Bc (z := n) rfl b1 t1 hp_Bn)) hp_Fn (hp_Kc (zi := (0 + 0)) (zv := (0 + 0)) k0 rfl rfl (by omega) (by omega) hp_Kn) (hp_La l0 (hp_Li (z := (0 + (1 * m + 0))) l1 rfl (by omega) (hp_Li (z := (0 + (1 * n + 0))) l2 rfl (by omega) hp_Ln))) trivial ?_ ?_
  · intro p_9 hp ys l' st_9' h_9' hys a1_9 a2 a3 gZ gL gS
    cases hp
  · intro p_9 hp ys v_9 h_9' hys a1_9 a2 a3 gZ gS
    rcases List.mem_cons.mp hp with rfl | hp
    · obtain rfl := hp_y0 hys
      cases v_9 with
      | none => cases gS
      | some wz =>
        obtain ⟨y0, t0, s0_9, q0, -⟩ := hp_gSi (z := ((-1) + 0)) gS rfl
        cases s0_9
        exact r0 h_9' y0 (by omega) a1_9 a2 a3
    cases hp
theorem woA1_k : hp_chk 337 29 3 [(0, 0, 99), (1, 0, 20), (2, 2, 7)] [] [(0, .inr (.inr (.inl (some 94)))), (1, .inl (0, [(0, 1)])), (2, .inl (0, [(1, 1)]))] [] [(19971, (0, []), (0, [(2, 1)]))] [] 2 [] [([], 3, [(0, 0, 99), (1, 0, 20), (2, 2, 7)], [], [], [.inl ((-1), [])], [])] = true := by decide +kernel
theorem woA1 {cst : am_K} {strs : List Nat} {Φ : am_Q → Prop} {D : Nat} {M : am_M} {h : am_H} {l : am_L} (c : hp_C cst strs D) (hM : m_P[337]? = some M) (hD : (2 : Int) ≤ (D : Int) + 1) (hy : ly_hy m_tt ly_TH h) (m n q : Int) (b0 : 0 ≤ m) (t0 : m ≤ 99) (b1 : 0 ≤ n) (t1 : n ≤ 20) (b2 : 2 ≤ q) (t2 : q ≤ 7) (k0 : ly_hv cst h 19971 0 = some (q)) (l0 : hp_a l 0 94) (l1 : hp_i l 1 (m)) (l2 : hp_i l 2 (n)) (r0 : ∀ (h_9' : am_H) (y0 : Int32), y0.toInt = (-1) → ly_hy m_tt ly_TH h_9' → ly_fr cst [] h h_9' → h.length ≤ h_9'.length → Φ (some (.int y0), h_9', 0, 0)) : hp_F cst strs Φ D M 29 l [] h := by
  refine hp_arc c hM woA1_k hD [m, n, q] rfl hy (hp_Bc (z := m) rfl b0 t0 (hp_Bc (z := n) rfl b1 t1 (hp_Bc (z := q) rfl b2 t2 hp_Bn))) hp_Fn (hp_Kc (zi := (0 + 0)) (zv := (0 + (1 * q + 0))) k0 rfl rfl (by omega) (by omega) hp_Kn) (hp_La l0 (hp_Li (z := (0 + (1 * m + 0))) l1 rfl (by omega) (hp_Li (z := (0 + (1 * n + 0))) l2 rfl (by omega) hp_Ln))) trivial ?_ ?_
  · intro p_9 hp ys l' st_9' h_9' hys a1_9 a2 a3 gZ gL gS
    cases hp
  · intro p_9 hp ys v_9 h_9' hys a1_9 a2 a3 gZ gS
    rcases List.mem_cons.mp hp with rfl | hp
    · obtain rfl := hp_y0 hys
      cases v_9 with
      | none => cases gS
      | some wz =>
        obtain ⟨y0, t0, s0_9, q0, -⟩ := hp_gSi (z := ((-1) + 0)) gS rfl
        cases s0_9
        exact r0 h_9' y0 (by omega) a1_9 a2 a3
    cases hp
theorem woB_k : hp_chk 337 29 1 [(0, 0, 99)] [] [(0, .inr (.inr (.inl (some 94)))), (1, .inl (0, [(0, 1)])), (2, .inl (0, []))] [] [(19971, (0, []), (8, []))] [] 2 [] [([], 1, [(0, 0, 99)], [], [], [.inl ((-1), [])], [])] = true := by decide +kernel
theorem woB {cst : am_K} {strs : List Nat} {Φ : am_Q → Prop} {D : Nat} {M : am_M} {h : am_H} {l : am_L} (c : hp_C cst strs D) (hM : m_P[337]? = some M) (hD : (2 : Int) ≤ (D : Int) + 1) (hy : ly_hy m_tt ly_TH h) (m : Int) (b0 : 0 ≤ m) (t0 : m ≤ 99) (k0 : ly_hv cst h 19971 0 = some 8) (l0 : hp_a l 0 94) (l1 : hp_i l 1 (m)) (l2 : hp_i l 2 0) (r0 : ∀ (h_9' : am_H) (y0 : Int32), y0.toInt = (-1) → ly_hy m_tt ly_TH h_9' → ly_fr cst [] h h_9' → h.length ≤ h_9'.length → Φ (some (.int y0), h_9', 0, 0)) : hp_F cst strs Φ D M 29 l [] h := by
  refine hp_arc c hM woB_k hD [m] rfl hy (hp_Bc (z := m) rfl b0 t0 hp_Bn) hp_Fn (hp_Kc (zi := (0 + 0)) (zv := (8 + 0)) k0 rfl rfl (by omega) (by omega) hp_Kn) (hp_La l0 (hp_Li (z := (0 + (1 * m + 0))) l1 rfl (by omega) (hp_Li (z := (0 + 0)) l2 rfl (by omega) hp_Ln))) trivial ?_ ?_
  · intro p_9 hp ys l' st_9' h_9' hys a1_9 a2 a3 gZ gL gS
    cases hp
  · intro p_9 hp ys v_9 h_9' hys a1_9 a2 a3 gZ gS
    rcases List.mem_cons.mp hp with rfl | hp
    · obtain rfl := hp_y0 hys
      cases v_9 with
      | none => cases gS
      | some wz =>
        obtain ⟨y0, t0, s0_9, q0, -⟩ := hp_gSi (z := ((-1) + 0)) gS rfl
        cases s0_9
        exact r0 h_9' y0 (by omega) a1_9 a2 a3
    cases hp
theorem woC_k : hp_chk 337 29 2 [(0, 0, 99), (1, 1, 20)] [] [(0, .inr (.inr (.inl (some 94)))), (1, .inl (0, [(0, 1)])), (2, .inl (0, [(1, 1)]))] [] [(19971, (0, []), (8, []))] [] 2 [(84, ([], 2, [(0, 0, 99), (1, 1, 20)], [], [(0, .inr (.inr (.inl (some 94)))), (1, .inl (0, [(0, 1)])), (2, .inl (0, [(1, 1)])), (3, .inl (0, []))], [], []))] [] = true := by decide +kernel
theorem woC {cst : am_K} {strs : List Nat} {Φ : am_Q → Prop} {D : Nat} {M : am_M} {h : am_H} {l : am_L} (c : hp_C cst strs D) (hM : m_P[337]? = some M) (hD : (2 : Int) ≤ (D : Int) + 1) (hy : ly_hy m_tt ly_TH h) (m n : Int) (b0 : 0 ≤ m) (t0 : m ≤ 99) (b1 : 1 ≤ n) (t1 : n ≤ 20) (k0 : ly_hv cst h 19971 0 = some 8) (l0 : hp_a l 0 94) (l1 : hp_i l 1 (m)) (l2 : hp_i l 2 (n)) (e0 : ∀ (l' : am_L) (h_9' : am_H), ly_hy m_tt ly_TH h_9' → ly_fr cst [] h h_9' → h.length ≤ h_9'.length → hp_a l' 0 94 → hp_i l' 1 (m) → hp_i l' 2 (n) → hp_i l' 3 0 → hp_F cst strs Φ D M 84 l' [] h_9') : hp_F cst strs Φ D M 29 l [] h := by
  refine hp_arc c hM woC_k hD [m, n] rfl hy (hp_Bc (z := m) rfl b0 t0 (hp_Bc (z := n) rfl b1 t1 hp_Bn)) hp_Fn (hp_Kc (zi := (0 + 0)) (zv := (8 + 0)) k0 rfl rfl (by omega) (by omega) hp_Kn) (hp_La l0 (hp_Li (z := (0 + (1 * m + 0))) l1 rfl (by omega) (hp_Li (z := (0 + (1 * n + 0))) l2 rfl (by omega) hp_Ln))) trivial ?_ ?_
  · intro p_9 hp ys l' st_9' h_9' hys a1_9 a2 a3 gZ gL gS
    rcases List.mem_cons.mp hp with rfl | hp
    · obtain rfl := hp_y0 hys
      cases hp_gSn gS
      exact e0 l' h_9' a1_9 a2 a3 (hp_gLa gL (List.mem_of_getElem? (i := 0) rfl) (by decide)) (hp_gLi (z := (0 + (1 * m + 0))) gL (List.mem_of_getElem? (i := 1) rfl) rfl (by omega)) (hp_gLi (z := (0 + (1 * n + 0))) gL (List.mem_of_getElem? (i := 2) rfl) rfl (by omega)) (hp_gLi (z := (0 + 0)) gL (List.mem_of_getElem? (i := 3) rfl) rfl (by omega))
    cases hp
  · intro p_9 hp ys v_9 h_9' hys a1_9 a2 a3 gZ gS
    cases hp
theorem woD_k : hp_chk 337 84 4 [(0, 0, 99), (1, 1, 20), (2, 0, 19), (3, (-9223372036854775808), 9223372036854775807)] [((-1), [(1, 1), (2, (-1))])] [(0, .inr (.inr (.inl (some 94)))), (1, .inl (0, [(0, 1)])), (2, .inl (0, [(1, 1)])), (3, .inl (0, [(2, 1)]))] [] [(33024, (3000, [(2, 1)]), (0, [(3, 1)]))] [] 2 [(109, ([], 4, [(0, 0, 99), (1, 1, 20), (2, 0, 19), (3, (-9223372036854775808), 9223372036854775807)], [], [(0, .inr (.inr (.inl (some 94)))), (1, .inl (0, [(0, 1)])), (2, .inl (0, [(1, 1)])), (3, .inl (0, [(2, 1)]))], [.inr (.inl (0, [(3, 1)])), .inl (0, [(0, 30), (2, 1)]), .inr (.inr (.inl (some 145)))], []))] [] = true := by decide +kernel
theorem woD {cst : am_K} {strs : List Nat} {Φ : am_Q → Prop} {D : Nat} {M : am_M} {h : am_H} {l : am_L} (c : hp_C cst strs D) (hM : m_P[337]? = some M) (hD : (2 : Int) ≤ (D : Int) + 1) (hy : ly_hy m_tt ly_TH h) (m n i v : Int) (b0 : 0 ≤ m) (t0 : m ≤ 99) (b1 : 1 ≤ n) (t1 : n ≤ 20) (b2 : 0 ≤ i) (t2 : i ≤ 19) (b3 : (-9223372036854775808) ≤ v) (t3 : v ≤ 9223372036854775807) (f0 : 0 ≤ (n - i - 1)) (k0 : ly_hv cst h 33024 (i + 3000) = some (v)) (l0 : hp_a l 0 94) (l1 : hp_i l 1 (m)) (l2 : hp_i l 2 (n)) (l3 : hp_i l 3 (i)) (e0 : ∀ (l' : am_L) (h_9' : am_H) (y0 : Int64) (y1 : Int32), y0.toInt = (v) → y1.toInt = (30 * m + i) → ly_hy m_tt ly_TH h_9' → ly_fr cst [] h h_9' → h.length ≤ h_9'.length → hp_a l' 0 94 → hp_i l' 1 (m) → hp_i l' 2 (n) → hp_i l' 3 (i) → hp_F cst strs Φ D M 109 l' [.long y0, .int y1, .ref 145] h_9') : hp_F cst strs Φ D M 84 l [] h := by
  refine hp_arc c hM woD_k hD [m, n, i, v] rfl hy (hp_Bc (z := m) rfl b0 t0 (hp_Bc (z := n) rfl b1 t1 (hp_Bc (z := i) rfl b2 t2 (hp_Bc (z := v) rfl b3 t3 hp_Bn)))) (hp_Fc (z := ((-1) + (1 * n + ((-1) * i + 0)))) rfl (by omega) hp_Fn) (hp_Kc (zi := (3000 + (1 * i + 0))) (zv := (0 + (1 * v + 0))) k0 rfl rfl (by omega) (by omega) hp_Kn) (hp_La l0 (hp_Li (z := (0 + (1 * m + 0))) l1 rfl (by omega) (hp_Li (z := (0 + (1 * n + 0))) l2 rfl (by omega) (hp_Li (z := (0 + (1 * i + 0))) l3 rfl (by omega) hp_Ln)))) trivial ?_ ?_
  · intro p_9 hp ys l' st_9' h_9' hys a1_9 a2 a3 gZ gL gS
    rcases List.mem_cons.mp hp with rfl | hp
    · obtain rfl := hp_y0 hys
      obtain ⟨y0, t0, rfl, q0, g0⟩ := hp_gSj (z := (0 + (1 * v + 0))) gS rfl
      obtain ⟨y1, t1, rfl, q1_9, g1⟩ := hp_gSi (z := (0 + (30 * m + (1 * i + 0)))) g0 rfl
      obtain ⟨t2, rfl, g2⟩ := hp_gSa g1 (by decide)
      cases hp_gSn g2
      exact e0 l' h_9' y0 y1 (by omega) (by omega) a1_9 a2 a3 (hp_gLa gL (List.mem_of_getElem? (i := 0) rfl) (by decide)) (hp_gLi (z := (0 + (1 * m + 0))) gL (List.mem_of_getElem? (i := 1) rfl) rfl (by omega)) (hp_gLi (z := (0 + (1 * n + 0))) gL (List.mem_of_getElem? (i := 2) rfl) rfl (by omega)) (hp_gLi (z := (0 + (1 * i + 0))) gL (List.mem_of_getElem? (i := 3) rfl) rfl (by omega))
    cases hp
  · intro p_9 hp ys v h_9' hys a1_9 a2 a3 gZ gS
    cases hp
theorem woE_k : hp_chk 337 110 3 [(0, 0, 99), (1, 1, 20), (2, 0, 19)] [] [(0, .inr (.inr (.inl (some 94)))), (1, .inl (0, [(0, 1)])), (2, .inl (0, [(1, 1)])), (3, .inl (0, [(2, 1)]))] [] [] [] 2 [(84, ([], 3, [(0, 0, 99), (1, 1, 20), (2, 0, 19)], [], [(0, .inr (.inr (.inl (some 94)))), (1, .inl (0, [(0, 1)])), (2, .inl (0, [(1, 1)])), (3, .inl (1, [(2, 1)]))], [], []))] [] = true := by decide +kernel
theorem woE {cst : am_K} {strs : List Nat} {Φ : am_Q → Prop} {D : Nat} {M : am_M} {h : am_H} {l : am_L} (c : hp_C cst strs D) (hM : m_P[337]? = some M) (hD : (2 : Int) ≤ (D : Int) + 1) (hy : ly_hy m_tt ly_TH h) (m n i : Int) (b0 : 0 ≤ m) (t0 : m ≤ 99) (b1 : 1 ≤ n) (t1 : n ≤ 20) (b2 : 0 ≤ i) (t2 : i ≤ 19) (l0 : hp_a l 0 94) (l1 : hp_i l 1 (m)) (l2 : hp_i l 2 (n)) (l3 : hp_i l 3 (i)) (e0 : ∀ (l' : am_L) (h_9' : am_H), ly_hy m_tt ly_TH h_9' → ly_fr cst [] h h_9' → h.length ≤ h_9'.length → hp_a l' 0 94 → hp_i l' 1 (m) → hp_i l' 2 (n) → hp_i l' 3 (i + 1) → hp_F cst strs Φ D M 84 l' [] h_9') : hp_F cst strs Φ D M 110 l [] h := by
  refine hp_arc c hM woE_k hD [m, n, i] rfl hy (hp_Bc (z := m) rfl b0 t0 (hp_Bc (z := n) rfl b1 t1 (hp_Bc (z := i) rfl b2 t2 hp_Bn))) hp_Fn hp_Kn (hp_La l0 (hp_Li (z := (0 + (1 * m + 0))) l1 rfl (by omega) (hp_Li (z := (0 + (1 * n + 0))) l2 rfl (by omega) (hp_Li (z := (0 + (1 * i + 0))) l3 rfl (by omega) hp_Ln)))) trivial ?_ ?_
  · intro p_9 hp ys l' st_9' h_9' hys a1_9 a2 a3 gZ gL gS
    rcases List.mem_cons.mp hp with rfl | hp
    · obtain rfl := hp_y0 hys
      cases hp_gSn gS
      exact e0 l' h_9' a1_9 a2 a3 (hp_gLa gL (List.mem_of_getElem? (i := 0) rfl) (by decide)) (hp_gLi (z := (0 + (1 * m + 0))) gL (List.mem_of_getElem? (i := 1) rfl) rfl (by omega)) (hp_gLi (z := (0 + (1 * n + 0))) gL (List.mem_of_getElem? (i := 2) rfl) rfl (by omega)) (hp_gLi (z := (1 + (1 * i + 0))) gL (List.mem_of_getElem? (i := 3) rfl) rfl (by omega))
    cases hp
  · intro p_9 hp ys v_9 h_9' hys a1_9 a2 a3 gZ gS
    cases hp
theorem woF_k : hp_chk 337 84 2 [(0, 0, 99), (1, 1, 20)] [] [(0, .inr (.inr (.inl (some 94)))), (1, .inl (0, [(0, 1)])), (2, .inl (0, [(1, 1)])), (3, .inl (0, [(1, 1)]))] [] [] [] 2 [(122, ([], 2, [(0, 0, 99), (1, 1, 20)], [], [(0, .inr (.inr (.inl (some 94)))), (1, .inl (0, [(0, 1)])), (2, .inl (0, [(1, 1)])), (3, .inl (0, [(1, 1)]))], [.inl (0, [(1, 1)]), .inl (0, [(0, 1)]), .inr (.inr (.inl (some 146)))], []))] [] = true := by decide +kernel
theorem woF {cst : am_K} {strs : List Nat} {Φ : am_Q → Prop} {D : Nat} {M : am_M} {h : am_H} {l : am_L} (c : hp_C cst strs D) (hM : m_P[337]? = some M) (hD : (2 : Int) ≤ (D : Int) + 1) (hy : ly_hy m_tt ly_TH h) (m n : Int) (b0 : 0 ≤ m) (t0 : m ≤ 99) (b1 : 1 ≤ n) (t1 : n ≤ 20) (l0 : hp_a l 0 94) (l1 : hp_i l 1 (m)) (l2 : hp_i l 2 (n)) (l3 : hp_i l 3 (n)) (e0 : ∀ (l' : am_L) (h_9' : am_H) (y0 : Int32) (y1 : Int32), y0.toInt = (n) → y1.toInt = (m) → ly_hy m_tt ly_TH h_9' → ly_fr cst [] h h_9' → h.length ≤ h_9'.length → hp_a l' 0 94 → hp_i l' 1 (m) → hp_i l' 2 (n) → hp_i l' 3 (n) → hp_F cst strs Φ D M 122 l' [.int y0, .int y1, .ref 146] h_9') : hp_F cst strs Φ D M 84 l [] h := by
  refine hp_arc c hM woF_k hD [m, n] rfl hy (hp_Bc (z := m) rfl b0 t0 (hp_Bc (z := n) rfl b1 t1 hp_Bn)) hp_Fn hp_Kn (hp_La l0 (hp_Li (z := (0 + (1 * m + 0))) l1 rfl (by omega) (hp_Li (z := (0 + (1 * n + 0))) l2 rfl (by omega) (hp_Li (z := (0 + (1 * n + 0))) l3 rfl (by omega) hp_Ln)))) trivial ?_ ?_
  · intro p_9 hp ys l' st_9' h_9' hys a1_9 a2 a3 gZ gL gS
    rcases List.mem_cons.mp hp with rfl | hp
    · obtain rfl := hp_y0 hys
      obtain ⟨y0, t0, rfl, q0, g0⟩ := hp_gSi (z := (0 + (1 * n + 0))) gS rfl
      obtain ⟨y1, t1, rfl, q1_9, g1⟩ := hp_gSi (z := (0 + (1 * m + 0))) g0 rfl
      obtain ⟨t2_9, rfl, g2⟩ := hp_gSa g1 (by decide)
      cases hp_gSn g2
      exact e0 l' h_9' y0 y1 (by omega) (by omega) a1_9 a2 a3 (hp_gLa gL (List.mem_of_getElem? (i := 0) rfl) (by decide)) (hp_gLi (z := (0 + (1 * m + 0))) gL (List.mem_of_getElem? (i := 1) rfl) rfl (by omega)) (hp_gLi (z := (0 + (1 * n + 0))) gL (List.mem_of_getElem? (i := 2) rfl) rfl (by omega)) (hp_gLi (z := (0 + (1 * n + 0))) gL (List.mem_of_getElem? (i := 3) rfl) rfl (by omega))
    cases hp
  · intro p_9 hp ys v_9 h_9' hys a1_9 a2 a3 gZ gS
    cases hp
theorem woG_k : hp_chk 337 123 2 [(0, 0, 99), (1, 1, 20)] [] [(0, .inr (.inr (.inl (some 94)))), (1, .inl (0, [(0, 1)])), (2, .inl (0, [(1, 1)])), (3, .inl (0, [(1, 1)]))] [] [] [] 2 [(129, ([], 2, [(0, 0, 99), (1, 1, 20)], [], [(0, .inr (.inr (.inl (some 94)))), (1, .inl (0, [(0, 1)])), (2, .inl (0, [(1, 1)])), (3, .inl (0, [(1, 1)]))], [.inl (1, []), .inl (0, [(0, 1)]), .inr (.inr (.inl (some 147)))], []))] [] = true := by decide +kernel
theorem woG {cst : am_K} {strs : List Nat} {Φ : am_Q → Prop} {D : Nat} {M : am_M} {h : am_H} {l : am_L} (c : hp_C cst strs D) (hM : m_P[337]? = some M) (hD : (2 : Int) ≤ (D : Int) + 1) (hy : ly_hy m_tt ly_TH h) (m n : Int) (b0 : 0 ≤ m) (t0 : m ≤ 99) (b1 : 1 ≤ n) (t1 : n ≤ 20) (l0 : hp_a l 0 94) (l1 : hp_i l 1 (m)) (l2 : hp_i l 2 (n)) (l3 : hp_i l 3 (n)) (e0 : ∀ (l' : am_L) (h_9' : am_H) (y0 : Int32) (y1 : Int32), y0.toInt = 1 → y1.toInt = (m) → ly_hy m_tt ly_TH h_9' → ly_fr cst [] h h_9' → h.length ≤ h_9'.length → hp_a l' 0 94 → hp_i l' 1 (m) → hp_i l' 2 (n) → hp_i l' 3 (n) → hp_F cst strs Φ D M 129 l' [.int y0, .int y1, .ref 147] h_9') : hp_F cst strs Φ D M 123 l [] h := by
  refine hp_arc c hM woG_k hD [m, n] rfl hy (hp_Bc (z := m) rfl b0 t0 (hp_Bc (z := n) rfl b1 t1 hp_Bn)) hp_Fn hp_Kn (hp_La l0 (hp_Li (z := (0 + (1 * m + 0))) l1 rfl (by omega) (hp_Li (z := (0 + (1 * n + 0))) l2 rfl (by omega) (hp_Li (z := (0 + (1 * n + 0))) l3 rfl (by omega) hp_Ln)))) trivial ?_ ?_
  · intro p_9 hp ys l' st_9' h_9' hys a1_9 a2 a3 gZ gL gS
    rcases List.mem_cons.mp hp with rfl | hp
    · obtain rfl := hp_y0 hys
      obtain ⟨y0, t0, rfl, q0, g0⟩ := hp_gSi (z := (1 + 0)) gS rfl
      obtain ⟨y1, t1, rfl, q1_9, g1⟩ := hp_gSi (z := (0 + (1 * m + 0))) g0 rfl
      obtain ⟨t2_9, rfl, g2⟩ := hp_gSa g1 (by decide)
      cases hp_gSn g2
      exact e0 l' h_9' y0 y1 (by omega) (by omega) a1_9 a2 a3 (hp_gLa gL (List.mem_of_getElem? (i := 0) rfl) (by decide)) (hp_gLi (z := (0 + (1 * m + 0))) gL (List.mem_of_getElem? (i := 1) rfl) rfl (by omega)) (hp_gLi (z := (0 + (1 * n + 0))) gL (List.mem_of_getElem? (i := 2) rfl) rfl (by omega)) (hp_gLi (z := (0 + (1 * n + 0))) gL (List.mem_of_getElem? (i := 3) rfl) rfl (by omega))
    cases hp
  · intro p_9 hp ys v_9 h_9' hys a1_9 a2 a3 gZ gS
    cases hp
theorem woH_k : hp_chk 337 130 2 [(0, 0, 99), (1, 1, 20)] [] [(0, .inr (.inr (.inl (some 94)))), (1, .inl (0, [(0, 1)])), (2, .inl (0, [(1, 1)])), (3, .inl (0, [(1, 1)]))] [] [] [] 2 [] [([], 2, [(0, 0, 99), (1, 1, 20)], [], [], [.inl (0, [(1, 1)])], [])] = true := by decide +kernel
theorem woH {cst : am_K} {strs : List Nat} {Φ : am_Q → Prop} {D : Nat} {M : am_M} {h : am_H} {l : am_L} (c : hp_C cst strs D) (hM : m_P[337]? = some M) (hD : (2 : Int) ≤ (D : Int) + 1) (hy : ly_hy m_tt ly_TH h) (m n : Int) (b0 : 0 ≤ m) (t0 : m ≤ 99) (b1 : 1 ≤ n) (t1 : n ≤ 20) (l0 : hp_a l 0 94) (l1 : hp_i l 1 (m)) (l2 : hp_i l 2 (n)) (l3 : hp_i l 3 (n)) (r0 : ∀ (h_9' : am_H) (y0 : Int32), y0.toInt = (n) → ly_hy m_tt ly_TH h_9' → ly_fr cst [] h h_9' → h.length ≤ h_9'.length → Φ (some (.int y0), h_9', 0, 0)) : hp_F cst strs Φ D M 130 l [] h := by
  refine hp_arc c hM woH_k hD [m, n] rfl hy (hp_Bc (z := m) rfl b0 t0 (hp_Bc (z := n) rfl b1 t1 hp_Bn)) hp_Fn hp_Kn (hp_La l0 (hp_Li (z := (0 + (1 * m + 0))) l1 rfl (by omega) (hp_Li (z := (0 + (1 * n + 0))) l2 rfl (by omega) (hp_Li (z := (0 + (1 * n + 0))) l3 rfl (by omega) hp_Ln)))) trivial ?_ ?_
  · intro p_9 hp ys l' st_9' h_9' hys a1_9 a2 a3 gZ gL gS
    cases hp
  · intro p_9 hp ys v_9 h_9' hys a1_9 a2 a3 gZ gS
    rcases List.mem_cons.mp hp with rfl | hp
    · obtain rfl := hp_y0 hys
      cases v_9 with
      | none => cases gS
      | some wz =>
        obtain ⟨y0, t0, s0_9, q0, -⟩ := hp_gSi (z := (0 + (1 * n + 0))) gS rfl
        cases s0_9
        exact r0 h_9' y0 (by omega) a1_9 a2 a3
    cases hp
abbrev wo_mods : List Nat := [19969, 19970, 19971, 19972, 19973, 19974, 19975, 19976]
/-- all stands but L and the spare row of words -/
def nfs (cst : am_K) (L : List Nat) (h h' : am_H) : Prop := ∀ (r : Nat) (i v : Int), ly_has r L = false → (r = 33024 → i < 3000) → ly_hv cst h r i = some v → ly_hv cst h' r i = some v
/-- .. and the words of the matter m -/
def nfr (cst : am_K) (m : Int) (L : List Nat) (h h' : am_H) : Prop := ∀ (r : Nat) (i v : Int), ly_has r L = false → (r = 33280 ∨ r = 33536 → i ≠ m) → (r = 33024 → i < 3000 ∧ ¬ (30 * m ≤ i ∧ i < 30 * m + 30)) → ly_hv cst h r i = some v → ly_hv cst h' r i = some v
theorem nfs_tr {cst : am_K} {L : List Nat} {h h1 h2 : am_H} (a : nfs cst L h h1) (b : nfs cst L h1 h2) : nfs cst L h h2 := fun r_9 i_9 v_9 q_9 x_9 e_9 => b r_9 i_9 v_9 q_9 x_9 (a r_9 i_9 v_9 q_9 x_9 e_9)
theorem nfs_L {cst : am_K} {L : List Nat} {h h' : am_H} (f : ly_fr cst L h h') : nfs cst L h h' := fun r_9 i_9 v_9 q_9 _ e_9 => f r_9 i_9 v_9 q_9 e_9
theorem nfs_p {cst : am_K} {L : List Nat} {h h' : am_H} {k v : Int} (p : hp_put cst 33024 k v h h') (k0 : 3000 ≤ k) : nfs cst L h h' := fun r_9 i_9 u_9 _ x_9 e_9 => by
  rw [p.2 r_9 i_9 (if z : r_9 = 33024 then Or.inr (fun w_9 => by have := x_9 z; omega) else Or.inl z)]
  exact e_9
theorem nfr_tr {cst : am_K} {m : Int} {L : List Nat} {h h1 h2 : am_H} (a : nfr cst m L h h1) (b : nfr cst m L h1 h2) : nfr cst m L h h2 := fun r_9 i_9 v_9 q_9 x_9 y_9 e_9 => b r_9 i_9 v_9 q_9 x_9 y_9 (a r_9 i_9 v_9 q_9 x_9 y_9 e_9)
theorem nfr_s {cst : am_K} {m : Int} {L : List Nat} {h h' : am_H} (a : nfs cst L h h') : nfr cst m L h h' := fun r_9 i_9 v_9 q_9 _ y_9 e_9 => a r_9 i_9 v_9 q_9 (fun z_9 => (y_9 z_9).1) e_9
theorem nfr_L {cst : am_K} {m : Int} {L : List Nat} {h h' : am_H} (f : ly_fr cst L h h') : nfr cst m L h h' := nfr_s (nfs_L f)
theorem nfr_pw {cst : am_K} {m : Int} {L : List Nat} {h h' : am_H} {k v : Int} (p : hp_put cst 33024 (30 * m + k) v h h') (k0 : 0 ≤ k) (k1 : k < 30) : nfr cst m L h h' := fun r_9 i_9 u_9 _ _ y_9 e_9 => by
  rw [p.2 r_9 i_9 (if z : r_9 = 33024 then Or.inr (fun w_9 => (y_9 z).2 ⟨by omega, by omega⟩) else Or.inl z)]
  exact e_9
theorem nfr_pm {cst : am_K} {m : Int} {L : List Nat} {h h' : am_H} {v : Int} (p : hp_put cst 33280 m v h h') : nfr cst m L h h' := fun r_9 i_9 u_9 _ x_9 _ e_9 => by
  rw [p.2 r_9 i_9 (if z : r_9 = 33280 then Or.inr (x_9 (Or.inl z)) else Or.inl z)]
  exact e_9
theorem nfr_pt {cst : am_K} {m : Int} {L : List Nat} {h h' : am_H} {v : Int} (p : hp_put cst 33536 m v h h') : nfr cst m L h h' := fun r_9 i_9 u_9 _ x_9 _ e_9 => by
  rw [p.2 r_9 i_9 (if z : r_9 = 33536 then Or.inr (x_9 (Or.inr z)) else Or.inl z)]
  exact e_9
/-- the WORDS are laid behind the others -/
theorem wo_cp {cst : am_K} {strs : List Nat} {D : Nat} {M : am_M} {h0 : am_H} (cc : ∀ d_9, hp_C cst strs d_9) (hM : m_P[337]? = some M) (hD : 3 ≤ D) {m : Int} (m0 : 0 ≤ m) (m1 : m ≤ 99) {kd vl : Int → Int} {t n : Nat} (n0 : 1 ≤ n) (n20 : n ≤ 20) (es : wds kd vl t = some ((List.range n).map fun (i_9 : Nat) => vl (i_9 : Int))) (vb : ∀ i_9 : Nat, i_9 < n → -9223372036854775808 ≤ vl (i_9 : Int) ∧ vl (i_9 : Int) ≤ 9223372036854775807) :
    ∀ (Q_9 : Nat) (h_9 : am_H) (l : am_L) (i_9 : Nat), i_9 + Q_9 = n → ly_hy m_tt ly_TH h_9 → nfr cst m wo_mods h0 h_9 → ly_hv cst h_9 19969 0 = some 0 → (∀ k_9 : Nat, k_9 < n → ly_hv cst h_9 33024 (3000 + (k_9 : Int)) = some (vl (k_9 : Int))) → (∀ k_9 : Nat, k_9 < i_9 → ly_hv cst h_9 33024 (30 * m + (k_9 : Int)) = some (vl (k_9 : Int))) → hp_a l 0 94 → hp_i l 1 m → hp_i l 2 (n : Int) → hp_i l 3 (i_9 : Int) → hp_F cst strs (fun r_9 : am_Q => ∃ w_9 : Int32, r_9.1 = some (.int w_9) ∧ r_9.2.2.1 = 0 ∧ r_9.2.2.2 = 0 ∧ ly_hy m_tt ly_TH r_9.2.1 ∧ ly_hv cst r_9.2.1 19969 0 = some 0 ∧ ((wds kd vl t = none ∧ w_9.toInt = -1 ∧ nfs cst wo_mods h0 r_9.2.1) ∨ ∃ ws_9, wds kd vl t = some ws_9 ∧ w_9.toInt = (ws_9.length : Int) ∧ nfr cst m wo_mods h0 r_9.2.1 ∧ wM cst r_9.2.1 m ws_9 ∧ ly_hv cst r_9.2.1 33536 m = some 1)) D M 84 l [] h_9 := by
  have c_9 : hp_C cst strs D := cc _
  intro Q_9
  induction Q_9 with
  | zero =>
    intro h_9 l i_9 e_9 hy fr_9 kz A_9 B_9 l0 l1 l2 l3
    have ei : i_9 = n := by omega
    subst ei
    refine woF c_9 hM (by omega) hy m (i_9 : Int) m0 m1 (by omega) (by omega) l0 l1 l2 l3 (fun l4 h4 z0 z1 e0_9 e1_9 u1_9 u2_9 u3 g0 g1 g2 g3_9 => ?_)
    refine hp_st (c := 130) hM (by decide +kernel) u1_9 (show ly_ths ly_TH 130 = some (.inl (.int, 101, 0, 28)) from rfl) rfl (by omega) (by omega) (by omega) (by omega) (fun h5 x1_9 x2_9 x3 => ?_)
    rw [e0_9, e1_9] at x3
    have x3 : hp_put cst 33280 m (i_9 : Int) h4 h5 := x3
    refine woG c_9 hM (by omega) x1_9 m (i_9 : Int) m0 m1 (by omega) (by omega) g0 g1 g2 g3_9 (fun l6 h6 z2 z3 e2_9 e3_9 v1_9 v2 v3 o0_9 o1 o2 o3_9 => ?_)
    have ez : z2 = 1 := Int32.toInt_inj.mp (show z2.toInt = (1 : Int32).toInt from e2_9)
    rw [ez]
    refine hp_sbo (c := 131) hM (by decide +kernel) v1_9 (show ly_ths ly_TH 131 = some (.inl (.boolean, 100, 0, 1)) from rfl) rfl (by omega) (by omega) (by decide) (by decide) (fun h7 y1 y2 y3 => ?_)
    rw [e3_9] at y3
    have y3 : hp_put cst 33536 m 1 h6 h7 := y3
    have up_9 : ∀ r_9' k_9 u_9 h8, ly_fr cst [] h7 h8 → r_9' ≠ 33280 → r_9' ≠ 33536 → ly_hv cst h_9 r_9' k_9 = some u_9 → ly_hv cst h8 r_9' k_9 = some u_9 := fun r_9' k_9 u_9 h8 f_9 n1_9 n2_9 e_9 => by
      refine f_9 _ _ _ rfl ?_
      rw [y3.2 _ _ (Or.inl n2_9)]
      refine v2 _ _ _ rfl ?_
      rw [x3.2 _ _ (Or.inl n1_9)]
      exact u2_9 _ _ _ rfl e_9
    refine woH c_9 hM (by omega) y1 m (i_9 : Int) m0 m1 (by omega) (by omega) o0_9 o1 o2 o3_9 (fun h8 w_9 hw t1_9 t2_9 t3_9 => ⟨w_9, rfl, rfl, rfl, t1_9, up_9 _ _ _ h8 t2_9 (by decide) (by decide) kz, Or.inr ⟨_, es, ?_, ?_, ⟨?_, ?_, ?_⟩, t2_9 _ _ _ rfl y3.1⟩⟩)
    · rw [List.length_map, List.length_range]
      exact hw
    · exact nfr_tr fr_9 (nfr_tr (nfr_L (hp_sub2 rfl u2_9)) (nfr_tr (nfr_pm x3) (nfr_tr (nfr_L (hp_sub2 rfl v2)) (nfr_tr (nfr_pt y3) (nfr_L (hp_sub2 rfl t2_9))))))
    · rw [List.length_map, List.length_range]
      omega
    · rw [List.length_map, List.length_range]
      refine t2_9 _ _ _ rfl ?_
      rw [y3.2 _ _ (Or.inl (by decide))]
      exact v2 _ _ _ rfl x3.1
    · intro k_9 hk
      have hk' : k_9 < i_9 := by
        rw [List.length_map, List.length_range] at hk
        exact hk
      rw [List.getElem_map, List.getElem_range]
      exact ⟨up_9 _ _ _ h8 t2_9 (by decide) (by decide) (B_9 k_9 hk'), vb k_9 hk'⟩
  | succ Q_9 ih_9 =>
    intro h_9 l i_9 e_9 hy fr_9 kz A_9 B_9 l0 l1 l2 l3
    have hi_9 : i_9 < n := by omega
    refine woD c_9 hM (by omega) hy m (n : Int) (i_9 : Int) (vl (i_9 : Int)) m0 m1 (by omega) (by omega) (by omega) (by omega) (vb i_9 hi_9).1 (vb i_9 hi_9).2 (by omega) (by rw [show (i_9 : Int) + 3000 = 3000 + (i_9 : Int) by omega]; exact A_9 i_9 hi_9) l0 l1 l2 l3 (fun l4 h4 z0 z1 e0_9 e1_9 u1_9 u2_9 u3 g0 g1 g2 g3_9 => ?_)
    refine hp_stj (c := 129) hM (by decide +kernel) u1_9 (show ly_ths ly_TH 129 = some (.inl (.long, 3030, 0, 0)) from rfl) rfl (by omega) (by omega) (fun h5 x1_9 x2_9 x3 => ?_)
    rw [e0_9, e1_9] at x3
    have x3 : hp_put cst 33024 (30 * m + (i_9 : Int)) (vl (i_9 : Int)) h4 h5 := x3
    refine woE c_9 hM (by omega) x1_9 m (n : Int) (i_9 : Int) m0 m1 (by omega) (by omega) (by omega) (by omega) g0 g1 g2 g3_9 (fun l6 h6 v1_9 v2 v3 o0_9 o1 o2 o3_9 => ih_9 h6 l6 (i_9 + 1) (by omega) v1_9 (nfr_tr fr_9 (nfr_tr (nfr_L (hp_sub2 rfl u2_9)) (nfr_tr (nfr_pw x3 (by omega) (by omega)) (nfr_L (hp_sub2 rfl v2))))) ?_ (fun k_9 hk => ?_) (fun k_9 hk => ?_) o0_9 o1 o2 (by rw [show (((i_9 + 1 : Nat)) : Int) = (i_9 : Int) + 1 by omega]; exact o3_9))
    · refine v2 _ _ _ rfl ?_
      rw [x3.2 _ _ (Or.inl (by decide))]
      exact u2_9 _ _ _ rfl kz
    · refine v2 _ _ _ rfl ?_
      rw [x3.2 _ _ (Or.inr (by omega))]
      exact u2_9 _ _ _ rfl (A_9 k_9 hk)
    · refine v2 _ _ _ rfl ?_
      by_cases z_9 : k_9 = i_9
      · rw [z_9]
        exact x3.1
      · rw [x3.2 _ _ (Or.inr (by omega))]
        exact u2_9 _ _ _ rfl (B_9 k_9 (by omega))
theorem hp_mono9 {cst : am_K} {strs : List Nat} {Φ Ψ : am_Q → Prop} {D pc : Nat} {M : am_M} {l : am_L} {st : List Value} {h : am_H} (H : hp_F cst strs Φ D M pc l st h) (k : ∀ r_9, Φ r_9 → Ψ r_9) : hp_F cst strs Ψ D M pc l st h := by
  obtain ⟨n_9, r_9, hgo, hr⟩ := H
  exact ⟨n_9, r_9, hgo, k _ hr⟩
/-- at a token: no WORD, or the next is read -/
theorem wo_end {cst : am_K} {strs : List Nat} {D : Nat} {M : am_M} {h0 h : am_H} {l : am_L} (c : hp_C cst strs D) (cc : ∀ d_9, hp_C cst strs d_9) (hM : m_P[337]? = some M) (hD : 9 ≤ D) {m : Int} (m0 : 0 ≤ m) (m1 : m ≤ 99) {f : Int → Int} {nn : Int} {t : Nat} {kd pl vl : Int → Int} {en : Nat → Int} (kb : ∀ j_9 : Nat, j_9 < t → 1 ≤ kd (j_9 : Int) ∧ kd (j_9 : Int) ≤ 61) (vB9 : vB kd vl t) {F n : Nat} (e : n + F = 20) (ec : wcn kd t (F + 1) n = wcn kd t 21 0) (pf : ∀ i_9, i_9 < n → fk kd t i_9 = 1) (hy : ly_hy m_tt ly_TH h) (fr : nfs cst wo_mods h0 h) (kz : ly_hv cst h 19969 0 = some 0) (R : rq cst h f nn t kd pl vl en n) (A : ∀ i_9 : Nat, i_9 < n → ly_hv cst h 33024 (3000 + (i_9 : Int)) = some (vl (i_9 : Int))) (l0 : hp_a l 0 94) (l1 : hp_i l 1 m) (l2 : hp_i l 2 (n : Int))
    (go : fk kd t n = 1 → hp_F cst strs (fun r_9 : am_Q => ∃ w_9 : Int32, r_9.1 = some (.int w_9) ∧ r_9.2.2.1 = 0 ∧ r_9.2.2.2 = 0 ∧ ly_hy m_tt ly_TH r_9.2.1 ∧ ly_hv cst r_9.2.1 19969 0 = some 0 ∧ ((wds kd vl t = none ∧ w_9.toInt = -1 ∧ nfs cst wo_mods h0 r_9.2.1) ∨ ∃ ws_9, wds kd vl t = some ws_9 ∧ w_9.toInt = (ws_9.length : Int) ∧ nfr cst m wo_mods h0 r_9.2.1 ∧ wM cst r_9.2.1 m ws_9 ∧ ly_hv cst r_9.2.1 33536 m = some 1)) D M 29 l [] h) : hp_F cst strs (fun r_9 : am_Q => ∃ w_9 : Int32, r_9.1 = some (.int w_9) ∧ r_9.2.2.1 = 0 ∧ r_9.2.2.2 = 0 ∧ ly_hy m_tt ly_TH r_9.2.1 ∧ ly_hv cst r_9.2.1 19969 0 = some 0 ∧ ((wds kd vl t = none ∧ w_9.toInt = -1 ∧ nfs cst wo_mods h0 r_9.2.1) ∨ ∃ ws_9, wds kd vl t = some ws_9 ∧ w_9.toInt = (ws_9.length : Int) ∧ nfr cst m wo_mods h0 r_9.2.1 ∧ wM cst r_9.2.1 m ws_9 ∧ ly_hv cst r_9.2.1 33536 m = some 1)) D M 29 l [] h := by
  have so := rs_so R.2.1
  by_cases y_9 : fk kd t n = 1
  · exact go y_9
  have ec : (if fk kd t n = 1 then wcn kd t F (n + 1) else n) = wcn kd t 21 0 := ec
  rw [if_neg y_9] at ec
  obtain ⟨b0, b8, i8_9, i1_9, -⟩ := rk_b kd t n kb
  by_cases z_9 : fk kd t n = 0
  · rw [i8_9.mpr z_9] at so
    by_cases q_9 : n = 0
    · subst q_9
      exact woB c hM (by omega) hy m m0 m1 so l0 l1 l2 (fun h2 w_9 hw u1_9 u2_9 u3 => ⟨w_9, rfl, rfl, rfl, u1_9, u2_9 _ _ _ rfl kz, Or.inl ⟨if_neg (by omega), hw, nfs_tr fr (nfs_L (hp_sub2 rfl u2_9))⟩⟩)
    have es : wds kd vl t = some ((List.range n).map fun (i_9 : Nat) => vl (i_9 : Int)) := by
      unfold wds
      rw [← ec, if_pos ⟨by omega, by omega, z_9⟩]
    refine woC c hM (by omega) hy m (n : Int) m0 m1 (by omega) (by omega) so l0 l1 l2 (fun l4 h4 u1_9 u2_9 u3 g0 g1 g2 g3_9 => ?_)
    exact wo_cp cc hM (by omega) m0 m1 (by omega) (by omega) es (fun i_9 hi_9 => by
      have nt := fk_w (pf i_9 hi_9)
      have k1_9 : kd (i_9 : Int) = 1 := (fk_lt nt).symm.trans (pf i_9 hi_9)
      have vb := (vB9 i_9 nt).1 k1_9
      omega) n h4 l4 0 (by omega) u1_9 (nfr_s (nfs_tr fr (nfs_L (hp_sub2 rfl u2_9)))) (u2_9 _ _ _ rfl kz) (fun k_9 hk => u2_9 _ _ _ rfl (A k_9 hk)) (fun k_9 hk => absurd hk (Nat.not_lt_zero _)) g0 g1 g2 g3_9
  · have nw : wds kd vl t = none := if_neg (fun q_9 => z_9 (by have := q_9.2.2; rw [← ec] at this; exact this))
    have n8 : rk kd t n ≠ 8 := fun q_9 => z_9 (i8_9.mp q_9)
    have n1_9 : rk kd t n ≠ 1 := fun q_9 => y_9 (i1_9.mp q_9)
    by_cases q_9 : rk kd t n = 0
    · rw [q_9] at so
      exact woA0 c hM (by omega) hy m (n : Int) m0 m1 (by omega) (by omega) so l0 l1 l2 (fun h2 w_9 hw u1_9 u2_9 u3 => ⟨w_9, rfl, rfl, rfl, u1_9, u2_9 _ _ _ rfl kz, Or.inl ⟨nw, hw, nfs_tr fr (nfs_L (hp_sub2 rfl u2_9))⟩⟩)
    · exact woA1 c hM (by omega) hy m (n : Int) (rk kd t n) m0 m1 (by omega) (by omega) (by omega) (by omega) so l0 l1 l2 (fun h2 w_9 hw u1_9 u2_9 u3 => ⟨w_9, rfl, rfl, rfl, u1_9, u2_9 _ _ _ rfl kz, Or.inl ⟨nw, hw, nfs_tr fr (nfs_L (hp_sub2 rfl u2_9))⟩⟩)
/-- the WORDS of the text are read -/
theorem wo_lp {cst : am_K} {strs : List Nat} {D : Nat} {M : am_M} {h0 : am_H} (cc : ∀ d_9, hp_C cst strs d_9) (hM : m_P[337]? = some M) (hD : 9 ≤ D) {m : Int} (m0 : 0 ≤ m) (m1 : m ≤ 99) {f : Int → Int} {nn : Int} {t : Nat} {kd pl vl : Int → Int} {en : Nat → Int} (kb : ∀ j_9 : Nat, j_9 < t → 1 ≤ kd (j_9 : Int) ∧ kd (j_9 : Int) ≤ 61) (vB9 : vB kd vl t) :
    ∀ (F_9 : Nat) (h_9 : am_H) (l : am_L) (n_9 : Nat), n_9 + F_9 = 20 → wcn kd t (F_9 + 1) n_9 = wcn kd t 21 0 → (∀ i_9, i_9 < n_9 → fk kd t i_9 = 1) → ly_hy m_tt ly_TH h_9 → nfs cst wo_mods h0 h_9 → ly_hv cst h_9 19969 0 = some 0 → rq cst h_9 f nn t kd pl vl en n_9 → (∀ i_9 : Nat, i_9 < n_9 → ly_hv cst h_9 33024 (3000 + (i_9 : Int)) = some (vl (i_9 : Int))) → hp_a l 0 94 → hp_i l 1 m → hp_i l 2 (n_9 : Int) → hp_F cst strs (fun r_9 : am_Q => ∃ w_9 : Int32, r_9.1 = some (.int w_9) ∧ r_9.2.2.1 = 0 ∧ r_9.2.2.2 = 0 ∧ ly_hy m_tt ly_TH r_9.2.1 ∧ ly_hv cst r_9.2.1 19969 0 = some 0 ∧ ((wds kd vl t = none ∧ w_9.toInt = -1 ∧ nfs cst wo_mods h0 r_9.2.1) ∨ ∃ ws_9, wds kd vl t = some ws_9 ∧ w_9.toInt = (ws_9.length : Int) ∧ nfr cst m wo_mods h0 r_9.2.1 ∧ wM cst r_9.2.1 m ws_9 ∧ ly_hv cst r_9.2.1 33536 m = some 1)) D M 29 l [] h_9 := by
  have c_9 : hp_C cst strs D := cc _
  intro F_9
  induction F_9 with
  | zero =>
    intro h_9 l n_9 e_9 ec pf hy fr_9 kz R_9 A_9 l0 l1 l2
    have en' : n_9 = 20 := by omega
    subst en'
    exact wo_end c_9 cc hM hD m0 m1 kb vB9 (F := 0) (by omega) ec pf hy fr_9 kz R_9 A_9 l0 l1 l2 (fun y_9 => by
      have so := rs_so R_9.2.1
      rw [((rk_i1 kb 20).mpr y_9)] at so
      have ec : (if fk kd t 20 = 1 then 21 else 20) = wcn kd t 21 0 := ec
      rw [if_pos y_9] at ec
      exact wo9 c_9 hM (by omega) hy m m0 m1 so l0 l1 l2 (fun h2 w_9 hw u1_9 u2_9 u3 => ⟨w_9, rfl, rfl, rfl, u1_9, u2_9 _ _ _ rfl kz, Or.inl ⟨if_neg (by omega), hw, nfs_tr fr_9 (nfs_L (hp_sub2 rfl u2_9))⟩⟩))
  | succ F_9 ih_9 =>
    intro h_9 l n_9 e_9 ec pf hy fr_9 kz R_9 A_9 l0 l1 l2
    refine wo_end c_9 cc hM hD m0 m1 kb vB9 (F := F_9 + 1) (by omega) ec pf hy fr_9 kz R_9 A_9 l0 l1 l2 (fun y_9 => ?_)
    have so := rs_so R_9.2.1
    rw [((rk_i1 kb n_9).mpr y_9)] at so
    have nt := fk_w y_9
    have k1_9 : kd (n_9 : Int) = 1 := (fk_lt nt).symm.trans y_9
    have sv := (R_9.2.1.1 nt).2.2.1 k1_9
    have vb := (vB9 n_9 nt).1 k1_9
    have ec : (if fk kd t n_9 = 1 then wcn kd t (F_9 + 1) (n_9 + 1) else n_9) = wcn kd t 21 0 := ec
    rw [if_pos y_9] at ec
    refine wo6 c_9 hM (by omega) hy m (n_9 : Int) (vl (n_9 : Int)) m0 m1 (by omega) (by omega) (by omega) (by omega) so sv l0 l1 l2 (fun l4 h4 z0 z1 e0_9 e1_9 u1_9 u2_9 u3 g0 g1 g2 => ?_)
    refine hp_stj (c := 129) hM (by decide +kernel) u1_9 (show ly_ths ly_TH 129 = some (.inl (.long, 3030, 0, 0)) from rfl) rfl (by omega) (by omega) (fun h5 x1_9 x2_9 x3 => ?_)
    rw [e0_9, e1_9, show (n_9 : Int) + 3000 = 3000 + (n_9 : Int) by omega] at x3
    have x3 : hp_put cst 33024 (3000 + (n_9 : Int)) (vl (n_9 : Int)) h4 h5 := x3
    refine wo7 c_9 hM (by omega) x1_9 m (n_9 : Int) m0 m1 (by omega) (by omega) g0 g1 g2 (fun l6 h6 v1_9 v2 v3 o0_9 o1 o2 => ?_)
    have F6 : ly_fr cst [33024] h_9 h6 := ly_fr_tr (hp_sub2 rfl u2_9) (ly_fr_tr (hp_put_fr rfl x3) (hp_sub2 rfl v2))
    obtain ⟨r_9, hrun, r1_9, r2, r3, rhy, rfr, R2⟩ := rq_scan (D := D - 1) (cc _) (by omega) v1_9 (rq_mv R_9 hy v1_9 F6 rfl)
    rw [show D - 1 + 1 = D by omega] at hrun
    refine hp_call (mi := 337) (pc := 61) (tg := 299) (na := 1) (c := 78) (ci := 12) (st0 := [.ref 94]) (st := []) (av := []) hM (by decide +kernel) v1_9 rfl rfl rfl (by decide) hrun r2 r3 ?_
    rw [r1_9]
    refine wo8 c_9 hM (by omega) rhy m ((n_9 : Int) + 1) m0 m1 (by omega) (by omega) o0_9 o1 o2 (fun l8 h8 t1_9 t2_9 t3_9 p0_9 p1_9 p2_9 => ih_9 h8 l8 (n_9 + 1) (by omega) ec (fun i_9 hi_9 => if q : i_9 = n_9 then by rw [q]; exact y_9 else pf i_9 (by omega)) t1_9 (nfs_tr fr_9 (nfs_tr (nfs_L (hp_sub2 rfl u2_9)) (nfs_tr (nfs_p x3 (by omega)) (nfs_L (ly_fr_tr (hp_sub2 rfl v2) (ly_fr_tr (hp_sub2 rfl rfr) (hp_sub2 rfl t2_9))))))) (t2_9 _ _ _ rfl (rfr _ _ _ rfl (F6 _ _ _ rfl kz))) (rq_mv R2 rhy t1_9 t2_9 rfl) (fun i_9 hi_9 => ?_) p0_9 p1_9 (by rw [show (((n_9 + 1 : Nat)) : Int) = (n_9 : Int) + 1 by omega]; exact p2_9))
    refine t2_9 _ _ _ rfl (rfr _ _ _ rfl (v2 _ _ _ rfl ?_))
    by_cases z_9 : i_9 = n_9
    · rw [z_9]
      exact x3.1
    · rw [x3.2 _ _ (Or.inr (by omega))]
      exact u2_9 _ _ _ rfl (A_9 i_9 (by omega))
/-- words of the reference -/
theorem wo_run {cst : am_K} {strs : List Nat} {D : Nat} {h0 : am_H} (cc : ∀ d_9, hp_C cst strs d_9) (hD : 9 ≤ D) (hy : ly_hy m_tt ly_TH h0) {f : Int → Int} {n : Int} {t : Nat} {kd pl vl : Int → Int} {en : Nat → Int} (TT : tkT f n t kd pl vl en) (n0 : 0 ≤ n) (n1 : n ≤ 1200) (ff : ∀ x_9, 0 ≤ x_9 → x_9 < n → gs_f cst h0 x_9 = f x_9) (kn : ly_hv cst h0 19969 0 = some n) {xm : Int32} {s : Int} (s0 : 0 ≤ s) (s1 : s ≤ 100) (ks : ly_hv cst h0 20024 0 = some s) (kc : ∀ j_9, 0 ≤ j_9 → j_9 < s → ∃ su st, ly_hv cst h0 28416 j_9 = some su ∧ ly_hv cst h0 30464 j_9 = some st ∧ (su = 0 ∨ su = 1) ∧ -2147483648 ≤ st ∧ st ≤ 2147483647) :
    ∃ r_9, am_Run cst m_cl m_tt m_P strs sx_bi (D + 1) 337 [.ref 94, .int xm] h0 r_9 ∧ (fun r_9 : am_Q => ∃ w_9 : Int32, r_9.1 = some (.int w_9) ∧ r_9.2.2.1 = 0 ∧ r_9.2.2.2 = 0 ∧ ly_hy m_tt ly_TH r_9.2.1 ∧ nfr cst xm.toInt wo_mods h0 r_9.2.1 ∧ (ly_hv cst r_9.2.1 19969 0 = some 0 ∧ wdP (wds kd vl t) s xm.toInt (ly_hv cst h0 28416 xm.toInt) (ly_hv cst h0 30464 xm.toInt) 0 w_9.toInt (nfs cst wo_mods h0 r_9.2.1) (fun ws_9 => wM cst r_9.2.1 xm.toInt ws_9 ∧ ly_hv cst r_9.2.1 33536 xm.toInt = some 1))) r_9 := by
  obtain ⟨M_9, hM_9, hl⟩ := hp_M (mi := 337) (k := 2) (by decide +kernel)
  have c_9 : hp_C cst strs D := cc _
  have b0 := xm.le_toInt
  have b1 := xm.toInt_le
  have go_9 : hp_F cst strs (fun r_9 : am_Q => ∃ w_9 : Int32, r_9.1 = some (.int w_9) ∧ r_9.2.2.1 = 0 ∧ r_9.2.2.2 = 0 ∧ ly_hy m_tt ly_TH r_9.2.1 ∧ nfr cst xm.toInt wo_mods h0 r_9.2.1 ∧ (ly_hv cst r_9.2.1 19969 0 = some 0 ∧ wdP (wds kd vl t) s xm.toInt (ly_hv cst h0 28416 xm.toInt) (ly_hv cst h0 30464 xm.toInt) 0 w_9.toInt (nfs cst wo_mods h0 r_9.2.1) (fun ws_9 => wM cst r_9.2.1 xm.toInt ws_9 ∧ ly_hv cst r_9.2.1 33536 xm.toInt = some 1))) D M_9 0 (lv_args 0 [.ref 94, .int xm]) [] h0 := by
    refine wo0 c_9 hM_9 (by omega) hy xm.toInt b0 b1 rfl ⟨xm, rfl, rfl⟩ (fun l1 h1 u1_9 u2_9 u3 g0 g1 => ?_)
    obtain ⟨r_9, hrun, r1_9, r2, r3, rhy, rfr, rk9, rn, rE_9⟩ := zo_take (D := D - 2) (cc _) (cc _) (by omega) u1_9 n0 n1 (u2_9 _ _ _ rfl kn)
    rw [show D - 2 + 1 + 1 = D by omega] at hrun
    refine hp_call (mi := 337) (pc := 1) (tg := 298) (na := 1) (c := 78) (ci := 12) (st0 := [.ref 94]) (st := []) (av := []) hM_9 (by decide +kernel) u1_9 rfl rfl rfl (by decide) hrun r2 r3 ?_
    rw [r1_9]
    have F1_9 : ly_fr cst wo_mods h0 r_9.2.1 := ly_fr_tr (hp_sub2 rfl u2_9) rfr
    have f1_9 : ∀ x_9, 0 ≤ x_9 → x_9 < n → gs_f cst r_9.2.1 x_9 = f x_9 := fun x_9 x0_9 x1_9 => by
      rw [gs_same hy rhy F1_9 rfl]
      exact ff x_9 x0_9 x1_9
    have E1_9 : gs_E f cst r_9.2.1 (en 0) n := by
      rw [TT.1]
      refine gs_ev (Int.le_refl 0) ?_ rE_9
      intro x_9 x0_9 x1_9
      rw [gs_same hy u1_9 u2_9 rfl]
      exact ff x_9 x0_9 x1_9
    have R1 : rq cst r_9.2.1 f n t kd pl vl en 0 := ⟨⟨TT, n0, n1, f1_9, rn⟩, rs_at TT (Nat.zero_le _) E1_9, rq_at TT (Nat.zero_le _) E1_9⟩
    have ks_9' := F1_9 _ _ _ rfl ks
    by_cases q1_9 : xm.toInt ≤ -1
    · exact wo1 c_9 hM_9 (by omega) rhy xm.toInt s b0 q1_9 s0 s1 ks_9' g0 g1 (fun h5 a_9 ha_9 t1_9 t2_9 t3_9 => ⟨a_9, rfl, rfl, rfl, t1_9, nfr_L (ly_fr_tr F1_9 (hp_sub2 rfl t2_9)), t2_9 _ _ _ rfl rk9, fun _ => ⟨ha_9, nfs_L (ly_fr_tr F1_9 (hp_sub2 rfl t2_9))⟩, fun z_9 => by have := z_9.1; omega⟩)
    by_cases q2_9 : s ≤ xm.toInt
    · exact wo2 c_9 hM_9 (by omega) rhy xm.toInt s (by omega) b1 s0 s1 (by omega) ks_9' g0 g1 (fun h5 a_9 ha_9 t1_9 t2_9 t3_9 => ⟨a_9, rfl, rfl, rfl, t1_9, nfr_L (ly_fr_tr F1_9 (hp_sub2 rfl t2_9)), t2_9 _ _ _ rfl rk9, fun _ => ⟨ha_9, nfs_L (ly_fr_tr F1_9 (hp_sub2 rfl t2_9))⟩, fun z_9 => by have := z_9.2.1; omega⟩)
    obtain ⟨su, st, k1_9, k2_9, e1_9, e3_9, e4_9⟩ := kc xm.toInt (by omega) (by omega)
    have k1_9' := F1_9 _ _ _ rfl k1_9
    have k2_9' := F1_9 _ _ _ rfl k2_9
    rcases e1_9 with e1_9 | e1_9
    rotate_left
    · rw [e1_9] at k1_9 k1_9'
      have no_9 : ¬ (0 ≤ xm.toInt ∧ xm.toInt < s ∧ ly_hv cst h0 28416 xm.toInt = some 0) := fun z_9 => by
        have := z_9.2.2
        rw [k1_9] at this
        exact absurd (Option.some.inj this) (by decide)
      exact wo3 c_9 hM_9 (by omega) rhy xm.toInt s (by omega) (by omega) s0 s1 (by omega) ks_9' k1_9' g0 g1 (fun h5 a_9 ha_9 t1_9 t2_9 t3_9 => ⟨a_9, rfl, rfl, rfl, t1_9, nfr_L (ly_fr_tr F1_9 (hp_sub2 rfl t2_9)), t2_9 _ _ _ rfl rk9, fun _ => ⟨ha_9, nfs_L (ly_fr_tr F1_9 (hp_sub2 rfl t2_9))⟩, fun z_9 => absurd z_9 no_9⟩)
    rw [e1_9] at k1_9 k1_9'
    have ok_9 : 0 ≤ xm.toInt ∧ xm.toInt < s ∧ ly_hv cst h0 28416 xm.toInt = some 0 := ⟨by omega, by omega, k1_9⟩
    by_cases q5_9 : st = 0
    rotate_left
    · have ns : ly_hv cst h0 30464 xm.toInt ≠ some 0 := fun z_9 => by
        rw [k2_9] at z_9
        exact q5_9 (Option.some.inj z_9)
      by_cases q6_9 : st ≤ -1
      · exact wo40 c_9 hM_9 (by omega) rhy xm.toInt s st (by omega) (by omega) s0 s1 e3_9 q6_9 (by omega) ks_9' k1_9' k2_9' g0 g1 (fun h5 a_9 ha_9 t1_9 t2_9 t3_9 => ⟨a_9, rfl, rfl, rfl, t1_9, nfr_L (ly_fr_tr F1_9 (hp_sub2 rfl t2_9)), t2_9 _ _ _ rfl rk9, fun z_9 => absurd ok_9 z_9, fun _ => ⟨fun _ => ⟨ha_9, nfs_L (ly_fr_tr F1_9 (hp_sub2 rfl t2_9))⟩, fun z_9 => absurd z_9 ns⟩⟩)
      · exact wo41 c_9 hM_9 (by omega) rhy xm.toInt s st (by omega) (by omega) s0 s1 (by omega) e4_9 (by omega) ks_9' k1_9' k2_9' g0 g1 (fun h5 a_9 ha_9 t1_9 t2_9 t3_9 => ⟨a_9, rfl, rfl, rfl, t1_9, nfr_L (ly_fr_tr F1_9 (hp_sub2 rfl t2_9)), t2_9 _ _ _ rfl rk9, fun z_9 => absurd ok_9 z_9, fun _ => ⟨fun _ => ⟨ha_9, nfs_L (ly_fr_tr F1_9 (hp_sub2 rfl t2_9))⟩, fun z_9 => absurd z_9 ns⟩⟩)
    rw [q5_9] at k2_9 k2_9'
    refine wo5 c_9 hM_9 (by omega) rhy xm.toInt s (by omega) (by omega) s0 s1 (by omega) ks_9' k1_9' k2_9' g0 g1 (fun l3 h3 v1_9 v2 v3 p0_9 p1_9 p2_9 => ?_)
    refine hp_mono9 (wo_lp (h0 := h0) cc hM_9 hD (m := xm.toInt) (by omega) (by omega) (tkT_kb TT) (tkT_vB TT) 20 h3 l3 0 (by omega) rfl (fun i_9 hi_9 => absurd hi_9 (Nat.not_lt_zero _)) v1_9 (nfs_L (ly_fr_tr F1_9 (hp_sub2 rfl v2))) (v2 _ _ _ rfl rk9) (rq_mv R1 rhy v1_9 v2 rfl) (fun i_9 hi_9 => absurd hi_9 (Nat.not_lt_zero _)) p0_9 p1_9 p2_9) (fun r_9' z_9 => ?_)
    obtain ⟨a_9, z1, z2, z3, z4, z5, z6⟩ := z_9
    rcases z6 with ⟨y1, y2, y3⟩ | ⟨ws_9, y1, y2, y3, y4, y5⟩
    · exact ⟨a_9, z1, z2, z3, z4, nfr_s y3, z5, fun y_9 => absurd ok_9 y_9, fun _ => ⟨fun y_9 => absurd k2_9 y_9, fun _ => ⟨fun _ => ⟨y2, y3⟩, fun ws_9 e_9 => by rw [y1] at e_9; cases e_9⟩⟩⟩
    · exact ⟨a_9, z1, z2, z3, z4, y3, z5, fun y_9 => absurd ok_9 y_9, fun _ => ⟨fun y_9 => absurd k2_9 y_9, fun _ => ⟨fun e_9 => (by rw [y1] at e_9; cases e_9), fun ws_9' e_9 => by
        rw [y1] at e_9
        cases e_9
        exact ⟨y2, y4, y5⟩⟩⟩⟩
  obtain ⟨n_9', r_9, hgo, w_9, r1_9, r2, r3, r4⟩ := go_9
  simp only [Nat.zero_add] at r2 r3
  exact ⟨r_9, Or.inr ⟨M_9, n_9', hM_9, hl, hgo⟩, w_9, r1_9, r2, r3, r4⟩
