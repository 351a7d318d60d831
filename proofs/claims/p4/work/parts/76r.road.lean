/-! PRINTED by wip/p2/hp_road.py: road of class and reference, exactly -/
theorem cr0_k : hp_chk 26 0 3 [(0, (-2147483648), (-1)), (1, (-2147483648), 2147483647), (2, (-2147483648), 2147483647)] [] [(0, .inr (.inr (.inl (some 16)))), (1, .inl (0, [(0, 1)])), (2, .inl (0, [(1, 1)])), (3, .inl (0, [(2, 1)]))] [] [] [] 4 [] [([], 3, [(0, (-2147483648), (-1)), (1, (-2147483648), 2147483647), (2, (-2147483648), 2147483647)], [], [], [.inl ((-2), [])], [])] = true := by decide +kernel
theorem cr0 {cst : am_K} {strs : List Nat} {Φ : am_Q → Prop} {D : Nat} {M : am_M} {h : am_H} {l : am_L} (c : hp_C cst strs D) (hM : m_P[26]? = some M) (hD : (4 : Int) ≤ (D : Int) + 1) (hy : ly_hy m_tt ly_TH h) (x y z : Int) (b0 : (-2147483648) ≤ x) (t0 : x ≤ (-1)) (b1 : (-2147483648) ≤ y) (t1 : y ≤ 2147483647) (b2 : (-2147483648) ≤ z) (t2 : z ≤ 2147483647) (l0 : hp_a l 0 16) (l1 : hp_i l 1 (x)) (l2 : hp_i l 2 (y)) (l3 : hp_i l 3 (z)) (r0 : ∀ (h' : am_H) (y0 : Int32), y0.toInt = (-2) → ly_hy m_tt ly_TH h' → ly_fr cst [] h h' → h.length ≤ h'.length → Φ (some (.int y0), h', 0, 0)) : hp_F cst strs Φ D M 0 l [] h := by
  refine hp_arc c hM cr0_k hD [x, y, z] rfl hy (hp_Bc (z := x) rfl b0 t0 (hp_Bc (z := y) rfl b1 t1 (hp_Bc (z := z) rfl b2 t2 hp_Bn))) hp_Fn hp_Kn (hp_La l0 (hp_Li (z := (0 + (1 * x + 0))) l1 rfl (by omega) (hp_Li (z := (0 + (1 * y + 0))) l2 rfl (by omega) (hp_Li (z := (0 + (1 * z + 0))) l3 rfl (by omega) hp_Ln)))) trivial ?_ ?_
  · intro p hp ys l' st' h' hys a1 a2 a3 gZ gL gS
    cases hp
  · intro p hp ys v h' hys a1 a2 a3 gZ gS
    rcases List.mem_cons.mp hp with rfl | hp
    · obtain rfl := hp_y0 hys
      cases v with
      | none => cases gS
      | some w =>
        obtain ⟨y0, t0, s0, q0, -⟩ := hp_gSi (z := ((-2) + 0)) gS rfl
        cases s0
        exact r0 h' y0 (by omega) a1 a2 a3
    cases hp
theorem cr1_k : hp_chk 26 0 3 [(0, 6, 2147483647), (1, (-2147483648), 2147483647), (2, (-2147483648), 2147483647)] [] [(0, .inr (.inr (.inl (some 16)))), (1, .inl (0, [(0, 1)])), (2, .inl (0, [(1, 1)])), (3, .inl (0, [(2, 1)]))] [] [] [] 4 [] [([], 3, [(0, 6, 2147483647), (1, (-2147483648), 2147483647), (2, (-2147483648), 2147483647)], [], [], [.inl ((-2), [])], [])] = true := by decide +kernel
theorem cr1 {cst : am_K} {strs : List Nat} {Φ : am_Q → Prop} {D : Nat} {M : am_M} {h : am_H} {l : am_L} (c : hp_C cst strs D) (hM : m_P[26]? = some M) (hD : (4 : Int) ≤ (D : Int) + 1) (hy : ly_hy m_tt ly_TH h) (x y z : Int) (b0 : 6 ≤ x) (t0 : x ≤ 2147483647) (b1 : (-2147483648) ≤ y) (t1 : y ≤ 2147483647) (b2 : (-2147483648) ≤ z) (t2 : z ≤ 2147483647) (l0 : hp_a l 0 16) (l1 : hp_i l 1 (x)) (l2 : hp_i l 2 (y)) (l3 : hp_i l 3 (z)) (r0 : ∀ (h' : am_H) (y0 : Int32), y0.toInt = (-2) → ly_hy m_tt ly_TH h' → ly_fr cst [] h h' → h.length ≤ h'.length → Φ (some (.int y0), h', 0, 0)) : hp_F cst strs Φ D M 0 l [] h := by
  refine hp_arc c hM cr1_k hD [x, y, z] rfl hy (hp_Bc (z := x) rfl b0 t0 (hp_Bc (z := y) rfl b1 t1 (hp_Bc (z := z) rfl b2 t2 hp_Bn))) hp_Fn hp_Kn (hp_La l0 (hp_Li (z := (0 + (1 * x + 0))) l1 rfl (by omega) (hp_Li (z := (0 + (1 * y + 0))) l2 rfl (by omega) (hp_Li (z := (0 + (1 * z + 0))) l3 rfl (by omega) hp_Ln)))) trivial ?_ ?_
  · intro p hp ys l' st' h' hys a1 a2 a3 gZ gL gS
    cases hp
  · intro p hp ys v h' hys a1 a2 a3 gZ gS
    rcases List.mem_cons.mp hp with rfl | hp
    · obtain rfl := hp_y0 hys
      cases v with
      | none => cases gS
      | some w =>
        obtain ⟨y0, t0, s0, q0, -⟩ := hp_gSi (z := ((-2) + 0)) gS rfl
        cases s0
        exact r0 h' y0 (by omega) a1 a2 a3
    cases hp
theorem cr2_k : hp_chk 26 0 3 [(0, 0, 5), (1, (-2147483648), (-1)), (2, (-2147483648), 2147483647)] [] [(0, .inr (.inr (.inl (some 16)))), (1, .inl (0, [(0, 1)])), (2, .inl (0, [(1, 1)])), (3, .inl (0, [(2, 1)]))] [] [] [] 4 [] [([], 3, [(0, 0, 5), (1, (-2147483648), (-1)), (2, (-2147483648), 2147483647)], [], [], [.inl ((-2), [])], [])] = true := by decide +kernel
theorem cr2 {cst : am_K} {strs : List Nat} {Φ : am_Q → Prop} {D : Nat} {M : am_M} {h : am_H} {l : am_L} (c : hp_C cst strs D) (hM : m_P[26]? = some M) (hD : (4 : Int) ≤ (D : Int) + 1) (hy : ly_hy m_tt ly_TH h) (x y z : Int) (b0 : 0 ≤ x) (t0 : x ≤ 5) (b1 : (-2147483648) ≤ y) (t1 : y ≤ (-1)) (b2 : (-2147483648) ≤ z) (t2 : z ≤ 2147483647) (l0 : hp_a l 0 16) (l1 : hp_i l 1 (x)) (l2 : hp_i l 2 (y)) (l3 : hp_i l 3 (z)) (r0 : ∀ (h' : am_H) (y0 : Int32), y0.toInt = (-2) → ly_hy m_tt ly_TH h' → ly_fr cst [] h h' → h.length ≤ h'.length → Φ (some (.int y0), h', 0, 0)) : hp_F cst strs Φ D M 0 l [] h := by
  refine hp_arc c hM cr2_k hD [x, y, z] rfl hy (hp_Bc (z := x) rfl b0 t0 (hp_Bc (z := y) rfl b1 t1 (hp_Bc (z := z) rfl b2 t2 hp_Bn))) hp_Fn hp_Kn (hp_La l0 (hp_Li (z := (0 + (1 * x + 0))) l1 rfl (by omega) (hp_Li (z := (0 + (1 * y + 0))) l2 rfl (by omega) (hp_Li (z := (0 + (1 * z + 0))) l3 rfl (by omega) hp_Ln)))) trivial ?_ ?_
  · intro p hp ys l' st' h' hys a1 a2 a3 gZ gL gS
    cases hp
  · intro p hp ys v h' hys a1 a2 a3 gZ gS
    rcases List.mem_cons.mp hp with rfl | hp
    · obtain rfl := hp_y0 hys
      cases v with
      | none => cases gS
      | some w =>
        obtain ⟨y0, t0, s0, q0, -⟩ := hp_gSi (z := ((-2) + 0)) gS rfl
        cases s0
        exact r0 h' y0 (by omega) a1 a2 a3
    cases hp
theorem cr3_k : hp_chk 26 0 3 [(0, 0, 5), (1, 6, 2147483647), (2, (-2147483648), 2147483647)] [] [(0, .inr (.inr (.inl (some 16)))), (1, .inl (0, [(0, 1)])), (2, .inl (0, [(1, 1)])), (3, .inl (0, [(2, 1)]))] [] [] [] 4 [] [([], 3, [(0, 0, 5), (1, 6, 2147483647), (2, (-2147483648), 2147483647)], [], [], [.inl ((-2), [])], [])] = true := by decide +kernel
theorem cr3 {cst : am_K} {strs : List Nat} {Φ : am_Q → Prop} {D : Nat} {M : am_M} {h : am_H} {l : am_L} (c : hp_C cst strs D) (hM : m_P[26]? = some M) (hD : (4 : Int) ≤ (D : Int) + 1) (hy : ly_hy m_tt ly_TH h) (x y z : Int) (b0 : 0 ≤ x) (t0 : x ≤ 5) (b1 : 6 ≤ y) (t1 : y ≤ 2147483647) (b2 : (-2147483648) ≤ z) (t2 : z ≤ 2147483647) (l0 : hp_a l 0 16) (l1 : hp_i l 1 (x)) (l2 : hp_i l 2 (y)) (l3 : hp_i l 3 (z)) (r0 : ∀ (h' : am_H) (y0 : Int32), y0.toInt = (-2) → ly_hy m_tt ly_TH h' → ly_fr cst [] h h' → h.length ≤ h'.length → Φ (some (.int y0), h', 0, 0)) : hp_F cst strs Φ D M 0 l [] h := by
  refine hp_arc c hM cr3_k hD [x, y, z] rfl hy (hp_Bc (z := x) rfl b0 t0 (hp_Bc (z := y) rfl b1 t1 (hp_Bc (z := z) rfl b2 t2 hp_Bn))) hp_Fn hp_Kn (hp_La l0 (hp_Li (z := (0 + (1 * x + 0))) l1 rfl (by omega) (hp_Li (z := (0 + (1 * y + 0))) l2 rfl (by omega) (hp_Li (z := (0 + (1 * z + 0))) l3 rfl (by omega) hp_Ln)))) trivial ?_ ?_
  · intro p hp ys l' st' h' hys a1 a2 a3 gZ gL gS
    cases hp
  · intro p hp ys v h' hys a1 a2 a3 gZ gS
    rcases List.mem_cons.mp hp with rfl | hp
    · obtain rfl := hp_y0 hys
      cases v with
      | none => cases gS
      | some w =>
        obtain ⟨y0, t0, s0, q0, -⟩ := hp_gSi (z := ((-2) + 0)) gS rfl
        cases s0
        exact r0 h' y0 (by omega) a1 a2 a3
    cases hp
theorem cr4_k : hp_chk 26 0 2 [(0, 0, 5), (1, (-2147483648), 2147483647)] [] [(0, .inr (.inr (.inl (some 16)))), (1, .inl (0, [(0, 1)])), (2, .inl (0, [(0, 1)])), (3, .inl (0, [(1, 1)]))] [] [] [] 4 [] [([], 2, [(0, 0, 5), (1, (-2147483648), 2147483647)], [], [], [.inl ((-2), [])], [])] = true := by decide +kernel
theorem cr4 {cst : am_K} {strs : List Nat} {Φ : am_Q → Prop} {D : Nat} {M : am_M} {h : am_H} {l : am_L} (c : hp_C cst strs D) (hM : m_P[26]? = some M) (hD : (4 : Int) ≤ (D : Int) + 1) (hy : ly_hy m_tt ly_TH h) (x z : Int) (b0 : 0 ≤ x) (t0 : x ≤ 5) (b1 : (-2147483648) ≤ z) (t1 : z ≤ 2147483647) (l0 : hp_a l 0 16) (l1 : hp_i l 1 (x)) (l2 : hp_i l 2 (x)) (l3 : hp_i l 3 (z)) (r0 : ∀ (h' : am_H) (y0 : Int32), y0.toInt = (-2) → ly_hy m_tt ly_TH h' → ly_fr cst [] h h' → h.length ≤ h'.length → Φ (some (.int y0), h', 0, 0)) : hp_F cst strs Φ D M 0 l [] h := by
  refine hp_arc c hM cr4_k hD [x, z] rfl hy (hp_Bc (z := x) rfl b0 t0 (hp_Bc (z := z) rfl b1 t1 hp_Bn)) hp_Fn hp_Kn (hp_La l0 (hp_Li (z := (0 + (1 * x + 0))) l1 rfl (by omega) (hp_Li (z := (0 + (1 * x + 0))) l2 rfl (by omega) (hp_Li (z := (0 + (1 * z + 0))) l3 rfl (by omega) hp_Ln)))) trivial ?_ ?_
  · intro p hp ys l' st' h' hys a1 a2 a3 gZ gL gS
    cases hp
  · intro p hp ys v h' hys a1 a2 a3 gZ gS
    rcases List.mem_cons.mp hp with rfl | hp
    · obtain rfl := hp_y0 hys
      cases v with
      | none => cases gS
      | some w =>
        obtain ⟨y0, t0, s0, q0, -⟩ := hp_gSi (z := ((-2) + 0)) gS rfl
        cases s0
        exact r0 h' y0 (by omega) a1 a2 a3
    cases hp
theorem cr5_k : hp_chk 26 0 3 [(0, 0, 5), (1, 0, 5), (2, (-2147483648), (-2))] [] [(0, .inr (.inr (.inl (some 16)))), (1, .inl (0, [(0, 1)])), (2, .inl (0, [(1, 1)])), (3, .inl (0, [(2, 1)]))] [] [(61000, (0, [(0, 1), (1, (-1))]), (1, []))] [] 4 [] [([], 3, [(0, 0, 5), (1, 0, 5), (2, (-2147483648), (-2))], [], [], [.inl ((-2), [])], [])] = true := by decide +kernel
theorem cr5 {cst : am_K} {strs : List Nat} {Φ : am_Q → Prop} {D : Nat} {M : am_M} {h : am_H} {l : am_L} (c : hp_C cst strs D) (hM : m_P[26]? = some M) (hD : (4 : Int) ≤ (D : Int) + 1) (hy : ly_hy m_tt ly_TH h) (x y z : Int) (b0 : 0 ≤ x) (t0 : x ≤ 5) (b1 : 0 ≤ y) (t1 : y ≤ 5) (b2 : (-2147483648) ≤ z) (t2 : z ≤ (-2)) (k0 : ly_hv cst h 61000 (x - y) = some 1) (l0 : hp_a l 0 16) (l1 : hp_i l 1 (x)) (l2 : hp_i l 2 (y)) (l3 : hp_i l 3 (z)) (r0 : ∀ (h' : am_H) (y0 : Int32), y0.toInt = (-2) → ly_hy m_tt ly_TH h' → ly_fr cst [] h h' → h.length ≤ h'.length → Φ (some (.int y0), h', 0, 0)) : hp_F cst strs Φ D M 0 l [] h := by
  refine hp_arc c hM cr5_k hD [x, y, z] rfl hy (hp_Bc (z := x) rfl b0 t0 (hp_Bc (z := y) rfl b1 t1 (hp_Bc (z := z) rfl b2 t2 hp_Bn))) hp_Fn (hp_Kc (zi := (0 + (1 * x + ((-1) * y + 0)))) (zv := (1 + 0)) k0 rfl rfl (by omega) (by omega) hp_Kn) (hp_La l0 (hp_Li (z := (0 + (1 * x + 0))) l1 rfl (by omega) (hp_Li (z := (0 + (1 * y + 0))) l2 rfl (by omega) (hp_Li (z := (0 + (1 * z + 0))) l3 rfl (by omega) hp_Ln)))) trivial ?_ ?_
  · intro p hp ys l' st' h' hys a1 a2 a3 gZ gL gS
    cases hp
  · intro p hp ys v h' hys a1 a2 a3 gZ gS
    rcases List.mem_cons.mp hp with rfl | hp
    · obtain rfl := hp_y0 hys
      cases v with
      | none => cases gS
      | some w =>
        obtain ⟨y0, t0, s0, q0, -⟩ := hp_gSi (z := ((-2) + 0)) gS rfl
        cases s0
        exact r0 h' y0 (by omega) a1 a2 a3
    cases hp
theorem cr6_k : hp_chk 26 0 2 [(0, 0, 5), (1, 0, 5)] [] [(0, .inr (.inr (.inl (some 16)))), (1, .inl (0, [(0, 1)])), (2, .inl (0, [(1, 1)])), (3, .inl (0, []))] [] [(61000, (0, [(0, 1), (1, (-1))]), (1, []))] [] 4 [] [([], 2, [(0, 0, 5), (1, 0, 5)], [], [], [.inl ((-2), [])], [])] = true := by decide +kernel
theorem cr6 {cst : am_K} {strs : List Nat} {Φ : am_Q → Prop} {D : Nat} {M : am_M} {h : am_H} {l : am_L} (c : hp_C cst strs D) (hM : m_P[26]? = some M) (hD : (4 : Int) ≤ (D : Int) + 1) (hy : ly_hy m_tt ly_TH h) (x y : Int) (b0 : 0 ≤ x) (t0 : x ≤ 5) (b1 : 0 ≤ y) (t1 : y ≤ 5) (k0 : ly_hv cst h 61000 (x - y) = some 1) (l0 : hp_a l 0 16) (l1 : hp_i l 1 (x)) (l2 : hp_i l 2 (y)) (l3 : hp_i l 3 0) (r0 : ∀ (h' : am_H) (y0 : Int32), y0.toInt = (-2) → ly_hy m_tt ly_TH h' → ly_fr cst [] h h' → h.length ≤ h'.length → Φ (some (.int y0), h', 0, 0)) : hp_F cst strs Φ D M 0 l [] h := by
  refine hp_arc c hM cr6_k hD [x, y] rfl hy (hp_Bc (z := x) rfl b0 t0 (hp_Bc (z := y) rfl b1 t1 hp_Bn)) hp_Fn (hp_Kc (zi := (0 + (1 * x + ((-1) * y + 0)))) (zv := (1 + 0)) k0 rfl rfl (by omega) (by omega) hp_Kn) (hp_La l0 (hp_Li (z := (0 + (1 * x + 0))) l1 rfl (by omega) (hp_Li (z := (0 + (1 * y + 0))) l2 rfl (by omega) (hp_Li (z := (0 + 0)) l3 rfl (by omega) hp_Ln)))) trivial ?_ ?_
  · intro p hp ys l' st' h' hys a1 a2 a3 gZ gL gS
    cases hp
  · intro p hp ys v h' hys a1 a2 a3 gZ gS
    rcases List.mem_cons.mp hp with rfl | hp
    · obtain rfl := hp_y0 hys
      cases v with
      | none => cases gS
      | some w =>
        obtain ⟨y0, t0, s0, q0, -⟩ := hp_gSi (z := ((-2) + 0)) gS rfl
        cases s0
        exact r0 h' y0 (by omega) a1 a2 a3
    cases hp
theorem cr7_k : hp_chk 26 0 3 [(0, 0, 5), (1, 0, 5), (2, 10, 2147483647)] [] [(0, .inr (.inr (.inl (some 16)))), (1, .inl (0, [(0, 1)])), (2, .inl (0, [(1, 1)])), (3, .inl (0, [(2, 1)]))] [] [(61000, (0, [(0, 1), (1, (-1))]), (1, []))] [] 4 [] [([], 3, [(0, 0, 5), (1, 0, 5), (2, 10, 2147483647)], [], [], [.inl ((-2), [])], [])] = true := by decide +kernel
theorem cr7 {cst : am_K} {strs : List Nat} {Φ : am_Q → Prop} {D : Nat} {M : am_M} {h : am_H} {l : am_L} (c : hp_C cst strs D) (hM : m_P[26]? = some M) (hD : (4 : Int) ≤ (D : Int) + 1) (hy : ly_hy m_tt ly_TH h) (x y z : Int) (b0 : 0 ≤ x) (t0 : x ≤ 5) (b1 : 0 ≤ y) (t1 : y ≤ 5) (b2 : 10 ≤ z) (t2 : z ≤ 2147483647) (k0 : ly_hv cst h 61000 (x - y) = some 1) (l0 : hp_a l 0 16) (l1 : hp_i l 1 (x)) (l2 : hp_i l 2 (y)) (l3 : hp_i l 3 (z)) (r0 : ∀ (h' : am_H) (y0 : Int32), y0.toInt = (-2) → ly_hy m_tt ly_TH h' → ly_fr cst [] h h' → h.length ≤ h'.length → Φ (some (.int y0), h', 0, 0)) : hp_F cst strs Φ D M 0 l [] h := by
  refine hp_arc c hM cr7_k hD [x, y, z] rfl hy (hp_Bc (z := x) rfl b0 t0 (hp_Bc (z := y) rfl b1 t1 (hp_Bc (z := z) rfl b2 t2 hp_Bn))) hp_Fn (hp_Kc (zi := (0 + (1 * x + ((-1) * y + 0)))) (zv := (1 + 0)) k0 rfl rfl (by omega) (by omega) hp_Kn) (hp_La l0 (hp_Li (z := (0 + (1 * x + 0))) l1 rfl (by omega) (hp_Li (z := (0 + (1 * y + 0))) l2 rfl (by omega) (hp_Li (z := (0 + (1 * z + 0))) l3 rfl (by omega) hp_Ln)))) trivial ?_ ?_
  · intro p hp ys l' st' h' hys a1 a2 a3 gZ gL gS
    cases hp
  · intro p hp ys v h' hys a1 a2 a3 gZ gS
    rcases List.mem_cons.mp hp with rfl | hp
    · obtain rfl := hp_y0 hys
      cases v with
      | none => cases gS
      | some w =>
        obtain ⟨y0, t0, s0, q0, -⟩ := hp_gSi (z := ((-2) + 0)) gS rfl
        cases s0
        exact r0 h' y0 (by omega) a1 a2 a3
    cases hp
theorem cr8_k : hp_chk 26 0 2 [(0, 0, 5), (1, 0, 5)] [] [(0, .inr (.inr (.inl (some 16)))), (1, .inl (0, [(0, 1)])), (2, .inl (0, [(1, 1)])), (3, .inl ((-1), []))] [] [(61000, (0, [(0, 1), (1, (-1))]), (1, []))] [] 4 [(44, ([], 2, [(0, 0, 5), (1, 0, 5)], [], [(0, .inr (.inr (.inl (some 16))))], [.inl ((-1), []), .inl (0, [(1, 1)]), .inl (0, [(0, 1)]), .inr (.inr (.inl (some 77)))], []))] [] = true := by decide +kernel
theorem cr8 {cst : am_K} {strs : List Nat} {Φ : am_Q → Prop} {D : Nat} {M : am_M} {h : am_H} {l : am_L} (c : hp_C cst strs D) (hM : m_P[26]? = some M) (hD : (4 : Int) ≤ (D : Int) + 1) (hy : ly_hy m_tt ly_TH h) (x y : Int) (b0 : 0 ≤ x) (t0 : x ≤ 5) (b1 : 0 ≤ y) (t1 : y ≤ 5) (k0 : ly_hv cst h 61000 (x - y) = some 1) (l0 : hp_a l 0 16) (l1 : hp_i l 1 (x)) (l2 : hp_i l 2 (y)) (l3 : hp_i l 3 (-1)) (e0 : ∀ (l' : am_L) (h' : am_H) (y0 : Int32) (y1 : Int32) (y2 : Int32), y0.toInt = (-1) → y1.toInt = (y) → y2.toInt = (x) → ly_hy m_tt ly_TH h' → ly_fr cst [] h h' → h.length ≤ h'.length → hp_a l' 0 16 → hp_F cst strs Φ D M 44 l' [.int y0, .int y1, .int y2, .ref 77] h') : hp_F cst strs Φ D M 0 l [] h := by
  refine hp_arc c hM cr8_k hD [x, y] rfl hy (hp_Bc (z := x) rfl b0 t0 (hp_Bc (z := y) rfl b1 t1 hp_Bn)) hp_Fn (hp_Kc (zi := (0 + (1 * x + ((-1) * y + 0)))) (zv := (1 + 0)) k0 rfl rfl (by omega) (by omega) hp_Kn) (hp_La l0 (hp_Li (z := (0 + (1 * x + 0))) l1 rfl (by omega) (hp_Li (z := (0 + (1 * y + 0))) l2 rfl (by omega) (hp_Li (z := ((-1) + 0)) l3 rfl (by omega) hp_Ln)))) trivial ?_ ?_
  · intro p hp ys l' st' h' hys a1 a2 a3 gZ gL gS
    rcases List.mem_cons.mp hp with rfl | hp
    · obtain rfl := hp_y0 hys
      obtain ⟨y0, t0, rfl, q0, g0⟩ := hp_gSi (z := ((-1) + 0)) gS rfl
      obtain ⟨y1, t1, rfl, q1, g1⟩ := hp_gSi (z := (0 + (1 * y + 0))) g0 rfl
      obtain ⟨y2, t2, rfl, q2, g2⟩ := hp_gSi (z := (0 + (1 * x + 0))) g1 rfl
      obtain ⟨t3, rfl, g3⟩ := hp_gSa g2 (by decide)
      cases hp_gSn g3
      exact e0 l' h' y0 y1 y2 (by omega) (by omega) (by omega) a1 a2 a3 (hp_gLa gL (List.mem_of_getElem? (i := 0) rfl) (by decide))
    cases hp
  · intro p hp ys v h' hys a1 a2 a3 gZ gS
    cases hp
theorem cr9_k : hp_chk 26 0 3 [(0, 0, 5), (1, 0, 5), (2, 1, 9)] [] [(0, .inr (.inr (.inl (some 16)))), (1, .inl (0, [(0, 1)])), (2, .inl (0, [(1, 1)])), (3, .inl (0, [(2, 1)]))] [] [(61000, (0, [(0, 1), (1, (-1))]), (1, []))] [] 4 [(44, ([], 3, [(0, 0, 5), (1, 0, 5), (2, 1, 9)], [], [(0, .inr (.inr (.inl (some 16))))], [.inl (0, [(2, 1)]), .inl (0, [(1, 1)]), .inl (0, [(0, 1)]), .inr (.inr (.inl (some 77)))], []))] [] = true := by decide +kernel
theorem cr9 {cst : am_K} {strs : List Nat} {Φ : am_Q → Prop} {D : Nat} {M : am_M} {h : am_H} {l : am_L} (c : hp_C cst strs D) (hM : m_P[26]? = some M) (hD : (4 : Int) ≤ (D : Int) + 1) (hy : ly_hy m_tt ly_TH h) (x y z : Int) (b0 : 0 ≤ x) (t0 : x ≤ 5) (b1 : 0 ≤ y) (t1 : y ≤ 5) (b2 : 1 ≤ z) (t2 : z ≤ 9) (k0 : ly_hv cst h 61000 (x - y) = some 1) (l0 : hp_a l 0 16) (l1 : hp_i l 1 (x)) (l2 : hp_i l 2 (y)) (l3 : hp_i l 3 (z)) (e0 : ∀ (l' : am_L) (h' : am_H) (y0 : Int32) (y1 : Int32) (y2 : Int32), y0.toInt = (z) → y1.toInt = (y) → y2.toInt = (x) → ly_hy m_tt ly_TH h' → ly_fr cst [] h h' → h.length ≤ h'.length → hp_a l' 0 16 → hp_F cst strs Φ D M 44 l' [.int y0, .int y1, .int y2, .ref 77] h') : hp_F cst strs Φ D M 0 l [] h := by
  refine hp_arc c hM cr9_k hD [x, y, z] rfl hy (hp_Bc (z := x) rfl b0 t0 (hp_Bc (z := y) rfl b1 t1 (hp_Bc (z := z) rfl b2 t2 hp_Bn))) hp_Fn (hp_Kc (zi := (0 + (1 * x + ((-1) * y + 0)))) (zv := (1 + 0)) k0 rfl rfl (by omega) (by omega) hp_Kn) (hp_La l0 (hp_Li (z := (0 + (1 * x + 0))) l1 rfl (by omega) (hp_Li (z := (0 + (1 * y + 0))) l2 rfl (by omega) (hp_Li (z := (0 + (1 * z + 0))) l3 rfl (by omega) hp_Ln)))) trivial ?_ ?_
  · intro p hp ys l' st' h' hys a1 a2 a3 gZ gL gS
    rcases List.mem_cons.mp hp with rfl | hp
    · obtain rfl := hp_y0 hys
      obtain ⟨y0, t0, rfl, q0, g0⟩ := hp_gSi (z := (0 + (1 * z + 0))) gS rfl
      obtain ⟨y1, t1, rfl, q1, g1⟩ := hp_gSi (z := (0 + (1 * y + 0))) g0 rfl
      obtain ⟨y2, t2, rfl, q2, g2⟩ := hp_gSi (z := (0 + (1 * x + 0))) g1 rfl
      obtain ⟨t3, rfl, g3⟩ := hp_gSa g2 (by decide)
      cases hp_gSn g3
      exact e0 l' h' y0 y1 y2 (by omega) (by omega) (by omega) a1 a2 a3 (hp_gLa gL (List.mem_of_getElem? (i := 0) rfl) (by decide))
    cases hp
  · intro p hp ys v h' hys a1 a2 a3 gZ gS
    cases hp
theorem crr_k : hp_chk 26 47 1 [(0, (-2147483648), 2147483647)] [] [(0, .inr (.inr (.inl (some 16))))] [.inl (0, [(0, 1)])] [] [] 2 [] [([], 1, [(0, (-2147483648), 2147483647)], [], [], [.inl (0, [(0, 1)])], [])] = true := by decide +kernel
theorem crr {cst : am_K} {strs : List Nat} {Φ : am_Q → Prop} {D : Nat} {M : am_M} {h : am_H} {l : am_L} (c : hp_C cst strs D) (hM : m_P[26]? = some M) (hD : (2 : Int) ≤ (D : Int) + 1) (hy : ly_hy m_tt ly_TH h) (v : Int) (x0 : Int32) (hx0 : x0.toInt = (v)) (b0 : (-2147483648) ≤ v) (t0 : v ≤ 2147483647) (l0 : hp_a l 0 16) (r0 : ∀ (h' : am_H) (y0 : Int32), y0.toInt = (v) → ly_hy m_tt ly_TH h' → ly_fr cst [] h h' → h.length ≤ h'.length → Φ (some (.int y0), h', 0, 0)) : hp_F cst strs Φ D M 47 l [.int x0] h := by
  refine hp_arc c hM crr_k hD [v] rfl hy (hp_Bc (z := v) rfl b0 t0 hp_Bn) hp_Fn hp_Kn (hp_La l0 hp_Ln) (hp_Si (z := (0 + (1 * v + 0))) rfl (by omega) trivial) ?_ ?_
  · intro p hp ys l' st' h' hys a1 a2 a3 gZ gL gS
    cases hp
  · intro p hp ys v h' hys a1 a2 a3 gZ gS
    rcases List.mem_cons.mp hp with rfl | hp
    · obtain rfl := hp_y0 hys
      cases v with
      | none => cases gS
      | some w =>
        obtain ⟨y0, t0, s0, q0, -⟩ := hp_gSi (z := (0 + (1 * v + 0))) gS rfl
        cases s0
        exact r0 h' y0 (by omega) a1 a2 a3
    cases hp
theorem sr0_k : hp_chk 28 0 4 [(0, 0, 5), (1, 0, 5), (2, (-1), 9), (3, (-2147483648), 2147483647)] [] [(0, .inr (.inr (.inl (some 77)))), (1, .inl (0, [(0, 1)])), (2, .inl (0, [(1, 1)])), (3, .inl (0, [(2, 1)]))] [] [(15872, (0, [(0, 6), (1, 1)]), (0, [(3, 1)]))] [] 2 [(24, ([], 4, [(0, 0, 5), (1, 0, 5), (2, (-1), 9), (3, (-2147483648), 2147483647)], [], [(0, .inr (.inr (.inl (some 77)))), (1, .inl (0, [(0, 1)])), (2, .inl (0, [(1, 1)])), (3, .inl (0, [(2, 1)])), (4, .inl (0, [(3, 1)]))], [.inl (0, [(2, 1)]), .inl (0, [(0, 6), (1, 1)]), .inr (.inr (.inl (some 78)))], []))] [] = true := by decide +kernel
theorem sr0 {cst : am_K} {strs : List Nat} {Φ : am_Q → Prop} {D : Nat} {M : am_M} {h : am_H} {l : am_L} (c : hp_C cst strs D) (hM : m_P[28]? = some M) (hD : (2 : Int) ≤ (D : Int) + 1) (hy : ly_hy m_tt ly_TH h) (x y z v : Int) (b0 : 0 ≤ x) (t0 : x ≤ 5) (b1 : 0 ≤ y) (t1 : y ≤ 5) (b2 : (-1) ≤ z) (t2 : z ≤ 9) (b3 : (-2147483648) ≤ v) (t3 : v ≤ 2147483647) (k0 : ly_hv cst h 15872 (6 * x + y) = some (v)) (l0 : hp_a l 0 77) (l1 : hp_i l 1 (x)) (l2 : hp_i l 2 (y)) (l3 : hp_i l 3 (z)) (e0 : ∀ (l' : am_L) (h' : am_H) (y0 : Int32) (y1 : Int32), y0.toInt = (z) → y1.toInt = (6 * x + y) → ly_hy m_tt ly_TH h' → ly_fr cst [] h h' → h.length ≤ h'.length → hp_a l' 0 77 → hp_i l' 1 (x) → hp_i l' 2 (y) → hp_i l' 3 (z) → hp_i l' 4 (v) → hp_F cst strs Φ D M 24 l' [.int y0, .int y1, .ref 78] h') : hp_F cst strs Φ D M 0 l [] h := by
  refine hp_arc c hM sr0_k hD [x, y, z, v] rfl hy (hp_Bc (z := x) rfl b0 t0 (hp_Bc (z := y) rfl b1 t1 (hp_Bc (z := z) rfl b2 t2 (hp_Bc (z := v) rfl b3 t3 hp_Bn)))) hp_Fn (hp_Kc (zi := (0 + (6 * x + (1 * y + 0)))) (zv := (0 + (1 * v + 0))) k0 rfl rfl (by omega) (by omega) hp_Kn) (hp_La l0 (hp_Li (z := (0 + (1 * x + 0))) l1 rfl (by omega) (hp_Li (z := (0 + (1 * y + 0))) l2 rfl (by omega) (hp_Li (z := (0 + (1 * z + 0))) l3 rfl (by omega) hp_Ln)))) trivial ?_ ?_
  · intro p hp ys l' st' h' hys a1 a2 a3 gZ gL gS
    rcases List.mem_cons.mp hp with rfl | hp
    · obtain rfl := hp_y0 hys
      obtain ⟨y0, t0, rfl, q0, g0⟩ := hp_gSi (z := (0 + (1 * z + 0))) gS rfl
      obtain ⟨y1, t1, rfl, q1, g1⟩ := hp_gSi (z := (0 + (6 * x + (1 * y + 0)))) g0 rfl
      obtain ⟨t2, rfl, g2⟩ := hp_gSa g1 (by decide)
      cases hp_gSn g2
      exact e0 l' h' y0 y1 (by omega) (by omega) a1 a2 a3 (hp_gLa gL (List.mem_of_getElem? (i := 0) rfl) (by decide)) (hp_gLi (z := (0 + (1 * x + 0))) gL (List.mem_of_getElem? (i := 1) rfl) rfl (by omega)) (hp_gLi (z := (0 + (1 * y + 0))) gL (List.mem_of_getElem? (i := 2) rfl) rfl (by omega)) (hp_gLi (z := (0 + (1 * z + 0))) gL (List.mem_of_getElem? (i := 3) rfl) rfl (by omega)) (hp_gLi (z := (0 + (1 * v + 0))) gL (List.mem_of_getElem? (i := 4) rfl) rfl (by omega))
    cases hp
  · intro p hp ys v h' hys a1 a2 a3 gZ gS
    cases hp
theorem sr1_k : hp_chk 28 25 4 [(0, 0, 5), (1, 0, 5), (2, (-1), 9), (3, (-2147483648), 2147483647)] [] [(0, .inr (.inr (.inl (some 77)))), (1, .inl (0, [(0, 1)])), (2, .inl (0, [(1, 1)])), (3, .inl (0, [(2, 1)])), (4, .inl (0, [(3, 1)]))] [] [] [] 2 [(36, ([], 4, [(0, 0, 5), (1, 0, 5), (2, (-1), 9), (3, (-2147483648), 2147483647)], [], [(0, .inr (.inr (.inl (some 77)))), (1, .inl (0, [(0, 1)])), (2, .inl (0, [(1, 1)])), (3, .inl (0, [(2, 1)])), (4, .inl (0, [(3, 1)]))], [.inl (0, [(2, 1)]), .inl (0, [(0, 1), (1, 6)]), .inr (.inr (.inl (some 78)))], []))] [] = true := by decide +kernel
theorem sr1 {cst : am_K} {strs : List Nat} {Φ : am_Q → Prop} {D : Nat} {M : am_M} {h : am_H} {l : am_L} (c : hp_C cst strs D) (hM : m_P[28]? = some M) (hD : (2 : Int) ≤ (D : Int) + 1) (hy : ly_hy m_tt ly_TH h) (x y z v : Int) (b0 : 0 ≤ x) (t0 : x ≤ 5) (b1 : 0 ≤ y) (t1 : y ≤ 5) (b2 : (-1) ≤ z) (t2 : z ≤ 9) (b3 : (-2147483648) ≤ v) (t3 : v ≤ 2147483647) (l0 : hp_a l 0 77) (l1 : hp_i l 1 (x)) (l2 : hp_i l 2 (y)) (l3 : hp_i l 3 (z)) (l4 : hp_i l 4 (v)) (e0 : ∀ (l' : am_L) (h' : am_H) (y0 : Int32) (y1 : Int32), y0.toInt = (z) → y1.toInt = (6 * y + x) → ly_hy m_tt ly_TH h' → ly_fr cst [] h h' → h.length ≤ h'.length → hp_a l' 0 77 → hp_i l' 1 (x) → hp_i l' 2 (y) → hp_i l' 3 (z) → hp_i l' 4 (v) → hp_F cst strs Φ D M 36 l' [.int y0, .int y1, .ref 78] h') : hp_F cst strs Φ D M 25 l [] h := by
  refine hp_arc c hM sr1_k hD [x, y, z, v] rfl hy (hp_Bc (z := x) rfl b0 t0 (hp_Bc (z := y) rfl b1 t1 (hp_Bc (z := z) rfl b2 t2 (hp_Bc (z := v) rfl b3 t3 hp_Bn)))) hp_Fn hp_Kn (hp_La l0 (hp_Li (z := (0 + (1 * x + 0))) l1 rfl (by omega) (hp_Li (z := (0 + (1 * y + 0))) l2 rfl (by omega) (hp_Li (z := (0 + (1 * z + 0))) l3 rfl (by omega) (hp_Li (z := (0 + (1 * v + 0))) l4 rfl (by omega) hp_Ln))))) trivial ?_ ?_
  · intro p hp ys l' st' h' hys a1 a2 a3 gZ gL gS
    rcases List.mem_cons.mp hp with rfl | hp
    · obtain rfl := hp_y0 hys
      obtain ⟨y0, t0, rfl, q0, g0⟩ := hp_gSi (z := (0 + (1 * z + 0))) gS rfl
      obtain ⟨y1, t1, rfl, q1, g1⟩ := hp_gSi (z := (0 + (1 * x + (6 * y + 0)))) g0 rfl
      obtain ⟨t2, rfl, g2⟩ := hp_gSa g1 (by decide)
      cases hp_gSn g2
      exact e0 l' h' y0 y1 (by omega) (by omega) a1 a2 a3 (hp_gLa gL (List.mem_of_getElem? (i := 0) rfl) (by decide)) (hp_gLi (z := (0 + (1 * x + 0))) gL (List.mem_of_getElem? (i := 1) rfl) rfl (by omega)) (hp_gLi (z := (0 + (1 * y + 0))) gL (List.mem_of_getElem? (i := 2) rfl) rfl (by omega)) (hp_gLi (z := (0 + (1 * z + 0))) gL (List.mem_of_getElem? (i := 3) rfl) rfl (by omega)) (hp_gLi (z := (0 + (1 * v + 0))) gL (List.mem_of_getElem? (i := 4) rfl) rfl (by omega))
    cases hp
  · intro p hp ys v h' hys a1 a2 a3 gZ gS
    cases hp
theorem sr2_k : hp_chk 28 37 1 [(0, (-2147483648), 2147483647)] [] [(0, .inr (.inr (.inl (some 77)))), (4, .inl (0, [(0, 1)]))] [] [] [16128] 5 [] [([], 1, [(0, (-2147483648), 2147483647)], [], [], [.inl (0, [(0, 1)])], [])] = true := by decide +kernel
theorem sr2 {cst : am_K} {strs : List Nat} {Φ : am_Q → Prop} {D : Nat} {M : am_M} {h : am_H} {l : am_L} (c : hp_C cst strs D) (hM : m_P[28]? = some M) (hD : (5 : Int) ≤ (D : Int) + 1) (hy : ly_hy m_tt ly_TH h) (v : Int) (b0 : (-2147483648) ≤ v) (t0 : v ≤ 2147483647) (l0 : hp_a l 0 77) (l4 : hp_i l 4 (v)) (r0 : ∀ (h' : am_H) (y0 : Int32), y0.toInt = (v) → ly_hy m_tt ly_TH h' → ly_fr cst [16128] h h' → h.length ≤ h'.length → Φ (some (.int y0), h', 0, 0)) : hp_F cst strs Φ D M 37 l [] h := by
  refine hp_arc c hM sr2_k hD [v] rfl hy (hp_Bc (z := v) rfl b0 t0 hp_Bn) hp_Fn hp_Kn (hp_La l0 (hp_Li (z := (0 + (1 * v + 0))) l4 rfl (by omega) hp_Ln)) trivial ?_ ?_
  · intro p hp ys l' st' h' hys a1 a2 a3 gZ gL gS
    cases hp
  · intro p hp ys v h' hys a1 a2 a3 gZ gS
    rcases List.mem_cons.mp hp with rfl | hp
    · obtain rfl := hp_y0 hys
      cases v with
      | none => cases gS
      | some w =>
        obtain ⟨y0, t0, s0, q0, -⟩ := hp_gSi (z := (0 + (1 * v + 0))) gS rfl
        cases s0
        exact r0 h' y0 (by omega) a1 a2 a3
    cases hp
theorem mr0_k : hp_chk 271 0 3 [(0, (-2147483648), (-1)), (1, (-2147483648), 2147483647), (2, (-2147483648), 2147483647)] [] [(0, .inr (.inr (.inl (some 94)))), (1, .inl (0, [(0, 1)])), (2, .inl (0, [(1, 1)])), (3, .inl (0, [(2, 1)]))] [] [] [] 4 [] [([], 3, [(0, (-2147483648), (-1)), (1, (-2147483648), 2147483647), (2, (-2147483648), 2147483647)], [], [], [.inl ((-2), [])], [])] = true := by decide +kernel
theorem mr0 {cst : am_K} {strs : List Nat} {Φ : am_Q → Prop} {D : Nat} {M : am_M} {h : am_H} {l : am_L} (c : hp_C cst strs D) (hM : m_P[271]? = some M) (hD : (4 : Int) ≤ (D : Int) + 1) (hy : ly_hy m_tt ly_TH h) (x y z : Int) (b0 : (-2147483648) ≤ x) (t0 : x ≤ (-1)) (b1 : (-2147483648) ≤ y) (t1 : y ≤ 2147483647) (b2 : (-2147483648) ≤ z) (t2 : z ≤ 2147483647) (l0 : hp_a l 0 94) (l1 : hp_i l 1 (x)) (l2 : hp_i l 2 (y)) (l3 : hp_i l 3 (z)) (r0 : ∀ (h' : am_H) (y0 : Int32), y0.toInt = (-2) → ly_hy m_tt ly_TH h' → ly_fr cst [] h h' → h.length ≤ h'.length → Φ (some (.int y0), h', 0, 0)) : hp_F cst strs Φ D M 0 l [] h := by
  refine hp_arc c hM mr0_k hD [x, y, z] rfl hy (hp_Bc (z := x) rfl b0 t0 (hp_Bc (z := y) rfl b1 t1 (hp_Bc (z := z) rfl b2 t2 hp_Bn))) hp_Fn hp_Kn (hp_La l0 (hp_Li (z := (0 + (1 * x + 0))) l1 rfl (by omega) (hp_Li (z := (0 + (1 * y + 0))) l2 rfl (by omega) (hp_Li (z := (0 + (1 * z + 0))) l3 rfl (by omega) hp_Ln)))) trivial ?_ ?_
  · intro p hp ys l' st' h' hys a1 a2 a3 gZ gL gS
    cases hp
  · intro p hp ys v h' hys a1 a2 a3 gZ gS
    rcases List.mem_cons.mp hp with rfl | hp
    · obtain rfl := hp_y0 hys
      cases v with
      | none => cases gS
      | some w =>
        obtain ⟨y0, t0, s0, q0, -⟩ := hp_gSi (z := ((-2) + 0)) gS rfl
        cases s0
        exact r0 h' y0 (by omega) a1 a2 a3
    cases hp
theorem mr1_k : hp_chk 271 0 3 [(0, 6, 2147483647), (1, (-2147483648), 2147483647), (2, (-2147483648), 2147483647)] [] [(0, .inr (.inr (.inl (some 94)))), (1, .inl (0, [(0, 1)])), (2, .inl (0, [(1, 1)])), (3, .inl (0, [(2, 1)]))] [] [] [] 4 [] [([], 3, [(0, 6, 2147483647), (1, (-2147483648), 2147483647), (2, (-2147483648), 2147483647)], [], [], [.inl ((-2), [])], [])] = true := by decide +kernel
theorem mr1 {cst : am_K} {strs : List Nat} {Φ : am_Q → Prop} {D : Nat} {M : am_M} {h : am_H} {l : am_L} (c : hp_C cst strs D) (hM : m_P[271]? = some M) (hD : (4 : Int) ≤ (D : Int) + 1) (hy : ly_hy m_tt ly_TH h) (x y z : Int) (b0 : 6 ≤ x) (t0 : x ≤ 2147483647) (b1 : (-2147483648) ≤ y) (t1 : y ≤ 2147483647) (b2 : (-2147483648) ≤ z) (t2 : z ≤ 2147483647) (l0 : hp_a l 0 94) (l1 : hp_i l 1 (x)) (l2 : hp_i l 2 (y)) (l3 : hp_i l 3 (z)) (r0 : ∀ (h' : am_H) (y0 : Int32), y0.toInt = (-2) → ly_hy m_tt ly_TH h' → ly_fr cst [] h h' → h.length ≤ h'.length → Φ (some (.int y0), h', 0, 0)) : hp_F cst strs Φ D M 0 l [] h := by
  refine hp_arc c hM mr1_k hD [x, y, z] rfl hy (hp_Bc (z := x) rfl b0 t0 (hp_Bc (z := y) rfl b1 t1 (hp_Bc (z := z) rfl b2 t2 hp_Bn))) hp_Fn hp_Kn (hp_La l0 (hp_Li (z := (0 + (1 * x + 0))) l1 rfl (by omega) (hp_Li (z := (0 + (1 * y + 0))) l2 rfl (by omega) (hp_Li (z := (0 + (1 * z + 0))) l3 rfl (by omega) hp_Ln)))) trivial ?_ ?_
  · intro p hp ys l' st' h' hys a1 a2 a3 gZ gL gS
    cases hp
  · intro p hp ys v h' hys a1 a2 a3 gZ gS
    rcases List.mem_cons.mp hp with rfl | hp
    · obtain rfl := hp_y0 hys
      cases v with
      | none => cases gS
      | some w =>
        obtain ⟨y0, t0, s0, q0, -⟩ := hp_gSi (z := ((-2) + 0)) gS rfl
        cases s0
        exact r0 h' y0 (by omega) a1 a2 a3
    cases hp
theorem mr2_k : hp_chk 271 0 3 [(0, 0, 5), (1, (-2147483648), (-1)), (2, (-2147483648), 2147483647)] [] [(0, .inr (.inr (.inl (some 94)))), (1, .inl (0, [(0, 1)])), (2, .inl (0, [(1, 1)])), (3, .inl (0, [(2, 1)]))] [] [] [] 4 [] [([], 3, [(0, 0, 5), (1, (-2147483648), (-1)), (2, (-2147483648), 2147483647)], [], [], [.inl ((-2), [])], [])] = true := by decide +kernel
theorem mr2 {cst : am_K} {strs : List Nat} {Φ : am_Q → Prop} {D : Nat} {M : am_M} {h : am_H} {l : am_L} (c : hp_C cst strs D) (hM : m_P[271]? = some M) (hD : (4 : Int) ≤ (D : Int) + 1) (hy : ly_hy m_tt ly_TH h) (x y z : Int) (b0 : 0 ≤ x) (t0 : x ≤ 5) (b1 : (-2147483648) ≤ y) (t1 : y ≤ (-1)) (b2 : (-2147483648) ≤ z) (t2 : z ≤ 2147483647) (l0 : hp_a l 0 94) (l1 : hp_i l 1 (x)) (l2 : hp_i l 2 (y)) (l3 : hp_i l 3 (z)) (r0 : ∀ (h' : am_H) (y0 : Int32), y0.toInt = (-2) → ly_hy m_tt ly_TH h' → ly_fr cst [] h h' → h.length ≤ h'.length → Φ (some (.int y0), h', 0, 0)) : hp_F cst strs Φ D M 0 l [] h := by
  refine hp_arc c hM mr2_k hD [x, y, z] rfl hy (hp_Bc (z := x) rfl b0 t0 (hp_Bc (z := y) rfl b1 t1 (hp_Bc (z := z) rfl b2 t2 hp_Bn))) hp_Fn hp_Kn (hp_La l0 (hp_Li (z := (0 + (1 * x + 0))) l1 rfl (by omega) (hp_Li (z := (0 + (1 * y + 0))) l2 rfl (by omega) (hp_Li (z := (0 + (1 * z + 0))) l3 rfl (by omega) hp_Ln)))) trivial ?_ ?_
  · intro p hp ys l' st' h' hys a1 a2 a3 gZ gL gS
    cases hp
  · intro p hp ys v h' hys a1 a2 a3 gZ gS
    rcases List.mem_cons.mp hp with rfl | hp
    · obtain rfl := hp_y0 hys
      cases v with
      | none => cases gS
      | some w =>
        obtain ⟨y0, t0, s0, q0, -⟩ := hp_gSi (z := ((-2) + 0)) gS rfl
        cases s0
        exact r0 h' y0 (by omega) a1 a2 a3
    cases hp
theorem mr3_k : hp_chk 271 0 3 [(0, 0, 5), (1, 6, 2147483647), (2, (-2147483648), 2147483647)] [] [(0, .inr (.inr (.inl (some 94)))), (1, .inl (0, [(0, 1)])), (2, .inl (0, [(1, 1)])), (3, .inl (0, [(2, 1)]))] [] [] [] 4 [] [([], 3, [(0, 0, 5), (1, 6, 2147483647), (2, (-2147483648), 2147483647)], [], [], [.inl ((-2), [])], [])] = true := by decide +kernel
theorem mr3 {cst : am_K} {strs : List Nat} {Φ : am_Q → Prop} {D : Nat} {M : am_M} {h : am_H} {l : am_L} (c : hp_C cst strs D) (hM : m_P[271]? = some M) (hD : (4 : Int) ≤ (D : Int) + 1) (hy : ly_hy m_tt ly_TH h) (x y z : Int) (b0 : 0 ≤ x) (t0 : x ≤ 5) (b1 : 6 ≤ y) (t1 : y ≤ 2147483647) (b2 : (-2147483648) ≤ z) (t2 : z ≤ 2147483647) (l0 : hp_a l 0 94) (l1 : hp_i l 1 (x)) (l2 : hp_i l 2 (y)) (l3 : hp_i l 3 (z)) (r0 : ∀ (h' : am_H) (y0 : Int32), y0.toInt = (-2) → ly_hy m_tt ly_TH h' → ly_fr cst [] h h' → h.length ≤ h'.length → Φ (some (.int y0), h', 0, 0)) : hp_F cst strs Φ D M 0 l [] h := by
  refine hp_arc c hM mr3_k hD [x, y, z] rfl hy (hp_Bc (z := x) rfl b0 t0 (hp_Bc (z := y) rfl b1 t1 (hp_Bc (z := z) rfl b2 t2 hp_Bn))) hp_Fn hp_Kn (hp_La l0 (hp_Li (z := (0 + (1 * x + 0))) l1 rfl (by omega) (hp_Li (z := (0 + (1 * y + 0))) l2 rfl (by omega) (hp_Li (z := (0 + (1 * z + 0))) l3 rfl (by omega) hp_Ln)))) trivial ?_ ?_
  · intro p hp ys l' st' h' hys a1 a2 a3 gZ gL gS
    cases hp
  · intro p hp ys v h' hys a1 a2 a3 gZ gS
    rcases List.mem_cons.mp hp with rfl | hp
    · obtain rfl := hp_y0 hys
      cases v with
      | none => cases gS
      | some w =>
        obtain ⟨y0, t0, s0, q0, -⟩ := hp_gSi (z := ((-2) + 0)) gS rfl
        cases s0
        exact r0 h' y0 (by omega) a1 a2 a3
    cases hp
theorem mr4_k : hp_chk 271 0 2 [(0, 0, 5), (1, (-2147483648), 2147483647)] [] [(0, .inr (.inr (.inl (some 94)))), (1, .inl (0, [(0, 1)])), (2, .inl (0, [(0, 1)])), (3, .inl (0, [(1, 1)]))] [] [] [] 4 [] [([], 2, [(0, 0, 5), (1, (-2147483648), 2147483647)], [], [], [.inl ((-2), [])], [])] = true := by decide +kernel
theorem mr4 {cst : am_K} {strs : List Nat} {Φ : am_Q → Prop} {D : Nat} {M : am_M} {h : am_H} {l : am_L} (c : hp_C cst strs D) (hM : m_P[271]? = some M) (hD : (4 : Int) ≤ (D : Int) + 1) (hy : ly_hy m_tt ly_TH h) (x z : Int) (b0 : 0 ≤ x) (t0 : x ≤ 5) (b1 : (-2147483648) ≤ z) (t1 : z ≤ 2147483647) (l0 : hp_a l 0 94) (l1 : hp_i l 1 (x)) (l2 : hp_i l 2 (x)) (l3 : hp_i l 3 (z)) (r0 : ∀ (h' : am_H) (y0 : Int32), y0.toInt = (-2) → ly_hy m_tt ly_TH h' → ly_fr cst [] h h' → h.length ≤ h'.length → Φ (some (.int y0), h', 0, 0)) : hp_F cst strs Φ D M 0 l [] h := by
  refine hp_arc c hM mr4_k hD [x, z] rfl hy (hp_Bc (z := x) rfl b0 t0 (hp_Bc (z := z) rfl b1 t1 hp_Bn)) hp_Fn hp_Kn (hp_La l0 (hp_Li (z := (0 + (1 * x + 0))) l1 rfl (by omega) (hp_Li (z := (0 + (1 * x + 0))) l2 rfl (by omega) (hp_Li (z := (0 + (1 * z + 0))) l3 rfl (by omega) hp_Ln)))) trivial ?_ ?_
  · intro p hp ys l' st' h' hys a1 a2 a3 gZ gL gS
    cases hp
  · intro p hp ys v h' hys a1 a2 a3 gZ gS
    rcases List.mem_cons.mp hp with rfl | hp
    · obtain rfl := hp_y0 hys
      cases v with
      | none => cases gS
      | some w =>
        obtain ⟨y0, t0, s0, q0, -⟩ := hp_gSi (z := ((-2) + 0)) gS rfl
        cases s0
        exact r0 h' y0 (by omega) a1 a2 a3
    cases hp
theorem mr5_k : hp_chk 271 0 3 [(0, 0, 5), (1, 0, 5), (2, (-2147483648), (-2))] [] [(0, .inr (.inr (.inl (some 94)))), (1, .inl (0, [(0, 1)])), (2, .inl (0, [(1, 1)])), (3, .inl (0, [(2, 1)]))] [] [(61000, (0, [(0, 1), (1, (-1))]), (1, []))] [] 4 [] [([], 3, [(0, 0, 5), (1, 0, 5), (2, (-2147483648), (-2))], [], [], [.inl ((-2), [])], [])] = true := by decide +kernel
theorem mr5 {cst : am_K} {strs : List Nat} {Φ : am_Q → Prop} {D : Nat} {M : am_M} {h : am_H} {l : am_L} (c : hp_C cst strs D) (hM : m_P[271]? = some M) (hD : (4 : Int) ≤ (D : Int) + 1) (hy : ly_hy m_tt ly_TH h) (x y z : Int) (b0 : 0 ≤ x) (t0 : x ≤ 5) (b1 : 0 ≤ y) (t1 : y ≤ 5) (b2 : (-2147483648) ≤ z) (t2 : z ≤ (-2)) (k0 : ly_hv cst h 61000 (x - y) = some 1) (l0 : hp_a l 0 94) (l1 : hp_i l 1 (x)) (l2 : hp_i l 2 (y)) (l3 : hp_i l 3 (z)) (r0 : ∀ (h' : am_H) (y0 : Int32), y0.toInt = (-2) → ly_hy m_tt ly_TH h' → ly_fr cst [] h h' → h.length ≤ h'.length → Φ (some (.int y0), h', 0, 0)) : hp_F cst strs Φ D M 0 l [] h := by
  refine hp_arc c hM mr5_k hD [x, y, z] rfl hy (hp_Bc (z := x) rfl b0 t0 (hp_Bc (z := y) rfl b1 t1 (hp_Bc (z := z) rfl b2 t2 hp_Bn))) hp_Fn (hp_Kc (zi := (0 + (1 * x + ((-1) * y + 0)))) (zv := (1 + 0)) k0 rfl rfl (by omega) (by omega) hp_Kn) (hp_La l0 (hp_Li (z := (0 + (1 * x + 0))) l1 rfl (by omega) (hp_Li (z := (0 + (1 * y + 0))) l2 rfl (by omega) (hp_Li (z := (0 + (1 * z + 0))) l3 rfl (by omega) hp_Ln)))) trivial ?_ ?_
  · intro p hp ys l' st' h' hys a1 a2 a3 gZ gL gS
    cases hp
  · intro p hp ys v h' hys a1 a2 a3 gZ gS
    rcases List.mem_cons.mp hp with rfl | hp
    · obtain rfl := hp_y0 hys
      cases v with
      | none => cases gS
      | some w =>
        obtain ⟨y0, t0, s0, q0, -⟩ := hp_gSi (z := ((-2) + 0)) gS rfl
        cases s0
        exact r0 h' y0 (by omega) a1 a2 a3
    cases hp
theorem mr6_k : hp_chk 271 0 2 [(0, 0, 5), (1, 0, 5)] [] [(0, .inr (.inr (.inl (some 94)))), (1, .inl (0, [(0, 1)])), (2, .inl (0, [(1, 1)])), (3, .inl (0, []))] [] [(61000, (0, [(0, 1), (1, (-1))]), (1, []))] [] 4 [] [([], 2, [(0, 0, 5), (1, 0, 5)], [], [], [.inl ((-2), [])], [])] = true := by decide +kernel
theorem mr6 {cst : am_K} {strs : List Nat} {Φ : am_Q → Prop} {D : Nat} {M : am_M} {h : am_H} {l : am_L} (c : hp_C cst strs D) (hM : m_P[271]? = some M) (hD : (4 : Int) ≤ (D : Int) + 1) (hy : ly_hy m_tt ly_TH h) (x y : Int) (b0 : 0 ≤ x) (t0 : x ≤ 5) (b1 : 0 ≤ y) (t1 : y ≤ 5) (k0 : ly_hv cst h 61000 (x - y) = some 1) (l0 : hp_a l 0 94) (l1 : hp_i l 1 (x)) (l2 : hp_i l 2 (y)) (l3 : hp_i l 3 0) (r0 : ∀ (h' : am_H) (y0 : Int32), y0.toInt = (-2) → ly_hy m_tt ly_TH h' → ly_fr cst [] h h' → h.length ≤ h'.length → Φ (some (.int y0), h', 0, 0)) : hp_F cst strs Φ D M 0 l [] h := by
  refine hp_arc c hM mr6_k hD [x, y] rfl hy (hp_Bc (z := x) rfl b0 t0 (hp_Bc (z := y) rfl b1 t1 hp_Bn)) hp_Fn (hp_Kc (zi := (0 + (1 * x + ((-1) * y + 0)))) (zv := (1 + 0)) k0 rfl rfl (by omega) (by omega) hp_Kn) (hp_La l0 (hp_Li (z := (0 + (1 * x + 0))) l1 rfl (by omega) (hp_Li (z := (0 + (1 * y + 0))) l2 rfl (by omega) (hp_Li (z := (0 + 0)) l3 rfl (by omega) hp_Ln)))) trivial ?_ ?_
  · intro p hp ys l' st' h' hys a1 a2 a3 gZ gL gS
    cases hp
  · intro p hp ys v h' hys a1 a2 a3 gZ gS
    rcases List.mem_cons.mp hp with rfl | hp
    · obtain rfl := hp_y0 hys
      cases v with
      | none => cases gS
      | some w =>
        obtain ⟨y0, t0, s0, q0, -⟩ := hp_gSi (z := ((-2) + 0)) gS rfl
        cases s0
        exact r0 h' y0 (by omega) a1 a2 a3
    cases hp
theorem mr7_k : hp_chk 271 0 3 [(0, 0, 5), (1, 0, 5), (2, 10, 2147483647)] [] [(0, .inr (.inr (.inl (some 94)))), (1, .inl (0, [(0, 1)])), (2, .inl (0, [(1, 1)])), (3, .inl (0, [(2, 1)]))] [] [(61000, (0, [(0, 1), (1, (-1))]), (1, []))] [] 4 [] [([], 3, [(0, 0, 5), (1, 0, 5), (2, 10, 2147483647)], [], [], [.inl ((-2), [])], [])] = true := by decide +kernel
theorem mr7 {cst : am_K} {strs : List Nat} {Φ : am_Q → Prop} {D : Nat} {M : am_M} {h : am_H} {l : am_L} (c : hp_C cst strs D) (hM : m_P[271]? = some M) (hD : (4 : Int) ≤ (D : Int) + 1) (hy : ly_hy m_tt ly_TH h) (x y z : Int) (b0 : 0 ≤ x) (t0 : x ≤ 5) (b1 : 0 ≤ y) (t1 : y ≤ 5) (b2 : 10 ≤ z) (t2 : z ≤ 2147483647) (k0 : ly_hv cst h 61000 (x - y) = some 1) (l0 : hp_a l 0 94) (l1 : hp_i l 1 (x)) (l2 : hp_i l 2 (y)) (l3 : hp_i l 3 (z)) (r0 : ∀ (h' : am_H) (y0 : Int32), y0.toInt = (-2) → ly_hy m_tt ly_TH h' → ly_fr cst [] h h' → h.length ≤ h'.length → Φ (some (.int y0), h', 0, 0)) : hp_F cst strs Φ D M 0 l [] h := by
  refine hp_arc c hM mr7_k hD [x, y, z] rfl hy (hp_Bc (z := x) rfl b0 t0 (hp_Bc (z := y) rfl b1 t1 (hp_Bc (z := z) rfl b2 t2 hp_Bn))) hp_Fn (hp_Kc (zi := (0 + (1 * x + ((-1) * y + 0)))) (zv := (1 + 0)) k0 rfl rfl (by omega) (by omega) hp_Kn) (hp_La l0 (hp_Li (z := (0 + (1 * x + 0))) l1 rfl (by omega) (hp_Li (z := (0 + (1 * y + 0))) l2 rfl (by omega) (hp_Li (z := (0 + (1 * z + 0))) l3 rfl (by omega) hp_Ln)))) trivial ?_ ?_
  · intro p hp ys l' st' h' hys a1 a2 a3 gZ gL gS
    cases hp
  · intro p hp ys v h' hys a1 a2 a3 gZ gS
    rcases List.mem_cons.mp hp with rfl | hp
    · obtain rfl := hp_y0 hys
      cases v with
      | none => cases gS
      | some w =>
        obtain ⟨y0, t0, s0, q0, -⟩ := hp_gSi (z := ((-2) + 0)) gS rfl
        cases s0
        exact r0 h' y0 (by omega) a1 a2 a3
    cases hp
theorem mr8_k : hp_chk 271 0 3 [(0, 0, 5), (1, 0, 5), (2, (-2147483648), 2147483647)] [] [(0, .inr (.inr (.inl (some 94)))), (1, .inl (0, [(0, 1)])), (2, .inl (0, [(1, 1)])), (3, .inl ((-1), []))] [] [(61000, (0, [(0, 1), (1, (-1))]), (1, [])), (20480, (0, [(0, 6), (1, 1)]), (0, [(2, 1)]))] [] 4 [(61, ([], 3, [(0, 0, 5), (1, 0, 5), (2, (-2147483648), 2147483647)], [], [(0, .inr (.inr (.inl (some 94)))), (1, .inl (0, [(0, 1)])), (2, .inl (0, [(1, 1)])), (3, .inl ((-1), [])), (4, .inl (0, [(2, 1)]))], [.inl ((-1), []), .inl (0, [(0, 6), (1, 1)]), .inr (.inr (.inl (some 96)))], []))] [] = true := by decide +kernel
theorem mr8 {cst : am_K} {strs : List Nat} {Φ : am_Q → Prop} {D : Nat} {M : am_M} {h : am_H} {l : am_L} (c : hp_C cst strs D) (hM : m_P[271]? = some M) (hD : (4 : Int) ≤ (D : Int) + 1) (hy : ly_hy m_tt ly_TH h) (x y v : Int) (b0 : 0 ≤ x) (t0 : x ≤ 5) (b1 : 0 ≤ y) (t1 : y ≤ 5) (b2 : (-2147483648) ≤ v) (t2 : v ≤ 2147483647) (k0 : ly_hv cst h 61000 (x - y) = some 1) (k1 : ly_hv cst h 20480 (6 * x + y) = some (v)) (l0 : hp_a l 0 94) (l1 : hp_i l 1 (x)) (l2 : hp_i l 2 (y)) (l3 : hp_i l 3 (-1)) (e0 : ∀ (l' : am_L) (h' : am_H) (y0 : Int32) (y1 : Int32), y0.toInt = (-1) → y1.toInt = (6 * x + y) → ly_hy m_tt ly_TH h' → ly_fr cst [] h h' → h.length ≤ h'.length → hp_a l' 0 94 → hp_i l' 1 (x) → hp_i l' 2 (y) → hp_i l' 3 (-1) → hp_i l' 4 (v) → hp_F cst strs Φ D M 61 l' [.int y0, .int y1, .ref 96] h') : hp_F cst strs Φ D M 0 l [] h := by
  refine hp_arc c hM mr8_k hD [x, y, v] rfl hy (hp_Bc (z := x) rfl b0 t0 (hp_Bc (z := y) rfl b1 t1 (hp_Bc (z := v) rfl b2 t2 hp_Bn))) hp_Fn (hp_Kc (zi := (0 + (1 * x + ((-1) * y + 0)))) (zv := (1 + 0)) k0 rfl rfl (by omega) (by omega) (hp_Kc (zi := (0 + (6 * x + (1 * y + 0)))) (zv := (0 + (1 * v + 0))) k1 rfl rfl (by omega) (by omega) hp_Kn)) (hp_La l0 (hp_Li (z := (0 + (1 * x + 0))) l1 rfl (by omega) (hp_Li (z := (0 + (1 * y + 0))) l2 rfl (by omega) (hp_Li (z := ((-1) + 0)) l3 rfl (by omega) hp_Ln)))) trivial ?_ ?_
  · intro p hp ys l' st' h' hys a1 a2 a3 gZ gL gS
    rcases List.mem_cons.mp hp with rfl | hp
    · obtain rfl := hp_y0 hys
      obtain ⟨y0, t0, rfl, q0, g0⟩ := hp_gSi (z := ((-1) + 0)) gS rfl
      obtain ⟨y1, t1, rfl, q1, g1⟩ := hp_gSi (z := (0 + (6 * x + (1 * y + 0)))) g0 rfl
      obtain ⟨t2, rfl, g2⟩ := hp_gSa g1 (by decide)
      cases hp_gSn g2
      exact e0 l' h' y0 y1 (by omega) (by omega) a1 a2 a3 (hp_gLa gL (List.mem_of_getElem? (i := 0) rfl) (by decide)) (hp_gLi (z := (0 + (1 * x + 0))) gL (List.mem_of_getElem? (i := 1) rfl) rfl (by omega)) (hp_gLi (z := (0 + (1 * y + 0))) gL (List.mem_of_getElem? (i := 2) rfl) rfl (by omega)) (hp_gLi (z := ((-1) + 0)) gL (List.mem_of_getElem? (i := 3) rfl) rfl (by omega)) (hp_gLi (z := (0 + (1 * v + 0))) gL (List.mem_of_getElem? (i := 4) rfl) rfl (by omega))
    cases hp
  · intro p hp ys v h' hys a1 a2 a3 gZ gS
    cases hp
theorem mr9_k : hp_chk 271 0 4 [(0, 0, 5), (1, 0, 5), (2, 1, 9), (3, (-2147483648), 2147483647)] [] [(0, .inr (.inr (.inl (some 94)))), (1, .inl (0, [(0, 1)])), (2, .inl (0, [(1, 1)])), (3, .inl (0, [(2, 1)]))] [] [(61000, (0, [(0, 1), (1, (-1))]), (1, [])), (20480, (0, [(0, 6), (1, 1)]), (0, [(3, 1)]))] [] 4 [(61, ([], 4, [(0, 0, 5), (1, 0, 5), (2, 1, 9), (3, (-2147483648), 2147483647)], [], [(0, .inr (.inr (.inl (some 94)))), (1, .inl (0, [(0, 1)])), (2, .inl (0, [(1, 1)])), (3, .inl (0, [(2, 1)])), (4, .inl (0, [(3, 1)]))], [.inl (0, [(2, 1)]), .inl (0, [(0, 6), (1, 1)]), .inr (.inr (.inl (some 96)))], []))] [] = true := by decide +kernel
theorem mr9 {cst : am_K} {strs : List Nat} {Φ : am_Q → Prop} {D : Nat} {M : am_M} {h : am_H} {l : am_L} (c : hp_C cst strs D) (hM : m_P[271]? = some M) (hD : (4 : Int) ≤ (D : Int) + 1) (hy : ly_hy m_tt ly_TH h) (x y z v : Int) (b0 : 0 ≤ x) (t0 : x ≤ 5) (b1 : 0 ≤ y) (t1 : y ≤ 5) (b2 : 1 ≤ z) (t2 : z ≤ 9) (b3 : (-2147483648) ≤ v) (t3 : v ≤ 2147483647) (k0 : ly_hv cst h 61000 (x - y) = some 1) (k1 : ly_hv cst h 20480 (6 * x + y) = some (v)) (l0 : hp_a l 0 94) (l1 : hp_i l 1 (x)) (l2 : hp_i l 2 (y)) (l3 : hp_i l 3 (z)) (e0 : ∀ (l' : am_L) (h' : am_H) (y0 : Int32) (y1 : Int32), y0.toInt = (z) → y1.toInt = (6 * x + y) → ly_hy m_tt ly_TH h' → ly_fr cst [] h h' → h.length ≤ h'.length → hp_a l' 0 94 → hp_i l' 1 (x) → hp_i l' 2 (y) → hp_i l' 3 (z) → hp_i l' 4 (v) → hp_F cst strs Φ D M 61 l' [.int y0, .int y1, .ref 96] h') : hp_F cst strs Φ D M 0 l [] h := by
  refine hp_arc c hM mr9_k hD [x, y, z, v] rfl hy (hp_Bc (z := x) rfl b0 t0 (hp_Bc (z := y) rfl b1 t1 (hp_Bc (z := z) rfl b2 t2 (hp_Bc (z := v) rfl b3 t3 hp_Bn)))) hp_Fn (hp_Kc (zi := (0 + (1 * x + ((-1) * y + 0)))) (zv := (1 + 0)) k0 rfl rfl (by omega) (by omega) (hp_Kc (zi := (0 + (6 * x + (1 * y + 0)))) (zv := (0 + (1 * v + 0))) k1 rfl rfl (by omega) (by omega) hp_Kn)) (hp_La l0 (hp_Li (z := (0 + (1 * x + 0))) l1 rfl (by omega) (hp_Li (z := (0 + (1 * y + 0))) l2 rfl (by omega) (hp_Li (z := (0 + (1 * z + 0))) l3 rfl (by omega) hp_Ln)))) trivial ?_ ?_
  · intro p hp ys l' st' h' hys a1 a2 a3 gZ gL gS
    rcases List.mem_cons.mp hp with rfl | hp
    · obtain rfl := hp_y0 hys
      obtain ⟨y0, t0, rfl, q0, g0⟩ := hp_gSi (z := (0 + (1 * z + 0))) gS rfl
      obtain ⟨y1, t1, rfl, q1, g1⟩ := hp_gSi (z := (0 + (6 * x + (1 * y + 0)))) g0 rfl
      obtain ⟨t2, rfl, g2⟩ := hp_gSa g1 (by decide)
      cases hp_gSn g2
      exact e0 l' h' y0 y1 (by omega) (by omega) a1 a2 a3 (hp_gLa gL (List.mem_of_getElem? (i := 0) rfl) (by decide)) (hp_gLi (z := (0 + (1 * x + 0))) gL (List.mem_of_getElem? (i := 1) rfl) rfl (by omega)) (hp_gLi (z := (0 + (1 * y + 0))) gL (List.mem_of_getElem? (i := 2) rfl) rfl (by omega)) (hp_gLi (z := (0 + (1 * z + 0))) gL (List.mem_of_getElem? (i := 3) rfl) rfl (by omega)) (hp_gLi (z := (0 + (1 * v + 0))) gL (List.mem_of_getElem? (i := 4) rfl) rfl (by omega))
    cases hp
  · intro p hp ys v h' hys a1 a2 a3 gZ gS
    cases hp
theorem mra_k : hp_chk 271 62 4 [(0, 0, 5), (1, 0, 5), (2, (-1), 9), (3, (-2147483648), 2147483647)] [] [(0, .inr (.inr (.inl (some 94)))), (1, .inl (0, [(0, 1)])), (2, .inl (0, [(1, 1)])), (3, .inl (0, [(2, 1)])), (4, .inl (0, [(3, 1)]))] [] [] [] 2 [(73, ([], 4, [(0, 0, 5), (1, 0, 5), (2, (-1), 9), (3, (-2147483648), 2147483647)], [], [(0, .inr (.inr (.inl (some 94)))), (1, .inl (0, [(0, 1)])), (2, .inl (0, [(1, 1)])), (3, .inl (0, [(2, 1)])), (4, .inl (0, [(3, 1)]))], [.inl (0, [(2, 1)]), .inl (0, [(0, 1), (1, 6)]), .inr (.inr (.inl (some 96)))], []))] [] = true := by decide +kernel
theorem mra {cst : am_K} {strs : List Nat} {Φ : am_Q → Prop} {D : Nat} {M : am_M} {h : am_H} {l : am_L} (c : hp_C cst strs D) (hM : m_P[271]? = some M) (hD : (2 : Int) ≤ (D : Int) + 1) (hy : ly_hy m_tt ly_TH h) (x y z v : Int) (b0 : 0 ≤ x) (t0 : x ≤ 5) (b1 : 0 ≤ y) (t1 : y ≤ 5) (b2 : (-1) ≤ z) (t2 : z ≤ 9) (b3 : (-2147483648) ≤ v) (t3 : v ≤ 2147483647) (l0 : hp_a l 0 94) (l1 : hp_i l 1 (x)) (l2 : hp_i l 2 (y)) (l3 : hp_i l 3 (z)) (l4 : hp_i l 4 (v)) (e0 : ∀ (l' : am_L) (h' : am_H) (y0 : Int32) (y1 : Int32), y0.toInt = (z) → y1.toInt = (6 * y + x) → ly_hy m_tt ly_TH h' → ly_fr cst [] h h' → h.length ≤ h'.length → hp_a l' 0 94 → hp_i l' 1 (x) → hp_i l' 2 (y) → hp_i l' 3 (z) → hp_i l' 4 (v) → hp_F cst strs Φ D M 73 l' [.int y0, .int y1, .ref 96] h') : hp_F cst strs Φ D M 62 l [] h := by
  refine hp_arc c hM mra_k hD [x, y, z, v] rfl hy (hp_Bc (z := x) rfl b0 t0 (hp_Bc (z := y) rfl b1 t1 (hp_Bc (z := z) rfl b2 t2 (hp_Bc (z := v) rfl b3 t3 hp_Bn)))) hp_Fn hp_Kn (hp_La l0 (hp_Li (z := (0 + (1 * x + 0))) l1 rfl (by omega) (hp_Li (z := (0 + (1 * y + 0))) l2 rfl (by omega) (hp_Li (z := (0 + (1 * z + 0))) l3 rfl (by omega) (hp_Li (z := (0 + (1 * v + 0))) l4 rfl (by omega) hp_Ln))))) trivial ?_ ?_
  · intro p hp ys l' st' h' hys a1 a2 a3 gZ gL gS
    rcases List.mem_cons.mp hp with rfl | hp
    · obtain rfl := hp_y0 hys
      obtain ⟨y0, t0, rfl, q0, g0⟩ := hp_gSi (z := (0 + (1 * z + 0))) gS rfl
      obtain ⟨y1, t1, rfl, q1, g1⟩ := hp_gSi (z := (0 + (1 * x + (6 * y + 0)))) g0 rfl
      obtain ⟨t2, rfl, g2⟩ := hp_gSa g1 (by decide)
      cases hp_gSn g2
      exact e0 l' h' y0 y1 (by omega) (by omega) a1 a2 a3 (hp_gLa gL (List.mem_of_getElem? (i := 0) rfl) (by decide)) (hp_gLi (z := (0 + (1 * x + 0))) gL (List.mem_of_getElem? (i := 1) rfl) rfl (by omega)) (hp_gLi (z := (0 + (1 * y + 0))) gL (List.mem_of_getElem? (i := 2) rfl) rfl (by omega)) (hp_gLi (z := (0 + (1 * z + 0))) gL (List.mem_of_getElem? (i := 3) rfl) rfl (by omega)) (hp_gLi (z := (0 + (1 * v + 0))) gL (List.mem_of_getElem? (i := 4) rfl) rfl (by omega))
    cases hp
  · intro p hp ys v h' hys a1 a2 a3 gZ gS
    cases hp
theorem mrb_k : hp_chk 271 74 1 [(0, (-2147483648), 2147483647)] [] [(0, .inr (.inr (.inl (some 94)))), (4, .inl (0, [(0, 1)]))] [] [] [] 2 [] [([], 1, [(0, (-2147483648), 2147483647)], [], [], [.inl (0, [(0, 1)])], [])] = true := by decide +kernel
theorem mrb {cst : am_K} {strs : List Nat} {Φ : am_Q → Prop} {D : Nat} {M : am_M} {h : am_H} {l : am_L} (c : hp_C cst strs D) (hM : m_P[271]? = some M) (hD : (2 : Int) ≤ (D : Int) + 1) (hy : ly_hy m_tt ly_TH h) (v : Int) (b0 : (-2147483648) ≤ v) (t0 : v ≤ 2147483647) (l0 : hp_a l 0 94) (l4 : hp_i l 4 (v)) (r0 : ∀ (h' : am_H) (y0 : Int32), y0.toInt = (v) → ly_hy m_tt ly_TH h' → ly_fr cst [] h h' → h.length ≤ h'.length → Φ (some (.int y0), h', 0, 0)) : hp_F cst strs Φ D M 74 l [] h := by
  refine hp_arc c hM mrb_k hD [v] rfl hy (hp_Bc (z := v) rfl b0 t0 hp_Bn) hp_Fn hp_Kn (hp_La l0 (hp_Li (z := (0 + (1 * v + 0))) l4 rfl (by omega) hp_Ln)) trivial ?_ ?_
  · intro p hp ys l' st' h' hys a1 a2 a3 gZ gL gS
    cases hp
  · intro p hp ys v h' hys a1 a2 a3 gZ gS
    rcases List.mem_cons.mp hp with rfl | hp
    · obtain rfl := hp_y0 hys
      cases v with
      | none => cases gS
      | some w =>
        obtain ⟨y0, t0, s0, q0, -⟩ := hp_gSi (z := (0 + (1 * v + 0))) gS rfl
        cases s0
        exact r0 h' y0 (by omega) a1 a2 a3
    cases hp
def rd_ok (x y z : Int) : Prop := 0 ≤ x ∧ x ≤ 5 ∧ 0 ≤ y ∧ y ≤ 5 ∧ x ≠ y ∧ (z = -1 ∨ (1 ≤ z ∧ z ≤ 9))
def rd_f (f : Int → Option Int) (x y z : Int) : Int → Option Int := fun i => if i = 6 * y + x then some z else if i = 6 * x + y then some z else f i
/-- what road leaves: the answer, the row -/
def rd_Φ (cst : am_K) (h : am_H) (r : Nat) (mods : List Nat) (x y z : Int) (q : am_Q) : Prop := ∃ a : Int32, q.1 = some (.int a) ∧ q.2.2.1 = 0 ∧ q.2.2.2 = 0 ∧ ly_hy m_tt ly_TH q.2.1 ∧ ly_fr cst mods h q.2.1 ∧ ((¬ rd_ok x y z → a.toInt = -2 ∧ ly_hv cst q.2.1 r = ly_hv cst h r) ∧ (rd_ok x y z → ly_hv cst h r (6 * x + y) = some a.toInt ∧ ly_hv cst q.2.1 r = rd_f (ly_hv cst h r) x y z))
theorem rd_put {cst : am_K} {h h1 h2 : am_H} {r : Nat} {x y z : Int} (a : hp_put cst r (6 * x + y) z h h1) (b : hp_put cst r (6 * y + x) z h1 h2) : ly_hv cst h2 r = rd_f (ly_hv cst h r) x y z := by
  funext i
  unfold rd_f
  by_cases q1 : i = 6 * y + x
  · rw [if_pos q1, q1]
    exact b.1
  · rw [if_neg q1, b.2 r i (Or.inr q1)]
    by_cases q2 : i = 6 * x + y
    · rw [if_pos q2, q2]
      exact a.1
    · rw [if_neg q2, a.2 r i (Or.inr q2)]
theorem th_R1 : ly_ths ly_TH 62 = some (.inl (.int, 36, -2147483648, 2147483647)) := rfl
theorem th_R2 : ly_ths ly_TH 80 = some (.inl (.int, 36, -2147483648, 2147483647)) := rfl
/-- setRoad as a call -/
theorem sr_run {cst : am_K} {strs : List Nat} {D : Nat} {h : am_H} (c : hp_C cst strs D) (hD : (5 : Int) ≤ (D : Int) + 1) (hy : ly_hy m_tt ly_TH h) {xx yy zz : Int32} (ok : rd_ok xx.toInt yy.toInt zz.toInt) :
    ∃ r, am_Run cst m_cl m_tt m_P strs sx_bi (D + 1) 28 [.ref 77, .int xx, .int yy, .int zz] h r ∧ rd_Φ cst h 15872 [15872, 16128] xx.toInt yy.toInt zz.toInt r := by
  obtain ⟨M, hM, hl⟩ := hp_M (mi := 28) (k := 4) (by decide +kernel)
  obtain ⟨o1, o2, o3, o4, o5, o6⟩ := id ok
  have go : hp_F cst strs (rd_Φ cst h 15872 [15872, 16128] xx.toInt yy.toInt zz.toInt) D M 0 (lv_args 0 [.ref 77, .int xx, .int yy, .int zz]) [] h := by
    obtain ⟨v, hv, v0, v1⟩ := hp_row (cst := cst) (i := 6 * xx.toInt + yy.toInt) hy th_R1 (by omega) (by omega)
    refine sr0 c hM (by omega) hy xx.toInt yy.toInt zz.toInt v o1 o2 o3 o4 (by omega) (by omega) v0 v1 hv rfl ⟨xx, rfl, rfl⟩ ⟨yy, rfl, rfl⟩ ⟨zz, rfl, rfl⟩ (fun l1 h1 w0 w1 f0 f1 u1 u2 u3 g0 g1 g2 g3 g4 => ?_)
    refine hp_st (c := 62) hM (by decide +kernel) u1 th_R1 rfl (by omega) (by omega) w0.le_toInt w0.toInt_le (fun h2 q1 q2 q3 => ?_)
    refine sr1 c hM (by omega) q1 xx.toInt yy.toInt zz.toInt v o1 o2 o3 o4 (by omega) (by omega) v0 v1 g0 g1 g2 g3 g4 (fun l3 h3 w2 w3 f2 f3 u4 u5 u6 g5 g6 g7 g8 g9 => ?_)
    refine hp_st (c := 62) hM (by decide +kernel) u4 th_R1 rfl (by omega) (by omega) w2.le_toInt w2.toInt_le (fun h4 q4 q5 q6 => ?_)
    refine sr2 c hM hD q4 v v0 v1 g5 g9 (fun h5 a ha u7 u8 u9 => ⟨a, rfl, rfl, rfl, u7, ?_, fun no => absurd ok no, fun _ => ⟨by rw [ha]; exact hv, ?_⟩⟩)
    · have s0 : ∀ {a b : am_H}, ly_fr cst [] a b → ly_fr cst [15872, 16128] a b := fun f r i v _ e => f r i v rfl e
      refine ly_fr_tr (s0 u2) (ly_fr_tr (hp_put_fr (by rfl) q3) (ly_fr_tr (s0 u5) (ly_fr_tr (hp_put_fr (by rfl) q6) (fun r i v hr e => u8 r i v ?_ e))))
      simp only [ly_has, List.any_cons, List.any_nil, Bool.or_false, Bool.or_eq_false_iff] at hr ⊢
      exact hr.2
    · rw [f0, f1] at q3
      rw [f2, f3] at q6
      have e1 : ly_hv cst h1 15872 = ly_hv cst h 15872 := hp_same th_R1 rfl hy u1 u2
      have e3 : ly_hv cst h3 15872 = ly_hv cst h2 15872 := hp_same th_R1 rfl q1 u4 u5
      have e5 : ly_hv cst h5 15872 = ly_hv cst h4 15872 := hp_same th_R1 (by rfl) q4 u7 u8
      rw [e5]
      funext i
      unfold rd_f
      by_cases z1 : i = 6 * yy.toInt + xx.toInt
      · rw [if_pos z1, z1]
        exact q6.1
      · rw [if_neg z1, q6.2 15872 i (Or.inr z1), e3]
        by_cases z2 : i = 6 * xx.toInt + yy.toInt
        · rw [if_pos z2, z2]
          exact q3.1
        · rw [if_neg z2, q3.2 15872 i (Or.inr z2), e1]
  obtain ⟨n, r, hgo, a, r1, r2, r3, r4⟩ := go
  simp only [Nat.zero_add] at r2 r3
  exact ⟨r, Or.inr ⟨M, n, hM, hl, hgo⟩, a, r1, r2, r3, r4⟩
theorem cr_run {cst : am_K} {strs : List Nat} {D : Nat} {h : am_H} (c1 : hp_C cst strs D) (c : hp_C cst strs (D + 1)) (hD : (5 : Int) ≤ (D : Int) + 1) (hy : ly_hy m_tt ly_TH h) {xx yy zz : Int32} :
    ∃ r, am_Run cst m_cl m_tt m_P strs sx_bi (D + 1 + 1) 26 [.ref 16, .int xx, .int yy, .int zz] h r ∧ rd_Φ cst h 15872 [15872, 16128] xx.toInt yy.toInt zz.toInt r := by
  obtain ⟨M, hM, hl⟩ := hp_M (mi := 26) (k := 4) (by decide +kernel)
  have a0 := xx.le_toInt
  have a1 := xx.toInt_le
  have b0 := yy.le_toInt
  have b1 := yy.toInt_le
  have e0 := zz.le_toInt
  have e1 := zz.toInt_le
  have go : hp_F cst strs (rd_Φ cst h 15872 [15872, 16128] xx.toInt yy.toInt zz.toInt) (D + 1) M 0 (lv_args 0 [.ref 16, .int xx, .int yy, .int zz]) [] h := by
    have no : ¬ rd_ok xx.toInt yy.toInt zz.toInt → ∀ (h' : am_H) (w : Int32), w.toInt = -2 → ly_hy m_tt ly_TH h' → ly_fr cst [] h h' → h.length ≤ h'.length → rd_Φ cst h 15872 [15872, 16128] xx.toInt yy.toInt zz.toInt (some (.int w), h', 0, 0) := fun nk h' w hw w1 w2 w3 => ⟨w, rfl, rfl, rfl, w1, (fun r i v _ e => w2 r i v rfl e), fun _ => ⟨hw, hp_same th_R1 rfl hy w1 w2⟩, fun ok => absurd ok nk⟩
    by_cases p1 : xx.toInt ≤ -1
    · exact cr0 c hM (by omega) hy xx.toInt yy.toInt zz.toInt a0 p1 b0 b1 e0 e1 rfl ⟨xx, rfl, rfl⟩ ⟨yy, rfl, rfl⟩ ⟨zz, rfl, rfl⟩ (no (fun k => by have := k.1; omega))
    by_cases p2 : 6 ≤ xx.toInt
    · exact cr1 c hM (by omega) hy xx.toInt yy.toInt zz.toInt p2 a1 b0 b1 e0 e1 rfl ⟨xx, rfl, rfl⟩ ⟨yy, rfl, rfl⟩ ⟨zz, rfl, rfl⟩ (no (fun k => by have := k.2.1; omega))
    by_cases p3 : yy.toInt ≤ -1
    · exact cr2 c hM (by omega) hy xx.toInt yy.toInt zz.toInt (by omega) (by omega) b0 p3 e0 e1 rfl ⟨xx, rfl, rfl⟩ ⟨yy, rfl, rfl⟩ ⟨zz, rfl, rfl⟩ (no (fun k => by have := k.2.2.1; omega))
    by_cases p4 : 6 ≤ yy.toInt
    · exact cr3 c hM (by omega) hy xx.toInt yy.toInt zz.toInt (by omega) (by omega) p4 b1 e0 e1 rfl ⟨xx, rfl, rfl⟩ ⟨yy, rfl, rfl⟩ ⟨zz, rfl, rfl⟩ (no (fun k => by have := k.2.2.2.1; omega))
    by_cases p5 : xx.toInt = yy.toInt
    · exact cr4 c hM (by omega) hy xx.toInt zz.toInt (by omega) (by omega) e0 e1 rfl ⟨xx, rfl, rfl⟩ ⟨yy, rfl, p5.symm⟩ ⟨zz, rfl, rfl⟩ (no (fun k => k.2.2.2.2.1 p5))
    have ne : ly_hv cst h 61000 (xx.toInt - yy.toInt) = some 1 := hp_ne (by omega)
    by_cases p6 : zz.toInt ≤ -2
    · exact cr5 c hM (by omega) hy xx.toInt yy.toInt zz.toInt (by omega) (by omega) (by omega) (by omega) e0 p6 ne rfl ⟨xx, rfl, rfl⟩ ⟨yy, rfl, rfl⟩ ⟨zz, rfl, rfl⟩ (no (fun k => by have := k.2.2.2.2.2; omega))
    by_cases p7 : zz.toInt = 0
    · exact cr6 c hM (by omega) hy xx.toInt yy.toInt (by omega) (by omega) (by omega) (by omega) ne rfl ⟨xx, rfl, rfl⟩ ⟨yy, rfl, rfl⟩ ⟨zz, rfl, p7⟩ (no (fun k => by have := k.2.2.2.2.2; omega))
    by_cases p8 : 10 ≤ zz.toInt
    · exact cr7 c hM (by omega) hy xx.toInt yy.toInt zz.toInt (by omega) (by omega) (by omega) (by omega) p8 e1 ne rfl ⟨xx, rfl, rfl⟩ ⟨yy, rfl, rfl⟩ ⟨zz, rfl, rfl⟩ (no (fun k => by have := k.2.2.2.2.2; omega))
    have ok : rd_ok xx.toInt yy.toInt zz.toInt := ⟨by omega, by omega, by omega, by omega, p5, by omega⟩
    have call : ∀ (l' : am_L) (h' : am_H) (w0 w1 w2 : Int32), w0.toInt = zz.toInt → w1.toInt = yy.toInt → w2.toInt = xx.toInt → ly_hy m_tt ly_TH h' → ly_fr cst [] h h' → h.length ≤ h'.length → hp_a l' 0 16 → hp_F cst strs (rd_Φ cst h 15872 [15872, 16128] xx.toInt yy.toInt zz.toInt) (D + 1) M 44 l' [.int w0, .int w1, .int w2, .ref 77] h' := by
      intro l' h' w0 w1 w2 f0 f1 f2 u1 u2 u3 g0
      obtain ⟨r, hrun, a, r1, r2, r3, rhy, rfr, -, rok⟩ := sr_run (xx := w2) (yy := w1) (zz := w0) c1 hD u1 (by rw [f0, f1, f2]; exact ok)
      refine hp_call (mi := 26) (pc := 44) (tg := 28) (na := 4) (c := 61) (ci := 9) (st0 := [.int w0, .int w1, .int w2, .ref 77]) (st := []) (av := [.int w2, .int w1, .int w0]) hM (by decide +kernel) u1 rfl rfl rfl (by decide) hrun r2 r3 ?_
      rw [r1]
      rw [f0, f1, f2] at rok
      obtain ⟨k1, k2⟩ := rok ok
      have e1 : ly_hv cst h' 15872 = ly_hv cst h 15872 := hp_same th_R1 rfl hy u1 u2
      rw [e1] at k1 k2
      exact crr c hM (by omega) rhy a.toInt a rfl a.le_toInt a.toInt_le g0 (fun h2 a2 ha2 v1 v2 v3 => ⟨a2, rfl, rfl, rfl, v1, ly_fr_tr (fun r i v _ e => u2 r i v rfl e) (ly_fr_tr rfr (fun r i v _ e => v2 r i v rfl e)), fun no => absurd ok no, fun _ => ⟨by rw [ha2]; exact k1, by rw [hp_same th_R1 rfl rhy v1 v2]; exact k2⟩⟩)
    by_cases pz : zz.toInt = -1
    · exact cr8 c hM (by omega) hy xx.toInt yy.toInt (by omega) (by omega) (by omega) (by omega) ne rfl ⟨xx, rfl, rfl⟩ ⟨yy, rfl, rfl⟩ ⟨zz, rfl, pz⟩ (fun l' h' w0 w1 w2 f0 => call l' h' w0 w1 w2 (by omega))
    · exact cr9 c hM (by omega) hy xx.toInt yy.toInt zz.toInt (by omega) (by omega) (by omega) (by omega) (by omega) (by omega) ne rfl ⟨xx, rfl, rfl⟩ ⟨yy, rfl, rfl⟩ ⟨zz, rfl, rfl⟩ call
  obtain ⟨n, r, hgo, a, r1, r2, r3, r4⟩ := go
  simp only [Nat.zero_add] at r2 r3
  exact ⟨r, Or.inr ⟨M, n, hM, hl, hgo⟩, a, r1, r2, r3, r4⟩
theorem mr_run {cst : am_K} {strs : List Nat} {D : Nat} {h : am_H} (c : hp_C cst strs D) (hD : (4 : Int) ≤ (D : Int) + 1) (hy : ly_hy m_tt ly_TH h) {xx yy zz : Int32} :
    ∃ r, am_Run cst m_cl m_tt m_P strs sx_bi (D + 1) 271 [.ref 94, .int xx, .int yy, .int zz] h r ∧ rd_Φ cst h 20480 [20480] xx.toInt yy.toInt zz.toInt r := by
  obtain ⟨M, hM, hl⟩ := hp_M (mi := 271) (k := 4) (by decide +kernel)
  have a0 := xx.le_toInt
  have a1 := xx.toInt_le
  have b0 := yy.le_toInt
  have b1 := yy.toInt_le
  have e0 := zz.le_toInt
  have e1 := zz.toInt_le
  have go : hp_F cst strs (rd_Φ cst h 20480 [20480] xx.toInt yy.toInt zz.toInt) D M 0 (lv_args 0 [.ref 94, .int xx, .int yy, .int zz]) [] h := by
    have no : ¬ rd_ok xx.toInt yy.toInt zz.toInt → ∀ (h' : am_H) (w : Int32), w.toInt = -2 → ly_hy m_tt ly_TH h' → ly_fr cst [] h h' → h.length ≤ h'.length → rd_Φ cst h 20480 [20480] xx.toInt yy.toInt zz.toInt (some (.int w), h', 0, 0) := fun nk h' w hw w1 w2 w3 => ⟨w, rfl, rfl, rfl, w1, (fun r i v _ e => w2 r i v rfl e), fun _ => ⟨hw, hp_same th_R2 rfl hy w1 w2⟩, fun ok => absurd ok nk⟩
    by_cases p1 : xx.toInt ≤ -1
    · exact mr0 c hM (by omega) hy xx.toInt yy.toInt zz.toInt a0 p1 b0 b1 e0 e1 rfl ⟨xx, rfl, rfl⟩ ⟨yy, rfl, rfl⟩ ⟨zz, rfl, rfl⟩ (no (fun k => by have := k.1; omega))
    by_cases p2 : 6 ≤ xx.toInt
    · exact mr1 c hM (by omega) hy xx.toInt yy.toInt zz.toInt p2 a1 b0 b1 e0 e1 rfl ⟨xx, rfl, rfl⟩ ⟨yy, rfl, rfl⟩ ⟨zz, rfl, rfl⟩ (no (fun k => by have := k.2.1; omega))
    by_cases p3 : yy.toInt ≤ -1
    · exact mr2 c hM (by omega) hy xx.toInt yy.toInt zz.toInt (by omega) (by omega) b0 p3 e0 e1 rfl ⟨xx, rfl, rfl⟩ ⟨yy, rfl, rfl⟩ ⟨zz, rfl, rfl⟩ (no (fun k => by have := k.2.2.1; omega))
    by_cases p4 : 6 ≤ yy.toInt
    · exact mr3 c hM (by omega) hy xx.toInt yy.toInt zz.toInt (by omega) (by omega) p4 b1 e0 e1 rfl ⟨xx, rfl, rfl⟩ ⟨yy, rfl, rfl⟩ ⟨zz, rfl, rfl⟩ (no (fun k => by have := k.2.2.2.1; omega))
    by_cases p5 : xx.toInt = yy.toInt
    · exact mr4 c hM (by omega) hy xx.toInt zz.toInt (by omega) (by omega) e0 e1 rfl ⟨xx, rfl, rfl⟩ ⟨yy, rfl, p5.symm⟩ ⟨zz, rfl, rfl⟩ (no (fun k => k.2.2.2.2.1 p5))
    have ne : ly_hv cst h 61000 (xx.toInt - yy.toInt) = some 1 := hp_ne (by omega)
    by_cases p6 : zz.toInt ≤ -2
    · exact mr5 c hM (by omega) hy xx.toInt yy.toInt zz.toInt (by omega) (by omega) (by omega) (by omega) e0 p6 ne rfl ⟨xx, rfl, rfl⟩ ⟨yy, rfl, rfl⟩ ⟨zz, rfl, rfl⟩ (no (fun k => by have := k.2.2.2.2.2; omega))
    by_cases p7 : zz.toInt = 0
    · exact mr6 c hM (by omega) hy xx.toInt yy.toInt (by omega) (by omega) (by omega) (by omega) ne rfl ⟨xx, rfl, rfl⟩ ⟨yy, rfl, rfl⟩ ⟨zz, rfl, p7⟩ (no (fun k => by have := k.2.2.2.2.2; omega))
    by_cases p8 : 10 ≤ zz.toInt
    · exact mr7 c hM (by omega) hy xx.toInt yy.toInt zz.toInt (by omega) (by omega) (by omega) (by omega) p8 e1 ne rfl ⟨xx, rfl, rfl⟩ ⟨yy, rfl, rfl⟩ ⟨zz, rfl, rfl⟩ (no (fun k => by have := k.2.2.2.2.2; omega))
    have ok : rd_ok xx.toInt yy.toInt zz.toInt := ⟨by omega, by omega, by omega, by omega, p5, by omega⟩
    obtain ⟨v, hv, v0, v1⟩ := hp_row (cst := cst) (i := 6 * xx.toInt + yy.toInt) hy th_R2 (by omega) (by omega)
    have store : ∀ (l' : am_L) (h1 : am_H) (w0 w1 : Int32), w0.toInt = zz.toInt → w1.toInt = 6 * xx.toInt + yy.toInt → ly_hy m_tt ly_TH h1 → ly_fr cst [] h h1 → h.length ≤ h1.length → hp_a l' 0 94 → hp_i l' 1 xx.toInt → hp_i l' 2 yy.toInt → hp_i l' 3 zz.toInt → hp_i l' 4 v → hp_F cst strs (rd_Φ cst h 20480 [20480] xx.toInt yy.toInt zz.toInt) D M 61 l' [.int w0, .int w1, .ref 96] h1 := by
      intro l' h1 w0 w1 f0 f1 u1 u2 u3 g0 g1 g2 g3 g4
      refine hp_st (c := 80) hM (by decide +kernel) u1 th_R2 rfl (by omega) (by omega) w0.le_toInt w0.toInt_le (fun h2 q1 q2 q3 => ?_)
      refine mra c hM (by omega) q1 xx.toInt yy.toInt zz.toInt v (by omega) (by omega) (by omega) (by omega) (by omega) (by omega) v0 v1 g0 g1 g2 g3 g4 (fun l3 h3 w2 w3 f2 f3 u4 u5 u6 g5 g6 g7 g8 g9 => ?_)
      refine hp_st (c := 80) hM (by decide +kernel) u4 th_R2 rfl (by omega) (by omega) w2.le_toInt w2.toInt_le (fun h4 q4 q5 q6 => ?_)
      refine mrb c hM (by omega) q4 v v0 v1 g5 g9 (fun h5 a ha u7 u8 u9 => ⟨a, rfl, rfl, rfl, u7, ?_, fun no => absurd ok no, fun _ => ⟨by rw [ha]; exact hv, ?_⟩⟩)
      · have s0 : ∀ {a b : am_H}, ly_fr cst [] a b → ly_fr cst [20480] a b := fun f r i v _ e => f r i v rfl e
        exact ly_fr_tr (s0 u2) (ly_fr_tr (hp_put_fr (by rfl) q3) (ly_fr_tr (s0 u5) (ly_fr_tr (hp_put_fr (by rfl) q6) (s0 u8))))
      · rw [f0, f1] at q3
        rw [f2, f3] at q6
        have e1 : ly_hv cst h1 20480 = ly_hv cst h 20480 := hp_same th_R2 rfl hy u1 u2
        have e3 : ly_hv cst h3 20480 = ly_hv cst h2 20480 := hp_same th_R2 rfl q1 u4 u5
        have e5 : ly_hv cst h5 20480 = ly_hv cst h4 20480 := hp_same th_R2 rfl q4 u7 u8
        rw [e5]
        funext i
        unfold rd_f
        by_cases z1 : i = 6 * yy.toInt + xx.toInt
        · rw [if_pos z1, z1]
          exact q6.1
        · rw [if_neg z1, q6.2 20480 i (Or.inr z1), e3]
          by_cases z2 : i = 6 * xx.toInt + yy.toInt
          · rw [if_pos z2, z2]
            exact q3.1
          · rw [if_neg z2, q3.2 20480 i (Or.inr z2), e1]
    by_cases pz : zz.toInt = -1
    · exact mr8 c hM (by omega) hy xx.toInt yy.toInt v (by omega) (by omega) (by omega) (by omega) v0 v1 ne hv rfl ⟨xx, rfl, rfl⟩ ⟨yy, rfl, rfl⟩ ⟨zz, rfl, pz⟩ (fun l' h1 w0 w1 f0 f1 u1 u2 u3 g0 g1 g2 g3 g4 => store l' h1 w0 w1 (by omega) f1 u1 u2 u3 g0 g1 g2 (by rw [pz]; exact g3) g4)
    · exact mr9 c hM (by omega) hy xx.toInt yy.toInt zz.toInt v (by omega) (by omega) (by omega) (by omega) (by omega) (by omega) v0 v1 ne hv rfl ⟨xx, rfl, rfl⟩ ⟨yy, rfl, rfl⟩ ⟨zz, rfl, rfl⟩ store
  obtain ⟨n, r, hgo, a, r1, r2, r3, r4⟩ := go
  simp only [Nat.zero_add] at r2 r3
  exact ⟨r, Or.inr ⟨M, n, hM, hl, hgo⟩, a, r1, r2, r3, r4⟩
