/-! PRINTED by wip/p2/hp_put.py: put of class and reference, exactly -/
theorem pu0_k : hp_chk 217 0 1 [(0, 0, 99)] [] [(0, .inr (.inr (.inl (some 71)))), (1, .inl (0, [(0, 1)]))] [] [] [] 2 [(2, ([], 1, [(0, 0, 99)], [], [(0, .inr (.inr (.inl (some 71)))), (1, .inl (0, [(0, 1)])), (2, .inl (0, []))], [], []))] [] = true := by decide +kernel
theorem pu0 {cst : am_K} {strs : List Nat} {Φ : am_Q → Prop} {D : Nat} {M : am_M} {h : am_H} {l : am_L} (c : hp_C cst strs D) (hM : m_P[217]? = some M) (hD : (2 : Int) ≤ (D : Int) + 1) (hy : ly_hy m_tt ly_TH h) (m : Int) (b0 : 0 ≤ m) (t0 : m ≤ 99) (l0 : hp_a l 0 71) (l1 : hp_i l 1 (m)) (e0 : ∀ (l' : am_L) (h' : am_H), ly_hy m_tt ly_TH h' → ly_fr cst [] h h' → h.length ≤ h'.length → hp_a l' 0 71 → hp_i l' 1 (m) → hp_i l' 2 0 → hp_F cst strs Φ D M 2 l' [] h') : hp_F cst strs Φ D M 0 l [] h := by
  refine hp_arc c hM pu0_k hD [m] rfl hy (hp_Bc (z := m) rfl b0 t0 hp_Bn) hp_Fn hp_Kn (hp_La l0 (hp_Li (z := (0 + (1 * m + 0))) l1 rfl (by omega) hp_Ln)) trivial ?_ ?_
  · intro p hp ys l' st' h' hys a1 a2 a3 gZ gL gS
    rcases List.mem_cons.mp hp with rfl | hp
    · obtain rfl := hp_y0 hys
      cases hp_gSn gS
      exact e0 l' h' a1 a2 a3 (hp_gLa gL (List.mem_of_getElem? (i := 0) rfl) (by decide)) (hp_gLi (z := (0 + (1 * m + 0))) gL (List.mem_of_getElem? (i := 1) rfl) rfl (by omega)) (hp_gLi (z := (0 + 0)) gL (List.mem_of_getElem? (i := 2) rfl) rfl (by omega))
    cases hp
  · intro p hp ys v h' hys a1 a2 a3 gZ gS
    cases hp
theorem pu1_k : hp_chk 217 2 3 [(0, 0, 99), (1, 0, 5), (2, 0, 4)] [((-1), [(1, 1), (2, (-1))])] [(0, .inr (.inr (.inl (some 71)))), (1, .inl (0, [(0, 1)])), (2, .inl (0, [(2, 1)]))] [] [(14080, (0, []), (0, [(1, 1)])), (14336, (0, [(2, 1)]), (0, [(0, 1)]))] [] 2 [] [([], 3, [(0, 0, 99), (1, 0, 5), (2, 0, 4)], [], [], [.inl (1, [])], [])] = true := by decide +kernel
theorem pu1 {cst : am_K} {strs : List Nat} {Φ : am_Q → Prop} {D : Nat} {M : am_M} {h : am_H} {l : am_L} (c : hp_C cst strs D) (hM : m_P[217]? = some M) (hD : (2 : Int) ≤ (D : Int) + 1) (hy : ly_hy m_tt ly_TH h) (m z i : Int) (b0 : 0 ≤ m) (t0 : m ≤ 99) (b1 : 0 ≤ z) (t1 : z ≤ 5) (b2 : 0 ≤ i) (t2 : i ≤ 4) (f0 : 0 ≤ (z - i - 1)) (k0 : ly_hv cst h 14080 0 = some (z)) (k1 : ly_hv cst h 14336 (i) = some (m)) (l0 : hp_a l 0 71) (l1 : hp_i l 1 (m)) (l2 : hp_i l 2 (i)) (r0 : ∀ (h' : am_H) (y0 : Int32), y0.toInt = 1 → ly_hy m_tt ly_TH h' → ly_fr cst [] h h' → h.length ≤ h'.length → Φ (some (.int y0), h', 0, 0)) : hp_F cst strs Φ D M 2 l [] h := by
  refine hp_arc c hM pu1_k hD [m, z, i] rfl hy (hp_Bc (z := m) rfl b0 t0 (hp_Bc (z := z) rfl b1 t1 (hp_Bc (z := i) rfl b2 t2 hp_Bn))) (hp_Fc (z := ((-1) + (1 * z + ((-1) * i + 0)))) rfl (by omega) hp_Fn) (hp_Kc (zi := (0 + 0)) (zv := (0 + (1 * z + 0))) k0 rfl rfl (by omega) (by omega) (hp_Kc (zi := (0 + (1 * i + 0))) (zv := (0 + (1 * m + 0))) k1 rfl rfl (by omega) (by omega) hp_Kn)) (hp_La l0 (hp_Li (z := (0 + (1 * m + 0))) l1 rfl (by omega) (hp_Li (z := (0 + (1 * i + 0))) l2 rfl (by omega) hp_Ln))) trivial ?_ ?_
  · intro p hp ys l' st' h' hys a1 a2 a3 gZ gL gS
    cases hp
  · intro p hp ys v h' hys a1 a2 a3 gZ gS
    rcases List.mem_cons.mp hp with rfl | hp
    · obtain rfl := hp_y0 hys
      cases v with
      | none => cases gS
      | some w =>
        obtain ⟨y0, t0, s0, q0, -⟩ := hp_gSi (z := (1 + 0)) gS rfl
        cases s0
        exact r0 h' y0 (by omega) a1 a2 a3
    cases hp
theorem pu2_k : hp_chk 217 2 4 [(0, 0, 99), (1, 0, 5), (2, 0, 4), (3, (-2147483648), 2147483647)] [((-1), [(1, 1), (2, (-1))])] [(0, .inr (.inr (.inl (some 71)))), (1, .inl (0, [(0, 1)])), (2, .inl (0, [(2, 1)]))] [] [(14080, (0, []), (0, [(1, 1)])), (14336, (0, [(2, 1)]), (0, [(3, 1)])), (61000, (0, [(0, (-1)), (3, 1)]), (1, []))] [] 2 [(2, ([], 4, [(0, 0, 99), (1, 0, 5), (2, 0, 4), (3, (-2147483648), 2147483647)], [], [(0, .inr (.inr (.inl (some 71)))), (1, .inl (0, [(0, 1)])), (2, .inl (1, [(2, 1)]))], [], []))] [] = true := by decide +kernel
theorem pu2 {cst : am_K} {strs : List Nat} {Φ : am_Q → Prop} {D : Nat} {M : am_M} {h : am_H} {l : am_L} (c : hp_C cst strs D) (hM : m_P[217]? = some M) (hD : (2 : Int) ≤ (D : Int) + 1) (hy : ly_hy m_tt ly_TH h) (m z i x : Int) (b0 : 0 ≤ m) (t0 : m ≤ 99) (b1 : 0 ≤ z) (t1 : z ≤ 5) (b2 : 0 ≤ i) (t2 : i ≤ 4) (b3 : (-2147483648) ≤ x) (t3 : x ≤ 2147483647) (f0 : 0 ≤ (z - i - 1)) (k0 : ly_hv cst h 14080 0 = some (z)) (k1 : ly_hv cst h 14336 (i) = some (x)) (k2 : ly_hv cst h 61000 (x - m) = some 1) (l0 : hp_a l 0 71) (l1 : hp_i l 1 (m)) (l2 : hp_i l 2 (i)) (e0 : ∀ (l' : am_L) (h' : am_H), ly_hy m_tt ly_TH h' → ly_fr cst [] h h' → h.length ≤ h'.length → hp_a l' 0 71 → hp_i l' 1 (m) → hp_i l' 2 (i + 1) → hp_F cst strs Φ D M 2 l' [] h') : hp_F cst strs Φ D M 2 l [] h := by
  refine hp_arc c hM pu2_k hD [m, z, i, x] rfl hy (hp_Bc (z := m) rfl b0 t0 (hp_Bc (z := z) rfl b1 t1 (hp_Bc (z := i) rfl b2 t2 (hp_Bc (z := x) rfl b3 t3 hp_Bn)))) (hp_Fc (z := ((-1) + (1 * z + ((-1) * i + 0)))) rfl (by omega) hp_Fn) (hp_Kc (zi := (0 + 0)) (zv := (0 + (1 * z + 0))) k0 rfl rfl (by omega) (by omega) (hp_Kc (zi := (0 + (1 * i + 0))) (zv := (0 + (1 * x + 0))) k1 rfl rfl (by omega) (by omega) (hp_Kc (zi := (0 + ((-1) * m + (1 * x + 0)))) (zv := (1 + 0)) k2 rfl rfl (by omega) (by omega) hp_Kn))) (hp_La l0 (hp_Li (z := (0 + (1 * m + 0))) l1 rfl (by omega) (hp_Li (z := (0 + (1 * i + 0))) l2 rfl (by omega) hp_Ln))) trivial ?_ ?_
  · intro p hp ys l' st' h' hys a1 a2 a3 gZ gL gS
    rcases List.mem_cons.mp hp with rfl | hp
    · obtain rfl := hp_y0 hys
      cases hp_gSn gS
      exact e0 l' h' a1 a2 a3 (hp_gLa gL (List.mem_of_getElem? (i := 0) rfl) (by decide)) (hp_gLi (z := (0 + (1 * m + 0))) gL (List.mem_of_getElem? (i := 1) rfl) rfl (by omega)) (hp_gLi (z := (1 + (1 * i + 0))) gL (List.mem_of_getElem? (i := 2) rfl) rfl (by omega))
    cases hp
  · intro p hp ys v h' hys a1 a2 a3 gZ gS
    cases hp
theorem pu3_k : hp_chk 217 2 2 [(0, 0, 99), (1, 0, 5)] [] [(0, .inr (.inr (.inl (some 71)))), (1, .inl (0, [(0, 1)])), (2, .inl (0, [(1, 1)]))] [] [(14080, (0, []), (0, [(1, 1)]))] [] 2 [] [([], 2, [(0, 0, 99), (1, 0, 5)], [], [], [.inl (0, [])], [])] = true := by decide +kernel
theorem pu3 {cst : am_K} {strs : List Nat} {Φ : am_Q → Prop} {D : Nat} {M : am_M} {h : am_H} {l : am_L} (c : hp_C cst strs D) (hM : m_P[217]? = some M) (hD : (2 : Int) ≤ (D : Int) + 1) (hy : ly_hy m_tt ly_TH h) (m z : Int) (b0 : 0 ≤ m) (t0 : m ≤ 99) (b1 : 0 ≤ z) (t1 : z ≤ 5) (k0 : ly_hv cst h 14080 0 = some (z)) (l0 : hp_a l 0 71) (l1 : hp_i l 1 (m)) (l2 : hp_i l 2 (z)) (r0 : ∀ (h' : am_H) (y0 : Int32), y0.toInt = 0 → ly_hy m_tt ly_TH h' → ly_fr cst [] h h' → h.length ≤ h'.length → Φ (some (.int y0), h', 0, 0)) : hp_F cst strs Φ D M 2 l [] h := by
  refine hp_arc c hM pu3_k hD [m, z] rfl hy (hp_Bc (z := m) rfl b0 t0 (hp_Bc (z := z) rfl b1 t1 hp_Bn)) hp_Fn (hp_Kc (zi := (0 + 0)) (zv := (0 + (1 * z + 0))) k0 rfl rfl (by omega) (by omega) hp_Kn) (hp_La l0 (hp_Li (z := (0 + (1 * m + 0))) l1 rfl (by omega) (hp_Li (z := (0 + (1 * z + 0))) l2 rfl (by omega) hp_Ln))) trivial ?_ ?_
  · intro p hp ys l' st' h' hys a1 a2 a3 gZ gL gS
    cases hp
  · intro p hp ys v h' hys a1 a2 a3 gZ gS
    rcases List.mem_cons.mp hp with rfl | hp
    · obtain rfl := hp_y0 hys
      cases v with
      | none => cases gS
      | some w =>
        obtain ⟨y0, t0, s0, q0, -⟩ := hp_gSi (z := (0 + 0)) gS rfl
        cases s0
        exact r0 h' y0 (by omega) a1 a2 a3
    cases hp
theorem pv0_k : hp_chk 218 0 1 [(0, 0, 99)] [] [(0, .inr (.inr (.inl (some 71)))), (1, .inl (0, [(0, 1)]))] [] [(14080, (0, []), (5, []))] [] 2 [] [([], 1, [(0, 0, 99)], [], [], [.inl ((-3), [])], [(14080, (0, []), (5, []))])] = true := by decide +kernel
theorem pv0 {cst : am_K} {strs : List Nat} {Φ : am_Q → Prop} {D : Nat} {M : am_M} {h : am_H} {l : am_L} (c : hp_C cst strs D) (hM : m_P[218]? = some M) (hD : (2 : Int) ≤ (D : Int) + 1) (hy : ly_hy m_tt ly_TH h) (m : Int) (b0 : 0 ≤ m) (t0 : m ≤ 99) (k0 : ly_hv cst h 14080 0 = some 5) (l0 : hp_a l 0 71) (l1 : hp_i l 1 (m)) (r0 : ∀ (h' : am_H) (y0 : Int32), y0.toInt = (-3) → ly_hy m_tt ly_TH h' → ly_fr cst [] h h' → h.length ≤ h'.length → ly_hv cst h' 14080 0 = some 5 → Φ (some (.int y0), h', 0, 0)) : hp_F cst strs Φ D M 0 l [] h := by
  refine hp_arc c hM pv0_k hD [m] rfl hy (hp_Bc (z := m) rfl b0 t0 hp_Bn) hp_Fn (hp_Kc (zi := (0 + 0)) (zv := (5 + 0)) k0 rfl rfl (by omega) (by omega) hp_Kn) (hp_La l0 (hp_Li (z := (0 + (1 * m + 0))) l1 rfl (by omega) hp_Ln)) trivial ?_ ?_
  · intro p hp ys l' st' h' hys a1 a2 a3 gZ gL gS
    cases hp
  · intro p hp ys v h' hys a1 a2 a3 gZ gS
    rcases List.mem_cons.mp hp with rfl | hp
    · obtain rfl := hp_y0 hys
      cases v with
      | none => cases gS
      | some w =>
        obtain ⟨y0, t0, s0, q0, -⟩ := hp_gSi (z := ((-3) + 0)) gS rfl
        cases s0
        exact r0 h' y0 (by omega) a1 a2 a3 (hp_gK (zi := (0 + 0)) (zv := (5 + 0)) gZ.2.2.2 (List.mem_of_getElem? (i := 0) rfl) rfl rfl (by omega) (by omega))
    cases hp
theorem pv1_k : hp_chk 218 0 2 [(0, 0, 99), (1, 0, 4)] [] [(0, .inr (.inr (.inl (some 71)))), (1, .inl (0, [(0, 1)]))] [] [(14080, (0, []), (0, [(1, 1)]))] [] 2 [(16, ([], 2, [(0, 0, 99), (1, 0, 4)], [], [(0, .inr (.inr (.inl (some 71)))), (1, .inl (0, [(0, 1)])), (2, .inl (0, [(1, 1)]))], [], [(14080, (0, []), (0, [(1, 1)]))]))] [] = true := by decide +kernel
theorem pv1 {cst : am_K} {strs : List Nat} {Φ : am_Q → Prop} {D : Nat} {M : am_M} {h : am_H} {l : am_L} (c : hp_C cst strs D) (hM : m_P[218]? = some M) (hD : (2 : Int) ≤ (D : Int) + 1) (hy : ly_hy m_tt ly_TH h) (m z : Int) (b0 : 0 ≤ m) (t0 : m ≤ 99) (b1 : 0 ≤ z) (t1 : z ≤ 4) (k0 : ly_hv cst h 14080 0 = some (z)) (l0 : hp_a l 0 71) (l1 : hp_i l 1 (m)) (e0 : ∀ (l' : am_L) (h' : am_H), ly_hy m_tt ly_TH h' → ly_fr cst [] h h' → h.length ≤ h'.length → ly_hv cst h' 14080 0 = some (z) → hp_a l' 0 71 → hp_i l' 1 (m) → hp_i l' 2 (z) → hp_F cst strs Φ D M 16 l' [] h') : hp_F cst strs Φ D M 0 l [] h := by
  refine hp_arc c hM pv1_k hD [m, z] rfl hy (hp_Bc (z := m) rfl b0 t0 (hp_Bc (z := z) rfl b1 t1 hp_Bn)) hp_Fn (hp_Kc (zi := (0 + 0)) (zv := (0 + (1 * z + 0))) k0 rfl rfl (by omega) (by omega) hp_Kn) (hp_La l0 (hp_Li (z := (0 + (1 * m + 0))) l1 rfl (by omega) hp_Ln)) trivial ?_ ?_
  · intro p hp ys l' st' h' hys a1 a2 a3 gZ gL gS
    rcases List.mem_cons.mp hp with rfl | hp
    · obtain rfl := hp_y0 hys
      cases hp_gSn gS
      exact e0 l' h' a1 a2 a3 (hp_gK (zi := (0 + 0)) (zv := (0 + (1 * z + 0))) gZ.2.2.2 (List.mem_of_getElem? (i := 0) rfl) rfl rfl (by omega) (by omega)) (hp_gLa gL (List.mem_of_getElem? (i := 0) rfl) (by decide)) (hp_gLi (z := (0 + (1 * m + 0))) gL (List.mem_of_getElem? (i := 1) rfl) rfl (by omega)) (hp_gLi (z := (0 + (1 * z + 0))) gL (List.mem_of_getElem? (i := 2) rfl) rfl (by omega))
    cases hp
  · intro p hp ys v h' hys a1 a2 a3 gZ gS
    cases hp
theorem pv2_k : hp_chk 218 16 4 [(0, 0, 99), (1, 0, 4), (2, 1, 4), (3, (-2147483648), 2147483647)] [((-1), [(0, (-1)), (3, 1)])] [(0, .inr (.inr (.inl (some 71)))), (1, .inl (0, [(0, 1)])), (2, .inl (0, [(2, 1)]))] [] [(14080, (0, []), (0, [(1, 1)])), (14336, ((-1), [(2, 1)]), (0, [(3, 1)]))] [] 2 [(45, ([], 4, [(0, 0, 99), (1, 0, 4), (2, 1, 4), (3, (-2147483648), 2147483647)], [], [(0, .inr (.inr (.inl (some 71)))), (1, .inl (0, [(0, 1)])), (2, .inl (0, [(2, 1)]))], [.inl (0, [(3, 1)]), .inl (0, [(2, 1)]), .inr (.inr (.inl (some 72)))], [(14080, (0, []), (0, [(1, 1)]))]))] [] = true := by decide +kernel
theorem pv2 {cst : am_K} {strs : List Nat} {Φ : am_Q → Prop} {D : Nat} {M : am_M} {h : am_H} {l : am_L} (c : hp_C cst strs D) (hM : m_P[218]? = some M) (hD : (2 : Int) ≤ (D : Int) + 1) (hy : ly_hy m_tt ly_TH h) (m z i x : Int) (b0 : 0 ≤ m) (t0 : m ≤ 99) (b1 : 0 ≤ z) (t1 : z ≤ 4) (b2 : 1 ≤ i) (t2 : i ≤ 4) (b3 : (-2147483648) ≤ x) (t3 : x ≤ 2147483647) (f0 : 0 ≤ (x - m - 1)) (k0 : ly_hv cst h 14080 0 = some (z)) (k1 : ly_hv cst h 14336 (i - 1) = some (x)) (l0 : hp_a l 0 71) (l1 : hp_i l 1 (m)) (l2 : hp_i l 2 (i)) (e0 : ∀ (l' : am_L) (h' : am_H) (y0 : Int32) (y1 : Int32), y0.toInt = (x) → y1.toInt = (i) → ly_hy m_tt ly_TH h' → ly_fr cst [] h h' → h.length ≤ h'.length → ly_hv cst h' 14080 0 = some (z) → hp_a l' 0 71 → hp_i l' 1 (m) → hp_i l' 2 (i) → hp_F cst strs Φ D M 45 l' [.int y0, .int y1, .ref 72] h') : hp_F cst strs Φ D M 16 l [] h := by
  refine hp_arc c hM pv2_k hD [m, z, i, x] rfl hy (hp_Bc (z := m) rfl b0 t0 (hp_Bc (z := z) rfl b1 t1 (hp_Bc (z := i) rfl b2 t2 (hp_Bc (z := x) rfl b3 t3 hp_Bn)))) (hp_Fc (z := ((-1) + ((-1) * m + (1 * x + 0)))) rfl (by omega) hp_Fn) (hp_Kc (zi := (0 + 0)) (zv := (0 + (1 * z + 0))) k0 rfl rfl (by omega) (by omega) (hp_Kc (zi := ((-1) + (1 * i + 0))) (zv := (0 + (1 * x + 0))) k1 rfl rfl (by omega) (by omega) hp_Kn)) (hp_La l0 (hp_Li (z := (0 + (1 * m + 0))) l1 rfl (by omega) (hp_Li (z := (0 + (1 * i + 0))) l2 rfl (by omega) hp_Ln))) trivial ?_ ?_
  · intro p hp ys l' st' h' hys a1 a2 a3 gZ gL gS
    rcases List.mem_cons.mp hp with rfl | hp
    · obtain rfl := hp_y0 hys
      obtain ⟨y0, t0, rfl, q0, g0⟩ := hp_gSi (z := (0 + (1 * x + 0))) gS rfl
      obtain ⟨y1, t1, rfl, q1, g1⟩ := hp_gSi (z := (0 + (1 * i + 0))) g0 rfl
      obtain ⟨t2, rfl, g2⟩ := hp_gSa g1 (by decide)
      cases hp_gSn g2
      exact e0 l' h' y0 y1 (by omega) (by omega) a1 a2 a3 (hp_gK (zi := (0 + 0)) (zv := (0 + (1 * z + 0))) gZ.2.2.2 (List.mem_of_getElem? (i := 0) rfl) rfl rfl (by omega) (by omega)) (hp_gLa gL (List.mem_of_getElem? (i := 0) rfl) (by decide)) (hp_gLi (z := (0 + (1 * m + 0))) gL (List.mem_of_getElem? (i := 1) rfl) rfl (by omega)) (hp_gLi (z := (0 + (1 * i + 0))) gL (List.mem_of_getElem? (i := 2) rfl) rfl (by omega))
    cases hp
  · intro p hp ys v h' hys a1 a2 a3 gZ gS
    cases hp
theorem pv3_k : hp_chk 218 46 3 [(0, 0, 99), (1, 0, 4), (2, 1, 4)] [] [(0, .inr (.inr (.inl (some 71)))), (1, .inl (0, [(0, 1)])), (2, .inl (0, [(2, 1)]))] [] [(14080, (0, []), (0, [(1, 1)]))] [] 2 [(16, ([], 3, [(0, 0, 99), (1, 0, 4), (2, 1, 4)], [], [(0, .inr (.inr (.inl (some 71)))), (1, .inl (0, [(0, 1)])), (2, .inl ((-1), [(2, 1)]))], [], [(14080, (0, []), (0, [(1, 1)]))]))] [] = true := by decide +kernel
theorem pv3 {cst : am_K} {strs : List Nat} {Φ : am_Q → Prop} {D : Nat} {M : am_M} {h : am_H} {l : am_L} (c : hp_C cst strs D) (hM : m_P[218]? = some M) (hD : (2 : Int) ≤ (D : Int) + 1) (hy : ly_hy m_tt ly_TH h) (m z i : Int) (b0 : 0 ≤ m) (t0 : m ≤ 99) (b1 : 0 ≤ z) (t1 : z ≤ 4) (b2 : 1 ≤ i) (t2 : i ≤ 4) (k0 : ly_hv cst h 14080 0 = some (z)) (l0 : hp_a l 0 71) (l1 : hp_i l 1 (m)) (l2 : hp_i l 2 (i)) (e0 : ∀ (l' : am_L) (h' : am_H), ly_hy m_tt ly_TH h' → ly_fr cst [] h h' → h.length ≤ h'.length → ly_hv cst h' 14080 0 = some (z) → hp_a l' 0 71 → hp_i l' 1 (m) → hp_i l' 2 (i - 1) → hp_F cst strs Φ D M 16 l' [] h') : hp_F cst strs Φ D M 46 l [] h := by
  refine hp_arc c hM pv3_k hD [m, z, i] rfl hy (hp_Bc (z := m) rfl b0 t0 (hp_Bc (z := z) rfl b1 t1 (hp_Bc (z := i) rfl b2 t2 hp_Bn))) hp_Fn (hp_Kc (zi := (0 + 0)) (zv := (0 + (1 * z + 0))) k0 rfl rfl (by omega) (by omega) hp_Kn) (hp_La l0 (hp_Li (z := (0 + (1 * m + 0))) l1 rfl (by omega) (hp_Li (z := (0 + (1 * i + 0))) l2 rfl (by omega) hp_Ln))) trivial ?_ ?_
  · intro p hp ys l' st' h' hys a1 a2 a3 gZ gL gS
    rcases List.mem_cons.mp hp with rfl | hp
    · obtain rfl := hp_y0 hys
      cases hp_gSn gS
      exact e0 l' h' a1 a2 a3 (hp_gK (zi := (0 + 0)) (zv := (0 + (1 * z + 0))) gZ.2.2.2 (List.mem_of_getElem? (i := 0) rfl) rfl rfl (by omega) (by omega)) (hp_gLa gL (List.mem_of_getElem? (i := 0) rfl) (by decide)) (hp_gLi (z := (0 + (1 * m + 0))) gL (List.mem_of_getElem? (i := 1) rfl) rfl (by omega)) (hp_gLi (z := ((-1) + (1 * i + 0))) gL (List.mem_of_getElem? (i := 2) rfl) rfl (by omega))
    cases hp
  · intro p hp ys v h' hys a1 a2 a3 gZ gS
    cases hp
theorem pv4_k : hp_chk 218 16 4 [(0, 0, 99), (1, 0, 4), (2, 1, 4), (3, (-2147483648), 2147483647)] [(0, [(0, 1), (3, (-1))])] [(0, .inr (.inr (.inl (some 71)))), (1, .inl (0, [(0, 1)])), (2, .inl (0, [(2, 1)]))] [] [(14080, (0, []), (0, [(1, 1)])), (14336, ((-1), [(2, 1)]), (0, [(3, 1)]))] [] 2 [(58, ([], 4, [(0, 0, 99), (1, 0, 4), (2, 1, 4), (3, (-2147483648), 2147483647)], [], [(0, .inr (.inr (.inl (some 71)))), (1, .inl (0, [(0, 1)])), (2, .inl (0, [(2, 1)]))], [.inl (0, [(0, 1)]), .inl (0, [(2, 1)]), .inr (.inr (.inl (some 72)))], [(14080, (0, []), (0, [(1, 1)]))]))] [] = true := by decide +kernel
theorem pv4 {cst : am_K} {strs : List Nat} {Φ : am_Q → Prop} {D : Nat} {M : am_M} {h : am_H} {l : am_L} (c : hp_C cst strs D) (hM : m_P[218]? = some M) (hD : (2 : Int) ≤ (D : Int) + 1) (hy : ly_hy m_tt ly_TH h) (m z i x : Int) (b0 : 0 ≤ m) (t0 : m ≤ 99) (b1 : 0 ≤ z) (t1 : z ≤ 4) (b2 : 1 ≤ i) (t2 : i ≤ 4) (b3 : (-2147483648) ≤ x) (t3 : x ≤ 2147483647) (f0 : 0 ≤ (m - x)) (k0 : ly_hv cst h 14080 0 = some (z)) (k1 : ly_hv cst h 14336 (i - 1) = some (x)) (l0 : hp_a l 0 71) (l1 : hp_i l 1 (m)) (l2 : hp_i l 2 (i)) (e0 : ∀ (l' : am_L) (h' : am_H) (y0 : Int32) (y1 : Int32), y0.toInt = (m) → y1.toInt = (i) → ly_hy m_tt ly_TH h' → ly_fr cst [] h h' → h.length ≤ h'.length → ly_hv cst h' 14080 0 = some (z) → hp_a l' 0 71 → hp_i l' 1 (m) → hp_i l' 2 (i) → hp_F cst strs Φ D M 58 l' [.int y0, .int y1, .ref 72] h') : hp_F cst strs Φ D M 16 l [] h := by
  refine hp_arc c hM pv4_k hD [m, z, i, x] rfl hy (hp_Bc (z := m) rfl b0 t0 (hp_Bc (z := z) rfl b1 t1 (hp_Bc (z := i) rfl b2 t2 (hp_Bc (z := x) rfl b3 t3 hp_Bn)))) (hp_Fc (z := (0 + (1 * m + ((-1) * x + 0)))) rfl (by omega) hp_Fn) (hp_Kc (zi := (0 + 0)) (zv := (0 + (1 * z + 0))) k0 rfl rfl (by omega) (by omega) (hp_Kc (zi := ((-1) + (1 * i + 0))) (zv := (0 + (1 * x + 0))) k1 rfl rfl (by omega) (by omega) hp_Kn)) (hp_La l0 (hp_Li (z := (0 + (1 * m + 0))) l1 rfl (by omega) (hp_Li (z := (0 + (1 * i + 0))) l2 rfl (by omega) hp_Ln))) trivial ?_ ?_
  · intro p hp ys l' st' h' hys a1 a2 a3 gZ gL gS
    rcases List.mem_cons.mp hp with rfl | hp
    · obtain rfl := hp_y0 hys
      obtain ⟨y0, t0, rfl, q0, g0⟩ := hp_gSi (z := (0 + (1 * m + 0))) gS rfl
      obtain ⟨y1, t1, rfl, q1, g1⟩ := hp_gSi (z := (0 + (1 * i + 0))) g0 rfl
      obtain ⟨t2, rfl, g2⟩ := hp_gSa g1 (by decide)
      cases hp_gSn g2
      exact e0 l' h' y0 y1 (by omega) (by omega) a1 a2 a3 (hp_gK (zi := (0 + 0)) (zv := (0 + (1 * z + 0))) gZ.2.2.2 (List.mem_of_getElem? (i := 0) rfl) rfl rfl (by omega) (by omega)) (hp_gLa gL (List.mem_of_getElem? (i := 0) rfl) (by decide)) (hp_gLi (z := (0 + (1 * m + 0))) gL (List.mem_of_getElem? (i := 1) rfl) rfl (by omega)) (hp_gLi (z := (0 + (1 * i + 0))) gL (List.mem_of_getElem? (i := 2) rfl) rfl (by omega))
    cases hp
  · intro p hp ys v h' hys a1 a2 a3 gZ gS
    cases hp
theorem pv5_k : hp_chk 218 16 2 [(0, 0, 99), (1, 0, 4)] [] [(0, .inr (.inr (.inl (some 71)))), (1, .inl (0, [(0, 1)])), (2, .inl (0, []))] [] [(14080, (0, []), (0, [(1, 1)]))] [] 2 [(58, ([], 2, [(0, 0, 99), (1, 0, 4)], [], [(0, .inr (.inr (.inl (some 71))))], [.inl (0, [(0, 1)]), .inl (0, []), .inr (.inr (.inl (some 72)))], [(14080, (0, []), (0, [(1, 1)]))]))] [] = true := by decide +kernel
theorem pv5 {cst : am_K} {strs : List Nat} {Φ : am_Q → Prop} {D : Nat} {M : am_M} {h : am_H} {l : am_L} (c : hp_C cst strs D) (hM : m_P[218]? = some M) (hD : (2 : Int) ≤ (D : Int) + 1) (hy : ly_hy m_tt ly_TH h) (m z : Int) (b0 : 0 ≤ m) (t0 : m ≤ 99) (b1 : 0 ≤ z) (t1 : z ≤ 4) (k0 : ly_hv cst h 14080 0 = some (z)) (l0 : hp_a l 0 71) (l1 : hp_i l 1 (m)) (l2 : hp_i l 2 0) (e0 : ∀ (l' : am_L) (h' : am_H) (y0 : Int32) (y1 : Int32), y0.toInt = (m) → y1.toInt = 0 → ly_hy m_tt ly_TH h' → ly_fr cst [] h h' → h.length ≤ h'.length → ly_hv cst h' 14080 0 = some (z) → hp_a l' 0 71 → hp_F cst strs Φ D M 58 l' [.int y0, .int y1, .ref 72] h') : hp_F cst strs Φ D M 16 l [] h := by
  refine hp_arc c hM pv5_k hD [m, z] rfl hy (hp_Bc (z := m) rfl b0 t0 (hp_Bc (z := z) rfl b1 t1 hp_Bn)) hp_Fn (hp_Kc (zi := (0 + 0)) (zv := (0 + (1 * z + 0))) k0 rfl rfl (by omega) (by omega) hp_Kn) (hp_La l0 (hp_Li (z := (0 + (1 * m + 0))) l1 rfl (by omega) (hp_Li (z := (0 + 0)) l2 rfl (by omega) hp_Ln))) trivial ?_ ?_
  · intro p hp ys l' st' h' hys a1 a2 a3 gZ gL gS
    rcases List.mem_cons.mp hp with rfl | hp
    · obtain rfl := hp_y0 hys
      obtain ⟨y0, t0, rfl, q0, g0⟩ := hp_gSi (z := (0 + (1 * m + 0))) gS rfl
      obtain ⟨y1, t1, rfl, q1, g1⟩ := hp_gSi (z := (0 + 0)) g0 rfl
      obtain ⟨t2, rfl, g2⟩ := hp_gSa g1 (by decide)
      cases hp_gSn g2
      exact e0 l' h' y0 y1 (by omega) (by omega) a1 a2 a3 (hp_gK (zi := (0 + 0)) (zv := (0 + (1 * z + 0))) gZ.2.2.2 (List.mem_of_getElem? (i := 0) rfl) rfl rfl (by omega) (by omega)) (hp_gLa gL (List.mem_of_getElem? (i := 0) rfl) (by decide))
    cases hp
  · intro p hp ys v h' hys a1 a2 a3 gZ gS
    cases hp
theorem pv6_k : hp_chk 218 59 1 [(0, 0, 4)] [] [(0, .inr (.inr (.inl (some 71))))] [] [(14080, (0, []), (0, [(0, 1)]))] [14080, 14083] 2 [] [([], 1, [(0, 0, 4)], [], [], [.inl (1, [(0, 1)])], [(14080, (0, []), (1, [(0, 1)]))])] = true := by decide +kernel
theorem pv6 {cst : am_K} {strs : List Nat} {Φ : am_Q → Prop} {D : Nat} {M : am_M} {h : am_H} {l : am_L} (c : hp_C cst strs D) (hM : m_P[218]? = some M) (hD : (2 : Int) ≤ (D : Int) + 1) (hy : ly_hy m_tt ly_TH h) (z : Int) (b0 : 0 ≤ z) (t0 : z ≤ 4) (k0 : ly_hv cst h 14080 0 = some (z)) (l0 : hp_a l 0 71) (r0 : ∀ (h' : am_H) (y0 : Int32), y0.toInt = (z + 1) → ly_hy m_tt ly_TH h' → ly_fr cst [14080, 14083] h h' → h.length ≤ h'.length → ly_hv cst h' 14080 0 = some (z + 1) → Φ (some (.int y0), h', 0, 0)) : hp_F cst strs Φ D M 59 l [] h := by
  refine hp_arc c hM pv6_k hD [z] rfl hy (hp_Bc (z := z) rfl b0 t0 hp_Bn) hp_Fn (hp_Kc (zi := (0 + 0)) (zv := (0 + (1 * z + 0))) k0 rfl rfl (by omega) (by omega) hp_Kn) (hp_La l0 hp_Ln) trivial ?_ ?_
  · intro p hp ys l' st' h' hys a1 a2 a3 gZ gL gS
    cases hp
  · intro p hp ys v h' hys a1 a2 a3 gZ gS
    rcases List.mem_cons.mp hp with rfl | hp
    · obtain rfl := hp_y0 hys
      cases v with
      | none => cases gS
      | some w =>
        obtain ⟨y0, t0, s0, q0, -⟩ := hp_gSi (z := (1 + (1 * z + 0))) gS rfl
        cases s0
        exact r0 h' y0 (by omega) a1 a2 a3 (hp_gK (zi := (0 + 0)) (zv := (1 + (1 * z + 0))) gZ.2.2.2 (List.mem_of_getElem? (i := 0) rfl) rfl rfl (by omega) (by omega))
    cases hp
theorem pw0_k : hp_chk 216 0 2 [(0, (-2147483648), (-1)), (1, 0, 100)] [] [(0, .inr (.inr (.inl (some 16)))), (1, .inl (0, [(0, 1)]))] [] [(7170, (0, []), (0, [(1, 1)]))] [] 4 [] [([], 2, [(0, (-2147483648), (-1)), (1, 0, 100)], [], [], [.inl ((-2), [])], [])] = true := by decide +kernel
theorem pw0 {cst : am_K} {strs : List Nat} {Φ : am_Q → Prop} {D : Nat} {M : am_M} {h : am_H} {l : am_L} (c : hp_C cst strs D) (hM : m_P[216]? = some M) (hD : (4 : Int) ≤ (D : Int) + 1) (hy : ly_hy m_tt ly_TH h) (m s : Int) (b0 : (-2147483648) ≤ m) (t0 : m ≤ (-1)) (b1 : 0 ≤ s) (t1 : s ≤ 100) (k0 : ly_hv cst h 7170 0 = some (s)) (l0 : hp_a l 0 16) (l1 : hp_i l 1 (m)) (r0 : ∀ (h' : am_H) (y0 : Int32), y0.toInt = (-2) → ly_hy m_tt ly_TH h' → ly_fr cst [] h h' → h.length ≤ h'.length → Φ (some (.int y0), h', 0, 0)) : hp_F cst strs Φ D M 0 l [] h := by
  refine hp_arc c hM pw0_k hD [m, s] rfl hy (hp_Bc (z := m) rfl b0 t0 (hp_Bc (z := s) rfl b1 t1 hp_Bn)) hp_Fn (hp_Kc (zi := (0 + 0)) (zv := (0 + (1 * s + 0))) k0 rfl rfl (by omega) (by omega) hp_Kn) (hp_La l0 (hp_Li (z := (0 + (1 * m + 0))) l1 rfl (by omega) hp_Ln)) trivial ?_ ?_
  · intro p hp ys l' st' h' hys a1 a2 a3 gZ gL gS
    cases hp
  · intro p hp ys v h' hys a1 a2 a3 gZ gS
    rcases List.mem_cons.mp hp with rfl | hp
    · obtain rfl := hp_y0 hys
      cases v with
      | none => cases gS
      | some w =>
        obtain ⟨y0, t0, s0, q0, -⟩ := hp_gSi (z := ((-2) + 0)) gS rfl
        cases s0
        exact r0 h' y0 (by omega) a1 a2 a3
    cases hp
theorem pw1_k : hp_chk 216 0 2 [(0, 0, 2147483647), (1, 0, 100)] [(0, [(0, 1), (1, (-1))])] [(0, .inr (.inr (.inl (some 16)))), (1, .inl (0, [(0, 1)]))] [] [(7170, (0, []), (0, [(1, 1)]))] [] 4 [] [([], 2, [(0, 0, 2147483647), (1, 0, 100)], [], [], [.inl ((-2), [])], [])] = true := by decide +kernel
theorem pw1 {cst : am_K} {strs : List Nat} {Φ : am_Q → Prop} {D : Nat} {M : am_M} {h : am_H} {l : am_L} (c : hp_C cst strs D) (hM : m_P[216]? = some M) (hD : (4 : Int) ≤ (D : Int) + 1) (hy : ly_hy m_tt ly_TH h) (m s : Int) (b0 : 0 ≤ m) (t0 : m ≤ 2147483647) (b1 : 0 ≤ s) (t1 : s ≤ 100) (f0 : 0 ≤ (m - s)) (k0 : ly_hv cst h 7170 0 = some (s)) (l0 : hp_a l 0 16) (l1 : hp_i l 1 (m)) (r0 : ∀ (h' : am_H) (y0 : Int32), y0.toInt = (-2) → ly_hy m_tt ly_TH h' → ly_fr cst [] h h' → h.length ≤ h'.length → Φ (some (.int y0), h', 0, 0)) : hp_F cst strs Φ D M 0 l [] h := by
  refine hp_arc c hM pw1_k hD [m, s] rfl hy (hp_Bc (z := m) rfl b0 t0 (hp_Bc (z := s) rfl b1 t1 hp_Bn)) (hp_Fc (z := (0 + (1 * m + ((-1) * s + 0)))) rfl (by omega) hp_Fn) (hp_Kc (zi := (0 + 0)) (zv := (0 + (1 * s + 0))) k0 rfl rfl (by omega) (by omega) hp_Kn) (hp_La l0 (hp_Li (z := (0 + (1 * m + 0))) l1 rfl (by omega) hp_Ln)) trivial ?_ ?_
  · intro p hp ys l' st' h' hys a1 a2 a3 gZ gL gS
    cases hp
  · intro p hp ys v h' hys a1 a2 a3 gZ gS
    rcases List.mem_cons.mp hp with rfl | hp
    · obtain rfl := hp_y0 hys
      cases v with
      | none => cases gS
      | some w =>
        obtain ⟨y0, t0, s0, q0, -⟩ := hp_gSi (z := ((-2) + 0)) gS rfl
        cases s0
        exact r0 h' y0 (by omega) a1 a2 a3
    cases hp
theorem pw2_k : hp_chk 216 0 2 [(0, 0, 99), (1, 0, 100)] [((-1), [(0, (-1)), (1, 1)])] [(0, .inr (.inr (.inl (some 16)))), (1, .inl (0, [(0, 1)]))] [] [(7170, (0, []), (0, [(1, 1)])), (7424, (0, [(0, 1)]), (1, []))] [] 4 [(19, ([], 2, [(0, 0, 99), (1, 0, 100)], [], [(0, .inr (.inr (.inl (some 16)))), (1, .inl (0, [(0, 1)]))], [.inl (0, [(0, 1)]), .inr (.inr (.inl (some 71)))], []))] [] = true := by decide +kernel
theorem pw2 {cst : am_K} {strs : List Nat} {Φ : am_Q → Prop} {D : Nat} {M : am_M} {h : am_H} {l : am_L} (c : hp_C cst strs D) (hM : m_P[216]? = some M) (hD : (4 : Int) ≤ (D : Int) + 1) (hy : ly_hy m_tt ly_TH h) (m s : Int) (b0 : 0 ≤ m) (t0 : m ≤ 99) (b1 : 0 ≤ s) (t1 : s ≤ 100) (f0 : 0 ≤ (s - m - 1)) (k0 : ly_hv cst h 7170 0 = some (s)) (k1 : ly_hv cst h 7424 (m) = some 1) (l0 : hp_a l 0 16) (l1 : hp_i l 1 (m)) (e0 : ∀ (l' : am_L) (h' : am_H) (y0 : Int32), y0.toInt = (m) → ly_hy m_tt ly_TH h' → ly_fr cst [] h h' → h.length ≤ h'.length → hp_a l' 0 16 → hp_i l' 1 (m) → hp_F cst strs Φ D M 19 l' [.int y0, .ref 71] h') : hp_F cst strs Φ D M 0 l [] h := by
  refine hp_arc c hM pw2_k hD [m, s] rfl hy (hp_Bc (z := m) rfl b0 t0 (hp_Bc (z := s) rfl b1 t1 hp_Bn)) (hp_Fc (z := ((-1) + ((-1) * m + (1 * s + 0)))) rfl (by omega) hp_Fn) (hp_Kc (zi := (0 + 0)) (zv := (0 + (1 * s + 0))) k0 rfl rfl (by omega) (by omega) (hp_Kc (zi := (0 + (1 * m + 0))) (zv := (1 + 0)) k1 rfl rfl (by omega) (by omega) hp_Kn)) (hp_La l0 (hp_Li (z := (0 + (1 * m + 0))) l1 rfl (by omega) hp_Ln)) trivial ?_ ?_
  · intro p hp ys l' st' h' hys a1 a2 a3 gZ gL gS
    rcases List.mem_cons.mp hp with rfl | hp
    · obtain rfl := hp_y0 hys
      obtain ⟨y0, t0, rfl, q0, g0⟩ := hp_gSi (z := (0 + (1 * m + 0))) gS rfl
      obtain ⟨t1, rfl, g1⟩ := hp_gSa g0 (by decide)
      cases hp_gSn g1
      exact e0 l' h' y0 (by omega) a1 a2 a3 (hp_gLa gL (List.mem_of_getElem? (i := 0) rfl) (by decide)) (hp_gLi (z := (0 + (1 * m + 0))) gL (List.mem_of_getElem? (i := 1) rfl) rfl (by omega))
    cases hp
  · intro p hp ys v h' hys a1 a2 a3 gZ gS
    cases hp
theorem pw3_k : hp_chk 216 22 1 [(0, 0, 99)] [] [(0, .inr (.inr (.inl (some 16)))), (1, .inl (0, [(0, 1)]))] [.inl (1, [])] [] [] 2 [] [([], 1, [(0, 0, 99)], [], [], [.inl ((-4), [])], [])] = true := by decide +kernel
theorem pw3 {cst : am_K} {strs : List Nat} {Φ : am_Q → Prop} {D : Nat} {M : am_M} {h : am_H} {l : am_L} (c : hp_C cst strs D) (hM : m_P[216]? = some M) (hD : (2 : Int) ≤ (D : Int) + 1) (hy : ly_hy m_tt ly_TH h) (m : Int) (x0 : Int32) (hx0 : x0.toInt = 1) (b0 : 0 ≤ m) (t0 : m ≤ 99) (l0 : hp_a l 0 16) (l1 : hp_i l 1 (m)) (r0 : ∀ (h' : am_H) (y0 : Int32), y0.toInt = (-4) → ly_hy m_tt ly_TH h' → ly_fr cst [] h h' → h.length ≤ h'.length → Φ (some (.int y0), h', 0, 0)) : hp_F cst strs Φ D M 22 l [.int x0] h := by
  refine hp_arc c hM pw3_k hD [m] rfl hy (hp_Bc (z := m) rfl b0 t0 hp_Bn) hp_Fn hp_Kn (hp_La l0 (hp_Li (z := (0 + (1 * m + 0))) l1 rfl (by omega) hp_Ln)) (hp_Si (z := (1 + 0)) rfl (by omega) trivial) ?_ ?_
  · intro p hp ys l' st' h' hys a1 a2 a3 gZ gL gS
    cases hp
  · intro p hp ys v h' hys a1 a2 a3 gZ gS
    rcases List.mem_cons.mp hp with rfl | hp
    · obtain rfl := hp_y0 hys
      cases v with
      | none => cases gS
      | some w =>
        obtain ⟨y0, t0, s0, q0, -⟩ := hp_gSi (z := ((-4) + 0)) gS rfl
        cases s0
        exact r0 h' y0 (by omega) a1 a2 a3
    cases hp
theorem pw4_k : hp_chk 216 22 1 [(0, 0, 99)] [] [(0, .inr (.inr (.inl (some 16)))), (1, .inl (0, [(0, 1)]))] [.inl (0, [])] [] [] 2 [(35, ([], 1, [(0, 0, 99)], [], [(0, .inr (.inr (.inl (some 16))))], [.inl (0, [(0, 1)]), .inr (.inr (.inl (some 71)))], []))] [] = true := by decide +kernel
theorem pw4 {cst : am_K} {strs : List Nat} {Φ : am_Q → Prop} {D : Nat} {M : am_M} {h : am_H} {l : am_L} (c : hp_C cst strs D) (hM : m_P[216]? = some M) (hD : (2 : Int) ≤ (D : Int) + 1) (hy : ly_hy m_tt ly_TH h) (m : Int) (x0 : Int32) (hx0 : x0.toInt = 0) (b0 : 0 ≤ m) (t0 : m ≤ 99) (l0 : hp_a l 0 16) (l1 : hp_i l 1 (m)) (e0 : ∀ (l' : am_L) (h' : am_H) (y0 : Int32), y0.toInt = (m) → ly_hy m_tt ly_TH h' → ly_fr cst [] h h' → h.length ≤ h'.length → hp_a l' 0 16 → hp_F cst strs Φ D M 35 l' [.int y0, .ref 71] h') : hp_F cst strs Φ D M 22 l [.int x0] h := by
  refine hp_arc c hM pw4_k hD [m] rfl hy (hp_Bc (z := m) rfl b0 t0 hp_Bn) hp_Fn hp_Kn (hp_La l0 (hp_Li (z := (0 + (1 * m + 0))) l1 rfl (by omega) hp_Ln)) (hp_Si (z := (0 + 0)) rfl (by omega) trivial) ?_ ?_
  · intro p hp ys l' st' h' hys a1 a2 a3 gZ gL gS
    rcases List.mem_cons.mp hp with rfl | hp
    · obtain rfl := hp_y0 hys
      obtain ⟨y0, t0, rfl, q0, g0⟩ := hp_gSi (z := (0 + (1 * m + 0))) gS rfl
      obtain ⟨t1, rfl, g1⟩ := hp_gSa g0 (by decide)
      cases hp_gSn g1
      exact e0 l' h' y0 (by omega) a1 a2 a3 (hp_gLa gL (List.mem_of_getElem? (i := 0) rfl) (by decide))
    cases hp
  · intro p hp ys v h' hys a1 a2 a3 gZ gS
    cases hp
theorem pw5_k : hp_chk 216 38 1 [(0, (-2147483648), 2147483647)] [] [(0, .inr (.inr (.inl (some 16))))] [.inl (0, [(0, 1)])] [] [] 2 [] [([], 1, [(0, (-2147483648), 2147483647)], [], [], [.inl (0, [(0, 1)])], [])] = true := by decide +kernel
theorem pw5 {cst : am_K} {strs : List Nat} {Φ : am_Q → Prop} {D : Nat} {M : am_M} {h : am_H} {l : am_L} (c : hp_C cst strs D) (hM : m_P[216]? = some M) (hD : (2 : Int) ≤ (D : Int) + 1) (hy : ly_hy m_tt ly_TH h) (a : Int) (x0 : Int32) (hx0 : x0.toInt = (a)) (b0 : (-2147483648) ≤ a) (t0 : a ≤ 2147483647) (l0 : hp_a l 0 16) (r0 : ∀ (h' : am_H) (y0 : Int32), y0.toInt = (a) → ly_hy m_tt ly_TH h' → ly_fr cst [] h h' → h.length ≤ h'.length → Φ (some (.int y0), h', 0, 0)) : hp_F cst strs Φ D M 38 l [.int x0] h := by
  refine hp_arc c hM pw5_k hD [a] rfl hy (hp_Bc (z := a) rfl b0 t0 hp_Bn) hp_Fn hp_Kn (hp_La l0 hp_Ln) (hp_Si (z := (0 + (1 * a + 0))) rfl (by omega) trivial) ?_ ?_
  · intro p hp ys l' st' h' hys a1 a2 a3 gZ gL gS
    cases hp
  · intro p hp ys v h' hys a1 a2 a3 gZ gS
    rcases List.mem_cons.mp hp with rfl | hp
    · obtain rfl := hp_y0 hys
      cases v with
      | none => cases gS
      | some w =>
        obtain ⟨y0, t0, s0, q0, -⟩ := hp_gSi (z := (0 + (1 * a + 0))) gS rfl
        cases s0
        exact r0 h' y0 (by omega) a1 a2 a3
    cases hp
theorem px0_k : hp_chk 393 0 2 [(0, (-2147483648), (-1)), (1, 0, 100)] [] [(0, .inr (.inr (.inl (some 94)))), (1, .inl (0, [(0, 1)]))] [] [(20024, (0, []), (0, [(1, 1)]))] [] 4 [] [([], 2, [(0, (-2147483648), (-1)), (1, 0, 100)], [], [], [.inl ((-2), [])], [])] = true := by decide +kernel
theorem px0 {cst : am_K} {strs : List Nat} {Φ : am_Q → Prop} {D : Nat} {M : am_M} {h : am_H} {l : am_L} (c : hp_C cst strs D) (hM : m_P[393]? = some M) (hD : (4 : Int) ≤ (D : Int) + 1) (hy : ly_hy m_tt ly_TH h) (m s : Int) (b0 : (-2147483648) ≤ m) (t0 : m ≤ (-1)) (b1 : 0 ≤ s) (t1 : s ≤ 100) (k0 : ly_hv cst h 20024 0 = some (s)) (l0 : hp_a l 0 94) (l1 : hp_i l 1 (m)) (r0 : ∀ (h' : am_H) (y0 : Int32), y0.toInt = (-2) → ly_hy m_tt ly_TH h' → ly_fr cst [] h h' → h.length ≤ h'.length → Φ (some (.int y0), h', 0, 0)) : hp_F cst strs Φ D M 0 l [] h := by
  refine hp_arc c hM px0_k hD [m, s] rfl hy (hp_Bc (z := m) rfl b0 t0 (hp_Bc (z := s) rfl b1 t1 hp_Bn)) hp_Fn (hp_Kc (zi := (0 + 0)) (zv := (0 + (1 * s + 0))) k0 rfl rfl (by omega) (by omega) hp_Kn) (hp_La l0 (hp_Li (z := (0 + (1 * m + 0))) l1 rfl (by omega) hp_Ln)) trivial ?_ ?_
  · intro p hp ys l' st' h' hys a1 a2 a3 gZ gL gS
    cases hp
  · intro p hp ys v h' hys a1 a2 a3 gZ gS
    rcases List.mem_cons.mp hp with rfl | hp
    · obtain rfl := hp_y0 hys
      cases v with
      | none => cases gS
      | some w =>
        obtain ⟨y0, t0, s0, q0, -⟩ := hp_gSi (z := ((-2) + 0)) gS rfl
        cases s0
        exact r0 h' y0 (by omega) a1 a2 a3
    cases hp
theorem px1_k : hp_chk 393 0 2 [(0, 0, 2147483647), (1, 0, 100)] [(0, [(0, 1), (1, (-1))])] [(0, .inr (.inr (.inl (some 94)))), (1, .inl (0, [(0, 1)]))] [] [(20024, (0, []), (0, [(1, 1)]))] [] 4 [] [([], 2, [(0, 0, 2147483647), (1, 0, 100)], [], [], [.inl ((-2), [])], [])] = true := by decide +kernel
theorem px1 {cst : am_K} {strs : List Nat} {Φ : am_Q → Prop} {D : Nat} {M : am_M} {h : am_H} {l : am_L} (c : hp_C cst strs D) (hM : m_P[393]? = some M) (hD : (4 : Int) ≤ (D : Int) + 1) (hy : ly_hy m_tt ly_TH h) (m s : Int) (b0 : 0 ≤ m) (t0 : m ≤ 2147483647) (b1 : 0 ≤ s) (t1 : s ≤ 100) (f0 : 0 ≤ (m - s)) (k0 : ly_hv cst h 20024 0 = some (s)) (l0 : hp_a l 0 94) (l1 : hp_i l 1 (m)) (r0 : ∀ (h' : am_H) (y0 : Int32), y0.toInt = (-2) → ly_hy m_tt ly_TH h' → ly_fr cst [] h h' → h.length ≤ h'.length → Φ (some (.int y0), h', 0, 0)) : hp_F cst strs Φ D M 0 l [] h := by
  refine hp_arc c hM px1_k hD [m, s] rfl hy (hp_Bc (z := m) rfl b0 t0 (hp_Bc (z := s) rfl b1 t1 hp_Bn)) (hp_Fc (z := (0 + (1 * m + ((-1) * s + 0)))) rfl (by omega) hp_Fn) (hp_Kc (zi := (0 + 0)) (zv := (0 + (1 * s + 0))) k0 rfl rfl (by omega) (by omega) hp_Kn) (hp_La l0 (hp_Li (z := (0 + (1 * m + 0))) l1 rfl (by omega) hp_Ln)) trivial ?_ ?_
  · intro p hp ys l' st' h' hys a1 a2 a3 gZ gL gS
    cases hp
  · intro p hp ys v h' hys a1 a2 a3 gZ gS
    rcases List.mem_cons.mp hp with rfl | hp
    · obtain rfl := hp_y0 hys
      cases v with
      | none => cases gS
      | some w =>
        obtain ⟨y0, t0, s0, q0, -⟩ := hp_gSi (z := ((-2) + 0)) gS rfl
        cases s0
        exact r0 h' y0 (by omega) a1 a2 a3
    cases hp
theorem px2_k : hp_chk 393 0 2 [(0, 0, 99), (1, 0, 100)] [((-1), [(0, (-1)), (1, 1)])] [(0, .inr (.inr (.inl (some 94)))), (1, .inl (0, [(0, 1)]))] [] [(20024, (0, []), (0, [(1, 1)]))] [] 4 [(13, ([], 2, [(0, 0, 99), (1, 0, 100)], [], [(0, .inr (.inr (.inl (some 94)))), (1, .inl (0, [(0, 1)])), (2, .inl (0, []))], [], []))] [] = true := by decide +kernel
theorem px2 {cst : am_K} {strs : List Nat} {Φ : am_Q → Prop} {D : Nat} {M : am_M} {h : am_H} {l : am_L} (c : hp_C cst strs D) (hM : m_P[393]? = some M) (hD : (4 : Int) ≤ (D : Int) + 1) (hy : ly_hy m_tt ly_TH h) (m s : Int) (b0 : 0 ≤ m) (t0 : m ≤ 99) (b1 : 0 ≤ s) (t1 : s ≤ 100) (f0 : 0 ≤ (s - m - 1)) (k0 : ly_hv cst h 20024 0 = some (s)) (l0 : hp_a l 0 94) (l1 : hp_i l 1 (m)) (e0 : ∀ (l' : am_L) (h' : am_H), ly_hy m_tt ly_TH h' → ly_fr cst [] h h' → h.length ≤ h'.length → hp_a l' 0 94 → hp_i l' 1 (m) → hp_i l' 2 0 → hp_F cst strs Φ D M 13 l' [] h') : hp_F cst strs Φ D M 0 l [] h := by
  refine hp_arc c hM px2_k hD [m, s] rfl hy (hp_Bc (z := m) rfl b0 t0 (hp_Bc (z := s) rfl b1 t1 hp_Bn)) (hp_Fc (z := ((-1) + ((-1) * m + (1 * s + 0)))) rfl (by omega) hp_Fn) (hp_Kc (zi := (0 + 0)) (zv := (0 + (1 * s + 0))) k0 rfl rfl (by omega) (by omega) hp_Kn) (hp_La l0 (hp_Li (z := (0 + (1 * m + 0))) l1 rfl (by omega) hp_Ln)) trivial ?_ ?_
  · intro p hp ys l' st' h' hys a1 a2 a3 gZ gL gS
    rcases List.mem_cons.mp hp with rfl | hp
    · obtain rfl := hp_y0 hys
      cases hp_gSn gS
      exact e0 l' h' a1 a2 a3 (hp_gLa gL (List.mem_of_getElem? (i := 0) rfl) (by decide)) (hp_gLi (z := (0 + (1 * m + 0))) gL (List.mem_of_getElem? (i := 1) rfl) rfl (by omega)) (hp_gLi (z := (0 + 0)) gL (List.mem_of_getElem? (i := 2) rfl) rfl (by omega))
    cases hp
  · intro p hp ys v h' hys a1 a2 a3 gZ gS
    cases hp
theorem px3_k : hp_chk 393 13 3 [(0, 0, 99), (1, 0, 5), (2, 0, 4)] [((-1), [(1, 1), (2, (-1))])] [(0, .inr (.inr (.inl (some 94)))), (1, .inl (0, [(0, 1)])), (2, .inl (0, [(2, 1)]))] [] [(20080, (0, []), (0, [(1, 1)])), (40960, (0, [(2, 1)]), (0, [(0, 1)]))] [] 2 [] [([], 3, [(0, 0, 99), (1, 0, 5), (2, 0, 4)], [], [], [.inl ((-4), [])], [])] = true := by decide +kernel
theorem px3 {cst : am_K} {strs : List Nat} {Φ : am_Q → Prop} {D : Nat} {M : am_M} {h : am_H} {l : am_L} (c : hp_C cst strs D) (hM : m_P[393]? = some M) (hD : (2 : Int) ≤ (D : Int) + 1) (hy : ly_hy m_tt ly_TH h) (m z i : Int) (b0 : 0 ≤ m) (t0 : m ≤ 99) (b1 : 0 ≤ z) (t1 : z ≤ 5) (b2 : 0 ≤ i) (t2 : i ≤ 4) (f0 : 0 ≤ (z - i - 1)) (k0 : ly_hv cst h 20080 0 = some (z)) (k1 : ly_hv cst h 40960 (i) = some (m)) (l0 : hp_a l 0 94) (l1 : hp_i l 1 (m)) (l2 : hp_i l 2 (i)) (r0 : ∀ (h' : am_H) (y0 : Int32), y0.toInt = (-4) → ly_hy m_tt ly_TH h' → ly_fr cst [] h h' → h.length ≤ h'.length → Φ (some (.int y0), h', 0, 0)) : hp_F cst strs Φ D M 13 l [] h := by
  refine hp_arc c hM px3_k hD [m, z, i] rfl hy (hp_Bc (z := m) rfl b0 t0 (hp_Bc (z := z) rfl b1 t1 (hp_Bc (z := i) rfl b2 t2 hp_Bn))) (hp_Fc (z := ((-1) + (1 * z + ((-1) * i + 0)))) rfl (by omega) hp_Fn) (hp_Kc (zi := (0 + 0)) (zv := (0 + (1 * z + 0))) k0 rfl rfl (by omega) (by omega) (hp_Kc (zi := (0 + (1 * i + 0))) (zv := (0 + (1 * m + 0))) k1 rfl rfl (by omega) (by omega) hp_Kn)) (hp_La l0 (hp_Li (z := (0 + (1 * m + 0))) l1 rfl (by omega) (hp_Li (z := (0 + (1 * i + 0))) l2 rfl (by omega) hp_Ln))) trivial ?_ ?_
  · intro p hp ys l' st' h' hys a1 a2 a3 gZ gL gS
    cases hp
  · intro p hp ys v h' hys a1 a2 a3 gZ gS
    rcases List.mem_cons.mp hp with rfl | hp
    · obtain rfl := hp_y0 hys
      cases v with
      | none => cases gS
      | some w =>
        obtain ⟨y0, t0, s0, q0, -⟩ := hp_gSi (z := ((-4) + 0)) gS rfl
        cases s0
        exact r0 h' y0 (by omega) a1 a2 a3
    cases hp
theorem px4_k : hp_chk 393 13 4 [(0, 0, 99), (1, 0, 5), (2, 0, 4), (3, (-2147483648), 2147483647)] [((-1), [(1, 1), (2, (-1))])] [(0, .inr (.inr (.inl (some 94)))), (1, .inl (0, [(0, 1)])), (2, .inl (0, [(2, 1)]))] [] [(20080, (0, []), (0, [(1, 1)])), (40960, (0, [(2, 1)]), (0, [(3, 1)])), (61000, (0, [(0, (-1)), (3, 1)]), (1, []))] [] 2 [(13, ([], 4, [(0, 0, 99), (1, 0, 5), (2, 0, 4), (3, (-2147483648), 2147483647)], [], [(0, .inr (.inr (.inl (some 94)))), (1, .inl (0, [(0, 1)])), (2, .inl (1, [(2, 1)]))], [], []))] [] = true := by decide +kernel
theorem px4 {cst : am_K} {strs : List Nat} {Φ : am_Q → Prop} {D : Nat} {M : am_M} {h : am_H} {l : am_L} (c : hp_C cst strs D) (hM : m_P[393]? = some M) (hD : (2 : Int) ≤ (D : Int) + 1) (hy : ly_hy m_tt ly_TH h) (m z i x : Int) (b0 : 0 ≤ m) (t0 : m ≤ 99) (b1 : 0 ≤ z) (t1 : z ≤ 5) (b2 : 0 ≤ i) (t2 : i ≤ 4) (b3 : (-2147483648) ≤ x) (t3 : x ≤ 2147483647) (f0 : 0 ≤ (z - i - 1)) (k0 : ly_hv cst h 20080 0 = some (z)) (k1 : ly_hv cst h 40960 (i) = some (x)) (k2 : ly_hv cst h 61000 (x - m) = some 1) (l0 : hp_a l 0 94) (l1 : hp_i l 1 (m)) (l2 : hp_i l 2 (i)) (e0 : ∀ (l' : am_L) (h' : am_H), ly_hy m_tt ly_TH h' → ly_fr cst [] h h' → h.length ≤ h'.length → hp_a l' 0 94 → hp_i l' 1 (m) → hp_i l' 2 (i + 1) → hp_F cst strs Φ D M 13 l' [] h') : hp_F cst strs Φ D M 13 l [] h := by
  refine hp_arc c hM px4_k hD [m, z, i, x] rfl hy (hp_Bc (z := m) rfl b0 t0 (hp_Bc (z := z) rfl b1 t1 (hp_Bc (z := i) rfl b2 t2 (hp_Bc (z := x) rfl b3 t3 hp_Bn)))) (hp_Fc (z := ((-1) + (1 * z + ((-1) * i + 0)))) rfl (by omega) hp_Fn) (hp_Kc (zi := (0 + 0)) (zv := (0 + (1 * z + 0))) k0 rfl rfl (by omega) (by omega) (hp_Kc (zi := (0 + (1 * i + 0))) (zv := (0 + (1 * x + 0))) k1 rfl rfl (by omega) (by omega) (hp_Kc (zi := (0 + ((-1) * m + (1 * x + 0)))) (zv := (1 + 0)) k2 rfl rfl (by omega) (by omega) hp_Kn))) (hp_La l0 (hp_Li (z := (0 + (1 * m + 0))) l1 rfl (by omega) (hp_Li (z := (0 + (1 * i + 0))) l2 rfl (by omega) hp_Ln))) trivial ?_ ?_
  · intro p hp ys l' st' h' hys a1 a2 a3 gZ gL gS
    rcases List.mem_cons.mp hp with rfl | hp
    · obtain rfl := hp_y0 hys
      cases hp_gSn gS
      exact e0 l' h' a1 a2 a3 (hp_gLa gL (List.mem_of_getElem? (i := 0) rfl) (by decide)) (hp_gLi (z := (0 + (1 * m + 0))) gL (List.mem_of_getElem? (i := 1) rfl) rfl (by omega)) (hp_gLi (z := (1 + (1 * i + 0))) gL (List.mem_of_getElem? (i := 2) rfl) rfl (by omega))
    cases hp
  · intro p hp ys v h' hys a1 a2 a3 gZ gS
    cases hp
theorem px5_k : hp_chk 393 13 1 [(0, 0, 99)] [] [(0, .inr (.inr (.inl (some 94)))), (1, .inl (0, [(0, 1)])), (2, .inl (5, []))] [] [(20080, (0, []), (5, []))] [] 2 [] [([], 1, [(0, 0, 99)], [], [], [.inl ((-3), [])], [(20080, (0, []), (5, []))])] = true := by decide +kernel
theorem px5 {cst : am_K} {strs : List Nat} {Φ : am_Q → Prop} {D : Nat} {M : am_M} {h : am_H} {l : am_L} (c : hp_C cst strs D) (hM : m_P[393]? = some M) (hD : (2 : Int) ≤ (D : Int) + 1) (hy : ly_hy m_tt ly_TH h) (m : Int) (b0 : 0 ≤ m) (t0 : m ≤ 99) (k0 : ly_hv cst h 20080 0 = some 5) (l0 : hp_a l 0 94) (l1 : hp_i l 1 (m)) (l2 : hp_i l 2 5) (r0 : ∀ (h' : am_H) (y0 : Int32), y0.toInt = (-3) → ly_hy m_tt ly_TH h' → ly_fr cst [] h h' → h.length ≤ h'.length → ly_hv cst h' 20080 0 = some 5 → Φ (some (.int y0), h', 0, 0)) : hp_F cst strs Φ D M 13 l [] h := by
  refine hp_arc c hM px5_k hD [m] rfl hy (hp_Bc (z := m) rfl b0 t0 hp_Bn) hp_Fn (hp_Kc (zi := (0 + 0)) (zv := (5 + 0)) k0 rfl rfl (by omega) (by omega) hp_Kn) (hp_La l0 (hp_Li (z := (0 + (1 * m + 0))) l1 rfl (by omega) (hp_Li (z := (5 + 0)) l2 rfl (by omega) hp_Ln))) trivial ?_ ?_
  · intro p hp ys l' st' h' hys a1 a2 a3 gZ gL gS
    cases hp
  · intro p hp ys v h' hys a1 a2 a3 gZ gS
    rcases List.mem_cons.mp hp with rfl | hp
    · obtain rfl := hp_y0 hys
      cases v with
      | none => cases gS
      | some w =>
        obtain ⟨y0, t0, s0, q0, -⟩ := hp_gSi (z := ((-3) + 0)) gS rfl
        cases s0
        exact r0 h' y0 (by omega) a1 a2 a3 (hp_gK (zi := (0 + 0)) (zv := (5 + 0)) gZ.2.2.2 (List.mem_of_getElem? (i := 0) rfl) rfl rfl (by omega) (by omega))
    cases hp
theorem px6_k : hp_chk 393 13 2 [(0, 0, 99), (1, 0, 4)] [] [(0, .inr (.inr (.inl (some 94)))), (1, .inl (0, [(0, 1)])), (2, .inl (0, [(1, 1)]))] [] [(20080, (0, []), (0, [(1, 1)]))] [] 2 [(56, ([], 2, [(0, 0, 99), (1, 0, 4)], [], [(0, .inr (.inr (.inl (some 94)))), (1, .inl (0, [(0, 1)])), (2, .inl (0, [(1, 1)]))], [], [(20080, (0, []), (0, [(1, 1)]))]))] [] = true := by decide +kernel
theorem px6 {cst : am_K} {strs : List Nat} {Φ : am_Q → Prop} {D : Nat} {M : am_M} {h : am_H} {l : am_L} (c : hp_C cst strs D) (hM : m_P[393]? = some M) (hD : (2 : Int) ≤ (D : Int) + 1) (hy : ly_hy m_tt ly_TH h) (m z : Int) (b0 : 0 ≤ m) (t0 : m ≤ 99) (b1 : 0 ≤ z) (t1 : z ≤ 4) (k0 : ly_hv cst h 20080 0 = some (z)) (l0 : hp_a l 0 94) (l1 : hp_i l 1 (m)) (l2 : hp_i l 2 (z)) (e0 : ∀ (l' : am_L) (h' : am_H), ly_hy m_tt ly_TH h' → ly_fr cst [] h h' → h.length ≤ h'.length → ly_hv cst h' 20080 0 = some (z) → hp_a l' 0 94 → hp_i l' 1 (m) → hp_i l' 2 (z) → hp_F cst strs Φ D M 56 l' [] h') : hp_F cst strs Φ D M 13 l [] h := by
  refine hp_arc c hM px6_k hD [m, z] rfl hy (hp_Bc (z := m) rfl b0 t0 (hp_Bc (z := z) rfl b1 t1 hp_Bn)) hp_Fn (hp_Kc (zi := (0 + 0)) (zv := (0 + (1 * z + 0))) k0 rfl rfl (by omega) (by omega) hp_Kn) (hp_La l0 (hp_Li (z := (0 + (1 * m + 0))) l1 rfl (by omega) (hp_Li (z := (0 + (1 * z + 0))) l2 rfl (by omega) hp_Ln))) trivial ?_ ?_
  · intro p hp ys l' st' h' hys a1 a2 a3 gZ gL gS
    rcases List.mem_cons.mp hp with rfl | hp
    · obtain rfl := hp_y0 hys
      cases hp_gSn gS
      exact e0 l' h' a1 a2 a3 (hp_gK (zi := (0 + 0)) (zv := (0 + (1 * z + 0))) gZ.2.2.2 (List.mem_of_getElem? (i := 0) rfl) rfl rfl (by omega) (by omega)) (hp_gLa gL (List.mem_of_getElem? (i := 0) rfl) (by decide)) (hp_gLi (z := (0 + (1 * m + 0))) gL (List.mem_of_getElem? (i := 1) rfl) rfl (by omega)) (hp_gLi (z := (0 + (1 * z + 0))) gL (List.mem_of_getElem? (i := 2) rfl) rfl (by omega))
    cases hp
  · intro p hp ys v h' hys a1 a2 a3 gZ gS
    cases hp
theorem px7_k : hp_chk 393 56 4 [(0, 0, 99), (1, 0, 4), (2, 1, 4), (3, (-2147483648), 2147483647)] [((-1), [(0, (-1)), (3, 1)])] [(0, .inr (.inr (.inl (some 94)))), (1, .inl (0, [(0, 1)])), (2, .inl (0, [(2, 1)]))] [] [(20080, (0, []), (0, [(1, 1)])), (40960, ((-1), [(2, 1)]), (0, [(3, 1)]))] [] 2 [(85, ([], 4, [(0, 0, 99), (1, 0, 4), (2, 1, 4), (3, (-2147483648), 2147483647)], [], [(0, .inr (.inr (.inl (some 94)))), (1, .inl (0, [(0, 1)])), (2, .inl (0, [(2, 1)]))], [.inl (0, [(3, 1)]), .inl (0, [(2, 1)]), .inr (.inr (.inl (some 176)))], [(20080, (0, []), (0, [(1, 1)]))]))] [] = true := by decide +kernel
theorem px7 {cst : am_K} {strs : List Nat} {Φ : am_Q → Prop} {D : Nat} {M : am_M} {h : am_H} {l : am_L} (c : hp_C cst strs D) (hM : m_P[393]? = some M) (hD : (2 : Int) ≤ (D : Int) + 1) (hy : ly_hy m_tt ly_TH h) (m z i x : Int) (b0 : 0 ≤ m) (t0 : m ≤ 99) (b1 : 0 ≤ z) (t1 : z ≤ 4) (b2 : 1 ≤ i) (t2 : i ≤ 4) (b3 : (-2147483648) ≤ x) (t3 : x ≤ 2147483647) (f0 : 0 ≤ (x - m - 1)) (k0 : ly_hv cst h 20080 0 = some (z)) (k1 : ly_hv cst h 40960 (i - 1) = some (x)) (l0 : hp_a l 0 94) (l1 : hp_i l 1 (m)) (l2 : hp_i l 2 (i)) (e0 : ∀ (l' : am_L) (h' : am_H) (y0 : Int32) (y1 : Int32), y0.toInt = (x) → y1.toInt = (i) → ly_hy m_tt ly_TH h' → ly_fr cst [] h h' → h.length ≤ h'.length → ly_hv cst h' 20080 0 = some (z) → hp_a l' 0 94 → hp_i l' 1 (m) → hp_i l' 2 (i) → hp_F cst strs Φ D M 85 l' [.int y0, .int y1, .ref 176] h') : hp_F cst strs Φ D M 56 l [] h := by
  refine hp_arc c hM px7_k hD [m, z, i, x] rfl hy (hp_Bc (z := m) rfl b0 t0 (hp_Bc (z := z) rfl b1 t1 (hp_Bc (z := i) rfl b2 t2 (hp_Bc (z := x) rfl b3 t3 hp_Bn)))) (hp_Fc (z := ((-1) + ((-1) * m + (1 * x + 0)))) rfl (by omega) hp_Fn) (hp_Kc (zi := (0 + 0)) (zv := (0 + (1 * z + 0))) k0 rfl rfl (by omega) (by omega) (hp_Kc (zi := ((-1) + (1 * i + 0))) (zv := (0 + (1 * x + 0))) k1 rfl rfl (by omega) (by omega) hp_Kn)) (hp_La l0 (hp_Li (z := (0 + (1 * m + 0))) l1 rfl (by omega) (hp_Li (z := (0 + (1 * i + 0))) l2 rfl (by omega) hp_Ln))) trivial ?_ ?_
  · intro p hp ys l' st' h' hys a1 a2 a3 gZ gL gS
    rcases List.mem_cons.mp hp with rfl | hp
    · obtain rfl := hp_y0 hys
      obtain ⟨y0, t0, rfl, q0, g0⟩ := hp_gSi (z := (0 + (1 * x + 0))) gS rfl
      obtain ⟨y1, t1, rfl, q1, g1⟩ := hp_gSi (z := (0 + (1 * i + 0))) g0 rfl
      obtain ⟨t2, rfl, g2⟩ := hp_gSa g1 (by decide)
      cases hp_gSn g2
      exact e0 l' h' y0 y1 (by omega) (by omega) a1 a2 a3 (hp_gK (zi := (0 + 0)) (zv := (0 + (1 * z + 0))) gZ.2.2.2 (List.mem_of_getElem? (i := 0) rfl) rfl rfl (by omega) (by omega)) (hp_gLa gL (List.mem_of_getElem? (i := 0) rfl) (by decide)) (hp_gLi (z := (0 + (1 * m + 0))) gL (List.mem_of_getElem? (i := 1) rfl) rfl (by omega)) (hp_gLi (z := (0 + (1 * i + 0))) gL (List.mem_of_getElem? (i := 2) rfl) rfl (by omega))
    cases hp
  · intro p hp ys v h' hys a1 a2 a3 gZ gS
    cases hp
theorem px8_k : hp_chk 393 86 3 [(0, 0, 99), (1, 0, 4), (2, 1, 4)] [] [(0, .inr (.inr (.inl (some 94)))), (1, .inl (0, [(0, 1)])), (2, .inl (0, [(2, 1)]))] [] [(20080, (0, []), (0, [(1, 1)]))] [] 2 [(56, ([], 3, [(0, 0, 99), (1, 0, 4), (2, 1, 4)], [], [(0, .inr (.inr (.inl (some 94)))), (1, .inl (0, [(0, 1)])), (2, .inl ((-1), [(2, 1)]))], [], [(20080, (0, []), (0, [(1, 1)]))]))] [] = true := by decide +kernel
theorem px8 {cst : am_K} {strs : List Nat} {Φ : am_Q → Prop} {D : Nat} {M : am_M} {h : am_H} {l : am_L} (c : hp_C cst strs D) (hM : m_P[393]? = some M) (hD : (2 : Int) ≤ (D : Int) + 1) (hy : ly_hy m_tt ly_TH h) (m z i : Int) (b0 : 0 ≤ m) (t0 : m ≤ 99) (b1 : 0 ≤ z) (t1 : z ≤ 4) (b2 : 1 ≤ i) (t2 : i ≤ 4) (k0 : ly_hv cst h 20080 0 = some (z)) (l0 : hp_a l 0 94) (l1 : hp_i l 1 (m)) (l2 : hp_i l 2 (i)) (e0 : ∀ (l' : am_L) (h' : am_H), ly_hy m_tt ly_TH h' → ly_fr cst [] h h' → h.length ≤ h'.length → ly_hv cst h' 20080 0 = some (z) → hp_a l' 0 94 → hp_i l' 1 (m) → hp_i l' 2 (i - 1) → hp_F cst strs Φ D M 56 l' [] h') : hp_F cst strs Φ D M 86 l [] h := by
  refine hp_arc c hM px8_k hD [m, z, i] rfl hy (hp_Bc (z := m) rfl b0 t0 (hp_Bc (z := z) rfl b1 t1 (hp_Bc (z := i) rfl b2 t2 hp_Bn))) hp_Fn (hp_Kc (zi := (0 + 0)) (zv := (0 + (1 * z + 0))) k0 rfl rfl (by omega) (by omega) hp_Kn) (hp_La l0 (hp_Li (z := (0 + (1 * m + 0))) l1 rfl (by omega) (hp_Li (z := (0 + (1 * i + 0))) l2 rfl (by omega) hp_Ln))) trivial ?_ ?_
  · intro p hp ys l' st' h' hys a1 a2 a3 gZ gL gS
    rcases List.mem_cons.mp hp with rfl | hp
    · obtain rfl := hp_y0 hys
      cases hp_gSn gS
      exact e0 l' h' a1 a2 a3 (hp_gK (zi := (0 + 0)) (zv := (0 + (1 * z + 0))) gZ.2.2.2 (List.mem_of_getElem? (i := 0) rfl) rfl rfl (by omega) (by omega)) (hp_gLa gL (List.mem_of_getElem? (i := 0) rfl) (by decide)) (hp_gLi (z := (0 + (1 * m + 0))) gL (List.mem_of_getElem? (i := 1) rfl) rfl (by omega)) (hp_gLi (z := ((-1) + (1 * i + 0))) gL (List.mem_of_getElem? (i := 2) rfl) rfl (by omega))
    cases hp
  · intro p hp ys v h' hys a1 a2 a3 gZ gS
    cases hp
theorem px9_k : hp_chk 393 56 4 [(0, 0, 99), (1, 0, 4), (2, 1, 4), (3, (-2147483648), 2147483647)] [(0, [(0, 1), (3, (-1))])] [(0, .inr (.inr (.inl (some 94)))), (1, .inl (0, [(0, 1)])), (2, .inl (0, [(2, 1)]))] [] [(20080, (0, []), (0, [(1, 1)])), (40960, ((-1), [(2, 1)]), (0, [(3, 1)]))] [] 2 [(98, ([], 4, [(0, 0, 99), (1, 0, 4), (2, 1, 4), (3, (-2147483648), 2147483647)], [], [(0, .inr (.inr (.inl (some 94)))), (1, .inl (0, [(0, 1)])), (2, .inl (0, [(2, 1)]))], [.inl (0, [(0, 1)]), .inl (0, [(2, 1)]), .inr (.inr (.inl (some 176)))], [(20080, (0, []), (0, [(1, 1)]))]))] [] = true := by decide +kernel
theorem px9 {cst : am_K} {strs : List Nat} {Φ : am_Q → Prop} {D : Nat} {M : am_M} {h : am_H} {l : am_L} (c : hp_C cst strs D) (hM : m_P[393]? = some M) (hD : (2 : Int) ≤ (D : Int) + 1) (hy : ly_hy m_tt ly_TH h) (m z i x : Int) (b0 : 0 ≤ m) (t0 : m ≤ 99) (b1 : 0 ≤ z) (t1 : z ≤ 4) (b2 : 1 ≤ i) (t2 : i ≤ 4) (b3 : (-2147483648) ≤ x) (t3 : x ≤ 2147483647) (f0 : 0 ≤ (m - x)) (k0 : ly_hv cst h 20080 0 = some (z)) (k1 : ly_hv cst h 40960 (i - 1) = some (x)) (l0 : hp_a l 0 94) (l1 : hp_i l 1 (m)) (l2 : hp_i l 2 (i)) (e0 : ∀ (l' : am_L) (h' : am_H) (y0 : Int32) (y1 : Int32), y0.toInt = (m) → y1.toInt = (i) → ly_hy m_tt ly_TH h' → ly_fr cst [] h h' → h.length ≤ h'.length → ly_hv cst h' 20080 0 = some (z) → hp_a l' 0 94 → hp_i l' 1 (m) → hp_i l' 2 (i) → hp_F cst strs Φ D M 98 l' [.int y0, .int y1, .ref 176] h') : hp_F cst strs Φ D M 56 l [] h := by
  refine hp_arc c hM px9_k hD [m, z, i, x] rfl hy (hp_Bc (z := m) rfl b0 t0 (hp_Bc (z := z) rfl b1 t1 (hp_Bc (z := i) rfl b2 t2 (hp_Bc (z := x) rfl b3 t3 hp_Bn)))) (hp_Fc (z := (0 + (1 * m + ((-1) * x + 0)))) rfl (by omega) hp_Fn) (hp_Kc (zi := (0 + 0)) (zv := (0 + (1 * z + 0))) k0 rfl rfl (by omega) (by omega) (hp_Kc (zi := ((-1) + (1 * i + 0))) (zv := (0 + (1 * x + 0))) k1 rfl rfl (by omega) (by omega) hp_Kn)) (hp_La l0 (hp_Li (z := (0 + (1 * m + 0))) l1 rfl (by omega) (hp_Li (z := (0 + (1 * i + 0))) l2 rfl (by omega) hp_Ln))) trivial ?_ ?_
  · intro p hp ys l' st' h' hys a1 a2 a3 gZ gL gS
    rcases List.mem_cons.mp hp with rfl | hp
    · obtain rfl := hp_y0 hys
      obtain ⟨y0, t0, rfl, q0, g0⟩ := hp_gSi (z := (0 + (1 * m + 0))) gS rfl
      obtain ⟨y1, t1, rfl, q1, g1⟩ := hp_gSi (z := (0 + (1 * i + 0))) g0 rfl
      obtain ⟨t2, rfl, g2⟩ := hp_gSa g1 (by decide)
      cases hp_gSn g2
      exact e0 l' h' y0 y1 (by omega) (by omega) a1 a2 a3 (hp_gK (zi := (0 + 0)) (zv := (0 + (1 * z + 0))) gZ.2.2.2 (List.mem_of_getElem? (i := 0) rfl) rfl rfl (by omega) (by omega)) (hp_gLa gL (List.mem_of_getElem? (i := 0) rfl) (by decide)) (hp_gLi (z := (0 + (1 * m + 0))) gL (List.mem_of_getElem? (i := 1) rfl) rfl (by omega)) (hp_gLi (z := (0 + (1 * i + 0))) gL (List.mem_of_getElem? (i := 2) rfl) rfl (by omega))
    cases hp
  · intro p hp ys v h' hys a1 a2 a3 gZ gS
    cases hp
theorem pxa_k : hp_chk 393 56 2 [(0, 0, 99), (1, 0, 4)] [] [(0, .inr (.inr (.inl (some 94)))), (1, .inl (0, [(0, 1)])), (2, .inl (0, []))] [] [(20080, (0, []), (0, [(1, 1)]))] [] 2 [(98, ([], 2, [(0, 0, 99), (1, 0, 4)], [], [(0, .inr (.inr (.inl (some 94))))], [.inl (0, [(0, 1)]), .inl (0, []), .inr (.inr (.inl (some 176)))], [(20080, (0, []), (0, [(1, 1)]))]))] [] = true := by decide +kernel
theorem pxa {cst : am_K} {strs : List Nat} {Φ : am_Q → Prop} {D : Nat} {M : am_M} {h : am_H} {l : am_L} (c : hp_C cst strs D) (hM : m_P[393]? = some M) (hD : (2 : Int) ≤ (D : Int) + 1) (hy : ly_hy m_tt ly_TH h) (m z : Int) (b0 : 0 ≤ m) (t0 : m ≤ 99) (b1 : 0 ≤ z) (t1 : z ≤ 4) (k0 : ly_hv cst h 20080 0 = some (z)) (l0 : hp_a l 0 94) (l1 : hp_i l 1 (m)) (l2 : hp_i l 2 0) (e0 : ∀ (l' : am_L) (h' : am_H) (y0 : Int32) (y1 : Int32), y0.toInt = (m) → y1.toInt = 0 → ly_hy m_tt ly_TH h' → ly_fr cst [] h h' → h.length ≤ h'.length → ly_hv cst h' 20080 0 = some (z) → hp_a l' 0 94 → hp_F cst strs Φ D M 98 l' [.int y0, .int y1, .ref 176] h') : hp_F cst strs Φ D M 56 l [] h := by
  refine hp_arc c hM pxa_k hD [m, z] rfl hy (hp_Bc (z := m) rfl b0 t0 (hp_Bc (z := z) rfl b1 t1 hp_Bn)) hp_Fn (hp_Kc (zi := (0 + 0)) (zv := (0 + (1 * z + 0))) k0 rfl rfl (by omega) (by omega) hp_Kn) (hp_La l0 (hp_Li (z := (0 + (1 * m + 0))) l1 rfl (by omega) (hp_Li (z := (0 + 0)) l2 rfl (by omega) hp_Ln))) trivial ?_ ?_
  · intro p hp ys l' st' h' hys a1 a2 a3 gZ gL gS
    rcases List.mem_cons.mp hp with rfl | hp
    · obtain rfl := hp_y0 hys
      obtain ⟨y0, t0, rfl, q0, g0⟩ := hp_gSi (z := (0 + (1 * m + 0))) gS rfl
      obtain ⟨y1, t1, rfl, q1, g1⟩ := hp_gSi (z := (0 + 0)) g0 rfl
      obtain ⟨t2, rfl, g2⟩ := hp_gSa g1 (by decide)
      cases hp_gSn g2
      exact e0 l' h' y0 y1 (by omega) (by omega) a1 a2 a3 (hp_gK (zi := (0 + 0)) (zv := (0 + (1 * z + 0))) gZ.2.2.2 (List.mem_of_getElem? (i := 0) rfl) rfl rfl (by omega) (by omega)) (hp_gLa gL (List.mem_of_getElem? (i := 0) rfl) (by decide))
    cases hp
  · intro p hp ys v h' hys a1 a2 a3 gZ gS
    cases hp
theorem pxb_k : hp_chk 393 99 1 [(0, 0, 4)] [] [(0, .inr (.inr (.inl (some 94))))] [] [(20080, (0, []), (0, [(0, 1)]))] [20080, 41216] 4 [] [([], 1, [(0, 0, 4)], [], [], [.inl (1, [(0, 1)])], [(20080, (0, []), (1, [(0, 1)]))])] = true := by decide +kernel
theorem pxb {cst : am_K} {strs : List Nat} {Φ : am_Q → Prop} {D : Nat} {M : am_M} {h : am_H} {l : am_L} (c : hp_C cst strs D) (hM : m_P[393]? = some M) (hD : (4 : Int) ≤ (D : Int) + 1) (hy : ly_hy m_tt ly_TH h) (z : Int) (b0 : 0 ≤ z) (t0 : z ≤ 4) (k0 : ly_hv cst h 20080 0 = some (z)) (l0 : hp_a l 0 94) (r0 : ∀ (h' : am_H) (y0 : Int32), y0.toInt = (z + 1) → ly_hy m_tt ly_TH h' → ly_fr cst [20080, 41216] h h' → h.length ≤ h'.length → ly_hv cst h' 20080 0 = some (z + 1) → Φ (some (.int y0), h', 0, 0)) : hp_F cst strs Φ D M 99 l [] h := by
  refine hp_arc c hM pxb_k hD [z] rfl hy (hp_Bc (z := z) rfl b0 t0 hp_Bn) hp_Fn (hp_Kc (zi := (0 + 0)) (zv := (0 + (1 * z + 0))) k0 rfl rfl (by omega) (by omega) hp_Kn) (hp_La l0 hp_Ln) trivial ?_ ?_
  · intro p hp ys l' st' h' hys a1 a2 a3 gZ gL gS
    cases hp
  · intro p hp ys v h' hys a1 a2 a3 gZ gS
    rcases List.mem_cons.mp hp with rfl | hp
    · obtain rfl := hp_y0 hys
      cases v with
      | none => cases gS
      | some w =>
        obtain ⟨y0, t0, s0, q0, -⟩ := hp_gSi (z := (1 + (1 * z + 0))) gS rfl
        cases s0
        exact r0 h' y0 (by omega) a1 a2 a3 (hp_gK (zi := (0 + 0)) (zv := (1 + (1 * z + 0))) gZ.2.2.2 (List.mem_of_getElem? (i := 0) rfl) rfl rfl (by omega) (by omega))
    cases hp
/-- a number put among the others -/
def pu_i (m : Int) : Nat → (Int → Option Int) → Int → Option Int
  | 0, f => hp_upd f 0 m
  | i + 1, f => match f (i : Int) with
    | some x => if m < x then pu_i m i (hp_upd f ((i + 1 : Nat) : Int) x) else hp_upd f ((i + 1 : Nat) : Int) m
    | none => hp_upd f ((i + 1 : Nat) : Int) m
def pu_h (f : Int → Option Int) (z m : Int) : Prop := ∃ i, 0 ≤ i ∧ i < z ∧ f i = some m
def pu_A (f : Int → Option Int) (s z m a : Int) : Prop := (¬ (0 ≤ m ∧ m < s) → a = -2) ∧ ((0 ≤ m ∧ m < s) → (pu_h f z m → a = -4) ∧ (¬ pu_h f z m → (z = 5 → a = -3) ∧ (z ≠ 5 → a = z + 1)))
def pu_G (f : Int → Option Int) (s z m : Int) : Prop := (0 ≤ m ∧ m < s) ∧ ¬ pu_h f z m ∧ z ≠ 5
def pu_E (cst : am_K) (h h2 : am_H) (L R : Nat) (s z m : Int) : Prop := (pu_G (ly_hv cst h R) s z m → ly_hv cst h2 L 0 = some (z + 1) ∧ ly_hv cst h2 R = pu_i m z.toNat (ly_hv cst h R)) ∧ (¬ pu_G (ly_hv cst h R) s z m → ly_hv cst h2 L 0 = some z ∧ ly_hv cst h2 R = ly_hv cst h R)
theorem pu_uni {f : Int → Option Int} {s z m a b : Int} (A : pu_A f s z m a) (B : pu_A f s z m b) : a = b := by
  by_cases o : 0 ≤ m ∧ m < s
  · by_cases q : pu_h f z m
    · rw [(A.2 o).1 q, (B.2 o).1 q]
    · by_cases e : z = 5
      · rw [((A.2 o).2 q).1 e, ((B.2 o).2 q).1 e]
      · rw [((A.2 o).2 q).2 e, ((B.2 o).2 q).2 e]
  · rw [A.1 o, B.1 o]
theorem pu_two {cst : am_K} {h1 h2 q1 q2 : am_H} {s z m : Int} (e : ly_hv cst h1 14336 = ly_hv cst h2 40960) (z0 : 0 ≤ z) (z1 : z ≤ 5) (C : pu_E cst h1 q1 14080 14336 s z m) (M : pu_E cst h2 q2 20080 40960 s z m) : ∃ w, 0 ≤ w ∧ w ≤ 5 ∧ ly_hv cst q1 14080 0 = some w ∧ ly_hv cst q2 20080 0 = some w ∧ ly_hv cst q1 14336 = ly_hv cst q2 40960 := by
  unfold pu_E at C M
  rw [e] at C
  by_cases g : pu_G (ly_hv cst h2 40960) s z m
  · obtain ⟨c1, c2⟩ := C.1 g
    obtain ⟨m1, m2⟩ := M.1 g
    have := g.2.2
    exact ⟨z + 1, by omega, by omega, c1, m1, c2.trans m2.symm⟩
  · obtain ⟨c1, c2⟩ := C.2 g
    obtain ⟨m1, m2⟩ := M.2 g
    exact ⟨z, z0, z1, c1, m1, c2.trans m2.symm⟩
theorem pv_ins {cst : am_K} {strs : List Nat} {D : Nat} {M : am_M} {h0 : am_H} {Φ : am_Q → Prop} (c : hp_C cst strs D) (hM : m_P[218]? = some M) (hD : (4 : Int) ≤ (D : Int) + 1) {m z : Int} (m0 : 0 ≤ m) (m1 : m ≤ 99) (z0 : 0 ≤ z) (z1 : z ≤ 4)
    (k : ∀ (h : am_H) (a : Int32), a.toInt = z + 1 → ly_hy m_tt ly_TH h → ly_fr cst [14080, 14083, 14336] h0 h → ly_hv cst h 14080 0 = some (z + 1) → ly_hv cst h 14336 = pu_i m z.toNat (ly_hv cst h0 14336) → Φ (some (.int a), h, 0, 0)) :
    ∀ (i : Nat) (h : am_H) (l : am_L), (i : Int) ≤ z → ly_hy m_tt ly_TH h → ly_fr cst [14080, 14083, 14336] h0 h → ly_hv cst h 14080 0 = some z → pu_i m i (ly_hv cst h 14336) = pu_i m z.toNat (ly_hv cst h0 14336) → hp_a l 0 71 → hp_i l 1 m → hp_i l 2 (i : Int) → hp_F cst strs Φ D M 16 l [] h := by
  intro i
  have ml : ∀ {a b : am_H}, ly_fr cst [] a b → ly_fr cst [14080, 14083, 14336] a b := fun f r i v _ e => f r i v rfl e
  induction i with
  | zero =>
    intro h l hi hy fr kz H l0 l1 l2
    refine pv5 c hM (by omega) hy m z m0 m1 z0 z1 kz l0 l1 l2 (fun l1' h1 y0 y1 f0 f1 u1 u2 u3 k1 j0 => ?_)
    refine hp_st (c := 56) hM (by decide +kernel) u1 (show ly_ths ly_TH 56 = some (.inl (.int, 5, -2147483648, 2147483647)) from rfl) rfl (by omega) (by omega) (by omega) (by omega) (fun h2 q1 q2 q3 => ?_)
    rw [f0, f1] at q3
    refine pv6 c hM (by omega) q1 z z0 z1 (by rw [hp_put_ne q3 (by decide)]; exact k1) j0 (fun h3 a ha w1 w2 w3 k3 => k h3 a ha w1 (ly_fr_tr fr (ly_fr_tr (ml u2) (ly_fr_tr (hp_put_fr (by rfl) q3) (hp_sub2 rfl w2)))) k3 ?_)
    rw [← H, hp_same (show ly_ths ly_TH 56 = some (.inl (.int, 5, -2147483648, 2147483647)) from rfl) rfl q1 w1 w2, hp_put_eq q3, hp_same (show ly_ths ly_TH 56 = some (.inl (.int, 5, -2147483648, 2147483647)) from rfl) rfl hy u1 u2]
    rfl
  | succ i ih =>
    intro h l hi hy fr kz H l0 l1 l2
    obtain ⟨x, kx, x0, x1⟩ := hp_row (cst := cst) (i := (i : Int)) hy (show ly_ths ly_TH 56 = some (.inl (.int, 5, -2147483648, 2147483647)) from rfl) (by omega) (by omega)
    have kx' : ly_hv cst h 14336 (i : Int) = some x := kx
    have kx2 : ly_hv cst h 14336 (((i + 1 : Nat) : Int) - 1) = some x := by rw [show ((i + 1 : Nat) : Int) - 1 = (i : Int) by omega]; exact kx
    have un : ∀ f : Int → Option Int, f (i : Int) = some x → pu_i m (i + 1) f = if m < x then pu_i m i (hp_upd f ((i + 1 : Nat) : Int) x) else hp_upd f ((i + 1 : Nat) : Int) m := fun f hf => by
      show (match f (i : Int) with
        | some x => if m < x then pu_i m i (hp_upd f ((i + 1 : Nat) : Int) x) else hp_upd f ((i + 1 : Nat) : Int) m
        | none => hp_upd f ((i + 1 : Nat) : Int) m) = _
      rw [hf]
    by_cases q : m < x
    · refine pv2 c hM (by omega) hy m z ((i + 1 : Nat) : Int) x m0 m1 z0 z1 (by omega) (by omega) (by omega) (by omega) (by omega) kz kx2 l0 l1 l2 (fun l1' h1 y0 y1 f0 f1 u1 u2 u3 k1 j0 j1 j2 => ?_)
      refine hp_st (c := 56) hM (by decide +kernel) u1 (show ly_ths ly_TH 56 = some (.inl (.int, 5, -2147483648, 2147483647)) from rfl) rfl (by omega) (by omega) (by omega) (by omega) (fun h2 q1 q2 q3 => ?_)
      rw [f0, f1] at q3
      refine pv3 c hM (by omega) q1 m z ((i + 1 : Nat) : Int) m0 m1 z0 z1 (by omega) (by omega) (by rw [hp_put_ne q3 (by decide)]; exact k1) j0 j1 j2 (fun l3 h3 w1 w2 w3 k3 o0 o1 o2 => ?_)
      refine ih h3 l3 (by omega) w1 (ly_fr_tr fr (ly_fr_tr (ml u2) (ly_fr_tr (hp_put_fr (by rfl) q3) (ml w2)))) k3 ?_ o0 o1 (by rw [show (i : Int) = ((i + 1 : Nat) : Int) - 1 by omega]; exact o2)
      rw [← H, un _ kx', if_pos q, hp_same (show ly_ths ly_TH 56 = some (.inl (.int, 5, -2147483648, 2147483647)) from rfl) rfl q1 w1 w2, hp_put_eq q3, hp_same (show ly_ths ly_TH 56 = some (.inl (.int, 5, -2147483648, 2147483647)) from rfl) rfl hy u1 u2]
    · refine pv4 c hM (by omega) hy m z ((i + 1 : Nat) : Int) x m0 m1 z0 z1 (by omega) (by omega) (by omega) (by omega) (by omega) kz kx2 l0 l1 l2 (fun l1' h1 y0 y1 f0 f1 u1 u2 u3 k1 j0 j1 j2 => ?_)
      refine hp_st (c := 56) hM (by decide +kernel) u1 (show ly_ths ly_TH 56 = some (.inl (.int, 5, -2147483648, 2147483647)) from rfl) rfl (by omega) (by omega) (by omega) (by omega) (fun h2 q1 q2 q3 => ?_)
      rw [f0, f1] at q3
      refine pv6 c hM (by omega) q1 z z0 z1 (by rw [hp_put_ne q3 (by decide)]; exact k1) j0 (fun h3 a ha w1 w2 w3 k3 => k h3 a ha w1 (ly_fr_tr fr (ly_fr_tr (ml u2) (ly_fr_tr (hp_put_fr (by rfl) q3) (hp_sub2 rfl w2)))) k3 ?_)
      rw [← H, un _ kx', if_neg q, hp_same (show ly_ths ly_TH 56 = some (.inl (.int, 5, -2147483648, 2147483647)) from rfl) rfl q1 w1 w2, hp_put_eq q3, hp_same (show ly_ths ly_TH 56 = some (.inl (.int, 5, -2147483648, 2147483647)) from rfl) rfl hy u1 u2]
theorem px_ins {cst : am_K} {strs : List Nat} {D : Nat} {M : am_M} {h0 : am_H} {Φ : am_Q → Prop} (c : hp_C cst strs D) (hM : m_P[393]? = some M) (hD : (4 : Int) ≤ (D : Int) + 1) {m z : Int} (m0 : 0 ≤ m) (m1 : m ≤ 99) (z0 : 0 ≤ z) (z1 : z ≤ 4)
    (k : ∀ (h : am_H) (a : Int32), a.toInt = z + 1 → ly_hy m_tt ly_TH h → ly_fr cst [20080, 40960, 41216] h0 h → ly_hv cst h 20080 0 = some (z + 1) → ly_hv cst h 40960 = pu_i m z.toNat (ly_hv cst h0 40960) → Φ (some (.int a), h, 0, 0)) :
    ∀ (i : Nat) (h : am_H) (l : am_L), (i : Int) ≤ z → ly_hy m_tt ly_TH h → ly_fr cst [20080, 40960, 41216] h0 h → ly_hv cst h 20080 0 = some z → pu_i m i (ly_hv cst h 40960) = pu_i m z.toNat (ly_hv cst h0 40960) → hp_a l 0 94 → hp_i l 1 m → hp_i l 2 (i : Int) → hp_F cst strs Φ D M 56 l [] h := by
  intro i
  have ml : ∀ {a b : am_H}, ly_fr cst [] a b → ly_fr cst [20080, 40960, 41216] a b := fun f r i v _ e => f r i v rfl e
  induction i with
  | zero =>
    intro h l hi hy fr kz H l0 l1 l2
    refine pxa c hM (by omega) hy m z m0 m1 z0 z1 kz l0 l1 l2 (fun l1' h1 y0 y1 f0 f1 u1 u2 u3 k1 j0 => ?_)
    refine hp_st (c := 160) hM (by decide +kernel) u1 (show ly_ths ly_TH 160 = some (.inl (.int, 5, 0, 99)) from rfl) rfl (by omega) (by omega) (by omega) (by omega) (fun h2 q1 q2 q3 => ?_)
    rw [f0, f1] at q3
    refine pxb c hM (by omega) q1 z z0 z1 (by rw [hp_put_ne q3 (by decide)]; exact k1) j0 (fun h3 a ha w1 w2 w3 k3 => k h3 a ha w1 (ly_fr_tr fr (ly_fr_tr (ml u2) (ly_fr_tr (hp_put_fr (by rfl) q3) (hp_sub2 rfl w2)))) k3 ?_)
    rw [← H, hp_same (show ly_ths ly_TH 160 = some (.inl (.int, 5, 0, 99)) from rfl) rfl q1 w1 w2, hp_put_eq q3, hp_same (show ly_ths ly_TH 160 = some (.inl (.int, 5, 0, 99)) from rfl) rfl hy u1 u2]
    rfl
  | succ i ih =>
    intro h l hi hy fr kz H l0 l1 l2
    obtain ⟨x, kx, x0, x1⟩ := hp_row (cst := cst) (i := (i : Int)) hy (show ly_ths ly_TH 160 = some (.inl (.int, 5, 0, 99)) from rfl) (by omega) (by omega)
    have kx' : ly_hv cst h 40960 (i : Int) = some x := kx
    have kx2 : ly_hv cst h 40960 (((i + 1 : Nat) : Int) - 1) = some x := by rw [show ((i + 1 : Nat) : Int) - 1 = (i : Int) by omega]; exact kx
    have un : ∀ f : Int → Option Int, f (i : Int) = some x → pu_i m (i + 1) f = if m < x then pu_i m i (hp_upd f ((i + 1 : Nat) : Int) x) else hp_upd f ((i + 1 : Nat) : Int) m := fun f hf => by
      show (match f (i : Int) with
        | some x => if m < x then pu_i m i (hp_upd f ((i + 1 : Nat) : Int) x) else hp_upd f ((i + 1 : Nat) : Int) m
        | none => hp_upd f ((i + 1 : Nat) : Int) m) = _
      rw [hf]
    by_cases q : m < x
    · refine px7 c hM (by omega) hy m z ((i + 1 : Nat) : Int) x m0 m1 z0 z1 (by omega) (by omega) (by omega) (by omega) (by omega) kz kx2 l0 l1 l2 (fun l1' h1 y0 y1 f0 f1 u1 u2 u3 k1 j0 j1 j2 => ?_)
      refine hp_st (c := 160) hM (by decide +kernel) u1 (show ly_ths ly_TH 160 = some (.inl (.int, 5, 0, 99)) from rfl) rfl (by omega) (by omega) (by omega) (by omega) (fun h2 q1 q2 q3 => ?_)
      rw [f0, f1] at q3
      refine px8 c hM (by omega) q1 m z ((i + 1 : Nat) : Int) m0 m1 z0 z1 (by omega) (by omega) (by rw [hp_put_ne q3 (by decide)]; exact k1) j0 j1 j2 (fun l3 h3 w1 w2 w3 k3 o0 o1 o2 => ?_)
      refine ih h3 l3 (by omega) w1 (ly_fr_tr fr (ly_fr_tr (ml u2) (ly_fr_tr (hp_put_fr (by rfl) q3) (ml w2)))) k3 ?_ o0 o1 (by rw [show (i : Int) = ((i + 1 : Nat) : Int) - 1 by omega]; exact o2)
      rw [← H, un _ kx', if_pos q, hp_same (show ly_ths ly_TH 160 = some (.inl (.int, 5, 0, 99)) from rfl) rfl q1 w1 w2, hp_put_eq q3, hp_same (show ly_ths ly_TH 160 = some (.inl (.int, 5, 0, 99)) from rfl) rfl hy u1 u2]
    · refine px9 c hM (by omega) hy m z ((i + 1 : Nat) : Int) x m0 m1 z0 z1 (by omega) (by omega) (by omega) (by omega) (by omega) kz kx2 l0 l1 l2 (fun l1' h1 y0 y1 f0 f1 u1 u2 u3 k1 j0 j1 j2 => ?_)
      refine hp_st (c := 160) hM (by decide +kernel) u1 (show ly_ths ly_TH 160 = some (.inl (.int, 5, 0, 99)) from rfl) rfl (by omega) (by omega) (by omega) (by omega) (fun h2 q1 q2 q3 => ?_)
      rw [f0, f1] at q3
      refine pxb c hM (by omega) q1 z z0 z1 (by rw [hp_put_ne q3 (by decide)]; exact k1) j0 (fun h3 a ha w1 w2 w3 k3 => k h3 a ha w1 (ly_fr_tr fr (ly_fr_tr (ml u2) (ly_fr_tr (hp_put_fr (by rfl) q3) (hp_sub2 rfl w2)))) k3 ?_)
      rw [← H, un _ kx', if_neg q, hp_same (show ly_ths ly_TH 160 = some (.inl (.int, 5, 0, 99)) from rfl) rfl q1 w1 w2, hp_put_eq q3, hp_same (show ly_ths ly_TH 160 = some (.inl (.int, 5, 0, 99)) from rfl) rfl hy u1 u2]
theorem pu_run {cst : am_K} {strs : List Nat} {D : Nat} {h : am_H} (c : hp_C cst strs D) (hD : (2 : Int) ≤ (D : Int) + 1) (hy : ly_hy m_tt ly_TH h) {xm : Int32} {z : Int} (m0 : 0 ≤ xm.toInt) (m1 : xm.toInt ≤ 99) (z0 : 0 ≤ z) (z1 : z ≤ 5) (kz : ly_hv cst h 14080 0 = some z) :
    ∃ r, am_Run cst m_cl m_tt m_P strs sx_bi (D + 1) 217 [.ref 71, .int xm] h r ∧ ∃ a : Int32, r.1 = some (.int a) ∧ r.2.2.1 = 0 ∧ r.2.2.2 = 0 ∧ ly_hy m_tt ly_TH r.2.1 ∧ ly_fr cst [] h r.2.1 ∧ ((pu_h (ly_hv cst h 14336) z xm.toInt → a.toInt = 1) ∧ (¬ pu_h (ly_hv cst h 14336) z xm.toInt → a.toInt = 0)) := by
  obtain ⟨M, hM, hl⟩ := hp_M (mi := 217) (k := 2) (by decide +kernel)
  have loop : ∀ (N : Nat) (h' : am_H) (l : am_L) (i : Int), (z - i).toNat < N → 0 ≤ i → i ≤ z → ly_hy m_tt ly_TH h' → ly_fr cst [] h h' → (∀ k, 0 ≤ k → k < i → ly_hv cst h 14336 k ≠ some xm.toInt) → hp_a l 0 71 → hp_i l 1 xm.toInt → hp_i l 2 i → hp_F cst strs (fun r => ∃ a : Int32, r.1 = some (.int a) ∧ r.2.2.1 = 0 ∧ r.2.2.2 = 0 ∧ ly_hy m_tt ly_TH r.2.1 ∧ ly_fr cst [] h r.2.1 ∧ ((pu_h (ly_hv cst h 14336) z xm.toInt → a.toInt = 1) ∧ (¬ pu_h (ly_hv cst h 14336) z xm.toInt → a.toInt = 0))) D M 2 l [] h' := by
    intro N
    induction N with
    | zero => intro h' l i hN; omega
    | succ N ih =>
      intro h' l i hN i0 i1 hy' fr no l0 l1 l2
      by_cases hi : i = z
      · rw [hi] at l2 no
        exact pu3 c hM hD hy' xm.toInt z m0 m1 z0 z1 (fr _ _ _ rfl kz) l0 l1 l2 (fun h2 a ha u1 u2 u3 => ⟨a, rfl, rfl, rfl, u1, ly_fr_tr fr u2, fun ⟨k, k0, k1, km⟩ => absurd km (no k k0 k1), fun _ => ha⟩)
      · obtain ⟨x, kx, x0, x1⟩ := hp_row (cst := cst) (i := i) hy' (show ly_ths ly_TH 56 = some (.inl (.int, 5, -2147483648, 2147483647)) from rfl) i0 (by omega)
        have kx' : ly_hv cst h 14336 i = some x := by
          rw [← hp_same (show ly_ths ly_TH 56 = some (.inl (.int, 5, -2147483648, 2147483647)) from rfl) rfl hy hy' fr]
          exact kx
        by_cases q : x = xm.toInt
        · rw [q] at kx kx'
          exact pu1 c hM hD hy' xm.toInt z i m0 m1 z0 z1 i0 (by omega) (by omega) (fr _ _ _ rfl kz) kx l0 l1 l2 (fun h2 a ha u1 u2 u3 => ⟨a, rfl, rfl, rfl, u1, ly_fr_tr fr u2, fun _ => ha, fun nh => absurd ⟨i, i0, by omega, kx'⟩ nh⟩)
        · exact pu2 c hM hD hy' xm.toInt z i x m0 m1 z0 z1 i0 (by omega) x0 x1 (by omega) (fr _ _ _ rfl kz) kx (hp_ne (by omega)) l0 l1 l2 (fun l2' h2 u1 u2 u3 j0 j1 j2 => ih h2 l2' (i + 1) (by omega) (by omega) (by omega) u1 (ly_fr_tr fr u2) (fun k k0 k1 => if e : k = i then by
            rw [e, kx']
            intro z'
            exact q (Option.some.inj z') else no k k0 (by omega)) j0 j1 j2)
  obtain ⟨n', r, hgo, a, r1, r2, r3, r4⟩ := pu0 (l := lv_args 0 [.ref 71, .int xm]) c hM hD hy xm.toInt m0 m1 rfl ⟨xm, rfl, rfl⟩ (fun l1 h1 u1 u2 u3 j0 j1 j2 => loop ((z - 0).toNat + 1) h1 l1 0 (Nat.lt_succ_self _) (by omega) z0 u1 u2 (fun k k0 k1 => by omega) j0 j1 j2)
  simp only [Nat.zero_add] at r2 r3
  exact ⟨r, Or.inr ⟨M, n', hM, hl, hgo⟩, a, r1, r2, r3, r4⟩
theorem pw_run {cst : am_K} {strs : List Nat} {D : Nat} {h : am_H} (c1 : hp_C cst strs D) (c : hp_C cst strs (D + 1)) (hD : (4 : Int) ≤ (D : Int) + 1) (hy : ly_hy m_tt ly_TH h) {xm : Int32} {s z : Int} (s0 : 0 ≤ s) (s1 : s ≤ 100) (ks : ly_hv cst h 7170 0 = some s) (ko : ∀ j, 0 ≤ j → j < s → ly_hv cst h 7424 j = some 1) (z0 : 0 ≤ z) (z1 : z ≤ 5) (kz : ly_hv cst h 14080 0 = some z) :
    ∃ r, am_Run cst m_cl m_tt m_P strs sx_bi (D + 1 + 1) 216 [.ref 16, .int xm] h r ∧ ∃ a : Int32, r.1 = some (.int a) ∧ r.2.2.1 = 0 ∧ r.2.2.2 = 0 ∧ ly_hy m_tt ly_TH r.2.1 ∧ ly_fr cst [14080, 14083, 14336] h r.2.1 ∧ (pu_A (ly_hv cst h 14336) s z xm.toInt a.toInt ∧ pu_E cst h r.2.1 14080 14336 s z xm.toInt) := by
  obtain ⟨M, hM, hl⟩ := hp_M (mi := 216) (k := 2) (by decide +kernel)
  have b0 : -2147483648 ≤ xm.toInt := xm.le_toInt
  have b1 : xm.toInt ≤ 2147483647 := xm.toInt_le
  have ml : ∀ {a b : am_H}, ly_fr cst [] a b → ly_fr cst [14080, 14083, 14336] a b := fun f r i v _ e => f r i v rfl e
  have go : hp_F cst strs (fun r => ∃ a : Int32, r.1 = some (.int a) ∧ r.2.2.1 = 0 ∧ r.2.2.2 = 0 ∧ ly_hy m_tt ly_TH r.2.1 ∧ ly_fr cst [14080, 14083, 14336] h r.2.1 ∧ (pu_A (ly_hv cst h 14336) s z xm.toInt a.toInt ∧ pu_E cst h r.2.1 14080 14336 s z xm.toInt)) (D + 1) M 0 (lv_args 0 [.ref 16, .int xm]) [] h := by
    have no : ¬ (0 ≤ xm.toInt ∧ xm.toInt < s) → ∀ (h' : am_H) (w : Int32), w.toInt = -2 → ly_hy m_tt ly_TH h' → ly_fr cst [] h h' → h.length ≤ h'.length → (fun r : am_Q => ∃ a : Int32, r.1 = some (.int a) ∧ r.2.2.1 = 0 ∧ r.2.2.2 = 0 ∧ ly_hy m_tt ly_TH r.2.1 ∧ ly_fr cst [14080, 14083, 14336] h r.2.1 ∧ (pu_A (ly_hv cst h 14336) s z xm.toInt a.toInt ∧ pu_E cst h r.2.1 14080 14336 s z xm.toInt)) (some (.int w), h', 0, 0) := fun nk h' w hw w1 w2 w3 => ⟨w, rfl, rfl, rfl, w1, ml w2, ⟨fun _ => hw, fun ok => absurd ok nk⟩, fun g => absurd g.1 nk, fun _ => ⟨w2 _ _ _ rfl kz, hp_same (show ly_ths ly_TH 56 = some (.inl (.int, 5, -2147483648, 2147483647)) from rfl) rfl hy w1 w2⟩⟩
    by_cases p1 : xm.toInt ≤ -1
    · exact pw0 c hM (by omega) hy xm.toInt s b0 p1 s0 s1 ks rfl ⟨xm, rfl, rfl⟩ (no (fun k => by have := k.1; omega))
    by_cases p2 : s ≤ xm.toInt
    · exact pw1 c hM (by omega) hy xm.toInt s (by omega) b1 s0 s1 (by omega) ks rfl ⟨xm, rfl, rfl⟩ (no (fun k => by have := k.2; omega))
    have ok : 0 ≤ xm.toInt ∧ xm.toInt < s := ⟨by omega, by omega⟩
    refine pw2 c hM (by omega) hy xm.toInt s (by omega) (by omega) s0 s1 (by omega) ks (ko _ (by omega) (by omega)) rfl ⟨xm, rfl, rfl⟩ (fun l1 h1 y0 f0 u1 u2 u3 j0 j1 => ?_)
    obtain ⟨r, hrun, a, r1, r2, r3, rhy, rfr, ra⟩ := pu_run (xm := y0) (z := z) c1 (by omega) u1 (by omega) (by omega) z0 z1 (u2 _ _ _ rfl kz)
    refine hp_call (mi := 216) (pc := 19) (tg := 217) (na := 2) (c := 55) (ci := 8) (st0 := [.int y0, .ref 71]) (st := []) (av := [.int y0]) hM (by decide +kernel) u1 rfl rfl rfl (by decide) hrun r2 r3 ?_
    rw [r1]
    rw [f0, hp_same (show ly_ths ly_TH 56 = some (.inl (.int, 5, -2147483648, 2147483647)) from rfl) rfl hy u1 u2] at ra
    by_cases q : pu_h (ly_hv cst h 14336) z xm.toInt
    · exact pw3 c hM (by omega) rhy xm.toInt a (ra.1 q) (by omega) (by omega) j0 j1 (fun h3 w hw v1 v2 v3 => ⟨w, rfl, rfl, rfl, v1, ml (ly_fr_tr u2 (ly_fr_tr rfr v2)), ⟨fun nk => absurd ok nk, fun _ => ⟨fun _ => hw, fun nq => absurd q nq⟩⟩, fun g => absurd q g.2.1, fun _ => ⟨v2 _ _ _ rfl (rfr _ _ _ rfl (u2 _ _ _ rfl kz)), by rw [hp_same (show ly_ths ly_TH 56 = some (.inl (.int, 5, -2147483648, 2147483647)) from rfl) rfl rhy v1 v2, hp_same (show ly_ths ly_TH 56 = some (.inl (.int, 5, -2147483648, 2147483647)) from rfl) rfl u1 rhy rfr, hp_same (show ly_ths ly_TH 56 = some (.inl (.int, 5, -2147483648, 2147483647)) from rfl) rfl hy u1 u2]⟩⟩)
    · refine pw4 c hM (by omega) rhy xm.toInt a (ra.2 q) (by omega) (by omega) j0 j1 (fun l3 h3 y1 f1 v1 v2 v3 i0 => ?_)
      have fr3 : ly_fr cst [] h h3 := ly_fr_tr u2 (ly_fr_tr rfr v2)
      have row3 : ly_hv cst h3 14336 = ly_hv cst h 14336 := hp_same (show ly_ths ly_TH 56 = some (.inl (.int, 5, -2147483648, 2147483647)) from rfl) rfl hy v1 fr3
      have kz3 := fr3 _ _ _ rfl kz
      obtain ⟨M2, hM2, hl2⟩ := hp_M (mi := 218) (k := 2) (by decide +kernel)
      have go2 : ∃ r', am_Run cst m_cl m_tt m_P strs sx_bi (D + 1) 218 [.ref 71, .int y1] h3 r' ∧ ∃ b : Int32, r'.1 = some (.int b) ∧ r'.2.2.1 = 0 ∧ r'.2.2.2 = 0 ∧ ly_hy m_tt ly_TH r'.2.1 ∧ ly_fr cst [14080, 14083, 14336] h3 r'.2.1 ∧ ((z = 5 → b.toInt = -3 ∧ ly_hv cst r'.2.1 14080 0 = some 5 ∧ ly_hv cst r'.2.1 14336 = ly_hv cst h3 14336) ∧ (z ≠ 5 → b.toInt = z + 1 ∧ ly_hv cst r'.2.1 14080 0 = some (z + 1) ∧ ly_hv cst r'.2.1 14336 = pu_i xm.toInt z.toNat (ly_hv cst h3 14336))) := by
        have go3 : hp_F cst strs (fun r' => ∃ b : Int32, r'.1 = some (.int b) ∧ r'.2.2.1 = 0 ∧ r'.2.2.2 = 0 ∧ ly_hy m_tt ly_TH r'.2.1 ∧ ly_fr cst [14080, 14083, 14336] h3 r'.2.1 ∧ ((z = 5 → b.toInt = -3 ∧ ly_hv cst r'.2.1 14080 0 = some 5 ∧ ly_hv cst r'.2.1 14336 = ly_hv cst h3 14336) ∧ (z ≠ 5 → b.toInt = z + 1 ∧ ly_hv cst r'.2.1 14080 0 = some (z + 1) ∧ ly_hv cst r'.2.1 14336 = pu_i xm.toInt z.toNat (ly_hv cst h3 14336)))) D M2 0 (lv_args 0 [.ref 71, .int y1]) [] h3 := by
          by_cases e5 : z = 5
          · rw [e5] at kz3
            exact pv0 c1 hM2 (by omega) v1 xm.toInt (by omega) (by omega) kz3 rfl ⟨y1, rfl, f1⟩ (fun h4 b hb t1 t2 t3 k4 => ⟨b, rfl, rfl, rfl, t1, ml t2, fun _ => ⟨hb, k4, hp_same (show ly_ths ly_TH 56 = some (.inl (.int, 5, -2147483648, 2147483647)) from rfl) rfl v1 t1 t2⟩, fun n5 => absurd e5 n5⟩)
          · refine pv1 c1 hM2 (by omega) v1 xm.toInt z (by omega) (by omega) z0 (by omega) kz3 rfl ⟨y1, rfl, f1⟩ (fun l4 h4 t1 t2 t3 k4 o0 o1 o2 => ?_)
            have ez : ((z.toNat : Nat) : Int) = z := by omega
            exact pv_ins (h0 := h3) c1 hM2 (by omega) (m := xm.toInt) (z := z) (by omega) (by omega) z0 (by omega) (fun h5 b hb s1' s2' s3' s4' => ⟨b, rfl, rfl, rfl, s1', s2', fun e => absurd e e5, fun _ => ⟨hb, s3', s4'⟩⟩) z.toNat h4 l4 (by omega) t1 (ml t2) k4 (by rw [hp_same (show ly_ths ly_TH 56 = some (.inl (.int, 5, -2147483648, 2147483647)) from rfl) rfl v1 t1 t2]) o0 o1 (by rw [ez]; exact o2)
        obtain ⟨n', r', hgo, b, x1, x2, x3, x4⟩ := go3
        simp only [Nat.zero_add] at x2 x3
        exact ⟨r', Or.inr ⟨M2, n', hM2, hl2, hgo⟩, b, x1, x2, x3, x4⟩
      obtain ⟨r', hrun', b, x1, x2, x3, x4, x5, x6, x7⟩ := go2
      refine hp_call (mi := 216) (pc := 35) (tg := 218) (na := 2) (c := 55) (ci := 8) (st0 := [.int y1, .ref 71]) (st := []) (av := [.int y1]) hM (by decide +kernel) v1 rfl rfl rfl (by decide) hrun' x2 x3 ?_
      rw [x1]
      rw [row3] at x6 x7
      refine pw5 c hM (by omega) x4 b.toInt b rfl b.le_toInt b.toInt_le i0 (fun h4 w hw t1 t2 t3 => ⟨w, rfl, rfl, rfl, t1, ly_fr_tr (ml fr3) (ly_fr_tr x5 (ml t2)), ⟨fun nk => absurd ok nk, fun _ => ⟨fun z' => absurd z' q, fun _ => ⟨fun e5 => by rw [hw]; exact (x6 e5).1, fun n5 => by rw [hw]; exact (x7 n5).1⟩⟩⟩, fun g => ?_, fun ng => ?_⟩)
      · obtain ⟨-, e1, e2⟩ := x7 g.2.2
        exact ⟨t2 _ _ _ rfl e1, by rw [hp_same (show ly_ths ly_TH 56 = some (.inl (.int, 5, -2147483648, 2147483647)) from rfl) rfl x4 t1 t2]; exact e2⟩
      · have e5 : z = 5 := by
          by_cases e : z = 5
          · exact e
          · exact absurd ⟨ok, q, e⟩ ng
        obtain ⟨-, e1, e2⟩ := x6 e5
        exact ⟨by rw [e5]; exact t2 _ _ _ rfl e1, by rw [hp_same (show ly_ths ly_TH 56 = some (.inl (.int, 5, -2147483648, 2147483647)) from rfl) rfl x4 t1 t2]; exact e2⟩
  obtain ⟨n', r, hgo, a, r1, r2, r3, r4⟩ := go
  simp only [Nat.zero_add] at r2 r3
  exact ⟨r, Or.inr ⟨M, n', hM, hl, hgo⟩, a, r1, r2, r3, r4⟩
theorem px_run {cst : am_K} {strs : List Nat} {D : Nat} {h : am_H} (c : hp_C cst strs D) (hD : (4 : Int) ≤ (D : Int) + 1) (hy : ly_hy m_tt ly_TH h) {xm : Int32} {s z : Int} (s0 : 0 ≤ s) (s1 : s ≤ 100) (ks : ly_hv cst h 20024 0 = some s) (z0 : 0 ≤ z) (z1 : z ≤ 5) (kz : ly_hv cst h 20080 0 = some z) :
    ∃ r, am_Run cst m_cl m_tt m_P strs sx_bi (D + 1) 393 [.ref 94, .int xm] h r ∧ ∃ a : Int32, r.1 = some (.int a) ∧ r.2.2.1 = 0 ∧ r.2.2.2 = 0 ∧ ly_hy m_tt ly_TH r.2.1 ∧ ly_fr cst [20080, 40960, 41216] h r.2.1 ∧ (pu_A (ly_hv cst h 40960) s z xm.toInt a.toInt ∧ pu_E cst h r.2.1 20080 40960 s z xm.toInt) := by
  obtain ⟨M, hM, hl⟩ := hp_M (mi := 393) (k := 2) (by decide +kernel)
  have b0 : -2147483648 ≤ xm.toInt := xm.le_toInt
  have b1 : xm.toInt ≤ 2147483647 := xm.toInt_le
  have ml : ∀ {a b : am_H}, ly_fr cst [] a b → ly_fr cst [20080, 40960, 41216] a b := fun f r i v _ e => f r i v rfl e
  have go : hp_F cst strs (fun r : am_Q => ∃ a : Int32, r.1 = some (.int a) ∧ r.2.2.1 = 0 ∧ r.2.2.2 = 0 ∧ ly_hy m_tt ly_TH r.2.1 ∧ ly_fr cst [20080, 40960, 41216] h r.2.1 ∧ (pu_A (ly_hv cst h 40960) s z xm.toInt a.toInt ∧ pu_E cst h r.2.1 20080 40960 s z xm.toInt)) D M 0 (lv_args 0 [.ref 94, .int xm]) [] h := by
    have no : ¬ (0 ≤ xm.toInt ∧ xm.toInt < s) → ∀ (h' : am_H) (w : Int32), w.toInt = -2 → ly_hy m_tt ly_TH h' → ly_fr cst [] h h' → h.length ≤ h'.length → (fun r : am_Q => ∃ a : Int32, r.1 = some (.int a) ∧ r.2.2.1 = 0 ∧ r.2.2.2 = 0 ∧ ly_hy m_tt ly_TH r.2.1 ∧ ly_fr cst [20080, 40960, 41216] h r.2.1 ∧ (pu_A (ly_hv cst h 40960) s z xm.toInt a.toInt ∧ pu_E cst h r.2.1 20080 40960 s z xm.toInt)) (some (.int w), h', 0, 0) := fun nk h' w hw w1 w2 w3 => ⟨w, rfl, rfl, rfl, w1, ml w2, ⟨fun _ => hw, fun ok => absurd ok nk⟩, fun g => absurd g.1 nk, fun _ => ⟨w2 _ _ _ rfl kz, hp_same (show ly_ths ly_TH 160 = some (.inl (.int, 5, 0, 99)) from rfl) rfl hy w1 w2⟩⟩
    by_cases p1 : xm.toInt ≤ -1
    · exact px0 c hM (by omega) hy xm.toInt s b0 p1 s0 s1 ks rfl ⟨xm, rfl, rfl⟩ (no (fun k => by have := k.1; omega))
    by_cases p2 : s ≤ xm.toInt
    · exact px1 c hM (by omega) hy xm.toInt s (by omega) b1 s0 s1 (by omega) ks rfl ⟨xm, rfl, rfl⟩ (no (fun k => by have := k.2; omega))
    have ok : 0 ≤ xm.toInt ∧ xm.toInt < s := ⟨by omega, by omega⟩
    have loop : ∀ (N : Nat) (h' : am_H) (l : am_L) (i : Int), (z - i).toNat < N → 0 ≤ i → i ≤ z → ly_hy m_tt ly_TH h' → ly_fr cst [] h h' → (∀ k, 0 ≤ k → k < i → ly_hv cst h 40960 k ≠ some xm.toInt) → hp_a l 0 94 → hp_i l 1 xm.toInt → hp_i l 2 i → hp_F cst strs (fun r : am_Q => ∃ a : Int32, r.1 = some (.int a) ∧ r.2.2.1 = 0 ∧ r.2.2.2 = 0 ∧ ly_hy m_tt ly_TH r.2.1 ∧ ly_fr cst [20080, 40960, 41216] h r.2.1 ∧ (pu_A (ly_hv cst h 40960) s z xm.toInt a.toInt ∧ pu_E cst h r.2.1 20080 40960 s z xm.toInt)) D M 13 l [] h' := by
      intro N
      induction N with
      | zero => intro h' l i hN; omega
      | succ N ih =>
        intro h' l i hN i0 i1 hy' fr no' l0 l1 l2
        have row : ly_hv cst h' 40960 = ly_hv cst h 40960 := hp_same (show ly_ths ly_TH 160 = some (.inl (.int, 5, 0, 99)) from rfl) rfl hy hy' fr
        have kz' := fr _ _ _ rfl kz
        by_cases hi : i = z
        · rw [hi] at l2 no'
          have nq : ¬ pu_h (ly_hv cst h 40960) z xm.toInt := fun ⟨k, k0, k1, km⟩ => no' k k0 k1 km
          by_cases e5 : z = 5
          · rw [e5] at l2 kz'
            exact px5 c hM (by omega) hy' xm.toInt (by omega) (by omega) kz' l0 l1 l2 (fun h2 a ha u1 u2 u3 k2 => ⟨a, rfl, rfl, rfl, u1, ml (ly_fr_tr fr u2), ⟨fun nk => absurd ok nk, fun _ => ⟨fun q => absurd q nq, fun _ => ⟨fun _ => ha, fun n5 => absurd e5 n5⟩⟩⟩, fun g => absurd e5 g.2.2, fun _ => ⟨by rw [e5]; exact k2, by rw [hp_same (show ly_ths ly_TH 160 = some (.inl (.int, 5, 0, 99)) from rfl) rfl hy' u1 u2, row]⟩⟩)
          · refine px6 c hM (by omega) hy' xm.toInt z (by omega) (by omega) z0 (by omega) kz' l0 l1 l2 (fun l3 h3 v1 v2 v3 k3 o0 o1 o2 => ?_)
            have ez : ((z.toNat : Nat) : Int) = z := by omega
            have fr3 : ly_fr cst [] h h3 := ly_fr_tr fr v2
            refine px_ins (h0 := h3) c hM (by omega) (m := xm.toInt) (z := z) (by omega) (by omega) z0 (by omega) (fun h5 b hb s1' s2' s3' s4' => ⟨b, rfl, rfl, rfl, s1', ly_fr_tr (ml fr3) s2', ⟨fun nk => absurd ok nk, fun _ => ⟨fun q => absurd q nq, fun _ => ⟨fun e => absurd e e5, fun _ => hb⟩⟩⟩, fun _ => ⟨s3', ?_⟩, fun ng => absurd ⟨ok, nq, e5⟩ ng⟩) z.toNat h3 l3 (by omega) v1 (ly_fr_rf h3) k3 rfl o0 o1 (by rw [ez]; exact o2)
            show ly_hv cst h5 40960 = _
            rw [s4', hp_same (show ly_ths ly_TH 160 = some (.inl (.int, 5, 0, 99)) from rfl) rfl hy v1 fr3]
        · obtain ⟨x, kx, x0, x1⟩ := hp_row (cst := cst) (i := i) hy' (show ly_ths ly_TH 160 = some (.inl (.int, 5, 0, 99)) from rfl) i0 (by omega)
          have kx' : ly_hv cst h 40960 i = some x := by rw [← row]; exact kx
          by_cases q : x = xm.toInt
          · rw [q] at kx kx'
            have yes : pu_h (ly_hv cst h 40960) z xm.toInt := ⟨i, i0, by omega, kx'⟩
            exact px3 c hM (by omega) hy' xm.toInt z i (by omega) (by omega) z0 z1 i0 (by omega) (by omega) kz' kx l0 l1 l2 (fun h2 a ha u1 u2 u3 => ⟨a, rfl, rfl, rfl, u1, ml (ly_fr_tr fr u2), ⟨fun nk => absurd ok nk, fun _ => ⟨fun _ => ha, fun nh => absurd yes nh⟩⟩, fun g => absurd yes g.2.1, fun _ => ⟨u2 _ _ _ rfl kz', by rw [hp_same (show ly_ths ly_TH 160 = some (.inl (.int, 5, 0, 99)) from rfl) rfl hy' u1 u2, row]⟩⟩)
          · exact px4 c hM (by omega) hy' xm.toInt z i x (by omega) (by omega) z0 z1 i0 (by omega) (by omega) (by omega) (by omega) kz' kx (hp_ne (by omega)) l0 l1 l2 (fun l2' h2 u1 u2 u3 j0 j1 j2 => ih h2 l2' (i + 1) (by omega) (by omega) (by omega) u1 (ly_fr_tr fr u2) (fun k k0 k1 => if e : k = i then by
              rw [e, kx']
              intro z'
              exact q (Option.some.inj z') else no' k k0 (by omega)) j0 j1 j2)
    exact px2 c hM (by omega) hy xm.toInt s (by omega) (by omega) s0 s1 (by omega) ks rfl ⟨xm, rfl, rfl⟩ (fun l1 h1 u1 u2 u3 j0 j1 j2 => loop ((z - 0).toNat + 1) h1 l1 0 (Nat.lt_succ_self _) (by omega) z0 u1 u2 (fun k k0 k1 => by omega) j0 j1 j2)
  obtain ⟨n', r, hgo, a, r1, r2, r3, r4⟩ := go
  simp only [Nat.zero_add] at r2 r3
  exact ⟨r, Or.inr ⟨M, n', hM, hl, hgo⟩, a, r1, r2, r3, r4⟩
