/-! PRINTED by wip/p2/hp_weigh.py: weigh of both -/
theorem we0_k : hp_chk 120 0 2 [(0, (-2147483648), 2147483647), (1, (-2147483648), 2147483647)] [] [(0, .inr (.inr (.inl (some 16)))), (1, .inl (0, [(0, 1)])), (2, .inl (0, [(1, 1)]))] [] [] [] 2 [(4, ([], 2, [(0, (-2147483648), 2147483647), (1, (-2147483648), 2147483647)], [], [(0, .inr (.inr (.inl (some 16)))), (1, .inl (0, [(0, 1)])), (2, .inl (0, [(1, 1)]))], [.inr (.inr (.inl (some 17)))], []))] [] = true := by decide +kernel
theorem we0 {cst : am_K} {strs : List Nat} {Φ : am_Q → Prop} {D : Nat} {M : am_M} {h : am_H} {l : am_L} (c : hp_C cst strs D) (hM : m_P[120]? = some M) (hD : (2 : Int) ≤ (D : Int) + 1) (hy : ly_hy m_tt ly_TH h) (y s : Int) (b0 : (-2147483648) ≤ y) (t0 : y ≤ 2147483647) (b1 : (-2147483648) ≤ s) (t1 : s ≤ 2147483647) (l0 : hp_a l 0 16) (l1 : hp_i l 1 (y)) (l2 : hp_i l 2 (s)) (e0 : ∀ (l' : am_L) (h' : am_H), ly_hy m_tt ly_TH h' → ly_fr cst [] h h' → h.length ≤ h'.length → hp_a l' 0 16 → hp_i l' 1 (y) → hp_i l' 2 (s) → hp_F cst strs Φ D M 4 l' [.ref 17] h') : hp_F cst strs Φ D M 0 l [] h := by
  refine hp_arc c hM we0_k hD [y, s] rfl hy (hp_Bc (z := y) rfl b0 t0 (hp_Bc (z := s) rfl b1 t1 hp_Bn)) hp_Fn hp_Kn (hp_La l0 (hp_Li (z := (0 + (1 * y + 0))) l1 rfl (by omega) (hp_Li (z := (0 + (1 * s + 0))) l2 rfl (by omega) hp_Ln))) trivial ?_ ?_
  · intro p_9 hp ys l' st' h' hys a1_9 a2 a3 gZ gL gS
    rcases List.mem_cons.mp hp with rfl | hp
    · obtain rfl := hp_y0 hys
      obtain ⟨t0, rfl, g0⟩ := hp_gSa gS (by decide)
      cases hp_gSn g0
      exact e0 l' h' a1_9 a2 a3 (hp_gLa gL (List.mem_of_getElem? (i := 0) rfl) (by decide)) (hp_gLi (z := (0 + (1 * y + 0))) gL (List.mem_of_getElem? (i := 1) rfl) rfl (by omega)) (hp_gLi (z := (0 + (1 * s + 0))) gL (List.mem_of_getElem? (i := 2) rfl) rfl (by omega))
    cases hp
  · intro p_9 hp ys v_9 h' hys a1_9 a2 a3 gZ gS
    cases hp
theorem weR0_k : hq_chk [39, 27, 25, 79, 80] 120 7 2 [(0, (-2147483648), (-1)), (1, (-2147483648), 2147483647)] [] [(0, .inr (.inr (.inl (some 16)))), (1, .inl (0, [(0, 1)])), (2, .inl (0, [(1, 1)]))] [] [] [] 5 [] [([], 2, [(0, (-2147483648), (-1)), (1, (-2147483648), 2147483647)], [], [], [.inl ((-2), [])], [])] = true := by decide +kernel
theorem weR0 {cst : am_K} {strs : List Nat} {Φ : am_Q → Prop} {D : Nat} {M : am_M} {h : am_H} {l : am_L} (c : hp_C cst strs D) (hM : m_P[120]? = some M) (hD : (5 : Int) ≤ (D : Int) + 1) (hy : ly_hy m_tt ly_TH h) (y s : Int) (b0 : (-2147483648) ≤ y) (t0 : y ≤ (-1)) (b1 : (-2147483648) ≤ s) (t1 : s ≤ 2147483647) (l0 : hp_a l 0 16) (l1 : hp_i l 1 (y)) (l2 : hp_i l 2 (s)) (r0 : ∀ (h' : am_H) (y0 : Int32), y0.toInt = (-2) → ly_hy m_tt ly_TH h' → ly_fr cst [] h h' → h.length ≤ h'.length → Φ (some (.int y0), h', 0, 0)) : hp_F cst strs Φ D M 7 l [] h := by
  refine hq_arc c hM weR0_k hD [y, s] rfl hy (hp_Bc (z := y) rfl b0 t0 (hp_Bc (z := s) rfl b1 t1 hp_Bn)) hp_Fn hp_Kn (hp_La l0 (hp_Li (z := (0 + (1 * y + 0))) l1 rfl (by omega) (hp_Li (z := (0 + (1 * s + 0))) l2 rfl (by omega) hp_Ln))) trivial ?_ ?_
  · intro p_9 hp ys l' st' h' hys a1_9 a2 a3 gZ gL gS
    cases hp
  · intro p_9 hp ys v_9 h' hys a1_9 a2 a3 gZ gS
    rcases List.mem_cons.mp hp with rfl | hp
    · obtain rfl := hp_y0 hys
      cases v_9 with
      | none => cases gS
      | some wz =>
        obtain ⟨y0, t0, s0_9, q0, -⟩ := hp_gSi (z := ((-2) + 0)) gS rfl
        cases s0_9
        exact r0 h' y0 (by omega) a1_9 a2 a3
    cases hp
theorem weR1_k : hq_chk [39, 27, 25, 79, 80] 120 7 2 [(0, 400, 2147483647), (1, (-2147483648), 2147483647)] [] [(0, .inr (.inr (.inl (some 16)))), (1, .inl (0, [(0, 1)])), (2, .inl (0, [(1, 1)]))] [] [] [] 5 [] [([], 2, [(0, 400, 2147483647), (1, (-2147483648), 2147483647)], [], [], [.inl ((-2), [])], [])] = true := by decide +kernel
theorem weR1 {cst : am_K} {strs : List Nat} {Φ : am_Q → Prop} {D : Nat} {M : am_M} {h : am_H} {l : am_L} (c : hp_C cst strs D) (hM : m_P[120]? = some M) (hD : (5 : Int) ≤ (D : Int) + 1) (hy : ly_hy m_tt ly_TH h) (y s : Int) (b0 : 400 ≤ y) (t0 : y ≤ 2147483647) (b1 : (-2147483648) ≤ s) (t1 : s ≤ 2147483647) (l0 : hp_a l 0 16) (l1 : hp_i l 1 (y)) (l2 : hp_i l 2 (s)) (r0 : ∀ (h' : am_H) (y0 : Int32), y0.toInt = (-2) → ly_hy m_tt ly_TH h' → ly_fr cst [] h h' → h.length ≤ h'.length → Φ (some (.int y0), h', 0, 0)) : hp_F cst strs Φ D M 7 l [] h := by
  refine hq_arc c hM weR1_k hD [y, s] rfl hy (hp_Bc (z := y) rfl b0 t0 (hp_Bc (z := s) rfl b1 t1 hp_Bn)) hp_Fn hp_Kn (hp_La l0 (hp_Li (z := (0 + (1 * y + 0))) l1 rfl (by omega) (hp_Li (z := (0 + (1 * s + 0))) l2 rfl (by omega) hp_Ln))) trivial ?_ ?_
  · intro p_9 hp ys l' st' h' hys a1_9 a2 a3 gZ gL gS
    cases hp
  · intro p_9 hp ys v_9 h' hys a1_9 a2 a3 gZ gS
    rcases List.mem_cons.mp hp with rfl | hp
    · obtain rfl := hp_y0 hys
      cases v_9 with
      | none => cases gS
      | some wz =>
        obtain ⟨y0, t0, s0_9, q0, -⟩ := hp_gSi (z := ((-2) + 0)) gS rfl
        cases s0_9
        exact r0 h' y0 (by omega) a1_9 a2 a3
    cases hp
theorem weR2_k : hq_chk [39, 27, 25, 79, 80] 120 7 2 [(0, 0, 399), (1, (-2147483648), (-1))] [] [(0, .inr (.inr (.inl (some 16)))), (1, .inl (0, [(0, 1)])), (2, .inl (0, [(1, 1)]))] [] [] [] 5 [] [([], 2, [(0, 0, 399), (1, (-2147483648), (-1))], [], [], [.inl ((-2), [])], [])] = true := by decide +kernel
theorem weR2 {cst : am_K} {strs : List Nat} {Φ : am_Q → Prop} {D : Nat} {M : am_M} {h : am_H} {l : am_L} (c : hp_C cst strs D) (hM : m_P[120]? = some M) (hD : (5 : Int) ≤ (D : Int) + 1) (hy : ly_hy m_tt ly_TH h) (y s : Int) (b0 : 0 ≤ y) (t0 : y ≤ 399) (b1 : (-2147483648) ≤ s) (t1 : s ≤ (-1)) (l0 : hp_a l 0 16) (l1 : hp_i l 1 (y)) (l2 : hp_i l 2 (s)) (r0 : ∀ (h' : am_H) (y0 : Int32), y0.toInt = (-2) → ly_hy m_tt ly_TH h' → ly_fr cst [] h h' → h.length ≤ h'.length → Φ (some (.int y0), h', 0, 0)) : hp_F cst strs Φ D M 7 l [] h := by
  refine hq_arc c hM weR2_k hD [y, s] rfl hy (hp_Bc (z := y) rfl b0 t0 (hp_Bc (z := s) rfl b1 t1 hp_Bn)) hp_Fn hp_Kn (hp_La l0 (hp_Li (z := (0 + (1 * y + 0))) l1 rfl (by omega) (hp_Li (z := (0 + (1 * s + 0))) l2 rfl (by omega) hp_Ln))) trivial ?_ ?_
  · intro p_9 hp ys l' st' h' hys a1_9 a2 a3 gZ gL gS
    cases hp
  · intro p_9 hp ys v_9 h' hys a1_9 a2 a3 gZ gS
    rcases List.mem_cons.mp hp with rfl | hp
    · obtain rfl := hp_y0 hys
      cases v_9 with
      | none => cases gS
      | some wz =>
        obtain ⟨y0, t0, s0_9, q0, -⟩ := hp_gSi (z := ((-2) + 0)) gS rfl
        cases s0_9
        exact r0 h' y0 (by omega) a1_9 a2 a3
    cases hp
theorem weR3_k : hq_chk [39, 27, 25, 79, 80] 120 7 2 [(0, 0, 399), (1, 6, 2147483647)] [] [(0, .inr (.inr (.inl (some 16)))), (1, .inl (0, [(0, 1)])), (2, .inl (0, [(1, 1)]))] [] [] [] 5 [] [([], 2, [(0, 0, 399), (1, 6, 2147483647)], [], [], [.inl ((-2), [])], [])] = true := by decide +kernel
theorem weR3 {cst : am_K} {strs : List Nat} {Φ : am_Q → Prop} {D : Nat} {M : am_M} {h : am_H} {l : am_L} (c : hp_C cst strs D) (hM : m_P[120]? = some M) (hD : (5 : Int) ≤ (D : Int) + 1) (hy : ly_hy m_tt ly_TH h) (y s : Int) (b0 : 0 ≤ y) (t0 : y ≤ 399) (b1 : 6 ≤ s) (t1 : s ≤ 2147483647) (l0 : hp_a l 0 16) (l1 : hp_i l 1 (y)) (l2 : hp_i l 2 (s)) (r0 : ∀ (h' : am_H) (y0 : Int32), y0.toInt = (-2) → ly_hy m_tt ly_TH h' → ly_fr cst [] h h' → h.length ≤ h'.length → Φ (some (.int y0), h', 0, 0)) : hp_F cst strs Φ D M 7 l [] h := by
  refine hq_arc c hM weR3_k hD [y, s] rfl hy (hp_Bc (z := y) rfl b0 t0 (hp_Bc (z := s) rfl b1 t1 hp_Bn)) hp_Fn hp_Kn (hp_La l0 (hp_Li (z := (0 + (1 * y + 0))) l1 rfl (by omega) (hp_Li (z := (0 + (1 * s + 0))) l2 rfl (by omega) hp_Ln))) trivial ?_ ?_
  · intro p_9 hp ys l' st' h' hys a1_9 a2 a3 gZ gL gS
    cases hp
  · intro p_9 hp ys v_9 h' hys a1_9 a2 a3 gZ gS
    rcases List.mem_cons.mp hp with rfl | hp
    · obtain rfl := hp_y0 hys
      cases v_9 with
      | none => cases gS
      | some wz =>
        obtain ⟨y0, t0, s0_9, q0, -⟩ := hp_gSi (z := ((-2) + 0)) gS rfl
        cases s0_9
        exact r0 h' y0 (by omega) a1_9 a2 a3
    cases hp
theorem weN0_k : hq_chk [39, 27, 25, 79, 80] 120 7 2 [(0, 0, 399), (1, 0, 5)] [] [(0, .inr (.inr (.inl (some 16)))), (1, .inl (0, [(0, 1)])), (2, .inl (0, [(1, 1)]))] [] [(261, (0, []), (0, []))] [] 5 [] [([], 2, [(0, 0, 399), (1, 0, 5)], [], [], [.inl ((-1), [])], [])] = true := by decide +kernel
theorem weN0 {cst : am_K} {strs : List Nat} {Φ : am_Q → Prop} {D : Nat} {M : am_M} {h : am_H} {l : am_L} (c : hp_C cst strs D) (hM : m_P[120]? = some M) (hD : (5 : Int) ≤ (D : Int) + 1) (hy : ly_hy m_tt ly_TH h) (y s : Int) (b0 : 0 ≤ y) (t0 : y ≤ 399) (b1 : 0 ≤ s) (t1 : s ≤ 5) (k0 : ly_hv cst h 261 0 = some 0) (l0 : hp_a l 0 16) (l1 : hp_i l 1 (y)) (l2 : hp_i l 2 (s)) (r0 : ∀ (h' : am_H) (y0 : Int32), y0.toInt = (-1) → ly_hy m_tt ly_TH h' → ly_fr cst [] h h' → h.length ≤ h'.length → Φ (some (.int y0), h', 0, 0)) : hp_F cst strs Φ D M 7 l [] h := by
  refine hq_arc c hM weN0_k hD [y, s] rfl hy (hp_Bc (z := y) rfl b0 t0 (hp_Bc (z := s) rfl b1 t1 hp_Bn)) hp_Fn (hp_Kc (zi := (0 + 0)) (zv := (0 + 0)) k0 rfl rfl (by omega) (by omega) hp_Kn) (hp_La l0 (hp_Li (z := (0 + (1 * y + 0))) l1 rfl (by omega) (hp_Li (z := (0 + (1 * s + 0))) l2 rfl (by omega) hp_Ln))) trivial ?_ ?_
  · intro p_9 hp ys l' st' h' hys a1_9 a2 a3 gZ gL gS
    cases hp
  · intro p_9 hp ys v_9 h' hys a1_9 a2 a3 gZ gS
    rcases List.mem_cons.mp hp with rfl | hp
    · obtain rfl := hp_y0 hys
      cases v_9 with
      | none => cases gS
      | some wz =>
        obtain ⟨y0, t0, s0_9, q0, -⟩ := hp_gSi (z := ((-1) + 0)) gS rfl
        cases s0_9
        exact r0 h' y0 (by omega) a1_9 a2 a3
    cases hp
theorem weN1_k : hq_chk [39, 27, 25, 79, 80] 120 7 4 [(0, 0, 399), (1, 0, 5), (2, 1, 1200), (3, 0, 255)] [] [(0, .inr (.inr (.inl (some 16)))), (1, .inl (0, [(0, 1)])), (2, .inl (0, [(1, 1)]))] [] [(261, (0, []), (0, [(2, 1)])), (768, (0, []), (0, [(3, 1)])), (61000, ((-1), [(3, 1)]), (1, []))] [] 5 [] [([], 4, [(0, 0, 399), (1, 0, 5), (2, 1, 1200), (3, 0, 255)], [], [], [.inl ((-1), [])], [])] = true := by decide +kernel
theorem weN1 {cst : am_K} {strs : List Nat} {Φ : am_Q → Prop} {D : Nat} {M : am_M} {h : am_H} {l : am_L} (c : hp_C cst strs D) (hM : m_P[120]? = some M) (hD : (5 : Int) ≤ (D : Int) + 1) (hy : ly_hy m_tt ly_TH h) (y s t q : Int) (b0 : 0 ≤ y) (t0 : y ≤ 399) (b1 : 0 ≤ s) (t1 : s ≤ 5) (b2 : 1 ≤ t) (t2 : t ≤ 1200) (b3 : 0 ≤ q) (t3 : q ≤ 255) (k0 : ly_hv cst h 261 0 = some (t)) (k1 : ly_hv cst h 768 0 = some (q)) (k2 : ly_hv cst h 61000 (q - 1) = some 1) (l0 : hp_a l 0 16) (l1 : hp_i l 1 (y)) (l2 : hp_i l 2 (s)) (r0 : ∀ (h' : am_H) (y0 : Int32), y0.toInt = (-1) → ly_hy m_tt ly_TH h' → ly_fr cst [] h h' → h.length ≤ h'.length → Φ (some (.int y0), h', 0, 0)) : hp_F cst strs Φ D M 7 l [] h := by
  refine hq_arc c hM weN1_k hD [y, s, t, q] rfl hy (hp_Bc (z := y) rfl b0 t0 (hp_Bc (z := s) rfl b1 t1 (hp_Bc (z := t) rfl b2 t2 (hp_Bc (z := q) rfl b3 t3 hp_Bn)))) hp_Fn (hp_Kc (zi := (0 + 0)) (zv := (0 + (1 * t + 0))) k0 rfl rfl (by omega) (by omega) (hp_Kc (zi := (0 + 0)) (zv := (0 + (1 * q + 0))) k1 rfl rfl (by omega) (by omega) (hp_Kc (zi := ((-1) + (1 * q + 0))) (zv := (1 + 0)) k2 rfl rfl (by omega) (by omega) hp_Kn))) (hp_La l0 (hp_Li (z := (0 + (1 * y + 0))) l1 rfl (by omega) (hp_Li (z := (0 + (1 * s + 0))) l2 rfl (by omega) hp_Ln))) trivial ?_ ?_
  · intro p_9 hp ys l' st' h' hys a1_9 a2 a3 gZ gL gS
    cases hp
  · intro p_9 hp ys v_9 h' hys a1_9 a2 a3 gZ gS
    rcases List.mem_cons.mp hp with rfl | hp
    · obtain rfl := hp_y0 hys
      cases v_9 with
      | none => cases gS
      | some wz =>
        obtain ⟨y0, t0, s0_9, q0, -⟩ := hp_gSi (z := ((-1) + 0)) gS rfl
        cases s0_9
        exact r0 h' y0 (by omega) a1_9 a2 a3
    cases hp
theorem weN2_k : hq_chk [39, 27, 25, 79, 80] 120 7 2 [(0, 0, 399), (1, 0, 5)] [] [(0, .inr (.inr (.inl (some 16)))), (1, .inl (0, [(0, 1)])), (2, .inl (0, [(1, 1)]))] [] [(261, (0, []), (1, [])), (768, (0, []), (1, []))] [] 5 [] [([], 2, [(0, 0, 399), (1, 0, 5)], [], [], [.inl ((-1), [])], [])] = true := by decide +kernel
theorem weN2 {cst : am_K} {strs : List Nat} {Φ : am_Q → Prop} {D : Nat} {M : am_M} {h : am_H} {l : am_L} (c : hp_C cst strs D) (hM : m_P[120]? = some M) (hD : (5 : Int) ≤ (D : Int) + 1) (hy : ly_hy m_tt ly_TH h) (y s : Int) (b0 : 0 ≤ y) (t0 : y ≤ 399) (b1 : 0 ≤ s) (t1 : s ≤ 5) (k0 : ly_hv cst h 261 0 = some 1) (k1 : ly_hv cst h 768 0 = some 1) (l0 : hp_a l 0 16) (l1 : hp_i l 1 (y)) (l2 : hp_i l 2 (s)) (r0 : ∀ (h' : am_H) (y0 : Int32), y0.toInt = (-1) → ly_hy m_tt ly_TH h' → ly_fr cst [] h h' → h.length ≤ h'.length → Φ (some (.int y0), h', 0, 0)) : hp_F cst strs Φ D M 7 l [] h := by
  refine hq_arc c hM weN2_k hD [y, s] rfl hy (hp_Bc (z := y) rfl b0 t0 (hp_Bc (z := s) rfl b1 t1 hp_Bn)) hp_Fn (hp_Kc (zi := (0 + 0)) (zv := (1 + 0)) k0 rfl rfl (by omega) (by omega) (hp_Kc (zi := (0 + 0)) (zv := (1 + 0)) k1 rfl rfl (by omega) (by omega) hp_Kn)) (hp_La l0 (hp_Li (z := (0 + (1 * y + 0))) l1 rfl (by omega) (hp_Li (z := (0 + (1 * s + 0))) l2 rfl (by omega) hp_Ln))) trivial ?_ ?_
  · intro p_9 hp ys l' st' h' hys a1_9 a2 a3 gZ gL gS
    cases hp
  · intro p_9 hp ys v_9 h' hys a1_9 a2 a3 gZ gS
    rcases List.mem_cons.mp hp with rfl | hp
    · obtain rfl := hp_y0 hys
      cases v_9 with
      | none => cases gS
      | some wz =>
        obtain ⟨y0, t0, s0_9, q0, -⟩ := hp_gSi (z := ((-1) + 0)) gS rfl
        cases s0_9
        exact r0 h' y0 (by omega) a1_9 a2 a3
    cases hp
theorem weN3_k : hq_chk [39, 27, 25, 79, 80] 120 7 4 [(0, 0, 399), (1, 0, 5), (2, 2, 1200), (3, 0, 255)] [] [(0, .inr (.inr (.inl (some 16)))), (1, .inl (0, [(0, 1)])), (2, .inl (0, [(1, 1)]))] [] [(261, (0, []), (0, [(2, 1)])), (768, (0, []), (1, [])), (768, (1, []), (0, [(3, 1)])), (61000, ((-59), [(3, 1)]), (1, []))] [] 5 [] [([], 4, [(0, 0, 399), (1, 0, 5), (2, 2, 1200), (3, 0, 255)], [], [], [.inl ((-1), [])], [])] = true := by decide +kernel
theorem weN3 {cst : am_K} {strs : List Nat} {Φ : am_Q → Prop} {D : Nat} {M : am_M} {h : am_H} {l : am_L} (c : hp_C cst strs D) (hM : m_P[120]? = some M) (hD : (5 : Int) ≤ (D : Int) + 1) (hy : ly_hy m_tt ly_TH h) (y s t q : Int) (b0 : 0 ≤ y) (t0 : y ≤ 399) (b1 : 0 ≤ s) (t1 : s ≤ 5) (b2 : 2 ≤ t) (t2 : t ≤ 1200) (b3 : 0 ≤ q) (t3 : q ≤ 255) (k0 : ly_hv cst h 261 0 = some (t)) (k1 : ly_hv cst h 768 0 = some 1) (k2 : ly_hv cst h 768 1 = some (q)) (k3 : ly_hv cst h 61000 (q - 59) = some 1) (l0 : hp_a l 0 16) (l1 : hp_i l 1 (y)) (l2 : hp_i l 2 (s)) (r0 : ∀ (h' : am_H) (y0 : Int32), y0.toInt = (-1) → ly_hy m_tt ly_TH h' → ly_fr cst [] h h' → h.length ≤ h'.length → Φ (some (.int y0), h', 0, 0)) : hp_F cst strs Φ D M 7 l [] h := by
  refine hq_arc c hM weN3_k hD [y, s, t, q] rfl hy (hp_Bc (z := y) rfl b0 t0 (hp_Bc (z := s) rfl b1 t1 (hp_Bc (z := t) rfl b2 t2 (hp_Bc (z := q) rfl b3 t3 hp_Bn)))) hp_Fn (hp_Kc (zi := (0 + 0)) (zv := (0 + (1 * t + 0))) k0 rfl rfl (by omega) (by omega) (hp_Kc (zi := (0 + 0)) (zv := (1 + 0)) k1 rfl rfl (by omega) (by omega) (hp_Kc (zi := (1 + 0)) (zv := (0 + (1 * q + 0))) k2 rfl rfl (by omega) (by omega) (hp_Kc (zi := ((-59) + (1 * q + 0))) (zv := (1 + 0)) k3 rfl rfl (by omega) (by omega) hp_Kn)))) (hp_La l0 (hp_Li (z := (0 + (1 * y + 0))) l1 rfl (by omega) (hp_Li (z := (0 + (1 * s + 0))) l2 rfl (by omega) hp_Ln))) trivial ?_ ?_
  · intro p_9 hp ys l' st' h' hys a1_9 a2 a3 gZ gL gS
    cases hp
  · intro p_9 hp ys v_9 h' hys a1_9 a2 a3 gZ gS
    rcases List.mem_cons.mp hp with rfl | hp
    · obtain rfl := hp_y0 hys
      cases v_9 with
      | none => cases gS
      | some wz =>
        obtain ⟨y0, t0, s0_9, q0, -⟩ := hp_gSi (z := ((-1) + 0)) gS rfl
        cases s0_9
        exact r0 h' y0 (by omega) a1_9 a2 a3
    cases hp
theorem weG_k : hq_chk [39, 27, 25, 79, 80] 120 7 3 [(0, 0, 399), (1, 0, 5), (2, 2, 1200)] [] [(0, .inr (.inr (.inl (some 16)))), (1, .inl (0, [(0, 1)])), (2, .inl (0, [(1, 1)]))] [] [(261, (0, []), (0, [(2, 1)])), (768, (0, []), (1, [])), (768, (1, []), (59, []))] [] 5 [(58, ([], 3, [(0, 0, 399), (1, 0, 5), (2, 2, 1200)], [], [(0, .inr (.inr (.inl (some 16)))), (1, .inl (0, [(0, 1)])), (2, .inl (0, [(1, 1)]))], [.inl (2, []), .inr (.inr (.inl (some 17))), .inr (.inr (.inl (some 91)))], []))] [] = true := by decide +kernel
theorem weG {cst : am_K} {strs : List Nat} {Φ : am_Q → Prop} {D : Nat} {M : am_M} {h : am_H} {l : am_L} (c : hp_C cst strs D) (hM : m_P[120]? = some M) (hD : (5 : Int) ≤ (D : Int) + 1) (hy : ly_hy m_tt ly_TH h) (y s t : Int) (b0 : 0 ≤ y) (t0 : y ≤ 399) (b1 : 0 ≤ s) (t1 : s ≤ 5) (b2 : 2 ≤ t) (t2 : t ≤ 1200) (k0 : ly_hv cst h 261 0 = some (t)) (k1 : ly_hv cst h 768 0 = some 1) (k2 : ly_hv cst h 768 1 = some 59) (l0 : hp_a l 0 16) (l1 : hp_i l 1 (y)) (l2 : hp_i l 2 (s)) (e0 : ∀ (l' : am_L) (h' : am_H) (y0 : Int32), y0.toInt = 2 → ly_hy m_tt ly_TH h' → ly_fr cst [] h h' → h.length ≤ h'.length → hp_a l' 0 16 → hp_i l' 1 (y) → hp_i l' 2 (s) → hp_F cst strs Φ D M 58 l' [.int y0, .ref 17, .ref 91] h') : hp_F cst strs Φ D M 7 l [] h := by
  refine hq_arc c hM weG_k hD [y, s, t] rfl hy (hp_Bc (z := y) rfl b0 t0 (hp_Bc (z := s) rfl b1 t1 (hp_Bc (z := t) rfl b2 t2 hp_Bn))) hp_Fn (hp_Kc (zi := (0 + 0)) (zv := (0 + (1 * t + 0))) k0 rfl rfl (by omega) (by omega) (hp_Kc (zi := (0 + 0)) (zv := (1 + 0)) k1 rfl rfl (by omega) (by omega) (hp_Kc (zi := (1 + 0)) (zv := (59 + 0)) k2 rfl rfl (by omega) (by omega) hp_Kn))) (hp_La l0 (hp_Li (z := (0 + (1 * y + 0))) l1 rfl (by omega) (hp_Li (z := (0 + (1 * s + 0))) l2 rfl (by omega) hp_Ln))) trivial ?_ ?_
  · intro p_9 hp ys l' st' h' hys a1_9 a2 a3 gZ gL gS
    rcases List.mem_cons.mp hp with rfl | hp
    · obtain rfl := hp_y0 hys
      obtain ⟨y0, t0, rfl, q0, g0⟩ := hp_gSi (z := (2 + 0)) gS rfl
      obtain ⟨t1, rfl, g1⟩ := hp_gSa g0 (by decide)
      obtain ⟨t2, rfl, g2⟩ := hp_gSa g1 (by decide)
      cases hp_gSn g2
      exact e0 l' h' y0 (by omega) a1_9 a2 a3 (hp_gLa gL (List.mem_of_getElem? (i := 0) rfl) (by decide)) (hp_gLi (z := (0 + (1 * y + 0))) gL (List.mem_of_getElem? (i := 1) rfl) rfl (by omega)) (hp_gLi (z := (0 + (1 * s + 0))) gL (List.mem_of_getElem? (i := 2) rfl) rfl (by omega))
    cases hp
  · intro p_9 hp ys v_9 h' hys a1_9 a2 a3 gZ gS
    cases hp
theorem weF0_k : hp_chk 120 61 2 [(0, 0, 399), (1, 0, 5)] [] [(0, .inr (.inr (.inl (some 16)))), (1, .inl (0, [(0, 1)])), (2, .inl (0, [(1, 1)]))] [.inl (0, [])] [] [] 2 [] [([], 2, [(0, 0, 399), (1, 0, 5)], [], [], [.inl ((-1), [])], [])] = true := by decide +kernel
theorem weF0 {cst : am_K} {strs : List Nat} {Φ : am_Q → Prop} {D : Nat} {M : am_M} {h : am_H} {l : am_L} (c : hp_C cst strs D) (hM : m_P[120]? = some M) (hD : (2 : Int) ≤ (D : Int) + 1) (hy : ly_hy m_tt ly_TH h) (y s : Int) (x0 : Int32) (hx0 : x0.toInt = 0) (b0 : 0 ≤ y) (t0 : y ≤ 399) (b1 : 0 ≤ s) (t1 : s ≤ 5) (l0 : hp_a l 0 16) (l1 : hp_i l 1 (y)) (l2 : hp_i l 2 (s)) (r0 : ∀ (h' : am_H) (y0 : Int32), y0.toInt = (-1) → ly_hy m_tt ly_TH h' → ly_fr cst [] h h' → h.length ≤ h'.length → Φ (some (.int y0), h', 0, 0)) : hp_F cst strs Φ D M 61 l [.int x0] h := by
  refine hp_arc c hM weF0_k hD [y, s] rfl hy (hp_Bc (z := y) rfl b0 t0 (hp_Bc (z := s) rfl b1 t1 hp_Bn)) hp_Fn hp_Kn (hp_La l0 (hp_Li (z := (0 + (1 * y + 0))) l1 rfl (by omega) (hp_Li (z := (0 + (1 * s + 0))) l2 rfl (by omega) hp_Ln))) (hp_Si (z := (0 + 0)) rfl (by omega) trivial) ?_ ?_
  · intro p_9 hp ys l' st' h' hys a1_9 a2 a3 gZ gL gS
    cases hp
  · intro p_9 hp ys v_9 h' hys a1_9 a2 a3 gZ gS
    rcases List.mem_cons.mp hp with rfl | hp
    · obtain rfl := hp_y0 hys
      cases v_9 with
      | none => cases gS
      | some wz =>
        obtain ⟨y0, t0, s0_9, q0, -⟩ := hp_gSi (z := ((-1) + 0)) gS rfl
        cases s0_9
        exact r0 h' y0 (by omega) a1_9 a2 a3
    cases hp
theorem weF1_k : hq_chk [39, 27, 25, 79, 80] 120 61 4 [(0, 0, 399), (1, 0, 5), (2, 1, 1200), (3, (-9223372036854775808), 9223372036854775807)] [] [(0, .inr (.inr (.inl (some 16)))), (1, .inl (0, [(0, 1)])), (2, .inl (0, [(1, 1)]))] [.inl (1, [])] [(261, (0, []), (0, [(2, 1)])), (1280, (0, []), (0, [(3, 1)]))] [] 5 [(81, ([], 4, [(0, 0, 399), (1, 0, 5), (2, 1, 1200), (3, (-9223372036854775808), 9223372036854775807)], [], [(0, .inr (.inr (.inl (some 16)))), (1, .inl (0, [(0, 1)])), (2, .inl (0, [(1, 1)]))], [.inl (0, [(1, 1)]), .inl (0, [(0, 1)]), .inr (.inl (0, [(3, 1)])), .inl (0, []), .inr (.inr (.inl (some 30)))], []))] [] = true := by decide +kernel
theorem weF1 {cst : am_K} {strs : List Nat} {Φ : am_Q → Prop} {D : Nat} {M : am_M} {h : am_H} {l : am_L} (c : hp_C cst strs D) (hM : m_P[120]? = some M) (hD : (5 : Int) ≤ (D : Int) + 1) (hy : ly_hy m_tt ly_TH h) (y s t d : Int) (x0 : Int32) (hx0 : x0.toInt = 1) (b0 : 0 ≤ y) (t0 : y ≤ 399) (b1 : 0 ≤ s) (t1 : s ≤ 5) (b2 : 1 ≤ t) (t2 : t ≤ 1200) (b3 : (-9223372036854775808) ≤ d) (t3 : d ≤ 9223372036854775807) (k0 : ly_hv cst h 261 0 = some (t)) (k1 : ly_hv cst h 1280 0 = some (d)) (l0 : hp_a l 0 16) (l1 : hp_i l 1 (y)) (l2 : hp_i l 2 (s)) (e0 : ∀ (l' : am_L) (h' : am_H) (y0 : Int32) (y1 : Int32) (y2 : Int64) (y3 : Int32), y0.toInt = (s) → y1.toInt = (y) → y2.toInt = (d) → y3.toInt = 0 → ly_hy m_tt ly_TH h' → ly_fr cst [] h h' → h.length ≤ h'.length → hp_a l' 0 16 → hp_i l' 1 (y) → hp_i l' 2 (s) → hp_F cst strs Φ D M 81 l' [.int y0, .int y1, .long y2, .int y3, .ref 30] h') : hp_F cst strs Φ D M 61 l [.int x0] h := by
  refine hq_arc c hM weF1_k hD [y, s, t, d] rfl hy (hp_Bc (z := y) rfl b0 t0 (hp_Bc (z := s) rfl b1 t1 (hp_Bc (z := t) rfl b2 t2 (hp_Bc (z := d) rfl b3 t3 hp_Bn)))) hp_Fn (hp_Kc (zi := (0 + 0)) (zv := (0 + (1 * t + 0))) k0 rfl rfl (by omega) (by omega) (hp_Kc (zi := (0 + 0)) (zv := (0 + (1 * d + 0))) k1 rfl rfl (by omega) (by omega) hp_Kn)) (hp_La l0 (hp_Li (z := (0 + (1 * y + 0))) l1 rfl (by omega) (hp_Li (z := (0 + (1 * s + 0))) l2 rfl (by omega) hp_Ln))) (hp_Si (z := (1 + 0)) rfl (by omega) trivial) ?_ ?_
  · intro p_9 hp ys l' st' h' hys a1_9 a2 a3 gZ gL gS
    rcases List.mem_cons.mp hp with rfl | hp
    · obtain rfl := hp_y0 hys
      obtain ⟨y0, t0, rfl, q0, g0⟩ := hp_gSi (z := (0 + (1 * s + 0))) gS rfl
      obtain ⟨y1, t1, rfl, q1_9, g1⟩ := hp_gSi (z := (0 + (1 * y + 0))) g0 rfl
      obtain ⟨y2, t2, rfl, q2_9, g2⟩ := hp_gSj (z := (0 + (1 * d + 0))) g1 rfl
      obtain ⟨y3, t3, rfl, q3_9, g3_9⟩ := hp_gSi (z := (0 + 0)) g2 rfl
      obtain ⟨t4_9, rfl, g4⟩ := hp_gSa g3_9 (by decide)
      cases hp_gSn g4
      exact e0 l' h' y0 y1 y2 y3 (by omega) (by omega) (by omega) (by omega) a1_9 a2 a3 (hp_gLa gL (List.mem_of_getElem? (i := 0) rfl) (by decide)) (hp_gLi (z := (0 + (1 * y + 0))) gL (List.mem_of_getElem? (i := 1) rfl) rfl (by omega)) (hp_gLi (z := (0 + (1 * s + 0))) gL (List.mem_of_getElem? (i := 2) rfl) rfl (by omega))
    cases hp
  · intro p_9 hp ys v_9 h' hys a1_9 a2 a3 gZ gS
    cases hp
theorem weC0_k : hp_chk 120 84 2 [(0, 0, 399), (1, 0, 5)] [] [(0, .inr (.inr (.inl (some 16)))), (1, .inl (0, [(0, 1)])), (2, .inl (0, [(1, 1)]))] [.inl ((-1), [])] [] [] 2 [] [([], 2, [(0, 0, 399), (1, 0, 5)], [], [], [.inl ((-4), [])], [])] = true := by decide +kernel
theorem weC0 {cst : am_K} {strs : List Nat} {Φ : am_Q → Prop} {D : Nat} {M : am_M} {h : am_H} {l : am_L} (c : hp_C cst strs D) (hM : m_P[120]? = some M) (hD : (2 : Int) ≤ (D : Int) + 1) (hy : ly_hy m_tt ly_TH h) (y s : Int) (x0 : Int32) (hx0 : x0.toInt = (-1)) (b0 : 0 ≤ y) (t0 : y ≤ 399) (b1 : 0 ≤ s) (t1 : s ≤ 5) (l0 : hp_a l 0 16) (l1 : hp_i l 1 (y)) (l2 : hp_i l 2 (s)) (r0 : ∀ (h' : am_H) (y0 : Int32), y0.toInt = (-4) → ly_hy m_tt ly_TH h' → ly_fr cst [] h h' → h.length ≤ h'.length → Φ (some (.int y0), h', 0, 0)) : hp_F cst strs Φ D M 84 l [.int x0] h := by
  refine hp_arc c hM weC0_k hD [y, s] rfl hy (hp_Bc (z := y) rfl b0 t0 (hp_Bc (z := s) rfl b1 t1 hp_Bn)) hp_Fn hp_Kn (hp_La l0 (hp_Li (z := (0 + (1 * y + 0))) l1 rfl (by omega) (hp_Li (z := (0 + (1 * s + 0))) l2 rfl (by omega) hp_Ln))) (hp_Si (z := ((-1) + 0)) rfl (by omega) trivial) ?_ ?_
  · intro p_9 hp ys l' st' h' hys a1_9 a2 a3 gZ gL gS
    cases hp
  · intro p_9 hp ys v_9 h' hys a1_9 a2 a3 gZ gS
    rcases List.mem_cons.mp hp with rfl | hp
    · obtain rfl := hp_y0 hys
      cases v_9 with
      | none => cases gS
      | some wz =>
        obtain ⟨y0, t0, s0_9, q0, -⟩ := hp_gSi (z := ((-4) + 0)) gS rfl
        cases s0_9
        exact r0 h' y0 (by omega) a1_9 a2 a3
    cases hp
theorem weC1_k : hp_chk 120 84 3 [(0, 0, 399), (1, 0, 5), (2, 0, 1239)] [] [(0, .inr (.inr (.inl (some 16)))), (1, .inl (0, [(0, 1)])), (2, .inl (0, [(1, 1)]))] [.inl (0, [(2, 1)])] [] [] 2 [(103, ([], 3, [(0, 0, 399), (1, 0, 5), (2, 0, 1239)], [], [(0, .inr (.inr (.inl (some 16)))), (1, .inl (0, [(0, 1)])), (2, .inl (0, [(1, 1)])), (3, .inl (0, [(2, 1)]))], [.inr (.inr (.inl (some 91))), .inl (0, [(2, 1)]), .inr (.inr (.inl (some 30))), .inr (.inr (.inl (some 16)))], []))] [] = true := by decide +kernel
theorem weC1 {cst : am_K} {strs : List Nat} {Φ : am_Q → Prop} {D : Nat} {M : am_M} {h : am_H} {l : am_L} (c : hp_C cst strs D) (hM : m_P[120]? = some M) (hD : (2 : Int) ≤ (D : Int) + 1) (hy : ly_hy m_tt ly_TH h) (y s cq : Int) (x0 : Int32) (hx0 : x0.toInt = (cq)) (b0 : 0 ≤ y) (t0 : y ≤ 399) (b1 : 0 ≤ s) (t1 : s ≤ 5) (b2 : 0 ≤ cq) (t2 : cq ≤ 1239) (l0 : hp_a l 0 16) (l1 : hp_i l 1 (y)) (l2 : hp_i l 2 (s)) (e0 : ∀ (l' : am_L) (h' : am_H) (y1 : Int32), y1.toInt = (cq) → ly_hy m_tt ly_TH h' → ly_fr cst [] h h' → h.length ≤ h'.length → hp_a l' 0 16 → hp_i l' 1 (y) → hp_i l' 2 (s) → hp_i l' 3 (cq) → hp_F cst strs Φ D M 103 l' [.ref 91, .int y1, .ref 30, .ref 16] h') : hp_F cst strs Φ D M 84 l [.int x0] h := by
  refine hp_arc c hM weC1_k hD [y, s, cq] rfl hy (hp_Bc (z := y) rfl b0 t0 (hp_Bc (z := s) rfl b1 t1 (hp_Bc (z := cq) rfl b2 t2 hp_Bn))) hp_Fn hp_Kn (hp_La l0 (hp_Li (z := (0 + (1 * y + 0))) l1 rfl (by omega) (hp_Li (z := (0 + (1 * s + 0))) l2 rfl (by omega) hp_Ln))) (hp_Si (z := (0 + (1 * cq + 0))) rfl (by omega) trivial) ?_ ?_
  · intro p_9 hp ys l' st' h' hys a1_9 a2 a3 gZ gL gS
    rcases List.mem_cons.mp hp with rfl | hp
    · obtain rfl := hp_y0 hys
      obtain ⟨t0, rfl, g0⟩ := hp_gSa gS (by decide)
      obtain ⟨y1, t1, rfl, q1_9, g1⟩ := hp_gSi (z := (0 + (1 * cq + 0))) g0 rfl
      obtain ⟨t2, rfl, g2⟩ := hp_gSa g1 (by decide)
      obtain ⟨t3_9, rfl, g3_9⟩ := hp_gSa g2 (by decide)
      cases hp_gSn g3_9
      exact e0 l' h' y1 (by omega) a1_9 a2 a3 (hp_gLa gL (List.mem_of_getElem? (i := 0) rfl) (by decide)) (hp_gLi (z := (0 + (1 * y + 0))) gL (List.mem_of_getElem? (i := 1) rfl) rfl (by omega)) (hp_gLi (z := (0 + (1 * s + 0))) gL (List.mem_of_getElem? (i := 2) rfl) rfl (by omega)) (hp_gLi (z := (0 + (1 * cq + 0))) gL (List.mem_of_getElem? (i := 3) rfl) rfl (by omega))
    cases hp
  · intro p_9 hp ys v_9 h' hys a1_9 a2 a3 gZ gS
    cases hp
theorem weM_k : hp_chk 120 106 4 [(0, 0, 399), (1, 0, 5), (2, 0, 1239), (3, (-2147483648), 2147483647)] [] [(0, .inr (.inr (.inl (some 16)))), (1, .inl (0, [(0, 1)])), (2, .inl (0, [(1, 1)])), (3, .inl (0, [(2, 1)]))] [.inl (0, [(3, 1)]), .inr (.inr (.inl (some 16)))] [] [11] 2 [(119, ([], 4, [(0, 0, 399), (1, 0, 5), (2, 0, 1239), (3, (-2147483648), 2147483647)], [], [(0, .inr (.inr (.inl (some 16)))), (1, .inl (0, [(0, 1)])), (2, .inl (0, [(1, 1)])), (3, .inl (0, [(2, 1)]))], [.inl (0, [(3, 1)]), .inl (0, [(2, 1)]), .inr (.inr (.inl (some 30))), .inr (.inr (.inl (some 16)))], [(11, (0, []), (0, [(3, 1)]))]))] [] = true := by decide +kernel
theorem weM {cst : am_K} {strs : List Nat} {Φ : am_Q → Prop} {D : Nat} {M : am_M} {h : am_H} {l : am_L} (c : hp_C cst strs D) (hM : m_P[120]? = some M) (hD : (2 : Int) ≤ (D : Int) + 1) (hy : ly_hy m_tt ly_TH h) (y s cq m : Int) (x0 : Int32) (hx0 : x0.toInt = (m)) (b0 : 0 ≤ y) (t0 : y ≤ 399) (b1 : 0 ≤ s) (t1 : s ≤ 5) (b2 : 0 ≤ cq) (t2 : cq ≤ 1239) (b3 : (-2147483648) ≤ m) (t3 : m ≤ 2147483647) (l0 : hp_a l 0 16) (l1 : hp_i l 1 (y)) (l2 : hp_i l 2 (s)) (l3 : hp_i l 3 (cq)) (e0 : ∀ (l' : am_L) (h' : am_H) (y0 : Int32) (y1 : Int32), y0.toInt = (m) → y1.toInt = (cq) → ly_hy m_tt ly_TH h' → ly_fr cst [11] h h' → h.length ≤ h'.length → ly_hv cst h' 11 0 = some (m) → hp_a l' 0 16 → hp_i l' 1 (y) → hp_i l' 2 (s) → hp_i l' 3 (cq) → hp_F cst strs Φ D M 119 l' [.int y0, .int y1, .ref 30, .ref 16] h') : hp_F cst strs Φ D M 106 l [.int x0, .ref 16] h := by
  refine hp_arc c hM weM_k hD [y, s, cq, m] rfl hy (hp_Bc (z := y) rfl b0 t0 (hp_Bc (z := s) rfl b1 t1 (hp_Bc (z := cq) rfl b2 t2 (hp_Bc (z := m) rfl b3 t3 hp_Bn)))) hp_Fn hp_Kn (hp_La l0 (hp_Li (z := (0 + (1 * y + 0))) l1 rfl (by omega) (hp_Li (z := (0 + (1 * s + 0))) l2 rfl (by omega) (hp_Li (z := (0 + (1 * cq + 0))) l3 rfl (by omega) hp_Ln)))) (hp_Si (z := (0 + (1 * m + 0))) rfl (by omega) (hp_Sa trivial)) ?_ ?_
  · intro p_9 hp ys l' st' h' hys a1_9 a2 a3 gZ gL gS
    rcases List.mem_cons.mp hp with rfl | hp
    · obtain rfl := hp_y0 hys
      obtain ⟨y0, t0, rfl, q0, g0⟩ := hp_gSi (z := (0 + (1 * m + 0))) gS rfl
      obtain ⟨y1, t1, rfl, q1_9, g1⟩ := hp_gSi (z := (0 + (1 * cq + 0))) g0 rfl
      obtain ⟨t2, rfl, g2⟩ := hp_gSa g1 (by decide)
      obtain ⟨t3, rfl, g3_9⟩ := hp_gSa g2 (by decide)
      cases hp_gSn g3_9
      exact e0 l' h' y0 y1 (by omega) (by omega) a1_9 a2 a3 (hp_gK (zi := (0 + 0)) (zv := (0 + (1 * m + 0))) gZ.2.2.2 (List.mem_of_getElem? (i := 0) rfl) rfl rfl (by omega) (by omega)) (hp_gLa gL (List.mem_of_getElem? (i := 0) rfl) (by decide)) (hp_gLi (z := (0 + (1 * y + 0))) gL (List.mem_of_getElem? (i := 1) rfl) rfl (by omega)) (hp_gLi (z := (0 + (1 * s + 0))) gL (List.mem_of_getElem? (i := 2) rfl) rfl (by omega)) (hp_gLi (z := (0 + (1 * cq + 0))) gL (List.mem_of_getElem? (i := 3) rfl) rfl (by omega))
    cases hp
  · intro p_9 hp ys v_9 h' hys a1_9 a2 a3 gZ gS
    cases hp
theorem weL1_k : hp_chk 120 122 4 [(0, 0, 399), (1, 0, 5), (2, 0, 1239), (3, (-2147483648), 2147483647)] [] [(0, .inr (.inr (.inl (some 16)))), (1, .inl (0, [(0, 1)])), (2, .inl (0, [(1, 1)])), (3, .inl (0, [(2, 1)]))] [.inl ((-1), []), .inr (.inr (.inl (some 16)))] [(11, (0, []), (0, [(3, 1)]))] [12] 2 [] [([], 4, [(0, 0, 399), (1, 0, 5), (2, 0, 1239), (3, (-2147483648), 2147483647)], [], [], [.inl (1, [])], [(11, (0, []), (0, [(3, 1)])), (12, (0, []), ((-1), []))])] = true := by decide +kernel
theorem weL1 {cst : am_K} {strs : List Nat} {Φ : am_Q → Prop} {D : Nat} {M : am_M} {h : am_H} {l : am_L} (c : hp_C cst strs D) (hM : m_P[120]? = some M) (hD : (2 : Int) ≤ (D : Int) + 1) (hy : ly_hy m_tt ly_TH h) (y s cq m : Int) (x0 : Int32) (hx0 : x0.toInt = (-1)) (b0 : 0 ≤ y) (t0 : y ≤ 399) (b1 : 0 ≤ s) (t1 : s ≤ 5) (b2 : 0 ≤ cq) (t2 : cq ≤ 1239) (b3 : (-2147483648) ≤ m) (t3 : m ≤ 2147483647) (k0 : ly_hv cst h 11 0 = some (m)) (l0 : hp_a l 0 16) (l1 : hp_i l 1 (y)) (l2 : hp_i l 2 (s)) (l3 : hp_i l 3 (cq)) (r0 : ∀ (h' : am_H) (y0 : Int32), y0.toInt = 1 → ly_hy m_tt ly_TH h' → ly_fr cst [12] h h' → h.length ≤ h'.length → ly_hv cst h' 11 0 = some (m) → ly_hv cst h' 12 0 = some (-1) → Φ (some (.int y0), h', 0, 0)) : hp_F cst strs Φ D M 122 l [.int x0, .ref 16] h := by
  refine hp_arc c hM weL1_k hD [y, s, cq, m] rfl hy (hp_Bc (z := y) rfl b0 t0 (hp_Bc (z := s) rfl b1 t1 (hp_Bc (z := cq) rfl b2 t2 (hp_Bc (z := m) rfl b3 t3 hp_Bn)))) hp_Fn (hp_Kc (zi := (0 + 0)) (zv := (0 + (1 * m + 0))) k0 rfl rfl (by omega) (by omega) hp_Kn) (hp_La l0 (hp_Li (z := (0 + (1 * y + 0))) l1 rfl (by omega) (hp_Li (z := (0 + (1 * s + 0))) l2 rfl (by omega) (hp_Li (z := (0 + (1 * cq + 0))) l3 rfl (by omega) hp_Ln)))) (hp_Si (z := ((-1) + 0)) rfl (by omega) (hp_Sa trivial)) ?_ ?_
  · intro p_9 hp ys l' st' h' hys a1_9 a2 a3 gZ gL gS
    cases hp
  · intro p_9 hp ys v_9 h' hys a1_9 a2 a3 gZ gS
    rcases List.mem_cons.mp hp with rfl | hp
    · obtain rfl := hp_y0 hys
      cases v_9 with
      | none => cases gS
      | some wz =>
        obtain ⟨y0, t0, s0_9, q0, -⟩ := hp_gSi (z := (1 + 0)) gS rfl
        cases s0_9
        exact r0 h' y0 (by omega) a1_9 a2 a3 (hp_gK (zi := (0 + 0)) (zv := (0 + (1 * m + 0))) gZ.2.2.2 (List.mem_of_getElem? (i := 0) rfl) rfl rfl (by omega) (by omega)) (hp_gK (zi := (0 + 0)) (zv := ((-1) + 0)) gZ.2.2.2 (List.mem_of_getElem? (i := 1) rfl) rfl rfl (by omega) (by omega))
    cases hp
theorem weL0_k : hp_chk 120 122 5 [(0, 0, 399), (1, 0, 5), (2, 0, 1239), (3, (-2147483648), 2147483647), (4, 0, 99)] [] [(0, .inr (.inr (.inl (some 16)))), (1, .inl (0, [(0, 1)])), (2, .inl (0, [(1, 1)])), (3, .inl (0, [(2, 1)]))] [.inl (0, [(4, 1)]), .inr (.inr (.inl (some 16)))] [(11, (0, []), (0, [(3, 1)]))] [12] 2 [] [([], 5, [(0, 0, 399), (1, 0, 5), (2, 0, 1239), (3, (-2147483648), 2147483647), (4, 0, 99)], [], [], [.inl (0, [])], [(11, (0, []), (0, [(3, 1)])), (12, (0, []), (0, [(4, 1)]))])] = true := by decide +kernel
theorem weL0 {cst : am_K} {strs : List Nat} {Φ : am_Q → Prop} {D : Nat} {M : am_M} {h : am_H} {l : am_L} (c : hp_C cst strs D) (hM : m_P[120]? = some M) (hD : (2 : Int) ≤ (D : Int) + 1) (hy : ly_hy m_tt ly_TH h) (y s cq m k : Int) (x0 : Int32) (hx0 : x0.toInt = (k)) (b0 : 0 ≤ y) (t0 : y ≤ 399) (b1 : 0 ≤ s) (t1 : s ≤ 5) (b2 : 0 ≤ cq) (t2 : cq ≤ 1239) (b3 : (-2147483648) ≤ m) (t3 : m ≤ 2147483647) (b4 : 0 ≤ k) (t4 : k ≤ 99) (k0 : ly_hv cst h 11 0 = some (m)) (l0 : hp_a l 0 16) (l1 : hp_i l 1 (y)) (l2 : hp_i l 2 (s)) (l3 : hp_i l 3 (cq)) (r0 : ∀ (h' : am_H) (y0 : Int32), y0.toInt = 0 → ly_hy m_tt ly_TH h' → ly_fr cst [12] h h' → h.length ≤ h'.length → ly_hv cst h' 11 0 = some (m) → ly_hv cst h' 12 0 = some (k) → Φ (some (.int y0), h', 0, 0)) : hp_F cst strs Φ D M 122 l [.int x0, .ref 16] h := by
  refine hp_arc c hM weL0_k hD [y, s, cq, m, k] rfl hy (hp_Bc (z := y) rfl b0 t0 (hp_Bc (z := s) rfl b1 t1 (hp_Bc (z := cq) rfl b2 t2 (hp_Bc (z := m) rfl b3 t3 (hp_Bc (z := k) rfl b4 t4 hp_Bn))))) hp_Fn (hp_Kc (zi := (0 + 0)) (zv := (0 + (1 * m + 0))) k0 rfl rfl (by omega) (by omega) hp_Kn) (hp_La l0 (hp_Li (z := (0 + (1 * y + 0))) l1 rfl (by omega) (hp_Li (z := (0 + (1 * s + 0))) l2 rfl (by omega) (hp_Li (z := (0 + (1 * cq + 0))) l3 rfl (by omega) hp_Ln)))) (hp_Si (z := (0 + (1 * k + 0))) rfl (by omega) (hp_Sa trivial)) ?_ ?_
  · intro p_9 hp ys l' st' h' hys a1_9 a2 a3 gZ gL gS
    cases hp
  · intro p_9 hp ys v_9 h' hys a1_9 a2 a3 gZ gS
    rcases List.mem_cons.mp hp with rfl | hp
    · obtain rfl := hp_y0 hys
      cases v_9 with
      | none => cases gS
      | some wz =>
        obtain ⟨y0, t0, s0_9, q0, -⟩ := hp_gSi (z := (0 + 0)) gS rfl
        cases s0_9
        exact r0 h' y0 (by omega) a1_9 a2 a3 (hp_gK (zi := (0 + 0)) (zv := (0 + (1 * m + 0))) gZ.2.2.2 (List.mem_of_getElem? (i := 0) rfl) rfl rfl (by omega) (by omega)) (hp_gK (zi := (0 + 0)) (zv := (0 + (1 * k + 0))) gZ.2.2.2 (List.mem_of_getElem? (i := 1) rfl) rfl rfl (by omega) (by omega))
    cases hp
theorem rw0_k : hp_chk 326 0 2 [(0, (-2147483648), 2147483647), (1, (-2147483648), 2147483647)] [] [(0, .inr (.inr (.inl (some 94)))), (1, .inl (0, [(0, 1)])), (2, .inl (0, [(1, 1)]))] [] [] [] 2 [(1, ([], 2, [(0, (-2147483648), 2147483647), (1, (-2147483648), 2147483647)], [], [(0, .inr (.inr (.inl (some 94)))), (1, .inl (0, [(0, 1)])), (2, .inl (0, [(1, 1)]))], [.inr (.inr (.inl (some 94)))], []))] [] = true := by decide +kernel
theorem rw0 {cst : am_K} {strs : List Nat} {Φ : am_Q → Prop} {D : Nat} {M : am_M} {h : am_H} {l : am_L} (c : hp_C cst strs D) (hM : m_P[326]? = some M) (hD : (2 : Int) ≤ (D : Int) + 1) (hy : ly_hy m_tt ly_TH h) (y s : Int) (b0 : (-2147483648) ≤ y) (t0 : y ≤ 2147483647) (b1 : (-2147483648) ≤ s) (t1 : s ≤ 2147483647) (l0 : hp_a l 0 94) (l1 : hp_i l 1 (y)) (l2 : hp_i l 2 (s)) (e0 : ∀ (l' : am_L) (h' : am_H), ly_hy m_tt ly_TH h' → ly_fr cst [] h h' → h.length ≤ h'.length → hp_a l' 0 94 → hp_i l' 1 (y) → hp_i l' 2 (s) → hp_F cst strs Φ D M 1 l' [.ref 94] h') : hp_F cst strs Φ D M 0 l [] h := by
  refine hp_arc c hM rw0_k hD [y, s] rfl hy (hp_Bc (z := y) rfl b0 t0 (hp_Bc (z := s) rfl b1 t1 hp_Bn)) hp_Fn hp_Kn (hp_La l0 (hp_Li (z := (0 + (1 * y + 0))) l1 rfl (by omega) (hp_Li (z := (0 + (1 * s + 0))) l2 rfl (by omega) hp_Ln))) trivial ?_ ?_
  · intro p_9 hp ys l' st' h' hys a1_9 a2 a3 gZ gL gS
    rcases List.mem_cons.mp hp with rfl | hp
    · obtain rfl := hp_y0 hys
      obtain ⟨t0, rfl, g0⟩ := hp_gSa gS (by decide)
      cases hp_gSn g0
      exact e0 l' h' a1_9 a2 a3 (hp_gLa gL (List.mem_of_getElem? (i := 0) rfl) (by decide)) (hp_gLi (z := (0 + (1 * y + 0))) gL (List.mem_of_getElem? (i := 1) rfl) rfl (by omega)) (hp_gLi (z := (0 + (1 * s + 0))) gL (List.mem_of_getElem? (i := 2) rfl) rfl (by omega))
    cases hp
  · intro p_9 hp ys v_9 h' hys a1_9 a2 a3 gZ gS
    cases hp
theorem rwR0_k : hq_chk [277, 272, 273] 326 4 2 [(0, (-2147483648), (-1)), (1, (-2147483648), 2147483647)] [] [(0, .inr (.inr (.inl (some 94)))), (1, .inl (0, [(0, 1)])), (2, .inl (0, [(1, 1)]))] [] [] [] 5 [] [([], 2, [(0, (-2147483648), (-1)), (1, (-2147483648), 2147483647)], [], [], [.inl ((-2), [])], [])] = true := by decide +kernel
theorem rwR0 {cst : am_K} {strs : List Nat} {Φ : am_Q → Prop} {D : Nat} {M : am_M} {h : am_H} {l : am_L} (c : hp_C cst strs D) (hM : m_P[326]? = some M) (hD : (5 : Int) ≤ (D : Int) + 1) (hy : ly_hy m_tt ly_TH h) (y s : Int) (b0 : (-2147483648) ≤ y) (t0 : y ≤ (-1)) (b1 : (-2147483648) ≤ s) (t1 : s ≤ 2147483647) (l0 : hp_a l 0 94) (l1 : hp_i l 1 (y)) (l2 : hp_i l 2 (s)) (r0 : ∀ (h' : am_H) (y0 : Int32), y0.toInt = (-2) → ly_hy m_tt ly_TH h' → ly_fr cst [] h h' → h.length ≤ h'.length → Φ (some (.int y0), h', 0, 0)) : hp_F cst strs Φ D M 4 l [] h := by
  refine hq_arc c hM rwR0_k hD [y, s] rfl hy (hp_Bc (z := y) rfl b0 t0 (hp_Bc (z := s) rfl b1 t1 hp_Bn)) hp_Fn hp_Kn (hp_La l0 (hp_Li (z := (0 + (1 * y + 0))) l1 rfl (by omega) (hp_Li (z := (0 + (1 * s + 0))) l2 rfl (by omega) hp_Ln))) trivial ?_ ?_
  · intro p_9 hp ys l' st' h' hys a1_9 a2 a3 gZ gL gS
    cases hp
  · intro p_9 hp ys v_9 h' hys a1_9 a2 a3 gZ gS
    rcases List.mem_cons.mp hp with rfl | hp
    · obtain rfl := hp_y0 hys
      cases v_9 with
      | none => cases gS
      | some wz =>
        obtain ⟨y0, t0, s0_9, q0, -⟩ := hp_gSi (z := ((-2) + 0)) gS rfl
        cases s0_9
        exact r0 h' y0 (by omega) a1_9 a2 a3
    cases hp
theorem rwR1_k : hq_chk [277, 272, 273] 326 4 2 [(0, 400, 2147483647), (1, (-2147483648), 2147483647)] [] [(0, .inr (.inr (.inl (some 94)))), (1, .inl (0, [(0, 1)])), (2, .inl (0, [(1, 1)]))] [] [] [] 5 [] [([], 2, [(0, 400, 2147483647), (1, (-2147483648), 2147483647)], [], [], [.inl ((-2), [])], [])] = true := by decide +kernel
theorem rwR1 {cst : am_K} {strs : List Nat} {Φ : am_Q → Prop} {D : Nat} {M : am_M} {h : am_H} {l : am_L} (c : hp_C cst strs D) (hM : m_P[326]? = some M) (hD : (5 : Int) ≤ (D : Int) + 1) (hy : ly_hy m_tt ly_TH h) (y s : Int) (b0 : 400 ≤ y) (t0 : y ≤ 2147483647) (b1 : (-2147483648) ≤ s) (t1 : s ≤ 2147483647) (l0 : hp_a l 0 94) (l1 : hp_i l 1 (y)) (l2 : hp_i l 2 (s)) (r0 : ∀ (h' : am_H) (y0 : Int32), y0.toInt = (-2) → ly_hy m_tt ly_TH h' → ly_fr cst [] h h' → h.length ≤ h'.length → Φ (some (.int y0), h', 0, 0)) : hp_F cst strs Φ D M 4 l [] h := by
  refine hq_arc c hM rwR1_k hD [y, s] rfl hy (hp_Bc (z := y) rfl b0 t0 (hp_Bc (z := s) rfl b1 t1 hp_Bn)) hp_Fn hp_Kn (hp_La l0 (hp_Li (z := (0 + (1 * y + 0))) l1 rfl (by omega) (hp_Li (z := (0 + (1 * s + 0))) l2 rfl (by omega) hp_Ln))) trivial ?_ ?_
  · intro p_9 hp ys l' st' h' hys a1_9 a2 a3 gZ gL gS
    cases hp
  · intro p_9 hp ys v_9 h' hys a1_9 a2 a3 gZ gS
    rcases List.mem_cons.mp hp with rfl | hp
    · obtain rfl := hp_y0 hys
      cases v_9 with
      | none => cases gS
      | some wz =>
        obtain ⟨y0, t0, s0_9, q0, -⟩ := hp_gSi (z := ((-2) + 0)) gS rfl
        cases s0_9
        exact r0 h' y0 (by omega) a1_9 a2 a3
    cases hp
theorem rwR2_k : hq_chk [277, 272, 273] 326 4 2 [(0, 0, 399), (1, (-2147483648), (-1))] [] [(0, .inr (.inr (.inl (some 94)))), (1, .inl (0, [(0, 1)])), (2, .inl (0, [(1, 1)]))] [] [] [] 5 [] [([], 2, [(0, 0, 399), (1, (-2147483648), (-1))], [], [], [.inl ((-2), [])], [])] = true := by decide +kernel
theorem rwR2 {cst : am_K} {strs : List Nat} {Φ : am_Q → Prop} {D : Nat} {M : am_M} {h : am_H} {l : am_L} (c : hp_C cst strs D) (hM : m_P[326]? = some M) (hD : (5 : Int) ≤ (D : Int) + 1) (hy : ly_hy m_tt ly_TH h) (y s : Int) (b0 : 0 ≤ y) (t0 : y ≤ 399) (b1 : (-2147483648) ≤ s) (t1 : s ≤ (-1)) (l0 : hp_a l 0 94) (l1 : hp_i l 1 (y)) (l2 : hp_i l 2 (s)) (r0 : ∀ (h' : am_H) (y0 : Int32), y0.toInt = (-2) → ly_hy m_tt ly_TH h' → ly_fr cst [] h h' → h.length ≤ h'.length → Φ (some (.int y0), h', 0, 0)) : hp_F cst strs Φ D M 4 l [] h := by
  refine hq_arc c hM rwR2_k hD [y, s] rfl hy (hp_Bc (z := y) rfl b0 t0 (hp_Bc (z := s) rfl b1 t1 hp_Bn)) hp_Fn hp_Kn (hp_La l0 (hp_Li (z := (0 + (1 * y + 0))) l1 rfl (by omega) (hp_Li (z := (0 + (1 * s + 0))) l2 rfl (by omega) hp_Ln))) trivial ?_ ?_
  · intro p_9 hp ys l' st' h' hys a1_9 a2 a3 gZ gL gS
    cases hp
  · intro p_9 hp ys v_9 h' hys a1_9 a2 a3 gZ gS
    rcases List.mem_cons.mp hp with rfl | hp
    · obtain rfl := hp_y0 hys
      cases v_9 with
      | none => cases gS
      | some wz =>
        obtain ⟨y0, t0, s0_9, q0, -⟩ := hp_gSi (z := ((-2) + 0)) gS rfl
        cases s0_9
        exact r0 h' y0 (by omega) a1_9 a2 a3
    cases hp
theorem rwR3_k : hq_chk [277, 272, 273] 326 4 2 [(0, 0, 399), (1, 6, 2147483647)] [] [(0, .inr (.inr (.inl (some 94)))), (1, .inl (0, [(0, 1)])), (2, .inl (0, [(1, 1)]))] [] [] [] 5 [] [([], 2, [(0, 0, 399), (1, 6, 2147483647)], [], [], [.inl ((-2), [])], [])] = true := by decide +kernel
theorem rwR3 {cst : am_K} {strs : List Nat} {Φ : am_Q → Prop} {D : Nat} {M : am_M} {h : am_H} {l : am_L} (c : hp_C cst strs D) (hM : m_P[326]? = some M) (hD : (5 : Int) ≤ (D : Int) + 1) (hy : ly_hy m_tt ly_TH h) (y s : Int) (b0 : 0 ≤ y) (t0 : y ≤ 399) (b1 : 6 ≤ s) (t1 : s ≤ 2147483647) (l0 : hp_a l 0 94) (l1 : hp_i l 1 (y)) (l2 : hp_i l 2 (s)) (r0 : ∀ (h' : am_H) (y0 : Int32), y0.toInt = (-2) → ly_hy m_tt ly_TH h' → ly_fr cst [] h h' → h.length ≤ h'.length → Φ (some (.int y0), h', 0, 0)) : hp_F cst strs Φ D M 4 l [] h := by
  refine hq_arc c hM rwR3_k hD [y, s] rfl hy (hp_Bc (z := y) rfl b0 t0 (hp_Bc (z := s) rfl b1 t1 hp_Bn)) hp_Fn hp_Kn (hp_La l0 (hp_Li (z := (0 + (1 * y + 0))) l1 rfl (by omega) (hp_Li (z := (0 + (1 * s + 0))) l2 rfl (by omega) hp_Ln))) trivial ?_ ?_
  · intro p_9 hp ys l' st' h' hys a1_9 a2 a3 gZ gL gS
    cases hp
  · intro p_9 hp ys v_9 h' hys a1_9 a2 a3 gZ gS
    rcases List.mem_cons.mp hp with rfl | hp
    · obtain rfl := hp_y0 hys
      cases v_9 with
      | none => cases gS
      | some wz =>
        obtain ⟨y0, t0, s0_9, q0, -⟩ := hp_gSi (z := ((-2) + 0)) gS rfl
        cases s0_9
        exact r0 h' y0 (by omega) a1_9 a2 a3
    cases hp
theorem rwN1_k : hq_chk [277, 272, 273] 326 4 3 [(0, 0, 399), (1, 0, 5), (2, 0, 8)] [] [(0, .inr (.inr (.inl (some 94)))), (1, .inl (0, [(0, 1)])), (2, .inl (0, [(1, 1)]))] [] [(19971, (0, []), (0, [(2, 1)])), (61000, ((-1), [(2, 1)]), (1, []))] [] 5 [] [([], 3, [(0, 0, 399), (1, 0, 5), (2, 0, 8)], [], [], [.inl ((-1), [])], [])] = true := by decide +kernel
theorem rwN1 {cst : am_K} {strs : List Nat} {Φ : am_Q → Prop} {D : Nat} {M : am_M} {h : am_H} {l : am_L} (c : hp_C cst strs D) (hM : m_P[326]? = some M) (hD : (5 : Int) ≤ (D : Int) + 1) (hy : ly_hy m_tt ly_TH h) (y s q : Int) (b0 : 0 ≤ y) (t0 : y ≤ 399) (b1 : 0 ≤ s) (t1 : s ≤ 5) (b2 : 0 ≤ q) (t2 : q ≤ 8) (k0 : ly_hv cst h 19971 0 = some (q)) (k1 : ly_hv cst h 61000 (q - 1) = some 1) (l0 : hp_a l 0 94) (l1 : hp_i l 1 (y)) (l2 : hp_i l 2 (s)) (r0 : ∀ (h' : am_H) (y0 : Int32), y0.toInt = (-1) → ly_hy m_tt ly_TH h' → ly_fr cst [] h h' → h.length ≤ h'.length → Φ (some (.int y0), h', 0, 0)) : hp_F cst strs Φ D M 4 l [] h := by
  refine hq_arc c hM rwN1_k hD [y, s, q] rfl hy (hp_Bc (z := y) rfl b0 t0 (hp_Bc (z := s) rfl b1 t1 (hp_Bc (z := q) rfl b2 t2 hp_Bn))) hp_Fn (hp_Kc (zi := (0 + 0)) (zv := (0 + (1 * q + 0))) k0 rfl rfl (by omega) (by omega) (hp_Kc (zi := ((-1) + (1 * q + 0))) (zv := (1 + 0)) k1 rfl rfl (by omega) (by omega) hp_Kn)) (hp_La l0 (hp_Li (z := (0 + (1 * y + 0))) l1 rfl (by omega) (hp_Li (z := (0 + (1 * s + 0))) l2 rfl (by omega) hp_Ln))) trivial ?_ ?_
  · intro p_9 hp ys l' st' h' hys a1_9 a2 a3 gZ gL gS
    cases hp
  · intro p_9 hp ys v_9 h' hys a1_9 a2 a3 gZ gS
    rcases List.mem_cons.mp hp with rfl | hp
    · obtain rfl := hp_y0 hys
      cases v_9 with
      | none => cases gS
      | some wz =>
        obtain ⟨y0, t0, s0_9, q0, -⟩ := hp_gSi (z := ((-1) + 0)) gS rfl
        cases s0_9
        exact r0 h' y0 (by omega) a1_9 a2 a3
    cases hp
theorem rwA_k : hq_chk [277, 272, 273] 326 4 3 [(0, 0, 399), (1, 0, 5), (2, (-9223372036854775808), 9223372036854775807)] [] [(0, .inr (.inr (.inl (some 94)))), (1, .inl (0, [(0, 1)])), (2, .inl (0, [(1, 1)]))] [] [(19971, (0, []), (1, [])), (19976, (0, []), (0, [(2, 1)]))] [] 5 [(37, ([], 3, [(0, 0, 399), (1, 0, 5), (2, (-9223372036854775808), 9223372036854775807)], [], [(0, .inr (.inr (.inl (some 94)))), (1, .inl (0, [(0, 1)])), (2, .inl (0, [(1, 1)])), (3, .inr (.inl (0, [(2, 1)])))], [.inr (.inr (.inl (some 94)))], []))] [] = true := by decide +kernel
theorem rwA {cst : am_K} {strs : List Nat} {Φ : am_Q → Prop} {D : Nat} {M : am_M} {h : am_H} {l : am_L} (c : hp_C cst strs D) (hM : m_P[326]? = some M) (hD : (5 : Int) ≤ (D : Int) + 1) (hy : ly_hy m_tt ly_TH h) (y s d : Int) (b0 : 0 ≤ y) (t0 : y ≤ 399) (b1 : 0 ≤ s) (t1 : s ≤ 5) (b2 : (-9223372036854775808) ≤ d) (t2 : d ≤ 9223372036854775807) (k0 : ly_hv cst h 19971 0 = some 1) (k1 : ly_hv cst h 19976 0 = some (d)) (l0 : hp_a l 0 94) (l1 : hp_i l 1 (y)) (l2 : hp_i l 2 (s)) (e0 : ∀ (l' : am_L) (h' : am_H), ly_hy m_tt ly_TH h' → ly_fr cst [] h h' → h.length ≤ h'.length → hp_a l' 0 94 → hp_i l' 1 (y) → hp_i l' 2 (s) → hp_j l' 3 (d) → hp_F cst strs Φ D M 37 l' [.ref 94] h') : hp_F cst strs Φ D M 4 l [] h := by
  refine hq_arc c hM rwA_k hD [y, s, d] rfl hy (hp_Bc (z := y) rfl b0 t0 (hp_Bc (z := s) rfl b1 t1 (hp_Bc (z := d) rfl b2 t2 hp_Bn))) hp_Fn (hp_Kc (zi := (0 + 0)) (zv := (1 + 0)) k0 rfl rfl (by omega) (by omega) (hp_Kc (zi := (0 + 0)) (zv := (0 + (1 * d + 0))) k1 rfl rfl (by omega) (by omega) hp_Kn)) (hp_La l0 (hp_Li (z := (0 + (1 * y + 0))) l1 rfl (by omega) (hp_Li (z := (0 + (1 * s + 0))) l2 rfl (by omega) hp_Ln))) trivial ?_ ?_
  · intro p_9 hp ys l' st' h' hys a1_9 a2 a3 gZ gL gS
    rcases List.mem_cons.mp hp with rfl | hp
    · obtain rfl := hp_y0 hys
      obtain ⟨t0, rfl, g0⟩ := hp_gSa gS (by decide)
      cases hp_gSn g0
      exact e0 l' h' a1_9 a2 a3 (hp_gLa gL (List.mem_of_getElem? (i := 0) rfl) (by decide)) (hp_gLi (z := (0 + (1 * y + 0))) gL (List.mem_of_getElem? (i := 1) rfl) rfl (by omega)) (hp_gLi (z := (0 + (1 * s + 0))) gL (List.mem_of_getElem? (i := 2) rfl) rfl (by omega)) (hp_gLj (z := (0 + (1 * d + 0))) gL (List.mem_of_getElem? (i := 3) rfl) rfl (by omega))
    cases hp
  · intro p_9 hp ys v_9 h' hys a1_9 a2 a3 gZ gS
    cases hp
theorem rwN2_k : hp_chk 326 40 4 [(0, 0, 399), (1, 0, 5), (2, (-9223372036854775808), 9223372036854775807), (3, 0, 8)] [] [(0, .inr (.inr (.inl (some 94)))), (1, .inl (0, [(0, 1)])), (2, .inl (0, [(1, 1)])), (3, .inr (.inl (0, [(2, 1)])))] [] [(19971, (0, []), (0, [(3, 1)])), (61000, ((-3), [(3, 1)]), (1, []))] [] 2 [] [([], 4, [(0, 0, 399), (1, 0, 5), (2, (-9223372036854775808), 9223372036854775807), (3, 0, 8)], [], [], [.inl ((-1), [])], [])] = true := by decide +kernel
theorem rwN2 {cst : am_K} {strs : List Nat} {Φ : am_Q → Prop} {D : Nat} {M : am_M} {h : am_H} {l : am_L} (c : hp_C cst strs D) (hM : m_P[326]? = some M) (hD : (2 : Int) ≤ (D : Int) + 1) (hy : ly_hy m_tt ly_TH h) (y s d q : Int) (b0 : 0 ≤ y) (t0 : y ≤ 399) (b1 : 0 ≤ s) (t1 : s ≤ 5) (b2 : (-9223372036854775808) ≤ d) (t2 : d ≤ 9223372036854775807) (b3 : 0 ≤ q) (t3 : q ≤ 8) (k0 : ly_hv cst h 19971 0 = some (q)) (k1 : ly_hv cst h 61000 (q - 3) = some 1) (l0 : hp_a l 0 94) (l1 : hp_i l 1 (y)) (l2 : hp_i l 2 (s)) (l3 : hp_j l 3 (d)) (r0 : ∀ (h' : am_H) (y0 : Int32), y0.toInt = (-1) → ly_hy m_tt ly_TH h' → ly_fr cst [] h h' → h.length ≤ h'.length → Φ (some (.int y0), h', 0, 0)) : hp_F cst strs Φ D M 40 l [] h := by
  refine hp_arc c hM rwN2_k hD [y, s, d, q] rfl hy (hp_Bc (z := y) rfl b0 t0 (hp_Bc (z := s) rfl b1 t1 (hp_Bc (z := d) rfl b2 t2 (hp_Bc (z := q) rfl b3 t3 hp_Bn)))) hp_Fn (hp_Kc (zi := (0 + 0)) (zv := (0 + (1 * q + 0))) k0 rfl rfl (by omega) (by omega) (hp_Kc (zi := ((-3) + (1 * q + 0))) (zv := (1 + 0)) k1 rfl rfl (by omega) (by omega) hp_Kn)) (hp_La l0 (hp_Li (z := (0 + (1 * y + 0))) l1 rfl (by omega) (hp_Li (z := (0 + (1 * s + 0))) l2 rfl (by omega) (hp_Lj (z := (0 + (1 * d + 0))) l3 rfl (by omega) hp_Ln)))) trivial ?_ ?_
  · intro p_9 hp ys l' st' h' hys a1_9 a2 a3 gZ gL gS
    cases hp
  · intro p_9 hp ys v_9 h' hys a1_9 a2 a3 gZ gS
    rcases List.mem_cons.mp hp with rfl | hp
    · obtain rfl := hp_y0 hys
      cases v_9 with
      | none => cases gS
      | some wz =>
        obtain ⟨y0, t0, s0_9, q0, -⟩ := hp_gSi (z := ((-1) + 0)) gS rfl
        cases s0_9
        exact r0 h' y0 (by omega) a1_9 a2 a3
    cases hp
theorem rwB_k : hp_chk 326 40 3 [(0, 0, 399), (1, 0, 5), (2, (-9223372036854775808), 9223372036854775807)] [] [(0, .inr (.inr (.inl (some 94)))), (1, .inl (0, [(0, 1)])), (2, .inl (0, [(1, 1)])), (3, .inr (.inl (0, [(2, 1)])))] [] [(19971, (0, []), (3, []))] [] 2 [(51, ([], 3, [(0, 0, 399), (1, 0, 5), (2, (-9223372036854775808), 9223372036854775807)], [], [(0, .inr (.inr (.inl (some 94)))), (1, .inl (0, [(0, 1)])), (2, .inl (0, [(1, 1)])), (3, .inr (.inl (0, [(2, 1)])))], [.inr (.inr (.inl (some 94)))], []))] [] = true := by decide +kernel
theorem rwB {cst : am_K} {strs : List Nat} {Φ : am_Q → Prop} {D : Nat} {M : am_M} {h : am_H} {l : am_L} (c : hp_C cst strs D) (hM : m_P[326]? = some M) (hD : (2 : Int) ≤ (D : Int) + 1) (hy : ly_hy m_tt ly_TH h) (y s d : Int) (b0 : 0 ≤ y) (t0 : y ≤ 399) (b1 : 0 ≤ s) (t1 : s ≤ 5) (b2 : (-9223372036854775808) ≤ d) (t2 : d ≤ 9223372036854775807) (k0 : ly_hv cst h 19971 0 = some 3) (l0 : hp_a l 0 94) (l1 : hp_i l 1 (y)) (l2 : hp_i l 2 (s)) (l3 : hp_j l 3 (d)) (e0 : ∀ (l' : am_L) (h' : am_H), ly_hy m_tt ly_TH h' → ly_fr cst [] h h' → h.length ≤ h'.length → hp_a l' 0 94 → hp_i l' 1 (y) → hp_i l' 2 (s) → hp_j l' 3 (d) → hp_F cst strs Φ D M 51 l' [.ref 94] h') : hp_F cst strs Φ D M 40 l [] h := by
  refine hp_arc c hM rwB_k hD [y, s, d] rfl hy (hp_Bc (z := y) rfl b0 t0 (hp_Bc (z := s) rfl b1 t1 (hp_Bc (z := d) rfl b2 t2 hp_Bn))) hp_Fn (hp_Kc (zi := (0 + 0)) (zv := (3 + 0)) k0 rfl rfl (by omega) (by omega) hp_Kn) (hp_La l0 (hp_Li (z := (0 + (1 * y + 0))) l1 rfl (by omega) (hp_Li (z := (0 + (1 * s + 0))) l2 rfl (by omega) (hp_Lj (z := (0 + (1 * d + 0))) l3 rfl (by omega) hp_Ln)))) trivial ?_ ?_
  · intro p_9 hp ys l' st' h' hys a1_9 a2 a3 gZ gL gS
    rcases List.mem_cons.mp hp with rfl | hp
    · obtain rfl := hp_y0 hys
      obtain ⟨t0, rfl, g0⟩ := hp_gSa gS (by decide)
      cases hp_gSn g0
      exact e0 l' h' a1_9 a2 a3 (hp_gLa gL (List.mem_of_getElem? (i := 0) rfl) (by decide)) (hp_gLi (z := (0 + (1 * y + 0))) gL (List.mem_of_getElem? (i := 1) rfl) rfl (by omega)) (hp_gLi (z := (0 + (1 * s + 0))) gL (List.mem_of_getElem? (i := 2) rfl) rfl (by omega)) (hp_gLj (z := (0 + (1 * d + 0))) gL (List.mem_of_getElem? (i := 3) rfl) rfl (by omega))
    cases hp
  · intro p_9 hp ys v_9 h' hys a1_9 a2 a3 gZ gS
    cases hp
theorem rwC_k : hp_chk 326 54 3 [(0, 0, 399), (1, 0, 5), (2, (-9223372036854775808), 9223372036854775807)] [] [(0, .inr (.inr (.inl (some 94)))), (1, .inl (0, [(0, 1)])), (2, .inl (0, [(1, 1)])), (3, .inr (.inl (0, [(2, 1)])))] [] [] [] 2 [(55, ([], 3, [(0, 0, 399), (1, 0, 5), (2, (-9223372036854775808), 9223372036854775807)], [], [(0, .inr (.inr (.inl (some 94)))), (1, .inl (0, [(0, 1)])), (2, .inl (0, [(1, 1)])), (3, .inr (.inl (0, [(2, 1)])))], [.inr (.inr (.inl (some 94)))], []))] [] = true := by decide +kernel
theorem rwC {cst : am_K} {strs : List Nat} {Φ : am_Q → Prop} {D : Nat} {M : am_M} {h : am_H} {l : am_L} (c : hp_C cst strs D) (hM : m_P[326]? = some M) (hD : (2 : Int) ≤ (D : Int) + 1) (hy : ly_hy m_tt ly_TH h) (y s d : Int) (b0 : 0 ≤ y) (t0 : y ≤ 399) (b1 : 0 ≤ s) (t1 : s ≤ 5) (b2 : (-9223372036854775808) ≤ d) (t2 : d ≤ 9223372036854775807) (l0 : hp_a l 0 94) (l1 : hp_i l 1 (y)) (l2 : hp_i l 2 (s)) (l3 : hp_j l 3 (d)) (e0 : ∀ (l' : am_L) (h' : am_H), ly_hy m_tt ly_TH h' → ly_fr cst [] h h' → h.length ≤ h'.length → hp_a l' 0 94 → hp_i l' 1 (y) → hp_i l' 2 (s) → hp_j l' 3 (d) → hp_F cst strs Φ D M 55 l' [.ref 94] h') : hp_F cst strs Φ D M 54 l [] h := by
  refine hp_arc c hM rwC_k hD [y, s, d] rfl hy (hp_Bc (z := y) rfl b0 t0 (hp_Bc (z := s) rfl b1 t1 (hp_Bc (z := d) rfl b2 t2 hp_Bn))) hp_Fn hp_Kn (hp_La l0 (hp_Li (z := (0 + (1 * y + 0))) l1 rfl (by omega) (hp_Li (z := (0 + (1 * s + 0))) l2 rfl (by omega) (hp_Lj (z := (0 + (1 * d + 0))) l3 rfl (by omega) hp_Ln)))) trivial ?_ ?_
  · intro p_9 hp ys l' st' h' hys a1_9 a2 a3 gZ gL gS
    rcases List.mem_cons.mp hp with rfl | hp
    · obtain rfl := hp_y0 hys
      obtain ⟨t0, rfl, g0⟩ := hp_gSa gS (by decide)
      cases hp_gSn g0
      exact e0 l' h' a1_9 a2 a3 (hp_gLa gL (List.mem_of_getElem? (i := 0) rfl) (by decide)) (hp_gLi (z := (0 + (1 * y + 0))) gL (List.mem_of_getElem? (i := 1) rfl) rfl (by omega)) (hp_gLi (z := (0 + (1 * s + 0))) gL (List.mem_of_getElem? (i := 2) rfl) rfl (by omega)) (hp_gLj (z := (0 + (1 * d + 0))) gL (List.mem_of_getElem? (i := 3) rfl) rfl (by omega))
    cases hp
  · intro p_9 hp ys v_9 h' hys a1_9 a2 a3 gZ gS
    cases hp
theorem rwF0_k : hp_chk 326 58 3 [(0, 0, 399), (1, 0, 5), (2, (-9223372036854775808), 9223372036854775807)] [] [(0, .inr (.inr (.inl (some 94)))), (1, .inl (0, [(0, 1)])), (2, .inl (0, [(1, 1)])), (3, .inr (.inl (0, [(2, 1)])))] [.inl (0, [])] [] [] 2 [] [([], 3, [(0, 0, 399), (1, 0, 5), (2, (-9223372036854775808), 9223372036854775807)], [], [], [.inl ((-1), [])], [])] = true := by decide +kernel
theorem rwF0 {cst : am_K} {strs : List Nat} {Φ : am_Q → Prop} {D : Nat} {M : am_M} {h : am_H} {l : am_L} (c : hp_C cst strs D) (hM : m_P[326]? = some M) (hD : (2 : Int) ≤ (D : Int) + 1) (hy : ly_hy m_tt ly_TH h) (y s d : Int) (x0 : Int32) (hx0 : x0.toInt = 0) (b0 : 0 ≤ y) (t0 : y ≤ 399) (b1 : 0 ≤ s) (t1 : s ≤ 5) (b2 : (-9223372036854775808) ≤ d) (t2 : d ≤ 9223372036854775807) (l0 : hp_a l 0 94) (l1 : hp_i l 1 (y)) (l2 : hp_i l 2 (s)) (l3 : hp_j l 3 (d)) (r0 : ∀ (h' : am_H) (y0 : Int32), y0.toInt = (-1) → ly_hy m_tt ly_TH h' → ly_fr cst [] h h' → h.length ≤ h'.length → Φ (some (.int y0), h', 0, 0)) : hp_F cst strs Φ D M 58 l [.int x0] h := by
  refine hp_arc c hM rwF0_k hD [y, s, d] rfl hy (hp_Bc (z := y) rfl b0 t0 (hp_Bc (z := s) rfl b1 t1 (hp_Bc (z := d) rfl b2 t2 hp_Bn))) hp_Fn hp_Kn (hp_La l0 (hp_Li (z := (0 + (1 * y + 0))) l1 rfl (by omega) (hp_Li (z := (0 + (1 * s + 0))) l2 rfl (by omega) (hp_Lj (z := (0 + (1 * d + 0))) l3 rfl (by omega) hp_Ln)))) (hp_Si (z := (0 + 0)) rfl (by omega) trivial) ?_ ?_
  · intro p_9 hp ys l' st' h' hys a1_9 a2 a3 gZ gL gS
    cases hp
  · intro p_9 hp ys v_9 h' hys a1_9 a2 a3 gZ gS
    rcases List.mem_cons.mp hp with rfl | hp
    · obtain rfl := hp_y0 hys
      cases v_9 with
      | none => cases gS
      | some wz =>
        obtain ⟨y0, t0, s0_9, q0, -⟩ := hp_gSi (z := ((-1) + 0)) gS rfl
        cases s0_9
        exact r0 h' y0 (by omega) a1_9 a2 a3
    cases hp
theorem rwF1_k : hp_chk 326 58 3 [(0, 0, 399), (1, 0, 5), (2, (-9223372036854775808), 9223372036854775807)] [] [(0, .inr (.inr (.inl (some 94)))), (1, .inl (0, [(0, 1)])), (2, .inl (0, [(1, 1)])), (3, .inr (.inl (0, [(2, 1)])))] [.inl (1, [])] [] [] 2 [(68, ([], 3, [(0, 0, 399), (1, 0, 5), (2, (-9223372036854775808), 9223372036854775807)], [], [(0, .inr (.inr (.inl (some 94)))), (1, .inl (0, [(0, 1)])), (2, .inl (0, [(1, 1)])), (3, .inr (.inl (0, [(2, 1)])))], [.inl (0, [(1, 1)]), .inl (0, [(0, 1)]), .inr (.inl (0, [(2, 1)])), .inl (0, []), .inr (.inr (.inl (some 94)))], []))] [] = true := by decide +kernel
theorem rwF1 {cst : am_K} {strs : List Nat} {Φ : am_Q → Prop} {D : Nat} {M : am_M} {h : am_H} {l : am_L} (c : hp_C cst strs D) (hM : m_P[326]? = some M) (hD : (2 : Int) ≤ (D : Int) + 1) (hy : ly_hy m_tt ly_TH h) (y s d : Int) (x0 : Int32) (hx0 : x0.toInt = 1) (b0 : 0 ≤ y) (t0 : y ≤ 399) (b1 : 0 ≤ s) (t1 : s ≤ 5) (b2 : (-9223372036854775808) ≤ d) (t2 : d ≤ 9223372036854775807) (l0 : hp_a l 0 94) (l1 : hp_i l 1 (y)) (l2 : hp_i l 2 (s)) (l3 : hp_j l 3 (d)) (e0 : ∀ (l' : am_L) (h' : am_H) (y0 : Int32) (y1 : Int32) (y2 : Int64) (y3 : Int32), y0.toInt = (s) → y1.toInt = (y) → y2.toInt = (d) → y3.toInt = 0 → ly_hy m_tt ly_TH h' → ly_fr cst [] h h' → h.length ≤ h'.length → hp_a l' 0 94 → hp_i l' 1 (y) → hp_i l' 2 (s) → hp_j l' 3 (d) → hp_F cst strs Φ D M 68 l' [.int y0, .int y1, .long y2, .int y3, .ref 94] h') : hp_F cst strs Φ D M 58 l [.int x0] h := by
  refine hp_arc c hM rwF1_k hD [y, s, d] rfl hy (hp_Bc (z := y) rfl b0 t0 (hp_Bc (z := s) rfl b1 t1 (hp_Bc (z := d) rfl b2 t2 hp_Bn))) hp_Fn hp_Kn (hp_La l0 (hp_Li (z := (0 + (1 * y + 0))) l1 rfl (by omega) (hp_Li (z := (0 + (1 * s + 0))) l2 rfl (by omega) (hp_Lj (z := (0 + (1 * d + 0))) l3 rfl (by omega) hp_Ln)))) (hp_Si (z := (1 + 0)) rfl (by omega) trivial) ?_ ?_
  · intro p_9 hp ys l' st' h' hys a1_9 a2 a3 gZ gL gS
    rcases List.mem_cons.mp hp with rfl | hp
    · obtain rfl := hp_y0 hys
      obtain ⟨y0, t0, rfl, q0, g0⟩ := hp_gSi (z := (0 + (1 * s + 0))) gS rfl
      obtain ⟨y1, t1, rfl, q1_9, g1⟩ := hp_gSi (z := (0 + (1 * y + 0))) g0 rfl
      obtain ⟨y2, t2, rfl, q2_9, g2⟩ := hp_gSj (z := (0 + (1 * d + 0))) g1 rfl
      obtain ⟨y3, t3_9, rfl, q3_9, g3_9⟩ := hp_gSi (z := (0 + 0)) g2 rfl
      obtain ⟨t4_9, rfl, g4⟩ := hp_gSa g3_9 (by decide)
      cases hp_gSn g4
      exact e0 l' h' y0 y1 y2 y3 (by omega) (by omega) (by omega) (by omega) a1_9 a2 a3 (hp_gLa gL (List.mem_of_getElem? (i := 0) rfl) (by decide)) (hp_gLi (z := (0 + (1 * y + 0))) gL (List.mem_of_getElem? (i := 1) rfl) rfl (by omega)) (hp_gLi (z := (0 + (1 * s + 0))) gL (List.mem_of_getElem? (i := 2) rfl) rfl (by omega)) (hp_gLj (z := (0 + (1 * d + 0))) gL (List.mem_of_getElem? (i := 3) rfl) rfl (by omega))
    cases hp
  · intro p_9 hp ys v_9 h' hys a1_9 a2 a3 gZ gS
    cases hp
theorem rwG0_k : hp_chk 326 71 3 [(0, 0, 399), (1, 0, 5), (2, (-9223372036854775808), 9223372036854775807)] [] [(0, .inr (.inr (.inl (some 94)))), (1, .inl (0, [(0, 1)])), (2, .inl (0, [(1, 1)])), (3, .inr (.inl (0, [(2, 1)])))] [.inl ((-1), [])] [] [] 2 [] [([], 3, [(0, 0, 399), (1, 0, 5), (2, (-9223372036854775808), 9223372036854775807)], [], [], [.inl ((-4), [])], [])] = true := by decide +kernel
theorem rwG0 {cst : am_K} {strs : List Nat} {Φ : am_Q → Prop} {D : Nat} {M : am_M} {h : am_H} {l : am_L} (c : hp_C cst strs D) (hM : m_P[326]? = some M) (hD : (2 : Int) ≤ (D : Int) + 1) (hy : ly_hy m_tt ly_TH h) (y s d : Int) (x0 : Int32) (hx0 : x0.toInt = (-1)) (b0 : 0 ≤ y) (t0 : y ≤ 399) (b1 : 0 ≤ s) (t1 : s ≤ 5) (b2 : (-9223372036854775808) ≤ d) (t2 : d ≤ 9223372036854775807) (l0 : hp_a l 0 94) (l1 : hp_i l 1 (y)) (l2 : hp_i l 2 (s)) (l3 : hp_j l 3 (d)) (r0 : ∀ (h' : am_H) (y0 : Int32), y0.toInt = (-4) → ly_hy m_tt ly_TH h' → ly_fr cst [] h h' → h.length ≤ h'.length → Φ (some (.int y0), h', 0, 0)) : hp_F cst strs Φ D M 71 l [.int x0] h := by
  refine hp_arc c hM rwG0_k hD [y, s, d] rfl hy (hp_Bc (z := y) rfl b0 t0 (hp_Bc (z := s) rfl b1 t1 (hp_Bc (z := d) rfl b2 t2 hp_Bn))) hp_Fn hp_Kn (hp_La l0 (hp_Li (z := (0 + (1 * y + 0))) l1 rfl (by omega) (hp_Li (z := (0 + (1 * s + 0))) l2 rfl (by omega) (hp_Lj (z := (0 + (1 * d + 0))) l3 rfl (by omega) hp_Ln)))) (hp_Si (z := ((-1) + 0)) rfl (by omega) trivial) ?_ ?_
  · intro p_9 hp ys l' st' h' hys a1_9 a2 a3 gZ gL gS
    cases hp
  · intro p_9 hp ys v_9 h' hys a1_9 a2 a3 gZ gS
    rcases List.mem_cons.mp hp with rfl | hp
    · obtain rfl := hp_y0 hys
      cases v_9 with
      | none => cases gS
      | some wz =>
        obtain ⟨y0, t0, s0_9, q0, -⟩ := hp_gSi (z := ((-4) + 0)) gS rfl
        cases s0_9
        exact r0 h' y0 (by omega) a1_9 a2 a3
    cases hp
theorem rwG1_k : hp_chk 326 71 4 [(0, 0, 399), (1, 0, 5), (2, (-9223372036854775808), 9223372036854775807), (3, 0, 1199)] [] [(0, .inr (.inr (.inl (some 94)))), (1, .inl (0, [(0, 1)])), (2, .inl (0, [(1, 1)])), (3, .inr (.inl (0, [(2, 1)])))] [.inl (0, [(3, 1)])] [] [] 2 [(89, ([], 4, [(0, 0, 399), (1, 0, 5), (2, (-9223372036854775808), 9223372036854775807), (3, 0, 1199)], [], [(0, .inr (.inr (.inl (some 94)))), (1, .inl (0, [(0, 1)])), (2, .inl (0, [(1, 1)])), (3, .inr (.inl (0, [(2, 1)]))), (5, .inl (0, [(3, 1)]))], [.inl (200, []), .inl (0, [(3, 1)]), .inr (.inr (.inl (some 94))), .inr (.inr (.inl (some 94)))], []))] [] = true := by decide +kernel
theorem rwG1 {cst : am_K} {strs : List Nat} {Φ : am_Q → Prop} {D : Nat} {M : am_M} {h : am_H} {l : am_L} (c : hp_C cst strs D) (hM : m_P[326]? = some M) (hD : (2 : Int) ≤ (D : Int) + 1) (hy : ly_hy m_tt ly_TH h) (y s d cq : Int) (x0 : Int32) (hx0 : x0.toInt = (cq)) (b0 : 0 ≤ y) (t0 : y ≤ 399) (b1 : 0 ≤ s) (t1 : s ≤ 5) (b2 : (-9223372036854775808) ≤ d) (t2 : d ≤ 9223372036854775807) (b3 : 0 ≤ cq) (t3 : cq ≤ 1199) (l0 : hp_a l 0 94) (l1 : hp_i l 1 (y)) (l2 : hp_i l 2 (s)) (l3 : hp_j l 3 (d)) (e0 : ∀ (l' : am_L) (h' : am_H) (y0 : Int32) (y1 : Int32), y0.toInt = 200 → y1.toInt = (cq) → ly_hy m_tt ly_TH h' → ly_fr cst [] h h' → h.length ≤ h'.length → hp_a l' 0 94 → hp_i l' 1 (y) → hp_i l' 2 (s) → hp_j l' 3 (d) → hp_i l' 5 (cq) → hp_F cst strs Φ D M 89 l' [.int y0, .int y1, .ref 94, .ref 94] h') : hp_F cst strs Φ D M 71 l [.int x0] h := by
  refine hp_arc c hM rwG1_k hD [y, s, d, cq] rfl hy (hp_Bc (z := y) rfl b0 t0 (hp_Bc (z := s) rfl b1 t1 (hp_Bc (z := d) rfl b2 t2 (hp_Bc (z := cq) rfl b3 t3 hp_Bn)))) hp_Fn hp_Kn (hp_La l0 (hp_Li (z := (0 + (1 * y + 0))) l1 rfl (by omega) (hp_Li (z := (0 + (1 * s + 0))) l2 rfl (by omega) (hp_Lj (z := (0 + (1 * d + 0))) l3 rfl (by omega) hp_Ln)))) (hp_Si (z := (0 + (1 * cq + 0))) rfl (by omega) trivial) ?_ ?_
  · intro p_9 hp ys l' st' h' hys a1_9 a2 a3 gZ gL gS
    rcases List.mem_cons.mp hp with rfl | hp
    · obtain rfl := hp_y0 hys
      obtain ⟨y0, t0, rfl, q0, g0⟩ := hp_gSi (z := (200 + 0)) gS rfl
      obtain ⟨y1, t1, rfl, q1_9, g1⟩ := hp_gSi (z := (0 + (1 * cq + 0))) g0 rfl
      obtain ⟨t2, rfl, g2⟩ := hp_gSa g1 (by decide)
      obtain ⟨t3, rfl, g3_9⟩ := hp_gSa g2 (by decide)
      cases hp_gSn g3_9
      exact e0 l' h' y0 y1 (by omega) (by omega) a1_9 a2 a3 (hp_gLa gL (List.mem_of_getElem? (i := 0) rfl) (by decide)) (hp_gLi (z := (0 + (1 * y + 0))) gL (List.mem_of_getElem? (i := 1) rfl) rfl (by omega)) (hp_gLi (z := (0 + (1 * s + 0))) gL (List.mem_of_getElem? (i := 2) rfl) rfl (by omega)) (hp_gLj (z := (0 + (1 * d + 0))) gL (List.mem_of_getElem? (i := 3) rfl) rfl (by omega)) (hp_gLi (z := (0 + (1 * cq + 0))) gL (List.mem_of_getElem? (i := 4) rfl) rfl (by omega))
    cases hp
  · intro p_9 hp ys v_9 h' hys a1_9 a2 a3 gZ gS
    cases hp
theorem rwM_k : hp_chk 326 92 5 [(0, 0, 399), (1, 0, 5), (2, (-9223372036854775808), 9223372036854775807), (3, 0, 1199), (4, (-2147483648), 2147483647)] [] [(0, .inr (.inr (.inl (some 94)))), (1, .inl (0, [(0, 1)])), (2, .inl (0, [(1, 1)])), (3, .inr (.inl (0, [(2, 1)]))), (5, .inl (0, [(3, 1)]))] [.inl (0, [(4, 1)]), .inr (.inr (.inl (some 94)))] [] [20022] 2 [(103, ([], 5, [(0, 0, 399), (1, 0, 5), (2, (-9223372036854775808), 9223372036854775807), (3, 0, 1199), (4, (-2147483648), 2147483647)], [], [(0, .inr (.inr (.inl (some 94)))), (1, .inl (0, [(0, 1)])), (2, .inl (0, [(1, 1)])), (3, .inr (.inl (0, [(2, 1)]))), (5, .inl (0, [(3, 1)]))], [.inl (0, [(4, 1)]), .inl (0, [(3, 1)]), .inr (.inr (.inl (some 94))), .inr (.inr (.inl (some 94)))], [(20022, (0, []), (0, [(4, 1)]))]))] [] = true := by decide +kernel
theorem rwM {cst : am_K} {strs : List Nat} {Φ : am_Q → Prop} {D : Nat} {M : am_M} {h : am_H} {l : am_L} (c : hp_C cst strs D) (hM : m_P[326]? = some M) (hD : (2 : Int) ≤ (D : Int) + 1) (hy : ly_hy m_tt ly_TH h) (y s d cq m : Int) (x0 : Int32) (hx0 : x0.toInt = (m)) (b0 : 0 ≤ y) (t0 : y ≤ 399) (b1 : 0 ≤ s) (t1 : s ≤ 5) (b2 : (-9223372036854775808) ≤ d) (t2 : d ≤ 9223372036854775807) (b3 : 0 ≤ cq) (t3 : cq ≤ 1199) (b4 : (-2147483648) ≤ m) (t4 : m ≤ 2147483647) (l0 : hp_a l 0 94) (l1 : hp_i l 1 (y)) (l2 : hp_i l 2 (s)) (l3 : hp_j l 3 (d)) (l5 : hp_i l 5 (cq)) (e0 : ∀ (l' : am_L) (h' : am_H) (y0 : Int32) (y1 : Int32), y0.toInt = (m) → y1.toInt = (cq) → ly_hy m_tt ly_TH h' → ly_fr cst [20022] h h' → h.length ≤ h'.length → ly_hv cst h' 20022 0 = some (m) → hp_a l' 0 94 → hp_i l' 1 (y) → hp_i l' 2 (s) → hp_j l' 3 (d) → hp_i l' 5 (cq) → hp_F cst strs Φ D M 103 l' [.int y0, .int y1, .ref 94, .ref 94] h') : hp_F cst strs Φ D M 92 l [.int x0, .ref 94] h := by
  refine hp_arc c hM rwM_k hD [y, s, d, cq, m] rfl hy (hp_Bc (z := y) rfl b0 t0 (hp_Bc (z := s) rfl b1 t1 (hp_Bc (z := d) rfl b2 t2 (hp_Bc (z := cq) rfl b3 t3 (hp_Bc (z := m) rfl b4 t4 hp_Bn))))) hp_Fn hp_Kn (hp_La l0 (hp_Li (z := (0 + (1 * y + 0))) l1 rfl (by omega) (hp_Li (z := (0 + (1 * s + 0))) l2 rfl (by omega) (hp_Lj (z := (0 + (1 * d + 0))) l3 rfl (by omega) (hp_Li (z := (0 + (1 * cq + 0))) l5 rfl (by omega) hp_Ln))))) (hp_Si (z := (0 + (1 * m + 0))) rfl (by omega) (hp_Sa trivial)) ?_ ?_
  · intro p_9 hp ys l' st' h' hys a1_9 a2 a3 gZ gL gS
    rcases List.mem_cons.mp hp with rfl | hp
    · obtain rfl := hp_y0 hys
      obtain ⟨y0, t0, rfl, q0, g0⟩ := hp_gSi (z := (0 + (1 * m + 0))) gS rfl
      obtain ⟨y1, t1, rfl, q1_9, g1⟩ := hp_gSi (z := (0 + (1 * cq + 0))) g0 rfl
      obtain ⟨t2, rfl, g2⟩ := hp_gSa g1 (by decide)
      obtain ⟨t3, rfl, g3_9⟩ := hp_gSa g2 (by decide)
      cases hp_gSn g3_9
      exact e0 l' h' y0 y1 (by omega) (by omega) a1_9 a2 a3 (hp_gK (zi := (0 + 0)) (zv := (0 + (1 * m + 0))) gZ.2.2.2 (List.mem_of_getElem? (i := 0) rfl) rfl rfl (by omega) (by omega)) (hp_gLa gL (List.mem_of_getElem? (i := 0) rfl) (by decide)) (hp_gLi (z := (0 + (1 * y + 0))) gL (List.mem_of_getElem? (i := 1) rfl) rfl (by omega)) (hp_gLi (z := (0 + (1 * s + 0))) gL (List.mem_of_getElem? (i := 2) rfl) rfl (by omega)) (hp_gLj (z := (0 + (1 * d + 0))) gL (List.mem_of_getElem? (i := 3) rfl) rfl (by omega)) (hp_gLi (z := (0 + (1 * cq + 0))) gL (List.mem_of_getElem? (i := 4) rfl) rfl (by omega))
    cases hp
  · intro p_9 hp ys v_9 h' hys a1_9 a2 a3 gZ gS
    cases hp
theorem rwL1_k : hp_chk 326 106 5 [(0, 0, 399), (1, 0, 5), (2, (-9223372036854775808), 9223372036854775807), (3, 0, 1199), (4, (-2147483648), 2147483647)] [] [(0, .inr (.inr (.inl (some 94)))), (1, .inl (0, [(0, 1)])), (2, .inl (0, [(1, 1)])), (3, .inr (.inl (0, [(2, 1)]))), (5, .inl (0, [(3, 1)]))] [.inl ((-1), []), .inr (.inr (.inl (some 94)))] [(20022, (0, []), (0, [(4, 1)]))] [20023] 2 [] [([], 5, [(0, 0, 399), (1, 0, 5), (2, (-9223372036854775808), 9223372036854775807), (3, 0, 1199), (4, (-2147483648), 2147483647)], [], [], [.inl (1, [])], [(20022, (0, []), (0, [(4, 1)])), (20023, (0, []), ((-1), []))])] = true := by decide +kernel
theorem rwL1 {cst : am_K} {strs : List Nat} {Φ : am_Q → Prop} {D : Nat} {M : am_M} {h : am_H} {l : am_L} (c : hp_C cst strs D) (hM : m_P[326]? = some M) (hD : (2 : Int) ≤ (D : Int) + 1) (hy : ly_hy m_tt ly_TH h) (y s d cq m : Int) (x0 : Int32) (hx0 : x0.toInt = (-1)) (b0 : 0 ≤ y) (t0 : y ≤ 399) (b1 : 0 ≤ s) (t1 : s ≤ 5) (b2 : (-9223372036854775808) ≤ d) (t2 : d ≤ 9223372036854775807) (b3 : 0 ≤ cq) (t3 : cq ≤ 1199) (b4 : (-2147483648) ≤ m) (t4 : m ≤ 2147483647) (k0 : ly_hv cst h 20022 0 = some (m)) (l0 : hp_a l 0 94) (l1 : hp_i l 1 (y)) (l2 : hp_i l 2 (s)) (l3 : hp_j l 3 (d)) (l5 : hp_i l 5 (cq)) (r0 : ∀ (h' : am_H) (y0 : Int32), y0.toInt = 1 → ly_hy m_tt ly_TH h' → ly_fr cst [20023] h h' → h.length ≤ h'.length → ly_hv cst h' 20022 0 = some (m) → ly_hv cst h' 20023 0 = some (-1) → Φ (some (.int y0), h', 0, 0)) : hp_F cst strs Φ D M 106 l [.int x0, .ref 94] h := by
  refine hp_arc c hM rwL1_k hD [y, s, d, cq, m] rfl hy (hp_Bc (z := y) rfl b0 t0 (hp_Bc (z := s) rfl b1 t1 (hp_Bc (z := d) rfl b2 t2 (hp_Bc (z := cq) rfl b3 t3 (hp_Bc (z := m) rfl b4 t4 hp_Bn))))) hp_Fn (hp_Kc (zi := (0 + 0)) (zv := (0 + (1 * m + 0))) k0 rfl rfl (by omega) (by omega) hp_Kn) (hp_La l0 (hp_Li (z := (0 + (1 * y + 0))) l1 rfl (by omega) (hp_Li (z := (0 + (1 * s + 0))) l2 rfl (by omega) (hp_Lj (z := (0 + (1 * d + 0))) l3 rfl (by omega) (hp_Li (z := (0 + (1 * cq + 0))) l5 rfl (by omega) hp_Ln))))) (hp_Si (z := ((-1) + 0)) rfl (by omega) (hp_Sa trivial)) ?_ ?_
  · intro p_9 hp ys l' st' h' hys a1_9 a2 a3 gZ gL gS
    cases hp
  · intro p_9 hp ys v_9 h' hys a1_9 a2 a3 gZ gS
    rcases List.mem_cons.mp hp with rfl | hp
    · obtain rfl := hp_y0 hys
      cases v_9 with
      | none => cases gS
      | some wz =>
        obtain ⟨y0, t0, s0_9, q0, -⟩ := hp_gSi (z := (1 + 0)) gS rfl
        cases s0_9
        exact r0 h' y0 (by omega) a1_9 a2 a3 (hp_gK (zi := (0 + 0)) (zv := (0 + (1 * m + 0))) gZ.2.2.2 (List.mem_of_getElem? (i := 0) rfl) rfl rfl (by omega) (by omega)) (hp_gK (zi := (0 + 0)) (zv := ((-1) + 0)) gZ.2.2.2 (List.mem_of_getElem? (i := 1) rfl) rfl rfl (by omega) (by omega))
    cases hp
theorem rwL0_k : hp_chk 326 106 6 [(0, 0, 399), (1, 0, 5), (2, (-9223372036854775808), 9223372036854775807), (3, 0, 1199), (4, (-2147483648), 2147483647), (5, 0, 99)] [] [(0, .inr (.inr (.inl (some 94)))), (1, .inl (0, [(0, 1)])), (2, .inl (0, [(1, 1)])), (3, .inr (.inl (0, [(2, 1)]))), (5, .inl (0, [(3, 1)]))] [.inl (0, [(5, 1)]), .inr (.inr (.inl (some 94)))] [(20022, (0, []), (0, [(4, 1)]))] [20023] 2 [] [([], 6, [(0, 0, 399), (1, 0, 5), (2, (-9223372036854775808), 9223372036854775807), (3, 0, 1199), (4, (-2147483648), 2147483647), (5, 0, 99)], [], [], [.inl (0, [])], [(20022, (0, []), (0, [(4, 1)])), (20023, (0, []), (0, [(5, 1)]))])] = true := by decide +kernel
theorem rwL0 {cst : am_K} {strs : List Nat} {Φ : am_Q → Prop} {D : Nat} {M : am_M} {h : am_H} {l : am_L} (c : hp_C cst strs D) (hM : m_P[326]? = some M) (hD : (2 : Int) ≤ (D : Int) + 1) (hy : ly_hy m_tt ly_TH h) (y s d cq m k : Int) (x0 : Int32) (hx0 : x0.toInt = (k)) (b0 : 0 ≤ y) (t0 : y ≤ 399) (b1 : 0 ≤ s) (t1 : s ≤ 5) (b2 : (-9223372036854775808) ≤ d) (t2 : d ≤ 9223372036854775807) (b3 : 0 ≤ cq) (t3 : cq ≤ 1199) (b4 : (-2147483648) ≤ m) (t4 : m ≤ 2147483647) (b5 : 0 ≤ k) (t5 : k ≤ 99) (k0 : ly_hv cst h 20022 0 = some (m)) (l0 : hp_a l 0 94) (l1 : hp_i l 1 (y)) (l2 : hp_i l 2 (s)) (l3 : hp_j l 3 (d)) (l5 : hp_i l 5 (cq)) (r0 : ∀ (h' : am_H) (y0 : Int32), y0.toInt = 0 → ly_hy m_tt ly_TH h' → ly_fr cst [20023] h h' → h.length ≤ h'.length → ly_hv cst h' 20022 0 = some (m) → ly_hv cst h' 20023 0 = some (k) → Φ (some (.int y0), h', 0, 0)) : hp_F cst strs Φ D M 106 l [.int x0, .ref 94] h := by
  refine hp_arc c hM rwL0_k hD [y, s, d, cq, m, k] rfl hy (hp_Bc (z := y) rfl b0 t0 (hp_Bc (z := s) rfl b1 t1 (hp_Bc (z := d) rfl b2 t2 (hp_Bc (z := cq) rfl b3 t3 (hp_Bc (z := m) rfl b4 t4 (hp_Bc (z := k) rfl b5 t5 hp_Bn)))))) hp_Fn (hp_Kc (zi := (0 + 0)) (zv := (0 + (1 * m + 0))) k0 rfl rfl (by omega) (by omega) hp_Kn) (hp_La l0 (hp_Li (z := (0 + (1 * y + 0))) l1 rfl (by omega) (hp_Li (z := (0 + (1 * s + 0))) l2 rfl (by omega) (hp_Lj (z := (0 + (1 * d + 0))) l3 rfl (by omega) (hp_Li (z := (0 + (1 * cq + 0))) l5 rfl (by omega) hp_Ln))))) (hp_Si (z := (0 + (1 * k + 0))) rfl (by omega) (hp_Sa trivial)) ?_ ?_
  · intro p_9 hp ys l' st' h' hys a1_9 a2 a3 gZ gL gS
    cases hp
  · intro p_9 hp ys v_9 h' hys a1_9 a2 a3 gZ gS
    rcases List.mem_cons.mp hp with rfl | hp
    · obtain rfl := hp_y0 hys
      cases v_9 with
      | none => cases gS
      | some wz =>
        obtain ⟨y0, t0, s0_9, q0, -⟩ := hp_gSi (z := (0 + 0)) gS rfl
        cases s0_9
        exact r0 h' y0 (by omega) a1_9 a2 a3 (hp_gK (zi := (0 + 0)) (zv := (0 + (1 * m + 0))) gZ.2.2.2 (List.mem_of_getElem? (i := 0) rfl) rfl rfl (by omega) (by omega)) (hp_gK (zi := (0 + 0)) (zv := (0 + (1 * k + 0))) gZ.2.2.2 (List.mem_of_getElem? (i := 1) rfl) rfl rfl (by omega) (by omega))
    cases hp
/-- the condition of a deed, by its items -/
def ev1 (met : Nat → Bool) (s : List Bool × Nat) (x : Int) : List Bool × Nat := if x = -20004 then (met s.2 :: s.1, s.2 + 1) else if x = -20005 then (qv_n s.1, s.2) else if x = -20006 then (qv_a s.1, s.2) else if x = -20007 then (qv_o s.1, s.2) else s
def evl (met : Nat → Bool) (E : List Int) (s : List Bool × Nat) : List Bool × Nat := E.foldl (ev1 met) s
def bvE (E : List Int) (met : Nat → Bool) : Bool := (evl met E ([], 0)).1.headD false
theorem evl_ap (met : Nat → Bool) (A B : List Int) (s : List Bool × Nat) : evl met (A ++ B) s = evl met B (evl met A s) := by
  unfold evl
  rw [List.foldl_append]
set_option maxRecDepth 8000 in
theorem evl_t (met : Nat → Bool) : ∀ (L_9 : List Int) (s_9 : List Bool × Nat), (∀ i_9 ∈ L_9, -20003 ≤ i_9 ∨ i_9 ≤ -20008) → evl met L_9 s_9 = s_9
  | [], s_9, _ => rfl
  | x :: L_9, s_9, w => by
    have wx := w x List.mem_cons_self
    have e : ev1 met s_9 x = s_9 := by
      unfold ev1
      rw [if_neg (by omega), if_neg (by omega), if_neg (by omega), if_neg (by omega)]
    show evl met L_9 (ev1 met s_9 x) = s_9
    rw [e]
    exact evl_t met L_9 s_9 (fun i_9 hi_9 => w i_9 (List.mem_cons_of_mem _ hi_9))
set_option maxRecDepth 8000 in
theorem evl_v (met : Nat → Bool) : ∀ (V : List (qt_T ⊕ Int)) (s_9 : List Bool × Nat), (∀ x_9 ∈ V, qw x_9) → evl met (qv_e V) s_9 = qv_c met V s_9
  | [], s_9, _ => rfl
  | .inl x_9 :: V, s_9, w_9 => by
    have wx : qwt x_9 := w_9 _ List.mem_cons_self
    show evl met (qt_e x_9 ++ [-20004] ++ qv_e V) s_9 = qv_c met V (met s_9.2 :: s_9.1, s_9.2 + 1)
    rw [evl_ap, evl_ap, evl_t met (qt_e x_9) s_9 (qt_e_n wx)]
    have e_9 : evl met [-20004] s_9 = (met s_9.2 :: s_9.1, s_9.2 + 1) := by
      show ev1 met s_9 (-20004) = _
      unfold ev1
      rw [if_pos rfl]
    rw [e_9]
    exact evl_v met V _ (fun y_9 hy => w_9 y_9 (List.mem_cons_of_mem _ hy))
  | .inr j_9 :: V, s_9, w_9 => by
    have wj : j_9 = -20005 ∨ j_9 = -20006 ∨ j_9 = -20007 := w_9 _ List.mem_cons_self
    have e_9 : ev1 met s_9 j_9 = qv_c1 met s_9 (.inr j_9) := by
      show _ = ((if j_9 = -20005 then qv_n s_9.1 else if j_9 = -20006 then qv_a s_9.1 else if j_9 = -20007 then qv_o s_9.1 else s_9.1, s_9.2) : List Bool × Nat)
      unfold ev1
      rcases wj with z_9 | z_9 | z_9
      · rw [if_neg (by omega), if_pos z_9, if_pos z_9]
      · rw [if_neg (by omega), if_neg (by omega), if_pos z_9, if_neg (by omega), if_pos z_9]
      · rw [if_neg (by omega), if_neg (by omega), if_neg (by omega), if_pos z_9, if_neg (by omega), if_neg (by omega), if_pos z_9]
    show evl met (qv_e V) (ev1 met s_9 j_9) = qv_c met V (qv_c1 met s_9 (.inr j_9))
    rw [e_9]
    exact evl_v met V _ (fun y_9 hy => w_9 y_9 (List.mem_cons_of_mem _ hy))
theorem bvE_v {V : List (qt_T ⊕ Int)} {bv : (Nat → Bool) → Bool} {m : Nat} (H : dV V bv m) : bvE (qv_e V) = bv := by
  funext met
  unfold bvE
  rw [evl_v met V _ H.1, H.2.2.2.2 met []]
  rfl
set_option maxRecDepth 8000 in
theorem lck_b (f : Int32 → Bool) (me : Int32) : ∀ (F t : Nat), t + F ≤ 99 → 0 ≤ lck f me F t ∧ lck f me F t ≤ 99
  | 0, t, _ => by
    show (0 : Int) ≤ 99 ∧ (99 : Int) ≤ 99
    omega
  | F + 1, t, h => by
    show 0 ≤ (if f (me ^^^ ((1 : Int32) <<< (Int32.ofNat t &&& 31))) = true then (t : Int) else lck f me F (t + 1)) ∧ (if f (me ^^^ ((1 : Int32) <<< (Int32.ofNat t &&& 31))) = true then (t : Int) else lck f me F (t + 1)) ≤ 99
    split
    · omega
    · exact lck_b f me F (t + 1) (by omega)
theorem lcks_b (f : Int32 → Bool) (me : Int32) {m : Nat} (h : m ≤ 20) : lcks f me m = -1 ∨ (0 ≤ lcks f me m ∧ lcks f me m ≤ 99) := by
  unfold lcks
  split
  · exact Or.inl rfl
  · exact Or.inr (lck_b f me m 0 (by omega))
def wok (y s : Int) : Prop := 0 ≤ y ∧ y ≤ 399 ∧ 0 ≤ s ∧ s ≤ 5
/-- the text that weigh takes: a deed and FACTS -/
def wtx (kd vl : Int → Int) (t : Nat) : Option (Int × List Int × List Int) := if fk kd t 0 = 1 ∧ fk kd t 1 = 59 then (fa kd vl t 21 2 [] []).map (fun q => (vl 0, q.1, q.2)) else none
/-- what lacks of a clause, by its items and their number -/
def wlk (x : cl) (b : Int32) : Int := lcks (fun z => bvE x.2.2.2 (fun i => btq_b z i)) b x.2.2.1.toNat
def kpp (cst : am_K) (h h' : am_H) (rm rl : Nat) : Prop := (∀ u, ly_hv cst h rm 0 = some u → ly_hv cst h' rm 0 = some u) ∧ ∀ u, ly_hv cst h rl 0 = some u → ly_hv cst h' rl 0 = some u
def weP (cst : am_K) (h h' : am_H) (rm rl : Nat) (X : List rX) (y s : Int) (kd vl : Int → Int) (t : Nat) (v : Int) : Prop := (¬ wok y s → v = -2 ∧ kpp cst h h' rm rl) ∧ (wok y s → (wtx kd vl t = none → v = -1 ∧ kpp cst h h' rm rl) ∧ ∀ d ns vs, wtx kd vl t = some (d, ns, vs) → (noF X 0 d y s ∧ v = -4 ∧ kpp cst h h' rm rl) ∨ (∃ (a j : Nat) (ha : a < X.length) (hj : j < (X[a]).2.2.1.length), inF X 0 d y s a j ∧ ∃ b : Int32, mbs (mq ns vs ((X[a]).2.2.1[j]).2.2.2 ([], 0, 0, -20004)).1 b ∧ ly_hv cst h' rm 0 = some b.toInt ∧ ly_hv cst h' rl 0 = some (wlk ((X[a]).2.2.1[j]) b) ∧ v = if wlk ((X[a]).2.2.1[j]) b = -1 then 1 else 0))
set_option maxRecDepth 8000 in
/-- both weigh alike -/
theorem weP_u {cst : am_K} {h1 q1 h2 q2 : am_H} {rm rl rm' rl' : Nat} {X : List rX} {y s v v' u1 u2 : Int} {kd vl : Int → Int} {t : Nat} (A : weP cst h1 q1 rm rl X y s kd vl t v) (B : weP cst h2 q2 rm' rl' X y s kd vl t v') (a1 : ly_hv cst h1 rm 0 = some u1) (a2 : ly_hv cst h1 rl 0 = some u2) (b1 : ly_hv cst h2 rm' 0 = some u1) (b2 : ly_hv cst h2 rl' 0 = some u2) : v = v' ∧ ∃ w1_9 w2_9, ly_hv cst q1 rm 0 = some w1_9 ∧ ly_hv cst q2 rm' 0 = some w1_9 ∧ ly_hv cst q1 rl 0 = some w2_9 ∧ ly_hv cst q2 rl' 0 = some w2_9 := by
  have same_9 : kpp cst h1 q1 rm rl → kpp cst h2 q2 rm' rl' → ∃ w1_9 w2_9, ly_hv cst q1 rm 0 = some w1_9 ∧ ly_hv cst q2 rm' 0 = some w1_9 ∧ ly_hv cst q1 rl 0 = some w2_9 ∧ ly_hv cst q2 rl' 0 = some w2_9 := fun k_9 k' => ⟨u1, u2, k_9.1 _ a1, k'.1 _ b1, k_9.2 _ a2, k'.2 _ b2⟩
  by_cases o : wok y s
  rotate_left
  · obtain ⟨e1_9, k1_9⟩ := A.1 o
    obtain ⟨e2_9, k2_9⟩ := B.1 o
    exact ⟨by rw [e1_9, e2_9], same_9 k1_9 k2_9⟩
  have A := A.2 o
  have B := B.2 o
  cases e_9 : wtx kd vl t with
  | none =>
    obtain ⟨e1_9, k1_9⟩ := A.1 e_9
    obtain ⟨e2_9, k2_9⟩ := B.1 e_9
    exact ⟨by rw [e1_9, e2_9], same_9 k1_9 k2_9⟩
  | some q_9 =>
    obtain ⟨d_9, ns, vs⟩ := q_9
    rcases A.2 d_9 ns vs e_9 with ⟨n1_9, e1_9, k1_9⟩ | ⟨a_9, j_9, ha_9, hj, f1_9, b_9, m1_9, g1, g2, g3_9⟩
    · rcases B.2 d_9 ns vs e_9 with ⟨n2_9, e2_9, k2_9⟩ | ⟨a', j', ha', hj', f2_9, -⟩
      · exact ⟨by rw [e1_9, e2_9], same_9 k1_9 k2_9⟩
      · exact absurd f2_9.1 (n1_9 a' j')
    · rcases B.2 d_9 ns vs e_9 with ⟨n2_9, e2_9, k2_9⟩ | ⟨a', j', ha', hj', f2_9, b', m2_9, r1_9, r2, r3⟩
      · exact absurd f1_9.1 (n2_9 a_9 j_9)
      · obtain ⟨z1, z2⟩ := inF_u f1_9 f2_9
        subst z1
        subst z2
        have eb := mbs_u m1_9 m2_9
        subst eb
        exact ⟨by rw [g3_9, r3], _, _, g1, r1_9, g2, r2⟩
theorem wtx_n {kd vl : Int → Int} {t : Nat} (h : ¬ (fk kd t 0 = 1 ∧ fk kd t 1 = 59)) : wtx kd vl t = none := if_neg h
theorem wtx_f {kd vl : Int → Int} {t : Nat} (h : fk kd t 0 = 1 ∧ fk kd t 1 = 59) (e : fa kd vl t 21 2 [] [] = none) : wtx kd vl t = none := by
  unfold wtx
  rw [if_pos h, e]
  rfl
theorem wtx_s {kd vl : Int → Int} {t : Nat} {ns vs : List Int} (h : fk kd t 0 = 1 ∧ fk kd t 1 = 59) (e : fa kd vl t 21 2 [] [] = some (ns, vs)) : wtx kd vl t = some (vl 0, ns, vs) := by
  unfold wtx
  rw [if_pos h, e]
  rfl
/-- a deed in force: its events, steps and where they stand -/
theorem dd_of {X : List rX} (P : ∀ a (ha : a < X.length), ra_l (X[a])) {d y s : Int} {a j : Nat} (hf : inF X 0 d y s a j) (ha : a < X.length) (hj : j < (X[a]).2.2.1.length) : ∃ (V : List (qt_T ⊕ Int)) (S2 : List Int) (bv_9 : (Nat → Bool) → Bool) (m_9 fi z_9 : Nat) (hz : j < (X[a]).2.2.2.1.length), ((X[a]).2.2.1[j]).2.2.2 = qv_e V ∧ ((X[a]).2.2.1[j]).2.2.1 = (m_9 : Int) ∧ ((X[a]).2.2.1[j]).1 = 0 ∧ dV V bv_9 m_9 ∧ dSt S2 bv_9 m_9 ∧ ((X[a]).2.2.2.1[j]).1 = (fi : Int) ∧ ((X[a]).2.2.2.1[j]).2.1 = (z_9 : Int) ∧ ((X[a]).2.2.2.1[j]).2.2 = (S2.length : Int) ∧ (∀ k_9 (hk : k_9 < (qv_t V).length), ∃ hk' : fi + k_9 < (X[a]).2.2.2.2.1.length, (X[a]).2.2.2.2.1[fi + k_9] = (qv_t V)[k_9]) ∧ z_9 + S2.length ≤ (X[a]).2.2.2.2.2.1.length ∧ (∀ k_9 (hk : k_9 < S2.length), ∃ hk' : z_9 + k_9 < (X[a]).2.2.2.2.2.1.length, (X[a]).2.2.2.2.2.1[z_9 + k_9] = S2[k_9]) := by
  obtain ⟨⟨ha', -, ⟨hj', e0_9, -⟩, -⟩, -⟩ := hf
  obtain ⟨p1_9, p2_9, p3_9, p4_9, p5_9, p6_9, p7_9⟩ := P a ha
  have hz : j < (X[a]).2.2.2.1.length := by omega
  obtain ⟨V, S2, A_9, B_9, A', B', m_9, x1_9, x2_9, x3, x4_9, x5_9, x6, x7, ⟨⟨bv_9, hb_9⟩, w1_9, w2_9, w3_9, w4_9, w5⟩, x9⟩ := (p7_9 j hj hz).1 e0_9
  refine ⟨V, S2, bv_9, m_9, A_9.length, A'.length, hz, x1_9, x7, e0_9, ⟨w5, by omega, x9, w1_9, fun met_9 st => (hb_9 met_9 st).1⟩, ⟨w2_9, by omega, x9, fun met_9 st => (hb_9 met_9 st).2⟩, x3.symm, x5_9.symm, x6.symm, fun k_9 hk => ?_, by rw [x4_9, List.length_append, List.length_append]; omega, fun k_9 hk => ?_⟩
  · have hk' : A_9.length + k_9 < (X[a]).2.2.2.2.1.length := by
      rw [x2_9, List.length_append, List.length_append]
      omega
    refine ⟨hk', ?_⟩
    have z_9 : (X[a]).2.2.2.2.1[A_9.length + k_9]? = some ((qv_t V)[k_9]) := by
      rw [x2_9, List.append_assoc, List.getElem?_append_right (Nat.le_add_right _ _), Nat.add_sub_cancel_left, List.getElem?_append_left hk, List.getElem?_eq_getElem hk]
    rw [List.getElem?_eq_getElem hk'] at z_9
    exact Option.some.inj z_9
  · have hk' : A'.length + k_9 < (X[a]).2.2.2.2.2.1.length := by
      rw [x4_9, List.length_append, List.length_append]
      omega
    refine ⟨hk', ?_⟩
    have z_9 : (X[a]).2.2.2.2.2.1[A'.length + k_9]? = some (S2[k_9]) := by
      rw [x4_9, List.append_assoc, List.getElem?_append_right (Nat.le_add_right _ _), Nat.add_sub_cancel_left, List.getElem?_append_left hk, List.getElem?_eq_getElem hk]
    rw [List.getElem?_eq_getElem hk'] at z_9
    exact Option.some.inj z_9
set_option maxRecDepth 8000 in
theorem qw_t9 : ∀ (V : List (qt_T ⊕ Int)), (∀ x ∈ V, qw x) → ∀ y ∈ qv_t V, qwt y
  | [], _, y, hy => by cases hy
  | .inl x :: V, w, y, hy => by
    have hy : y ∈ x :: qv_t V := hy
    rcases List.mem_cons.mp hy with hy | hy
    · rw [hy]
      exact w _ List.mem_cons_self
    · exact qw_t9 V (fun z hz => w z (List.mem_cons_of_mem _ hz)) y hy
  | .inr j :: V, w, y, hy => qw_t9 V (fun z hz => w z (List.mem_cons_of_mem _ hz)) y hy
theorem wlk_v {x : cl} {V : List (qt_T ⊕ Int)} {bv : (Nat → Bool) → Bool} {m : Nat} (H : dV V bv m) (e : x.2.2.2 = qv_e V) (em : x.2.2.1 = (m : Int)) (b : Int32) : lcks (fun z_9 => bv (fun i_9 => btq_b z_9 i_9)) b m = wlk x b := by
  unfold wlk
  rw [e, bvE_v H, em]
  rfl
abbrev we_mods : List Nat := [11, 12, 257, 261, 262, 768, 1024, 1280, 19202, 19203, 19456, 19712]
theorem we_b1 {cst : am_K} {h : am_H} {u : Int} (hy : ly_hy m_tt ly_TH h) (k : ly_hv cst h 11 0 = some u) : -2147483648 ≤ u ∧ u ≤ 2147483647 := by
  have ht : ∃ fs, ly_ths ly_TH 0 = some (.inr (0, fs)) ∧ sx_ch 8 11 fs = some (.inl (-2147483648, 2147483647)) := ⟨_, rfl, rfl⟩
  obtain ⟨fs, h1, h2⟩ := ht
  obtain ⟨v_9, kv, v0_9, v1_9⟩ := fld_b (cst := cst) hy h1 h2 (by decide)
  have kv : ly_hv cst h 11 0 = some v_9 := kv
  have e_9 := Option.some.inj (k.symm.trans kv)
  omega
theorem we_b2 {cst : am_K} {h : am_H} {u : Int} (hy : ly_hy m_tt ly_TH h) (k : ly_hv cst h 12 0 = some u) : -2147483648 ≤ u ∧ u ≤ 2147483647 := by
  have ht : ∃ fs, ly_ths ly_TH 0 = some (.inr (0, fs)) ∧ sx_ch 8 12 fs = some (.inl (-2147483648, 2147483647)) := ⟨_, rfl, rfl⟩
  obtain ⟨fs, h1, h2⟩ := ht
  obtain ⟨v_9, kv, v0_9, v1_9⟩ := fld_b (cst := cst) hy h1 h2 (by decide)
  have kv : ly_hv cst h 12 0 = some v_9 := kv
  have e_9 := Option.some.inj (k.symm.trans kv)
  omega
/-- weigh of the class -/
theorem we_run {cst : am_K} {strs : List Nat} {D : Nat} {h : am_H} (cc : ∀ d, hp_C cst strs d) (hy : ly_hy m_tt ly_TH h) {N : Nat} (n1 : (N : Int) ≤ 1200) (kn : ly_hv cst h 257 0 = some (N : Int)) {X : List rX} {i0 : List Int} (I : LC cst h X i0) (x30 : X.length ≤ 30) (g12 : (fX X).length ≤ 1240) (P : ∀ a_9 (ha_9 : a_9 < X.length), ra_l (X[a_9])) {xy xs : Int32} :
    ∃ r_9, am_Run cst m_cl m_tt m_P strs sx_bi (D + 13) 120 [.ref 16, .int xy, .int xs] h r_9 ∧ (fun r_9 : am_Q => ∃ w_9 : Int32, r_9.1 = some (.int w_9) ∧ r_9.2.2.1 = 0 ∧ r_9.2.2.2 = 0 ∧ ly_hy m_tt ly_TH r_9.2.1 ∧ ly_fr cst we_mods h r_9.2.1 ∧ (ly_hv cst r_9.2.1 257 0 = some 0 ∧ ∃ (t_9 : Nat) (en : Nat → Int) (kd pl vl : Int → Int), tkT (gt_g cst h 512) (N : Int) t_9 kd pl vl en ∧ weP cst h r_9.2.1 11 12 X xy.toInt xs.toInt kd vl t_9 w_9.toInt)) r_9 := by
  obtain ⟨M_9, hM_9, hl⟩ := hp_M (mi := 120) (k := 3) (by decide +kernel)
  have c : hp_C cst strs (D + 12) := cc _
  have bz8 : -2147483648 ≤ xy.toInt := xy.le_toInt
  have bz9 : xy.toInt ≤ 2147483647 := xy.toInt_le
  have bs : -2147483648 ≤ xs.toInt := xs.le_toInt
  have bs' : xs.toInt ≤ 2147483647 := xs.toInt_le
  have go_9 : hp_F cst strs (fun r_9 : am_Q => ∃ w_9 : Int32, r_9.1 = some (.int w_9) ∧ r_9.2.2.1 = 0 ∧ r_9.2.2.2 = 0 ∧ ly_hy m_tt ly_TH r_9.2.1 ∧ ly_fr cst we_mods h r_9.2.1 ∧ (ly_hv cst r_9.2.1 257 0 = some 0 ∧ ∃ (t_9 : Nat) (en : Nat → Int) (kd pl vl : Int → Int), tkT (gt_g cst h 512) (N : Int) t_9 kd pl vl en ∧ weP cst h r_9.2.1 11 12 X xy.toInt xs.toInt kd vl t_9 w_9.toInt)) (D + 12) M_9 0 (lv_args 0 [.ref 16, .int xy, .int xs]) [] h := by
    refine we0 c hM_9 (by omega) hy xy.toInt xs.toInt bz8 bz9 bs bs' rfl ⟨xy, rfl, rfl⟩ ⟨xs, rfl, rfl⟩ (fun l1 h1 u1_9 u2_9 u3 m0_9 m1_9 m2_9 => ?_)
    obtain ⟨r_9, hrun, r1_9, r2, r3, rhy, rfr, rk9, rN_9, t_9, en, kt, tN_9, TT⟩ := gt_run (D := D + 10) (cc _) (cc _) (by omega) u1_9 n1 (u2_9 _ _ _ rfl kn)
    refine hp_call (mi := 120) (pc := 4) (tg := 71) (na := 1) (c := 1) (ci := 1) (st0 := [.ref 17]) (st := []) (av := []) hM_9 (by decide +kernel) u1_9 rfl rfl rfl (by decide) hrun r2 r3 ?_
    rw [r1_9]
    have et : gt_g cst h1 512 = gt_g cst h 512 := by
      unfold gt_g
      rw [hp_same (mods := []) (show ly_ths ly_TH 2 = some (.inl (.int, 1200, 0, 255)) from rfl) rfl hy u1_9 u2_9]
    rw [et] at TT
    have TT : tkT (gt_g cst h 512) (N : Int) t_9 (gt_g cst r_9.2.1 768) (gt_g cst r_9.2.1 1024) (gt_g cst r_9.2.1 1280) en := TT
    have F1_9 : ly_fr cst we_mods h r_9.2.1 := ly_fr_tr (hp_sub2 rfl u2_9) (hp_sub2 rfl rfr)
    have F1' : ly_fr cst gt_mods h r_9.2.1 := ly_fr_tr (hp_sub2 rfl u2_9) rfr
    have t12 : (t_9 : Int) ≤ 1200 := by omega
    have rows_9 := gt_kk (cst := cst) rhy t12
    have kpq : ∀ (h3 : am_H), ly_fr cst [] r_9.2.1 h3 → kpp cst h h3 11 12 := fun h3 v2 => ⟨fun u_9 e_9 => v2 _ _ _ rfl (F1' _ _ _ rfl e_9), fun u_9 e_9 => v2 _ _ _ rfl (F1' _ _ _ rfl e_9)⟩
    have bad_9 : ¬ wok xy.toInt xs.toInt → ∀ (h3 : am_H) (v_9 : Int32), v_9.toInt = -2 → ly_hy m_tt ly_TH h3 → ly_fr cst [] r_9.2.1 h3 → r_9.2.1.length ≤ h3.length → (fun r_9 : am_Q => ∃ w_9 : Int32, r_9.1 = some (.int w_9) ∧ r_9.2.2.1 = 0 ∧ r_9.2.2.2 = 0 ∧ ly_hy m_tt ly_TH r_9.2.1 ∧ ly_fr cst we_mods h r_9.2.1 ∧ (ly_hv cst r_9.2.1 257 0 = some 0 ∧ ∃ (t_9 : Nat) (en : Nat → Int) (kd pl vl : Int → Int), tkT (gt_g cst h 512) (N : Int) t_9 kd pl vl en ∧ weP cst h r_9.2.1 11 12 X xy.toInt xs.toInt kd vl t_9 w_9.toInt)) (some (.int v_9), h3, 0, 0) := fun z_9 h3 v_9 hv v1_9 v2 v3 => ⟨v_9, rfl, rfl, rfl, v1_9, ly_fr_tr F1_9 (hp_sub2 rfl v2), v2 _ _ _ rfl rk9, t_9, en, _, _, _, TT, fun _ => ⟨hv, kpq h3 v2⟩, fun o => absurd o z_9⟩
    by_cases q0 : xy.toInt < 0
    · exact weR0 c hM_9 (by omega) rhy xy.toInt xs.toInt bz8 (by omega) bs bs' m0_9 m1_9 m2_9 (bad_9 (fun z_9 => by unfold wok at z_9; omega))
    by_cases q1_9 : 399 < xy.toInt
    · exact weR1 c hM_9 (by omega) rhy xy.toInt xs.toInt (by omega) bz9 bs bs' m0_9 m1_9 m2_9 (bad_9 (fun z_9 => by unfold wok at z_9; omega))
    by_cases q2_9 : xs.toInt < 0
    · exact weR2 c hM_9 (by omega) rhy xy.toInt xs.toInt (by omega) (by omega) bs (by omega) m0_9 m1_9 m2_9 (bad_9 (fun z_9 => by unfold wok at z_9; omega))
    by_cases q3_9 : 5 < xs.toInt
    · exact weR3 c hM_9 (by omega) rhy xy.toInt xs.toInt (by omega) (by omega) (by omega) bs' m0_9 m1_9 m2_9 (bad_9 (fun z_9 => by unfold wok at z_9; omega))
    have ok_9 : wok xy.toInt xs.toInt := ⟨by omega, by omega, by omega, by omega⟩
    have none' : wtx (gt_g cst r_9.2.1 768) (gt_g cst r_9.2.1 1280) t_9 = none → ∀ (h3 : am_H) (v_9 : Int32), v_9.toInt = -1 → ly_hy m_tt ly_TH h3 → ly_fr cst [] r_9.2.1 h3 → r_9.2.1.length ≤ h3.length → (fun r_9 : am_Q => ∃ w_9 : Int32, r_9.1 = some (.int w_9) ∧ r_9.2.2.1 = 0 ∧ r_9.2.2.2 = 0 ∧ ly_hy m_tt ly_TH r_9.2.1 ∧ ly_fr cst we_mods h r_9.2.1 ∧ (ly_hv cst r_9.2.1 257 0 = some 0 ∧ ∃ (t_9 : Nat) (en : Nat → Int) (kd pl vl : Int → Int), tkT (gt_g cst h 512) (N : Int) t_9 kd pl vl en ∧ weP cst h r_9.2.1 11 12 X xy.toInt xs.toInt kd vl t_9 w_9.toInt)) (some (.int v_9), h3, 0, 0) := fun z_9 h3 v_9 hv v1_9 v2 v3 => ⟨v_9, rfl, rfl, rfl, v1_9, ly_fr_tr F1_9 (hp_sub2 rfl v2), v2 _ _ _ rfl rk9, t_9, en, _, _, _, TT, fun o => absurd ok_9 o, fun _ => ⟨fun _ => ⟨hv, kpq h3 v2⟩, fun d ns vs e_9 => by rw [z_9] at e_9; cases e_9⟩⟩
    by_cases t0_9 : t_9 = 0
    · rw [t0_9] at kt
      exact weN0 c hM_9 (by omega) rhy xy.toInt xs.toInt ok_9.1 ok_9.2.1 ok_9.2.2.1 ok_9.2.2.2 kt m0_9 m1_9 m2_9 (none' (wtx_n (fun z_9 => by
        have y := z_9.1
        rw [fk_ge (by omega)] at y
        exact absurd y (by decide))))
    obtain ⟨k1_9, -, k2_9⟩ := rows_9 0 (by omega)
    have k1_9 : ly_hv cst r_9.2.1 768 0 = some (gt_g cst r_9.2.1 768 0) := k1_9
    have k2_9 : ly_hv cst r_9.2.1 1280 0 = some (gt_g cst r_9.2.1 1280 0) := k2_9
    have f0_9 : fk (gt_g cst r_9.2.1 768) t_9 0 = gt_g cst r_9.2.1 768 0 := fk_lt (kd := gt_g cst r_9.2.1 768) (by omega)
    by_cases q1_9 : gt_g cst r_9.2.1 768 0 = 1
    rotate_left
    · obtain ⟨v_9, kv, v0_9, v1_9⟩ := hp_row (cst := cst) (i := 0) rhy (show ly_ths ly_TH 3 = some (.inl (.int, 1200, 0, 255)) from rfl) (by omega) (by omega)
      have kv : ly_hv cst r_9.2.1 768 0 = some v_9 := kv
      have ev_9 := Option.some.inj (k1_9.symm.trans kv)
      exact weN1 c hM_9 (by omega) rhy xy.toInt xs.toInt (t_9 : Int) (gt_g cst r_9.2.1 768 0) ok_9.1 ok_9.2.1 ok_9.2.2.1 ok_9.2.2.2 (by omega) t12 (by omega) (by omega) kt k1_9 (hp_ne (by omega)) m0_9 m1_9 m2_9 (none' (wtx_n (fun z_9 => q1_9 (by rw [← f0_9]; exact z_9.1))))
    rw [q1_9] at k1_9
    by_cases t1_9 : t_9 = 1
    · rw [t1_9] at kt
      exact weN2 c hM_9 (by omega) rhy xy.toInt xs.toInt ok_9.1 ok_9.2.1 ok_9.2.2.1 ok_9.2.2.2 kt k1_9 m0_9 m1_9 m2_9 (none' (wtx_n (fun z_9 => by
        have y := z_9.2
        rw [fk_ge (by omega)] at y
        exact absurd y (by decide))))
    obtain ⟨k3_9, -⟩ := rows_9 1 (by omega)
    have k3_9 : ly_hv cst r_9.2.1 768 1 = some (gt_g cst r_9.2.1 768 1) := k3_9
    have f1_9 : fk (gt_g cst r_9.2.1 768) t_9 1 = gt_g cst r_9.2.1 768 1 := fk_lt (kd := gt_g cst r_9.2.1 768) (by omega)
    by_cases q2_9 : gt_g cst r_9.2.1 768 1 = 59
    rotate_left
    · obtain ⟨v_9, kv, v0_9, v1_9⟩ := hp_row (cst := cst) (i := 1) rhy (show ly_ths ly_TH 3 = some (.inl (.int, 1200, 0, 255)) from rfl) (by omega) (by omega)
      have kv : ly_hv cst r_9.2.1 768 1 = some v_9 := kv
      have ev_9 := Option.some.inj (k3_9.symm.trans kv)
      exact weN3 c hM_9 (by omega) rhy xy.toInt xs.toInt (t_9 : Int) (gt_g cst r_9.2.1 768 1) ok_9.1 ok_9.2.1 ok_9.2.2.1 ok_9.2.2.2 (by omega) t12 (by omega) (by omega) kt k1_9 k3_9 (hp_ne (by omega)) m0_9 m1_9 m2_9 (none' (wtx_n (fun z_9 => q2_9 (by rw [← f1_9]; exact z_9.2))))
    rw [q2_9] at k3_9
    have good_9 : fk (gt_g cst r_9.2.1 768) t_9 0 = 1 ∧ fk (gt_g cst r_9.2.1 768) t_9 1 = 59 := ⟨by rw [f0_9, q1_9], by rw [f1_9, q2_9]⟩
    refine weG c hM_9 (by omega) rhy xy.toInt xs.toInt (t_9 : Int) ok_9.1 ok_9.2.1 ok_9.2.2.1 ok_9.2.2.2 (by omega) t12 kt k1_9 k3_9 m0_9 m1_9 m2_9 (fun l3 h3 z0 e0_9 v1_9 v2 v3 n0_9 n1' n2_9 => ?_)
    have vB9 := tkT_vB TT
    obtain ⟨r4, hrun4, w4_9, s1_9, s2_9, s3_9, shy, sfr, sS, sN_9⟩ := fc_run (D := D + 9) (cc _) (cc _) (cc _) (by omega) v1_9 t12 (kd := gt_g cst r_9.2.1 768) (vl := gt_g cst r_9.2.1 1280) (v2 _ _ _ rfl kt) (fun j_9 hj => v2 _ _ _ rfl (rows_9 j_9 hj).1) (fun j_9 hj => v2 _ _ _ rfl (rows_9 j_9 hj).2.2) (tkT_kb TT) (fun j_9 hj => ⟨fun e_9 => by have := (vB9 j_9 hj).1 e_9; omega, fun e_9 => (vB9 j_9 hj).2 e_9⟩) (x0 := z0) (g := 2) (by omega) e0_9
    refine hp_call (mi := 120) (pc := 58) (tg := 121) (na := 3) (c := 75) (ci := 6) (st0 := [.int z0, .ref 17, .ref 91]) (st := []) (av := [.ref 17, .int z0]) hM_9 (by decide +kernel) v1_9 rfl rfl rfl (by decide) hrun4 s2_9 s3_9 ?_
    rw [s1_9]
    have F4 : ly_fr cst we_mods h r4.2.1 := ly_fr_tr F1_9 (ly_fr_tr (hp_sub2 rfl v2) (hp_sub2 rfl sfr))
    have G4 : ly_fr cst [257, 261, 262, 768, 1024, 1280, 19202, 19203, 19456, 19712] h r4.2.1 := ly_fr_tr (hp_sub2 rfl F1') (ly_fr_tr (hp_sub2 rfl v2) (hp_sub2 rfl sfr))
    have rk4 : ly_hv cst r4.2.1 257 0 = some 0 := sfr _ _ _ rfl (v2 _ _ _ rfl rk9)
    cases efa : fa (gt_g cst r_9.2.1 768) (gt_g cst r_9.2.1 1280) t_9 21 2 [] [] with
    | none =>
      exact weF0 c hM_9 (by omega) shy xy.toInt xs.toInt w4_9 (sN_9 efa) ok_9.1 ok_9.2.1 ok_9.2.2.1 ok_9.2.2.2 n0_9 n1' n2_9 (fun h5 v_9 hv y1 y2 y3 => ⟨v_9, rfl, rfl, rfl, y1, ly_fr_tr F4 (hp_sub2 rfl y2), y2 _ _ _ rfl rk4, t_9, en, _, _, _, TT, fun o => absurd ok_9 o, fun _ => ⟨fun _ => ⟨hv, fun u_9 e_9 => y2 _ _ _ rfl (G4 _ _ _ rfl e_9), fun u_9 e_9 => y2 _ _ _ rfl (G4 _ _ _ rfl e_9)⟩, fun d ns vs e_9 => by rw [wtx_f good_9 efa] at e_9; cases e_9⟩⟩)
    | some q_9 =>
      obtain ⟨ns, vs⟩ := q_9
      obtain ⟨ew4, p1_9, p2_9, p3_9, p4_9⟩ := sS ns vs efa
      obtain ⟨ln1, ln2⟩ := fa_len 21 2 [] [] rfl rfl ns vs efa
      obtain ⟨nd_9, vb⟩ := fa_nd vB9 21 2 [] [] trivial (fun v_9 hv => by cases hv) ns vs efa
      have RF : rF cst r4.2.1 ns vs := ⟨p1_9, p3_9, p4_9, ln2, ln1, vb⟩
      have ewt := wtx_s (vl := gt_g cst r_9.2.1 1280) good_9 efa
      have kt4 : ly_hv cst r4.2.1 261 0 = some (t_9 : Int) := sfr _ _ _ rfl (v2 _ _ _ rfl kt)
      have kd4 : ly_hv cst r4.2.1 1280 0 = some (gt_g cst r_9.2.1 1280 0) := sfr _ _ _ rfl (v2 _ _ _ rfl k2_9)
      have dv : 1 ≤ gt_g cst r_9.2.1 1280 0 ∧ gt_g cst r_9.2.1 1280 0 < 1152921504606846976 := (vB9 0 (by omega)).1 q1_9
      refine weF1 c hM_9 (by omega) shy xy.toInt xs.toInt (t_9 : Int) (gt_g cst r_9.2.1 1280 0) w4_9 ew4 ok_9.1 ok_9.2.1 ok_9.2.2.1 ok_9.2.2.2 (by omega) t12 (by omega) (by omega) kt4 kd4 n0_9 n1' n2_9 (fun l5 h5 b0 b1 b2 b3 e0_9 e1_9 e2_9 e3_9 y1 y2 y3 o0_9 o1 o2 => ?_)
      have F5 : ly_fr cst [257, 261, 262, 768, 1024, 1280, 19202, 19203, 19456, 19712] h h5 := ly_fr_tr G4 (hp_sub2 rfl y2)
      have I5 : LC cst h5 X i0 := LC_mv I F5 rfl
      obtain ⟨r6, hrun6, w6_9, t1', t2', t3', thy, tfr, tres⟩ := fo_run (D := D + 9) cc (by omega) y1 I5 x30 g12 (k := 0) (d := gt_g cst r_9.2.1 1280 0) (by omega) (by omega) (xk := b3) (xd := b2) (xy := b1) (xs := b0) (y := xy.toInt) (s := xs.toInt) e3_9 e2_9 e1_9 e0_9
      refine hp_call (mi := 120) (pc := 81) (tg := 53) (na := 5) (c := 14) (ci := 3) (st0 := [.int b0, .int b1, .long b2, .int b3, .ref 30]) (st := []) (av := [.int b3, .long b2, .int b1, .int b0]) hM_9 (by decide +kernel) y1 rfl rfl rfl (by decide) hrun6 t2' t3' ?_
      rw [t1']
      have F6 : ly_fr cst [257, 261, 262, 768, 1024, 1280, 19202, 19203, 19456, 19712] h r6.2.1 := ly_fr_tr F5 (hp_sub2 rfl tfr)
      have rk6 : ly_hv cst r6.2.1 257 0 = some 0 := tfr _ _ _ rfl (y2 _ _ _ rfl rk4)
      rcases tres with ⟨a_9, j_9, hf, ew6⟩ | ⟨nf_9, ew6⟩
      rotate_left
      · exact weC0 c hM_9 (by omega) thy xy.toInt xs.toInt w6_9 ew6 ok_9.1 ok_9.2.1 ok_9.2.2.1 ok_9.2.2.2 o0_9 o1 o2 (fun h7 v_9 hv x1_9 x2_9 x3 => ⟨v_9, rfl, rfl, rfl, x1_9, ly_fr_tr (hp_sub2 rfl F6) (hp_sub2 rfl x2_9), x2_9 _ _ _ rfl rk6, t_9, en, _, _, _, TT, fun o => absurd ok_9 o, fun _ => ⟨fun e_9 => (by rw [ewt] at e_9; cases e_9), fun d ns' vs' e_9 => by
          rw [ewt] at e_9
          cases e_9
          exact Or.inl ⟨nf_9, hv, fun u_9 e_9 => x2_9 _ _ _ rfl (F6 _ _ _ rfl e_9), fun u_9 e_9 => x2_9 _ _ _ rfl (F6 _ _ _ rfl e_9)⟩⟩⟩)
      obtain ⟨⟨ha_9, -, ⟨hj, -⟩, -⟩, -⟩ := id hf
      have le_9 := fX_le X a_9 ha_9
      obtain ⟨V, S2, bv_9, m_9, fi, z_9, hz, x1_9, x2_9, x3, H1_9, H2_9, -⟩ := dd_of P hf ha_9 hj
      obtain ⟨ct1, ct2⟩ := cnt4_v V H1_9.1
      refine weC1 c hM_9 (by omega) thy xy.toInt xs.toInt (((fX (X.take a_9)).length : Int) + (j_9 : Int)) w6_9 ew6 ok_9.1 ok_9.2.1 ok_9.2.2.1 ok_9.2.2.2 (by omega) (by omega) o0_9 o1 o2 (fun l7 h7 d1_9 g1 y5 y6 y7 s0' s1' s2' s3' => ?_)
      have F7 : ly_fr cst [257, 261, 262, 768, 1024, 1280, 19202, 19203, 19456, 19712] h h7 := ly_fr_tr F6 (hp_sub2 rfl y6)
      have RF7 : rF cst h7 ns vs := rF_mv (rF_mv (rF_mv RF y2 rfl rfl rfl) tfr rfl rfl rfl) y6 rfl rfl rfl
      have I7 : cI cst h7 (((fX (X.take a_9)).length : Int) + (j_9 : Int)) ((X[a_9]).2.2.1[j_9]).2.2.2 := cI_of y5 (LC_mv I F7 rfl) g12 ha_9 hj
      have I7v : cI cst h7 (((fX (X.take a_9)).length : Int) + (j_9 : Int)) (qv_e V) := by rw [← x1_9]; exact I7
      obtain ⟨r8, hrun8, b8, a1_9, a2, a3, ahy, afr, mb8⟩ := tm_run (D := D + 9) cc (by omega) y5 RF7 I7 (by rw [x1_9]; exact ct2) (by rw [x1_9, ct1]; have := H1_9.2.1; have := H1_9.2.2.1; omega) rfl (xc := d1_9) g1
      refine hp_call (mi := 120) (pc := 103) (tg := 123) (na := 3) (c := 14) (ci := 3) (st0 := [.ref 91, .int d1_9, .ref 30]) (st := [.ref 16]) (av := [.int d1_9, .ref 91]) hM_9 (by decide +kernel) y5 rfl rfl rfl (Nat.le_of_ble_eq_true rfl) hrun8 a2 a3 ?_
      rw [a1_9]
      refine weM c hM_9 (by omega) ahy xy.toInt xs.toInt (((fX (X.take a_9)).length : Int) + (j_9 : Int)) b8.toInt b8 rfl ok_9.1 ok_9.2.1 ok_9.2.2.1 ok_9.2.2.2 (by omega) (by omega) b8.le_toInt b8.toInt_le s0' s1' s2' s3' (fun l9 h9 c0_9 c1_9 f0' f1' i1_9 i2_9 i3_9 km j0 j1 j2_9 j3_9 => ?_)
      have em0 : c0_9 = b8 := Int32.toInt_inj.mp f0'
      rw [em0]
      have F9 : ly_fr cst [11, 257, 261, 262, 768, 1024, 1280, 19202, 19203, 19456, 19712] h h9 := ly_fr_tr (hp_sub2 rfl F7) (ly_fr_tr (hp_sub2 rfl afr) (hp_sub2 rfl i2_9))
      have I9 : cI cst h9 (((fX (X.take a_9)).length : Int) + (j_9 : Int)) (qv_e V) := cI_mv (cI_mv I7v afr rfl rfl rfl) i2_9 rfl rfl rfl
      have kn9 : ly_hv cst h9 5120 (((fX (X.take a_9)).length : Int) + (j_9 : Int)) = some (m_9 : Int) := by
        have y := (cl_at I ha_9 hj rfl).2.2
        rw [Int.natCast_add, x2_9] at y
        exact F9 _ _ _ rfl y
      obtain ⟨rA', hrunA, wA', g1', g2', g3', ghy, gfr, ewA⟩ := lk_run9 (D := D + 10) cc (by omega) i1_9 I9 H1_9 kn9 (xc := c1_9) (me := b8) f1'
      refine hp_call (mi := 120) (pc := 119) (tg := 128) (na := 3) (c := 14) (ci := 3) (st0 := [.int b8, .int c1_9, .ref 30]) (st := [.ref 16]) (av := [.int c1_9, .int b8]) hM_9 (by decide +kernel) i1_9 rfl rfl rfl (Nat.le_of_ble_eq_true rfl) hrunA g2' g3' ?_
      rw [g1']
      rw [wlk_v H1_9 x1_9 x2_9 b8] at ewA
      have FA : ly_fr cst we_mods h rA'.2.1 := ly_fr_tr (hp_sub2 rfl F9) (hp_sub2 rfl gfr)
      have rkA : ly_hv cst rA'.2.1 257 0 = some 0 := gfr _ _ _ rfl (i2_9 _ _ _ rfl (afr _ _ _ rfl (y6 _ _ _ rfl rk6)))
      have kmA : ly_hv cst rA'.2.1 11 0 = some b8.toInt := gfr _ _ _ rfl km
      have fin_9 : ∀ (v_9 : Int32) (h5 : am_H), v_9.toInt = (if wlk ((X[a_9]).2.2.1[j_9]) b8 = -1 then 1 else 0) → ly_hy m_tt ly_TH h5 → ly_fr cst [12] rA'.2.1 h5 → ly_hv cst h5 11 0 = some b8.toInt → ly_hv cst h5 12 0 = some (wlk ((X[a_9]).2.2.1[j_9]) b8) → (fun r_9 : am_Q => ∃ w_9 : Int32, r_9.1 = some (.int w_9) ∧ r_9.2.2.1 = 0 ∧ r_9.2.2.2 = 0 ∧ ly_hy m_tt ly_TH r_9.2.1 ∧ ly_fr cst we_mods h r_9.2.1 ∧ (ly_hv cst r_9.2.1 257 0 = some 0 ∧ ∃ (t_9 : Nat) (en : Nat → Int) (kd pl vl : Int → Int), tkT (gt_g cst h 512) (N : Int) t_9 kd pl vl en ∧ weP cst h r_9.2.1 11 12 X xy.toInt xs.toInt kd vl t_9 w_9.toInt)) (some (.int v_9), h5, 0, 0) := fun v_9 h5 hv e1_9 e2_9 e3_9 e4_9 => ⟨v_9, rfl, rfl, rfl, e1_9, ly_fr_tr FA (hp_sub2 rfl e2_9), e2_9 _ _ _ rfl rkA, t_9, en, _, _, _, TT, fun o => absurd ok_9 o, fun _ => ⟨fun e_9 => (by rw [ewt] at e_9; cases e_9), fun d ns' vs' e_9 => by
        rw [ewt] at e_9
        cases e_9
        exact Or.inr ⟨a_9, j_9, ha_9, hj, hf, b8, mb8, e3_9, e4_9, hv⟩⟩⟩
      have lb : wlk ((X[a_9]).2.2.1[j_9]) b8 = -1 ∨ (0 ≤ wlk ((X[a_9]).2.2.1[j_9]) b8 ∧ wlk ((X[a_9]).2.2.1[j_9]) b8 ≤ 99) := by
        rw [← wlk_v H1_9 x1_9 x2_9 b8]
        exact lcks_b _ _ H1_9.2.2.1
      rcases lb with z_9 | z_9
      · rw [z_9] at ewA
        exact weL1 c hM_9 (by omega) ghy xy.toInt xs.toInt (((fX (X.take a_9)).length : Int) + (j_9 : Int)) b8.toInt wA' ewA ok_9.1 ok_9.2.1 ok_9.2.2.1 ok_9.2.2.2 (by omega) (by omega) b8.le_toInt b8.toInt_le kmA j0 j1 j2_9 j3_9 (fun h5 v_9 hv e1_9 e2_9 e3_9 e4_9 e5_9 => fin_9 v_9 h5 (by rw [if_pos z_9]; exact hv) e1_9 e2_9 e4_9 (by rw [z_9]; exact e5_9))
      · exact weL0 c hM_9 (by omega) ghy xy.toInt xs.toInt (((fX (X.take a_9)).length : Int) + (j_9 : Int)) b8.toInt (wlk ((X[a_9]).2.2.1[j_9]) b8) wA' ewA ok_9.1 ok_9.2.1 ok_9.2.2.1 ok_9.2.2.2 (by omega) (by omega) b8.le_toInt b8.toInt_le z_9.1 z_9.2 kmA j0 j1 j2_9 j3_9 (fun h5 v_9 hv e1_9 e2_9 e3_9 e4_9 e5_9 => fin_9 v_9 h5 (by rw [if_neg (by omega)]; exact hv) e1_9 e2_9 e4_9 e5_9)
  obtain ⟨n', r_9, hgo, w_9, r1_9, r2, r3, r4⟩ := go_9
  simp only [Nat.zero_add] at r2 r3
  exact ⟨r_9, Or.inr ⟨M_9, n', hM_9, hl, hgo⟩, w_9, r1_9, r2, r3, r4⟩
theorem sz_3 {k : Int} (h : srt k = 3) : k = 59 := by
  unfold srt at h
  split at h
  · omega
  split at h
  · omega
  split at h
  · assumption
  split at h
  · omega
  split at h
  · omega
  split at h
  · omega
  split at h
  · omega
  omega
abbrev rw_mods : List Nat := [19969, 19970, 19971, 19972, 19973, 19974, 19975, 19976, 20022, 20023, 27392, 27648, 27904, 28160]
/-- weigh of the reference -/
theorem rw_run {cst : am_K} {strs : List Nat} {D : Nat} {h0 : am_H} (cc : ∀ d, hp_C cst strs d) (hy : ly_hy m_tt ly_TH h0) {f : Int → Int} {n : Int} {t : Nat} {kd pl vl : Int → Int} {en : Nat → Int} (TT : tkT f n t kd pl vl en) (n0 : 0 ≤ n) (n1 : n ≤ 1200) (ff : ∀ x_9, 0 ≤ x_9 → x_9 < n → gs_f cst h0 x_9 = f x_9) (kn : ly_hv cst h0 19969 0 = some n) {X : List rX} (R : rA cst h0 X) (x30 : X.length ≤ 30) (wd : ∀ a (ha_9 : a < X.length), wD (X[a]).2.2.1) {xy xs : Int32} :
    ∃ r_9, am_Run cst m_cl m_tt m_P strs sx_bi (D + 13) 326 [.ref 94, .int xy, .int xs] h0 r_9 ∧ (fun r_9 : am_Q => ∃ w_9 : Int32, r_9.1 = some (.int w_9) ∧ r_9.2.2.1 = 0 ∧ r_9.2.2.2 = 0 ∧ ly_hy m_tt ly_TH r_9.2.1 ∧ ly_fr cst rw_mods h0 r_9.2.1 ∧ (ly_hv cst r_9.2.1 19969 0 = some 0 ∧ weP cst h0 r_9.2.1 20022 20023 X xy.toInt xs.toInt kd vl t w_9.toInt)) r_9 := by
  obtain ⟨M_9, hM_9, hl⟩ := hp_M (mi := 326) (k := 3) (by decide +kernel)
  have c : hp_C cst strs (D + 12) := cc _
  have P_9 : ∀ a (ha_9 : a < X.length), ra_l (X[a]) := fun a ha_9 => (R.2 a ha_9).2.2.2.2.2
  have bz8 : -2147483648 ≤ xy.toInt := xy.le_toInt
  have bz9 : xy.toInt ≤ 2147483647 := xy.toInt_le
  have bs : -2147483648 ≤ xs.toInt := xs.le_toInt
  have bs' : xs.toInt ≤ 2147483647 := xs.toInt_le
  have go_9 : hp_F cst strs (fun r_9 : am_Q => ∃ w_9 : Int32, r_9.1 = some (.int w_9) ∧ r_9.2.2.1 = 0 ∧ r_9.2.2.2 = 0 ∧ ly_hy m_tt ly_TH r_9.2.1 ∧ ly_fr cst rw_mods h0 r_9.2.1 ∧ (ly_hv cst r_9.2.1 19969 0 = some 0 ∧ weP cst h0 r_9.2.1 20022 20023 X xy.toInt xs.toInt kd vl t w_9.toInt)) (D + 12) M_9 0 (lv_args 0 [.ref 94, .int xy, .int xs]) [] h0 := by
    refine rw0 c hM_9 (by omega) hy xy.toInt xs.toInt bz8 bz9 bs bs' rfl ⟨xy, rfl, rfl⟩ ⟨xs, rfl, rfl⟩ (fun l1 h1 u1_9 u2_9 u3 m0_9 m1_9 m2_9 => ?_)
    obtain ⟨r_9, hrun, r1_9, r2, r3, rhy, rfr, rk9, rn, rE_9⟩ := zo_take (D := D + 10) (cc _) (cc _) (by omega) u1_9 n0 n1 (u2_9 _ _ _ rfl kn)
    refine hp_call (mi := 326) (pc := 1) (tg := 298) (na := 1) (c := 78) (ci := 12) (st0 := [.ref 94]) (st := []) (av := []) hM_9 (by decide +kernel) u1_9 rfl rfl rfl (by decide) hrun r2 r3 ?_
    rw [r1_9]
    have F1' : ly_fr cst [19969, 19970, 19971, 19972, 19973, 19974, 19975, 19976] h0 r_9.2.1 := ly_fr_tr (hp_sub2 rfl u2_9) rfr
    have F1_9 : ly_fr cst rw_mods h0 r_9.2.1 := hp_sub2 rfl F1'
    have f1_9 : ∀ x_9, 0 ≤ x_9 → x_9 < n → gs_f cst r_9.2.1 x_9 = f x_9 := fun x_9 x0_9 x1_9 => by
      rw [gs_same hy rhy F1' rfl]
      exact ff x_9 x0_9 x1_9
    have E1_9 : gs_E f cst r_9.2.1 (en 0) n := by
      rw [TT.1]
      refine gs_ev (Int.le_refl 0) ?_ rE_9
      intro x_9 x0_9 x1_9
      rw [gs_same hy u1_9 u2_9 rfl]
      exact ff x_9 x0_9 x1_9
    have R1 : rq cst r_9.2.1 f n t kd pl vl en 0 := ⟨⟨TT, n0, n1, f1_9, rn⟩, rs_at TT (Nat.zero_le _) E1_9, rq_at TT (Nat.zero_le _) E1_9⟩
    have kpq : ∀ (h3 : am_H), ly_fr cst [19969, 19970, 19971, 19972, 19973, 19974, 19975, 19976] h0 h3 → kpp cst h0 h3 20022 20023 := fun h3 v2 => ⟨fun u_9 e_9 => v2 _ _ _ rfl e_9, fun u_9 e_9 => v2 _ _ _ rfl e_9⟩
    have bad_9 : ¬ wok xy.toInt xs.toInt → ∀ (h3 : am_H) (v_9 : Int32), v_9.toInt = -2 → ly_hy m_tt ly_TH h3 → ly_fr cst [] r_9.2.1 h3 → r_9.2.1.length ≤ h3.length → (fun r_9 : am_Q => ∃ w_9 : Int32, r_9.1 = some (.int w_9) ∧ r_9.2.2.1 = 0 ∧ r_9.2.2.2 = 0 ∧ ly_hy m_tt ly_TH r_9.2.1 ∧ ly_fr cst rw_mods h0 r_9.2.1 ∧ (ly_hv cst r_9.2.1 19969 0 = some 0 ∧ weP cst h0 r_9.2.1 20022 20023 X xy.toInt xs.toInt kd vl t w_9.toInt)) (some (.int v_9), h3, 0, 0) := fun z_9 h3 v_9 hv v1_9 v2 v3 => ⟨v_9, rfl, rfl, rfl, v1_9, ly_fr_tr F1_9 (hp_sub2 rfl v2), v2 _ _ _ rfl rk9, fun _ => ⟨hv, kpq h3 (ly_fr_tr F1' (hp_sub2 rfl v2))⟩, fun o => absurd o z_9⟩
    by_cases q0 : xy.toInt < 0
    · exact rwR0 c hM_9 (by omega) rhy xy.toInt xs.toInt bz8 (by omega) bs bs' m0_9 m1_9 m2_9 (bad_9 (fun z_9 => by unfold wok at z_9; omega))
    by_cases q1_9 : 399 < xy.toInt
    · exact rwR1 c hM_9 (by omega) rhy xy.toInt xs.toInt (by omega) bz9 bs bs' m0_9 m1_9 m2_9 (bad_9 (fun z_9 => by unfold wok at z_9; omega))
    by_cases q2_9 : xs.toInt < 0
    · exact rwR2 c hM_9 (by omega) rhy xy.toInt xs.toInt (by omega) (by omega) bs (by omega) m0_9 m1_9 m2_9 (bad_9 (fun z_9 => by unfold wok at z_9; omega))
    by_cases q3_9 : 5 < xs.toInt
    · exact rwR3 c hM_9 (by omega) rhy xy.toInt xs.toInt (by omega) (by omega) (by omega) bs' m0_9 m1_9 m2_9 (bad_9 (fun z_9 => by unfold wok at z_9; omega))
    have ok_9 : wok xy.toInt xs.toInt := ⟨by omega, by omega, by omega, by omega⟩
    have so := rs_so R1.2.1
    have vB9 := tkT_vB TT
    by_cases q_9 : 0 < t ∧ kd 0 = 1
    rotate_left
    · have nb : 0 ≤ rk kd t 0 ∧ rk kd t 0 ≤ 8 ∧ rk kd t 0 ≠ 1 := by
        unfold rk
        split
        · have z_9 := sz_b (kd ((0 : Nat) : Int))
          exact ⟨z_9.1, by omega, fun e_9 => q_9 ⟨by assumption, sz_1 e_9⟩⟩
        · omega
      have nw : wtx kd vl t = none := wtx_n (fun z_9 => by
        have y := z_9.1
        by_cases t0_9 : 0 < t
        · rw [fk_lt t0_9] at y
          exact q_9 ⟨t0_9, y⟩
        · rw [fk_ge t0_9] at y
          exact absurd y (by decide))
      exact rwN1 c hM_9 (by omega) rhy xy.toInt xs.toInt (rk kd t 0) ok_9.1 ok_9.2.1 ok_9.2.2.1 ok_9.2.2.2 nb.1 nb.2.1 so (hp_ne (by have := nb.2.2; omega)) m0_9 m1_9 m2_9 (fun h3 v_9 hv v1_9 v2 v3 => ⟨v_9, rfl, rfl, rfl, v1_9, ly_fr_tr F1_9 (hp_sub2 rfl v2), v2 _ _ _ rfl rk9, fun o => absurd ok_9 o, fun _ => ⟨fun _ => ⟨hv, kpq h3 (ly_fr_tr F1' (hp_sub2 rfl v2))⟩, fun d ns vs e_9 => by rw [nw] at e_9; cases e_9⟩⟩)
    have so1 : ly_hv cst r_9.2.1 19971 0 = some 1 := by
      have z_9 := (R1.2.1.1 q_9.1).1
      rw [show kd ((0 : Nat) : Int) = 1 from q_9.2] at z_9
      exact z_9
    have sv : ly_hv cst r_9.2.1 19976 0 = some (vl 0) := (R1.2.1.1 q_9.1).2.2.1 q_9.2
    have vb0 : 1 ≤ vl 0 ∧ vl 0 < 1152921504606846976 := (vB9 0 q_9.1).1 q_9.2
    have f0_9 : fk kd t 0 = 1 := by rw [fk_lt q_9.1]; exact q_9.2
    refine rwA c hM_9 (by omega) rhy xy.toInt xs.toInt (vl 0) ok_9.1 ok_9.2.1 ok_9.2.2.1 ok_9.2.2.2 (by omega) (by omega) so1 sv m0_9 m1_9 m2_9 (fun l3 h3 v1_9 v2 v3 o0_9 o1 o2 o3_9 => ?_)
    obtain ⟨r4, hrun4, s1_9, s2_9, s3_9, shy, sfr, R2⟩ := rq_scan (D := D + 11) (cc _) (by omega) v1_9 (rq_mv R1 rhy v1_9 v2 rfl)
    refine hp_call (mi := 326) (pc := 37) (tg := 299) (na := 1) (c := 78) (ci := 12) (st0 := [.ref 94]) (st := []) (av := []) hM_9 (by decide +kernel) v1_9 rfl rfl rfl (by decide) hrun4 s2_9 s3_9 ?_
    rw [s1_9]
    have F4' : ly_fr cst [19969, 19970, 19971, 19972, 19973, 19974, 19975, 19976] h0 r4.2.1 := ly_fr_tr F1' (ly_fr_tr (hp_sub2 rfl v2) (hp_sub2 rfl sfr))
    have rk4 : ly_hv cst r4.2.1 19969 0 = some 0 := sfr _ _ _ rfl (v2 _ _ _ rfl rk9)
    have so2 := rs_so R2.2.1
    by_cases q2_9 : 1 < t ∧ kd 1 = 59
    rotate_left
    · have nb : 0 ≤ rk kd t (0 + 1) ∧ rk kd t (0 + 1) ≤ 8 ∧ rk kd t (0 + 1) ≠ 3 := by
        unfold rk
        split
        · have z_9 := sz_b (kd ((0 + 1 : Nat) : Int))
          exact ⟨z_9.1, by omega, fun e_9 => q2_9 ⟨by assumption, sz_3 e_9⟩⟩
        · omega
      have nw : wtx kd vl t = none := wtx_n (fun z_9 => by
        have y := z_9.2
        by_cases t0_9 : 1 < t
        · rw [fk_lt t0_9] at y
          exact q2_9 ⟨t0_9, y⟩
        · rw [fk_ge t0_9] at y
          exact absurd y (by decide))
      exact rwN2 c hM_9 (by omega) shy xy.toInt xs.toInt (vl 0) (rk kd t (0 + 1)) ok_9.1 ok_9.2.1 ok_9.2.2.1 ok_9.2.2.2 (by omega) (by omega) nb.1 nb.2.1 so2 (hp_ne (by have := nb.2.2; omega)) o0_9 o1 o2 o3_9 (fun h5 v_9 hv y1 y2 y3 => ⟨v_9, rfl, rfl, rfl, y1, hp_sub2 rfl (ly_fr_tr F4' (hp_sub2 rfl y2)), y2 _ _ _ rfl rk4, fun o => absurd ok_9 o, fun _ => ⟨fun _ => ⟨hv, kpq h5 (ly_fr_tr F4' (hp_sub2 rfl y2))⟩, fun d ns vs e_9 => by rw [nw] at e_9; cases e_9⟩⟩)
    have so3 : ly_hv cst r4.2.1 19971 0 = some 3 := by
      have z_9 := (R2.2.1.1 q2_9.1).1
      rw [show kd ((0 + 1 : Nat) : Int) = 59 from q2_9.2] at z_9
      exact z_9
    have good_9 : fk kd t 0 = 1 ∧ fk kd t 1 = 59 := ⟨f0_9, by rw [fk_lt q2_9.1]; exact q2_9.2⟩
    refine rwB c hM_9 (by omega) shy xy.toInt xs.toInt (vl 0) ok_9.1 ok_9.2.1 ok_9.2.2.1 ok_9.2.2.2 (by omega) (by omega) so3 o0_9 o1 o2 o3_9 (fun l5 h5 y1 y2 y3 p0_9 p1_9 p2_9 p3_9 => ?_)
    obtain ⟨r6, hrun6, t1_9, t2_9, t3_9, thy, tfr, R3⟩ := rq_scan (D := D + 11) (cc _) (by omega) y1 (rq_mv R2 shy y1 y2 rfl)
    refine hp_call (mi := 326) (pc := 51) (tg := 299) (na := 1) (c := 78) (ci := 12) (st0 := [.ref 94]) (st := []) (av := []) hM_9 (by decide +kernel) y1 rfl rfl rfl (by decide) hrun6 t2_9 t3_9 ?_
    rw [t1_9]
    have F6' : ly_fr cst [19969, 19970, 19971, 19972, 19973, 19974, 19975, 19976] h0 r6.2.1 := ly_fr_tr F4' (ly_fr_tr (hp_sub2 rfl y2) (hp_sub2 rfl tfr))
    refine rwC c hM_9 (by omega) thy xy.toInt xs.toInt (vl 0) ok_9.1 ok_9.2.1 ok_9.2.2.1 ok_9.2.2.2 (by omega) (by omega) p0_9 p1_9 p2_9 p3_9 (fun l7 h7 w1_9 w2_9 w3_9 s0' s1' s2' s3' => ?_)
    have F7' : ly_fr cst [19969, 19970, 19971, 19972, 19973, 19974, 19975, 19976] h0 h7 := ly_fr_tr F6' (hp_sub2 rfl w2_9)
    have rk7 : ly_hv cst h7 19969 0 = some 0 := w2_9 _ _ _ rfl (tfr _ _ _ rfl (y2 _ _ _ rfl rk4))
    have R7 := rq_mv R3 thy w1_9 w2_9 rfl
    obtain ⟨r8, hrun8, w8, a1_9, a2, a3, ahy, afr, aS, aN_9⟩ := gf_run (D := D + 10) (cc _) (cc _) (by omega) w1_9 TT n0 n1 R7.1.2.2.2.1 R7.1.2.2.2.2 (tkT_kb TT) (fun j hj => ⟨fun e_9 => by have := (vB9 j hj).1 e_9; omega, fun e_9 => (vB9 j hj).2 e_9⟩) R7.2.1
    refine hp_call (mi := 326) (pc := 55) (tg := 327) (na := 1) (c := 78) (ci := 12) (st0 := [.ref 94]) (st := []) (av := []) hM_9 (by decide +kernel) w1_9 rfl rfl rfl (by decide) hrun8 a2 a3 ?_
    rw [a1_9]
    have F8' : ly_fr cst [19969, 19970, 19971, 19972, 19973, 19974, 19975, 19976, 27392, 27648, 27904] h0 r8.2.1 := ly_fr_tr (hp_sub2 rfl F7') (hp_sub2 rfl afr)
    have rk8 : ly_hv cst r8.2.1 19969 0 = some 0 := afr _ _ _ rfl rk7
    cases efa : fa kd vl t 21 (0 + 1 + 1) [] [] with
    | none =>
      exact rwF0 c hM_9 (by omega) ahy xy.toInt xs.toInt (vl 0) w8 (aN_9 efa) ok_9.1 ok_9.2.1 ok_9.2.2.1 ok_9.2.2.2 (by omega) (by omega) s0' s1' s2' s3' (fun h9 v_9 hv e1_9 e2_9 e3_9 => ⟨v_9, rfl, rfl, rfl, e1_9, hp_sub2 rfl (ly_fr_tr F8' (hp_sub2 rfl e2_9)), e2_9 _ _ _ rfl rk8, fun o => absurd ok_9 o, fun _ => ⟨fun _ => ⟨hv, fun u_9 e_9 => e2_9 _ _ _ rfl (F8' _ _ _ rfl e_9), fun u_9 e_9 => e2_9 _ _ _ rfl (F8' _ _ _ rfl e_9)⟩, fun d ns vs e_9 => by rw [wtx_f good_9 efa] at e_9; cases e_9⟩⟩)
    | some qq =>
      obtain ⟨ns, vs⟩ := qq
      obtain ⟨ew8, g1, g2, g3_9⟩ := aS ns vs efa
      obtain ⟨ln1, ln2⟩ := fa_len 21 (0 + 1 + 1) [] [] rfl rfl ns vs efa
      obtain ⟨nd_9, vb⟩ := fa_nd vB9 21 (0 + 1 + 1) [] [] trivial (fun v_9 hv => by cases hv) ns vs efa
      have RG_9 : rG cst r8.2.1 200 ns vs := ⟨g1, g2, g3_9, ln2, ln1, vb, nd_9⟩
      have ewt := wtx_s (vl := vl) good_9 efa
      refine rwF1 c hM_9 (by omega) ahy xy.toInt xs.toInt (vl 0) w8 ew8 ok_9.1 ok_9.2.1 ok_9.2.2.1 ok_9.2.2.2 (by omega) (by omega) s0' s1' s2' s3' (fun l9 h9 b0 b1 b2 b3 e0_9 e1_9 e2_9 e3_9 i1_9 i2_9 i3_9 j0 j1 j2_9 j3_9 => ?_)
      have F9' : ly_fr cst [19969, 19970, 19971, 19972, 19973, 19974, 19975, 19976, 27392, 27648, 27904] h0 h9 := ly_fr_tr F8' (hp_sub2 rfl i2_9)
      have RA9 : rA cst h9 X := rA_k R (gk_fr F9' rfl rfl) (F9' _ _ _ rfl R.1)
      obtain ⟨rB_9, hrunB, wB, x1_9, x2_9, x3, xhy, xfr, xres⟩ := lo_run (D := D + 8) cc (by omega) i1_9 RA9 x30 wd (y := xy.toInt) (s := xs.toInt) (k := 0) (d := vl 0) (by omega) (by omega) (xk := b3) (xd := b2) (xy := b1) (xs := b0) e3_9 e2_9 e1_9 e0_9
      refine hp_call (mi := 326) (pc := 68) (tg := 284) (na := 5) (c := 78) (ci := 12) (st0 := [.int b0, .int b1, .long b2, .int b3, .ref 94]) (st := []) (av := [.int b3, .long b2, .int b1, .int b0]) hM_9 (by decide +kernel) i1_9 rfl rfl rfl (by decide) hrunB x2_9 x3 ?_
      rw [x1_9]
      have FB' : ly_fr cst [19969, 19970, 19971, 19972, 19973, 19974, 19975, 19976, 27392, 27648, 27904] h0 rB_9.2.1 := ly_fr_tr F9' (hp_sub2 rfl xfr)
      have rkB : ly_hv cst rB_9.2.1 19969 0 = some 0 := xfr _ _ _ rfl (i2_9 _ _ _ rfl rk8)
      rw [show dz 0 (vl 0) = vl 0 from if_pos (by decide)] at xres
      rcases xres with ⟨a, j, hf, ewB_9⟩ | ⟨nf_9, ewB_9⟩
      rotate_left
      · exact rwG0 c hM_9 (by omega) xhy xy.toInt xs.toInt (vl 0) wB ewB_9 ok_9.1 ok_9.2.1 ok_9.2.2.1 ok_9.2.2.2 (by omega) (by omega) j0 j1 j2_9 j3_9 (fun hA v_9 hv e1_9 e2_9 e3_9 => ⟨v_9, rfl, rfl, rfl, e1_9, hp_sub2 rfl (ly_fr_tr FB' (hp_sub2 rfl e2_9)), e2_9 _ _ _ rfl rkB, fun o => absurd ok_9 o, fun _ => ⟨fun e_9 => (by rw [ewt] at e_9; cases e_9), fun d ns' vs' e_9 => by
          rw [ewt] at e_9
          cases e_9
          exact Or.inl ⟨nf_9, hv, fun u_9 e_9 => e2_9 _ _ _ rfl (FB' _ _ _ rfl e_9), fun u_9 e_9 => e2_9 _ _ _ rfl (FB' _ _ _ rfl e_9)⟩⟩⟩)
      obtain ⟨⟨ha_9, -, ⟨hj, -⟩, -⟩, -⟩ := id hf
      have lA := (rc_ln R ha_9).2
      obtain ⟨V, S2, bv_9, m_9, fi, z_9, hz, y1', y2', y3', H1_9, H2_9, zf, zz, zl, hT_9, zS, hS_9⟩ := dd_of P_9 hf ha_9 hj
      have b820 := (P_9 a ha_9).2.2.2.2.1
      obtain ⟨-, -, -, -, c5_9, c6_9, c7_9⟩ := (R.2 a ha_9).2.1
      have k5_9 : ly_hv cst h0 24320 (40 * (a : Int) + (j : Int)) = some (fi : Int) := by
        have y := c5_9 j (by rw [List.length_map]; exact hz)
        rw [List.getElem_map, zf] at y
        exact y
      have k6_9 : ly_hv cst h0 24832 (40 * (a : Int) + (j : Int)) = some (z_9 : Int) := by
        have y := c6_9 j (by rw [List.length_map]; exact hz)
        rw [List.getElem_map, zz] at y
        exact y
      have k7_9 : ly_hv cst h0 25088 (40 * (a : Int) + (j : Int)) = some (S2.length : Int) := by
        have y := c7_9 j (by rw [List.length_map]; exact hz)
        rw [List.getElem_map, zl] at y
        exact y
      have k8_9 : ly_hv cst h0 24576 (40 * (a : Int) + (j : Int)) = some (m_9 : Int) := by
        have y := (rc_at R ha_9 hj).2.2.2
        rw [show rz_m ((X[a]).2.2.1[j]) = ((X[a]).2.2.1[j]).2.2.1 from if_pos (by rw [y3']; decide), y2'] at y
        exact y
      have row_9 : fn_N cst h0 26880 (820 * (a : Int) + (z_9 : Int)) S2 := fun k hk => by
        obtain ⟨hk', ek⟩ := hS_9 k hk
        have y := (R.2 a ha_9).2.2.2.1 (z_9 + k) hk'
        rw [ek, Int.natCast_add, ← Int.add_assoc] at y
        exact y
      have zN : z_9 + S2.length ≤ 820 := by omega
      refine rwG1 c hM_9 (by omega) xhy xy.toInt xs.toInt (vl 0) (40 * (a : Int) + (j : Int)) wB ewB_9 ok_9.1 ok_9.2.1 ok_9.2.2.1 ok_9.2.2.2 (by omega) (by omega) (by omega) (by omega) j0 j1 j2_9 j3_9 (fun lC hC d0_9 d1_9 f0' f1' w1' w2' w3' q0' q1' q2' q3' q5' => ?_)
      have FC' : ly_fr cst [19969, 19970, 19971, 19972, 19973, 19974, 19975, 19976, 27392, 27648, 27904] h0 hC := ly_fr_tr FB' (hp_sub2 rfl w2')
      have RAC : rA cst hC X := rA_k R (gk_fr FC' rfl rfl) (FC' _ _ _ rfl R.1)
      have RGC : rG cst hC 200 ns vs := rG_mv (rG_mv (rG_mv RG_9 i2_9 rfl rfl rfl) xfr rfl rfl rfl) w2' rfl rfl rfl
      obtain ⟨a9, e9_9⟩ := mq_v ns vs V [] 0 H1_9.1
      have eP : (qv_t V).map (tst ns vs) = (mq ns vs ((X[a]).2.2.1[j]).2.2.2 ([], 0, 0, -20004)).1 := by
        rw [y1', e9_9]
        rfl
      obtain ⟨rD, hrunD, b8, n1', n2'_9, n3', nhy, nfr, mb8⟩ := mo_run (D := D + 9) cc (by omega) w1' RAC x30 ha_9 (by omega) (FC' _ _ _ rfl k5_9) (FC' _ _ _ rfl k8_9) H1_9.2.2.1 H1_9.2.1 hT_9 (qw_t9 V H1_9.1) (by omega) (by omega) RGC eP (xc := d1_9) (xq := d0_9) f1' f0'
      refine hp_call (mi := 326) (pc := 89) (tg := 328) (na := 3) (c := 78) (ci := 12) (st0 := [.int d0_9, .int d1_9, .ref 94]) (st := [.ref 94]) (av := [.int d1_9, .int d0_9]) hM_9 (by decide +kernel) w1' rfl rfl rfl (Nat.le_of_ble_eq_true rfl) hrunD n2'_9 n3' ?_
      rw [n1']
      refine rwM c hM_9 (by omega) nhy xy.toInt xs.toInt (vl 0) (40 * (a : Int) + (j : Int)) b8.toInt b8 rfl ok_9.1 ok_9.2.1 ok_9.2.2.1 ok_9.2.2.2 (by omega) (by omega) (by omega) (by omega) b8.le_toInt b8.toInt_le q0' q1' q2' q3' q5' (fun lE hE g0 g1' h0' h1' v1' v2' v3' km r0' r1' r2' r3' r5' => ?_)
      have em0 : g0 = b8 := Int32.toInt_inj.mp h0'
      rw [em0]
      have FE' : ly_fr cst [19969, 19970, 19971, 19972, 19973, 19974, 19975, 19976, 20022, 27392, 27648, 27904] h0 hE := ly_fr_tr (hp_sub2 rfl FC') (ly_fr_tr (hp_sub2 rfl nfr) (hp_sub2 rfl v2'))
      have rkE : ly_hv cst hE 19969 0 = some 0 := v2' _ _ _ rfl (nfr _ _ _ rfl (w2' _ _ _ rfl rkB))
      obtain ⟨rG', hrunG, wG, t1', t2', t3', thy', tfr', ewG⟩ := lf_run (D := D + 10) cc (by omega) v1' H2_9 (a := a) (j := j) (by omega) (by omega) (FE' _ _ _ rfl k8_9) (FE' _ _ _ rfl k7_9) (FE' _ _ _ rfl k6_9) zN (fn_mv row_9 FE' rfl) (xc := g1') (me := b8) h1'
      refine hp_call (mi := 326) (pc := 103) (tg := 331) (na := 3) (c := 78) (ci := 12) (st0 := [.int b8, .int g1', .ref 94]) (st := [.ref 94]) (av := [.int g1', .int b8]) hM_9 (by decide +kernel) v1' rfl rfl rfl (Nat.le_of_ble_eq_true rfl) hrunG t2' t3' ?_
      rw [t1']
      rw [wlk_v H1_9 y1' y2' b8] at ewG
      have FG_9 : ly_fr cst rw_mods h0 rG'.2.1 := ly_fr_tr (hp_sub2 rfl FE') (hp_sub2 rfl tfr')
      have rkG : ly_hv cst rG'.2.1 19969 0 = some 0 := tfr' _ _ _ rfl rkE
      have kmG : ly_hv cst rG'.2.1 20022 0 = some b8.toInt := tfr' _ _ _ rfl km
      have fin_9 : ∀ (v_9 : Int32) (h5 : am_H), v_9.toInt = (if wlk ((X[a]).2.2.1[j]) b8 = -1 then 1 else 0) → ly_hy m_tt ly_TH h5 → ly_fr cst [20023] rG'.2.1 h5 → ly_hv cst h5 20022 0 = some b8.toInt → ly_hv cst h5 20023 0 = some (wlk ((X[a]).2.2.1[j]) b8) → (fun r_9 : am_Q => ∃ w_9 : Int32, r_9.1 = some (.int w_9) ∧ r_9.2.2.1 = 0 ∧ r_9.2.2.2 = 0 ∧ ly_hy m_tt ly_TH r_9.2.1 ∧ ly_fr cst rw_mods h0 r_9.2.1 ∧ (ly_hv cst r_9.2.1 19969 0 = some 0 ∧ weP cst h0 r_9.2.1 20022 20023 X xy.toInt xs.toInt kd vl t w_9.toInt)) (some (.int v_9), h5, 0, 0) := fun v_9 h5 hv e1_9 e2_9 e3_9 e4_9 => ⟨v_9, rfl, rfl, rfl, e1_9, ly_fr_tr FG_9 (hp_sub2 rfl e2_9), e2_9 _ _ _ rfl rkG, fun o => absurd ok_9 o, fun _ => ⟨fun e_9 => (by rw [ewt] at e_9; cases e_9), fun d ns' vs' e_9 => by
        rw [ewt] at e_9
        cases e_9
        exact Or.inr ⟨a, j, ha_9, hj, hf, b8, mb8, e3_9, e4_9, hv⟩⟩⟩
      have lb : wlk ((X[a]).2.2.1[j]) b8 = -1 ∨ (0 ≤ wlk ((X[a]).2.2.1[j]) b8 ∧ wlk ((X[a]).2.2.1[j]) b8 ≤ 99) := by
        rw [← wlk_v H1_9 y1' y2' b8]
        exact lcks_b _ _ H1_9.2.2.1
      rcases lb with zz9 | zz9
      · rw [zz9] at ewG
        exact rwL1 c hM_9 (by omega) thy' xy.toInt xs.toInt (vl 0) (40 * (a : Int) + (j : Int)) b8.toInt wG ewG ok_9.1 ok_9.2.1 ok_9.2.2.1 ok_9.2.2.2 (by omega) (by omega) (by omega) (by omega) b8.le_toInt b8.toInt_le kmG r0' r1' r2' r3' r5' (fun h5 v_9 hv e1_9 e2_9 e3_9 e4_9 e5_9 => fin_9 v_9 h5 (by rw [if_pos zz9]; exact hv) e1_9 e2_9 e4_9 (by rw [zz9]; exact e5_9))
      · exact rwL0 c hM_9 (by omega) thy' xy.toInt xs.toInt (vl 0) (40 * (a : Int) + (j : Int)) b8.toInt (wlk ((X[a]).2.2.1[j]) b8) wG ewG ok_9.1 ok_9.2.1 ok_9.2.2.1 ok_9.2.2.2 (by omega) (by omega) (by omega) (by omega) b8.le_toInt b8.toInt_le zz9.1 zz9.2 kmG r0' r1' r2' r3' r5' (fun h5 v_9 hv e1_9 e2_9 e3_9 e4_9 e5_9 => fin_9 v_9 h5 (by rw [if_neg (by omega)]; exact hv) e1_9 e2_9 e4_9 e5_9)
  obtain ⟨n', r_9, hgo, w_9, r1_9, r2, r3, r4⟩ := go_9
  simp only [Nat.zero_add] at r2 r3
  exact ⟨r_9, Or.inr ⟨M_9, n', hM_9, hl, hgo⟩, w_9, r1_9, r2, r3, r4⟩
