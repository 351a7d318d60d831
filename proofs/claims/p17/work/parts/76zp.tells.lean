/-! PRINTED by wip/p2/hp_ask.py: tells of both -/
theorem lb0_k : hp_chk 116 0 3 [(0, (-2147483648), 2147483647), (1, (-2147483648), 2147483647), (2, (-2147483648), 2147483647)] [] [(0, .inr (.inr (.inl (some 16)))), (1, .inl (0, [(0, 1)])), (2, .inl (0, [(1, 1)])), (3, .inl (0, [(2, 1)]))] [] [] [] 2 [(2, ([], 3, [(0, (-2147483648), 2147483647), (1, (-2147483648), 2147483647), (2, (-2147483648), 2147483647)], [], [(0, .inr (.inr (.inl (some 16)))), (1, .inl (0, [(0, 1)])), (2, .inl (0, [(1, 1)])), (3, .inl (0, [(2, 1)]))], [.inl (0, [(0, 1)]), .inr (.inr (.inl (some 16)))], []))] [] = true := by decide +kernel
theorem lb0 {cst : am_K} {strs : List Nat} {Φ : am_Q → Prop} {D : Nat} {M : am_M} {h : am_H} {l : am_L} (c : hp_C cst strs D) (hM : m_P[116]? = some M) (hD : (2 : Int) ≤ (D : Int) + 1) (hy : ly_hy m_tt ly_TH h) (k y s : Int) (b0 : (-2147483648) ≤ k) (t0 : k ≤ 2147483647) (b1 : (-2147483648) ≤ y) (t1 : y ≤ 2147483647) (b2 : (-2147483648) ≤ s) (t2 : s ≤ 2147483647) (l0 : hp_a l 0 16) (l1 : hp_i l 1 (k)) (l2 : hp_i l 2 (y)) (l3 : hp_i l 3 (s)) (e0 : ∀ (l' : am_L) (h' : am_H) (y0 : Int32), y0.toInt = (k) → ly_hy m_tt ly_TH h' → ly_fr cst [] h h' → h.length ≤ h'.length → hp_a l' 0 16 → hp_i l' 1 (k) → hp_i l' 2 (y) → hp_i l' 3 (s) → hp_F cst strs Φ D M 2 l' [.int y0, .ref 16] h') : hp_F cst strs Φ D M 0 l [] h := by
  refine hp_arc c hM lb0_k hD [k, y, s] rfl hy (hp_Bc (z := k) rfl b0 t0 (hp_Bc (z := y) rfl b1 t1 (hp_Bc (z := s) rfl b2 t2 hp_Bn))) hp_Fn hp_Kn (hp_La l0 (hp_Li (z := (0 + (1 * k + 0))) l1 rfl (by omega) (hp_Li (z := (0 + (1 * y + 0))) l2 rfl (by omega) (hp_Li (z := (0 + (1 * s + 0))) l3 rfl (by omega) hp_Ln)))) trivial ?_ ?_
  · intro p_9 hp ys l' st' h' hys a1_9 a2 a3 gZ gL gS
    rcases List.mem_cons.mp hp with rfl | hp
    · obtain rfl := hp_y0 hys
      obtain ⟨y0, t0, rfl, q0, g0⟩ := hp_gSi (z := (0 + (1 * k + 0))) gS rfl
      obtain ⟨t1, rfl, g1⟩ := hp_gSa g0 (by decide)
      cases hp_gSn g1
      exact e0 l' h' y0 (by omega) a1_9 a2 a3 (hp_gLa gL (List.mem_of_getElem? (i := 0) rfl) (by decide)) (hp_gLi (z := (0 + (1 * k + 0))) gL (List.mem_of_getElem? (i := 1) rfl) rfl (by omega)) (hp_gLi (z := (0 + (1 * y + 0))) gL (List.mem_of_getElem? (i := 2) rfl) rfl (by omega)) (hp_gLi (z := (0 + (1 * s + 0))) gL (List.mem_of_getElem? (i := 3) rfl) rfl (by omega))
    cases hp
  · intro p_9 hp ys v_9 h' hys a1_9 a2 a3 gZ gS
    cases hp
theorem lbR0_k : hq_chk [114, 25, 27, 39] 116 5 4 [(0, (-2147483648), (-1)), (1, (-2147483648), 2147483647), (2, (-2147483648), 2147483647), (3, (-9223372036854775808), 9223372036854775807)] [] [(0, .inr (.inr (.inl (some 16)))), (1, .inl (0, [(0, 1)])), (2, .inl (0, [(1, 1)])), (3, .inl (0, [(2, 1)]))] [.inr (.inl (0, [(3, 1)]))] [] [] 5 [] [([], 4, [(0, (-2147483648), (-1)), (1, (-2147483648), 2147483647), (2, (-2147483648), 2147483647), (3, (-9223372036854775808), 9223372036854775807)], [], [], [.inl ((-2), [])], [])] = true := by decide +kernel
theorem lbR0 {cst : am_K} {strs : List Nat} {Φ : am_Q → Prop} {D : Nat} {M : am_M} {h : am_H} {l : am_L} (c : hp_C cst strs D) (hM : m_P[116]? = some M) (hD : (5 : Int) ≤ (D : Int) + 1) (hy : ly_hy m_tt ly_TH h) (k y s d : Int) (x0 : Int64) (hx0 : x0.toInt = (d)) (b0 : (-2147483648) ≤ k) (t0 : k ≤ (-1)) (b1 : (-2147483648) ≤ y) (t1 : y ≤ 2147483647) (b2 : (-2147483648) ≤ s) (t2 : s ≤ 2147483647) (b3 : (-9223372036854775808) ≤ d) (t3 : d ≤ 9223372036854775807) (l0 : hp_a l 0 16) (l1 : hp_i l 1 (k)) (l2 : hp_i l 2 (y)) (l3 : hp_i l 3 (s)) (r0 : ∀ (h' : am_H) (y0 : Int32), y0.toInt = (-2) → ly_hy m_tt ly_TH h' → ly_fr cst [] h h' → h.length ≤ h'.length → Φ (some (.int y0), h', 0, 0)) : hp_F cst strs Φ D M 5 l [.long x0] h := by
  refine hq_arc c hM lbR0_k hD [k, y, s, d] rfl hy (hp_Bc (z := k) rfl b0 t0 (hp_Bc (z := y) rfl b1 t1 (hp_Bc (z := s) rfl b2 t2 (hp_Bc (z := d) rfl b3 t3 hp_Bn)))) hp_Fn hp_Kn (hp_La l0 (hp_Li (z := (0 + (1 * k + 0))) l1 rfl (by omega) (hp_Li (z := (0 + (1 * y + 0))) l2 rfl (by omega) (hp_Li (z := (0 + (1 * s + 0))) l3 rfl (by omega) hp_Ln)))) (hp_Sj (z := (0 + (1 * d + 0))) rfl (by omega) trivial) ?_ ?_
  · intro p_9 hp ys l' st' h' hys a1_9 a2 a3 gZ gL gS
    cases hp
  · intro p_9 hp ys v_9 h' hys a1_9 a2 a3 gZ gS
    rcases List.mem_cons.mp hp with rfl | hp
    · obtain rfl := hp_y0 hys
      cases v_9 with
      | none => cases gS
      | some wz =>
        obtain ⟨y0, t0, s0_9, q0, -⟩ := hp_gSi (z := ((-2) + 0)) gS rfl
        cases s0_9
        exact r0 h' y0 (by omega) a1_9 a2 a3
    cases hp
theorem lbR1_k : hq_chk [114, 25, 27, 39] 116 5 4 [(0, 14, 2147483647), (1, (-2147483648), 2147483647), (2, (-2147483648), 2147483647), (3, (-9223372036854775808), 9223372036854775807)] [] [(0, .inr (.inr (.inl (some 16)))), (1, .inl (0, [(0, 1)])), (2, .inl (0, [(1, 1)])), (3, .inl (0, [(2, 1)]))] [.inr (.inl (0, [(3, 1)]))] [] [] 5 [] [([], 4, [(0, 14, 2147483647), (1, (-2147483648), 2147483647), (2, (-2147483648), 2147483647), (3, (-9223372036854775808), 9223372036854775807)], [], [], [.inl ((-2), [])], [])] = true := by decide +kernel
theorem lbR1 {cst : am_K} {strs : List Nat} {Φ : am_Q → Prop} {D : Nat} {M : am_M} {h : am_H} {l : am_L} (c : hp_C cst strs D) (hM : m_P[116]? = some M) (hD : (5 : Int) ≤ (D : Int) + 1) (hy : ly_hy m_tt ly_TH h) (k y s d : Int) (x0 : Int64) (hx0 : x0.toInt = (d)) (b0 : 14 ≤ k) (t0 : k ≤ 2147483647) (b1 : (-2147483648) ≤ y) (t1 : y ≤ 2147483647) (b2 : (-2147483648) ≤ s) (t2 : s ≤ 2147483647) (b3 : (-9223372036854775808) ≤ d) (t3 : d ≤ 9223372036854775807) (l0 : hp_a l 0 16) (l1 : hp_i l 1 (k)) (l2 : hp_i l 2 (y)) (l3 : hp_i l 3 (s)) (r0 : ∀ (h' : am_H) (y0 : Int32), y0.toInt = (-2) → ly_hy m_tt ly_TH h' → ly_fr cst [] h h' → h.length ≤ h'.length → Φ (some (.int y0), h', 0, 0)) : hp_F cst strs Φ D M 5 l [.long x0] h := by
  refine hq_arc c hM lbR1_k hD [k, y, s, d] rfl hy (hp_Bc (z := k) rfl b0 t0 (hp_Bc (z := y) rfl b1 t1 (hp_Bc (z := s) rfl b2 t2 (hp_Bc (z := d) rfl b3 t3 hp_Bn)))) hp_Fn hp_Kn (hp_La l0 (hp_Li (z := (0 + (1 * k + 0))) l1 rfl (by omega) (hp_Li (z := (0 + (1 * y + 0))) l2 rfl (by omega) (hp_Li (z := (0 + (1 * s + 0))) l3 rfl (by omega) hp_Ln)))) (hp_Sj (z := (0 + (1 * d + 0))) rfl (by omega) trivial) ?_ ?_
  · intro p_9 hp ys l' st' h' hys a1_9 a2 a3 gZ gL gS
    cases hp
  · intro p_9 hp ys v_9 h' hys a1_9 a2 a3 gZ gS
    rcases List.mem_cons.mp hp with rfl | hp
    · obtain rfl := hp_y0 hys
      cases v_9 with
      | none => cases gS
      | some wz =>
        obtain ⟨y0, t0, s0_9, q0, -⟩ := hp_gSi (z := ((-2) + 0)) gS rfl
        cases s0_9
        exact r0 h' y0 (by omega) a1_9 a2 a3
    cases hp
theorem lbR2_k : hq_chk [114, 25, 27, 39] 116 5 4 [(0, 0, 13), (1, (-2147483648), (-1)), (2, (-2147483648), 2147483647), (3, (-9223372036854775808), 9223372036854775807)] [] [(0, .inr (.inr (.inl (some 16)))), (1, .inl (0, [(0, 1)])), (2, .inl (0, [(1, 1)])), (3, .inl (0, [(2, 1)]))] [.inr (.inl (0, [(3, 1)]))] [] [] 5 [] [([], 4, [(0, 0, 13), (1, (-2147483648), (-1)), (2, (-2147483648), 2147483647), (3, (-9223372036854775808), 9223372036854775807)], [], [], [.inl ((-2), [])], [])] = true := by decide +kernel
theorem lbR2 {cst : am_K} {strs : List Nat} {Φ : am_Q → Prop} {D : Nat} {M : am_M} {h : am_H} {l : am_L} (c : hp_C cst strs D) (hM : m_P[116]? = some M) (hD : (5 : Int) ≤ (D : Int) + 1) (hy : ly_hy m_tt ly_TH h) (k y s d : Int) (x0 : Int64) (hx0 : x0.toInt = (d)) (b0 : 0 ≤ k) (t0 : k ≤ 13) (b1 : (-2147483648) ≤ y) (t1 : y ≤ (-1)) (b2 : (-2147483648) ≤ s) (t2 : s ≤ 2147483647) (b3 : (-9223372036854775808) ≤ d) (t3 : d ≤ 9223372036854775807) (l0 : hp_a l 0 16) (l1 : hp_i l 1 (k)) (l2 : hp_i l 2 (y)) (l3 : hp_i l 3 (s)) (r0 : ∀ (h' : am_H) (y0 : Int32), y0.toInt = (-2) → ly_hy m_tt ly_TH h' → ly_fr cst [] h h' → h.length ≤ h'.length → Φ (some (.int y0), h', 0, 0)) : hp_F cst strs Φ D M 5 l [.long x0] h := by
  refine hq_arc c hM lbR2_k hD [k, y, s, d] rfl hy (hp_Bc (z := k) rfl b0 t0 (hp_Bc (z := y) rfl b1 t1 (hp_Bc (z := s) rfl b2 t2 (hp_Bc (z := d) rfl b3 t3 hp_Bn)))) hp_Fn hp_Kn (hp_La l0 (hp_Li (z := (0 + (1 * k + 0))) l1 rfl (by omega) (hp_Li (z := (0 + (1 * y + 0))) l2 rfl (by omega) (hp_Li (z := (0 + (1 * s + 0))) l3 rfl (by omega) hp_Ln)))) (hp_Sj (z := (0 + (1 * d + 0))) rfl (by omega) trivial) ?_ ?_
  · intro p_9 hp ys l' st' h' hys a1_9 a2 a3 gZ gL gS
    cases hp
  · intro p_9 hp ys v_9 h' hys a1_9 a2 a3 gZ gS
    rcases List.mem_cons.mp hp with rfl | hp
    · obtain rfl := hp_y0 hys
      cases v_9 with
      | none => cases gS
      | some wz =>
        obtain ⟨y0, t0, s0_9, q0, -⟩ := hp_gSi (z := ((-2) + 0)) gS rfl
        cases s0_9
        exact r0 h' y0 (by omega) a1_9 a2 a3
    cases hp
theorem lbR3_k : hq_chk [114, 25, 27, 39] 116 5 4 [(0, 0, 13), (1, 400, 2147483647), (2, (-2147483648), 2147483647), (3, (-9223372036854775808), 9223372036854775807)] [] [(0, .inr (.inr (.inl (some 16)))), (1, .inl (0, [(0, 1)])), (2, .inl (0, [(1, 1)])), (3, .inl (0, [(2, 1)]))] [.inr (.inl (0, [(3, 1)]))] [] [] 5 [] [([], 4, [(0, 0, 13), (1, 400, 2147483647), (2, (-2147483648), 2147483647), (3, (-9223372036854775808), 9223372036854775807)], [], [], [.inl ((-2), [])], [])] = true := by decide +kernel
theorem lbR3 {cst : am_K} {strs : List Nat} {Φ : am_Q → Prop} {D : Nat} {M : am_M} {h : am_H} {l : am_L} (c : hp_C cst strs D) (hM : m_P[116]? = some M) (hD : (5 : Int) ≤ (D : Int) + 1) (hy : ly_hy m_tt ly_TH h) (k y s d : Int) (x0 : Int64) (hx0 : x0.toInt = (d)) (b0 : 0 ≤ k) (t0 : k ≤ 13) (b1 : 400 ≤ y) (t1 : y ≤ 2147483647) (b2 : (-2147483648) ≤ s) (t2 : s ≤ 2147483647) (b3 : (-9223372036854775808) ≤ d) (t3 : d ≤ 9223372036854775807) (l0 : hp_a l 0 16) (l1 : hp_i l 1 (k)) (l2 : hp_i l 2 (y)) (l3 : hp_i l 3 (s)) (r0 : ∀ (h' : am_H) (y0 : Int32), y0.toInt = (-2) → ly_hy m_tt ly_TH h' → ly_fr cst [] h h' → h.length ≤ h'.length → Φ (some (.int y0), h', 0, 0)) : hp_F cst strs Φ D M 5 l [.long x0] h := by
  refine hq_arc c hM lbR3_k hD [k, y, s, d] rfl hy (hp_Bc (z := k) rfl b0 t0 (hp_Bc (z := y) rfl b1 t1 (hp_Bc (z := s) rfl b2 t2 (hp_Bc (z := d) rfl b3 t3 hp_Bn)))) hp_Fn hp_Kn (hp_La l0 (hp_Li (z := (0 + (1 * k + 0))) l1 rfl (by omega) (hp_Li (z := (0 + (1 * y + 0))) l2 rfl (by omega) (hp_Li (z := (0 + (1 * s + 0))) l3 rfl (by omega) hp_Ln)))) (hp_Sj (z := (0 + (1 * d + 0))) rfl (by omega) trivial) ?_ ?_
  · intro p_9 hp ys l' st' h' hys a1_9 a2 a3 gZ gL gS
    cases hp
  · intro p_9 hp ys v_9 h' hys a1_9 a2 a3 gZ gS
    rcases List.mem_cons.mp hp with rfl | hp
    · obtain rfl := hp_y0 hys
      cases v_9 with
      | none => cases gS
      | some wz =>
        obtain ⟨y0, t0, s0_9, q0, -⟩ := hp_gSi (z := ((-2) + 0)) gS rfl
        cases s0_9
        exact r0 h' y0 (by omega) a1_9 a2 a3
    cases hp
theorem lbR4_k : hq_chk [114, 25, 27, 39] 116 5 4 [(0, 0, 13), (1, 0, 399), (2, (-2147483648), (-1)), (3, (-9223372036854775808), 9223372036854775807)] [] [(0, .inr (.inr (.inl (some 16)))), (1, .inl (0, [(0, 1)])), (2, .inl (0, [(1, 1)])), (3, .inl (0, [(2, 1)]))] [.inr (.inl (0, [(3, 1)]))] [] [] 5 [] [([], 4, [(0, 0, 13), (1, 0, 399), (2, (-2147483648), (-1)), (3, (-9223372036854775808), 9223372036854775807)], [], [], [.inl ((-2), [])], [])] = true := by decide +kernel
theorem lbR4 {cst : am_K} {strs : List Nat} {Φ : am_Q → Prop} {D : Nat} {M : am_M} {h : am_H} {l : am_L} (c : hp_C cst strs D) (hM : m_P[116]? = some M) (hD : (5 : Int) ≤ (D : Int) + 1) (hy : ly_hy m_tt ly_TH h) (k y s d : Int) (x0 : Int64) (hx0 : x0.toInt = (d)) (b0 : 0 ≤ k) (t0 : k ≤ 13) (b1 : 0 ≤ y) (t1 : y ≤ 399) (b2 : (-2147483648) ≤ s) (t2 : s ≤ (-1)) (b3 : (-9223372036854775808) ≤ d) (t3 : d ≤ 9223372036854775807) (l0 : hp_a l 0 16) (l1 : hp_i l 1 (k)) (l2 : hp_i l 2 (y)) (l3 : hp_i l 3 (s)) (r0 : ∀ (h' : am_H) (y0 : Int32), y0.toInt = (-2) → ly_hy m_tt ly_TH h' → ly_fr cst [] h h' → h.length ≤ h'.length → Φ (some (.int y0), h', 0, 0)) : hp_F cst strs Φ D M 5 l [.long x0] h := by
  refine hq_arc c hM lbR4_k hD [k, y, s, d] rfl hy (hp_Bc (z := k) rfl b0 t0 (hp_Bc (z := y) rfl b1 t1 (hp_Bc (z := s) rfl b2 t2 (hp_Bc (z := d) rfl b3 t3 hp_Bn)))) hp_Fn hp_Kn (hp_La l0 (hp_Li (z := (0 + (1 * k + 0))) l1 rfl (by omega) (hp_Li (z := (0 + (1 * y + 0))) l2 rfl (by omega) (hp_Li (z := (0 + (1 * s + 0))) l3 rfl (by omega) hp_Ln)))) (hp_Sj (z := (0 + (1 * d + 0))) rfl (by omega) trivial) ?_ ?_
  · intro p_9 hp ys l' st' h' hys a1_9 a2 a3 gZ gL gS
    cases hp
  · intro p_9 hp ys v_9 h' hys a1_9 a2 a3 gZ gS
    rcases List.mem_cons.mp hp with rfl | hp
    · obtain rfl := hp_y0 hys
      cases v_9 with
      | none => cases gS
      | some wz =>
        obtain ⟨y0, t0, s0_9, q0, -⟩ := hp_gSi (z := ((-2) + 0)) gS rfl
        cases s0_9
        exact r0 h' y0 (by omega) a1_9 a2 a3
    cases hp
theorem lbR5_k : hq_chk [114, 25, 27, 39] 116 5 4 [(0, 0, 13), (1, 0, 399), (2, 6, 2147483647), (3, (-9223372036854775808), 9223372036854775807)] [] [(0, .inr (.inr (.inl (some 16)))), (1, .inl (0, [(0, 1)])), (2, .inl (0, [(1, 1)])), (3, .inl (0, [(2, 1)]))] [.inr (.inl (0, [(3, 1)]))] [] [] 5 [] [([], 4, [(0, 0, 13), (1, 0, 399), (2, 6, 2147483647), (3, (-9223372036854775808), 9223372036854775807)], [], [], [.inl ((-2), [])], [])] = true := by decide +kernel
theorem lbR5 {cst : am_K} {strs : List Nat} {Φ : am_Q → Prop} {D : Nat} {M : am_M} {h : am_H} {l : am_L} (c : hp_C cst strs D) (hM : m_P[116]? = some M) (hD : (5 : Int) ≤ (D : Int) + 1) (hy : ly_hy m_tt ly_TH h) (k y s d : Int) (x0 : Int64) (hx0 : x0.toInt = (d)) (b0 : 0 ≤ k) (t0 : k ≤ 13) (b1 : 0 ≤ y) (t1 : y ≤ 399) (b2 : 6 ≤ s) (t2 : s ≤ 2147483647) (b3 : (-9223372036854775808) ≤ d) (t3 : d ≤ 9223372036854775807) (l0 : hp_a l 0 16) (l1 : hp_i l 1 (k)) (l2 : hp_i l 2 (y)) (l3 : hp_i l 3 (s)) (r0 : ∀ (h' : am_H) (y0 : Int32), y0.toInt = (-2) → ly_hy m_tt ly_TH h' → ly_fr cst [] h h' → h.length ≤ h'.length → Φ (some (.int y0), h', 0, 0)) : hp_F cst strs Φ D M 5 l [.long x0] h := by
  refine hq_arc c hM lbR5_k hD [k, y, s, d] rfl hy (hp_Bc (z := k) rfl b0 t0 (hp_Bc (z := y) rfl b1 t1 (hp_Bc (z := s) rfl b2 t2 (hp_Bc (z := d) rfl b3 t3 hp_Bn)))) hp_Fn hp_Kn (hp_La l0 (hp_Li (z := (0 + (1 * k + 0))) l1 rfl (by omega) (hp_Li (z := (0 + (1 * y + 0))) l2 rfl (by omega) (hp_Li (z := (0 + (1 * s + 0))) l3 rfl (by omega) hp_Ln)))) (hp_Sj (z := (0 + (1 * d + 0))) rfl (by omega) trivial) ?_ ?_
  · intro p_9 hp ys l' st' h' hys a1_9 a2 a3 gZ gL gS
    cases hp
  · intro p_9 hp ys v_9 h' hys a1_9 a2 a3 gZ gS
    rcases List.mem_cons.mp hp with rfl | hp
    · obtain rfl := hp_y0 hys
      cases v_9 with
      | none => cases gS
      | some wz =>
        obtain ⟨y0, t0, s0_9, q0, -⟩ := hp_gSi (z := ((-2) + 0)) gS rfl
        cases s0_9
        exact r0 h' y0 (by omega) a1_9 a2 a3
    cases hp
theorem lbS_k : hq_chk [114, 25, 27, 39] 116 5 3 [(0, 0, 6), (1, 0, 399), (2, 0, 5)] [] [(0, .inr (.inr (.inl (some 16)))), (1, .inl (0, [(0, 1)])), (2, .inl (0, [(1, 1)])), (3, .inl (0, [(2, 1)]))] [.inr (.inl (0, []))] [] [] 5 [] [([], 3, [(0, 0, 6), (1, 0, 399), (2, 0, 5)], [], [], [.inl ((-4), [])], [])] = true := by decide +kernel
theorem lbS {cst : am_K} {strs : List Nat} {Φ : am_Q → Prop} {D : Nat} {M : am_M} {h : am_H} {l : am_L} (c : hp_C cst strs D) (hM : m_P[116]? = some M) (hD : (5 : Int) ≤ (D : Int) + 1) (hy : ly_hy m_tt ly_TH h) (k y s : Int) (x0 : Int64) (hx0 : x0.toInt = 0) (b0 : 0 ≤ k) (t0 : k ≤ 6) (b1 : 0 ≤ y) (t1 : y ≤ 399) (b2 : 0 ≤ s) (t2 : s ≤ 5) (l0 : hp_a l 0 16) (l1 : hp_i l 1 (k)) (l2 : hp_i l 2 (y)) (l3 : hp_i l 3 (s)) (r0 : ∀ (h' : am_H) (y0 : Int32), y0.toInt = (-4) → ly_hy m_tt ly_TH h' → ly_fr cst [] h h' → h.length ≤ h'.length → Φ (some (.int y0), h', 0, 0)) : hp_F cst strs Φ D M 5 l [.long x0] h := by
  refine hq_arc c hM lbS_k hD [k, y, s] rfl hy (hp_Bc (z := k) rfl b0 t0 (hp_Bc (z := y) rfl b1 t1 (hp_Bc (z := s) rfl b2 t2 hp_Bn))) hp_Fn hp_Kn (hp_La l0 (hp_Li (z := (0 + (1 * k + 0))) l1 rfl (by omega) (hp_Li (z := (0 + (1 * y + 0))) l2 rfl (by omega) (hp_Li (z := (0 + (1 * s + 0))) l3 rfl (by omega) hp_Ln)))) (hp_Sj (z := (0 + 0)) rfl (by omega) trivial) ?_ ?_
  · intro p_9 hp ys l' st' h' hys a1_9 a2 a3 gZ gL gS
    cases hp
  · intro p_9 hp ys v_9 h' hys a1_9 a2 a3 gZ gS
    rcases List.mem_cons.mp hp with rfl | hp
    · obtain rfl := hp_y0 hys
      cases v_9 with
      | none => cases gS
      | some wz =>
        obtain ⟨y0, t0, s0_9, q0, -⟩ := hp_gSi (z := ((-4) + 0)) gS rfl
        cases s0_9
        exact r0 h' y0 (by omega) a1_9 a2 a3
    cases hp
theorem lbG_k : hq_chk [114, 25, 27, 39] 116 5 4 [(0, 7, 13), (1, 0, 399), (2, 0, 5), (3, (-9223372036854775808), 9223372036854775807)] [] [(0, .inr (.inr (.inl (some 16)))), (1, .inl (0, [(0, 1)])), (2, .inl (0, [(1, 1)])), (3, .inl (0, [(2, 1)]))] [.inr (.inl (0, [(3, 1)]))] [] [] 5 [(36, ([], 4, [(0, 7, 13), (1, 0, 399), (2, 0, 5), (3, (-9223372036854775808), 9223372036854775807)], [], [(0, .inr (.inr (.inl (some 16))))], [.inl (0, [(2, 1)]), .inl (0, [(1, 1)]), .inr (.inl (0, [(3, 1)])), .inl (0, [(0, 1)]), .inr (.inr (.inl (some 30)))], []))] [] = true := by decide +kernel
theorem lbG {cst : am_K} {strs : List Nat} {Φ : am_Q → Prop} {D : Nat} {M : am_M} {h : am_H} {l : am_L} (c : hp_C cst strs D) (hM : m_P[116]? = some M) (hD : (5 : Int) ≤ (D : Int) + 1) (hy : ly_hy m_tt ly_TH h) (k y s d : Int) (x0 : Int64) (hx0 : x0.toInt = (d)) (b0 : 7 ≤ k) (t0 : k ≤ 13) (b1 : 0 ≤ y) (t1 : y ≤ 399) (b2 : 0 ≤ s) (t2 : s ≤ 5) (b3 : (-9223372036854775808) ≤ d) (t3 : d ≤ 9223372036854775807) (l0 : hp_a l 0 16) (l1 : hp_i l 1 (k)) (l2 : hp_i l 2 (y)) (l3 : hp_i l 3 (s)) (e0 : ∀ (l' : am_L) (h' : am_H) (y0 : Int32) (y1 : Int32) (y2 : Int64) (y3 : Int32), y0.toInt = (s) → y1.toInt = (y) → y2.toInt = (d) → y3.toInt = (k) → ly_hy m_tt ly_TH h' → ly_fr cst [] h h' → h.length ≤ h'.length → hp_a l' 0 16 → hp_F cst strs Φ D M 36 l' [.int y0, .int y1, .long y2, .int y3, .ref 30] h') : hp_F cst strs Φ D M 5 l [.long x0] h := by
  refine hq_arc c hM lbG_k hD [k, y, s, d] rfl hy (hp_Bc (z := k) rfl b0 t0 (hp_Bc (z := y) rfl b1 t1 (hp_Bc (z := s) rfl b2 t2 (hp_Bc (z := d) rfl b3 t3 hp_Bn)))) hp_Fn hp_Kn (hp_La l0 (hp_Li (z := (0 + (1 * k + 0))) l1 rfl (by omega) (hp_Li (z := (0 + (1 * y + 0))) l2 rfl (by omega) (hp_Li (z := (0 + (1 * s + 0))) l3 rfl (by omega) hp_Ln)))) (hp_Sj (z := (0 + (1 * d + 0))) rfl (by omega) trivial) ?_ ?_
  · intro p_9 hp ys l' st' h' hys a1_9 a2 a3 gZ gL gS
    rcases List.mem_cons.mp hp with rfl | hp
    · obtain rfl := hp_y0 hys
      obtain ⟨y0, t0, rfl, q0, g0⟩ := hp_gSi (z := (0 + (1 * s + 0))) gS rfl
      obtain ⟨y1, t1, rfl, q1_9, g1⟩ := hp_gSi (z := (0 + (1 * y + 0))) g0 rfl
      obtain ⟨y2, t2, rfl, q2_9, g2⟩ := hp_gSj (z := (0 + (1 * d + 0))) g1 rfl
      obtain ⟨y3, t3, rfl, q3_9, g3_9⟩ := hp_gSi (z := (0 + (1 * k + 0))) g2 rfl
      obtain ⟨t4_9, rfl, g4⟩ := hp_gSa g3_9 (by decide)
      cases hp_gSn g4
      exact e0 l' h' y0 y1 y2 y3 (by omega) (by omega) (by omega) (by omega) a1_9 a2 a3 (hp_gLa gL (List.mem_of_getElem? (i := 0) rfl) (by decide))
    cases hp
  · intro p_9 hp ys v_9 h' hys a1_9 a2 a3 gZ gS
    cases hp
theorem lbH_k : hq_chk [114, 25, 27, 39] 116 5 4 [(0, 0, 6), (1, 0, 399), (2, 0, 5), (3, (-9223372036854775808), 9223372036854775807)] [] [(0, .inr (.inr (.inl (some 16)))), (1, .inl (0, [(0, 1)])), (2, .inl (0, [(1, 1)])), (3, .inl (0, [(2, 1)]))] [.inr (.inl (0, [(3, 1)]))] [(61000, (0, [(3, 1)]), (1, []))] [] 5 [(36, ([], 4, [(0, 0, 6), (1, 0, 399), (2, 0, 5), (3, (-9223372036854775808), 9223372036854775807)], [], [(0, .inr (.inr (.inl (some 16))))], [.inl (0, [(2, 1)]), .inl (0, [(1, 1)]), .inr (.inl (0, [(3, 1)])), .inl (0, [(0, 1)]), .inr (.inr (.inl (some 30)))], []))] [] = true := by decide +kernel
theorem lbH {cst : am_K} {strs : List Nat} {Φ : am_Q → Prop} {D : Nat} {M : am_M} {h : am_H} {l : am_L} (c : hp_C cst strs D) (hM : m_P[116]? = some M) (hD : (5 : Int) ≤ (D : Int) + 1) (hy : ly_hy m_tt ly_TH h) (k y s d : Int) (x0 : Int64) (hx0 : x0.toInt = (d)) (b0 : 0 ≤ k) (t0 : k ≤ 6) (b1 : 0 ≤ y) (t1 : y ≤ 399) (b2 : 0 ≤ s) (t2 : s ≤ 5) (b3 : (-9223372036854775808) ≤ d) (t3 : d ≤ 9223372036854775807) (k0 : ly_hv cst h 61000 (d) = some 1) (l0 : hp_a l 0 16) (l1 : hp_i l 1 (k)) (l2 : hp_i l 2 (y)) (l3 : hp_i l 3 (s)) (e0 : ∀ (l' : am_L) (h' : am_H) (y0 : Int32) (y1 : Int32) (y2 : Int64) (y3 : Int32), y0.toInt = (s) → y1.toInt = (y) → y2.toInt = (d) → y3.toInt = (k) → ly_hy m_tt ly_TH h' → ly_fr cst [] h h' → h.length ≤ h'.length → hp_a l' 0 16 → hp_F cst strs Φ D M 36 l' [.int y0, .int y1, .long y2, .int y3, .ref 30] h') : hp_F cst strs Φ D M 5 l [.long x0] h := by
  refine hq_arc c hM lbH_k hD [k, y, s, d] rfl hy (hp_Bc (z := k) rfl b0 t0 (hp_Bc (z := y) rfl b1 t1 (hp_Bc (z := s) rfl b2 t2 (hp_Bc (z := d) rfl b3 t3 hp_Bn)))) hp_Fn (hp_Kc (zi := (0 + (1 * d + 0))) (zv := (1 + 0)) k0 rfl rfl (by omega) (by omega) hp_Kn) (hp_La l0 (hp_Li (z := (0 + (1 * k + 0))) l1 rfl (by omega) (hp_Li (z := (0 + (1 * y + 0))) l2 rfl (by omega) (hp_Li (z := (0 + (1 * s + 0))) l3 rfl (by omega) hp_Ln)))) (hp_Sj (z := (0 + (1 * d + 0))) rfl (by omega) trivial) ?_ ?_
  · intro p_9 hp ys l' st' h' hys a1_9 a2 a3 gZ gL gS
    rcases List.mem_cons.mp hp with rfl | hp
    · obtain rfl := hp_y0 hys
      obtain ⟨y0, t0, rfl, q0, g0⟩ := hp_gSi (z := (0 + (1 * s + 0))) gS rfl
      obtain ⟨y1, t1, rfl, q1_9, g1⟩ := hp_gSi (z := (0 + (1 * y + 0))) g0 rfl
      obtain ⟨y2, t2, rfl, q2_9, g2⟩ := hp_gSj (z := (0 + (1 * d + 0))) g1 rfl
      obtain ⟨y3, t3, rfl, q3_9, g3_9⟩ := hp_gSi (z := (0 + (1 * k + 0))) g2 rfl
      obtain ⟨t4_9, rfl, g4⟩ := hp_gSa g3_9 (by decide)
      cases hp_gSn g4
      exact e0 l' h' y0 y1 y2 y3 (by omega) (by omega) (by omega) (by omega) a1_9 a2 a3 (hp_gLa gL (List.mem_of_getElem? (i := 0) rfl) (by decide))
    cases hp
  · intro p_9 hp ys v_9 h' hys a1_9 a2 a3 gZ gS
    cases hp
theorem lbE_k : hp_chk 116 39 1 [(0, (-2147483648), 2147483647)] [] [(0, .inr (.inr (.inl (some 16))))] [.inl (0, [(0, 1)])] [] [] 2 [] [([], 1, [(0, (-2147483648), 2147483647)], [], [], [.inl (0, [(0, 1)])], [])] = true := by decide +kernel
theorem lbE {cst : am_K} {strs : List Nat} {Φ : am_Q → Prop} {D : Nat} {M : am_M} {h : am_H} {l : am_L} (c : hp_C cst strs D) (hM : m_P[116]? = some M) (hD : (2 : Int) ≤ (D : Int) + 1) (hy : ly_hy m_tt ly_TH h) (v : Int) (x0 : Int32) (hx0 : x0.toInt = (v)) (b0 : (-2147483648) ≤ v) (t0 : v ≤ 2147483647) (l0 : hp_a l 0 16) (r0 : ∀ (h' : am_H) (y0 : Int32), y0.toInt = (v) → ly_hy m_tt ly_TH h' → ly_fr cst [] h h' → h.length ≤ h'.length → Φ (some (.int y0), h', 0, 0)) : hp_F cst strs Φ D M 39 l [.int x0] h := by
  refine hp_arc c hM lbE_k hD [v] rfl hy (hp_Bc (z := v) rfl b0 t0 hp_Bn) hp_Fn hp_Kn (hp_La l0 hp_Ln) (hp_Si (z := (0 + (1 * v + 0))) rfl (by omega) trivial) ?_ ?_
  · intro p_9 hp ys l' st' h' hys a1_9 a2 a3 gZ gL gS
    cases hp
  · intro p_9 hp ys v h' hys a1_9 a2 a3 gZ gS
    rcases List.mem_cons.mp hp with rfl | hp
    · obtain rfl := hp_y0 hys
      cases v with
      | none => cases gS
      | some wz =>
        obtain ⟨y0, t0, s0_9, q0, -⟩ := hp_gSi (z := (0 + (1 * v + 0))) gS rfl
        cases s0_9
        exact r0 h' y0 (by omega) a1_9 a2 a3
    cases hp
theorem rv0_k : hp_chk 324 0 3 [(0, (-2147483648), 2147483647), (1, (-2147483648), 2147483647), (2, (-2147483648), 2147483647)] [] [(0, .inr (.inr (.inl (some 94)))), (1, .inl (0, [(0, 1)])), (2, .inl (0, [(1, 1)])), (3, .inl (0, [(2, 1)]))] [] [] [] 2 [(4, ([], 3, [(0, (-2147483648), 2147483647), (1, (-2147483648), 2147483647), (2, (-2147483648), 2147483647)], [], [(0, .inr (.inr (.inl (some 94)))), (1, .inl (0, [(0, 1)])), (2, .inl (0, [(1, 1)])), (3, .inl (0, [(2, 1)]))], [.inl (0, [(2, 1)]), .inl (0, [(1, 1)]), .inl (0, [(0, 1)]), .inr (.inr (.inl (some 94)))], []))] [] = true := by decide +kernel
theorem rv0 {cst : am_K} {strs : List Nat} {Φ : am_Q → Prop} {D : Nat} {M : am_M} {h : am_H} {l : am_L} (c : hp_C cst strs D) (hM : m_P[324]? = some M) (hD : (2 : Int) ≤ (D : Int) + 1) (hy : ly_hy m_tt ly_TH h) (k y s : Int) (b0 : (-2147483648) ≤ k) (t0 : k ≤ 2147483647) (b1 : (-2147483648) ≤ y) (t1 : y ≤ 2147483647) (b2 : (-2147483648) ≤ s) (t2 : s ≤ 2147483647) (l0 : hp_a l 0 94) (l1 : hp_i l 1 (k)) (l2 : hp_i l 2 (y)) (l3 : hp_i l 3 (s)) (e0 : ∀ (l' : am_L) (h' : am_H) (y0 : Int32) (y1 : Int32) (y2 : Int32), y0.toInt = (s) → y1.toInt = (y) → y2.toInt = (k) → ly_hy m_tt ly_TH h' → ly_fr cst [] h h' → h.length ≤ h'.length → hp_a l' 0 94 → hp_i l' 1 (k) → hp_i l' 2 (y) → hp_i l' 3 (s) → hp_F cst strs Φ D M 4 l' [.int y0, .int y1, .int y2, .ref 94] h') : hp_F cst strs Φ D M 0 l [] h := by
  refine hp_arc c hM rv0_k hD [k, y, s] rfl hy (hp_Bc (z := k) rfl b0 t0 (hp_Bc (z := y) rfl b1 t1 (hp_Bc (z := s) rfl b2 t2 hp_Bn))) hp_Fn hp_Kn (hp_La l0 (hp_Li (z := (0 + (1 * k + 0))) l1 rfl (by omega) (hp_Li (z := (0 + (1 * y + 0))) l2 rfl (by omega) (hp_Li (z := (0 + (1 * s + 0))) l3 rfl (by omega) hp_Ln)))) trivial ?_ ?_
  · intro p_9 hp ys l' st' h' hys a1_9 a2 a3 gZ gL gS
    rcases List.mem_cons.mp hp with rfl | hp
    · obtain rfl := hp_y0 hys
      obtain ⟨y0, t0, rfl, q0, g0⟩ := hp_gSi (z := (0 + (1 * s + 0))) gS rfl
      obtain ⟨y1, t1, rfl, q1_9, g1⟩ := hp_gSi (z := (0 + (1 * y + 0))) g0 rfl
      obtain ⟨y2, t2, rfl, q2_9, g2⟩ := hp_gSi (z := (0 + (1 * k + 0))) g1 rfl
      obtain ⟨t3_9, rfl, g3_9⟩ := hp_gSa g2 (by decide)
      cases hp_gSn g3_9
      exact e0 l' h' y0 y1 y2 (by omega) (by omega) (by omega) a1_9 a2 a3 (hp_gLa gL (List.mem_of_getElem? (i := 0) rfl) (by decide)) (hp_gLi (z := (0 + (1 * k + 0))) gL (List.mem_of_getElem? (i := 1) rfl) rfl (by omega)) (hp_gLi (z := (0 + (1 * y + 0))) gL (List.mem_of_getElem? (i := 2) rfl) rfl (by omega)) (hp_gLi (z := (0 + (1 * s + 0))) gL (List.mem_of_getElem? (i := 3) rfl) rfl (by omega))
    cases hp
  · intro p_9 hp ys v_9 h' hys a1_9 a2 a3 gZ gS
    cases hp
theorem rv1_k : hp_chk 324 7 4 [(0, (-2147483648), 2147483647), (1, (-2147483648), 2147483647), (2, (-2147483648), 2147483647), (3, (-2147483648), 2147483647)] [] [(0, .inr (.inr (.inl (some 94)))), (1, .inl (0, [(0, 1)])), (2, .inl (0, [(1, 1)])), (3, .inl (0, [(2, 1)]))] [.inl (0, [(3, 1)])] [(61000, (0, [(3, 1)]), (1, []))] [] 2 [] [([], 4, [(0, (-2147483648), 2147483647), (1, (-2147483648), 2147483647), (2, (-2147483648), 2147483647), (3, (-2147483648), 2147483647)], [], [], [.inl (0, [(3, 1)])], [])] = true := by decide +kernel
theorem rv1 {cst : am_K} {strs : List Nat} {Φ : am_Q → Prop} {D : Nat} {M : am_M} {h : am_H} {l : am_L} (c : hp_C cst strs D) (hM : m_P[324]? = some M) (hD : (2 : Int) ≤ (D : Int) + 1) (hy : ly_hy m_tt ly_TH h) (k y s v : Int) (x0 : Int32) (hx0 : x0.toInt = (v)) (b0 : (-2147483648) ≤ k) (t0 : k ≤ 2147483647) (b1 : (-2147483648) ≤ y) (t1 : y ≤ 2147483647) (b2 : (-2147483648) ≤ s) (t2 : s ≤ 2147483647) (b3 : (-2147483648) ≤ v) (t3 : v ≤ 2147483647) (k0 : ly_hv cst h 61000 (v) = some 1) (l0 : hp_a l 0 94) (l1 : hp_i l 1 (k)) (l2 : hp_i l 2 (y)) (l3 : hp_i l 3 (s)) (r0 : ∀ (h' : am_H) (y0 : Int32), y0.toInt = (v) → ly_hy m_tt ly_TH h' → ly_fr cst [] h h' → h.length ≤ h'.length → Φ (some (.int y0), h', 0, 0)) : hp_F cst strs Φ D M 7 l [.int x0] h := by
  refine hp_arc c hM rv1_k hD [k, y, s, v] rfl hy (hp_Bc (z := k) rfl b0 t0 (hp_Bc (z := y) rfl b1 t1 (hp_Bc (z := s) rfl b2 t2 (hp_Bc (z := v) rfl b3 t3 hp_Bn)))) hp_Fn (hp_Kc (zi := (0 + (1 * v + 0))) (zv := (1 + 0)) k0 rfl rfl (by omega) (by omega) hp_Kn) (hp_La l0 (hp_Li (z := (0 + (1 * k + 0))) l1 rfl (by omega) (hp_Li (z := (0 + (1 * y + 0))) l2 rfl (by omega) (hp_Li (z := (0 + (1 * s + 0))) l3 rfl (by omega) hp_Ln)))) (hp_Si (z := (0 + (1 * v + 0))) rfl (by omega) trivial) ?_ ?_
  · intro p_9 hp ys l' st' h' hys a1_9 a2 a3 gZ gL gS
    cases hp
  · intro p_9 hp ys v h' hys a1_9 a2 a3 gZ gS
    rcases List.mem_cons.mp hp with rfl | hp
    · obtain rfl := hp_y0 hys
      cases v with
      | none => cases gS
      | some wz =>
        obtain ⟨y0, t0, s0_9, q0, -⟩ := hp_gSi (z := (0 + (1 * v + 0))) gS rfl
        cases s0_9
        exact r0 h' y0 (by omega) a1_9 a2 a3
    cases hp
theorem rv2_k : hp_chk 324 7 4 [(0, (-2147483648), 2147483647), (1, (-2147483648), 2147483647), (2, (-2147483648), 2147483647), (3, (-9223372036854775808), 9223372036854775807)] [] [(0, .inr (.inr (.inl (some 94)))), (1, .inl (0, [(0, 1)])), (2, .inl (0, [(1, 1)])), (3, .inl (0, [(2, 1)]))] [.inl (0, [])] [(20017, (0, []), (0, [(3, 1)]))] [] 2 [(27, ([], 4, [(0, (-2147483648), 2147483647), (1, (-2147483648), 2147483647), (2, (-2147483648), 2147483647), (3, (-9223372036854775808), 9223372036854775807)], [], [(0, .inr (.inr (.inl (some 94)))), (1, .inl (0, [(0, 1)])), (2, .inl (0, [(1, 1)])), (3, .inl (0, [(2, 1)]))], [.inl (0, [(2, 1)]), .inl (0, [(1, 1)]), .inr (.inl (0, [(3, 1)])), .inl (0, [(0, 1)]), .inr (.inr (.inl (some 94)))], []))] [] = true := by decide +kernel
theorem rv2 {cst : am_K} {strs : List Nat} {Φ : am_Q → Prop} {D : Nat} {M : am_M} {h : am_H} {l : am_L} (c : hp_C cst strs D) (hM : m_P[324]? = some M) (hD : (2 : Int) ≤ (D : Int) + 1) (hy : ly_hy m_tt ly_TH h) (k y s d : Int) (x0 : Int32) (hx0 : x0.toInt = 0) (b0 : (-2147483648) ≤ k) (t0 : k ≤ 2147483647) (b1 : (-2147483648) ≤ y) (t1 : y ≤ 2147483647) (b2 : (-2147483648) ≤ s) (t2 : s ≤ 2147483647) (b3 : (-9223372036854775808) ≤ d) (t3 : d ≤ 9223372036854775807) (k0 : ly_hv cst h 20017 0 = some (d)) (l0 : hp_a l 0 94) (l1 : hp_i l 1 (k)) (l2 : hp_i l 2 (y)) (l3 : hp_i l 3 (s)) (e0 : ∀ (l' : am_L) (h' : am_H) (y0 : Int32) (y1 : Int32) (y2 : Int64) (y3 : Int32), y0.toInt = (s) → y1.toInt = (y) → y2.toInt = (d) → y3.toInt = (k) → ly_hy m_tt ly_TH h' → ly_fr cst [] h h' → h.length ≤ h'.length → hp_a l' 0 94 → hp_i l' 1 (k) → hp_i l' 2 (y) → hp_i l' 3 (s) → hp_F cst strs Φ D M 27 l' [.int y0, .int y1, .long y2, .int y3, .ref 94] h') : hp_F cst strs Φ D M 7 l [.int x0] h := by
  refine hp_arc c hM rv2_k hD [k, y, s, d] rfl hy (hp_Bc (z := k) rfl b0 t0 (hp_Bc (z := y) rfl b1 t1 (hp_Bc (z := s) rfl b2 t2 (hp_Bc (z := d) rfl b3 t3 hp_Bn)))) hp_Fn (hp_Kc (zi := (0 + 0)) (zv := (0 + (1 * d + 0))) k0 rfl rfl (by omega) (by omega) hp_Kn) (hp_La l0 (hp_Li (z := (0 + (1 * k + 0))) l1 rfl (by omega) (hp_Li (z := (0 + (1 * y + 0))) l2 rfl (by omega) (hp_Li (z := (0 + (1 * s + 0))) l3 rfl (by omega) hp_Ln)))) (hp_Si (z := (0 + 0)) rfl (by omega) trivial) ?_ ?_
  · intro p_9 hp ys l' st' h' hys a1_9 a2 a3 gZ gL gS
    rcases List.mem_cons.mp hp with rfl | hp
    · obtain rfl := hp_y0 hys
      obtain ⟨y0, t0, rfl, q0, g0⟩ := hp_gSi (z := (0 + (1 * s + 0))) gS rfl
      obtain ⟨y1, t1, rfl, q1_9, g1⟩ := hp_gSi (z := (0 + (1 * y + 0))) g0 rfl
      obtain ⟨y2, t2, rfl, q2_9, g2⟩ := hp_gSj (z := (0 + (1 * d + 0))) g1 rfl
      obtain ⟨y3, t3, rfl, q3_9, g3_9⟩ := hp_gSi (z := (0 + (1 * k + 0))) g2 rfl
      obtain ⟨t4_9, rfl, g4⟩ := hp_gSa g3_9 (by decide)
      cases hp_gSn g4
      exact e0 l' h' y0 y1 y2 y3 (by omega) (by omega) (by omega) (by omega) a1_9 a2 a3 (hp_gLa gL (List.mem_of_getElem? (i := 0) rfl) (by decide)) (hp_gLi (z := (0 + (1 * k + 0))) gL (List.mem_of_getElem? (i := 1) rfl) rfl (by omega)) (hp_gLi (z := (0 + (1 * y + 0))) gL (List.mem_of_getElem? (i := 2) rfl) rfl (by omega)) (hp_gLi (z := (0 + (1 * s + 0))) gL (List.mem_of_getElem? (i := 3) rfl) rfl (by omega))
    cases hp
  · intro p_9 hp ys v_9 h' hys a1_9 a2 a3 gZ gS
    cases hp
theorem rv3_k : hp_chk 324 30 1 [(0, (-2147483648), 2147483647)] [] [(0, .inr (.inr (.inl (some 94))))] [.inl (0, [(0, 1)])] [] [] 2 [] [([], 1, [(0, (-2147483648), 2147483647)], [], [], [.inl (0, [(0, 1)])], [])] = true := by decide +kernel
theorem rv3 {cst : am_K} {strs : List Nat} {Φ : am_Q → Prop} {D : Nat} {M : am_M} {h : am_H} {l : am_L} (c : hp_C cst strs D) (hM : m_P[324]? = some M) (hD : (2 : Int) ≤ (D : Int) + 1) (hy : ly_hy m_tt ly_TH h) (v : Int) (x0 : Int32) (hx0 : x0.toInt = (v)) (b0 : (-2147483648) ≤ v) (t0 : v ≤ 2147483647) (l0 : hp_a l 0 94) (r0 : ∀ (h' : am_H) (y0 : Int32), y0.toInt = (v) → ly_hy m_tt ly_TH h' → ly_fr cst [] h h' → h.length ≤ h'.length → Φ (some (.int y0), h', 0, 0)) : hp_F cst strs Φ D M 30 l [.int x0] h := by
  refine hp_arc c hM rv3_k hD [v] rfl hy (hp_Bc (z := v) rfl b0 t0 hp_Bn) hp_Fn hp_Kn (hp_La l0 hp_Ln) (hp_Si (z := (0 + (1 * v + 0))) rfl (by omega) trivial) ?_ ?_
  · intro p_9 hp ys l' st' h' hys a1_9 a2 a3 gZ gL gS
    cases hp
  · intro p_9 hp ys v h' hys a1_9 a2 a3 gZ gS
    rcases List.mem_cons.mp hp with rfl | hp
    · obtain rfl := hp_y0 hys
      cases v with
      | none => cases gS
      | some wz =>
        obtain ⟨y0, t0, s0_9, q0, -⟩ := hp_gSi (z := (0 + (1 * v + 0))) gS rfl
        cases s0_9
        exact r0 h' y0 (by omega) a1_9 a2 a3
    cases hp
def pTel (X : List rX) (k d y s v : Int) : Prop := (∃ (a j : Nat) (ha : a < X.length) (hj : j < (X[a]).2.2.1.length), inF X k d y s a j ∧ v = ((X[a]).2.2.1[j]).2.2.1) ∨ (noF X k d y s ∧ v = nwo k)
theorem pTel_u {X : List rX} {k d y s v w : Int} (A : pTel X k d y s v) (B : pTel X k d y s w) : v = w := by
  rcases A with ⟨a_9, j_9, ha_9, hj, h1, e1_9⟩ | ⟨n1_9, e1_9⟩
  · rcases B with ⟨a', j', ha', hj', h2, e2_9⟩ | ⟨n2_9, e2_9⟩
    · obtain ⟨z1, z2⟩ := inF_u h1 h2
      subst z1
      subst z2
      rw [e1_9, e2_9]
    · exact absurd h1.1 (n2_9 a_9 j_9)
  · rcases B with ⟨a', j', ha', hj', h2, e2_9⟩ | ⟨n2_9, e2_9⟩
    · exact absurd h2.1 (n1_9 a' j')
    · rw [e1_9, e2_9]
/-- tells of the class -/
theorem lb_run {cst : am_K} {strs : List Nat} {D : Nat} {h : am_H} (cc : ∀ d, hp_C cst strs d) (hy : ly_hy m_tt ly_TH h) {N : Nat} (n1 : (N : Int) ≤ 1200) (kn : ly_hv cst h 257 0 = some (N : Int)) {X : List rX} {i0 : List Int} (I : LC cst h X i0) (x30 : X.length ≤ 30) (g12 : (fX X).length ≤ 1240) {xk xy xs : Int32} :
    ∃ r, am_Run cst m_cl m_tt m_P strs sx_bi (D + 13) 116 [.ref 16, .int xk, .int xy, .int xs] h r ∧ (fun r : am_Q => ∃ w : Int32, r.1 = some (.int w) ∧ r.2.2.1 = 0 ∧ r.2.2.2 = 0 ∧ ly_hy m_tt ly_TH r.2.1 ∧ ly_fr cst gt_mods h r.2.1 ∧ (ly_hv cst r.2.1 257 0 = some 0 ∧ ∃ (t : Nat) (en : Nat → Int) (kd pl vl : Int → Int), tkT (gt_g cst h 512) (N : Int) t kd pl vl en ∧ qa xk.toInt xy.toInt xs.toInt (sw kd vl t) w.toInt (pTel X xk.toInt (dz xk.toInt (sw kd vl t)) xy.toInt xs.toInt))) r := by
  obtain ⟨M_9, hM_9, hl⟩ := hp_M (mi := 116) (k := 4) (by decide +kernel)
  have c : hp_C cst strs (D + 12) := cc _
  have bk : -2147483648 ≤ xk.toInt := xk.le_toInt
  have bk' : xk.toInt ≤ 2147483647 := xk.toInt_le
  have bz8 : -2147483648 ≤ xy.toInt := xy.le_toInt
  have bz9 : xy.toInt ≤ 2147483647 := xy.toInt_le
  have bs : -2147483648 ≤ xs.toInt := xs.le_toInt
  have bs' : xs.toInt ≤ 2147483647 := xs.toInt_le
  have go_9 : hp_F cst strs (fun r : am_Q => ∃ w : Int32, r.1 = some (.int w) ∧ r.2.2.1 = 0 ∧ r.2.2.2 = 0 ∧ ly_hy m_tt ly_TH r.2.1 ∧ ly_fr cst gt_mods h r.2.1 ∧ (ly_hv cst r.2.1 257 0 = some 0 ∧ ∃ (t : Nat) (en : Nat → Int) (kd pl vl : Int → Int), tkT (gt_g cst h 512) (N : Int) t kd pl vl en ∧ qa xk.toInt xy.toInt xs.toInt (sw kd vl t) w.toInt (pTel X xk.toInt (dz xk.toInt (sw kd vl t)) xy.toInt xs.toInt))) (D + 12) M_9 0 (lv_args 0 [.ref 16, .int xk, .int xy, .int xs]) [] h := by
    refine lb0 c hM_9 (by omega) hy xk.toInt xy.toInt xs.toInt bk bk' bz8 bz9 bs bs' rfl ⟨xk, rfl, rfl⟩ ⟨xy, rfl, rfl⟩ ⟨xs, rfl, rfl⟩ (fun l1 h1 a0_9 ea0 u1_9 u2_9 u3 m0_9 m1_9 m2_9 m3_9 => ?_)
    have ek0 : a0_9 = xk := Int32.toInt_inj.mp ea0
    rw [ek0]
    obtain ⟨r, hrun, w, r1_9, r2, r3, rhy, rfr, rk9, t, en, kd, pl, vl, TT, ew⟩ := td_run (D := D + 9) cc (by omega) u1_9 n1 (u2_9 _ _ _ rfl kn) (xk := xk)
    refine hp_call (mi := 116) (pc := 2) (tg := 112) (na := 2) (c := 0) (ci := 0) (st0 := [.int xk, .ref 16]) (st := []) (av := [.int xk]) hM_9 (by decide +kernel) u1_9 rfl rfl rfl (by decide) hrun r2 r3 ?_
    rw [r1_9]
    have et : gt_g cst h1 512 = gt_g cst h 512 := by
      unfold gt_g
      rw [hp_same (mods := []) (show ly_ths ly_TH 2 = some (.inl (.int, 1200, 0, 255)) from rfl) rfl hy u1_9 u2_9]
    rw [et] at TT
    have F1_9 : ly_fr cst gt_mods h r.2.1 := ly_fr_tr (hp_sub2 rfl u2_9) rfr
    have bw : -9223372036854775808 ≤ dz xk.toInt (sw kd vl t) := by rw [← ew]; exact w.le_toInt
    have bw' : dz xk.toInt (sw kd vl t) ≤ 9223372036854775807 := by rw [← ew]; exact w.toInt_le
    have bad_9 : ¬ qok xk.toInt xy.toInt xs.toInt → ∀ (h3 : am_H) (v_9 : Int32), v_9.toInt = -2 → ly_hy m_tt ly_TH h3 → ly_fr cst [] r.2.1 h3 → r.2.1.length ≤ h3.length → (fun r : am_Q => ∃ w : Int32, r.1 = some (.int w) ∧ r.2.2.1 = 0 ∧ r.2.2.2 = 0 ∧ ly_hy m_tt ly_TH r.2.1 ∧ ly_fr cst gt_mods h r.2.1 ∧ (ly_hv cst r.2.1 257 0 = some 0 ∧ ∃ (t : Nat) (en : Nat → Int) (kd pl vl : Int → Int), tkT (gt_g cst h 512) (N : Int) t kd pl vl en ∧ qa xk.toInt xy.toInt xs.toInt (sw kd vl t) w.toInt (pTel X xk.toInt (dz xk.toInt (sw kd vl t)) xy.toInt xs.toInt))) (some (.int v_9), h3, 0, 0) := fun z_9 h3 v_9 hv v1_9 v2 v3 => ⟨v_9, rfl, rfl, rfl, v1_9, ly_fr_tr F1_9 (hp_sub2 rfl v2), v2 _ _ _ rfl rk9, t, en, kd, pl, vl, TT, fun _ => hv, fun o => absurd o z_9⟩
    by_cases q0 : xk.toInt < 0
    · exact lbR0 c hM_9 (by omega) rhy xk.toInt xy.toInt xs.toInt (dz xk.toInt (sw kd vl t)) w ew bk (by omega) bz8 bz9 bs bs' bw bw' m0_9 m1_9 m2_9 m3_9 (bad_9 (fun z_9 => by unfold qok at z_9; omega))
    by_cases q1_9 : 13 < xk.toInt
    · exact lbR1 c hM_9 (by omega) rhy xk.toInt xy.toInt xs.toInt (dz xk.toInt (sw kd vl t)) w ew (by omega) bk' bz8 bz9 bs bs' bw bw' m0_9 m1_9 m2_9 m3_9 (bad_9 (fun z_9 => by unfold qok at z_9; omega))
    by_cases q2_9 : xy.toInt < 0
    · exact lbR2 c hM_9 (by omega) rhy xk.toInt xy.toInt xs.toInt (dz xk.toInt (sw kd vl t)) w ew (by omega) (by omega) bz8 (by omega) bs bs' bw bw' m0_9 m1_9 m2_9 m3_9 (bad_9 (fun z_9 => by unfold qok at z_9; omega))
    by_cases q3_9 : 399 < xy.toInt
    · exact lbR3 c hM_9 (by omega) rhy xk.toInt xy.toInt xs.toInt (dz xk.toInt (sw kd vl t)) w ew (by omega) (by omega) (by omega) bz9 bs bs' bw bw' m0_9 m1_9 m2_9 m3_9 (bad_9 (fun z_9 => by unfold qok at z_9; omega))
    by_cases q4_9 : xs.toInt < 0
    · exact lbR4 c hM_9 (by omega) rhy xk.toInt xy.toInt xs.toInt (dz xk.toInt (sw kd vl t)) w ew (by omega) (by omega) (by omega) (by omega) bs (by omega) bw bw' m0_9 m1_9 m2_9 m3_9 (bad_9 (fun z_9 => by unfold qok at z_9; omega))
    by_cases q5_9 : 5 < xs.toInt
    · exact lbR5 c hM_9 (by omega) rhy xk.toInt xy.toInt xs.toInt (dz xk.toInt (sw kd vl t)) w ew (by omega) (by omega) (by omega) (by omega) (by omega) bs' bw bw' m0_9 m1_9 m2_9 m3_9 (bad_9 (fun z_9 => by unfold qok at z_9; omega))
    have ok_9 : qok xk.toInt xy.toInt xs.toInt := ⟨by omega, by omega, by omega, by omega, by omega, by omega⟩
    have go2 : ¬ (xk.toInt < 7 ∧ sw kd vl t = 0) → ∀ (l3 : am_L) (h3 : am_H) (z0 z1 : Int32) (z2 : Int64) (z3 : Int32), z0.toInt = xs.toInt → z1.toInt = xy.toInt → z2.toInt = dz xk.toInt (sw kd vl t) → z3.toInt = xk.toInt → ly_hy m_tt ly_TH h3 → ly_fr cst [] r.2.1 h3 → r.2.1.length ≤ h3.length → hp_a l3 0 16 → hp_F cst strs (fun r : am_Q => ∃ w : Int32, r.1 = some (.int w) ∧ r.2.2.1 = 0 ∧ r.2.2.2 = 0 ∧ ly_hy m_tt ly_TH r.2.1 ∧ ly_fr cst gt_mods h r.2.1 ∧ (ly_hv cst r.2.1 257 0 = some 0 ∧ ∃ (t : Nat) (en : Nat → Int) (kd pl vl : Int → Int), tkT (gt_g cst h 512) (N : Int) t kd pl vl en ∧ qa xk.toInt xy.toInt xs.toInt (sw kd vl t) w.toInt (pTel X xk.toInt (dz xk.toInt (sw kd vl t)) xy.toInt xs.toInt))) (D + 12) M_9 36 l3 [.int z0, .int z1, .long z2, .int z3, .ref 30] h3 := by
      intro nz l3 h3 z0 z1 z2 z3 e0_9 e1_9 e2_9 e3_9 v1_9 v2 v3 o0_9
      have F3 : ly_fr cst gt_mods h h3 := ly_fr_tr F1_9 (hp_sub2 rfl v2)
      obtain ⟨r', hrun', w', s1_9, s2_9, s3_9, shy, sfr, sres⟩ := nf_run (D := D + 8) cc (by omega) v1_9 (LC_mv I F3 rfl) x30 g12 (k := xk.toInt) (d := dz xk.toInt (sw kd vl t)) ok_9.1 (by have := ok_9.2.1; omega) (xk := z3) (xd := z2) (xy := z1) (xs := z0) e3_9 e2_9
      refine hp_call (mi := 116) (pc := 36) (tg := 52) (na := 5) (c := 14) (ci := 3) (st0 := [.int z0, .int z1, .long z2, .int z3, .ref 30]) (st := []) (av := [.int z3, .long z2, .int z1, .int z0]) hM_9 (by decide +kernel) v1_9 rfl rfl rfl (by decide) hrun' s2_9 s3_9 ?_
      rw [s1_9]
      rw [e0_9, e1_9] at sres
      exact lbE c hM_9 (by omega) shy w'.toInt w' rfl w'.le_toInt w'.toInt_le o0_9 (fun h5 v_9 hv x1_9 x2_9 x3 => ⟨v_9, rfl, rfl, rfl, x1_9, ly_fr_tr F3 (ly_fr_tr (hp_sub2 rfl sfr) (hp_sub2 rfl x2_9)), x2_9 _ _ _ rfl (sfr _ _ _ rfl (v2 _ _ _ rfl rk9)), t, en, kd, pl, vl, TT, fun o => absurd ok_9 o, fun _ => ⟨fun z_9 => absurd z_9 nz, fun _ => by rw [hv]; exact sres⟩⟩)
    by_cases q6_9 : 7 ≤ xk.toInt
    · exact lbG c hM_9 (by omega) rhy xk.toInt xy.toInt xs.toInt (dz xk.toInt (sw kd vl t)) w ew q6_9 (by omega) (by omega) (by omega) (by omega) (by omega) bw bw' m0_9 m1_9 m2_9 m3_9 (go2 (fun z_9 => by omega))
    have ez : dz xk.toInt (sw kd vl t) = sw kd vl t := if_pos (by omega)
    by_cases q7_9 : sw kd vl t = 0
    · rw [ez, q7_9] at ew
      exact lbS c hM_9 (by omega) rhy xk.toInt xy.toInt xs.toInt w ew (by omega) (by omega) (by omega) (by omega) (by omega) (by omega) m0_9 m1_9 m2_9 m3_9 (fun h3 v_9 hv v1_9 v2 v3 => ⟨v_9, rfl, rfl, rfl, v1_9, ly_fr_tr F1_9 (hp_sub2 rfl v2), v2 _ _ _ rfl rk9, t, en, kd, pl, vl, TT, fun o => absurd ok_9 o, fun _ => ⟨fun _ => hv, fun z_9 => absurd ⟨by omega, q7_9⟩ z_9⟩⟩)
    · exact lbH c hM_9 (by omega) rhy xk.toInt xy.toInt xs.toInt (dz xk.toInt (sw kd vl t)) w ew (by omega) (by omega) (by omega) (by omega) (by omega) (by omega) bw bw' (hp_ne (by rw [ez]; exact q7_9)) m0_9 m1_9 m2_9 m3_9 (go2 (fun z_9 => q7_9 z_9.2))
  obtain ⟨n', r, hgo, w, r1_9, r2, r3, r4⟩ := go_9
  simp only [Nat.zero_add] at r2 r3
  exact ⟨r, Or.inr ⟨M_9, n', hM_9, hl, hgo⟩, w, r1_9, r2, r3, r4⟩
/-- tells of the reference -/
theorem rv_run {cst : am_K} {strs : List Nat} {D : Nat} {h0 : am_H} (cc : ∀ d, hp_C cst strs d) (hy : ly_hy m_tt ly_TH h0) {f : Int → Int} {n : Int} {t : Nat} {kd pl vl : Int → Int} {en : Nat → Int} (TT : tkT f n t kd pl vl en) (n0 : 0 ≤ n) (n1 : n ≤ 1200) (ff : ∀ x, 0 ≤ x → x < n → gs_f cst h0 x = f x) (kn : ly_hv cst h0 19969 0 = some n) {X : List rX} (R : rA cst h0 X) (x30 : X.length ≤ 30) (wd : ∀ a (ha : a < X.length), wD (X[a]).2.2.1) {xk xy xs : Int32} :
    ∃ r, am_Run cst m_cl m_tt m_P strs sx_bi (D + 13) 324 [.ref 94, .int xk, .int xy, .int xs] h0 r ∧ (fun r : am_Q => ∃ w : Int32, r.1 = some (.int w) ∧ r.2.2.1 = 0 ∧ r.2.2.2 = 0 ∧ ly_hy m_tt ly_TH r.2.1 ∧ ly_fr cst [19969, 19970, 19971, 19972, 19973, 19974, 19975, 19976, 20017] h0 r.2.1 ∧ (ly_hv cst r.2.1 19969 0 = some 0 ∧ qa xk.toInt xy.toInt xs.toInt (sw kd vl t) w.toInt (pTel X xk.toInt (dz xk.toInt (sw kd vl t)) xy.toInt xs.toInt))) r := by
  obtain ⟨M_9, hM_9, hl⟩ := hp_M (mi := 324) (k := 4) (by decide +kernel)
  have c : hp_C cst strs (D + 12) := cc _
  have bk : -2147483648 ≤ xk.toInt := xk.le_toInt
  have bk' : xk.toInt ≤ 2147483647 := xk.toInt_le
  have bz8 : -2147483648 ≤ xy.toInt := xy.le_toInt
  have bz9 : xy.toInt ≤ 2147483647 := xy.toInt_le
  have bs : -2147483648 ≤ xs.toInt := xs.le_toInt
  have bs' : xs.toInt ≤ 2147483647 := xs.toInt_le
  have go_9 : hp_F cst strs (fun r : am_Q => ∃ w : Int32, r.1 = some (.int w) ∧ r.2.2.1 = 0 ∧ r.2.2.2 = 0 ∧ ly_hy m_tt ly_TH r.2.1 ∧ ly_fr cst [19969, 19970, 19971, 19972, 19973, 19974, 19975, 19976, 20017] h0 r.2.1 ∧ (ly_hv cst r.2.1 19969 0 = some 0 ∧ qa xk.toInt xy.toInt xs.toInt (sw kd vl t) w.toInt (pTel X xk.toInt (dz xk.toInt (sw kd vl t)) xy.toInt xs.toInt))) (D + 12) M_9 0 (lv_args 0 [.ref 94, .int xk, .int xy, .int xs]) [] h0 := by
    refine rv0 c hM_9 (by omega) hy xk.toInt xy.toInt xs.toInt bk bk' bz8 bz9 bs bs' rfl ⟨xk, rfl, rfl⟩ ⟨xy, rfl, rfl⟩ ⟨xs, rfl, rfl⟩ (fun l1 h1 a0_9 a1_9 a2 ea0 ea1 ea2 u1_9 u2_9 u3 m0_9 m1_9 m2_9 m3_9 => ?_)
    obtain ⟨r, hrun, w, r1_9, r2, r3, rhy, rfr, rk9, rres⟩ := as_run (D := D + 8) cc (by omega) u1_9 TT n0 n1 (fun x x0_9 x1_9 => by rw [gs_same hy u1_9 u2_9 rfl]; exact ff x x0_9 x1_9) (u2_9 _ _ _ rfl kn) (xk := a2) (xy := a1_9) (xs := a0_9)
    refine hp_call (mi := 324) (pc := 4) (tg := 322) (na := 4) (c := 78) (ci := 12) (st0 := [.int a0_9, .int a1_9, .int a2, .ref 94]) (st := []) (av := [.int a2, .int a1_9, .int a0_9]) hM_9 (by decide +kernel) u1_9 rfl rfl rfl (by decide) hrun r2 r3 ?_
    rw [r1_9]
    rw [ea0, ea1, ea2] at rres
    have F1_9 : ly_fr cst [19969, 19970, 19971, 19972, 19973, 19974, 19975, 19976, 20017] h0 r.2.1 := ly_fr_tr (hp_sub2 rfl u2_9) rfr
    rcases rres with ⟨nk, ew⟩ | ⟨ok_9, z_9, ew⟩ | ⟨ok_9, nz, ew, kd'⟩
    · exact rv1 c hM_9 (by omega) rhy xk.toInt xy.toInt xs.toInt (-2) w ew bk bk' bz8 bz9 bs bs' (by decide) (by decide) (hp_ne (by decide)) m0_9 m1_9 m2_9 m3_9 (fun h3 v_9 hv v1_9 v2 v3 => ⟨v_9, rfl, rfl, rfl, v1_9, ly_fr_tr F1_9 (hp_sub2 rfl v2), v2 _ _ _ rfl rk9, fun _ => hv, fun o => absurd o nk⟩)
    · exact rv1 c hM_9 (by omega) rhy xk.toInt xy.toInt xs.toInt (-4) w ew bk bk' bz8 bz9 bs bs' (by decide) (by decide) (hp_ne (by decide)) m0_9 m1_9 m2_9 m3_9 (fun h3 v_9 hv v1_9 v2 v3 => ⟨v_9, rfl, rfl, rfl, v1_9, ly_fr_tr F1_9 (hp_sub2 rfl v2), v2 _ _ _ rfl rk9, fun o => absurd ok_9 o, fun _ => ⟨fun _ => hv, fun y => absurd z_9 y⟩⟩)
    have dr' : -9223372036854775808 ≤ sw kd vl t ∧ sw kd vl t ≤ 9223372036854775807 := sw_b TT
    obtain ⟨ok1, ok2, ok3, ok4, ok5, ok6⟩ := id ok_9
    have fin_9 : ∀ (h5 : am_H) (v_9 : Int32), pTel X xk.toInt (dz xk.toInt (sw kd vl t)) xy.toInt xs.toInt v_9.toInt → ly_hy m_tt ly_TH h5 → ly_fr cst [] r.2.1 h5 → (fun r : am_Q => ∃ w : Int32, r.1 = some (.int w) ∧ r.2.2.1 = 0 ∧ r.2.2.2 = 0 ∧ ly_hy m_tt ly_TH r.2.1 ∧ ly_fr cst [19969, 19970, 19971, 19972, 19973, 19974, 19975, 19976, 20017] h0 r.2.1 ∧ (ly_hv cst r.2.1 19969 0 = some 0 ∧ qa xk.toInt xy.toInt xs.toInt (sw kd vl t) w.toInt (pTel X xk.toInt (dz xk.toInt (sw kd vl t)) xy.toInt xs.toInt))) (some (.int v_9), h5, 0, 0) := fun h5 v_9 hv x1_9 x2_9 => ⟨v_9, rfl, rfl, rfl, x1_9, ly_fr_tr F1_9 (hp_sub2 rfl x2_9), x2_9 _ _ _ rfl rk9, fun o => absurd ok_9 o, fun _ => ⟨fun z_9 => absurd z_9 nz, fun _ => hv⟩⟩
    refine rv2 c hM_9 (by omega) rhy xk.toInt xy.toInt xs.toInt (sw kd vl t) w ew bk bk' bz8 bz9 bs bs' dr'.1 dr'.2 kd' m0_9 m1_9 m2_9 m3_9 (fun l3 h3 z0 z1 z2 z3 e0_9 e1_9 e2_9 e3_9 v1_9 v2 v3 o0_9 o1 o2 o3_9 => ?_)
    have F3 : ly_fr cst [19969, 19970, 19971, 19972, 19973, 19974, 19975, 19976, 20017] h0 h3 := ly_fr_tr F1_9 (hp_sub2 rfl v2)
    have R3 : rA cst h3 X := rA_k R (gk_fr F3 rfl rfl) (F3 _ _ _ rfl R.1)
    obtain ⟨r', hrun', w', s1_9, s2_9, s3_9, shy, sfr, sres⟩ := tv_run (D := D + 7) cc (by omega) v1_9 R3 x30 wd (y := xy.toInt) (s := xs.toInt) (k := xk.toInt) (d := sw kd vl t) ok1 ok2 (xk := z3) (xd := z2) (xy := z1) (xs := z0) e3_9 e2_9 e1_9 e0_9
    refine hp_call (mi := 324) (pc := 27) (tg := 283) (na := 5) (c := 78) (ci := 12) (st0 := [.int z0, .int z1, .long z2, .int z3, .ref 94]) (st := []) (av := [.int z3, .long z2, .int z1, .int z0]) hM_9 (by decide +kernel) v1_9 rfl rfl rfl (by decide) hrun' s2_9 s3_9 ?_
    rw [s1_9]
    have F4 : ly_fr cst [] r.2.1 r'.2.1 := ly_fr_tr v2 sfr
    exact rv3 c hM_9 (by omega) shy w'.toInt w' rfl w'.le_toInt w'.toInt_le o0_9 (fun h5 v_9 hv x1_9 x2_9 x3 => fin_9 h5 v_9 (by rw [hv]; exact sres) x1_9 (ly_fr_tr F4 x2_9))
  obtain ⟨n', r, hgo, w, r1_9, r2, r3, r4⟩ := go_9
  simp only [Nat.zero_add] at r2 r3
  exact ⟨r, Or.inr ⟨M_9, n', hM_9, hl, hgo⟩, w, r1_9, r2, r3, r4⟩
