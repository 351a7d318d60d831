/-! PRINTED by wip/p2/hp_quar.py: quarrel of both -/
theorem lq0_k : hp_chk 117 0 3 [(0, (-2147483648), 2147483647), (1, (-2147483648), 2147483647), (2, (-2147483648), 2147483647)] [] [(0, .inr (.inr (.inl (some 16)))), (1, .inl (0, [(0, 1)])), (2, .inl (0, [(1, 1)])), (3, .inl (0, [(2, 1)]))] [] [] [] 2 [(2, ([], 3, [(0, (-2147483648), 2147483647), (1, (-2147483648), 2147483647), (2, (-2147483648), 2147483647)], [], [(0, .inr (.inr (.inl (some 16)))), (1, .inl (0, [(0, 1)])), (2, .inl (0, [(1, 1)])), (3, .inl (0, [(2, 1)]))], [.inl (0, [(0, 1)]), .inr (.inr (.inl (some 16)))], []))] [] = true := by decide +kernel
theorem lq0 {cst : am_K} {strs : List Nat} {Φ : am_Q → Prop} {D : Nat} {M : am_M} {h : am_H} {l : am_L} (c : hp_C cst strs D) (hM : m_P[117]? = some M) (hD : (2 : Int) ≤ (D : Int) + 1) (hy : ly_hy m_tt ly_TH h) (k y s : Int) (b0 : (-2147483648) ≤ k) (t0 : k ≤ 2147483647) (b1 : (-2147483648) ≤ y) (t1 : y ≤ 2147483647) (b2 : (-2147483648) ≤ s) (t2 : s ≤ 2147483647) (l0 : hp_a l 0 16) (l1 : hp_i l 1 (k)) (l2 : hp_i l 2 (y)) (l3 : hp_i l 3 (s)) (e0 : ∀ (l' : am_L) (h' : am_H) (y0 : Int32), y0.toInt = (k) → ly_hy m_tt ly_TH h' → ly_fr cst [] h h' → h.length ≤ h'.length → hp_a l' 0 16 → hp_i l' 1 (k) → hp_i l' 2 (y) → hp_i l' 3 (s) → hp_F cst strs Φ D M 2 l' [.int y0, .ref 16] h') : hp_F cst strs Φ D M 0 l [] h := by
  refine hp_arc c hM lq0_k hD [k, y, s] rfl hy (hp_Bc (z := k) rfl b0 t0 (hp_Bc (z := y) rfl b1 t1 (hp_Bc (z := s) rfl b2 t2 hp_Bn))) hp_Fn hp_Kn (hp_La l0 (hp_Li (z := (0 + (1 * k + 0))) l1 rfl (by omega) (hp_Li (z := (0 + (1 * y + 0))) l2 rfl (by omega) (hp_Li (z := (0 + (1 * s + 0))) l3 rfl (by omega) hp_Ln)))) trivial ?_ ?_
  · intro p_9 hp ys l' st' h' hys a1_9 a2 a3 gZ gL gS
    rcases List.mem_cons.mp hp with rfl | hp
    · obtain rfl := hp_y0 hys
      obtain ⟨y0, t0, rfl, q0, g0⟩ := hp_gSi (z := (0 + (1 * k + 0))) gS rfl
      obtain ⟨t1, rfl, g1⟩ := hp_gSa g0 (by decide)
      cases hp_gSn g1
      exact e0 l' h' y0 (by omega) a1_9 a2 a3 (hp_gLa gL (List.mem_of_getElem? (i := 0) rfl) (by decide)) (hp_gLi (z := (0 + (1 * k + 0))) gL (List.mem_of_getElem? (i := 1) rfl) rfl (by omega)) (hp_gLi (z := (0 + (1 * y + 0))) gL (List.mem_of_getElem? (i := 2) rfl) rfl (by omega)) (hp_gLi (z := (0 + (1 * s + 0))) gL (List.mem_of_getElem? (i := 3) rfl) rfl (by omega))
    cases hp
  · intro p_9 hp ys v_9 h' hys a1_9 a2 a3 gZ gS
    cases hp
theorem lqR0_k : hq_chk [114, 25, 27, 39] 117 5 4 [(0, (-2147483648), (-1)), (1, (-2147483648), 2147483647), (2, (-2147483648), 2147483647), (3, (-9223372036854775808), 9223372036854775807)] [] [(0, .inr (.inr (.inl (some 16)))), (1, .inl (0, [(0, 1)])), (2, .inl (0, [(1, 1)])), (3, .inl (0, [(2, 1)]))] [.inr (.inl (0, [(3, 1)]))] [] [] 5 [] [([], 4, [(0, (-2147483648), (-1)), (1, (-2147483648), 2147483647), (2, (-2147483648), 2147483647), (3, (-9223372036854775808), 9223372036854775807)], [], [], [.inl ((-2), [])], [])] = true := by decide +kernel
theorem lqR0 {cst : am_K} {strs : List Nat} {Φ : am_Q → Prop} {D : Nat} {M : am_M} {h : am_H} {l : am_L} (c : hp_C cst strs D) (hM : m_P[117]? = some M) (hD : (5 : Int) ≤ (D : Int) + 1) (hy : ly_hy m_tt ly_TH h) (k y s d : Int) (x0 : Int64) (hx0 : x0.toInt = (d)) (b0 : (-2147483648) ≤ k) (t0 : k ≤ (-1)) (b1 : (-2147483648) ≤ y) (t1 : y ≤ 2147483647) (b2 : (-2147483648) ≤ s) (t2 : s ≤ 2147483647) (b3 : (-9223372036854775808) ≤ d) (t3 : d ≤ 9223372036854775807) (l0 : hp_a l 0 16) (l1 : hp_i l 1 (k)) (l2 : hp_i l 2 (y)) (l3 : hp_i l 3 (s)) (r0 : ∀ (h' : am_H) (y0 : Int32), y0.toInt = (-2) → ly_hy m_tt ly_TH h' → ly_fr cst [] h h' → h.length ≤ h'.length → Φ (some (.int y0), h', 0, 0)) : hp_F cst strs Φ D M 5 l [.long x0] h := by
  refine hq_arc c hM lqR0_k hD [k, y, s, d] rfl hy (hp_Bc (z := k) rfl b0 t0 (hp_Bc (z := y) rfl b1 t1 (hp_Bc (z := s) rfl b2 t2 (hp_Bc (z := d) rfl b3 t3 hp_Bn)))) hp_Fn hp_Kn (hp_La l0 (hp_Li (z := (0 + (1 * k + 0))) l1 rfl (by omega) (hp_Li (z := (0 + (1 * y + 0))) l2 rfl (by omega) (hp_Li (z := (0 + (1 * s + 0))) l3 rfl (by omega) hp_Ln)))) (hp_Sj (z := (0 + (1 * d + 0))) rfl (by omega) trivial) ?_ ?_
  · intro p_9 hp ys l' st' h' hys a1_9 a2 a3 gZ gL gS
    cases hp
  · intro p_9 hp ys v_9 h' hys a1_9 a2 a3 gZ gS
    rcases List.mem_cons.mp hp with rfl | hp
    · obtain rfl := hp_y0 hys
      cases v_9 with
      | none => cases gS
      | some wz =>
        obtain ⟨y0, t0, s0_9, q0, -⟩ := hp_gSi (z := ((-2) + 0)) gS rfl
        cases s0_9
        exact r0 h' y0 (by omega) a1_9 a2 a3
    cases hp
theorem lqR1_k : hq_chk [114, 25, 27, 39] 117 5 4 [(0, 14, 2147483647), (1, (-2147483648), 2147483647), (2, (-2147483648), 2147483647), (3, (-9223372036854775808), 9223372036854775807)] [] [(0, .inr (.inr (.inl (some 16)))), (1, .inl (0, [(0, 1)])), (2, .inl (0, [(1, 1)])), (3, .inl (0, [(2, 1)]))] [.inr (.inl (0, [(3, 1)]))] [] [] 5 [] [([], 4, [(0, 14, 2147483647), (1, (-2147483648), 2147483647), (2, (-2147483648), 2147483647), (3, (-9223372036854775808), 9223372036854775807)], [], [], [.inl ((-2), [])], [])] = true := by decide +kernel
theorem lqR1 {cst : am_K} {strs : List Nat} {Φ : am_Q → Prop} {D : Nat} {M : am_M} {h : am_H} {l : am_L} (c : hp_C cst strs D) (hM : m_P[117]? = some M) (hD : (5 : Int) ≤ (D : Int) + 1) (hy : ly_hy m_tt ly_TH h) (k y s d : Int) (x0 : Int64) (hx0 : x0.toInt = (d)) (b0 : 14 ≤ k) (t0 : k ≤ 2147483647) (b1 : (-2147483648) ≤ y) (t1 : y ≤ 2147483647) (b2 : (-2147483648) ≤ s) (t2 : s ≤ 2147483647) (b3 : (-9223372036854775808) ≤ d) (t3 : d ≤ 9223372036854775807) (l0 : hp_a l 0 16) (l1 : hp_i l 1 (k)) (l2 : hp_i l 2 (y)) (l3 : hp_i l 3 (s)) (r0 : ∀ (h' : am_H) (y0 : Int32), y0.toInt = (-2) → ly_hy m_tt ly_TH h' → ly_fr cst [] h h' → h.length ≤ h'.length → Φ (some (.int y0), h', 0, 0)) : hp_F cst strs Φ D M 5 l [.long x0] h := by
  refine hq_arc c hM lqR1_k hD [k, y, s, d] rfl hy (hp_Bc (z := k) rfl b0 t0 (hp_Bc (z := y) rfl b1 t1 (hp_Bc (z := s) rfl b2 t2 (hp_Bc (z := d) rfl b3 t3 hp_Bn)))) hp_Fn hp_Kn (hp_La l0 (hp_Li (z := (0 + (1 * k + 0))) l1 rfl (by omega) (hp_Li (z := (0 + (1 * y + 0))) l2 rfl (by omega) (hp_Li (z := (0 + (1 * s + 0))) l3 rfl (by omega) hp_Ln)))) (hp_Sj (z := (0 + (1 * d + 0))) rfl (by omega) trivial) ?_ ?_
  · intro p_9 hp ys l' st' h' hys a1_9 a2 a3 gZ gL gS
    cases hp
  · intro p_9 hp ys v_9 h' hys a1_9 a2 a3 gZ gS
    rcases List.mem_cons.mp hp with rfl | hp
    · obtain rfl := hp_y0 hys
      cases v_9 with
      | none => cases gS
      | some wz =>
        obtain ⟨y0, t0, s0_9, q0, -⟩ := hp_gSi (z := ((-2) + 0)) gS rfl
        cases s0_9
        exact r0 h' y0 (by omega) a1_9 a2 a3
    cases hp
theorem lqR2_k : hq_chk [114, 25, 27, 39] 117 5 4 [(0, 0, 13), (1, (-2147483648), (-1)), (2, (-2147483648), 2147483647), (3, (-9223372036854775808), 9223372036854775807)] [] [(0, .inr (.inr (.inl (some 16)))), (1, .inl (0, [(0, 1)])), (2, .inl (0, [(1, 1)])), (3, .inl (0, [(2, 1)]))] [.inr (.inl (0, [(3, 1)]))] [] [] 5 [] [([], 4, [(0, 0, 13), (1, (-2147483648), (-1)), (2, (-2147483648), 2147483647), (3, (-9223372036854775808), 9223372036854775807)], [], [], [.inl ((-2), [])], [])] = true := by decide +kernel
theorem lqR2 {cst : am_K} {strs : List Nat} {Φ : am_Q → Prop} {D : Nat} {M : am_M} {h : am_H} {l : am_L} (c : hp_C cst strs D) (hM : m_P[117]? = some M) (hD : (5 : Int) ≤ (D : Int) + 1) (hy : ly_hy m_tt ly_TH h) (k y s d : Int) (x0 : Int64) (hx0 : x0.toInt = (d)) (b0 : 0 ≤ k) (t0 : k ≤ 13) (b1 : (-2147483648) ≤ y) (t1 : y ≤ (-1)) (b2 : (-2147483648) ≤ s) (t2 : s ≤ 2147483647) (b3 : (-9223372036854775808) ≤ d) (t3 : d ≤ 9223372036854775807) (l0 : hp_a l 0 16) (l1 : hp_i l 1 (k)) (l2 : hp_i l 2 (y)) (l3 : hp_i l 3 (s)) (r0 : ∀ (h' : am_H) (y0 : Int32), y0.toInt = (-2) → ly_hy m_tt ly_TH h' → ly_fr cst [] h h' → h.length ≤ h'.length → Φ (some (.int y0), h', 0, 0)) : hp_F cst strs Φ D M 5 l [.long x0] h := by
  refine hq_arc c hM lqR2_k hD [k, y, s, d] rfl hy (hp_Bc (z := k) rfl b0 t0 (hp_Bc (z := y) rfl b1 t1 (hp_Bc (z := s) rfl b2 t2 (hp_Bc (z := d) rfl b3 t3 hp_Bn)))) hp_Fn hp_Kn (hp_La l0 (hp_Li (z := (0 + (1 * k + 0))) l1 rfl (by omega) (hp_Li (z := (0 + (1 * y + 0))) l2 rfl (by omega) (hp_Li (z := (0 + (1 * s + 0))) l3 rfl (by omega) hp_Ln)))) (hp_Sj (z := (0 + (1 * d + 0))) rfl (by omega) trivial) ?_ ?_
  · intro p_9 hp ys l' st' h' hys a1_9 a2 a3 gZ gL gS
    cases hp
  · intro p_9 hp ys v_9 h' hys a1_9 a2 a3 gZ gS
    rcases List.mem_cons.mp hp with rfl | hp
    · obtain rfl := hp_y0 hys
      cases v_9 with
      | none => cases gS
      | some wz =>
        obtain ⟨y0, t0, s0_9, q0, -⟩ := hp_gSi (z := ((-2) + 0)) gS rfl
        cases s0_9
        exact r0 h' y0 (by omega) a1_9 a2 a3
    cases hp
theorem lqR3_k : hq_chk [114, 25, 27, 39] 117 5 4 [(0, 0, 13), (1, 400, 2147483647), (2, (-2147483648), 2147483647), (3, (-9223372036854775808), 9223372036854775807)] [] [(0, .inr (.inr (.inl (some 16)))), (1, .inl (0, [(0, 1)])), (2, .inl (0, [(1, 1)])), (3, .inl (0, [(2, 1)]))] [.inr (.inl (0, [(3, 1)]))] [] [] 5 [] [([], 4, [(0, 0, 13), (1, 400, 2147483647), (2, (-2147483648), 2147483647), (3, (-9223372036854775808), 9223372036854775807)], [], [], [.inl ((-2), [])], [])] = true := by decide +kernel
theorem lqR3 {cst : am_K} {strs : List Nat} {Φ : am_Q → Prop} {D : Nat} {M : am_M} {h : am_H} {l : am_L} (c : hp_C cst strs D) (hM : m_P[117]? = some M) (hD : (5 : Int) ≤ (D : Int) + 1) (hy : ly_hy m_tt ly_TH h) (k y s d : Int) (x0 : Int64) (hx0 : x0.toInt = (d)) (b0 : 0 ≤ k) (t0 : k ≤ 13) (b1 : 400 ≤ y) (t1 : y ≤ 2147483647) (b2 : (-2147483648) ≤ s) (t2 : s ≤ 2147483647) (b3 : (-9223372036854775808) ≤ d) (t3 : d ≤ 9223372036854775807) (l0 : hp_a l 0 16) (l1 : hp_i l 1 (k)) (l2 : hp_i l 2 (y)) (l3 : hp_i l 3 (s)) (r0 : ∀ (h' : am_H) (y0 : Int32), y0.toInt = (-2) → ly_hy m_tt ly_TH h' → ly_fr cst [] h h' → h.length ≤ h'.length → Φ (some (.int y0), h', 0, 0)) : hp_F cst strs Φ D M 5 l [.long x0] h := by
  refine hq_arc c hM lqR3_k hD [k, y, s, d] rfl hy (hp_Bc (z := k) rfl b0 t0 (hp_Bc (z := y) rfl b1 t1 (hp_Bc (z := s) rfl b2 t2 (hp_Bc (z := d) rfl b3 t3 hp_Bn)))) hp_Fn hp_Kn (hp_La l0 (hp_Li (z := (0 + (1 * k + 0))) l1 rfl (by omega) (hp_Li (z := (0 + (1 * y + 0))) l2 rfl (by omega) (hp_Li (z := (0 + (1 * s + 0))) l3 rfl (by omega) hp_Ln)))) (hp_Sj (z := (0 + (1 * d + 0))) rfl (by omega) trivial) ?_ ?_
  · intro p_9 hp ys l' st' h' hys a1_9 a2 a3 gZ gL gS
    cases hp
  · intro p_9 hp ys v_9 h' hys a1_9 a2 a3 gZ gS
    rcases List.mem_cons.mp hp with rfl | hp
    · obtain rfl := hp_y0 hys
      cases v_9 with
      | none => cases gS
      | some wz =>
        obtain ⟨y0, t0, s0_9, q0, -⟩ := hp_gSi (z := ((-2) + 0)) gS rfl
        cases s0_9
        exact r0 h' y0 (by omega) a1_9 a2 a3
    cases hp
theorem lqR4_k : hq_chk [114, 25, 27, 39] 117 5 4 [(0, 0, 13), (1, 0, 399), (2, (-2147483648), (-1)), (3, (-9223372036854775808), 9223372036854775807)] [] [(0, .inr (.inr (.inl (some 16)))), (1, .inl (0, [(0, 1)])), (2, .inl (0, [(1, 1)])), (3, .inl (0, [(2, 1)]))] [.inr (.inl (0, [(3, 1)]))] [] [] 5 [] [([], 4, [(0, 0, 13), (1, 0, 399), (2, (-2147483648), (-1)), (3, (-9223372036854775808), 9223372036854775807)], [], [], [.inl ((-2), [])], [])] = true := by decide +kernel
theorem lqR4 {cst : am_K} {strs : List Nat} {Φ : am_Q → Prop} {D : Nat} {M : am_M} {h : am_H} {l : am_L} (c : hp_C cst strs D) (hM : m_P[117]? = some M) (hD : (5 : Int) ≤ (D : Int) + 1) (hy : ly_hy m_tt ly_TH h) (k y s d : Int) (x0 : Int64) (hx0 : x0.toInt = (d)) (b0 : 0 ≤ k) (t0 : k ≤ 13) (b1 : 0 ≤ y) (t1 : y ≤ 399) (b2 : (-2147483648) ≤ s) (t2 : s ≤ (-1)) (b3 : (-9223372036854775808) ≤ d) (t3 : d ≤ 9223372036854775807) (l0 : hp_a l 0 16) (l1 : hp_i l 1 (k)) (l2 : hp_i l 2 (y)) (l3 : hp_i l 3 (s)) (r0 : ∀ (h' : am_H) (y0 : Int32), y0.toInt = (-2) → ly_hy m_tt ly_TH h' → ly_fr cst [] h h' → h.length ≤ h'.length → Φ (some (.int y0), h', 0, 0)) : hp_F cst strs Φ D M 5 l [.long x0] h := by
  refine hq_arc c hM lqR4_k hD [k, y, s, d] rfl hy (hp_Bc (z := k) rfl b0 t0 (hp_Bc (z := y) rfl b1 t1 (hp_Bc (z := s) rfl b2 t2 (hp_Bc (z := d) rfl b3 t3 hp_Bn)))) hp_Fn hp_Kn (hp_La l0 (hp_Li (z := (0 + (1 * k + 0))) l1 rfl (by omega) (hp_Li (z := (0 + (1 * y + 0))) l2 rfl (by omega) (hp_Li (z := (0 + (1 * s + 0))) l3 rfl (by omega) hp_Ln)))) (hp_Sj (z := (0 + (1 * d + 0))) rfl (by omega) trivial) ?_ ?_
  · intro p_9 hp ys l' st' h' hys a1_9 a2 a3 gZ gL gS
    cases hp
  · intro p_9 hp ys v_9 h' hys a1_9 a2 a3 gZ gS
    rcases List.mem_cons.mp hp with rfl | hp
    · obtain rfl := hp_y0 hys
      cases v_9 with
      | none => cases gS
      | some wz =>
        obtain ⟨y0, t0, s0_9, q0, -⟩ := hp_gSi (z := ((-2) + 0)) gS rfl
        cases s0_9
        exact r0 h' y0 (by omega) a1_9 a2 a3
    cases hp
theorem lqR5_k : hq_chk [114, 25, 27, 39] 117 5 4 [(0, 0, 13), (1, 0, 399), (2, 6, 2147483647), (3, (-9223372036854775808), 9223372036854775807)] [] [(0, .inr (.inr (.inl (some 16)))), (1, .inl (0, [(0, 1)])), (2, .inl (0, [(1, 1)])), (3, .inl (0, [(2, 1)]))] [.inr (.inl (0, [(3, 1)]))] [] [] 5 [] [([], 4, [(0, 0, 13), (1, 0, 399), (2, 6, 2147483647), (3, (-9223372036854775808), 9223372036854775807)], [], [], [.inl ((-2), [])], [])] = true := by decide +kernel
theorem lqR5 {cst : am_K} {strs : List Nat} {Φ : am_Q → Prop} {D : Nat} {M : am_M} {h : am_H} {l : am_L} (c : hp_C cst strs D) (hM : m_P[117]? = some M) (hD : (5 : Int) ≤ (D : Int) + 1) (hy : ly_hy m_tt ly_TH h) (k y s d : Int) (x0 : Int64) (hx0 : x0.toInt = (d)) (b0 : 0 ≤ k) (t0 : k ≤ 13) (b1 : 0 ≤ y) (t1 : y ≤ 399) (b2 : 6 ≤ s) (t2 : s ≤ 2147483647) (b3 : (-9223372036854775808) ≤ d) (t3 : d ≤ 9223372036854775807) (l0 : hp_a l 0 16) (l1 : hp_i l 1 (k)) (l2 : hp_i l 2 (y)) (l3 : hp_i l 3 (s)) (r0 : ∀ (h' : am_H) (y0 : Int32), y0.toInt = (-2) → ly_hy m_tt ly_TH h' → ly_fr cst [] h h' → h.length ≤ h'.length → Φ (some (.int y0), h', 0, 0)) : hp_F cst strs Φ D M 5 l [.long x0] h := by
  refine hq_arc c hM lqR5_k hD [k, y, s, d] rfl hy (hp_Bc (z := k) rfl b0 t0 (hp_Bc (z := y) rfl b1 t1 (hp_Bc (z := s) rfl b2 t2 (hp_Bc (z := d) rfl b3 t3 hp_Bn)))) hp_Fn hp_Kn (hp_La l0 (hp_Li (z := (0 + (1 * k + 0))) l1 rfl (by omega) (hp_Li (z := (0 + (1 * y + 0))) l2 rfl (by omega) (hp_Li (z := (0 + (1 * s + 0))) l3 rfl (by omega) hp_Ln)))) (hp_Sj (z := (0 + (1 * d + 0))) rfl (by omega) trivial) ?_ ?_
  · intro p_9 hp ys l' st' h' hys a1_9 a2 a3 gZ gL gS
    cases hp
  · intro p_9 hp ys v_9 h' hys a1_9 a2 a3 gZ gS
    rcases List.mem_cons.mp hp with rfl | hp
    · obtain rfl := hp_y0 hys
      cases v_9 with
      | none => cases gS
      | some wz =>
        obtain ⟨y0, t0, s0_9, q0, -⟩ := hp_gSi (z := ((-2) + 0)) gS rfl
        cases s0_9
        exact r0 h' y0 (by omega) a1_9 a2 a3
    cases hp
theorem lqS_k : hq_chk [114, 25, 27, 39] 117 5 3 [(0, 0, 6), (1, 0, 399), (2, 0, 5)] [] [(0, .inr (.inr (.inl (some 16)))), (1, .inl (0, [(0, 1)])), (2, .inl (0, [(1, 1)])), (3, .inl (0, [(2, 1)]))] [.inr (.inl (0, []))] [] [] 5 [] [([], 3, [(0, 0, 6), (1, 0, 399), (2, 0, 5)], [], [], [.inl ((-4), [])], [])] = true := by decide +kernel
theorem lqS {cst : am_K} {strs : List Nat} {Φ : am_Q → Prop} {D : Nat} {M : am_M} {h : am_H} {l : am_L} (c : hp_C cst strs D) (hM : m_P[117]? = some M) (hD : (5 : Int) ≤ (D : Int) + 1) (hy : ly_hy m_tt ly_TH h) (k y s : Int) (x0 : Int64) (hx0 : x0.toInt = 0) (b0 : 0 ≤ k) (t0 : k ≤ 6) (b1 : 0 ≤ y) (t1 : y ≤ 399) (b2 : 0 ≤ s) (t2 : s ≤ 5) (l0 : hp_a l 0 16) (l1 : hp_i l 1 (k)) (l2 : hp_i l 2 (y)) (l3 : hp_i l 3 (s)) (r0 : ∀ (h' : am_H) (y0 : Int32), y0.toInt = (-4) → ly_hy m_tt ly_TH h' → ly_fr cst [] h h' → h.length ≤ h'.length → Φ (some (.int y0), h', 0, 0)) : hp_F cst strs Φ D M 5 l [.long x0] h := by
  refine hq_arc c hM lqS_k hD [k, y, s] rfl hy (hp_Bc (z := k) rfl b0 t0 (hp_Bc (z := y) rfl b1 t1 (hp_Bc (z := s) rfl b2 t2 hp_Bn))) hp_Fn hp_Kn (hp_La l0 (hp_Li (z := (0 + (1 * k + 0))) l1 rfl (by omega) (hp_Li (z := (0 + (1 * y + 0))) l2 rfl (by omega) (hp_Li (z := (0 + (1 * s + 0))) l3 rfl (by omega) hp_Ln)))) (hp_Sj (z := (0 + 0)) rfl (by omega) trivial) ?_ ?_
  · intro p_9 hp ys l' st' h' hys a1_9 a2 a3 gZ gL gS
    cases hp
  · intro p_9 hp ys v_9 h' hys a1_9 a2 a3 gZ gS
    rcases List.mem_cons.mp hp with rfl | hp
    · obtain rfl := hp_y0 hys
      cases v_9 with
      | none => cases gS
      | some wz =>
        obtain ⟨y0, t0, s0_9, q0, -⟩ := hp_gSi (z := ((-4) + 0)) gS rfl
        cases s0_9
        exact r0 h' y0 (by omega) a1_9 a2 a3
    cases hp
theorem lqG_k : hq_chk [114, 25, 27, 39] 117 5 4 [(0, 7, 13), (1, 0, 399), (2, 0, 5), (3, (-9223372036854775808), 9223372036854775807)] [] [(0, .inr (.inr (.inl (some 16)))), (1, .inl (0, [(0, 1)])), (2, .inl (0, [(1, 1)])), (3, .inl (0, [(2, 1)]))] [.inr (.inl (0, [(3, 1)]))] [] [] 5 [(36, ([], 4, [(0, 7, 13), (1, 0, 399), (2, 0, 5), (3, (-9223372036854775808), 9223372036854775807)], [], [(0, .inr (.inr (.inl (some 16))))], [.inl (0, [(2, 1)]), .inl (0, [(1, 1)]), .inr (.inl (0, [(3, 1)])), .inl (0, [(0, 1)]), .inr (.inr (.inl (some 30)))], []))] [] = true := by decide +kernel
theorem lqG {cst : am_K} {strs : List Nat} {Φ : am_Q → Prop} {D : Nat} {M : am_M} {h : am_H} {l : am_L} (c : hp_C cst strs D) (hM : m_P[117]? = some M) (hD : (5 : Int) ≤ (D : Int) + 1) (hy : ly_hy m_tt ly_TH h) (k y s d : Int) (x0 : Int64) (hx0 : x0.toInt = (d)) (b0 : 7 ≤ k) (t0 : k ≤ 13) (b1 : 0 ≤ y) (t1 : y ≤ 399) (b2 : 0 ≤ s) (t2 : s ≤ 5) (b3 : (-9223372036854775808) ≤ d) (t3 : d ≤ 9223372036854775807) (l0 : hp_a l 0 16) (l1 : hp_i l 1 (k)) (l2 : hp_i l 2 (y)) (l3 : hp_i l 3 (s)) (e0 : ∀ (l' : am_L) (h' : am_H) (y0 : Int32) (y1 : Int32) (y2 : Int64) (y3 : Int32), y0.toInt = (s) → y1.toInt = (y) → y2.toInt = (d) → y3.toInt = (k) → ly_hy m_tt ly_TH h' → ly_fr cst [] h h' → h.length ≤ h'.length → hp_a l' 0 16 → hp_F cst strs Φ D M 36 l' [.int y0, .int y1, .long y2, .int y3, .ref 30] h') : hp_F cst strs Φ D M 5 l [.long x0] h := by
  refine hq_arc c hM lqG_k hD [k, y, s, d] rfl hy (hp_Bc (z := k) rfl b0 t0 (hp_Bc (z := y) rfl b1 t1 (hp_Bc (z := s) rfl b2 t2 (hp_Bc (z := d) rfl b3 t3 hp_Bn)))) hp_Fn hp_Kn (hp_La l0 (hp_Li (z := (0 + (1 * k + 0))) l1 rfl (by omega) (hp_Li (z := (0 + (1 * y + 0))) l2 rfl (by omega) (hp_Li (z := (0 + (1 * s + 0))) l3 rfl (by omega) hp_Ln)))) (hp_Sj (z := (0 + (1 * d + 0))) rfl (by omega) trivial) ?_ ?_
  · intro p_9 hp ys l' st' h' hys a1_9 a2 a3 gZ gL gS
    rcases List.mem_cons.mp hp with rfl | hp
    · obtain rfl := hp_y0 hys
      obtain ⟨y0, t0, rfl, q0, g0⟩ := hp_gSi (z := (0 + (1 * s + 0))) gS rfl
      obtain ⟨y1, t1, rfl, q1_9, g1⟩ := hp_gSi (z := (0 + (1 * y + 0))) g0 rfl
      obtain ⟨y2, t2, rfl, q2_9, g2⟩ := hp_gSj (z := (0 + (1 * d + 0))) g1 rfl
      obtain ⟨y3, t3, rfl, q3_9, g3_9⟩ := hp_gSi (z := (0 + (1 * k + 0))) g2 rfl
      obtain ⟨t4_9, rfl, g4⟩ := hp_gSa g3_9 (by decide)
      cases hp_gSn g4
      exact e0 l' h' y0 y1 y2 y3 (by omega) (by omega) (by omega) (by omega) a1_9 a2 a3 (hp_gLa gL (List.mem_of_getElem? (i := 0) rfl) (by decide))
    cases hp
  · intro p_9 hp ys v_9 h' hys a1_9 a2 a3 gZ gS
    cases hp
theorem lqH_k : hq_chk [114, 25, 27, 39] 117 5 4 [(0, 0, 6), (1, 0, 399), (2, 0, 5), (3, (-9223372036854775808), 9223372036854775807)] [] [(0, .inr (.inr (.inl (some 16)))), (1, .inl (0, [(0, 1)])), (2, .inl (0, [(1, 1)])), (3, .inl (0, [(2, 1)]))] [.inr (.inl (0, [(3, 1)]))] [(61000, (0, [(3, 1)]), (1, []))] [] 5 [(36, ([], 4, [(0, 0, 6), (1, 0, 399), (2, 0, 5), (3, (-9223372036854775808), 9223372036854775807)], [], [(0, .inr (.inr (.inl (some 16))))], [.inl (0, [(2, 1)]), .inl (0, [(1, 1)]), .inr (.inl (0, [(3, 1)])), .inl (0, [(0, 1)]), .inr (.inr (.inl (some 30)))], []))] [] = true := by decide +kernel
theorem lqH {cst : am_K} {strs : List Nat} {Φ : am_Q → Prop} {D : Nat} {M : am_M} {h : am_H} {l : am_L} (c : hp_C cst strs D) (hM : m_P[117]? = some M) (hD : (5 : Int) ≤ (D : Int) + 1) (hy : ly_hy m_tt ly_TH h) (k y s d : Int) (x0 : Int64) (hx0 : x0.toInt = (d)) (b0 : 0 ≤ k) (t0 : k ≤ 6) (b1 : 0 ≤ y) (t1 : y ≤ 399) (b2 : 0 ≤ s) (t2 : s ≤ 5) (b3 : (-9223372036854775808) ≤ d) (t3 : d ≤ 9223372036854775807) (k0 : ly_hv cst h 61000 (d) = some 1) (l0 : hp_a l 0 16) (l1 : hp_i l 1 (k)) (l2 : hp_i l 2 (y)) (l3 : hp_i l 3 (s)) (e0 : ∀ (l' : am_L) (h' : am_H) (y0 : Int32) (y1 : Int32) (y2 : Int64) (y3 : Int32), y0.toInt = (s) → y1.toInt = (y) → y2.toInt = (d) → y3.toInt = (k) → ly_hy m_tt ly_TH h' → ly_fr cst [] h h' → h.length ≤ h'.length → hp_a l' 0 16 → hp_F cst strs Φ D M 36 l' [.int y0, .int y1, .long y2, .int y3, .ref 30] h') : hp_F cst strs Φ D M 5 l [.long x0] h := by
  refine hq_arc c hM lqH_k hD [k, y, s, d] rfl hy (hp_Bc (z := k) rfl b0 t0 (hp_Bc (z := y) rfl b1 t1 (hp_Bc (z := s) rfl b2 t2 (hp_Bc (z := d) rfl b3 t3 hp_Bn)))) hp_Fn (hp_Kc (zi := (0 + (1 * d + 0))) (zv := (1 + 0)) k0 rfl rfl (by omega) (by omega) hp_Kn) (hp_La l0 (hp_Li (z := (0 + (1 * k + 0))) l1 rfl (by omega) (hp_Li (z := (0 + (1 * y + 0))) l2 rfl (by omega) (hp_Li (z := (0 + (1 * s + 0))) l3 rfl (by omega) hp_Ln)))) (hp_Sj (z := (0 + (1 * d + 0))) rfl (by omega) trivial) ?_ ?_
  · intro p_9 hp ys l' st' h' hys a1_9 a2 a3 gZ gL gS
    rcases List.mem_cons.mp hp with rfl | hp
    · obtain rfl := hp_y0 hys
      obtain ⟨y0, t0, rfl, q0, g0⟩ := hp_gSi (z := (0 + (1 * s + 0))) gS rfl
      obtain ⟨y1, t1, rfl, q1_9, g1⟩ := hp_gSi (z := (0 + (1 * y + 0))) g0 rfl
      obtain ⟨y2, t2, rfl, q2_9, g2⟩ := hp_gSj (z := (0 + (1 * d + 0))) g1 rfl
      obtain ⟨y3, t3, rfl, q3_9, g3_9⟩ := hp_gSi (z := (0 + (1 * k + 0))) g2 rfl
      obtain ⟨t4_9, rfl, g4⟩ := hp_gSa g3_9 (by decide)
      cases hp_gSn g4
      exact e0 l' h' y0 y1 y2 y3 (by omega) (by omega) (by omega) (by omega) a1_9 a2 a3 (hp_gLa gL (List.mem_of_getElem? (i := 0) rfl) (by decide))
    cases hp
  · intro p_9 hp ys v_9 h' hys a1_9 a2 a3 gZ gS
    cases hp
theorem lqE_k : hp_chk 117 39 1 [(0, (-2147483648), 2147483647)] [] [(0, .inr (.inr (.inl (some 16))))] [.inl (0, [(0, 1)])] [] [] 2 [] [([], 1, [(0, (-2147483648), 2147483647)], [], [], [.inl (0, [(0, 1)])], [])] = true := by decide +kernel
theorem lqE {cst : am_K} {strs : List Nat} {Φ : am_Q → Prop} {D : Nat} {M : am_M} {h : am_H} {l : am_L} (c : hp_C cst strs D) (hM : m_P[117]? = some M) (hD : (2 : Int) ≤ (D : Int) + 1) (hy : ly_hy m_tt ly_TH h) (v : Int) (x0 : Int32) (hx0 : x0.toInt = (v)) (b0 : (-2147483648) ≤ v) (t0 : v ≤ 2147483647) (l0 : hp_a l 0 16) (r0 : ∀ (h' : am_H) (y0 : Int32), y0.toInt = (v) → ly_hy m_tt ly_TH h' → ly_fr cst [] h h' → h.length ≤ h'.length → Φ (some (.int y0), h', 0, 0)) : hp_F cst strs Φ D M 39 l [.int x0] h := by
  refine hp_arc c hM lqE_k hD [v] rfl hy (hp_Bc (z := v) rfl b0 t0 hp_Bn) hp_Fn hp_Kn (hp_La l0 hp_Ln) (hp_Si (z := (0 + (1 * v + 0))) rfl (by omega) trivial) ?_ ?_
  · intro p_9 hp ys l' st' h' hys a1_9 a2 a3 gZ gL gS
    cases hp
  · intro p_9 hp ys v h' hys a1_9 a2 a3 gZ gS
    rcases List.mem_cons.mp hp with rfl | hp
    · obtain rfl := hp_y0 hys
      cases v with
      | none => cases gS
      | some wz =>
        obtain ⟨y0, t0, s0_9, q0, -⟩ := hp_gSi (z := (0 + (1 * v + 0))) gS rfl
        cases s0_9
        exact r0 h' y0 (by omega) a1_9 a2 a3
    cases hp
theorem rk0_k : hp_chk 325 0 3 [(0, (-2147483648), 2147483647), (1, (-2147483648), 2147483647), (2, (-2147483648), 2147483647)] [] [(0, .inr (.inr (.inl (some 94)))), (1, .inl (0, [(0, 1)])), (2, .inl (0, [(1, 1)])), (3, .inl (0, [(2, 1)]))] [] [] [] 2 [(4, ([], 3, [(0, (-2147483648), 2147483647), (1, (-2147483648), 2147483647), (2, (-2147483648), 2147483647)], [], [(0, .inr (.inr (.inl (some 94)))), (1, .inl (0, [(0, 1)])), (2, .inl (0, [(1, 1)])), (3, .inl (0, [(2, 1)]))], [.inl (0, [(2, 1)]), .inl (0, [(1, 1)]), .inl (0, [(0, 1)]), .inr (.inr (.inl (some 94)))], []))] [] = true := by decide +kernel
theorem rk0 {cst : am_K} {strs : List Nat} {Φ : am_Q → Prop} {D : Nat} {M : am_M} {h : am_H} {l : am_L} (c : hp_C cst strs D) (hM : m_P[325]? = some M) (hD : (2 : Int) ≤ (D : Int) + 1) (hy : ly_hy m_tt ly_TH h) (k y s : Int) (b0 : (-2147483648) ≤ k) (t0 : k ≤ 2147483647) (b1 : (-2147483648) ≤ y) (t1 : y ≤ 2147483647) (b2 : (-2147483648) ≤ s) (t2 : s ≤ 2147483647) (l0 : hp_a l 0 94) (l1 : hp_i l 1 (k)) (l2 : hp_i l 2 (y)) (l3 : hp_i l 3 (s)) (e0 : ∀ (l' : am_L) (h' : am_H) (y0 : Int32) (y1 : Int32) (y2 : Int32), y0.toInt = (s) → y1.toInt = (y) → y2.toInt = (k) → ly_hy m_tt ly_TH h' → ly_fr cst [] h h' → h.length ≤ h'.length → hp_a l' 0 94 → hp_i l' 1 (k) → hp_i l' 2 (y) → hp_i l' 3 (s) → hp_F cst strs Φ D M 4 l' [.int y0, .int y1, .int y2, .ref 94] h') : hp_F cst strs Φ D M 0 l [] h := by
  refine hp_arc c hM rk0_k hD [k, y, s] rfl hy (hp_Bc (z := k) rfl b0 t0 (hp_Bc (z := y) rfl b1 t1 (hp_Bc (z := s) rfl b2 t2 hp_Bn))) hp_Fn hp_Kn (hp_La l0 (hp_Li (z := (0 + (1 * k + 0))) l1 rfl (by omega) (hp_Li (z := (0 + (1 * y + 0))) l2 rfl (by omega) (hp_Li (z := (0 + (1 * s + 0))) l3 rfl (by omega) hp_Ln)))) trivial ?_ ?_
  · intro p_9 hp ys l' st' h' hys a1_9 a2 a3 gZ gL gS
    rcases List.mem_cons.mp hp with rfl | hp
    · obtain rfl := hp_y0 hys
      obtain ⟨y0, t0, rfl, q0, g0⟩ := hp_gSi (z := (0 + (1 * s + 0))) gS rfl
      obtain ⟨y1, t1, rfl, q1_9, g1⟩ := hp_gSi (z := (0 + (1 * y + 0))) g0 rfl
      obtain ⟨y2, t2, rfl, q2_9, g2⟩ := hp_gSi (z := (0 + (1 * k + 0))) g1 rfl
      obtain ⟨t3_9, rfl, g3_9⟩ := hp_gSa g2 (by decide)
      cases hp_gSn g3_9
      exact e0 l' h' y0 y1 y2 (by omega) (by omega) (by omega) a1_9 a2 a3 (hp_gLa gL (List.mem_of_getElem? (i := 0) rfl) (by decide)) (hp_gLi (z := (0 + (1 * k + 0))) gL (List.mem_of_getElem? (i := 1) rfl) rfl (by omega)) (hp_gLi (z := (0 + (1 * y + 0))) gL (List.mem_of_getElem? (i := 2) rfl) rfl (by omega)) (hp_gLi (z := (0 + (1 * s + 0))) gL (List.mem_of_getElem? (i := 3) rfl) rfl (by omega))
    cases hp
  · intro p_9 hp ys v_9 h' hys a1_9 a2 a3 gZ gS
    cases hp
theorem rk1_k : hp_chk 325 7 4 [(0, (-2147483648), 2147483647), (1, (-2147483648), 2147483647), (2, (-2147483648), 2147483647), (3, (-2147483648), 2147483647)] [] [(0, .inr (.inr (.inl (some 94)))), (1, .inl (0, [(0, 1)])), (2, .inl (0, [(1, 1)])), (3, .inl (0, [(2, 1)]))] [.inl (0, [(3, 1)])] [(61000, (0, [(3, 1)]), (1, []))] [] 2 [] [([], 4, [(0, (-2147483648), 2147483647), (1, (-2147483648), 2147483647), (2, (-2147483648), 2147483647), (3, (-2147483648), 2147483647)], [], [], [.inl (0, [(3, 1)])], [])] = true := by decide +kernel
theorem rk1 {cst : am_K} {strs : List Nat} {Φ : am_Q → Prop} {D : Nat} {M : am_M} {h : am_H} {l : am_L} (c : hp_C cst strs D) (hM : m_P[325]? = some M) (hD : (2 : Int) ≤ (D : Int) + 1) (hy : ly_hy m_tt ly_TH h) (k y s v : Int) (x0 : Int32) (hx0 : x0.toInt = (v)) (b0 : (-2147483648) ≤ k) (t0 : k ≤ 2147483647) (b1 : (-2147483648) ≤ y) (t1 : y ≤ 2147483647) (b2 : (-2147483648) ≤ s) (t2 : s ≤ 2147483647) (b3 : (-2147483648) ≤ v) (t3 : v ≤ 2147483647) (k0 : ly_hv cst h 61000 (v) = some 1) (l0 : hp_a l 0 94) (l1 : hp_i l 1 (k)) (l2 : hp_i l 2 (y)) (l3 : hp_i l 3 (s)) (r0 : ∀ (h' : am_H) (y0 : Int32), y0.toInt = (v) → ly_hy m_tt ly_TH h' → ly_fr cst [] h h' → h.length ≤ h'.length → Φ (some (.int y0), h', 0, 0)) : hp_F cst strs Φ D M 7 l [.int x0] h := by
  refine hp_arc c hM rk1_k hD [k, y, s, v] rfl hy (hp_Bc (z := k) rfl b0 t0 (hp_Bc (z := y) rfl b1 t1 (hp_Bc (z := s) rfl b2 t2 (hp_Bc (z := v) rfl b3 t3 hp_Bn)))) hp_Fn (hp_Kc (zi := (0 + (1 * v + 0))) (zv := (1 + 0)) k0 rfl rfl (by omega) (by omega) hp_Kn) (hp_La l0 (hp_Li (z := (0 + (1 * k + 0))) l1 rfl (by omega) (hp_Li (z := (0 + (1 * y + 0))) l2 rfl (by omega) (hp_Li (z := (0 + (1 * s + 0))) l3 rfl (by omega) hp_Ln)))) (hp_Si (z := (0 + (1 * v + 0))) rfl (by omega) trivial) ?_ ?_
  · intro p_9 hp ys l' st' h' hys a1_9 a2 a3 gZ gL gS
    cases hp
  · intro p_9 hp ys v h' hys a1_9 a2 a3 gZ gS
    rcases List.mem_cons.mp hp with rfl | hp
    · obtain rfl := hp_y0 hys
      cases v with
      | none => cases gS
      | some wz =>
        obtain ⟨y0, t0, s0_9, q0, -⟩ := hp_gSi (z := (0 + (1 * v + 0))) gS rfl
        cases s0_9
        exact r0 h' y0 (by omega) a1_9 a2 a3
    cases hp
theorem bc0_k : hp_chk 119 0 1 [(0, 0, 1073741823)] [] [(0, .inl (0, [(0, 1)]))] [] [] [] 2 [(3, ([], 1, [(0, 0, 1073741823)], [], [(0, .inl (0, [(0, 1)]))], [.inl (1, []), .inl (0, [(0, 1)]), .inl (0, [(0, 1)])], []))] [] = true := by decide +kernel
theorem bc0 {cst : am_K} {strs : List Nat} {Φ : am_Q → Prop} {D : Nat} {M : am_M} {h : am_H} {l : am_L} (c : hp_C cst strs D) (hM : m_P[119]? = some M) (hD : (2 : Int) ≤ (D : Int) + 1) (hy : ly_hy m_tt ly_TH h) (x : Int) (b0 : 0 ≤ x) (t0 : x ≤ 1073741823) (l0 : hp_i l 0 (x)) (e0 : ∀ (l' : am_L) (h' : am_H) (y0 : Int32) (y1 : Int32) (y2 : Int32), y0.toInt = 1 → y1.toInt = (x) → y2.toInt = (x) → ly_hy m_tt ly_TH h' → ly_fr cst [] h h' → h.length ≤ h'.length → hp_i l' 0 (x) → hp_F cst strs Φ D M 3 l' [.int y0, .int y1, .int y2] h') : hp_F cst strs Φ D M 0 l [] h := by
  refine hp_arc c hM bc0_k hD [x] rfl hy (hp_Bc (z := x) rfl b0 t0 hp_Bn) hp_Fn hp_Kn (hp_Li (z := (0 + (1 * x + 0))) l0 rfl (by omega) hp_Ln) trivial ?_ ?_
  · intro p_9 hp ys l' st' h' hys a1_9 a2 a3 gZ gL gS
    rcases List.mem_cons.mp hp with rfl | hp
    · obtain rfl := hp_y0 hys
      obtain ⟨y0, t0, rfl, q0, g0⟩ := hp_gSi (z := (1 + 0)) gS rfl
      obtain ⟨y1, t1_9, rfl, q1_9, g1⟩ := hp_gSi (z := (0 + (1 * x + 0))) g0 rfl
      obtain ⟨y2, t2_9, rfl, q2_9, g2⟩ := hp_gSi (z := (0 + (1 * x + 0))) g1 rfl
      cases hp_gSn g2
      exact e0 l' h' y0 y1 y2 (by omega) (by omega) (by omega) a1_9 a2 a3 (hp_gLi (z := (0 + (1 * x + 0))) gL (List.mem_of_getElem? (i := 0) rfl) rfl (by omega))
    cases hp
  · intro p_9 hp ys v_9 h' hys a1_9 a2 a3 gZ gS
    cases hp
theorem bc1_k : hp_chk 119 4 2 [(0, 0, 1073741823), (1, 0, 1073741823)] [] [(0, .inl (0, [(0, 1)]))] [.inl (0, [(1, 1)]), .inl (0, [(0, 1)])] [] [] 2 [(7, ([], 2, [(0, 0, 1073741823), (1, 0, 1073741823)], [], [(0, .inl (0, [(0, 1)]))], [.inl (1431655765, []), .inl (0, [(1, 1)]), .inl (0, [(0, 1)])], []))] [] = true := by decide +kernel
theorem bc1 {cst : am_K} {strs : List Nat} {Φ : am_Q → Prop} {D : Nat} {M : am_M} {h : am_H} {l : am_L} (c : hp_C cst strs D) (hM : m_P[119]? = some M) (hD : (2 : Int) ≤ (D : Int) + 1) (hy : ly_hy m_tt ly_TH h) (x u : Int) (x0 : Int32) (x1 : Int32) (hx0 : x0.toInt = (u)) (hx1 : x1.toInt = (x)) (b0 : 0 ≤ x) (t0 : x ≤ 1073741823) (b1 : 0 ≤ u) (t1 : u ≤ 1073741823) (l0 : hp_i l 0 (x)) (e0 : ∀ (l' : am_L) (h' : am_H) (y0 : Int32) (y1 : Int32) (y2 : Int32), y0.toInt = 1431655765 → y1.toInt = (u) → y2.toInt = (x) → ly_hy m_tt ly_TH h' → ly_fr cst [] h h' → h.length ≤ h'.length → hp_i l' 0 (x) → hp_F cst strs Φ D M 7 l' [.int y0, .int y1, .int y2] h') : hp_F cst strs Φ D M 4 l [.int x0, .int x1] h := by
  refine hp_arc c hM bc1_k hD [x, u] rfl hy (hp_Bc (z := x) rfl b0 t0 (hp_Bc (z := u) rfl b1 t1 hp_Bn)) hp_Fn hp_Kn (hp_Li (z := (0 + (1 * x + 0))) l0 rfl (by omega) hp_Ln) (hp_Si (z := (0 + (1 * u + 0))) rfl (by omega) (hp_Si (z := (0 + (1 * x + 0))) rfl (by omega) trivial)) ?_ ?_
  · intro p_9 hp ys l' st' h' hys a1_9 a2 a3 gZ gL gS
    rcases List.mem_cons.mp hp with rfl | hp
    · obtain rfl := hp_y0 hys
      obtain ⟨y0, t0, rfl, q0, g0⟩ := hp_gSi (z := (1431655765 + 0)) gS rfl
      obtain ⟨y1, t1, rfl, q1_9, g1⟩ := hp_gSi (z := (0 + (1 * u + 0))) g0 rfl
      obtain ⟨y2, t2_9, rfl, q2_9, g2⟩ := hp_gSi (z := (0 + (1 * x + 0))) g1 rfl
      cases hp_gSn g2
      exact e0 l' h' y0 y1 y2 (by omega) (by omega) (by omega) a1_9 a2 a3 (hp_gLi (z := (0 + (1 * x + 0))) gL (List.mem_of_getElem? (i := 0) rfl) rfl (by omega))
    cases hp
  · intro p_9 hp ys v_9 h' hys a1_9 a2 a3 gZ gS
    cases hp
theorem bc2_k : hp_chk 119 8 2 [(0, 0, 1073741823), (1, 0, 1073741823)] [(0, [(0, 1), (1, (-1))])] [(0, .inl (0, [(0, 1)]))] [.inl (0, [(1, 1)]), .inl (0, [(0, 1)])] [] [] 2 [(14, ([], 2, [(0, 0, 1073741823), (1, 0, 1073741823)], [], [(0, .inl (0, [(0, 1), (1, (-1))]))], [.inl (858993459, []), .inl (0, [(0, 1), (1, (-1))])], []))] [] = true := by decide +kernel
theorem bc2 {cst : am_K} {strs : List Nat} {Φ : am_Q → Prop} {D : Nat} {M : am_M} {h : am_H} {l : am_L} (c : hp_C cst strs D) (hM : m_P[119]? = some M) (hD : (2 : Int) ≤ (D : Int) + 1) (hy : ly_hy m_tt ly_TH h) (x u : Int) (x0 : Int32) (x1 : Int32) (hx0 : x0.toInt = (u)) (hx1 : x1.toInt = (x)) (b0 : 0 ≤ x) (t0 : x ≤ 1073741823) (b1 : 0 ≤ u) (t1 : u ≤ 1073741823) (f0 : 0 ≤ (x - u)) (l0 : hp_i l 0 (x)) (e0 : ∀ (l' : am_L) (h' : am_H) (y0 : Int32) (y1 : Int32), y0.toInt = 858993459 → y1.toInt = (x - u) → ly_hy m_tt ly_TH h' → ly_fr cst [] h h' → h.length ≤ h'.length → hp_i l' 0 (x - u) → hp_F cst strs Φ D M 14 l' [.int y0, .int y1] h') : hp_F cst strs Φ D M 8 l [.int x0, .int x1] h := by
  refine hp_arc c hM bc2_k hD [x, u] rfl hy (hp_Bc (z := x) rfl b0 t0 (hp_Bc (z := u) rfl b1 t1 hp_Bn)) (hp_Fc (z := (0 + (1 * x + ((-1) * u + 0)))) rfl (by omega) hp_Fn) hp_Kn (hp_Li (z := (0 + (1 * x + 0))) l0 rfl (by omega) hp_Ln) (hp_Si (z := (0 + (1 * u + 0))) rfl (by omega) (hp_Si (z := (0 + (1 * x + 0))) rfl (by omega) trivial)) ?_ ?_
  · intro p_9 hp ys l' st' h' hys a1_9 a2 a3 gZ gL gS
    rcases List.mem_cons.mp hp with rfl | hp
    · obtain rfl := hp_y0 hys
      obtain ⟨y0, t0, rfl, q0, g0⟩ := hp_gSi (z := (858993459 + 0)) gS rfl
      obtain ⟨y1, t1, rfl, q1_9, g1⟩ := hp_gSi (z := (0 + (1 * x + ((-1) * u + 0)))) g0 rfl
      cases hp_gSn g1
      exact e0 l' h' y0 y1 (by omega) (by omega) a1_9 a2 a3 (hp_gLi (z := (0 + (1 * x + ((-1) * u + 0)))) gL (List.mem_of_getElem? (i := 0) rfl) rfl (by omega))
    cases hp
  · intro p_9 hp ys v_9 h' hys a1_9 a2 a3 gZ gS
    cases hp
theorem bc3_k : hp_chk 119 15 2 [(0, 0, 1073741823), (1, 0, 1073741823)] [] [(0, .inl (0, [(0, 1)]))] [.inl (0, [(1, 1)])] [] [] 2 [(17, ([], 2, [(0, 0, 1073741823), (1, 0, 1073741823)], [], [(0, .inl (0, [(0, 1)]))], [.inl (2, []), .inl (0, [(0, 1)]), .inl (0, [(1, 1)])], []))] [] = true := by decide +kernel
theorem bc3 {cst : am_K} {strs : List Nat} {Φ : am_Q → Prop} {D : Nat} {M : am_M} {h : am_H} {l : am_L} (c : hp_C cst strs D) (hM : m_P[119]? = some M) (hD : (2 : Int) ≤ (D : Int) + 1) (hy : ly_hy m_tt ly_TH h) (x u : Int) (x0 : Int32) (hx0 : x0.toInt = (u)) (b0 : 0 ≤ x) (t0 : x ≤ 1073741823) (b1 : 0 ≤ u) (t1 : u ≤ 1073741823) (l0 : hp_i l 0 (x)) (e0 : ∀ (l' : am_L) (h' : am_H) (y0 : Int32) (y1 : Int32) (y2 : Int32), y0.toInt = 2 → y1.toInt = (x) → y2.toInt = (u) → ly_hy m_tt ly_TH h' → ly_fr cst [] h h' → h.length ≤ h'.length → hp_i l' 0 (x) → hp_F cst strs Φ D M 17 l' [.int y0, .int y1, .int y2] h') : hp_F cst strs Φ D M 15 l [.int x0] h := by
  refine hp_arc c hM bc3_k hD [x, u] rfl hy (hp_Bc (z := x) rfl b0 t0 (hp_Bc (z := u) rfl b1 t1 hp_Bn)) hp_Fn hp_Kn (hp_Li (z := (0 + (1 * x + 0))) l0 rfl (by omega) hp_Ln) (hp_Si (z := (0 + (1 * u + 0))) rfl (by omega) trivial) ?_ ?_
  · intro p_9 hp ys l' st' h' hys a1_9 a2 a3 gZ gL gS
    rcases List.mem_cons.mp hp with rfl | hp
    · obtain rfl := hp_y0 hys
      obtain ⟨y0, t0, rfl, q0, g0⟩ := hp_gSi (z := (2 + 0)) gS rfl
      obtain ⟨y1, t1, rfl, q1_9, g1⟩ := hp_gSi (z := (0 + (1 * x + 0))) g0 rfl
      obtain ⟨y2, t2_9, rfl, q2_9, g2⟩ := hp_gSi (z := (0 + (1 * u + 0))) g1 rfl
      cases hp_gSn g2
      exact e0 l' h' y0 y1 y2 (by omega) (by omega) (by omega) a1_9 a2 a3 (hp_gLi (z := (0 + (1 * x + 0))) gL (List.mem_of_getElem? (i := 0) rfl) rfl (by omega))
    cases hp
  · intro p_9 hp ys v_9 h' hys a1_9 a2 a3 gZ gS
    cases hp
theorem bc4_k : hp_chk 119 18 2 [(0, 0, 1073741823), (1, 0, 1073741823)] [] [] [.inl (0, [(0, 1)]), .inl (0, [(1, 1)])] [] [] 2 [(21, ([], 2, [(0, 0, 1073741823), (1, 0, 1073741823)], [], [], [.inl (858993459, []), .inl (0, [(0, 1)]), .inl (0, [(1, 1)])], []))] [] = true := by decide +kernel
theorem bc4 {cst : am_K} {strs : List Nat} {Φ : am_Q → Prop} {D : Nat} {M : am_M} {h : am_H} {l : am_L} (c : hp_C cst strs D) (hM : m_P[119]? = some M) (hD : (2 : Int) ≤ (D : Int) + 1) (hy : ly_hy m_tt ly_TH h) (v u : Int) (x0 : Int32) (x1 : Int32) (hx0 : x0.toInt = (v)) (hx1 : x1.toInt = (u)) (b0 : 0 ≤ v) (t0 : v ≤ 1073741823) (b1 : 0 ≤ u) (t1 : u ≤ 1073741823) (e0 : ∀ (l' : am_L) (h' : am_H) (y0 : Int32) (y1 : Int32) (y2 : Int32), y0.toInt = 858993459 → y1.toInt = (v) → y2.toInt = (u) → ly_hy m_tt ly_TH h' → ly_fr cst [] h h' → h.length ≤ h'.length → hp_F cst strs Φ D M 21 l' [.int y0, .int y1, .int y2] h') : hp_F cst strs Φ D M 18 l [.int x0, .int x1] h := by
  refine hp_arc c hM bc4_k hD [v, u] rfl hy (hp_Bc (z := v) rfl b0 t0 (hp_Bc (z := u) rfl b1 t1 hp_Bn)) hp_Fn hp_Kn hp_Ln (hp_Si (z := (0 + (1 * v + 0))) rfl (by omega) (hp_Si (z := (0 + (1 * u + 0))) rfl (by omega) trivial)) ?_ ?_
  · intro p_9 hp ys l' st' h' hys a1_9 a2 a3 gZ gL gS
    rcases List.mem_cons.mp hp with rfl | hp
    · obtain rfl := hp_y0 hys
      obtain ⟨y0, t0, rfl, q0, g0⟩ := hp_gSi (z := (858993459 + 0)) gS rfl
      obtain ⟨y1, t1, rfl, q1_9, g1⟩ := hp_gSi (z := (0 + (1 * v + 0))) g0 rfl
      obtain ⟨y2, t2_9, rfl, q2_9, g2⟩ := hp_gSi (z := (0 + (1 * u + 0))) g1 rfl
      cases hp_gSn g2
      exact e0 l' h' y0 y1 y2 (by omega) (by omega) (by omega) a1_9 a2 a3
    cases hp
  · intro p_9 hp ys v h' hys a1_9 a2 a3 gZ gS
    cases hp
theorem bc5_k : hp_chk 119 22 2 [(0, 0, 1073741823), (1, 0, 1073741823)] [(2147483647, [(0, (-1)), (1, (-1))])] [] [.inl (0, [(0, 1)]), .inl (0, [(1, 1)])] [] [] 2 [(27, ([], 2, [(0, 0, 1073741823), (1, 0, 1073741823)], [], [(0, .inl (0, [(0, 1), (1, 1)]))], [.inl (4, []), .inl (0, [(0, 1), (1, 1)]), .inl (0, [(0, 1), (1, 1)])], []))] [] = true := by decide +kernel
theorem bc5 {cst : am_K} {strs : List Nat} {Φ : am_Q → Prop} {D : Nat} {M : am_M} {h : am_H} {l : am_L} (c : hp_C cst strs D) (hM : m_P[119]? = some M) (hD : (2 : Int) ≤ (D : Int) + 1) (hy : ly_hy m_tt ly_TH h) (v u : Int) (x0 : Int32) (x1 : Int32) (hx0 : x0.toInt = (v)) (hx1 : x1.toInt = (u)) (b0 : 0 ≤ v) (t0 : v ≤ 1073741823) (b1 : 0 ≤ u) (t1 : u ≤ 1073741823) (f0 : 0 ≤ (-u - v + 2147483647)) (e0 : ∀ (l' : am_L) (h' : am_H) (y0 : Int32) (y1 : Int32) (y2 : Int32), y0.toInt = 4 → y1.toInt = (u + v) → y2.toInt = (u + v) → ly_hy m_tt ly_TH h' → ly_fr cst [] h h' → h.length ≤ h'.length → hp_i l' 0 (u + v) → hp_F cst strs Φ D M 27 l' [.int y0, .int y1, .int y2] h') : hp_F cst strs Φ D M 22 l [.int x0, .int x1] h := by
  refine hp_arc c hM bc5_k hD [v, u] rfl hy (hp_Bc (z := v) rfl b0 t0 (hp_Bc (z := u) rfl b1 t1 hp_Bn)) (hp_Fc (z := (2147483647 + ((-1) * v + ((-1) * u + 0)))) rfl (by omega) hp_Fn) hp_Kn hp_Ln (hp_Si (z := (0 + (1 * v + 0))) rfl (by omega) (hp_Si (z := (0 + (1 * u + 0))) rfl (by omega) trivial)) ?_ ?_
  · intro p_9 hp ys l' st' h' hys a1_9 a2 a3 gZ gL gS
    rcases List.mem_cons.mp hp with rfl | hp
    · obtain rfl := hp_y0 hys
      obtain ⟨y0, t0, rfl, q0, g0⟩ := hp_gSi (z := (4 + 0)) gS rfl
      obtain ⟨y1, t1, rfl, q1_9, g1⟩ := hp_gSi (z := (0 + (1 * v + (1 * u + 0)))) g0 rfl
      obtain ⟨y2, t2_9, rfl, q2_9, g2⟩ := hp_gSi (z := (0 + (1 * v + (1 * u + 0)))) g1 rfl
      cases hp_gSn g2
      exact e0 l' h' y0 y1 y2 (by omega) (by omega) (by omega) a1_9 a2 a3 (hp_gLi (z := (0 + (1 * v + (1 * u + 0)))) gL (List.mem_of_getElem? (i := 0) rfl) rfl (by omega))
    cases hp
  · intro p_9 hp ys v h' hys a1_9 a2 a3 gZ gS
    cases hp
theorem bc6_k : hp_chk 119 28 2 [(0, 0, 71582789), (1, 0, 1145324612)] [] [(0, .inl (0, [(1, 1)]))] [.inl (0, [(0, 1)]), .inl (0, [(1, 1)])] [] [] 2 [(32, ([], 2, [(0, 0, 71582789), (1, 0, 1145324612)], [], [], [.inl (252645135, []), .inl (0, [(0, 1), (1, 1)])], []))] [] = true := by decide +kernel
theorem bc6 {cst : am_K} {strs : List Nat} {Φ : am_Q → Prop} {D : Nat} {M : am_M} {h : am_H} {l : am_L} (c : hp_C cst strs D) (hM : m_P[119]? = some M) (hD : (2 : Int) ≤ (D : Int) + 1) (hy : ly_hy m_tt ly_TH h) (v x : Int) (x0 : Int32) (x1 : Int32) (hx0 : x0.toInt = (v)) (hx1 : x1.toInt = (x)) (b0 : 0 ≤ v) (t0 : v ≤ 71582789) (b1 : 0 ≤ x) (t1 : x ≤ 1145324612) (l0 : hp_i l 0 (x)) (e0 : ∀ (l' : am_L) (h' : am_H) (y0 : Int32) (y1 : Int32), y0.toInt = 252645135 → y1.toInt = (x + v) → ly_hy m_tt ly_TH h' → ly_fr cst [] h h' → h.length ≤ h'.length → hp_F cst strs Φ D M 32 l' [.int y0, .int y1] h') : hp_F cst strs Φ D M 28 l [.int x0, .int x1] h := by
  refine hp_arc c hM bc6_k hD [v, x] rfl hy (hp_Bc (z := v) rfl b0 t0 (hp_Bc (z := x) rfl b1 t1 hp_Bn)) hp_Fn hp_Kn (hp_Li (z := (0 + (1 * x + 0))) l0 rfl (by omega) hp_Ln) (hp_Si (z := (0 + (1 * v + 0))) rfl (by omega) (hp_Si (z := (0 + (1 * x + 0))) rfl (by omega) trivial)) ?_ ?_
  · intro p_9 hp ys l' st' h' hys a1_9 a2 a3 gZ gL gS
    rcases List.mem_cons.mp hp with rfl | hp
    · obtain rfl := hp_y0 hys
      obtain ⟨y0, t0, rfl, q0, g0⟩ := hp_gSi (z := (252645135 + 0)) gS rfl
      obtain ⟨y1, t1, rfl, q1_9, g1⟩ := hp_gSi (z := (0 + (1 * v + (1 * x + 0)))) g0 rfl
      cases hp_gSn g1
      exact e0 l' h' y0 y1 (by omega) (by omega) a1_9 a2 a3
    cases hp
  · intro p_9 hp ys v h' hys a1_9 a2 a3 gZ gS
    cases hp
theorem bc7_k : hp_chk 119 33 1 [(0, 0, 1073741823)] [] [] [.inl (0, [(0, 1)])] [] [] 2 [(38, ([], 1, [(0, 0, 1073741823)], [], [(0, .inl (0, [(0, 1)]))], [.inl (8, []), .inl (0, [(0, 1)]), .inl (0, [(0, 1)])], []))] [] = true := by decide +kernel
theorem bc7 {cst : am_K} {strs : List Nat} {Φ : am_Q → Prop} {D : Nat} {M : am_M} {h : am_H} {l : am_L} (c : hp_C cst strs D) (hM : m_P[119]? = some M) (hD : (2 : Int) ≤ (D : Int) + 1) (hy : ly_hy m_tt ly_TH h) (x : Int) (x0 : Int32) (hx0 : x0.toInt = (x)) (b0 : 0 ≤ x) (t0 : x ≤ 1073741823) (e0 : ∀ (l' : am_L) (h' : am_H) (y0 : Int32) (y1 : Int32) (y2 : Int32), y0.toInt = 8 → y1.toInt = (x) → y2.toInt = (x) → ly_hy m_tt ly_TH h' → ly_fr cst [] h h' → h.length ≤ h'.length → hp_i l' 0 (x) → hp_F cst strs Φ D M 38 l' [.int y0, .int y1, .int y2] h') : hp_F cst strs Φ D M 33 l [.int x0] h := by
  refine hp_arc c hM bc7_k hD [x] rfl hy (hp_Bc (z := x) rfl b0 t0 hp_Bn) hp_Fn hp_Kn hp_Ln (hp_Si (z := (0 + (1 * x + 0))) rfl (by omega) trivial) ?_ ?_
  · intro p_9 hp ys l' st' h' hys a1_9 a2 a3 gZ gL gS
    rcases List.mem_cons.mp hp with rfl | hp
    · obtain rfl := hp_y0 hys
      obtain ⟨y0, t0, rfl, q0, g0⟩ := hp_gSi (z := (8 + 0)) gS rfl
      obtain ⟨y1, t1_9, rfl, q1_9, g1⟩ := hp_gSi (z := (0 + (1 * x + 0))) g0 rfl
      obtain ⟨y2, t2_9, rfl, q2_9, g2⟩ := hp_gSi (z := (0 + (1 * x + 0))) g1 rfl
      cases hp_gSn g2
      exact e0 l' h' y0 y1 y2 (by omega) (by omega) (by omega) a1_9 a2 a3 (hp_gLi (z := (0 + (1 * x + 0))) gL (List.mem_of_getElem? (i := 0) rfl) rfl (by omega))
    cases hp
  · intro p_9 hp ys v_9 h' hys a1_9 a2 a3 gZ gS
    cases hp
theorem bc8_k : hp_chk 119 39 2 [(0, 0, 1073741823), (1, 0, 1073741823)] [] [(0, .inl (0, [(1, 1)]))] [.inl (0, [(0, 1)]), .inl (0, [(1, 1)])] [] [] 2 [(45, ([], 2, [(0, 0, 1073741823), (1, 0, 1073741823)], [], [(0, .inl (0, [(0, 1), (1, 1)]))], [.inl (16, []), .inl (0, [(0, 1), (1, 1)]), .inl (0, [(0, 1), (1, 1)])], []))] [] = true := by decide +kernel
theorem bc8 {cst : am_K} {strs : List Nat} {Φ : am_Q → Prop} {D : Nat} {M : am_M} {h : am_H} {l : am_L} (c : hp_C cst strs D) (hM : m_P[119]? = some M) (hD : (2 : Int) ≤ (D : Int) + 1) (hy : ly_hy m_tt ly_TH h) (v x : Int) (x0 : Int32) (x1 : Int32) (hx0 : x0.toInt = (v)) (hx1 : x1.toInt = (x)) (b0 : 0 ≤ v) (t0 : v ≤ 1073741823) (b1 : 0 ≤ x) (t1 : x ≤ 1073741823) (l0 : hp_i l 0 (x)) (e0 : ∀ (l' : am_L) (h' : am_H) (y0 : Int32) (y1 : Int32) (y2 : Int32), y0.toInt = 16 → y1.toInt = (x + v) → y2.toInt = (x + v) → ly_hy m_tt ly_TH h' → ly_fr cst [] h h' → h.length ≤ h'.length → hp_i l' 0 (x + v) → hp_F cst strs Φ D M 45 l' [.int y0, .int y1, .int y2] h') : hp_F cst strs Φ D M 39 l [.int x0, .int x1] h := by
  refine hp_arc c hM bc8_k hD [v, x] rfl hy (hp_Bc (z := v) rfl b0 t0 (hp_Bc (z := x) rfl b1 t1 hp_Bn)) hp_Fn hp_Kn (hp_Li (z := (0 + (1 * x + 0))) l0 rfl (by omega) hp_Ln) (hp_Si (z := (0 + (1 * v + 0))) rfl (by omega) (hp_Si (z := (0 + (1 * x + 0))) rfl (by omega) trivial)) ?_ ?_
  · intro p_9 hp ys l' st' h' hys a1_9 a2 a3 gZ gL gS
    rcases List.mem_cons.mp hp with rfl | hp
    · obtain rfl := hp_y0 hys
      obtain ⟨y0, t0, rfl, q0, g0⟩ := hp_gSi (z := (16 + 0)) gS rfl
      obtain ⟨y1, t1, rfl, q1_9, g1⟩ := hp_gSi (z := (0 + (1 * v + (1 * x + 0)))) g0 rfl
      obtain ⟨y2, t2_9, rfl, q2_9, g2⟩ := hp_gSi (z := (0 + (1 * v + (1 * x + 0)))) g1 rfl
      cases hp_gSn g2
      exact e0 l' h' y0 y1 y2 (by omega) (by omega) (by omega) a1_9 a2 a3 (hp_gLi (z := (0 + (1 * v + (1 * x + 0)))) gL (List.mem_of_getElem? (i := 0) rfl) rfl (by omega))
    cases hp
  · intro p_9 hp ys v h' hys a1_9 a2 a3 gZ gS
    cases hp
theorem bc9_k : hp_chk 119 46 2 [(0, 0, 1073741823), (1, 0, 1073741823)] [] [(0, .inl (0, [(1, 1)]))] [.inl (0, [(0, 1)]), .inl (0, [(1, 1)])] [] [] 2 [(51, ([], 2, [(0, 0, 1073741823), (1, 0, 1073741823)], [], [(0, .inl (0, [(0, 1), (1, 1)]))], [.inl (63, []), .inl (0, [(0, 1), (1, 1)])], []))] [] = true := by decide +kernel
theorem bc9 {cst : am_K} {strs : List Nat} {Φ : am_Q → Prop} {D : Nat} {M : am_M} {h : am_H} {l : am_L} (c : hp_C cst strs D) (hM : m_P[119]? = some M) (hD : (2 : Int) ≤ (D : Int) + 1) (hy : ly_hy m_tt ly_TH h) (v x : Int) (x0 : Int32) (x1 : Int32) (hx0 : x0.toInt = (v)) (hx1 : x1.toInt = (x)) (b0 : 0 ≤ v) (t0 : v ≤ 1073741823) (b1 : 0 ≤ x) (t1 : x ≤ 1073741823) (l0 : hp_i l 0 (x)) (e0 : ∀ (l' : am_L) (h' : am_H) (y0 : Int32) (y1 : Int32), y0.toInt = 63 → y1.toInt = (x + v) → ly_hy m_tt ly_TH h' → ly_fr cst [] h h' → h.length ≤ h'.length → hp_i l' 0 (x + v) → hp_F cst strs Φ D M 51 l' [.int y0, .int y1] h') : hp_F cst strs Φ D M 46 l [.int x0, .int x1] h := by
  refine hp_arc c hM bc9_k hD [v, x] rfl hy (hp_Bc (z := v) rfl b0 t0 (hp_Bc (z := x) rfl b1 t1 hp_Bn)) hp_Fn hp_Kn (hp_Li (z := (0 + (1 * x + 0))) l0 rfl (by omega) hp_Ln) (hp_Si (z := (0 + (1 * v + 0))) rfl (by omega) (hp_Si (z := (0 + (1 * x + 0))) rfl (by omega) trivial)) ?_ ?_
  · intro p_9 hp ys l' st' h' hys a1_9 a2 a3 gZ gL gS
    rcases List.mem_cons.mp hp with rfl | hp
    · obtain rfl := hp_y0 hys
      obtain ⟨y0, t0, rfl, q0, g0⟩ := hp_gSi (z := (63 + 0)) gS rfl
      obtain ⟨y1, t1, rfl, q1_9, g1⟩ := hp_gSi (z := (0 + (1 * v + (1 * x + 0)))) g0 rfl
      cases hp_gSn g1
      exact e0 l' h' y0 y1 (by omega) (by omega) a1_9 a2 a3 (hp_gLi (z := (0 + (1 * v + (1 * x + 0)))) gL (List.mem_of_getElem? (i := 0) rfl) rfl (by omega))
    cases hp
  · intro p_9 hp ys v h' hys a1_9 a2 a3 gZ gS
    cases hp
theorem bcA_k : hp_chk 119 52 1 [(0, 0, 2147483647)] [] [] [.inl (0, [(0, 1)])] [] [] 2 [] [([], 1, [(0, 0, 2147483647)], [], [], [.inl (0, [(0, 1)])], [])] = true := by decide +kernel
theorem bcA {cst : am_K} {strs : List Nat} {Φ : am_Q → Prop} {D : Nat} {M : am_M} {h : am_H} {l : am_L} (c : hp_C cst strs D) (hM : m_P[119]? = some M) (hD : (2 : Int) ≤ (D : Int) + 1) (hy : ly_hy m_tt ly_TH h) (x : Int) (x0 : Int32) (hx0 : x0.toInt = (x)) (b0 : 0 ≤ x) (t0 : x ≤ 2147483647) (r0 : ∀ (h' : am_H) (y0 : Int32), y0.toInt = (x) → ly_hy m_tt ly_TH h' → ly_fr cst [] h h' → h.length ≤ h'.length → Φ (some (.int y0), h', 0, 0)) : hp_F cst strs Φ D M 52 l [.int x0] h := by
  refine hp_arc c hM bcA_k hD [x] rfl hy (hp_Bc (z := x) rfl b0 t0 hp_Bn) hp_Fn hp_Kn hp_Ln (hp_Si (z := (0 + (1 * x + 0))) rfl (by omega) trivial) ?_ ?_
  · intro p_9 hp ys l' st' h' hys a1_9 a2 a3 gZ gL gS
    cases hp
  · intro p_9 hp ys v_9 h' hys a1_9 a2 a3 gZ gS
    rcases List.mem_cons.mp hp with rfl | hp
    · obtain rfl := hp_y0 hys
      cases v_9 with
      | none => cases gS
      | some wz =>
        obtain ⟨y0, t0, s0_9, q0, -⟩ := hp_gSi (z := (0 + (1 * x + 0))) gS rfl
        cases s0_9
        exact r0 h' y0 (by omega) a1_9 a2 a3
    cases hp
theorem qu0_k : hp_chk 118 0 4 [(0, 0, 13), (1, (-9223372036854775808), 9223372036854775807), (2, (-2147483648), 2147483647), (3, (-2147483648), 2147483647)] [] [(0, .inr (.inr (.inl (some 30)))), (1, .inl (0, [(0, 1)])), (2, .inr (.inl (0, [(1, 1)]))), (4, .inl (0, [(2, 1)])), (5, .inl (0, [(3, 1)]))] [] [] [] 2 [(5, ([], 4, [(0, 0, 13), (1, (-9223372036854775808), 9223372036854775807), (2, (-2147483648), 2147483647), (3, (-2147483648), 2147483647)], [], [(0, .inr (.inr (.inl (some 30)))), (1, .inl (0, [(0, 1)])), (2, .inr (.inl (0, [(1, 1)]))), (4, .inl (0, [(2, 1)])), (5, .inl (0, [(3, 1)]))], [.inl (0, [(3, 1)]), .inl (0, [(2, 1)]), .inr (.inr (.inl (some 30)))], []))] [] = true := by decide +kernel
theorem qu0 {cst : am_K} {strs : List Nat} {Φ : am_Q → Prop} {D : Nat} {M : am_M} {h : am_H} {l : am_L} (c : hp_C cst strs D) (hM : m_P[118]? = some M) (hD : (2 : Int) ≤ (D : Int) + 1) (hy : ly_hy m_tt ly_TH h) (k d y s : Int) (b0 : 0 ≤ k) (t0 : k ≤ 13) (b1 : (-9223372036854775808) ≤ d) (t1 : d ≤ 9223372036854775807) (b2 : (-2147483648) ≤ y) (t2 : y ≤ 2147483647) (b3 : (-2147483648) ≤ s) (t3 : s ≤ 2147483647) (l0 : hp_a l 0 30) (l1 : hp_i l 1 (k)) (l2 : hp_j l 2 (d)) (l4 : hp_i l 4 (y)) (l5 : hp_i l 5 (s)) (e0 : ∀ (l' : am_L) (h' : am_H) (y0 : Int32) (y1 : Int32), y0.toInt = (s) → y1.toInt = (y) → ly_hy m_tt ly_TH h' → ly_fr cst [] h h' → h.length ≤ h'.length → hp_a l' 0 30 → hp_i l' 1 (k) → hp_j l' 2 (d) → hp_i l' 4 (y) → hp_i l' 5 (s) → hp_F cst strs Φ D M 5 l' [.int y0, .int y1, .ref 30] h') : hp_F cst strs Φ D M 0 l [] h := by
  refine hp_arc c hM qu0_k hD [k, d, y, s] rfl hy (hp_Bc (z := k) rfl b0 t0 (hp_Bc (z := d) rfl b1 t1 (hp_Bc (z := y) rfl b2 t2 (hp_Bc (z := s) rfl b3 t3 hp_Bn)))) hp_Fn hp_Kn (hp_La l0 (hp_Li (z := (0 + (1 * k + 0))) l1 rfl (by omega) (hp_Lj (z := (0 + (1 * d + 0))) l2 rfl (by omega) (hp_Li (z := (0 + (1 * y + 0))) l4 rfl (by omega) (hp_Li (z := (0 + (1 * s + 0))) l5 rfl (by omega) hp_Ln))))) trivial ?_ ?_
  · intro p_9 hp ys l' st' h' hys a1_9 a2 a3 gZ gL gS
    rcases List.mem_cons.mp hp with rfl | hp
    · obtain rfl := hp_y0 hys
      obtain ⟨y0, t0, rfl, q0, g0⟩ := hp_gSi (z := (0 + (1 * s + 0))) gS rfl
      obtain ⟨y1, t1, rfl, q1_9, g1⟩ := hp_gSi (z := (0 + (1 * y + 0))) g0 rfl
      obtain ⟨t2, rfl, g2⟩ := hp_gSa g1 (by decide)
      cases hp_gSn g2
      exact e0 l' h' y0 y1 (by omega) (by omega) a1_9 a2 a3 (hp_gLa gL (List.mem_of_getElem? (i := 0) rfl) (by decide)) (hp_gLi (z := (0 + (1 * k + 0))) gL (List.mem_of_getElem? (i := 1) rfl) rfl (by omega)) (hp_gLj (z := (0 + (1 * d + 0))) gL (List.mem_of_getElem? (i := 2) rfl) rfl (by omega)) (hp_gLi (z := (0 + (1 * y + 0))) gL (List.mem_of_getElem? (i := 3) rfl) rfl (by omega)) (hp_gLi (z := (0 + (1 * s + 0))) gL (List.mem_of_getElem? (i := 4) rfl) rfl (by omega))
    cases hp
  · intro p_9 hp ys v_9 h' hys a1_9 a2 a3 gZ gS
    cases hp
theorem qu1_k : hp_chk 118 8 5 [(0, 0, 13), (1, (-9223372036854775808), 9223372036854775807), (2, (-2147483648), 2147483647), (3, (-2147483648), 2147483647), (4, (-2147483648), 2147483647)] [] [(0, .inr (.inr (.inl (some 30)))), (1, .inl (0, [(0, 1)])), (2, .inr (.inl (0, [(1, 1)]))), (4, .inl (0, [(2, 1)])), (5, .inl (0, [(3, 1)]))] [.inl (0, [(4, 1)])] [] [] 2 [(17, ([], 5, [(0, 0, 13), (1, (-9223372036854775808), 9223372036854775807), (2, (-2147483648), 2147483647), (3, (-2147483648), 2147483647), (4, (-2147483648), 2147483647)], [], [(0, .inr (.inr (.inl (some 30)))), (1, .inl (0, [(0, 1)])), (2, .inr (.inl (0, [(1, 1)]))), (4, .inl (0, [(2, 1)])), (5, .inl (0, [(3, 1)])), (6, .inl (0, [(4, 1)]))], [.inl (0, [(3, 1)]), .inl (0, [(2, 1)]), .inr (.inl (0, [(1, 1)])), .inl (0, [(0, 1)]), .inr (.inr (.inl (some 30)))], []))] [] = true := by decide +kernel
theorem qu1 {cst : am_K} {strs : List Nat} {Φ : am_Q → Prop} {D : Nat} {M : am_M} {h : am_H} {l : am_L} (c : hp_C cst strs D) (hM : m_P[118]? = some M) (hD : (2 : Int) ≤ (D : Int) + 1) (hy : ly_hy m_tt ly_TH h) (k d y s b : Int) (x0 : Int32) (hx0 : x0.toInt = (b)) (b0 : 0 ≤ k) (t0 : k ≤ 13) (b1 : (-9223372036854775808) ≤ d) (t1 : d ≤ 9223372036854775807) (b2 : (-2147483648) ≤ y) (t2 : y ≤ 2147483647) (b3 : (-2147483648) ≤ s) (t3 : s ≤ 2147483647) (b4 : (-2147483648) ≤ b) (t4 : b ≤ 2147483647) (l0 : hp_a l 0 30) (l1 : hp_i l 1 (k)) (l2 : hp_j l 2 (d)) (l4 : hp_i l 4 (y)) (l5 : hp_i l 5 (s)) (e0 : ∀ (l' : am_L) (h' : am_H) (y0 : Int32) (y1 : Int32) (y2 : Int64) (y3 : Int32), y0.toInt = (s) → y1.toInt = (y) → y2.toInt = (d) → y3.toInt = (k) → ly_hy m_tt ly_TH h' → ly_fr cst [] h h' → h.length ≤ h'.length → hp_a l' 0 30 → hp_i l' 1 (k) → hp_j l' 2 (d) → hp_i l' 4 (y) → hp_i l' 5 (s) → hp_i l' 6 (b) → hp_F cst strs Φ D M 17 l' [.int y0, .int y1, .long y2, .int y3, .ref 30] h') : hp_F cst strs Φ D M 8 l [.int x0] h := by
  refine hp_arc c hM qu1_k hD [k, d, y, s, b] rfl hy (hp_Bc (z := k) rfl b0 t0 (hp_Bc (z := d) rfl b1 t1 (hp_Bc (z := y) rfl b2 t2 (hp_Bc (z := s) rfl b3 t3 (hp_Bc (z := b) rfl b4 t4 hp_Bn))))) hp_Fn hp_Kn (hp_La l0 (hp_Li (z := (0 + (1 * k + 0))) l1 rfl (by omega) (hp_Lj (z := (0 + (1 * d + 0))) l2 rfl (by omega) (hp_Li (z := (0 + (1 * y + 0))) l4 rfl (by omega) (hp_Li (z := (0 + (1 * s + 0))) l5 rfl (by omega) hp_Ln))))) (hp_Si (z := (0 + (1 * b + 0))) rfl (by omega) trivial) ?_ ?_
  · intro p_9 hp ys l' st' h' hys a1_9 a2 a3 gZ gL gS
    rcases List.mem_cons.mp hp with rfl | hp
    · obtain rfl := hp_y0 hys
      obtain ⟨y0, t0, rfl, q0, g0⟩ := hp_gSi (z := (0 + (1 * s + 0))) gS rfl
      obtain ⟨y1, t1, rfl, q1_9, g1⟩ := hp_gSi (z := (0 + (1 * y + 0))) g0 rfl
      obtain ⟨y2, t2, rfl, q2_9, g2⟩ := hp_gSj (z := (0 + (1 * d + 0))) g1 rfl
      obtain ⟨y3, t3, rfl, q3_9, g3_9⟩ := hp_gSi (z := (0 + (1 * k + 0))) g2 rfl
      obtain ⟨t4, rfl, g4⟩ := hp_gSa g3_9 (by decide)
      cases hp_gSn g4
      exact e0 l' h' y0 y1 y2 y3 (by omega) (by omega) (by omega) (by omega) a1_9 a2 a3 (hp_gLa gL (List.mem_of_getElem? (i := 0) rfl) (by decide)) (hp_gLi (z := (0 + (1 * k + 0))) gL (List.mem_of_getElem? (i := 1) rfl) rfl (by omega)) (hp_gLj (z := (0 + (1 * d + 0))) gL (List.mem_of_getElem? (i := 2) rfl) rfl (by omega)) (hp_gLi (z := (0 + (1 * y + 0))) gL (List.mem_of_getElem? (i := 3) rfl) rfl (by omega)) (hp_gLi (z := (0 + (1 * s + 0))) gL (List.mem_of_getElem? (i := 4) rfl) rfl (by omega)) (hp_gLi (z := (0 + (1 * b + 0))) gL (List.mem_of_getElem? (i := 5) rfl) rfl (by omega))
    cases hp
  · intro p_9 hp ys v_9 h' hys a1_9 a2 a3 gZ gS
    cases hp
theorem qu2_k : hp_chk 118 20 6 [(0, 0, 13), (1, (-9223372036854775808), 9223372036854775807), (2, (-2147483648), 2147483647), (3, (-2147483648), 2147483647), (4, (-2147483648), 2147483647), (5, (-1), 29)] [] [(0, .inr (.inr (.inl (some 30)))), (1, .inl (0, [(0, 1)])), (2, .inr (.inl (0, [(1, 1)]))), (4, .inl (0, [(2, 1)])), (5, .inl (0, [(3, 1)])), (6, .inl (0, [(4, 1)]))] [.inl (0, [(5, 1)])] [] [] 2 [(28, ([], 6, [(0, 0, 13), (1, (-9223372036854775808), 9223372036854775807), (2, (-2147483648), 2147483647), (3, (-2147483648), 2147483647), (4, (-2147483648), 2147483647), (5, (-1), 29)], [], [(0, .inr (.inr (.inl (some 30)))), (1, .inl (0, [(0, 1)])), (2, .inr (.inl (0, [(1, 1)]))), (4, .inl (0, [(2, 1)])), (5, .inl (0, [(3, 1)])), (6, .inl (0, [(4, 1)])), (7, .inl (0, [(5, 1)])), (8, .inl (0, [])), (9, .inl (0, []))], [], []))] [] = true := by decide +kernel
theorem qu2 {cst : am_K} {strs : List Nat} {Φ : am_Q → Prop} {D : Nat} {M : am_M} {h : am_H} {l : am_L} (c : hp_C cst strs D) (hM : m_P[118]? = some M) (hD : (2 : Int) ≤ (D : Int) + 1) (hy : ly_hy m_tt ly_TH h) (k d y s b la : Int) (x0 : Int32) (hx0 : x0.toInt = (la)) (b0 : 0 ≤ k) (t0 : k ≤ 13) (b1 : (-9223372036854775808) ≤ d) (t1 : d ≤ 9223372036854775807) (b2 : (-2147483648) ≤ y) (t2 : y ≤ 2147483647) (b3 : (-2147483648) ≤ s) (t3 : s ≤ 2147483647) (b4 : (-2147483648) ≤ b) (t4 : b ≤ 2147483647) (b5 : (-1) ≤ la) (t5 : la ≤ 29) (l0 : hp_a l 0 30) (l1 : hp_i l 1 (k)) (l2 : hp_j l 2 (d)) (l4 : hp_i l 4 (y)) (l5 : hp_i l 5 (s)) (l6 : hp_i l 6 (b)) (e0 : ∀ (l' : am_L) (h' : am_H), ly_hy m_tt ly_TH h' → ly_fr cst [] h h' → h.length ≤ h'.length → hp_a l' 0 30 → hp_i l' 1 (k) → hp_j l' 2 (d) → hp_i l' 4 (y) → hp_i l' 5 (s) → hp_i l' 6 (b) → hp_i l' 7 (la) → hp_i l' 8 0 → hp_i l' 9 0 → hp_F cst strs Φ D M 28 l' [] h') : hp_F cst strs Φ D M 20 l [.int x0] h := by
  refine hp_arc c hM qu2_k hD [k, d, y, s, b, la] rfl hy (hp_Bc (z := k) rfl b0 t0 (hp_Bc (z := d) rfl b1 t1 (hp_Bc (z := y) rfl b2 t2 (hp_Bc (z := s) rfl b3 t3 (hp_Bc (z := b) rfl b4 t4 (hp_Bc (z := la) rfl b5 t5 hp_Bn)))))) hp_Fn hp_Kn (hp_La l0 (hp_Li (z := (0 + (1 * k + 0))) l1 rfl (by omega) (hp_Lj (z := (0 + (1 * d + 0))) l2 rfl (by omega) (hp_Li (z := (0 + (1 * y + 0))) l4 rfl (by omega) (hp_Li (z := (0 + (1 * s + 0))) l5 rfl (by omega) (hp_Li (z := (0 + (1 * b + 0))) l6 rfl (by omega) hp_Ln)))))) (hp_Si (z := (0 + (1 * la + 0))) rfl (by omega) trivial) ?_ ?_
  · intro p_9 hp ys l' st' h' hys a1_9 a2 a3 gZ gL gS
    rcases List.mem_cons.mp hp with rfl | hp
    · obtain rfl := hp_y0 hys
      cases hp_gSn gS
      exact e0 l' h' a1_9 a2 a3 (hp_gLa gL (List.mem_of_getElem? (i := 0) rfl) (by decide)) (hp_gLi (z := (0 + (1 * k + 0))) gL (List.mem_of_getElem? (i := 1) rfl) rfl (by omega)) (hp_gLj (z := (0 + (1 * d + 0))) gL (List.mem_of_getElem? (i := 2) rfl) rfl (by omega)) (hp_gLi (z := (0 + (1 * y + 0))) gL (List.mem_of_getElem? (i := 3) rfl) rfl (by omega)) (hp_gLi (z := (0 + (1 * s + 0))) gL (List.mem_of_getElem? (i := 4) rfl) rfl (by omega)) (hp_gLi (z := (0 + (1 * b + 0))) gL (List.mem_of_getElem? (i := 5) rfl) rfl (by omega)) (hp_gLi (z := (0 + (1 * la + 0))) gL (List.mem_of_getElem? (i := 6) rfl) rfl (by omega)) (hp_gLi (z := (0 + 0)) gL (List.mem_of_getElem? (i := 7) rfl) rfl (by omega)) (hp_gLi (z := (0 + 0)) gL (List.mem_of_getElem? (i := 8) rfl) rfl (by omega))
    cases hp
  · intro p_9 hp ys v_9 h' hys a1_9 a2 a3 gZ gS
    cases hp
theorem qu3_k : hp_chk 118 28 7 [(0, 0, 13), (1, (-9223372036854775808), 9223372036854775807), (2, (-2147483648), 2147483647), (3, (-2147483648), 2147483647), (4, (-2147483648), 2147483647), (5, (-1), 29), (6, (-2147483648), 2147483647)] [] [(0, .inr (.inr (.inl (some 30)))), (1, .inl (0, [(0, 1)])), (2, .inr (.inl (0, [(1, 1)]))), (4, .inl (0, [(2, 1)])), (5, .inl (0, [(3, 1)])), (6, .inl (0, [(4, 1)])), (7, .inl (0, [(5, 1)])), (8, .inl (0, [(6, 1)])), (9, .inl (1, [(5, 1)]))] [] [] [] 2 [(83, ([], 7, [(0, 0, 13), (1, (-9223372036854775808), 9223372036854775807), (2, (-2147483648), 2147483647), (3, (-2147483648), 2147483647), (4, (-2147483648), 2147483647), (5, (-1), 29), (6, (-2147483648), 2147483647)], [], [(0, .inr (.inr (.inl (some 30)))), (8, .inl (0, [(6, 1)]))], [.inl (0, [(6, 1)])], []))] [] = true := by decide +kernel
theorem qu3 {cst : am_K} {strs : List Nat} {Φ : am_Q → Prop} {D : Nat} {M : am_M} {h : am_H} {l : am_L} (c : hp_C cst strs D) (hM : m_P[118]? = some M) (hD : (2 : Int) ≤ (D : Int) + 1) (hy : ly_hy m_tt ly_TH h) (k d y s b la o : Int) (b0 : 0 ≤ k) (t0 : k ≤ 13) (b1 : (-9223372036854775808) ≤ d) (t1 : d ≤ 9223372036854775807) (b2 : (-2147483648) ≤ y) (t2 : y ≤ 2147483647) (b3 : (-2147483648) ≤ s) (t3 : s ≤ 2147483647) (b4 : (-2147483648) ≤ b) (t4 : b ≤ 2147483647) (b5 : (-1) ≤ la) (t5 : la ≤ 29) (b6 : (-2147483648) ≤ o) (t6 : o ≤ 2147483647) (l0 : hp_a l 0 30) (l1 : hp_i l 1 (k)) (l2 : hp_j l 2 (d)) (l4 : hp_i l 4 (y)) (l5 : hp_i l 5 (s)) (l6 : hp_i l 6 (b)) (l7 : hp_i l 7 (la)) (l8 : hp_i l 8 (o)) (l9 : hp_i l 9 (la + 1)) (e0 : ∀ (l' : am_L) (h' : am_H) (y0 : Int32), y0.toInt = (o) → ly_hy m_tt ly_TH h' → ly_fr cst [] h h' → h.length ≤ h'.length → hp_a l' 0 30 → hp_i l' 8 (o) → hp_F cst strs Φ D M 83 l' [.int y0] h') : hp_F cst strs Φ D M 28 l [] h := by
  refine hp_arc c hM qu3_k hD [k, d, y, s, b, la, o] rfl hy (hp_Bc (z := k) rfl b0 t0 (hp_Bc (z := d) rfl b1 t1 (hp_Bc (z := y) rfl b2 t2 (hp_Bc (z := s) rfl b3 t3 (hp_Bc (z := b) rfl b4 t4 (hp_Bc (z := la) rfl b5 t5 (hp_Bc (z := o) rfl b6 t6 hp_Bn))))))) hp_Fn hp_Kn (hp_La l0 (hp_Li (z := (0 + (1 * k + 0))) l1 rfl (by omega) (hp_Lj (z := (0 + (1 * d + 0))) l2 rfl (by omega) (hp_Li (z := (0 + (1 * y + 0))) l4 rfl (by omega) (hp_Li (z := (0 + (1 * s + 0))) l5 rfl (by omega) (hp_Li (z := (0 + (1 * b + 0))) l6 rfl (by omega) (hp_Li (z := (0 + (1 * la + 0))) l7 rfl (by omega) (hp_Li (z := (0 + (1 * o + 0))) l8 rfl (by omega) (hp_Li (z := (1 + (1 * la + 0))) l9 rfl (by omega) hp_Ln))))))))) trivial ?_ ?_
  · intro p_9 hp ys l' st' h' hys a1_9 a2 a3 gZ gL gS
    rcases List.mem_cons.mp hp with rfl | hp
    · obtain rfl := hp_y0 hys
      obtain ⟨y0, t0, rfl, q0, g0⟩ := hp_gSi (z := (0 + (1 * o + 0))) gS rfl
      cases hp_gSn g0
      exact e0 l' h' y0 (by omega) a1_9 a2 a3 (hp_gLa gL (List.mem_of_getElem? (i := 0) rfl) (by decide)) (hp_gLi (z := (0 + (1 * o + 0))) gL (List.mem_of_getElem? (i := 1) rfl) rfl (by omega))
    cases hp
  · intro p_9 hp ys v_9 h' hys a1_9 a2 a3 gZ gS
    cases hp
theorem qu4_k : hp_chk 118 28 10 [(0, 0, 13), (1, (-9223372036854775808), 9223372036854775807), (2, (-2147483648), 2147483647), (3, (-2147483648), 2147483647), (4, (-2147483648), 2147483647), (5, 0, 29), (6, (-2147483648), 2147483647), (7, 0, 29), (8, (-2147483648), 2147483647), (9, (-2147483648), 2147483647)] [(0, [(5, 1), (7, (-1))])] [(0, .inr (.inr (.inl (some 30)))), (1, .inl (0, [(0, 1)])), (2, .inr (.inl (0, [(1, 1)]))), (4, .inl (0, [(2, 1)])), (5, .inl (0, [(3, 1)])), (6, .inl (0, [(4, 1)])), (7, .inl (0, [(5, 1)])), (8, .inl (0, [(6, 1)])), (9, .inl (0, [(7, 1)]))] [] [(3840, (0, [(7, 1)]), (0, [(8, 1)])), (3840, (0, [(5, 1)]), (0, [(9, 1)])), (61000, (0, [(8, 1), (9, (-1))]), (1, []))] [] 2 [(28, ([], 10, [(0, 0, 13), (1, (-9223372036854775808), 9223372036854775807), (2, (-2147483648), 2147483647), (3, (-2147483648), 2147483647), (4, (-2147483648), 2147483647), (5, 0, 29), (6, (-2147483648), 2147483647), (7, 0, 29), (8, (-2147483648), 2147483647), (9, (-2147483648), 2147483647)], [], [(0, .inr (.inr (.inl (some 30)))), (1, .inl (0, [(0, 1)])), (2, .inr (.inl (0, [(1, 1)]))), (4, .inl (0, [(2, 1)])), (5, .inl (0, [(3, 1)])), (6, .inl (0, [(4, 1)])), (7, .inl (0, [(5, 1)])), (8, .inl (0, [(6, 1)])), (9, .inl (1, [(7, 1)]))], [], []))] [] = true := by decide +kernel
theorem qu4 {cst : am_K} {strs : List Nat} {Φ : am_Q → Prop} {D : Nat} {M : am_M} {h : am_H} {l : am_L} (c : hp_C cst strs D) (hM : m_P[118]? = some M) (hD : (2 : Int) ≤ (D : Int) + 1) (hy : ly_hy m_tt ly_TH h) (k d y s b la o a u v : Int) (b0 : 0 ≤ k) (t0 : k ≤ 13) (b1 : (-9223372036854775808) ≤ d) (t1 : d ≤ 9223372036854775807) (b2 : (-2147483648) ≤ y) (t2 : y ≤ 2147483647) (b3 : (-2147483648) ≤ s) (t3 : s ≤ 2147483647) (b4 : (-2147483648) ≤ b) (t4 : b ≤ 2147483647) (b5 : 0 ≤ la) (t5 : la ≤ 29) (b6 : (-2147483648) ≤ o) (t6 : o ≤ 2147483647) (b7 : 0 ≤ a) (t7 : a ≤ 29) (b8 : (-2147483648) ≤ u) (t8 : u ≤ 2147483647) (b9 : (-2147483648) ≤ v) (t9 : v ≤ 2147483647) (f0 : 0 ≤ (la - a)) (k0 : ly_hv cst h 3840 (a) = some (u)) (k1 : ly_hv cst h 3840 (la) = some (v)) (k2 : ly_hv cst h 61000 (u - v) = some 1) (l0 : hp_a l 0 30) (l1 : hp_i l 1 (k)) (l2 : hp_j l 2 (d)) (l4 : hp_i l 4 (y)) (l5 : hp_i l 5 (s)) (l6 : hp_i l 6 (b)) (l7 : hp_i l 7 (la)) (l8 : hp_i l 8 (o)) (l9 : hp_i l 9 (a)) (e0 : ∀ (l' : am_L) (h' : am_H), ly_hy m_tt ly_TH h' → ly_fr cst [] h h' → h.length ≤ h'.length → hp_a l' 0 30 → hp_i l' 1 (k) → hp_j l' 2 (d) → hp_i l' 4 (y) → hp_i l' 5 (s) → hp_i l' 6 (b) → hp_i l' 7 (la) → hp_i l' 8 (o) → hp_i l' 9 (a + 1) → hp_F cst strs Φ D M 28 l' [] h') : hp_F cst strs Φ D M 28 l [] h := by
  refine hp_arc c hM qu4_k hD [k, d, y, s, b, la, o, a, u, v] rfl hy (hp_Bc (z := k) rfl b0 t0 (hp_Bc (z := d) rfl b1 t1 (hp_Bc (z := y) rfl b2 t2 (hp_Bc (z := s) rfl b3 t3 (hp_Bc (z := b) rfl b4 t4 (hp_Bc (z := la) rfl b5 t5 (hp_Bc (z := o) rfl b6 t6 (hp_Bc (z := a) rfl b7 t7 (hp_Bc (z := u) rfl b8 t8 (hp_Bc (z := v) rfl b9 t9 hp_Bn)))))))))) (hp_Fc (z := (0 + (1 * la + ((-1) * a + 0)))) rfl (by omega) hp_Fn) (hp_Kc (zi := (0 + (1 * a + 0))) (zv := (0 + (1 * u + 0))) k0 rfl rfl (by omega) (by omega) (hp_Kc (zi := (0 + (1 * la + 0))) (zv := (0 + (1 * v + 0))) k1 rfl rfl (by omega) (by omega) (hp_Kc (zi := (0 + (1 * u + ((-1) * v + 0)))) (zv := (1 + 0)) k2 rfl rfl (by omega) (by omega) hp_Kn))) (hp_La l0 (hp_Li (z := (0 + (1 * k + 0))) l1 rfl (by omega) (hp_Lj (z := (0 + (1 * d + 0))) l2 rfl (by omega) (hp_Li (z := (0 + (1 * y + 0))) l4 rfl (by omega) (hp_Li (z := (0 + (1 * s + 0))) l5 rfl (by omega) (hp_Li (z := (0 + (1 * b + 0))) l6 rfl (by omega) (hp_Li (z := (0 + (1 * la + 0))) l7 rfl (by omega) (hp_Li (z := (0 + (1 * o + 0))) l8 rfl (by omega) (hp_Li (z := (0 + (1 * a + 0))) l9 rfl (by omega) hp_Ln))))))))) trivial ?_ ?_
  · intro p_9 hp ys l' st' h' hys a1_9 a2 a3 gZ gL gS
    rcases List.mem_cons.mp hp with rfl | hp
    · obtain rfl := hp_y0 hys
      cases hp_gSn gS
      exact e0 l' h' a1_9 a2 a3 (hp_gLa gL (List.mem_of_getElem? (i := 0) rfl) (by decide)) (hp_gLi (z := (0 + (1 * k + 0))) gL (List.mem_of_getElem? (i := 1) rfl) rfl (by omega)) (hp_gLj (z := (0 + (1 * d + 0))) gL (List.mem_of_getElem? (i := 2) rfl) rfl (by omega)) (hp_gLi (z := (0 + (1 * y + 0))) gL (List.mem_of_getElem? (i := 3) rfl) rfl (by omega)) (hp_gLi (z := (0 + (1 * s + 0))) gL (List.mem_of_getElem? (i := 4) rfl) rfl (by omega)) (hp_gLi (z := (0 + (1 * b + 0))) gL (List.mem_of_getElem? (i := 5) rfl) rfl (by omega)) (hp_gLi (z := (0 + (1 * la + 0))) gL (List.mem_of_getElem? (i := 6) rfl) rfl (by omega)) (hp_gLi (z := (0 + (1 * o + 0))) gL (List.mem_of_getElem? (i := 7) rfl) rfl (by omega)) (hp_gLi (z := (1 + (1 * a + 0))) gL (List.mem_of_getElem? (i := 8) rfl) rfl (by omega))
    cases hp
  · intro p_9 hp ys v h' hys a1_9 a2 a3 gZ gS
    cases hp
theorem qu5_k : hp_chk 118 28 9 [(0, 0, 13), (1, (-9223372036854775808), 9223372036854775807), (2, (-2147483648), 2147483647), (3, (-2147483648), 2147483647), (4, (-2147483648), 2147483647), (5, 0, 29), (6, (-2147483648), 2147483647), (7, 0, 29), (8, (-2147483648), 2147483647)] [(0, [(5, 1), (7, (-1))])] [(0, .inr (.inr (.inl (some 30)))), (1, .inl (0, [(0, 1)])), (2, .inr (.inl (0, [(1, 1)]))), (4, .inl (0, [(2, 1)])), (5, .inl (0, [(3, 1)])), (6, .inl (0, [(4, 1)])), (7, .inl (0, [(5, 1)])), (8, .inl (0, [(6, 1)])), (9, .inl (0, [(7, 1)]))] [] [(3840, (0, [(7, 1)]), (0, [(8, 1)])), (3840, (0, [(5, 1)]), (0, [(8, 1)]))] [] 2 [(59, ([], 9, [(0, 0, 13), (1, (-9223372036854775808), 9223372036854775807), (2, (-2147483648), 2147483647), (3, (-2147483648), 2147483647), (4, (-2147483648), 2147483647), (5, 0, 29), (6, (-2147483648), 2147483647), (7, 0, 29), (8, (-2147483648), 2147483647)], [], [(0, .inr (.inr (.inl (some 30)))), (1, .inl (0, [(0, 1)])), (2, .inr (.inl (0, [(1, 1)]))), (4, .inl (0, [(2, 1)])), (5, .inl (0, [(3, 1)])), (6, .inl (0, [(4, 1)])), (7, .inl (0, [(5, 1)])), (8, .inl (0, [(6, 1)])), (9, .inl (0, [(7, 1)]))], [.inl (0, [(4, 1)]), .inr (.inl (0, [(1, 1)])), .inl (0, [(0, 1)]), .inl (0, [(7, 1)]), .inr (.inr (.inl (some 30)))], []))] [] = true := by decide +kernel
theorem qu5 {cst : am_K} {strs : List Nat} {Φ : am_Q → Prop} {D : Nat} {M : am_M} {h : am_H} {l : am_L} (c : hp_C cst strs D) (hM : m_P[118]? = some M) (hD : (2 : Int) ≤ (D : Int) + 1) (hy : ly_hy m_tt ly_TH h) (k d y s b la o a u : Int) (b0 : 0 ≤ k) (t0 : k ≤ 13) (b1 : (-9223372036854775808) ≤ d) (t1 : d ≤ 9223372036854775807) (b2 : (-2147483648) ≤ y) (t2 : y ≤ 2147483647) (b3 : (-2147483648) ≤ s) (t3 : s ≤ 2147483647) (b4 : (-2147483648) ≤ b) (t4 : b ≤ 2147483647) (b5 : 0 ≤ la) (t5 : la ≤ 29) (b6 : (-2147483648) ≤ o) (t6 : o ≤ 2147483647) (b7 : 0 ≤ a) (t7 : a ≤ 29) (b8 : (-2147483648) ≤ u) (t8 : u ≤ 2147483647) (f0 : 0 ≤ (la - a)) (k0 : ly_hv cst h 3840 (a) = some (u)) (k1 : ly_hv cst h 3840 (la) = some (u)) (l0 : hp_a l 0 30) (l1 : hp_i l 1 (k)) (l2 : hp_j l 2 (d)) (l4 : hp_i l 4 (y)) (l5 : hp_i l 5 (s)) (l6 : hp_i l 6 (b)) (l7 : hp_i l 7 (la)) (l8 : hp_i l 8 (o)) (l9 : hp_i l 9 (a)) (e0 : ∀ (l' : am_L) (h' : am_H) (y0 : Int32) (y1 : Int64) (y2 : Int32) (y3 : Int32), y0.toInt = (b) → y1.toInt = (d) → y2.toInt = (k) → y3.toInt = (a) → ly_hy m_tt ly_TH h' → ly_fr cst [] h h' → h.length ≤ h'.length → hp_a l' 0 30 → hp_i l' 1 (k) → hp_j l' 2 (d) → hp_i l' 4 (y) → hp_i l' 5 (s) → hp_i l' 6 (b) → hp_i l' 7 (la) → hp_i l' 8 (o) → hp_i l' 9 (a) → hp_F cst strs Φ D M 59 l' [.int y0, .long y1, .int y2, .int y3, .ref 30] h') : hp_F cst strs Φ D M 28 l [] h := by
  refine hp_arc c hM qu5_k hD [k, d, y, s, b, la, o, a, u] rfl hy (hp_Bc (z := k) rfl b0 t0 (hp_Bc (z := d) rfl b1 t1 (hp_Bc (z := y) rfl b2 t2 (hp_Bc (z := s) rfl b3 t3 (hp_Bc (z := b) rfl b4 t4 (hp_Bc (z := la) rfl b5 t5 (hp_Bc (z := o) rfl b6 t6 (hp_Bc (z := a) rfl b7 t7 (hp_Bc (z := u) rfl b8 t8 hp_Bn))))))))) (hp_Fc (z := (0 + (1 * la + ((-1) * a + 0)))) rfl (by omega) hp_Fn) (hp_Kc (zi := (0 + (1 * a + 0))) (zv := (0 + (1 * u + 0))) k0 rfl rfl (by omega) (by omega) (hp_Kc (zi := (0 + (1 * la + 0))) (zv := (0 + (1 * u + 0))) k1 rfl rfl (by omega) (by omega) hp_Kn)) (hp_La l0 (hp_Li (z := (0 + (1 * k + 0))) l1 rfl (by omega) (hp_Lj (z := (0 + (1 * d + 0))) l2 rfl (by omega) (hp_Li (z := (0 + (1 * y + 0))) l4 rfl (by omega) (hp_Li (z := (0 + (1 * s + 0))) l5 rfl (by omega) (hp_Li (z := (0 + (1 * b + 0))) l6 rfl (by omega) (hp_Li (z := (0 + (1 * la + 0))) l7 rfl (by omega) (hp_Li (z := (0 + (1 * o + 0))) l8 rfl (by omega) (hp_Li (z := (0 + (1 * a + 0))) l9 rfl (by omega) hp_Ln))))))))) trivial ?_ ?_
  · intro p_9 hp ys l' st' h' hys a1_9 a2 a3 gZ gL gS
    rcases List.mem_cons.mp hp with rfl | hp
    · obtain rfl := hp_y0 hys
      obtain ⟨y0, t0, rfl, q0, g0⟩ := hp_gSi (z := (0 + (1 * b + 0))) gS rfl
      obtain ⟨y1, t1, rfl, q1_9, g1⟩ := hp_gSj (z := (0 + (1 * d + 0))) g0 rfl
      obtain ⟨y2, t2, rfl, q2_9, g2⟩ := hp_gSi (z := (0 + (1 * k + 0))) g1 rfl
      obtain ⟨y3, t3, rfl, q3_9, g3_9⟩ := hp_gSi (z := (0 + (1 * a + 0))) g2 rfl
      obtain ⟨t4, rfl, g4⟩ := hp_gSa g3_9 (by decide)
      cases hp_gSn g4
      exact e0 l' h' y0 y1 y2 y3 (by omega) (by omega) (by omega) (by omega) a1_9 a2 a3 (hp_gLa gL (List.mem_of_getElem? (i := 0) rfl) (by decide)) (hp_gLi (z := (0 + (1 * k + 0))) gL (List.mem_of_getElem? (i := 1) rfl) rfl (by omega)) (hp_gLj (z := (0 + (1 * d + 0))) gL (List.mem_of_getElem? (i := 2) rfl) rfl (by omega)) (hp_gLi (z := (0 + (1 * y + 0))) gL (List.mem_of_getElem? (i := 3) rfl) rfl (by omega)) (hp_gLi (z := (0 + (1 * s + 0))) gL (List.mem_of_getElem? (i := 4) rfl) rfl (by omega)) (hp_gLi (z := (0 + (1 * b + 0))) gL (List.mem_of_getElem? (i := 5) rfl) rfl (by omega)) (hp_gLi (z := (0 + (1 * la + 0))) gL (List.mem_of_getElem? (i := 6) rfl) rfl (by omega)) (hp_gLi (z := (0 + (1 * o + 0))) gL (List.mem_of_getElem? (i := 7) rfl) rfl (by omega)) (hp_gLi (z := (0 + (1 * a + 0))) gL (List.mem_of_getElem? (i := 8) rfl) rfl (by omega))
    cases hp
  · intro p_9 hp ys v_9 h' hys a1_9 a2 a3 gZ gS
    cases hp
theorem qu6_k : hp_chk 118 62 8 [(0, 0, 13), (1, (-9223372036854775808), 9223372036854775807), (2, (-2147483648), 2147483647), (3, (-2147483648), 2147483647), (4, (-2147483648), 2147483647), (5, 0, 29), (6, (-2147483648), 2147483647), (7, 0, 29)] [] [(0, .inr (.inr (.inl (some 30)))), (1, .inl (0, [(0, 1)])), (2, .inr (.inl (0, [(1, 1)]))), (4, .inl (0, [(2, 1)])), (5, .inl (0, [(3, 1)])), (6, .inl (0, [(4, 1)])), (7, .inl (0, [(5, 1)])), (8, .inl (0, [(6, 1)])), (9, .inl (0, [(7, 1)]))] [.inl ((-1), [])] [] [] 2 [(28, ([], 8, [(0, 0, 13), (1, (-9223372036854775808), 9223372036854775807), (2, (-2147483648), 2147483647), (3, (-2147483648), 2147483647), (4, (-2147483648), 2147483647), (5, 0, 29), (6, (-2147483648), 2147483647), (7, 0, 29)], [], [(0, .inr (.inr (.inl (some 30)))), (1, .inl (0, [(0, 1)])), (2, .inr (.inl (0, [(1, 1)]))), (4, .inl (0, [(2, 1)])), (5, .inl (0, [(3, 1)])), (6, .inl (0, [(4, 1)])), (7, .inl (0, [(5, 1)])), (8, .inl (0, [(6, 1)])), (9, .inl (1, [(7, 1)]))], [], []))] [] = true := by decide +kernel
theorem qu6 {cst : am_K} {strs : List Nat} {Φ : am_Q → Prop} {D : Nat} {M : am_M} {h : am_H} {l : am_L} (c : hp_C cst strs D) (hM : m_P[118]? = some M) (hD : (2 : Int) ≤ (D : Int) + 1) (hy : ly_hy m_tt ly_TH h) (k d y s b la o a : Int) (x0 : Int32) (hx0 : x0.toInt = (-1)) (b0 : 0 ≤ k) (t0 : k ≤ 13) (b1 : (-9223372036854775808) ≤ d) (t1 : d ≤ 9223372036854775807) (b2 : (-2147483648) ≤ y) (t2 : y ≤ 2147483647) (b3 : (-2147483648) ≤ s) (t3 : s ≤ 2147483647) (b4 : (-2147483648) ≤ b) (t4 : b ≤ 2147483647) (b5 : 0 ≤ la) (t5 : la ≤ 29) (b6 : (-2147483648) ≤ o) (t6 : o ≤ 2147483647) (b7 : 0 ≤ a) (t7 : a ≤ 29) (l0 : hp_a l 0 30) (l1 : hp_i l 1 (k)) (l2 : hp_j l 2 (d)) (l4 : hp_i l 4 (y)) (l5 : hp_i l 5 (s)) (l6 : hp_i l 6 (b)) (l7 : hp_i l 7 (la)) (l8 : hp_i l 8 (o)) (l9 : hp_i l 9 (a)) (e0 : ∀ (l' : am_L) (h' : am_H), ly_hy m_tt ly_TH h' → ly_fr cst [] h h' → h.length ≤ h'.length → hp_a l' 0 30 → hp_i l' 1 (k) → hp_j l' 2 (d) → hp_i l' 4 (y) → hp_i l' 5 (s) → hp_i l' 6 (b) → hp_i l' 7 (la) → hp_i l' 8 (o) → hp_i l' 9 (a + 1) → hp_F cst strs Φ D M 28 l' [] h') : hp_F cst strs Φ D M 62 l [.int x0] h := by
  refine hp_arc c hM qu6_k hD [k, d, y, s, b, la, o, a] rfl hy (hp_Bc (z := k) rfl b0 t0 (hp_Bc (z := d) rfl b1 t1 (hp_Bc (z := y) rfl b2 t2 (hp_Bc (z := s) rfl b3 t3 (hp_Bc (z := b) rfl b4 t4 (hp_Bc (z := la) rfl b5 t5 (hp_Bc (z := o) rfl b6 t6 (hp_Bc (z := a) rfl b7 t7 hp_Bn)))))))) hp_Fn hp_Kn (hp_La l0 (hp_Li (z := (0 + (1 * k + 0))) l1 rfl (by omega) (hp_Lj (z := (0 + (1 * d + 0))) l2 rfl (by omega) (hp_Li (z := (0 + (1 * y + 0))) l4 rfl (by omega) (hp_Li (z := (0 + (1 * s + 0))) l5 rfl (by omega) (hp_Li (z := (0 + (1 * b + 0))) l6 rfl (by omega) (hp_Li (z := (0 + (1 * la + 0))) l7 rfl (by omega) (hp_Li (z := (0 + (1 * o + 0))) l8 rfl (by omega) (hp_Li (z := (0 + (1 * a + 0))) l9 rfl (by omega) hp_Ln))))))))) (hp_Si (z := ((-1) + 0)) rfl (by omega) trivial) ?_ ?_
  · intro p_9 hp ys l' st' h' hys a1_9 a2 a3 gZ gL gS
    rcases List.mem_cons.mp hp with rfl | hp
    · obtain rfl := hp_y0 hys
      cases hp_gSn gS
      exact e0 l' h' a1_9 a2 a3 (hp_gLa gL (List.mem_of_getElem? (i := 0) rfl) (by decide)) (hp_gLi (z := (0 + (1 * k + 0))) gL (List.mem_of_getElem? (i := 1) rfl) rfl (by omega)) (hp_gLj (z := (0 + (1 * d + 0))) gL (List.mem_of_getElem? (i := 2) rfl) rfl (by omega)) (hp_gLi (z := (0 + (1 * y + 0))) gL (List.mem_of_getElem? (i := 3) rfl) rfl (by omega)) (hp_gLi (z := (0 + (1 * s + 0))) gL (List.mem_of_getElem? (i := 4) rfl) rfl (by omega)) (hp_gLi (z := (0 + (1 * b + 0))) gL (List.mem_of_getElem? (i := 5) rfl) rfl (by omega)) (hp_gLi (z := (0 + (1 * la + 0))) gL (List.mem_of_getElem? (i := 6) rfl) rfl (by omega)) (hp_gLi (z := (0 + (1 * o + 0))) gL (List.mem_of_getElem? (i := 7) rfl) rfl (by omega)) (hp_gLi (z := (1 + (1 * a + 0))) gL (List.mem_of_getElem? (i := 8) rfl) rfl (by omega))
    cases hp
  · intro p_9 hp ys v_9 h' hys a1_9 a2 a3 gZ gS
    cases hp
theorem qu7_k : hp_chk 118 62 9 [(0, 0, 13), (1, (-9223372036854775808), 9223372036854775807), (2, (-2147483648), 2147483647), (3, (-2147483648), 2147483647), (4, (-2147483648), 2147483647), (5, 0, 29), (6, (-2147483648), 2147483647), (7, 0, 29), (8, 0, 1239)] [] [(0, .inr (.inr (.inl (some 30)))), (1, .inl (0, [(0, 1)])), (2, .inr (.inl (0, [(1, 1)]))), (4, .inl (0, [(2, 1)])), (5, .inl (0, [(3, 1)])), (6, .inl (0, [(4, 1)])), (7, .inl (0, [(5, 1)])), (8, .inl (0, [(6, 1)])), (9, .inl (0, [(7, 1)]))] [.inl (0, [(8, 1)])] [] [] 2 [(71, ([], 9, [(0, 0, 13), (1, (-9223372036854775808), 9223372036854775807), (2, (-2147483648), 2147483647), (3, (-2147483648), 2147483647), (4, (-2147483648), 2147483647), (5, 0, 29), (6, (-2147483648), 2147483647), (7, 0, 29), (8, 0, 1239)], [], [(0, .inr (.inr (.inl (some 30)))), (1, .inl (0, [(0, 1)])), (2, .inr (.inl (0, [(1, 1)]))), (4, .inl (0, [(2, 1)])), (5, .inl (0, [(3, 1)])), (6, .inl (0, [(4, 1)])), (7, .inl (0, [(5, 1)])), (8, .inl (0, [(6, 1)])), (9, .inl (0, [(7, 1)]))], [.inl (0, [(7, 1)]), .inl (1, []), .inl (0, [(6, 1)])], []))] [] = true := by decide +kernel
theorem qu7 {cst : am_K} {strs : List Nat} {Φ : am_Q → Prop} {D : Nat} {M : am_M} {h : am_H} {l : am_L} (c : hp_C cst strs D) (hM : m_P[118]? = some M) (hD : (2 : Int) ≤ (D : Int) + 1) (hy : ly_hy m_tt ly_TH h) (k d y s b la o a w : Int) (x0 : Int32) (hx0 : x0.toInt = (w)) (b0 : 0 ≤ k) (t0 : k ≤ 13) (b1 : (-9223372036854775808) ≤ d) (t1 : d ≤ 9223372036854775807) (b2 : (-2147483648) ≤ y) (t2 : y ≤ 2147483647) (b3 : (-2147483648) ≤ s) (t3 : s ≤ 2147483647) (b4 : (-2147483648) ≤ b) (t4 : b ≤ 2147483647) (b5 : 0 ≤ la) (t5 : la ≤ 29) (b6 : (-2147483648) ≤ o) (t6 : o ≤ 2147483647) (b7 : 0 ≤ a) (t7 : a ≤ 29) (b8 : 0 ≤ w) (t8 : w ≤ 1239) (l0 : hp_a l 0 30) (l1 : hp_i l 1 (k)) (l2 : hp_j l 2 (d)) (l4 : hp_i l 4 (y)) (l5 : hp_i l 5 (s)) (l6 : hp_i l 6 (b)) (l7 : hp_i l 7 (la)) (l8 : hp_i l 8 (o)) (l9 : hp_i l 9 (a)) (e0 : ∀ (l' : am_L) (h' : am_H) (y0 : Int32) (y1 : Int32) (y2 : Int32), y0.toInt = (a) → y1.toInt = 1 → y2.toInt = (o) → ly_hy m_tt ly_TH h' → ly_fr cst [] h h' → h.length ≤ h'.length → hp_a l' 0 30 → hp_i l' 1 (k) → hp_j l' 2 (d) → hp_i l' 4 (y) → hp_i l' 5 (s) → hp_i l' 6 (b) → hp_i l' 7 (la) → hp_i l' 8 (o) → hp_i l' 9 (a) → hp_F cst strs Φ D M 71 l' [.int y0, .int y1, .int y2] h') : hp_F cst strs Φ D M 62 l [.int x0] h := by
  refine hp_arc c hM qu7_k hD [k, d, y, s, b, la, o, a, w] rfl hy (hp_Bc (z := k) rfl b0 t0 (hp_Bc (z := d) rfl b1 t1 (hp_Bc (z := y) rfl b2 t2 (hp_Bc (z := s) rfl b3 t3 (hp_Bc (z := b) rfl b4 t4 (hp_Bc (z := la) rfl b5 t5 (hp_Bc (z := o) rfl b6 t6 (hp_Bc (z := a) rfl b7 t7 (hp_Bc (z := w) rfl b8 t8 hp_Bn))))))))) hp_Fn hp_Kn (hp_La l0 (hp_Li (z := (0 + (1 * k + 0))) l1 rfl (by omega) (hp_Lj (z := (0 + (1 * d + 0))) l2 rfl (by omega) (hp_Li (z := (0 + (1 * y + 0))) l4 rfl (by omega) (hp_Li (z := (0 + (1 * s + 0))) l5 rfl (by omega) (hp_Li (z := (0 + (1 * b + 0))) l6 rfl (by omega) (hp_Li (z := (0 + (1 * la + 0))) l7 rfl (by omega) (hp_Li (z := (0 + (1 * o + 0))) l8 rfl (by omega) (hp_Li (z := (0 + (1 * a + 0))) l9 rfl (by omega) hp_Ln))))))))) (hp_Si (z := (0 + (1 * w + 0))) rfl (by omega) trivial) ?_ ?_
  · intro p_9 hp ys l' st' h' hys a1_9 a2 a3 gZ gL gS
    rcases List.mem_cons.mp hp with rfl | hp
    · obtain rfl := hp_y0 hys
      obtain ⟨y0, t0, rfl, q0, g0⟩ := hp_gSi (z := (0 + (1 * a + 0))) gS rfl
      obtain ⟨y1, t1, rfl, q1_9, g1⟩ := hp_gSi (z := (1 + 0)) g0 rfl
      obtain ⟨y2, t2, rfl, q2_9, g2⟩ := hp_gSi (z := (0 + (1 * o + 0))) g1 rfl
      cases hp_gSn g2
      exact e0 l' h' y0 y1 y2 (by omega) (by omega) (by omega) a1_9 a2 a3 (hp_gLa gL (List.mem_of_getElem? (i := 0) rfl) (by decide)) (hp_gLi (z := (0 + (1 * k + 0))) gL (List.mem_of_getElem? (i := 1) rfl) rfl (by omega)) (hp_gLj (z := (0 + (1 * d + 0))) gL (List.mem_of_getElem? (i := 2) rfl) rfl (by omega)) (hp_gLi (z := (0 + (1 * y + 0))) gL (List.mem_of_getElem? (i := 3) rfl) rfl (by omega)) (hp_gLi (z := (0 + (1 * s + 0))) gL (List.mem_of_getElem? (i := 4) rfl) rfl (by omega)) (hp_gLi (z := (0 + (1 * b + 0))) gL (List.mem_of_getElem? (i := 5) rfl) rfl (by omega)) (hp_gLi (z := (0 + (1 * la + 0))) gL (List.mem_of_getElem? (i := 6) rfl) rfl (by omega)) (hp_gLi (z := (0 + (1 * o + 0))) gL (List.mem_of_getElem? (i := 7) rfl) rfl (by omega)) (hp_gLi (z := (0 + (1 * a + 0))) gL (List.mem_of_getElem? (i := 8) rfl) rfl (by omega))
    cases hp
  · intro p_9 hp ys v_9 h' hys a1_9 a2 a3 gZ gS
    cases hp
theorem qu8_k : hp_chk 118 73 9 [(0, 0, 13), (1, (-9223372036854775808), 9223372036854775807), (2, (-2147483648), 2147483647), (3, (-2147483648), 2147483647), (4, (-2147483648), 2147483647), (5, 0, 29), (6, (-2147483648), 2147483647), (7, 0, 29), (8, (-2147483648), 2147483647)] [] [(0, .inr (.inr (.inl (some 30)))), (1, .inl (0, [(0, 1)])), (2, .inr (.inl (0, [(1, 1)]))), (4, .inl (0, [(2, 1)])), (5, .inl (0, [(3, 1)])), (6, .inl (0, [(4, 1)])), (7, .inl (0, [(5, 1)])), (8, .inl (0, [(6, 1)])), (9, .inl (0, [(7, 1)]))] [.inl (0, [(8, 1)])] [] [] 2 [(28, ([], 9, [(0, 0, 13), (1, (-9223372036854775808), 9223372036854775807), (2, (-2147483648), 2147483647), (3, (-2147483648), 2147483647), (4, (-2147483648), 2147483647), (5, 0, 29), (6, (-2147483648), 2147483647), (7, 0, 29), (8, (-2147483648), 2147483647)], [], [(0, .inr (.inr (.inl (some 30)))), (1, .inl (0, [(0, 1)])), (2, .inr (.inl (0, [(1, 1)]))), (4, .inl (0, [(2, 1)])), (5, .inl (0, [(3, 1)])), (6, .inl (0, [(4, 1)])), (7, .inl (0, [(5, 1)])), (8, .inl (0, [(8, 1)])), (9, .inl (1, [(7, 1)]))], [], []))] [] = true := by decide +kernel
theorem qu8 {cst : am_K} {strs : List Nat} {Φ : am_Q → Prop} {D : Nat} {M : am_M} {h : am_H} {l : am_L} (c : hp_C cst strs D) (hM : m_P[118]? = some M) (hD : (2 : Int) ≤ (D : Int) + 1) (hy : ly_hy m_tt ly_TH h) (k d y s b la o a c2 : Int) (x0 : Int32) (hx0 : x0.toInt = (c2)) (b0 : 0 ≤ k) (t0 : k ≤ 13) (b1 : (-9223372036854775808) ≤ d) (t1 : d ≤ 9223372036854775807) (b2 : (-2147483648) ≤ y) (t2 : y ≤ 2147483647) (b3 : (-2147483648) ≤ s) (t3 : s ≤ 2147483647) (b4 : (-2147483648) ≤ b) (t4 : b ≤ 2147483647) (b5 : 0 ≤ la) (t5 : la ≤ 29) (b6 : (-2147483648) ≤ o) (t6 : o ≤ 2147483647) (b7 : 0 ≤ a) (t7 : a ≤ 29) (b8 : (-2147483648) ≤ c2) (t8 : c2 ≤ 2147483647) (l0 : hp_a l 0 30) (l1 : hp_i l 1 (k)) (l2 : hp_j l 2 (d)) (l4 : hp_i l 4 (y)) (l5 : hp_i l 5 (s)) (l6 : hp_i l 6 (b)) (l7 : hp_i l 7 (la)) (l8 : hp_i l 8 (o)) (l9 : hp_i l 9 (a)) (e0 : ∀ (l' : am_L) (h' : am_H), ly_hy m_tt ly_TH h' → ly_fr cst [] h h' → h.length ≤ h'.length → hp_a l' 0 30 → hp_i l' 1 (k) → hp_j l' 2 (d) → hp_i l' 4 (y) → hp_i l' 5 (s) → hp_i l' 6 (b) → hp_i l' 7 (la) → hp_i l' 8 (c2) → hp_i l' 9 (a + 1) → hp_F cst strs Φ D M 28 l' [] h') : hp_F cst strs Φ D M 73 l [.int x0] h := by
  refine hp_arc c hM qu8_k hD [k, d, y, s, b, la, o, a, c2] rfl hy (hp_Bc (z := k) rfl b0 t0 (hp_Bc (z := d) rfl b1 t1 (hp_Bc (z := y) rfl b2 t2 (hp_Bc (z := s) rfl b3 t3 (hp_Bc (z := b) rfl b4 t4 (hp_Bc (z := la) rfl b5 t5 (hp_Bc (z := o) rfl b6 t6 (hp_Bc (z := a) rfl b7 t7 (hp_Bc (z := c2) rfl b8 t8 hp_Bn))))))))) hp_Fn hp_Kn (hp_La l0 (hp_Li (z := (0 + (1 * k + 0))) l1 rfl (by omega) (hp_Lj (z := (0 + (1 * d + 0))) l2 rfl (by omega) (hp_Li (z := (0 + (1 * y + 0))) l4 rfl (by omega) (hp_Li (z := (0 + (1 * s + 0))) l5 rfl (by omega) (hp_Li (z := (0 + (1 * b + 0))) l6 rfl (by omega) (hp_Li (z := (0 + (1 * la + 0))) l7 rfl (by omega) (hp_Li (z := (0 + (1 * o + 0))) l8 rfl (by omega) (hp_Li (z := (0 + (1 * a + 0))) l9 rfl (by omega) hp_Ln))))))))) (hp_Si (z := (0 + (1 * c2 + 0))) rfl (by omega) trivial) ?_ ?_
  · intro p_9 hp ys l' st' h' hys a1_9 a2 a3 gZ gL gS
    rcases List.mem_cons.mp hp with rfl | hp
    · obtain rfl := hp_y0 hys
      cases hp_gSn gS
      exact e0 l' h' a1_9 a2 a3 (hp_gLa gL (List.mem_of_getElem? (i := 0) rfl) (by decide)) (hp_gLi (z := (0 + (1 * k + 0))) gL (List.mem_of_getElem? (i := 1) rfl) rfl (by omega)) (hp_gLj (z := (0 + (1 * d + 0))) gL (List.mem_of_getElem? (i := 2) rfl) rfl (by omega)) (hp_gLi (z := (0 + (1 * y + 0))) gL (List.mem_of_getElem? (i := 3) rfl) rfl (by omega)) (hp_gLi (z := (0 + (1 * s + 0))) gL (List.mem_of_getElem? (i := 4) rfl) rfl (by omega)) (hp_gLi (z := (0 + (1 * b + 0))) gL (List.mem_of_getElem? (i := 5) rfl) rfl (by omega)) (hp_gLi (z := (0 + (1 * la + 0))) gL (List.mem_of_getElem? (i := 6) rfl) rfl (by omega)) (hp_gLi (z := (0 + (1 * c2 + 0))) gL (List.mem_of_getElem? (i := 7) rfl) rfl (by omega)) (hp_gLi (z := (1 + (1 * a + 0))) gL (List.mem_of_getElem? (i := 8) rfl) rfl (by omega))
    cases hp
  · intro p_9 hp ys v_9 h' hys a1_9 a2 a3 gZ gS
    cases hp
theorem qu9_k : hp_chk 118 86 2 [(0, (-2147483648), 2147483647), (1, 2, 32)] [] [(0, .inr (.inr (.inl (some 30)))), (8, .inl (0, [(0, 1)]))] [.inl (0, [(1, 1)])] [] [] 2 [] [([], 2, [(0, (-2147483648), 2147483647), (1, 2, 32)], [], [], [.inl (0, [(0, 1)])], [])] = true := by decide +kernel
theorem qu9 {cst : am_K} {strs : List Nat} {Φ : am_Q → Prop} {D : Nat} {M : am_M} {h : am_H} {l : am_L} (c : hp_C cst strs D) (hM : m_P[118]? = some M) (hD : (2 : Int) ≤ (D : Int) + 1) (hy : ly_hy m_tt ly_TH h) (o n : Int) (x0 : Int32) (hx0 : x0.toInt = (n)) (b0 : (-2147483648) ≤ o) (t0 : o ≤ 2147483647) (b1 : 2 ≤ n) (t1 : n ≤ 32) (l0 : hp_a l 0 30) (l8 : hp_i l 8 (o)) (r0 : ∀ (h' : am_H) (y0 : Int32), y0.toInt = (o) → ly_hy m_tt ly_TH h' → ly_fr cst [] h h' → h.length ≤ h'.length → Φ (some (.int y0), h', 0, 0)) : hp_F cst strs Φ D M 86 l [.int x0] h := by
  refine hp_arc c hM qu9_k hD [o, n] rfl hy (hp_Bc (z := o) rfl b0 t0 (hp_Bc (z := n) rfl b1 t1 hp_Bn)) hp_Fn hp_Kn (hp_La l0 (hp_Li (z := (0 + (1 * o + 0))) l8 rfl (by omega) hp_Ln)) (hp_Si (z := (0 + (1 * n + 0))) rfl (by omega) trivial) ?_ ?_
  · intro p_9 hp ys l' st' h' hys a1_9 a2 a3 gZ gL gS
    cases hp
  · intro p_9 hp ys v_9 h' hys a1_9 a2 a3 gZ gS
    rcases List.mem_cons.mp hp with rfl | hp
    · obtain rfl := hp_y0 hys
      cases v_9 with
      | none => cases gS
      | some wz =>
        obtain ⟨y0, t0, s0_9, q0, -⟩ := hp_gSi (z := (0 + (1 * o + 0))) gS rfl
        cases s0_9
        exact r0 h' y0 (by omega) a1_9 a2 a3
    cases hp
theorem quA_k : hp_chk 118 86 2 [(0, (-2147483648), 2147483647), (1, 0, 1)] [] [(0, .inr (.inr (.inl (some 30)))), (8, .inl (0, [(0, 1)]))] [.inl (0, [(1, 1)])] [] [] 2 [] [([], 2, [(0, (-2147483648), 2147483647), (1, 0, 1)], [], [], [.inl (0, [])], [])] = true := by decide +kernel
theorem quA {cst : am_K} {strs : List Nat} {Φ : am_Q → Prop} {D : Nat} {M : am_M} {h : am_H} {l : am_L} (c : hp_C cst strs D) (hM : m_P[118]? = some M) (hD : (2 : Int) ≤ (D : Int) + 1) (hy : ly_hy m_tt ly_TH h) (o n : Int) (x0 : Int32) (hx0 : x0.toInt = (n)) (b0 : (-2147483648) ≤ o) (t0 : o ≤ 2147483647) (b1 : 0 ≤ n) (t1 : n ≤ 1) (l0 : hp_a l 0 30) (l8 : hp_i l 8 (o)) (r0 : ∀ (h' : am_H) (y0 : Int32), y0.toInt = 0 → ly_hy m_tt ly_TH h' → ly_fr cst [] h h' → h.length ≤ h'.length → Φ (some (.int y0), h', 0, 0)) : hp_F cst strs Φ D M 86 l [.int x0] h := by
  refine hp_arc c hM quA_k hD [o, n] rfl hy (hp_Bc (z := o) rfl b0 t0 (hp_Bc (z := n) rfl b1 t1 hp_Bn)) hp_Fn hp_Kn (hp_La l0 (hp_Li (z := (0 + (1 * o + 0))) l8 rfl (by omega) hp_Ln)) (hp_Si (z := (0 + (1 * n + 0))) rfl (by omega) trivial) ?_ ?_
  · intro p_9 hp ys l' st' h' hys a1_9 a2 a3 gZ gL gS
    cases hp
  · intro p_9 hp ys v_9 h' hys a1_9 a2 a3 gZ gS
    rcases List.mem_cons.mp hp with rfl | hp
    · obtain rfl := hp_y0 hys
      cases v_9 with
      | none => cases gS
      | some wz =>
        obtain ⟨y0, t0, s0_9, q0, -⟩ := hp_gSi (z := (0 + 0)) gS rfl
        cases s0_9
        exact r0 h' y0 (by omega) a1_9 a2 a3
    cases hp
theorem rk2_k : hp_chk 325 7 4 [(0, (-2147483648), 2147483647), (1, (-2147483648), 2147483647), (2, (-2147483648), 2147483647), (3, (-9223372036854775808), 9223372036854775807)] [] [(0, .inr (.inr (.inl (some 94)))), (1, .inl (0, [(0, 1)])), (2, .inl (0, [(1, 1)])), (3, .inl (0, [(2, 1)]))] [.inl (0, [])] [(20017, (0, []), (0, [(3, 1)]))] [] 2 [(25, ([], 4, [(0, (-2147483648), 2147483647), (1, (-2147483648), 2147483647), (2, (-2147483648), 2147483647), (3, (-9223372036854775808), 9223372036854775807)], [], [(0, .inr (.inr (.inl (some 94)))), (1, .inl (0, [(0, 1)])), (2, .inl (0, [(1, 1)])), (3, .inl (0, [(2, 1)]))], [.inl (0, [(2, 1)]), .inl (0, [(1, 1)]), .inr (.inl (0, [(3, 1)])), .inl (0, [(0, 1)]), .inr (.inr (.inl (some 94)))], []))] [] = true := by decide +kernel
theorem rk2 {cst : am_K} {strs : List Nat} {Φ : am_Q → Prop} {D : Nat} {M : am_M} {h : am_H} {l : am_L} (c : hp_C cst strs D) (hM : m_P[325]? = some M) (hD : (2 : Int) ≤ (D : Int) + 1) (hy : ly_hy m_tt ly_TH h) (k y s d : Int) (x0 : Int32) (hx0 : x0.toInt = 0) (b0 : (-2147483648) ≤ k) (t0 : k ≤ 2147483647) (b1 : (-2147483648) ≤ y) (t1 : y ≤ 2147483647) (b2 : (-2147483648) ≤ s) (t2 : s ≤ 2147483647) (b3 : (-9223372036854775808) ≤ d) (t3 : d ≤ 9223372036854775807) (k0 : ly_hv cst h 20017 0 = some (d)) (l0 : hp_a l 0 94) (l1 : hp_i l 1 (k)) (l2 : hp_i l 2 (y)) (l3 : hp_i l 3 (s)) (e0 : ∀ (l' : am_L) (h' : am_H) (y0 : Int32) (y1 : Int32) (y2 : Int64) (y3 : Int32), y0.toInt = (s) → y1.toInt = (y) → y2.toInt = (d) → y3.toInt = (k) → ly_hy m_tt ly_TH h' → ly_fr cst [] h h' → h.length ≤ h'.length → hp_a l' 0 94 → hp_i l' 1 (k) → hp_i l' 2 (y) → hp_i l' 3 (s) → hp_F cst strs Φ D M 25 l' [.int y0, .int y1, .long y2, .int y3, .ref 94] h') : hp_F cst strs Φ D M 7 l [.int x0] h := by
  refine hp_arc c hM rk2_k hD [k, y, s, d] rfl hy (hp_Bc (z := k) rfl b0 t0 (hp_Bc (z := y) rfl b1 t1 (hp_Bc (z := s) rfl b2 t2 (hp_Bc (z := d) rfl b3 t3 hp_Bn)))) hp_Fn (hp_Kc (zi := (0 + 0)) (zv := (0 + (1 * d + 0))) k0 rfl rfl (by omega) (by omega) hp_Kn) (hp_La l0 (hp_Li (z := (0 + (1 * k + 0))) l1 rfl (by omega) (hp_Li (z := (0 + (1 * y + 0))) l2 rfl (by omega) (hp_Li (z := (0 + (1 * s + 0))) l3 rfl (by omega) hp_Ln)))) (hp_Si (z := (0 + 0)) rfl (by omega) trivial) ?_ ?_
  · intro p_9 hp ys l' st' h' hys a1_9 a2 a3 gZ gL gS
    rcases List.mem_cons.mp hp with rfl | hp
    · obtain rfl := hp_y0 hys
      obtain ⟨y0, t0, rfl, q0, g0⟩ := hp_gSi (z := (0 + (1 * s + 0))) gS rfl
      obtain ⟨y1, t1, rfl, q1_9, g1⟩ := hp_gSi (z := (0 + (1 * y + 0))) g0 rfl
      obtain ⟨y2, t2, rfl, q2_9, g2⟩ := hp_gSj (z := (0 + (1 * d + 0))) g1 rfl
      obtain ⟨y3, t3, rfl, q3_9, g3_9⟩ := hp_gSi (z := (0 + (1 * k + 0))) g2 rfl
      obtain ⟨t4_9, rfl, g4⟩ := hp_gSa g3_9 (by decide)
      cases hp_gSn g4
      exact e0 l' h' y0 y1 y2 y3 (by omega) (by omega) (by omega) (by omega) a1_9 a2 a3 (hp_gLa gL (List.mem_of_getElem? (i := 0) rfl) (by decide)) (hp_gLi (z := (0 + (1 * k + 0))) gL (List.mem_of_getElem? (i := 1) rfl) rfl (by omega)) (hp_gLi (z := (0 + (1 * y + 0))) gL (List.mem_of_getElem? (i := 2) rfl) rfl (by omega)) (hp_gLi (z := (0 + (1 * s + 0))) gL (List.mem_of_getElem? (i := 3) rfl) rfl (by omega))
    cases hp
  · intro p_9 hp ys v_9 h' hys a1_9 a2 a3 gZ gS
    cases hp
theorem rk3_k : hp_chk 325 28 3 [(0, (-2147483648), 2147483647), (1, (-2147483648), 2147483647), (2, (-2147483648), 2147483647)] [] [(0, .inr (.inr (.inl (some 94)))), (1, .inl (0, [(0, 1)])), (2, .inl (0, [(1, 1)])), (3, .inl (0, [(2, 1)]))] [.inl ((-1), [])] [] [] 2 [] [([], 3, [(0, (-2147483648), 2147483647), (1, (-2147483648), 2147483647), (2, (-2147483648), 2147483647)], [], [], [.inl (0, [])], [])] = true := by decide +kernel
theorem rk3 {cst : am_K} {strs : List Nat} {Φ : am_Q → Prop} {D : Nat} {M : am_M} {h : am_H} {l : am_L} (c : hp_C cst strs D) (hM : m_P[325]? = some M) (hD : (2 : Int) ≤ (D : Int) + 1) (hy : ly_hy m_tt ly_TH h) (k y s : Int) (x0 : Int32) (hx0 : x0.toInt = (-1)) (b0 : (-2147483648) ≤ k) (t0 : k ≤ 2147483647) (b1 : (-2147483648) ≤ y) (t1 : y ≤ 2147483647) (b2 : (-2147483648) ≤ s) (t2 : s ≤ 2147483647) (l0 : hp_a l 0 94) (l1 : hp_i l 1 (k)) (l2 : hp_i l 2 (y)) (l3 : hp_i l 3 (s)) (r0 : ∀ (h' : am_H) (y0 : Int32), y0.toInt = 0 → ly_hy m_tt ly_TH h' → ly_fr cst [] h h' → h.length ≤ h'.length → Φ (some (.int y0), h', 0, 0)) : hp_F cst strs Φ D M 28 l [.int x0] h := by
  refine hp_arc c hM rk3_k hD [k, y, s] rfl hy (hp_Bc (z := k) rfl b0 t0 (hp_Bc (z := y) rfl b1 t1 (hp_Bc (z := s) rfl b2 t2 hp_Bn))) hp_Fn hp_Kn (hp_La l0 (hp_Li (z := (0 + (1 * k + 0))) l1 rfl (by omega) (hp_Li (z := (0 + (1 * y + 0))) l2 rfl (by omega) (hp_Li (z := (0 + (1 * s + 0))) l3 rfl (by omega) hp_Ln)))) (hp_Si (z := ((-1) + 0)) rfl (by omega) trivial) ?_ ?_
  · intro p_9 hp ys l' st' h' hys a1_9 a2 a3 gZ gL gS
    cases hp
  · intro p_9 hp ys v_9 h' hys a1_9 a2 a3 gZ gS
    rcases List.mem_cons.mp hp with rfl | hp
    · obtain rfl := hp_y0 hys
      cases v_9 with
      | none => cases gS
      | some wz =>
        obtain ⟨y0, t0, s0_9, q0, -⟩ := hp_gSi (z := (0 + 0)) gS rfl
        cases s0_9
        exact r0 h' y0 (by omega) a1_9 a2 a3
    cases hp
theorem rk4_k : hp_chk 325 28 4 [(0, (-2147483648), 2147483647), (1, (-2147483648), 2147483647), (2, (-2147483648), 2147483647), (3, 0, 1199)] [] [(0, .inr (.inr (.inl (some 94)))), (1, .inl (0, [(0, 1)])), (2, .inl (0, [(1, 1)])), (3, .inl (0, [(2, 1)]))] [.inl (0, [(3, 1)])] [] [] 2 [(47, ([], 4, [(0, (-2147483648), 2147483647), (1, (-2147483648), 2147483647), (2, (-2147483648), 2147483647), (3, 0, 1199)], [], [(0, .inr (.inr (.inl (some 94)))), (1, .inl (0, [(0, 1)])), (2, .inl (0, [(1, 1)])), (3, .inl (0, [(2, 1)])), (5, .inl (0, [(3, 1)])), (6, .inl (0, [])), (7, .inl (0, [])), (8, .inl (0, []))], [], []))] [] = true := by decide +kernel
theorem rk4 {cst : am_K} {strs : List Nat} {Φ : am_Q → Prop} {D : Nat} {M : am_M} {h : am_H} {l : am_L} (c : hp_C cst strs D) (hM : m_P[325]? = some M) (hD : (2 : Int) ≤ (D : Int) + 1) (hy : ly_hy m_tt ly_TH h) (k y s cq : Int) (x0 : Int32) (hx0 : x0.toInt = (cq)) (b0 : (-2147483648) ≤ k) (t0 : k ≤ 2147483647) (b1 : (-2147483648) ≤ y) (t1 : y ≤ 2147483647) (b2 : (-2147483648) ≤ s) (t2 : s ≤ 2147483647) (b3 : 0 ≤ cq) (t3 : cq ≤ 1199) (l0 : hp_a l 0 94) (l1 : hp_i l 1 (k)) (l2 : hp_i l 2 (y)) (l3 : hp_i l 3 (s)) (e0 : ∀ (l' : am_L) (h' : am_H), ly_hy m_tt ly_TH h' → ly_fr cst [] h h' → h.length ≤ h'.length → hp_a l' 0 94 → hp_i l' 1 (k) → hp_i l' 2 (y) → hp_i l' 3 (s) → hp_i l' 5 (cq) → hp_i l' 6 0 → hp_i l' 7 0 → hp_i l' 8 0 → hp_F cst strs Φ D M 47 l' [] h') : hp_F cst strs Φ D M 28 l [.int x0] h := by
  refine hp_arc c hM rk4_k hD [k, y, s, cq] rfl hy (hp_Bc (z := k) rfl b0 t0 (hp_Bc (z := y) rfl b1 t1 (hp_Bc (z := s) rfl b2 t2 (hp_Bc (z := cq) rfl b3 t3 hp_Bn)))) hp_Fn hp_Kn (hp_La l0 (hp_Li (z := (0 + (1 * k + 0))) l1 rfl (by omega) (hp_Li (z := (0 + (1 * y + 0))) l2 rfl (by omega) (hp_Li (z := (0 + (1 * s + 0))) l3 rfl (by omega) hp_Ln)))) (hp_Si (z := (0 + (1 * cq + 0))) rfl (by omega) trivial) ?_ ?_
  · intro p_9 hp ys l' st' h' hys a1_9 a2 a3 gZ gL gS
    rcases List.mem_cons.mp hp with rfl | hp
    · obtain rfl := hp_y0 hys
      cases hp_gSn gS
      exact e0 l' h' a1_9 a2 a3 (hp_gLa gL (List.mem_of_getElem? (i := 0) rfl) (by decide)) (hp_gLi (z := (0 + (1 * k + 0))) gL (List.mem_of_getElem? (i := 1) rfl) rfl (by omega)) (hp_gLi (z := (0 + (1 * y + 0))) gL (List.mem_of_getElem? (i := 2) rfl) rfl (by omega)) (hp_gLi (z := (0 + (1 * s + 0))) gL (List.mem_of_getElem? (i := 3) rfl) rfl (by omega)) (hp_gLi (z := (0 + (1 * cq + 0))) gL (List.mem_of_getElem? (i := 4) rfl) rfl (by omega)) (hp_gLi (z := (0 + 0)) gL (List.mem_of_getElem? (i := 5) rfl) rfl (by omega)) (hp_gLi (z := (0 + 0)) gL (List.mem_of_getElem? (i := 6) rfl) rfl (by omega)) (hp_gLi (z := (0 + 0)) gL (List.mem_of_getElem? (i := 7) rfl) rfl (by omega))
    cases hp
  · intro p_9 hp ys v_9 h' hys a1_9 a2 a3 gZ gS
    cases hp
theorem rk5y_k : hp_chk 325 47 7 [(0, 0, 13), (1, (-2147483648), 2147483647), (2, (-2147483648), 2147483647), (3, 0, 1199), (4, (-2147483648), 2147483647), (5, 2, 30), (6, 0, 30)] [] [(0, .inr (.inr (.inl (some 94)))), (1, .inl (0, [(0, 1)])), (2, .inl (0, [(1, 1)])), (3, .inl (0, [(2, 1)])), (5, .inl (0, [(3, 1)])), (6, .inl (0, [(4, 1)])), (7, .inl (0, [(5, 1)])), (8, .inl (0, [(6, 1)]))] [] [(19989, (0, []), (0, [(6, 1)]))] [] 2 [] [([], 7, [(0, 0, 13), (1, (-2147483648), 2147483647), (2, (-2147483648), 2147483647), (3, 0, 1199), (4, (-2147483648), 2147483647), (5, 2, 30), (6, 0, 30)], [], [], [.inl (0, [(4, 1)])], [])] = true := by decide +kernel
theorem rk5y {cst : am_K} {strs : List Nat} {Φ : am_Q → Prop} {D : Nat} {M : am_M} {h : am_H} {l : am_L} (c : hp_C cst strs D) (hM : m_P[325]? = some M) (hD : (2 : Int) ≤ (D : Int) + 1) (hy : ly_hy m_tt ly_TH h) (k y s cq o n m : Int) (b0 : 0 ≤ k) (t0 : k ≤ 13) (b1 : (-2147483648) ≤ y) (t1 : y ≤ 2147483647) (b2 : (-2147483648) ≤ s) (t2 : s ≤ 2147483647) (b3 : 0 ≤ cq) (t3 : cq ≤ 1199) (b4 : (-2147483648) ≤ o) (t4 : o ≤ 2147483647) (b5 : 2 ≤ n) (t5 : n ≤ 30) (b6 : 0 ≤ m) (t6 : m ≤ 30) (k0 : ly_hv cst h 19989 0 = some (m)) (l0 : hp_a l 0 94) (l1 : hp_i l 1 (k)) (l2 : hp_i l 2 (y)) (l3 : hp_i l 3 (s)) (l5 : hp_i l 5 (cq)) (l6 : hp_i l 6 (o)) (l7 : hp_i l 7 (n)) (l8 : hp_i l 8 (m)) (r0 : ∀ (h' : am_H) (y0 : Int32), y0.toInt = (o) → ly_hy m_tt ly_TH h' → ly_fr cst [] h h' → h.length ≤ h'.length → Φ (some (.int y0), h', 0, 0)) : hp_F cst strs Φ D M 47 l [] h := by
  refine hp_arc c hM rk5y_k hD [k, y, s, cq, o, n, m] rfl hy (hp_Bc (z := k) rfl b0 t0 (hp_Bc (z := y) rfl b1 t1 (hp_Bc (z := s) rfl b2 t2 (hp_Bc (z := cq) rfl b3 t3 (hp_Bc (z := o) rfl b4 t4 (hp_Bc (z := n) rfl b5 t5 (hp_Bc (z := m) rfl b6 t6 hp_Bn))))))) hp_Fn (hp_Kc (zi := (0 + 0)) (zv := (0 + (1 * m + 0))) k0 rfl rfl (by omega) (by omega) hp_Kn) (hp_La l0 (hp_Li (z := (0 + (1 * k + 0))) l1 rfl (by omega) (hp_Li (z := (0 + (1 * y + 0))) l2 rfl (by omega) (hp_Li (z := (0 + (1 * s + 0))) l3 rfl (by omega) (hp_Li (z := (0 + (1 * cq + 0))) l5 rfl (by omega) (hp_Li (z := (0 + (1 * o + 0))) l6 rfl (by omega) (hp_Li (z := (0 + (1 * n + 0))) l7 rfl (by omega) (hp_Li (z := (0 + (1 * m + 0))) l8 rfl (by omega) hp_Ln)))))))) trivial ?_ ?_
  · intro p_9 hp ys l' st' h' hys a1_9 a2 a3 gZ gL gS
    cases hp
  · intro p_9 hp ys v_9 h' hys a1_9 a2 a3 gZ gS
    rcases List.mem_cons.mp hp with rfl | hp
    · obtain rfl := hp_y0 hys
      cases v_9 with
      | none => cases gS
      | some wz =>
        obtain ⟨y0, t0, s0_9, q0, -⟩ := hp_gSi (z := (0 + (1 * o + 0))) gS rfl
        cases s0_9
        exact r0 h' y0 (by omega) a1_9 a2 a3
    cases hp
theorem rk5n_k : hp_chk 325 47 7 [(0, 0, 13), (1, (-2147483648), 2147483647), (2, (-2147483648), 2147483647), (3, 0, 1199), (4, (-2147483648), 2147483647), (5, 0, 1), (6, 0, 30)] [] [(0, .inr (.inr (.inl (some 94)))), (1, .inl (0, [(0, 1)])), (2, .inl (0, [(1, 1)])), (3, .inl (0, [(2, 1)])), (5, .inl (0, [(3, 1)])), (6, .inl (0, [(4, 1)])), (7, .inl (0, [(5, 1)])), (8, .inl (0, [(6, 1)]))] [] [(19989, (0, []), (0, [(6, 1)]))] [] 2 [] [([], 7, [(0, 0, 13), (1, (-2147483648), 2147483647), (2, (-2147483648), 2147483647), (3, 0, 1199), (4, (-2147483648), 2147483647), (5, 0, 1), (6, 0, 30)], [], [], [.inl (0, [])], [])] = true := by decide +kernel
theorem rk5n {cst : am_K} {strs : List Nat} {Φ : am_Q → Prop} {D : Nat} {M : am_M} {h : am_H} {l : am_L} (c : hp_C cst strs D) (hM : m_P[325]? = some M) (hD : (2 : Int) ≤ (D : Int) + 1) (hy : ly_hy m_tt ly_TH h) (k y s cq o n m : Int) (b0 : 0 ≤ k) (t0 : k ≤ 13) (b1 : (-2147483648) ≤ y) (t1 : y ≤ 2147483647) (b2 : (-2147483648) ≤ s) (t2 : s ≤ 2147483647) (b3 : 0 ≤ cq) (t3 : cq ≤ 1199) (b4 : (-2147483648) ≤ o) (t4 : o ≤ 2147483647) (b5 : 0 ≤ n) (t5 : n ≤ 1) (b6 : 0 ≤ m) (t6 : m ≤ 30) (k0 : ly_hv cst h 19989 0 = some (m)) (l0 : hp_a l 0 94) (l1 : hp_i l 1 (k)) (l2 : hp_i l 2 (y)) (l3 : hp_i l 3 (s)) (l5 : hp_i l 5 (cq)) (l6 : hp_i l 6 (o)) (l7 : hp_i l 7 (n)) (l8 : hp_i l 8 (m)) (r0 : ∀ (h' : am_H) (y0 : Int32), y0.toInt = 0 → ly_hy m_tt ly_TH h' → ly_fr cst [] h h' → h.length ≤ h'.length → Φ (some (.int y0), h', 0, 0)) : hp_F cst strs Φ D M 47 l [] h := by
  refine hp_arc c hM rk5n_k hD [k, y, s, cq, o, n, m] rfl hy (hp_Bc (z := k) rfl b0 t0 (hp_Bc (z := y) rfl b1 t1 (hp_Bc (z := s) rfl b2 t2 (hp_Bc (z := cq) rfl b3 t3 (hp_Bc (z := o) rfl b4 t4 (hp_Bc (z := n) rfl b5 t5 (hp_Bc (z := m) rfl b6 t6 hp_Bn))))))) hp_Fn (hp_Kc (zi := (0 + 0)) (zv := (0 + (1 * m + 0))) k0 rfl rfl (by omega) (by omega) hp_Kn) (hp_La l0 (hp_Li (z := (0 + (1 * k + 0))) l1 rfl (by omega) (hp_Li (z := (0 + (1 * y + 0))) l2 rfl (by omega) (hp_Li (z := (0 + (1 * s + 0))) l3 rfl (by omega) (hp_Li (z := (0 + (1 * cq + 0))) l5 rfl (by omega) (hp_Li (z := (0 + (1 * o + 0))) l6 rfl (by omega) (hp_Li (z := (0 + (1 * n + 0))) l7 rfl (by omega) (hp_Li (z := (0 + (1 * m + 0))) l8 rfl (by omega) hp_Ln)))))))) trivial ?_ ?_
  · intro p_9 hp ys l' st' h' hys a1_9 a2 a3 gZ gL gS
    cases hp
  · intro p_9 hp ys v_9 h' hys a1_9 a2 a3 gZ gS
    rcases List.mem_cons.mp hp with rfl | hp
    · obtain rfl := hp_y0 hys
      cases v_9 with
      | none => cases gS
      | some wz =>
        obtain ⟨y0, t0, s0_9, q0, -⟩ := hp_gSi (z := (0 + 0)) gS rfl
        cases s0_9
        exact r0 h' y0 (by omega) a1_9 a2 a3
    cases hp
theorem rk6_k : hp_chk 325 47 11 [(0, 0, 13), (1, (-2147483648), 2147483647), (2, (-2147483648), 2147483647), (3, 0, 1199), (4, (-2147483648), 2147483647), (5, 0, 30), (6, 0, 29), (7, 0, 30), (8, 0, 29), (9, (-2147483648), 2147483647), (10, (-2147483648), 2147483647)] [((-1), [(6, (-1)), (7, 1)])] [(0, .inr (.inr (.inl (some 94)))), (1, .inl (0, [(0, 1)])), (2, .inl (0, [(1, 1)])), (3, .inl (0, [(2, 1)])), (5, .inl (0, [(3, 1)])), (6, .inl (0, [(4, 1)])), (7, .inl (0, [(5, 1)])), (8, .inl (0, [(6, 1)]))] [] [(19989, (0, []), (0, [(7, 1)])), (62040, (0, [(3, 1)]), (0, [(8, 1)])), (22784, (0, [(6, 1)]), (0, [(9, 1)])), (22784, (0, [(8, 1)]), (0, [(10, 1)])), (61000, (0, [(9, 1), (10, (-1))]), (1, []))] [] 2 [(47, ([], 11, [(0, 0, 13), (1, (-2147483648), 2147483647), (2, (-2147483648), 2147483647), (3, 0, 1199), (4, (-2147483648), 2147483647), (5, 0, 30), (6, 0, 29), (7, 0, 30), (8, 0, 29), (9, (-2147483648), 2147483647), (10, (-2147483648), 2147483647)], [], [(0, .inr (.inr (.inl (some 94)))), (1, .inl (0, [(0, 1)])), (2, .inl (0, [(1, 1)])), (3, .inl (0, [(2, 1)])), (5, .inl (0, [(3, 1)])), (6, .inl (0, [(4, 1)])), (7, .inl (0, [(5, 1)])), (8, .inl (1, [(6, 1)]))], [], []))] [] = true := by decide +kernel
theorem rk6 {cst : am_K} {strs : List Nat} {Φ : am_Q → Prop} {D : Nat} {M : am_M} {h : am_H} {l : am_L} (c : hp_C cst strs D) (hM : m_P[325]? = some M) (hD : (2 : Int) ≤ (D : Int) + 1) (hy : ly_hy m_tt ly_TH h) (k y s cq o n a m la u v : Int) (b0 : 0 ≤ k) (t0 : k ≤ 13) (b1 : (-2147483648) ≤ y) (t1 : y ≤ 2147483647) (b2 : (-2147483648) ≤ s) (t2 : s ≤ 2147483647) (b3 : 0 ≤ cq) (t3 : cq ≤ 1199) (b4 : (-2147483648) ≤ o) (t4 : o ≤ 2147483647) (b5 : 0 ≤ n) (t5 : n ≤ 30) (b6 : 0 ≤ a) (t6 : a ≤ 29) (b7 : 0 ≤ m) (t7 : m ≤ 30) (b8 : 0 ≤ la) (t8 : la ≤ 29) (b9 : (-2147483648) ≤ u) (t9 : u ≤ 2147483647) (b10 : (-2147483648) ≤ v) (t10 : v ≤ 2147483647) (f0 : 0 ≤ (m - a - 1)) (k0 : ly_hv cst h 19989 0 = some (m)) (k1 : ly_hv cst h 62040 (cq) = some (la)) (k2 : ly_hv cst h 22784 (a) = some (u)) (k3 : ly_hv cst h 22784 (la) = some (v)) (k4 : ly_hv cst h 61000 (u - v) = some 1) (l0 : hp_a l 0 94) (l1 : hp_i l 1 (k)) (l2 : hp_i l 2 (y)) (l3 : hp_i l 3 (s)) (l5 : hp_i l 5 (cq)) (l6 : hp_i l 6 (o)) (l7 : hp_i l 7 (n)) (l8 : hp_i l 8 (a)) (e0 : ∀ (l' : am_L) (h' : am_H), ly_hy m_tt ly_TH h' → ly_fr cst [] h h' → h.length ≤ h'.length → hp_a l' 0 94 → hp_i l' 1 (k) → hp_i l' 2 (y) → hp_i l' 3 (s) → hp_i l' 5 (cq) → hp_i l' 6 (o) → hp_i l' 7 (n) → hp_i l' 8 (a + 1) → hp_F cst strs Φ D M 47 l' [] h') : hp_F cst strs Φ D M 47 l [] h := by
  refine hp_arc c hM rk6_k hD [k, y, s, cq, o, n, a, m, la, u, v] rfl hy (hp_Bc (z := k) rfl b0 t0 (hp_Bc (z := y) rfl b1 t1 (hp_Bc (z := s) rfl b2 t2 (hp_Bc (z := cq) rfl b3 t3 (hp_Bc (z := o) rfl b4 t4 (hp_Bc (z := n) rfl b5 t5 (hp_Bc (z := a) rfl b6 t6 (hp_Bc (z := m) rfl b7 t7 (hp_Bc (z := la) rfl b8 t8 (hp_Bc (z := u) rfl b9 t9 (hp_Bc (z := v) rfl b10 t10 hp_Bn))))))))))) (hp_Fc (z := ((-1) + ((-1) * a + (1 * m + 0)))) rfl (by omega) hp_Fn) (hp_Kc (zi := (0 + 0)) (zv := (0 + (1 * m + 0))) k0 rfl rfl (by omega) (by omega) (hp_Kc (zi := (0 + (1 * cq + 0))) (zv := (0 + (1 * la + 0))) k1 rfl rfl (by omega) (by omega) (hp_Kc (zi := (0 + (1 * a + 0))) (zv := (0 + (1 * u + 0))) k2 rfl rfl (by omega) (by omega) (hp_Kc (zi := (0 + (1 * la + 0))) (zv := (0 + (1 * v + 0))) k3 rfl rfl (by omega) (by omega) (hp_Kc (zi := (0 + (1 * u + ((-1) * v + 0)))) (zv := (1 + 0)) k4 rfl rfl (by omega) (by omega) hp_Kn))))) (hp_La l0 (hp_Li (z := (0 + (1 * k + 0))) l1 rfl (by omega) (hp_Li (z := (0 + (1 * y + 0))) l2 rfl (by omega) (hp_Li (z := (0 + (1 * s + 0))) l3 rfl (by omega) (hp_Li (z := (0 + (1 * cq + 0))) l5 rfl (by omega) (hp_Li (z := (0 + (1 * o + 0))) l6 rfl (by omega) (hp_Li (z := (0 + (1 * n + 0))) l7 rfl (by omega) (hp_Li (z := (0 + (1 * a + 0))) l8 rfl (by omega) hp_Ln)))))))) trivial ?_ ?_
  · intro p_9 hp ys l' st' h' hys a1_9 a2 a3 gZ gL gS
    rcases List.mem_cons.mp hp with rfl | hp
    · obtain rfl := hp_y0 hys
      cases hp_gSn gS
      exact e0 l' h' a1_9 a2 a3 (hp_gLa gL (List.mem_of_getElem? (i := 0) rfl) (by decide)) (hp_gLi (z := (0 + (1 * k + 0))) gL (List.mem_of_getElem? (i := 1) rfl) rfl (by omega)) (hp_gLi (z := (0 + (1 * y + 0))) gL (List.mem_of_getElem? (i := 2) rfl) rfl (by omega)) (hp_gLi (z := (0 + (1 * s + 0))) gL (List.mem_of_getElem? (i := 3) rfl) rfl (by omega)) (hp_gLi (z := (0 + (1 * cq + 0))) gL (List.mem_of_getElem? (i := 4) rfl) rfl (by omega)) (hp_gLi (z := (0 + (1 * o + 0))) gL (List.mem_of_getElem? (i := 5) rfl) rfl (by omega)) (hp_gLi (z := (0 + (1 * n + 0))) gL (List.mem_of_getElem? (i := 6) rfl) rfl (by omega)) (hp_gLi (z := (1 + (1 * a + 0))) gL (List.mem_of_getElem? (i := 7) rfl) rfl (by omega))
    cases hp
  · intro p_9 hp ys v h' hys a1_9 a2 a3 gZ gS
    cases hp
theorem rk7_k : hp_chk 325 47 11 [(0, 0, 13), (1, (-2147483648), 2147483647), (2, (-2147483648), 2147483647), (3, 0, 1199), (4, (-2147483648), 2147483647), (5, 0, 30), (6, 0, 29), (7, 0, 30), (8, 0, 29), (9, (-2147483648), 2147483647), (10, (-9223372036854775808), 9223372036854775807)] [((-1), [(6, (-1)), (7, 1)])] [(0, .inr (.inr (.inl (some 94)))), (1, .inl (0, [(0, 1)])), (2, .inl (0, [(1, 1)])), (3, .inl (0, [(2, 1)])), (5, .inl (0, [(3, 1)])), (6, .inl (0, [(4, 1)])), (7, .inl (0, [(5, 1)])), (8, .inl (0, [(6, 1)]))] [] [(19989, (0, []), (0, [(7, 1)])), (62040, (0, [(3, 1)]), (0, [(8, 1)])), (22784, (0, [(6, 1)]), (0, [(9, 1)])), (22784, (0, [(8, 1)]), (0, [(9, 1)])), (20017, (0, []), (0, [(10, 1)]))] [] 2 [(86, ([], 11, [(0, 0, 13), (1, (-2147483648), 2147483647), (2, (-2147483648), 2147483647), (3, 0, 1199), (4, (-2147483648), 2147483647), (5, 0, 30), (6, 0, 29), (7, 0, 30), (8, 0, 29), (9, (-2147483648), 2147483647), (10, (-9223372036854775808), 9223372036854775807)], [], [(0, .inr (.inr (.inl (some 94)))), (1, .inl (0, [(0, 1)])), (2, .inl (0, [(1, 1)])), (3, .inl (0, [(2, 1)])), (5, .inl (0, [(3, 1)])), (6, .inl (0, [(4, 1)])), (7, .inl (0, [(5, 1)])), (8, .inl (0, [(6, 1)]))], [.inl (0, [(2, 1)]), .inl (0, [(1, 1)]), .inr (.inl (0, [(10, 1)])), .inl (0, [(0, 1)]), .inl (0, [(6, 1)]), .inr (.inr (.inl (some 94)))], []))] [] = true := by decide +kernel
theorem rk7 {cst : am_K} {strs : List Nat} {Φ : am_Q → Prop} {D : Nat} {M : am_M} {h : am_H} {l : am_L} (c : hp_C cst strs D) (hM : m_P[325]? = some M) (hD : (2 : Int) ≤ (D : Int) + 1) (hy : ly_hy m_tt ly_TH h) (k y s cq o n a m la u d : Int) (b0 : 0 ≤ k) (t0 : k ≤ 13) (b1 : (-2147483648) ≤ y) (t1 : y ≤ 2147483647) (b2 : (-2147483648) ≤ s) (t2 : s ≤ 2147483647) (b3 : 0 ≤ cq) (t3 : cq ≤ 1199) (b4 : (-2147483648) ≤ o) (t4 : o ≤ 2147483647) (b5 : 0 ≤ n) (t5 : n ≤ 30) (b6 : 0 ≤ a) (t6 : a ≤ 29) (b7 : 0 ≤ m) (t7 : m ≤ 30) (b8 : 0 ≤ la) (t8 : la ≤ 29) (b9 : (-2147483648) ≤ u) (t9 : u ≤ 2147483647) (b10 : (-9223372036854775808) ≤ d) (t10 : d ≤ 9223372036854775807) (f0 : 0 ≤ (m - a - 1)) (k0 : ly_hv cst h 19989 0 = some (m)) (k1 : ly_hv cst h 62040 (cq) = some (la)) (k2 : ly_hv cst h 22784 (a) = some (u)) (k3 : ly_hv cst h 22784 (la) = some (u)) (k4 : ly_hv cst h 20017 0 = some (d)) (l0 : hp_a l 0 94) (l1 : hp_i l 1 (k)) (l2 : hp_i l 2 (y)) (l3 : hp_i l 3 (s)) (l5 : hp_i l 5 (cq)) (l6 : hp_i l 6 (o)) (l7 : hp_i l 7 (n)) (l8 : hp_i l 8 (a)) (e0 : ∀ (l' : am_L) (h' : am_H) (y0 : Int32) (y1 : Int32) (y2 : Int64) (y3 : Int32) (y4 : Int32), y0.toInt = (s) → y1.toInt = (y) → y2.toInt = (d) → y3.toInt = (k) → y4.toInt = (a) → ly_hy m_tt ly_TH h' → ly_fr cst [] h h' → h.length ≤ h'.length → hp_a l' 0 94 → hp_i l' 1 (k) → hp_i l' 2 (y) → hp_i l' 3 (s) → hp_i l' 5 (cq) → hp_i l' 6 (o) → hp_i l' 7 (n) → hp_i l' 8 (a) → hp_F cst strs Φ D M 86 l' [.int y0, .int y1, .long y2, .int y3, .int y4, .ref 94] h') : hp_F cst strs Φ D M 47 l [] h := by
  refine hp_arc c hM rk7_k hD [k, y, s, cq, o, n, a, m, la, u, d] rfl hy (hp_Bc (z := k) rfl b0 t0 (hp_Bc (z := y) rfl b1 t1 (hp_Bc (z := s) rfl b2 t2 (hp_Bc (z := cq) rfl b3 t3 (hp_Bc (z := o) rfl b4 t4 (hp_Bc (z := n) rfl b5 t5 (hp_Bc (z := a) rfl b6 t6 (hp_Bc (z := m) rfl b7 t7 (hp_Bc (z := la) rfl b8 t8 (hp_Bc (z := u) rfl b9 t9 (hp_Bc (z := d) rfl b10 t10 hp_Bn))))))))))) (hp_Fc (z := ((-1) + ((-1) * a + (1 * m + 0)))) rfl (by omega) hp_Fn) (hp_Kc (zi := (0 + 0)) (zv := (0 + (1 * m + 0))) k0 rfl rfl (by omega) (by omega) (hp_Kc (zi := (0 + (1 * cq + 0))) (zv := (0 + (1 * la + 0))) k1 rfl rfl (by omega) (by omega) (hp_Kc (zi := (0 + (1 * a + 0))) (zv := (0 + (1 * u + 0))) k2 rfl rfl (by omega) (by omega) (hp_Kc (zi := (0 + (1 * la + 0))) (zv := (0 + (1 * u + 0))) k3 rfl rfl (by omega) (by omega) (hp_Kc (zi := (0 + 0)) (zv := (0 + (1 * d + 0))) k4 rfl rfl (by omega) (by omega) hp_Kn))))) (hp_La l0 (hp_Li (z := (0 + (1 * k + 0))) l1 rfl (by omega) (hp_Li (z := (0 + (1 * y + 0))) l2 rfl (by omega) (hp_Li (z := (0 + (1 * s + 0))) l3 rfl (by omega) (hp_Li (z := (0 + (1 * cq + 0))) l5 rfl (by omega) (hp_Li (z := (0 + (1 * o + 0))) l6 rfl (by omega) (hp_Li (z := (0 + (1 * n + 0))) l7 rfl (by omega) (hp_Li (z := (0 + (1 * a + 0))) l8 rfl (by omega) hp_Ln)))))))) trivial ?_ ?_
  · intro p_9 hp ys l' st' h' hys a1_9 a2 a3 gZ gL gS
    rcases List.mem_cons.mp hp with rfl | hp
    · obtain rfl := hp_y0 hys
      obtain ⟨y0, t0, rfl, q0, g0⟩ := hp_gSi (z := (0 + (1 * s + 0))) gS rfl
      obtain ⟨y1, t1, rfl, q1_9, g1⟩ := hp_gSi (z := (0 + (1 * y + 0))) g0 rfl
      obtain ⟨y2, t2, rfl, q2_9, g2⟩ := hp_gSj (z := (0 + (1 * d + 0))) g1 rfl
      obtain ⟨y3, t3, rfl, q3_9, g3_9⟩ := hp_gSi (z := (0 + (1 * k + 0))) g2 rfl
      obtain ⟨y4, t4, rfl, q4_9, g4⟩ := hp_gSi (z := (0 + (1 * a + 0))) g3_9 rfl
      obtain ⟨t5, rfl, g5_9⟩ := hp_gSa g4 (by decide)
      cases hp_gSn g5_9
      exact e0 l' h' y0 y1 y2 y3 y4 (by omega) (by omega) (by omega) (by omega) (by omega) a1_9 a2 a3 (hp_gLa gL (List.mem_of_getElem? (i := 0) rfl) (by decide)) (hp_gLi (z := (0 + (1 * k + 0))) gL (List.mem_of_getElem? (i := 1) rfl) rfl (by omega)) (hp_gLi (z := (0 + (1 * y + 0))) gL (List.mem_of_getElem? (i := 2) rfl) rfl (by omega)) (hp_gLi (z := (0 + (1 * s + 0))) gL (List.mem_of_getElem? (i := 3) rfl) rfl (by omega)) (hp_gLi (z := (0 + (1 * cq + 0))) gL (List.mem_of_getElem? (i := 4) rfl) rfl (by omega)) (hp_gLi (z := (0 + (1 * o + 0))) gL (List.mem_of_getElem? (i := 5) rfl) rfl (by omega)) (hp_gLi (z := (0 + (1 * n + 0))) gL (List.mem_of_getElem? (i := 6) rfl) rfl (by omega)) (hp_gLi (z := (0 + (1 * a + 0))) gL (List.mem_of_getElem? (i := 7) rfl) rfl (by omega))
    cases hp
  · intro p_9 hp ys v_9 h' hys a1_9 a2 a3 gZ gS
    cases hp
theorem rk8_k : hp_chk 325 89 7 [(0, 0, 13), (1, (-2147483648), 2147483647), (2, (-2147483648), 2147483647), (3, 0, 1199), (4, (-2147483648), 2147483647), (5, 0, 30), (6, 0, 29)] [] [(0, .inr (.inr (.inl (some 94)))), (1, .inl (0, [(0, 1)])), (2, .inl (0, [(1, 1)])), (3, .inl (0, [(2, 1)])), (5, .inl (0, [(3, 1)])), (6, .inl (0, [(4, 1)])), (7, .inl (0, [(5, 1)])), (8, .inl (0, [(6, 1)]))] [.inl ((-1), [])] [] [] 2 [(47, ([], 7, [(0, 0, 13), (1, (-2147483648), 2147483647), (2, (-2147483648), 2147483647), (3, 0, 1199), (4, (-2147483648), 2147483647), (5, 0, 30), (6, 0, 29)], [], [(0, .inr (.inr (.inl (some 94)))), (1, .inl (0, [(0, 1)])), (2, .inl (0, [(1, 1)])), (3, .inl (0, [(2, 1)])), (5, .inl (0, [(3, 1)])), (6, .inl (0, [(4, 1)])), (7, .inl (0, [(5, 1)])), (8, .inl (1, [(6, 1)]))], [], []))] [] = true := by decide +kernel
theorem rk8 {cst : am_K} {strs : List Nat} {Φ : am_Q → Prop} {D : Nat} {M : am_M} {h : am_H} {l : am_L} (c : hp_C cst strs D) (hM : m_P[325]? = some M) (hD : (2 : Int) ≤ (D : Int) + 1) (hy : ly_hy m_tt ly_TH h) (k y s cq o n a : Int) (x0 : Int32) (hx0 : x0.toInt = (-1)) (b0 : 0 ≤ k) (t0 : k ≤ 13) (b1 : (-2147483648) ≤ y) (t1 : y ≤ 2147483647) (b2 : (-2147483648) ≤ s) (t2 : s ≤ 2147483647) (b3 : 0 ≤ cq) (t3 : cq ≤ 1199) (b4 : (-2147483648) ≤ o) (t4 : o ≤ 2147483647) (b5 : 0 ≤ n) (t5 : n ≤ 30) (b6 : 0 ≤ a) (t6 : a ≤ 29) (l0 : hp_a l 0 94) (l1 : hp_i l 1 (k)) (l2 : hp_i l 2 (y)) (l3 : hp_i l 3 (s)) (l5 : hp_i l 5 (cq)) (l6 : hp_i l 6 (o)) (l7 : hp_i l 7 (n)) (l8 : hp_i l 8 (a)) (e0 : ∀ (l' : am_L) (h' : am_H), ly_hy m_tt ly_TH h' → ly_fr cst [] h h' → h.length ≤ h'.length → hp_a l' 0 94 → hp_i l' 1 (k) → hp_i l' 2 (y) → hp_i l' 3 (s) → hp_i l' 5 (cq) → hp_i l' 6 (o) → hp_i l' 7 (n) → hp_i l' 8 (a + 1) → hp_F cst strs Φ D M 47 l' [] h') : hp_F cst strs Φ D M 89 l [.int x0] h := by
  refine hp_arc c hM rk8_k hD [k, y, s, cq, o, n, a] rfl hy (hp_Bc (z := k) rfl b0 t0 (hp_Bc (z := y) rfl b1 t1 (hp_Bc (z := s) rfl b2 t2 (hp_Bc (z := cq) rfl b3 t3 (hp_Bc (z := o) rfl b4 t4 (hp_Bc (z := n) rfl b5 t5 (hp_Bc (z := a) rfl b6 t6 hp_Bn))))))) hp_Fn hp_Kn (hp_La l0 (hp_Li (z := (0 + (1 * k + 0))) l1 rfl (by omega) (hp_Li (z := (0 + (1 * y + 0))) l2 rfl (by omega) (hp_Li (z := (0 + (1 * s + 0))) l3 rfl (by omega) (hp_Li (z := (0 + (1 * cq + 0))) l5 rfl (by omega) (hp_Li (z := (0 + (1 * o + 0))) l6 rfl (by omega) (hp_Li (z := (0 + (1 * n + 0))) l7 rfl (by omega) (hp_Li (z := (0 + (1 * a + 0))) l8 rfl (by omega) hp_Ln)))))))) (hp_Si (z := ((-1) + 0)) rfl (by omega) trivial) ?_ ?_
  · intro p_9 hp ys l' st' h' hys a1_9 a2 a3 gZ gL gS
    rcases List.mem_cons.mp hp with rfl | hp
    · obtain rfl := hp_y0 hys
      cases hp_gSn gS
      exact e0 l' h' a1_9 a2 a3 (hp_gLa gL (List.mem_of_getElem? (i := 0) rfl) (by decide)) (hp_gLi (z := (0 + (1 * k + 0))) gL (List.mem_of_getElem? (i := 1) rfl) rfl (by omega)) (hp_gLi (z := (0 + (1 * y + 0))) gL (List.mem_of_getElem? (i := 2) rfl) rfl (by omega)) (hp_gLi (z := (0 + (1 * s + 0))) gL (List.mem_of_getElem? (i := 3) rfl) rfl (by omega)) (hp_gLi (z := (0 + (1 * cq + 0))) gL (List.mem_of_getElem? (i := 4) rfl) rfl (by omega)) (hp_gLi (z := (0 + (1 * o + 0))) gL (List.mem_of_getElem? (i := 5) rfl) rfl (by omega)) (hp_gLi (z := (0 + (1 * n + 0))) gL (List.mem_of_getElem? (i := 6) rfl) rfl (by omega)) (hp_gLi (z := (1 + (1 * a + 0))) gL (List.mem_of_getElem? (i := 7) rfl) rfl (by omega))
    cases hp
  · intro p_9 hp ys v_9 h' hys a1_9 a2 a3 gZ gS
    cases hp
theorem rk9_k : hp_chk 325 89 8 [(0, 0, 13), (1, (-2147483648), 2147483647), (2, (-2147483648), 2147483647), (3, 0, 1199), (4, (-2147483648), 2147483647), (5, 0, 29), (6, 0, 29), (7, 0, 1199)] [] [(0, .inr (.inr (.inl (some 94)))), (1, .inl (0, [(0, 1)])), (2, .inl (0, [(1, 1)])), (3, .inl (0, [(2, 1)])), (5, .inl (0, [(3, 1)])), (6, .inl (0, [(4, 1)])), (7, .inl (0, [(5, 1)])), (8, .inl (0, [(6, 1)]))] [.inl (0, [(7, 1)])] [] [] 2 [(101, ([], 8, [(0, 0, 13), (1, (-2147483648), 2147483647), (2, (-2147483648), 2147483647), (3, 0, 1199), (4, (-2147483648), 2147483647), (5, 0, 29), (6, 0, 29), (7, 0, 1199)], [], [(0, .inr (.inr (.inl (some 94)))), (1, .inl (0, [(0, 1)])), (2, .inl (0, [(1, 1)])), (3, .inl (0, [(2, 1)])), (5, .inl (0, [(3, 1)])), (6, .inl (0, [(4, 1)])), (7, .inl (0, [(5, 1)])), (8, .inl (0, [(6, 1)]))], [.inl (0, [(6, 1)]), .inl (1, []), .inl (0, [(4, 1)])], []))] [] = true := by decide +kernel
theorem rk9 {cst : am_K} {strs : List Nat} {Φ : am_Q → Prop} {D : Nat} {M : am_M} {h : am_H} {l : am_L} (c : hp_C cst strs D) (hM : m_P[325]? = some M) (hD : (2 : Int) ≤ (D : Int) + 1) (hy : ly_hy m_tt ly_TH h) (k y s cq o n a w : Int) (x0 : Int32) (hx0 : x0.toInt = (w)) (b0 : 0 ≤ k) (t0 : k ≤ 13) (b1 : (-2147483648) ≤ y) (t1 : y ≤ 2147483647) (b2 : (-2147483648) ≤ s) (t2 : s ≤ 2147483647) (b3 : 0 ≤ cq) (t3 : cq ≤ 1199) (b4 : (-2147483648) ≤ o) (t4 : o ≤ 2147483647) (b5 : 0 ≤ n) (t5 : n ≤ 29) (b6 : 0 ≤ a) (t6 : a ≤ 29) (b7 : 0 ≤ w) (t7 : w ≤ 1199) (l0 : hp_a l 0 94) (l1 : hp_i l 1 (k)) (l2 : hp_i l 2 (y)) (l3 : hp_i l 3 (s)) (l5 : hp_i l 5 (cq)) (l6 : hp_i l 6 (o)) (l7 : hp_i l 7 (n)) (l8 : hp_i l 8 (a)) (e0 : ∀ (l' : am_L) (h' : am_H) (y0 : Int32) (y1 : Int32) (y2 : Int32), y0.toInt = (a) → y1.toInt = 1 → y2.toInt = (o) → ly_hy m_tt ly_TH h' → ly_fr cst [] h h' → h.length ≤ h'.length → hp_a l' 0 94 → hp_i l' 1 (k) → hp_i l' 2 (y) → hp_i l' 3 (s) → hp_i l' 5 (cq) → hp_i l' 6 (o) → hp_i l' 7 (n) → hp_i l' 8 (a) → hp_F cst strs Φ D M 101 l' [.int y0, .int y1, .int y2] h') : hp_F cst strs Φ D M 89 l [.int x0] h := by
  refine hp_arc c hM rk9_k hD [k, y, s, cq, o, n, a, w] rfl hy (hp_Bc (z := k) rfl b0 t0 (hp_Bc (z := y) rfl b1 t1 (hp_Bc (z := s) rfl b2 t2 (hp_Bc (z := cq) rfl b3 t3 (hp_Bc (z := o) rfl b4 t4 (hp_Bc (z := n) rfl b5 t5 (hp_Bc (z := a) rfl b6 t6 (hp_Bc (z := w) rfl b7 t7 hp_Bn)))))))) hp_Fn hp_Kn (hp_La l0 (hp_Li (z := (0 + (1 * k + 0))) l1 rfl (by omega) (hp_Li (z := (0 + (1 * y + 0))) l2 rfl (by omega) (hp_Li (z := (0 + (1 * s + 0))) l3 rfl (by omega) (hp_Li (z := (0 + (1 * cq + 0))) l5 rfl (by omega) (hp_Li (z := (0 + (1 * o + 0))) l6 rfl (by omega) (hp_Li (z := (0 + (1 * n + 0))) l7 rfl (by omega) (hp_Li (z := (0 + (1 * a + 0))) l8 rfl (by omega) hp_Ln)))))))) (hp_Si (z := (0 + (1 * w + 0))) rfl (by omega) trivial) ?_ ?_
  · intro p_9 hp ys l' st' h' hys a1_9 a2 a3 gZ gL gS
    rcases List.mem_cons.mp hp with rfl | hp
    · obtain rfl := hp_y0 hys
      obtain ⟨y0, t0, rfl, q0, g0⟩ := hp_gSi (z := (0 + (1 * a + 0))) gS rfl
      obtain ⟨y1, t1, rfl, q1_9, g1⟩ := hp_gSi (z := (1 + 0)) g0 rfl
      obtain ⟨y2, t2, rfl, q2_9, g2⟩ := hp_gSi (z := (0 + (1 * o + 0))) g1 rfl
      cases hp_gSn g2
      exact e0 l' h' y0 y1 y2 (by omega) (by omega) (by omega) a1_9 a2 a3 (hp_gLa gL (List.mem_of_getElem? (i := 0) rfl) (by decide)) (hp_gLi (z := (0 + (1 * k + 0))) gL (List.mem_of_getElem? (i := 1) rfl) rfl (by omega)) (hp_gLi (z := (0 + (1 * y + 0))) gL (List.mem_of_getElem? (i := 2) rfl) rfl (by omega)) (hp_gLi (z := (0 + (1 * s + 0))) gL (List.mem_of_getElem? (i := 3) rfl) rfl (by omega)) (hp_gLi (z := (0 + (1 * cq + 0))) gL (List.mem_of_getElem? (i := 4) rfl) rfl (by omega)) (hp_gLi (z := (0 + (1 * o + 0))) gL (List.mem_of_getElem? (i := 5) rfl) rfl (by omega)) (hp_gLi (z := (0 + (1 * n + 0))) gL (List.mem_of_getElem? (i := 6) rfl) rfl (by omega)) (hp_gLi (z := (0 + (1 * a + 0))) gL (List.mem_of_getElem? (i := 7) rfl) rfl (by omega))
    cases hp
  · intro p_9 hp ys v_9 h' hys a1_9 a2 a3 gZ gS
    cases hp
theorem rkA_k : hp_chk 325 103 8 [(0, 0, 13), (1, (-2147483648), 2147483647), (2, (-2147483648), 2147483647), (3, 0, 1199), (4, (-2147483648), 2147483647), (5, 0, 29), (6, 0, 29), (7, (-2147483648), 2147483647)] [] [(0, .inr (.inr (.inl (some 94)))), (1, .inl (0, [(0, 1)])), (2, .inl (0, [(1, 1)])), (3, .inl (0, [(2, 1)])), (5, .inl (0, [(3, 1)])), (6, .inl (0, [(4, 1)])), (7, .inl (0, [(5, 1)])), (8, .inl (0, [(6, 1)]))] [.inl (0, [(7, 1)])] [] [] 2 [(47, ([], 8, [(0, 0, 13), (1, (-2147483648), 2147483647), (2, (-2147483648), 2147483647), (3, 0, 1199), (4, (-2147483648), 2147483647), (5, 0, 29), (6, 0, 29), (7, (-2147483648), 2147483647)], [], [(0, .inr (.inr (.inl (some 94)))), (1, .inl (0, [(0, 1)])), (2, .inl (0, [(1, 1)])), (3, .inl (0, [(2, 1)])), (5, .inl (0, [(3, 1)])), (6, .inl (0, [(7, 1)])), (7, .inl (1, [(5, 1)])), (8, .inl (1, [(6, 1)]))], [], []))] [] = true := by decide +kernel
theorem rkA {cst : am_K} {strs : List Nat} {Φ : am_Q → Prop} {D : Nat} {M : am_M} {h : am_H} {l : am_L} (c : hp_C cst strs D) (hM : m_P[325]? = some M) (hD : (2 : Int) ≤ (D : Int) + 1) (hy : ly_hy m_tt ly_TH h) (k y s cq o n a c2 : Int) (x0 : Int32) (hx0 : x0.toInt = (c2)) (b0 : 0 ≤ k) (t0 : k ≤ 13) (b1 : (-2147483648) ≤ y) (t1 : y ≤ 2147483647) (b2 : (-2147483648) ≤ s) (t2 : s ≤ 2147483647) (b3 : 0 ≤ cq) (t3 : cq ≤ 1199) (b4 : (-2147483648) ≤ o) (t4 : o ≤ 2147483647) (b5 : 0 ≤ n) (t5 : n ≤ 29) (b6 : 0 ≤ a) (t6 : a ≤ 29) (b7 : (-2147483648) ≤ c2) (t7 : c2 ≤ 2147483647) (l0 : hp_a l 0 94) (l1 : hp_i l 1 (k)) (l2 : hp_i l 2 (y)) (l3 : hp_i l 3 (s)) (l5 : hp_i l 5 (cq)) (l6 : hp_i l 6 (o)) (l7 : hp_i l 7 (n)) (l8 : hp_i l 8 (a)) (e0 : ∀ (l' : am_L) (h' : am_H), ly_hy m_tt ly_TH h' → ly_fr cst [] h h' → h.length ≤ h'.length → hp_a l' 0 94 → hp_i l' 1 (k) → hp_i l' 2 (y) → hp_i l' 3 (s) → hp_i l' 5 (cq) → hp_i l' 6 (c2) → hp_i l' 7 (n + 1) → hp_i l' 8 (a + 1) → hp_F cst strs Φ D M 47 l' [] h') : hp_F cst strs Φ D M 103 l [.int x0] h := by
  refine hp_arc c hM rkA_k hD [k, y, s, cq, o, n, a, c2] rfl hy (hp_Bc (z := k) rfl b0 t0 (hp_Bc (z := y) rfl b1 t1 (hp_Bc (z := s) rfl b2 t2 (hp_Bc (z := cq) rfl b3 t3 (hp_Bc (z := o) rfl b4 t4 (hp_Bc (z := n) rfl b5 t5 (hp_Bc (z := a) rfl b6 t6 (hp_Bc (z := c2) rfl b7 t7 hp_Bn)))))))) hp_Fn hp_Kn (hp_La l0 (hp_Li (z := (0 + (1 * k + 0))) l1 rfl (by omega) (hp_Li (z := (0 + (1 * y + 0))) l2 rfl (by omega) (hp_Li (z := (0 + (1 * s + 0))) l3 rfl (by omega) (hp_Li (z := (0 + (1 * cq + 0))) l5 rfl (by omega) (hp_Li (z := (0 + (1 * o + 0))) l6 rfl (by omega) (hp_Li (z := (0 + (1 * n + 0))) l7 rfl (by omega) (hp_Li (z := (0 + (1 * a + 0))) l8 rfl (by omega) hp_Ln)))))))) (hp_Si (z := (0 + (1 * c2 + 0))) rfl (by omega) trivial) ?_ ?_
  · intro p_9 hp ys l' st' h' hys a1_9 a2 a3 gZ gL gS
    rcases List.mem_cons.mp hp with rfl | hp
    · obtain rfl := hp_y0 hys
      cases hp_gSn gS
      exact e0 l' h' a1_9 a2 a3 (hp_gLa gL (List.mem_of_getElem? (i := 0) rfl) (by decide)) (hp_gLi (z := (0 + (1 * k + 0))) gL (List.mem_of_getElem? (i := 1) rfl) rfl (by omega)) (hp_gLi (z := (0 + (1 * y + 0))) gL (List.mem_of_getElem? (i := 2) rfl) rfl (by omega)) (hp_gLi (z := (0 + (1 * s + 0))) gL (List.mem_of_getElem? (i := 3) rfl) rfl (by omega)) (hp_gLi (z := (0 + (1 * cq + 0))) gL (List.mem_of_getElem? (i := 4) rfl) rfl (by omega)) (hp_gLi (z := (0 + (1 * c2 + 0))) gL (List.mem_of_getElem? (i := 5) rfl) rfl (by omega)) (hp_gLi (z := (1 + (1 * n + 0))) gL (List.mem_of_getElem? (i := 6) rfl) rfl (by omega)) (hp_gLi (z := (1 + (1 * a + 0))) gL (List.mem_of_getElem? (i := 7) rfl) rfl (by omega))
    cases hp
  · intro p_9 hp ys v_9 h' hys a1_9 a2 a3 gZ gS
    cases hp
/-! how many bits -/
theorem bt_and1 {a b c d : Nat} (ha : a < 256) (hc : c < 256) : (a + 256 * b) &&& (c + 256 * d) = (a &&& c) + 256 * (b &&& d) := by
  have h1 := Nat.and_mod_two_pow (a := a + 256 * b) (b := c + 256 * d) (n := 8)
  have h2 := Nat.and_div_two_pow (a := a + 256 * b) (b := c + 256 * d) (n := 8)
  rw [show (2 : Nat) ^ 8 = 256 from rfl, show (a + 256 * b) % 256 = a by omega, show (c + 256 * d) % 256 = c by omega] at h1
  rw [show (2 : Nat) ^ 8 = 256 from rfl, show (a + 256 * b) / 256 = b by omega, show (c + 256 * d) / 256 = d by omega] at h2
  omega
theorem bt_and {a0 a1 a2 a3 c0 c1 c2 c3 : Nat} (h0 : a0 < 256) (h1 : a1 < 256) (h2 : a2 < 256) (k0 : c0 < 256) (k1 : c1 < 256) (k2 : c2 < 256) : (a0 + 256 * (a1 + 256 * (a2 + 256 * a3))) &&& (c0 + 256 * (c1 + 256 * (c2 + 256 * c3))) = (a0 &&& c0) + 256 * ((a1 &&& c1) + 256 * ((a2 &&& c2) + 256 * (a3 &&& c3))) := by
  rw [bt_and1 h0 k0, bt_and1 h1 k1, bt_and1 h2 k2]
def bt1 (y : Nat) : Nat := (y / 2) &&& 85
def bt2 (a : Nat) : Nat := (a &&& 51) + ((a / 4) &&& 51)
def bt3 (y : Nat) : Nat := bt2 (y - bt1 y)
def bt4 (y : Nat) : Nat := (bt3 y + bt3 y / 16) % 16
theorem bt_1 : ∀ y, y < 256 → ∀ c, c < 2 → ((y / 2 + 128 * c) &&& 85 = bt1 y ∧ bt1 y ≤ y) := by decide +kernel
theorem bt_2 : ∀ y, y < 256 → ∀ c, c < 4 → ((y / 4 + 64 * c) &&& 51 = (y / 4) &&& 51 ∧ (y &&& 51) ≤ 51 ∧ ((y / 4) &&& 51) ≤ 51) := by decide +kernel
theorem bt_3 : ∀ y, y < 256 → bt3 y ≤ 68 ∧ bt3 y % 16 ≤ 4 := by decide +kernel
theorem bt_5 : ∀ b, b < 69 → ∀ c, c < 5 → ((b + b / 16 + 16 * c) &&& 15 = (b + b / 16) % 16 ∧ b + b / 16 + 16 * c < 256) := by decide +kernel
/-- the bits of a byte -/
def btn : Nat → Nat → Nat
  | 0, _ => 0
  | k + 1, x => (x.testBit k).toNat + btn k x
theorem bt_4 : ∀ y, y < 256 → bt4 y = btn 8 y ∧ btn 8 y ≤ 8 := by decide +kernel
/-- the steps of bitCount -/
def bw1 (x : Nat) : Nat := x - ((x / 2) &&& 1431655765)
def bw2 (a : Nat) : Nat := (a &&& 858993459) + ((a / 4) &&& 858993459)
def bw3 (b : Nat) : Nat := (b + b / 16) &&& 252645135
theorem bs2 (x y : Nat) : (x + 256 * y) / 2 = (x / 2 + 128 * (y % 2)) + 256 * (y / 2) := by omega
theorem bm2 (x y : Nat) : (x + 256 * y) % 2 = x % 2 := by omega
theorem bs4 (x y : Nat) : (x + 256 * y) / 4 = (x / 4 + 64 * (y % 4)) + 256 * (y / 4) := by omega
theorem bm4 (x y : Nat) : (x + 256 * y) % 4 = x % 4 := by omega
theorem bs16 (x y : Nat) : (x + 256 * y) / 16 = (x / 16 + 16 * (y % 16)) + 256 * (y / 16) := by omega
theorem bm16 (x y : Nat) : (x + 256 * y) % 16 = x % 16 := by omega
theorem bh2 {x c : Nat} (h : x < 256) (hc : c < 2) : x / 2 + 128 * c < 256 := by omega
theorem bh4 {x c : Nat} (h : x < 256) (hc : c < 4) : x / 4 + 64 * c < 256 := by omega
theorem bl2 (a b c d p q r s : Nat) : a + 256 * (b + 256 * (c + 256 * d)) + (p + 256 * (q + 256 * (r + 256 * s))) = (a + p) + 256 * ((b + q) + 256 * ((c + r) + 256 * (d + s))) := by omega
theorem bl4 (b0 b1 b2 b3 p0 p1 p2 p3 q1 q2 q3 : Nat) : b0 + 256 * (b1 + 256 * (b2 + 256 * b3)) + ((p0 + 16 * q1) + 256 * ((p1 + 16 * q2) + 256 * ((p2 + 16 * q3) + 256 * p3))) = (b0 + p0 + 16 * q1) + 256 * ((b1 + p1 + 16 * q2) + 256 * ((b2 + p2 + 16 * q3) + 256 * (b3 + p3 + 16 * 0))) := by omega
theorem bl_le {a b c d p q r s : Nat} (h0 : p ≤ a) (h1 : q ≤ b) (h2 : r ≤ c) (h3 : s ≤ d) : p + 256 * (q + 256 * (r + 256 * s)) ≤ a + 256 * (b + 256 * (c + 256 * d)) := by omega
theorem bl_sub {a b c d p q r s : Nat} (h0 : p ≤ a) (h1 : q ≤ b) (h2 : r ≤ c) (h3 : s ≤ d) : a + 256 * (b + 256 * (c + 256 * d)) - (p + 256 * (q + 256 * (r + 256 * s))) = (a - p) + 256 * ((b - q) + 256 * ((c - r) + 256 * (d - s))) := by omega
theorem bl_68 {a b c d : Nat} (h0 : a ≤ 68) (h1 : b ≤ 68) (h2 : c ≤ 68) (h3 : d ≤ 68) : a + 256 * (b + 256 * (c + 256 * d)) ≤ 1145324612 := by omega
theorem bl_8 {a b c d : Nat} (h0 : a ≤ 8) (h1 : b ≤ 8) (h2 : c ≤ 8) (h3 : d ≤ 8) : a + (b + (c + d)) ≤ 32 := by omega
theorem bz_all : ∀ a, a < 9 → ∀ b, b < 9 → ∀ c, c < 9 → ∀ d, d < 9 → ((a + 256 * (b + 256 * (c + 256 * d)) + (a + 256 * (b + 256 * (c + 256 * d))) / 256 + (a + 256 * (b + 256 * (c + 256 * d)) + (a + 256 * (b + 256 * (c + 256 * d))) / 256) / 65536) % 64 = a + (b + (c + d)) ∧ a + 256 * (b + 256 * (c + 256 * d)) ≤ 136348168 ∧ a + 256 * (b + 256 * (c + 256 * d)) + (a + 256 * (b + 256 * (c + 256 * d))) / 256 ≤ 1000000000 ∧ a + 256 * (b + 256 * (c + 256 * d)) + (a + 256 * (b + 256 * (c + 256 * d))) / 256 + (a + 256 * (b + 256 * (c + 256 * d)) + (a + 256 * (b + 256 * (c + 256 * d))) / 256) / 65536 ≤ 1000000000) := by decide +kernel
theorem bw_1 {x0 x1 x2 x3 : Nat} (h0 : x0 < 256) (h1 : x1 < 256) (h2 : x2 < 256) (h3 : x3 < 256) : (((x0 + 256 * (x1 + 256 * (x2 + 256 * x3))) / 2) &&& 1431655765) = bt1 x0 + 256 * (bt1 x1 + 256 * (bt1 x2 + 256 * bt1 x3)) := by
  have m1_9 : x1 % 2 < 2 := Nat.mod_lt _ (by decide)
  have m2_9 : x2 % 2 < 2 := Nat.mod_lt _ (by decide)
  have m3_9 : x3 % 2 < 2 := Nat.mod_lt _ (by decide)
  have z3 := (bt_1 x3 h3 0 (by decide)).1
  rw [Nat.mul_zero, Nat.add_zero] at z3
  rw [bs2 x0 (x1 + 256 * (x2 + 256 * x3)), bm2 x1 (x2 + 256 * x3), bs2 x1 (x2 + 256 * x3), bm2 x2 x3, bs2 x2 x3, show (1431655765 : Nat) = 85 + 256 * (85 + 256 * (85 + 256 * 85)) from rfl, bt_and (bh2 h0 m1_9) (bh2 h1 m2_9) (bh2 h2 m3_9) (by decide) (by decide) (by decide), (bt_1 x0 h0 _ m1_9).1, (bt_1 x1 h1 _ m2_9).1, (bt_1 x2 h2 _ m3_9).1, z3]
theorem bw_2 {a0 a1 a2 a3 : Nat} (h0 : a0 < 256) (h1 : a1 < 256) (h2 : a2 < 256) (h3 : a3 < 256) : bw2 (a0 + 256 * (a1 + 256 * (a2 + 256 * a3))) = bt2 a0 + 256 * (bt2 a1 + 256 * (bt2 a2 + 256 * bt2 a3)) := by
  have m1_9 : a1 % 4 < 4 := Nat.mod_lt _ (by decide)
  have m2_9 : a2 % 4 < 4 := Nat.mod_lt _ (by decide)
  have m3_9 : a3 % 4 < 4 := Nat.mod_lt _ (by decide)
  unfold bw2
  rw [bs4 a0 (a1 + 256 * (a2 + 256 * a3)), bm4 a1 (a2 + 256 * a3), bs4 a1 (a2 + 256 * a3), bm4 a2 a3, bs4 a2 a3, show (858993459 : Nat) = 51 + 256 * (51 + 256 * (51 + 256 * 51)) from rfl, bt_and h0 h1 h2 (by decide) (by decide) (by decide), bt_and (bh4 h0 m1_9) (bh4 h1 m2_9) (bh4 h2 m3_9) (by decide) (by decide) (by decide), (bt_2 a0 h0 _ m1_9).1, (bt_2 a1 h1 _ m2_9).1, (bt_2 a2 h2 _ m3_9).1]
  exact bl2 _ _ _ _ _ _ _ _
theorem bw_3 {b0 b1 b2 b3 : Nat} (h0 : b0 ≤ 68) (h1 : b1 ≤ 68) (h2 : b2 ≤ 68) (h3 : b3 ≤ 68) (k1 : b1 % 16 ≤ 4) (k2 : b2 % 16 ≤ 4) (k3 : b3 % 16 ≤ 4) : bw3 (b0 + 256 * (b1 + 256 * (b2 + 256 * b3))) = (b0 + b0 / 16) % 16 + 256 * ((b1 + b1 / 16) % 16 + 256 * ((b2 + b2 / 16) % 16 + 256 * ((b3 + b3 / 16) % 16))) := by
  have m1_9 : b1 % 16 < 5 := Nat.lt_succ_of_le k1
  have m2_9 : b2 % 16 < 5 := Nat.lt_succ_of_le k2
  have m3_9 : b3 % 16 < 5 := Nat.lt_succ_of_le k3
  have n0_9 : b0 < 69 := Nat.lt_succ_of_le h0
  have n1_9 : b1 < 69 := Nat.lt_succ_of_le h1
  have n2_9 : b2 < 69 := Nat.lt_succ_of_le h2
  have n3_9 : b3 < 69 := Nat.lt_succ_of_le h3
  unfold bw3
  rw [bs16 b0 (b1 + 256 * (b2 + 256 * b3)), bm16 b1 (b2 + 256 * b3), bs16 b1 (b2 + 256 * b3), bm16 b2 b3, bs16 b2 b3, bl4, show (252645135 : Nat) = 15 + 256 * (15 + 256 * (15 + 256 * 15)) from rfl, bt_and (bt_5 b0 n0_9 _ m1_9).2 (bt_5 b1 n1_9 _ m2_9).2 (bt_5 b2 n2_9 _ m3_9).2 (by decide) (by decide) (by decide), (bt_5 b0 n0_9 _ m1_9).1, (bt_5 b1 n1_9 _ m2_9).1, (bt_5 b2 n2_9 _ m3_9).1, (bt_5 b3 n3_9 0 (by decide)).1]
theorem btn_b : ∀ (k : Nat) (x q : Nat), (∀ j, j < k → q.testBit j = x.testBit j) → btn k q = btn k x
  | 0, x, q, _ => rfl
  | k + 1, x, q, h => by
    show (q.testBit k).toNat + btn k q = (x.testBit k).toNat + btn k x
    rw [h k (Nat.lt_succ_self k), btn_b k x q (fun j hj => h j (Nat.lt_succ_of_lt hj))]
theorem btn_s : ∀ (k n x : Nat), btn (k + n) x = btn n x + btn k (x / 2 ^ n)
  | 0, n, x => by
    show btn (0 + n) x = btn n x + 0
    rw [Nat.zero_add, Nat.add_zero]
  | k + 1, n, x => by
    rw [show k + 1 + n = k + n + 1 by omega]
    show (x.testBit (k + n)).toNat + btn (k + n) x = btn n x + (((x / 2 ^ n).testBit k).toNat + btn k (x / 2 ^ n))
    rw [btn_s k n x, Nat.testBit_div_two_pow]
    omega
theorem btn_m (x : Nat) : btn 8 (x % 256) = btn 8 x := btn_b 8 x (x % 256) (fun j hj => by
  have z := Nat.testBit_mod_two_pow x 8 j
  rw [show (2 : Nat) ^ 8 = 256 from rfl, decide_eq_true hj, Bool.true_and] at z
  exact z)
theorem bx_3 {x : Nat} (hx : x < 4294967296) : x / 256 / 256 / 256 < 256 := by omega
theorem bx_4 (x : Nat) : x = x % 256 + 256 * (x / 256 % 256 + 256 * (x / 256 / 256 % 256 + 256 * (x / 256 / 256 / 256))) := by
  have a_9 := Nat.mod_add_div x 256
  have b_9 := Nat.mod_add_div (x / 256) 256
  have c_9 := Nat.mod_add_div (x / 256 / 256) 256
  rw [c_9, b_9, a_9]
theorem btn_32 (x : Nat) : btn 32 x = btn 8 (x % 256) + (btn 8 (x / 256 % 256) + (btn 8 (x / 256 / 256 % 256) + btn 8 (x / 256 / 256 / 256))) := by
  have s1_9 := btn_s 24 8 x
  have s2_9 := btn_s 16 8 (x / 256)
  have s3_9 := btn_s 8 8 (x / 256 / 256)
  rw [show 24 + 8 = 32 from rfl, show (2 : Nat) ^ 8 = 256 from rfl] at s1_9
  rw [show 16 + 8 = 24 from rfl, show (2 : Nat) ^ 8 = 256 from rfl] at s2_9
  rw [show 8 + 8 = 16 from rfl, show (2 : Nat) ^ 8 = 256 from rfl] at s3_9
  rw [s1_9, s2_9, s3_9, btn_m, btn_m, btn_m]
/-- what bitCount works out -/
theorem bw_all {x : Nat} (hx : x < 4294967296) : ∃ c_9 d_9 e_9 : Nat, bw3 (bw2 (bw1 x)) = c_9 ∧ c_9 + c_9 / 256 = d_9 ∧ d_9 + d_9 / 65536 = e_9 ∧ e_9 % 64 = btn 32 x ∧ c_9 ≤ 136348168 ∧ d_9 ≤ 1000000000 ∧ e_9 ≤ 1000000000 ∧ btn 32 x ≤ 32 ∧ bw2 (bw1 x) ≤ 1145324612 ∧ ((x / 2) &&& 1431655765) ≤ x := by
  have t32 := btn_32 x
  obtain ⟨x0_9, e0_9⟩ : ∃ q_9, q_9 = x % 256 := ⟨_, rfl⟩
  obtain ⟨x1_9, e1_9⟩ : ∃ q_9, q_9 = x / 256 % 256 := ⟨_, rfl⟩
  obtain ⟨x2_9, e2_9⟩ : ∃ q_9, q_9 = x / 256 / 256 % 256 := ⟨_, rfl⟩
  obtain ⟨x3, e3_9⟩ : ∃ q_9, q_9 = x / 256 / 256 / 256 := ⟨_, rfl⟩
  have ex_9 := bx_4 x
  have h0 : x0_9 < 256 := by rw [e0_9]; exact Nat.mod_lt _ (by decide)
  have h1 : x1_9 < 256 := by rw [e1_9]; exact Nat.mod_lt _ (by decide)
  have h2 : x2_9 < 256 := by rw [e2_9]; exact Nat.mod_lt _ (by decide)
  have h3 : x3 < 256 := by rw [e3_9]; exact bx_3 hx
  rw [← e0_9, ← e1_9, ← e2_9, ← e3_9] at t32
  rw [← e0_9, ← e1_9, ← e2_9, ← e3_9] at ex_9
  have p1_9 := bw_1 h0 h1 h2 h3
  have l0 := (bt_1 x0_9 h0 0 (by decide)).2
  have l1 := (bt_1 x1_9 h1 0 (by decide)).2
  have l2 := (bt_1 x2_9 h2 0 (by decide)).2
  have l3 := (bt_1 x3 h3 0 (by decide)).2
  have q1_9 : bw1 x = (x0_9 - bt1 x0_9) + 256 * ((x1_9 - bt1 x1_9) + 256 * ((x2_9 - bt1 x2_9) + 256 * (x3 - bt1 x3))) := by
    unfold bw1
    rw [ex_9, p1_9]
    exact bl_sub l0 l1 l2 l3
  have q2_9 := bw_2 (a0 := x0_9 - bt1 x0_9) (a1 := x1_9 - bt1 x1_9) (a2 := x2_9 - bt1 x2_9) (a3 := x3 - bt1 x3) (Nat.lt_of_le_of_lt (Nat.sub_le _ _) h0) (Nat.lt_of_le_of_lt (Nat.sub_le _ _) h1) (Nat.lt_of_le_of_lt (Nat.sub_le _ _) h2) (Nat.lt_of_le_of_lt (Nat.sub_le _ _) h3)
  rw [← q1_9] at q2_9
  have q2_9 : bw2 (bw1 x) = bt3 x0_9 + 256 * (bt3 x1_9 + 256 * (bt3 x2_9 + 256 * bt3 x3)) := q2_9
  have b0 := bt_3 x0_9 h0
  have b1 := bt_3 x1_9 h1
  have b2 := bt_3 x2_9 h2
  have b3 := bt_3 x3 h3
  have q3_9 := bw_3 b0.1 b1.1 b2.1 b3.1 b1.2 b2.2 b3.2
  rw [← q2_9] at q3_9
  have q3_9 : bw3 (bw2 (bw1 x)) = bt4 x0_9 + 256 * (bt4 x1_9 + 256 * (bt4 x2_9 + 256 * bt4 x3)) := q3_9
  obtain ⟨c0_9, d0_9⟩ := bt_4 x0_9 h0
  obtain ⟨c1_9, d1_9⟩ := bt_4 x1_9 h1
  obtain ⟨c2_9, d2_9⟩ := bt_4 x2_9 h2
  obtain ⟨c3_9, d3_9⟩ := bt_4 x3 h3
  rw [c0_9, c1_9, c2_9, c3_9] at q3_9
  obtain ⟨z1, z2, z3, z4⟩ := bz_all (btn 8 x0_9) (Nat.lt_succ_of_le d0_9) (btn 8 x1_9) (Nat.lt_succ_of_le d1_9) (btn 8 x2_9) (Nat.lt_succ_of_le d2_9) (btn 8 x3) (Nat.lt_succ_of_le d3_9)
  refine ⟨_, _, _, q3_9, rfl, rfl, ?_, z2, z3, z4, ?_, ?_, ?_⟩
  · rw [t32]
    exact z1
  · rw [t32]
    exact bl_8 d0_9 d1_9 d2_9 d3_9
  · rw [q2_9]
    exact bl_68 b0.1 b1.1 b2.1 b3.1
  · have p2_9 := bl_le l0 l1 l2 l3
    rw [← p1_9, ← ex_9] at p2_9
    exact p2_9
theorem nn_of {x : Int32} {n : Nat} (h : x.toInt = (n : Int)) : x.toBitVec.toNat = n ∧ n < 2147483648 := by
  have z_9 : x.toInt = if 2 * x.toBitVec.toNat < 2 ^ 32 then (x.toBitVec.toNat : Int) else (x.toBitVec.toNat : Int) - ((2 ^ 32 : Nat) : Int) := BitVec.toInt_eq_toNat_cond x.toBitVec
  have l := x.toBitVec.isLt
  rw [show (2 : Nat) ^ 32 = 4294967296 from rfl] at z_9 l
  split at z_9 <;> omega
theorem nn_to {x : Int32} {n : Nat} (h : x.toBitVec.toNat = n) (hn : n < 2147483648) : x.toInt = (n : Int) := by
  have z_9 : x.toInt = if 2 * x.toBitVec.toNat < 2 ^ 32 then (x.toBitVec.toNat : Int) else (x.toBitVec.toNat : Int) - ((2 ^ 32 : Nat) : Int) := BitVec.toInt_eq_toNat_cond x.toBitVec
  rw [show (2 : Nat) ^ 32 = 4294967296 from rfl, if_pos (by omega)] at z_9
  omega
theorem and_nn {x y : Int32} {n m : Nat} (hx : x.toInt = (n : Int)) (hy : y.toInt = (m : Int)) : (x &&& y).toInt = ((n &&& m : Nat) : Int) := by
  obtain ⟨a_9, a'⟩ := nn_of hx
  obtain ⟨b_9, b'⟩ := nn_of hy
  refine nn_to ?_ (Nat.lt_of_le_of_lt Nat.and_le_left a')
  rw [Int32.toBitVec_and, BitVec.toNat_and, a_9, b_9]
theorem us_k : ∀ k, k < 32 → ((Int32.ofNat k).toUInt32 &&& Int32.toUInt32 31).toBitVec.toNat % 32 = k := by decide +kernel
theorem us_nn {x y : Int32} {n k : Nat} (hx : x.toInt = (n : Int)) (hy : y.toInt = (k : Int)) (hk : k < 32) : ((x.toUInt32 >>> (y.toUInt32 &&& Int32.toUInt32 31)).toInt32).toInt = ((n / 2 ^ k : Nat) : Int) := by
  obtain ⟨a_9, a'⟩ := nn_of hx
  rw [btq_k hy hk]
  refine nn_to ?_ (Nat.lt_of_le_of_lt (Nat.div_le_self _ _) a')
  show (x.toBitVec >>> (((Int32.ofNat k).toUInt32 &&& Int32.toUInt32 31).toBitVec % 32)).toNat = n / 2 ^ k
  rw [BitVec.ushiftRight_eq', BitVec.toNat_ushiftRight, BitVec.toNat_umod, show (32 : BitVec 32).toNat = 32 from rfl, us_k k hk, Nat.shiftRight_eq_div_pow, a_9]
noncomputable def hp_isT (mi pc tg na : Nat) : Bool := match sx_ch 16 mi sx_T with
  | some m => Nat.beq m.1 mi && (match sx_find pc m.2.2.2.2 with
    | some (.invokestatic _, X) => Nat.beq X.1 tg && (Nat.beq X.2.1 na && sx_eq X.2.2 0)
    | _ => false)
  | none => false
/-- a call of a static method whose run is known -/
theorem hp_calt {cst : am_K} {strs : List Nat} {Φ : am_Q → Prop} {D mi pc : Nat} {M : am_M} {l : am_L} {st : List Value} {h : am_H} {tg na : Nat} {av st0 : List Value} {r : am_Q} (hM : m_P[mi]? = some M) (hI : hp_isT mi pc tg na = true) (hst : st0.length = na) (hav : st0.reverse = av) (hcat : (st.map fun v_9 => v_9.category).sum ≤ 8)
    (hrun : am_Run cst m_cl m_tt m_P strs sx_bi D tg av h r) (hc0 : r.2.2.1 = 0) (hs0 : r.2.2.2 = 0) (k : hp_F cst strs Φ D M (pc + 3) l (r.1.toList ++ st) r.2.1) : hp_F cst strs Φ D M pc l (st0 ++ st) h := by
  unfold hp_isT at hI
  split at hI
  case h_2 => cases hI
  rename_i m_9 hm_9
  rw [Bool.and_eq_true, sx_beqn] at hI
  obtain ⟨c0_9, hI⟩ := hI
  split at hI
  case h_2 => cases hI
  rename_i ix X_9 hX
  simp only [Bool.and_eq_true, sx_beqn, sx_eq_iff] at hI
  obtain ⟨x1_9, x2_9, x3⟩ := hI
  obtain ⟨M', hM', hmok, -⟩ := sx_tok_m mi m_9 hm_9 c0_9
  rw [hM] at hM'
  cases hM'
  have hfind := hmok.2.2 _ _ hX
  have etake : (st0 ++ st).take X_9.2.1 = st0 := by rw [x2_9, ← hst]; exact List.take_left' rfl
  have edrop : (st0 ++ st).drop X_9.2.1 = st := by rw [x2_9, ← hst]; exact List.drop_left' rfl
  have hcc : am_c m_cl m_P strs (.invokestatic ix) X_9 (st0 ++ st) h := ⟨by rw [List.length_append]; omega, by rw [edrop]; exact hcat, x3, trivial⟩
  refine sx_Fin_pre (dc := r.2.2.1) (ds := r.2.2.2) (f1 := (M, pc + 3, l, r.1.toList ++ st)) (h1 := r.2.1) (fun n2_9 q_9 hgo2 => ⟨n2_9 + 1, _, X_9, hfind, Or.inr (Or.inr (Or.inr (Or.inl ⟨r, q_9, hcc, ?_, ?_, rfl⟩)))⟩) ?_
  · rw [etake, hav, x1_9]; exact hrun
  · rw [edrop]; exact hgo2
  · rw [hc0, hs0]; exact k
/-- bitCount -/
theorem bc_run {cst : am_K} {strs : List Nat} {D : Nat} {h0 : am_H} (c : hp_C cst strs D) (hD : 1 ≤ D) (hy : ly_hy m_tt ly_TH h0) {x : Int32} {n : Nat} (ex : x.toInt = (n : Int)) (n30 : n < 1073741824) :
    ∃ r_9, am_Run cst m_cl m_tt m_P strs sx_bi (D + 1) 119 [.int x] h0 r_9 ∧ (fun r_9 : am_Q => ∃ w_9 : Int32, r_9.1 = some (.int w_9) ∧ r_9.2.2.1 = 0 ∧ r_9.2.2.2 = 0 ∧ ly_hy m_tt ly_TH r_9.2.1 ∧ ly_fr cst [] h0 r_9.2.1 ∧ w_9.toInt = (btn 32 n : Int)) r_9 := by
  obtain ⟨M_9, hM_9, hl⟩ := hp_M (mi := 119) (k := 1) (by decide +kernel)
  obtain ⟨cc3, dd, ee, e1_9, e2_9, e3_9, e4_9, b1, b2, b3, b4, b5, b6⟩ := bw_all (x := n) (by omega)
  have go_9 : hp_F cst strs (fun r_9 : am_Q => ∃ w_9 : Int32, r_9.1 = some (.int w_9) ∧ r_9.2.2.1 = 0 ∧ r_9.2.2.2 = 0 ∧ ly_hy m_tt ly_TH r_9.2.1 ∧ ly_fr cst [] h0 r_9.2.1 ∧ w_9.toInt = (btn 32 n : Int)) D M_9 0 (lv_args 0 [.int x]) [] h0 := by
    refine bc0 c hM_9 (by omega) hy (n : Int) (by omega) (by omega) ⟨x, rfl, ex⟩ (fun l1 h1 y0 y1 y2 f0_9 f1_9 f2_9 u1_9 u2_9 u3 m0_9 => ?_)
    refine hp_us hM_9 (by decide +kernel) ?_
    have g1 := us_nn f1_9 (k := 1) f0_9 (by decide)
    refine bc1 c hM_9 (by omega) u1_9 (n : Int) ((n / 2 ^ 1 : Nat) : Int) _ y2 g1 f2_9 (by omega) (by omega) (by omega) (by omega) m0_9 (fun l2 h2 y3 y4 y5 f3_9 f4_9 f5_9 v1_9 v2 v3 m1_9 => ?_)
    refine btq_iand hM_9 (by decide +kernel) ?_
    have g2 := and_nn f4_9 (m := 1431655765) f3_9
    rw [show (2 : Nat) ^ 1 = 2 from rfl] at g2
    refine bc2 c hM_9 (by omega) v1_9 (n : Int) (((n / 2) &&& 1431655765 : Nat) : Int) _ y5 g2 f5_9 (by omega) (by omega) (by omega) (by omega) (by omega) m1_9 (fun l3 h3 y6 y7 f6_9 f7_9 w1_9 w2_9 w3_9 m2_9 => ?_)
    have ea : ((n : Int) - (((n / 2) &&& 1431655765 : Nat) : Int)) = ((bw1 n : Nat) : Int) := by
      unfold bw1
      omega
    have la : bw1 n ≤ n := Nat.sub_le _ _
    rw [ea] at f7_9 m2_9
    refine btq_iand hM_9 (by decide +kernel) ?_
    have g3_9 := and_nn f7_9 (m := 858993459) f6_9
    have l3' : (bw1 n &&& 858993459) ≤ bw1 n := Nat.and_le_left
    refine bc3 c hM_9 (by omega) w1_9 (bw1 n : Int) ((bw1 n &&& 858993459 : Nat) : Int) _ g3_9 (by omega) (by omega) (by omega) (by omega) m2_9 (fun l4 h4 y8 y9 ya f8_9 f9_9 fa x1_9 x2_9 x3 m3_9 => ?_)
    refine hp_us hM_9 (by decide +kernel) ?_
    have g4 := us_nn f9_9 (k := 2) f8_9 (by decide)
    refine bc4 c hM_9 (by omega) x1_9 ((bw1 n / 2 ^ 2 : Nat) : Int) ((bw1 n &&& 858993459 : Nat) : Int) _ ya g4 fa (by omega) (by omega) (by omega) (by omega) (fun l5 h5 yb yc yd fb fc_9 fd_9 p1_9 p2_9 p3_9 => ?_)
    refine btq_iand hM_9 (by decide +kernel) ?_
    have g5_9 := and_nn fc_9 (m := 858993459) fb
    rw [show (2 : Nat) ^ 2 = 4 from rfl] at g5_9
    have l5' : ((bw1 n / 4) &&& 858993459) ≤ bw1 n / 4 := Nat.and_le_left
    refine bc5 c hM_9 (by omega) p1_9 (((bw1 n / 4) &&& 858993459 : Nat) : Int) ((bw1 n &&& 858993459 : Nat) : Int) _ yd g5_9 fd_9 (by omega) (by omega) (by omega) (by omega) (by omega) (fun l6 h6 ye yf yg fe ff_9 fg q1_9 q2_9 q3_9 m4_9 => ?_)
    have eb : (((bw1 n &&& 858993459 : Nat) : Int) + (((bw1 n / 4) &&& 858993459 : Nat) : Int)) = ((bw2 (bw1 n) : Nat) : Int) := by
      unfold bw2
      omega
    rw [eb] at ff_9 fg m4_9
    refine hp_us hM_9 (by decide +kernel) ?_
    have g6 := us_nn ff_9 (k := 4) fe (by decide)
    rw [show (2 : Nat) ^ 4 = 16 from rfl] at g6
    refine bc6 c hM_9 (by omega) q1_9 ((bw2 (bw1 n) / 16 : Nat) : Int) ((bw2 (bw1 n) : Nat) : Int) _ yg g6 fg (by omega) (by omega) (by omega) (by omega) m4_9 (fun l7 h7 yh yi fh fi r1_9 r2 r3 => ?_)
    refine btq_iand hM_9 (by decide +kernel) ?_
    have g7 := and_nn (n := bw2 (bw1 n) + bw2 (bw1 n) / 16) (show yi.toInt = _ by rw [fi]; omega) (m := 252645135) fh
    have g7 := g7.trans (show (((bw2 (bw1 n) + bw2 (bw1 n) / 16) &&& 252645135 : Nat) : Int) = (cc3 : Int) by rw [← e1_9]; rfl)
    refine bc7 c hM_9 (by omega) r1_9 (cc3 : Int) _ g7 (by omega) (by omega) (fun l8 h8 yj yk yl fj fk9 fl_9 s1_9 s2_9 s3_9 m5_9 => ?_)
    refine hp_us hM_9 (by decide +kernel) ?_
    have g8 := us_nn fk9 (k := 8) fj (by decide)
    rw [show (2 : Nat) ^ 8 = 256 from rfl] at g8
    refine bc8 c hM_9 (by omega) s1_9 ((cc3 / 256 : Nat) : Int) (cc3 : Int) _ yl g8 fl_9 (by omega) (by omega) (by omega) (by omega) m5_9 (fun l9 h9 ym yn yo fm fn_9 fo t1_9 t2_9 t3_9 m6_9 => ?_)
    have ed : ((cc3 : Int) + ((cc3 / 256 : Nat) : Int)) = (dd : Int) := by omega
    rw [ed] at fn_9 fo m6_9
    refine hp_us hM_9 (by decide +kernel) ?_
    have g9 := us_nn fn_9 (k := 16) fm (by decide)
    rw [show (2 : Nat) ^ 16 = 65536 from rfl] at g9
    refine bc9 c hM_9 (by omega) t1_9 ((dd / 65536 : Nat) : Int) (dd : Int) _ yo g9 fo (by omega) (by omega) (by omega) (by omega) m6_9 (fun la' ha_9 yp yq fp_9 fq a1_9 a2 a3 m7_9 => ?_)
    have ef : ((dd : Int) + ((dd / 65536 : Nat) : Int)) = (ee : Int) := by omega
    rw [ef] at fq
    refine btq_iand hM_9 (by decide +kernel) ?_
    have ga := and_nn fq (m := 63) fp_9
    have gb : (ee &&& 63) = btn 32 n := by
      rw [show (63 : Nat) = 2 ^ 6 - 1 from rfl, Nat.and_two_pow_sub_one_eq_mod, show (2 : Nat) ^ 6 = 64 from rfl]
      exact e4_9
    rw [gb] at ga
    exact bcA c hM_9 (by omega) a1_9 (btn 32 n : Int) _ ga (by omega) (by omega) (fun hb_9 w_9 hw d1_9 d2_9 d3_9 => ⟨w_9, rfl, rfl, rfl, d1_9, ly_fr_tr u2_9 (ly_fr_tr v2 (ly_fr_tr w2_9 (ly_fr_tr x2_9 (ly_fr_tr p2_9 (ly_fr_tr q2_9 (ly_fr_tr r2 (ly_fr_tr s2_9 (ly_fr_tr t2_9 (ly_fr_tr a2 d2_9))))))))), hw⟩)
  obtain ⟨n', r_9, hgo, w_9, r1_9, r2, r3, r4⟩ := go_9
  simp only [Nat.zero_add] at r2 r3
  exact ⟨r_9, Or.inr ⟨M_9, n', hM_9, hl, hgo⟩, w_9, r1_9, r2, r3, r4⟩
/-- how many are true -/
def cnb : List Bool → Nat
  | [] => 0
  | p :: P => p.toNat + cnb P
theorem cnb_ap : ∀ (P Q : List Bool), cnb (P ++ Q) = cnb P + cnb Q
  | [], Q => by
    show cnb Q = 0 + cnb Q
    omega
  | p :: P, Q => by
    show p.toNat + cnb (P ++ Q) = p.toNat + cnb P + cnb Q
    rw [cnb_ap P Q]
    omega
theorem cnb_rep : ∀ (k : Nat), cnb (List.replicate k false) = 0
  | 0 => rfl
  | k + 1 => by
    show 0 + cnb (List.replicate k false) = 0
    rw [cnb_rep k]
theorem cnb_le : ∀ (P : List Bool), cnb P ≤ P.length
  | [] => Nat.le_refl _
  | p :: P => by
    have := cnb_le P
    show p.toNat + cnb P ≤ P.length + 1
    cases p
    · show 0 + cnb P ≤ P.length + 1
      omega
    · show 1 + cnb P ≤ P.length + 1
      omega
theorem btn_u : ∀ (P_9 : List Bool) (m_9 x_9 : Nat), P_9.length ≤ m_9 → (∀ i_9, i_9 < m_9 → x_9.testBit i_9 = P_9.getD i_9 false) → btn m_9 x_9 = cnb P_9
  | [], m_9, x_9, hl, h_9 => by
    have z : ∀ k_9, k_9 ≤ m_9 → btn k_9 x_9 = 0 := by
      intro k_9
      induction k_9 with
      | zero => intro _; rfl
      | succ k_9 ih_9 =>
        intro hk
        show (x_9.testBit k_9).toNat + btn k_9 x_9 = 0
        rw [h_9 k_9 hk, ih_9 (by omega)]
        rfl
    exact z m_9 (Nat.le_refl _)
  | p_9 :: P_9, 0, x_9, hl, h_9 => absurd hl (Nat.not_succ_le_zero _)
  | p_9 :: P_9, m_9 + 1, x_9, hl, h_9 => by
    have s_9 := btn_s m_9 1 x_9
    rw [s_9, btn_u P_9 m_9 (x_9 / 2 ^ 1) (Nat.le_of_succ_le_succ hl) (fun i_9 hi_9 => by rw [Nat.testBit_div_two_pow]; exact h_9 (i_9 + 1) (Nat.succ_lt_succ hi_9))]
    show (x_9.testBit 0).toNat + 0 + cnb P_9 = p_9.toNat + cnb P_9
    rw [h_9 0 (Nat.zero_lt_succ _)]
    rfl
theorem mbs_n {P : List Bool} {b : Int32} (B : mbs P b) (hl : P.length ≤ 30) : ∃ n : Nat, b.toInt = (n : Int) ∧ n < 1073741824 ∧ btn 32 n = cnb P := by
  have t_9 : ∀ i_9, i_9 < 32 → b.toBitVec.toNat.testBit i_9 = P.getD i_9 false := fun i_9 hi_9 => B i_9 hi_9
  have l30 : b.toBitVec.toNat < 1073741824 := by
    refine Nat.lt_pow_two_of_testBit (n := 30) _ (fun i_9 hi_9 => ?_)
    by_cases z_9 : i_9 < 32
    · rw [t_9 i_9 z_9, List.getD_eq_getElem?_getD, List.getElem?_eq_none (by omega)]
      rfl
    · exact Nat.testBit_lt_two_pow (Nat.lt_of_lt_of_le b.toBitVec.isLt (Nat.pow_le_pow_right (by decide) (by omega)))
  exact ⟨b.toBitVec.toNat, nn_to rfl (by omega), l30, btn_u P 32 _ (by omega) t_9⟩
/-- the act a quarrels with the act l in force -/
def qst (X : List rX) (k d y s : Int) (l a : Nat) : Prop := ∃ (hl : l < X.length) (ha : a < X.length), (X[a]).1 = (X[l]).1 ∧ ∃ j, hol X k d y s a j
def pQua (X : List rX) (k d y s v : Int) : Prop := (noF X k d y s ∧ v = 0) ∨ ∃ l j, inF X k d y s l j ∧ ∃ (P : List Bool) (b : Int32), P.length = X.length ∧ (∀ a (ha : a < P.length), P[a] = true ↔ qst X k d y s l a) ∧ mbs P b ∧ v = if 1 < cnb P then b.toInt else 0
theorem pQua_u {X : List rX} {k d y s v w : Int} (A : pQua X k d y s v) (B : pQua X k d y s w) : v = w := by
  rcases A with ⟨n1_9, e1_9⟩ | ⟨l, j_9, h1, P_9, b_9, p1_9, p2_9, p3_9, p4_9⟩
  · rcases B with ⟨n2_9, e2_9⟩ | ⟨l', j', h2, -⟩
    · rw [e1_9, e2_9]
    · exact absurd h2.1 (n1_9 l' j')
  · rcases B with ⟨n2_9, e2_9⟩ | ⟨l', j', h2, P'_9, b', q1_9, q2_9, q3_9, q4_9⟩
    · exact absurd h1.1 (n2_9 l j_9)
    · obtain ⟨z1, z2⟩ := inF_u h1 h2
      subst z1
      have eP : P_9 = P'_9 := by
        refine List.ext_getElem (by omega) (fun a_9 ha_9 ha' => ?_)
        have x1_9 := p2_9 a_9 ha_9
        have x2_9 := q2_9 a_9 ha'
        cases e_9 : P_9[a_9] with
        | true => exact (x2_9.mpr (x1_9.mp e_9)).symm
        | false =>
          cases e' : P'_9[a_9] with
          | true =>
            rw [x1_9.mpr (x2_9.mp e')] at e_9
            cases e_9
          | false => rfl
      subst eP
      rw [p4_9, q4_9, mbs_u p3_9 q3_9]
theorem gd_of {P : List Bool} {a : Nat} (ha : a < P.length) : P.getD a false = P[a] := by
  rw [List.getD_eq_getElem?_getD, List.getElem?_eq_getElem ha]
  rfl
theorem ap_at {P : List Bool} {p : Bool} {Q : Nat → Prop} (h : ∀ a_9 (ha_9 : a_9 < P.length), P[a_9] = true ↔ Q a_9) (hp : p = true ↔ Q P.length) : ∀ a_9 (ha_9 : a_9 < (P ++ [p]).length), (P ++ [p])[a_9] = true ↔ Q a_9 := fun a_9 ha_9 => by
  rw [List.length_append, List.length_singleton] at ha_9
  by_cases z_9 : a_9 < P.length
  · rw [List.getElem_append_left z_9]
    exact h a_9 z_9
  · have e_9 : a_9 = P.length := by omega
    subst e_9
    rw [List.getElem_append_right (Nat.le_refl _)]
    simp only [Nat.sub_self, List.getElem_singleton]
    exact hp
/-- the class's loop -/
theorem qu_lp {cst : am_K} {strs : List Nat} {D : Nat} {M : am_M} {h0 : am_H} {Φ : am_Q → Prop} (cc : ∀ d, hp_C cst strs d) (hM : m_P[118]? = some M) (hD : 1 ≤ D) {X : List rX} {i0 : List Int} (I : LC cst h0 X i0) (x30 : X.length ≤ 30) (g12 : (fX X).length ≤ 1240) {y s k d : Int} (k0 : 0 ≤ k) (k1 : k ≤ 13) (d0 : -9223372036854775808 ≤ d) (d1 : d ≤ 9223372036854775807) (y0 : -2147483648 ≤ y) (y1 : y ≤ 2147483647) (s0 : -2147483648 ≤ s) (s1 : s ≤ 2147483647) {b : Int32} (B : bgs y s X X.length b) {lt : Nat} (hlt : lt < X.length)
    (fin : ∀ (h_9 : am_H) (l : am_L) (ps_9 : List Bool) (o : Int32), ly_hy m_tt ly_TH h_9 → ly_fr cst [] h0 h_9 → ps_9.length = lt + 1 → mbs ps_9 o → (∀ a_9 (ha_9 : a_9 < ps_9.length), ps_9[a_9] = true ↔ qst X k d y s lt a_9) → hp_a l 0 30 → hp_i l 8 o.toInt → hp_F cst strs Φ (D + 4) M 83 l [.int o] h_9) :
    ∀ (Q_9 : Nat) (h_9 : am_H) (l : am_L) (ps_9 : List Bool) (o : Int32), lt + 1 - ps_9.length < Q_9 → ps_9.length ≤ lt + 1 → ly_hy m_tt ly_TH h_9 → ly_fr cst [] h0 h_9 → mbs ps_9 o → (∀ a_9 (ha_9 : a_9 < ps_9.length), ps_9[a_9] = true ↔ qst X k d y s lt a_9) → hp_a l 0 30 → hp_i l 1 k → hp_j l 2 d → hp_i l 4 y → hp_i l 5 s → hp_i l 6 b.toInt → hp_i l 7 (lt : Int) → hp_i l 8 o.toInt → hp_i l 9 (ps_9.length : Int) → hp_F cst strs Φ (D + 4) M 28 l [] h_9 := by
  have c : hp_C cst strs (D + 4) := cc _
  have bb : -2147483648 ≤ b.toInt := b.le_toInt
  have bb' : b.toInt ≤ 2147483647 := b.toInt_le
  intro Q_9
  induction Q_9 with
  | zero => intro h_9 l ps_9 o hN_9; omega
  | succ Q_9 ih_9 =>
    intro h_9 l ps_9 o hN_9 hl hy fr_9 Bo_9 ch_9 l0 l1 l2 l4 l5 l6 l7 l8 l9
    have ob_9 : -2147483648 ≤ o.toInt := o.le_toInt
    have ob' : o.toInt ≤ 2147483647 := o.toInt_le
    by_cases z_9 : ps_9.length = lt + 1
    · rw [z_9, show (((lt + 1 : Nat)) : Int) = (lt : Int) + 1 by omega] at l9
      refine qu3 c hM (by omega) hy k d y s b.toInt (lt : Int) o.toInt k0 k1 d0 d1 y0 y1 s0 s1 bb bb' (by omega) (by omega) ob_9 ob' l0 l1 l2 l4 l5 l6 l7 l8 l9 (fun l2' h2 x0_9 e0_9 u1_9 u2_9 u3 m0_9 m8_9 => ?_)
      have eo : x0_9 = o := Int32.toInt_inj.mp e0_9
      rw [eo]
      exact fin h2 l2' ps_9 o u1_9 (ly_fr_tr fr_9 u2_9) z_9 Bo_9 ch_9 m0_9 m8_9
    have ha_9 : ps_9.length < X.length := by omega
    have ka : ly_hv cst h_9 3840 (ps_9.length : Int) = some (X[ps_9.length]).1 := fr_9 _ _ _ rfl (I.2.1 ps_9.length ha_9).1
    have kl : ly_hv cst h_9 3840 (lt : Int) = some (X[lt]).1 := fr_9 _ _ _ rfl (I.2.1 lt hlt).1
    obtain ⟨u_9, ku, ul_9, uh⟩ := hp_row (cst := cst) (i := (ps_9.length : Int)) hy (show ly_ths ly_TH 15 = some (.inl (.int, 30, -2147483648, 2147483647)) from rfl) (by omega) (by omega)
    have ku : ly_hv cst h_9 3840 (ps_9.length : Int) = some u_9 := ku
    have eu := Option.some.inj (ka.symm.trans ku)
    obtain ⟨u', ku', ul', uh'⟩ := hp_row (cst := cst) (i := (lt : Int)) hy (show ly_ths ly_TH 15 = some (.inl (.int, 30, -2147483648, 2147483647)) from rfl) (by omega) (by omega)
    have ku' : ly_hv cst h_9 3840 (lt : Int) = some u' := ku'
    have eu' := Option.some.inj (kl.symm.trans ku')
    have nl : ∀ (p_9 : Bool), (((ps_9 ++ [p_9]).length : Nat) : Int) = (ps_9.length : Int) + 1 := fun p_9 => by
      rw [List.length_append, List.length_singleton]
      omega
    have nl' : ∀ (p_9 : Bool), (ps_9 ++ [p_9]).length = ps_9.length + 1 := fun p_9 => by rw [List.length_append, List.length_singleton]
    have no_9 : ¬ qst X k d y s lt ps_9.length → ∀ (l2' : am_L) (h2 : am_H), ly_hy m_tt ly_TH h2 → ly_fr cst [] h0 h2 → hp_a l2' 0 30 → hp_i l2' 1 k → hp_j l2' 2 d → hp_i l2' 4 y → hp_i l2' 5 s → hp_i l2' 6 b.toInt → hp_i l2' 7 (lt : Int) → hp_i l2' 8 o.toInt → hp_i l2' 9 ((ps_9.length : Int) + 1) → hp_F cst strs Φ (D + 4) M 28 l2' [] h2 := fun nq l2' h2 u1_9 u2_9 m0_9 m1_9 m2_9 m4_9 m5_9 m6_9 m7_9 m8_9 m9_9 => ih_9 h2 l2' (ps_9 ++ [false]) o (by rw [nl']; omega) (by rw [nl']; omega) u1_9 u2_9 (mbs_f Bo_9) (ap_at ch_9 ⟨fun e_9 => (by cases e_9), fun e_9 => absurd e_9 nq⟩) m0_9 m1_9 m2_9 m4_9 m5_9 m6_9 m7_9 m8_9 (by rw [nl]; exact m9_9)
    by_cases e_9 : (X[ps_9.length]).1 = (X[lt]).1
    rotate_left
    · exact qu4 c hM (by omega) hy k d y s b.toInt (lt : Int) o.toInt (ps_9.length : Int) (X[ps_9.length]).1 (X[lt]).1 k0 k1 d0 d1 y0 y1 s0 s1 bb bb' (by omega) (by omega) ob_9 ob' (by omega) (by omega) (by omega) (by omega) (by omega) (by omega) (by omega) ka kl (hp_ne (by omega)) l0 l1 l2 l4 l5 l6 l7 l8 l9 (fun l2' h2 u1_9 u2_9 u3 m0_9 m1_9 m2_9 m4_9 m5_9 m6_9 m7_9 m8_9 m9_9 => no_9 (fun t_9 => by
        obtain ⟨_, _, t1_9, _⟩ := t_9
        exact e_9 t1_9) l2' h2 u1_9 (ly_fr_tr fr_9 u2_9) m0_9 m1_9 m2_9 m4_9 m5_9 m6_9 m7_9 m8_9 m9_9)
    rw [← e_9] at kl
    refine qu5 c hM (by omega) hy k d y s b.toInt (lt : Int) o.toInt (ps_9.length : Int) (X[ps_9.length]).1 k0 k1 d0 d1 y0 y1 s0 s1 bb bb' (by omega) (by omega) ob_9 ob' (by omega) (by omega) (by omega) (by omega) (by omega) ka kl l0 l1 l2 l4 l5 l6 l7 l8 l9 (fun l2' h2 z0 z1 z2 z3 e0_9 e1_9 e2_9 e3_9 u1_9 u2_9 u3 m0_9 m1_9 m2_9 m4_9 m5_9 m6_9 m7_9 m8_9 m9_9 => ?_)
    have ez0 : z0 = b := Int32.toInt_inj.mp e0_9
    rw [ez0]
    have F2 : ly_fr cst [] h0 h2 := ly_fr_tr fr_9 u2_9
    obtain ⟨r_9, hrun, w_9, r1_9, r2, r3, rhy, rfr, rres⟩ := hl_run (D := D + 2) cc (by omega) u1_9 (LC_mv I F2 rfl) x30 g12 ha_9 (k := k) (d := d) k0 (by omega) B (xa := z3) (xk := z2) (xd := z1) e3_9 e2_9 e1_9
    refine hp_call (mi := 118) (pc := 59) (tg := 55) (na := 5) (c := 14) (ci := 3) (st0 := [.int b, .long z1, .int z2, .int z3, .ref 30]) (st := []) (av := [.int z3, .int z2, .long z1, .int b]) hM (by decide +kernel) u1_9 rfl rfl rfl (by decide) hrun r2 r3 ?_
    rw [r1_9]
    have F3 : ly_fr cst [] h0 r_9.2.1 := ly_fr_tr F2 rfr
    rcases rres with ⟨j_9, hj, ew⟩ | ⟨nh, ew⟩
    rotate_left
    · exact qu6 c hM (by omega) rhy k d y s b.toInt (lt : Int) o.toInt (ps_9.length : Int) w_9 ew k0 k1 d0 d1 y0 y1 s0 s1 bb bb' (by omega) (by omega) ob_9 ob' (by omega) (by omega) m0_9 m1_9 m2_9 m4_9 m5_9 m6_9 m7_9 m8_9 m9_9 (fun l3' h3 v1_9 v2 v3 o0_9 o1 o2 o4_9 o5_9 o6 o7 o8_9 o9 => no_9 (fun t_9 => by
        obtain ⟨_, _, _, j_9, t1_9⟩ := t_9
        exact nh j_9 t1_9) l3' h3 v1_9 (ly_fr_tr F3 v2) o0_9 o1 o2 o4_9 o5_9 o6 o7 o8_9 o9)
    have yes_9 : qst X k d y s lt ps_9.length := ⟨hlt, ha_9, e_9, j_9, hj⟩
    obtain ⟨ha', -, ⟨hj', -⟩, -⟩ := id hj
    have le_9 := fX_le X ps_9.length ha_9
    refine qu7 c hM (by omega) rhy k d y s b.toInt (lt : Int) o.toInt (ps_9.length : Int) (((fX (X.take ps_9.length)).length : Int) + (j_9 : Int)) w_9 ew k0 k1 d0 d1 y0 y1 s0 s1 bb bb' (by omega) (by omega) ob_9 ob' (by omega) (by omega) (by omega) (by omega) m0_9 m1_9 m2_9 m4_9 m5_9 m6_9 m7_9 m8_9 m9_9 (fun l3' h3 x0_9 x1_9 x2_9 f0_9 f1_9 f2_9 v1_9 v2 v3 o0_9 o1 o2 o4_9 o5_9 o6 o7 o8_9 o9 => ?_)
    have em2 : x2_9 = o := Int32.toInt_inj.mp f2_9
    have em1 : x1_9 = 1 := Int32.toInt_inj.mp (show x1_9.toInt = (1 : Int32).toInt from f1_9)
    rw [em2, em1]
    refine btq_ishl hM (by decide +kernel) ?_
    refine btq_ior hM (by decide +kernel) ?_
    exact qu8 c hM (by omega) v1_9 k d y s b.toInt (lt : Int) o.toInt (ps_9.length : Int) (o ||| ((1 : Int32) <<< (x0_9 &&& 31))).toInt (o ||| ((1 : Int32) <<< (x0_9 &&& 31))) rfl k0 k1 d0 d1 y0 y1 s0 s1 bb bb' (by omega) (by omega) ob_9 ob' (by omega) (by omega) (Int32.le_toInt _) (Int32.toInt_le _) o0_9 o1 o2 o4_9 o5_9 o6 o7 o8_9 o9 (fun l5' h5 p1_9 p2_9 p3_9 q0 q1_9 q2_9 q4_9 q5_9 q6_9 q7_9 q8_9 q9_9 => ih_9 h5 l5' (ps_9 ++ [true]) _ (by rw [nl']; omega) (by rw [nl']; omega) p1_9 (ly_fr_tr F3 (ly_fr_tr v2 p2_9)) (mbs_t Bo_9 f0_9 (by omega)) (ap_at ch_9 ⟨fun _ => yes_9, fun _ => rfl⟩) q0 q1_9 q2_9 q4_9 q5_9 q6_9 q7_9 q8_9 (by rw [nl]; exact q9_9))
/-- quarrelling of the class -/
theorem qu_run {cst : am_K} {strs : List Nat} {D : Nat} {h0 : am_H} (cc : ∀ d, hp_C cst strs d) (hD : 1 ≤ D) (hy : ly_hy m_tt ly_TH h0) {X : List rX} {i0 : List Int} (I : LC cst h0 X i0) (x30 : X.length ≤ 30) (g12 : (fX X).length ≤ 1240) {k d : Int} (k0 : 0 ≤ k) (k1 : k ≤ 13) {xk xy xs : Int32} {xd : Int64} (ek : xk.toInt = k) (ed : xd.toInt = d) :
    ∃ r_9, am_Run cst m_cl m_tt m_P strs sx_bi (D + 5) 118 [.ref 30, .int xk, .long xd, .int xy, .int xs] h0 r_9 ∧ (fun r_9 : am_Q => ∃ w_9 : Int32, r_9.1 = some (.int w_9) ∧ r_9.2.2.1 = 0 ∧ r_9.2.2.2 = 0 ∧ ly_hy m_tt ly_TH r_9.2.1 ∧ ly_fr cst [] h0 r_9.2.1 ∧ pQua X k d xy.toInt xs.toInt w_9.toInt) r_9 := by
  obtain ⟨M_9, hM_9, hl⟩ := hp_M (mi := 118) (k := 6) (by decide +kernel)
  have c : hp_C cst strs (D + 4) := cc _
  have d0_9 : -9223372036854775808 ≤ d := by rw [← ed]; exact xd.le_toInt
  have d1_9 : d ≤ 9223372036854775807 := by rw [← ed]; exact xd.toInt_le
  have go_9 : hp_F cst strs (fun r_9 : am_Q => ∃ w_9 : Int32, r_9.1 = some (.int w_9) ∧ r_9.2.2.1 = 0 ∧ r_9.2.2.2 = 0 ∧ ly_hy m_tt ly_TH r_9.2.1 ∧ ly_fr cst [] h0 r_9.2.1 ∧ pQua X k d xy.toInt xs.toInt w_9.toInt) (D + 4) M_9 0 (lv_args 0 [.ref 30, .int xk, .long xd, .int xy, .int xs]) [] h0 := by
    refine qu0 c hM_9 (by omega) hy k d xy.toInt xs.toInt k0 k1 d0_9 d1_9 xy.le_toInt xy.toInt_le xs.le_toInt xs.toInt_le rfl ⟨xk, rfl, ek⟩ ⟨xd, rfl, ed⟩ ⟨xy, rfl, rfl⟩ ⟨xs, rfl, rfl⟩ (fun l1 h1 z0 z1 e0_9 e1_9 u1_9 u2_9 u3 m0_9 m1_9 m2_9 m4_9 m5_9 => ?_)
    obtain ⟨r_9, hrun, b_9, r1_9, r2, r3, rhy, rfr, B_9⟩ := ab_run (D := D + 3) (cc _) (by omega) u1_9 (LC_mv I u2_9 rfl) x30 (xd := z1) (xk := z0)
    refine hp_call (mi := 118) (pc := 5) (tg := 54) (na := 3) (c := 14) (ci := 3) (st0 := [.int z0, .int z1, .ref 30]) (st := []) (av := [.int z1, .int z0]) hM_9 (by decide +kernel) u1_9 rfl rfl rfl (by decide) hrun r2 r3 ?_
    rw [r1_9]
    rw [e0_9, e1_9] at B_9
    have F2 : ly_fr cst [] h0 r_9.2.1 := ly_fr_tr u2_9 rfr
    refine qu1 c hM_9 (by omega) rhy k d xy.toInt xs.toInt b_9.toInt b_9 rfl k0 k1 d0_9 d1_9 xy.le_toInt xy.toInt_le xs.le_toInt xs.toInt_le b_9.le_toInt b_9.toInt_le m0_9 m1_9 m2_9 m4_9 m5_9 (fun l3 h3 y0 y1 y2 y3 f0_9 f1_9 f2_9 f3_9 v1_9 v2 v3 n0_9 n1_9 n2_9 n4_9 n5_9 n6_9 => ?_)
    have F3 : ly_fr cst [] h0 h3 := ly_fr_tr F2 v2
    obtain ⟨r', hrun', w_9, t1_9, t2_9, t3_9, thy, tfr, tres⟩ := ai_run (D := D) cc hD v1_9 (LC_mv I F3 rfl) x30 g12 (k := k) (d := d) k0 (by omega) (xk := y3) (xd := y2) (xy := y1) (xs := y0) f3_9 f2_9
    refine hp_call (mi := 118) (pc := 17) (tg := 115) (na := 5) (c := 14) (ci := 3) (st0 := [.int y0, .int y1, .long y2, .int y3, .ref 30]) (st := []) (av := [.int y3, .long y2, .int y1, .int y0]) hM_9 (by decide +kernel) v1_9 rfl rfl rfl (by decide) hrun' t2_9 t3_9 ?_
    rw [t1_9]
    rw [f0_9, f1_9] at tres
    have F4 : ly_fr cst [] h0 r'.2.1 := ly_fr_tr F3 tfr
    have fb : ∀ (h5 : am_H) (l5 : am_L) (ps_9 : List Bool) (o : Int32), ly_hy m_tt ly_TH h5 → ly_fr cst [] h0 h5 → ps_9.length ≤ 30 → mbs ps_9 o → hp_a l5 0 30 → hp_i l5 8 o.toInt → (∀ (w5 : Int32) (h6 : am_H), w5.toInt = (if 1 < cnb ps_9 then o.toInt else 0) → ly_hy m_tt ly_TH h6 → ly_fr cst [] h0 h6 → (fun r_9 : am_Q => ∃ w_9 : Int32, r_9.1 = some (.int w_9) ∧ r_9.2.2.1 = 0 ∧ r_9.2.2.2 = 0 ∧ ly_hy m_tt ly_TH r_9.2.1 ∧ ly_fr cst [] h0 r_9.2.1 ∧ pQua X k d xy.toInt xs.toInt w_9.toInt) (some (.int w5), h6, 0, 0)) → hp_F cst strs (fun r_9 : am_Q => ∃ w_9 : Int32, r_9.1 = some (.int w_9) ∧ r_9.2.2.1 = 0 ∧ r_9.2.2.2 = 0 ∧ ly_hy m_tt ly_TH r_9.2.1 ∧ ly_fr cst [] h0 r_9.2.1 ∧ pQua X k d xy.toInt xs.toInt w_9.toInt) (D + 4) M_9 83 l5 [.int o] h5 := by
      intro h5 l5 ps_9 o p1_9 p2_9 pl Bo_9 q0 q8_9 kk
      obtain ⟨n_9, en, n30_9, bn⟩ := mbs_n Bo_9 pl
      obtain ⟨r6, hrun6, w6_9, a1_9, a2, a3, ahy, afr, ew6⟩ := bc_run (D := D + 3) (cc _) (by omega) p1_9 en n30_9
      refine hp_calt (mi := 118) (pc := 83) (tg := 119) (na := 1) (st0 := [.int o]) (st := []) (av := [.int o]) hM_9 (by decide +kernel) rfl rfl (by decide) hrun6 a2 a3 ?_
      rw [a1_9]
      rw [bn] at ew6
      have cl := cnb_le ps_9
      by_cases z_9 : 1 < cnb ps_9
      · exact qu9 c hM_9 (by omega) ahy o.toInt (cnb ps_9 : Int) w6_9 ew6 o.le_toInt o.toInt_le (by omega) (by omega) q0 (by exact q8_9) (fun h7 v_9 hv x1_9 x2_9 x3 => kk v_9 h7 (by rw [if_pos z_9]; exact hv) x1_9 (ly_fr_tr p2_9 (ly_fr_tr afr x2_9)))
      · exact quA c hM_9 (by omega) ahy o.toInt (cnb ps_9 : Int) w6_9 ew6 o.le_toInt o.toInt_le (by omega) (by omega) q0 (by exact q8_9) (fun h7 v_9 hv x1_9 x2_9 x3 => kk v_9 h7 (by rw [if_neg z_9]; exact hv) x1_9 (ly_fr_tr p2_9 (ly_fr_tr afr x2_9)))
    rcases tres with ⟨a_9, j_9, hf, ew⟩ | ⟨nf_9, ew⟩
    · obtain ⟨⟨ha_9, -, -⟩, hup⟩ := id hf
      refine qu2 c hM_9 (by omega) thy k d xy.toInt xs.toInt b_9.toInt (a_9 : Int) w_9 ew k0 k1 d0_9 d1_9 xy.le_toInt xy.toInt_le xs.le_toInt xs.toInt_le b_9.le_toInt b_9.toInt_le (by omega) (by omega) n0_9 n1_9 n2_9 n4_9 n5_9 n6_9 (fun l5 h5 p1_9 p2_9 p3_9 q0 q1_9 q2_9 q4_9 q5_9 q6_9 q7_9 q8_9 q9_9 => ?_)
      exact qu_lp cc hM_9 hD I x30 g12 k0 k1 d0_9 d1_9 xy.le_toInt xy.toInt_le xs.le_toInt xs.toInt_le B_9 ha_9 (fun h6 l6 ps_9 o v1_9 v2 v3 v4_9 v5 o0_9 o8_9 => fb h6 l6 ps_9 o v1_9 v2 (by omega) v4_9 o0_9 o8_9 (fun w7_9 h7 e7_9 x1_9 x2_9 => ⟨w7_9, rfl, rfl, rfl, x1_9, x2_9, Or.inr ⟨a_9, j_9, hf, ps_9 ++ List.replicate (X.length - ps_9.length) false, o, by rw [List.length_append, List.length_replicate]; omega, fun i_9 hi_9 => by
        by_cases z_9 : i_9 < ps_9.length
        · rw [List.getElem_append_left z_9]
          exact v5 i_9 z_9
        · rw [List.getElem_append_right (by omega), List.getElem_replicate]
          refine ⟨fun e_9 => (by cases e_9), fun t_9 => ?_⟩
          obtain ⟨_, _, _, j', t1_9⟩ := t_9
          exact absurd t1_9 (hup i_9 j' (by omega)), fun i_9 hi_9 => by
        rw [v4_9 i_9 hi_9]
        by_cases z_9 : i_9 < ps_9.length
        · rw [List.getD_eq_getElem?_getD, List.getD_eq_getElem?_getD, List.getElem?_append_left z_9]
        · rw [List.getD_eq_getElem?_getD, List.getElem?_eq_none (by omega), List.getD_eq_getElem?_getD, List.getElem?_append_right (by omega)]
          by_cases y_9 : i_9 - ps_9.length < X.length - ps_9.length
          · rw [List.getElem?_replicate, if_pos y_9]
            rfl
          · rw [List.getElem?_replicate, if_neg y_9], by rw [cnb_ap, cnb_rep, Nat.add_zero]; exact e7_9⟩⟩)) (a_9 + 2) h5 l5 [] 0 (by show a_9 + 1 - 0 < a_9 + 2; omega) (Nat.zero_le _) p1_9 (ly_fr_tr F4 p2_9) mbs_0 (fun i_9 hi_9 => absurd hi_9 (Nat.not_lt_zero _)) q0 q1_9 q2_9 q4_9 q5_9 q6_9 q7_9 q8_9 q9_9
    · refine qu2 c hM_9 (by omega) thy k d xy.toInt xs.toInt b_9.toInt (-1) w_9 ew k0 k1 d0_9 d1_9 xy.le_toInt xy.toInt_le xs.le_toInt xs.toInt_le b_9.le_toInt b_9.toInt_le (by omega) (by omega) n0_9 n1_9 n2_9 n4_9 n5_9 n6_9 (fun l5 h5 p1_9 p2_9 p3_9 q0 q1_9 q2_9 q4_9 q5_9 q6_9 q7_9 q8_9 q9_9 => ?_)
      refine qu3 c hM_9 (by omega) p1_9 k d xy.toInt xs.toInt b_9.toInt (-1) 0 k0 k1 d0_9 d1_9 xy.le_toInt xy.toInt_le xs.le_toInt xs.toInt_le b_9.le_toInt b_9.toInt_le (by omega) (by omega) (by omega) (by omega) q0 q1_9 q2_9 q4_9 q5_9 q6_9 q7_9 q8_9 q9_9 (fun l6 h6 x0_9 g0 v1_9 v2 v3 o0_9 o8_9 => ?_)
      have ex0 : x0_9 = 0 := Int32.toInt_inj.mp (show x0_9.toInt = (0 : Int32).toInt from g0)
      rw [ex0]
      exact fb h6 l6 [] 0 v1_9 (ly_fr_tr F4 (ly_fr_tr p2_9 v2)) (by decide) mbs_0 o0_9 o8_9 (fun w7_9 h7 e7_9 x1_9 x2_9 => ⟨w7_9, rfl, rfl, rfl, x1_9, x2_9, Or.inl ⟨nf_9, by rw [e7_9]; rfl⟩⟩)
  obtain ⟨n', r_9, hgo, w_9, r1_9, r2, r3, r4⟩ := go_9
  simp only [Nat.zero_add] at r2 r3
  exact ⟨r_9, Or.inr ⟨M_9, n', hM_9, hl, hgo⟩, w_9, r1_9, r2, r3, r4⟩
/-- the reference's loop -/
theorem rk_lp {cst : am_K} {strs : List Nat} {D : Nat} {M : am_M} {h0 : am_H} {Φ : am_Q → Prop} (cc : ∀ d, hp_C cst strs d) (hM : m_P[325]? = some M) (hD : 1 ≤ D) {X : List rX} (R : rA cst h0 X) (x30 : X.length ≤ 30) (wd : ∀ a_9 (ha_9 : a_9 < X.length), wD (X[a_9]).2.2.1) {y s k d : Int} (k0 : 0 ≤ k) (k1 : k ≤ 13) (d0 : -9223372036854775808 ≤ d) (d1 : d ≤ 9223372036854775807) (y0 : -2147483648 ≤ y) (y1 : y ≤ 2147483647) (s0 : -2147483648 ≤ s) (s1 : s ≤ 2147483647) (kd' : ly_hv cst h0 20017 0 = some d) {lt jt : Nat} (hlt : lt < X.length) (hjt : jt < 40)
    (fin : ∀ (h_9 : am_H) (w_9 : Int32) (ps_9 : List Bool) (o : Int32), ly_hy m_tt ly_TH h_9 → ly_fr cst [] h0 h_9 → ps_9.length = X.length → mbs ps_9 o → (∀ a_9 (ha_9 : a_9 < ps_9.length), ps_9[a_9] = true ↔ qst X k (dz k d) y s lt a_9) → w_9.toInt = (if 1 < cnb ps_9 then o.toInt else 0) → Φ (some (.int w_9), h_9, 0, 0)) :
    ∀ (Q_9 : Nat) (h_9 : am_H) (l : am_L) (ps_9 : List Bool) (o : Int32), X.length - ps_9.length < Q_9 → ps_9.length ≤ X.length → ly_hy m_tt ly_TH h_9 → ly_fr cst [] h0 h_9 → mbs ps_9 o → (∀ a_9 (ha_9 : a_9 < ps_9.length), ps_9[a_9] = true ↔ qst X k (dz k d) y s lt a_9) → hp_a l 0 94 → hp_i l 1 k → hp_i l 2 y → hp_i l 3 s → hp_i l 5 (40 * (lt : Int) + (jt : Int)) → hp_i l 6 o.toInt → hp_i l 7 (cnb ps_9 : Int) → hp_i l 8 (ps_9.length : Int) → hp_F cst strs Φ (D + 3) M 47 l [] h_9 := by
  have c : hp_C cst strs (D + 3) := cc _
  intro Q_9
  induction Q_9 with
  | zero => intro h_9 l ps_9 o hN_9; omega
  | succ Q_9 ih_9 =>
    intro h_9 l ps_9 o hN_9 hl hy fr_9 Bo_9 ch_9 l0 l1 l2 l3 l5 l6 l7 l8
    have ob_9 : -2147483648 ≤ o.toInt := o.le_toInt
    have ob' : o.toInt ≤ 2147483647 := o.toInt_le
    have cl := cnb_le ps_9
    have km : ly_hv cst h_9 19989 0 = some (X.length : Int) := fr_9 _ _ _ rfl R.1
    by_cases z_9 : ps_9.length = X.length
    · rw [z_9] at l8
      by_cases w_9 : 1 < cnb ps_9
      · exact rk5y c hM (by omega) hy k y s (40 * (lt : Int) + (jt : Int)) o.toInt (cnb ps_9 : Int) (X.length : Int) k0 k1 y0 y1 s0 s1 (by omega) (by omega) ob_9 ob' (by omega) (by omega) (by omega) (by omega) km l0 l1 l2 l3 l5 l6 l7 l8 (fun h2 v_9 hv u1_9 u2_9 u3 => fin h2 v_9 ps_9 o u1_9 (ly_fr_tr fr_9 u2_9) z_9 Bo_9 ch_9 (by rw [if_pos w_9]; exact hv))
      · exact rk5n c hM (by omega) hy k y s (40 * (lt : Int) + (jt : Int)) o.toInt (cnb ps_9 : Int) (X.length : Int) k0 k1 y0 y1 s0 s1 (by omega) (by omega) ob_9 ob' (by omega) (by omega) (by omega) (by omega) km l0 l1 l2 l3 l5 l6 l7 l8 (fun h2 v_9 hv u1_9 u2_9 u3 => fin h2 v_9 ps_9 o u1_9 (ly_fr_tr fr_9 u2_9) z_9 Bo_9 ch_9 (by rw [if_neg w_9]; exact hv))
    have ha_9 : ps_9.length < X.length := by omega
    have ka : ly_hv cst h_9 22784 (ps_9.length : Int) = some (X[ps_9.length]).1 := fr_9 _ _ _ rfl (R.2 ps_9.length ha_9).1.1
    have kl : ly_hv cst h_9 22784 (lt : Int) = some (X[lt]).1 := fr_9 _ _ _ rfl (R.2 lt hlt).1.1
    obtain ⟨u_9, ku, ul_9, uh⟩ := hp_row (cst := cst) (i := (ps_9.length : Int)) hy (show ly_ths ly_TH 89 = some (.inl (.int, 31, -2147483648, 2147483647)) from rfl) (by omega) (by omega)
    have ku : ly_hv cst h_9 22784 (ps_9.length : Int) = some u_9 := ku
    have eu := Option.some.inj (ka.symm.trans ku)
    obtain ⟨u', ku', ul', uh'⟩ := hp_row (cst := cst) (i := (lt : Int)) hy (show ly_ths ly_TH 89 = some (.inl (.int, 31, -2147483648, 2147483647)) from rfl) (by omega) (by omega)
    have ku' : ly_hv cst h_9 22784 (lt : Int) = some u' := ku'
    have eu' := Option.some.inj (kl.symm.trans ku')
    have nl : ∀ (p_9 : Bool), (((ps_9 ++ [p_9]).length : Nat) : Int) = (ps_9.length : Int) + 1 := fun p_9 => by
      rw [List.length_append, List.length_singleton]
      omega
    have nl' : ∀ (p_9 : Bool), (ps_9 ++ [p_9]).length = ps_9.length + 1 := fun p_9 => by rw [List.length_append, List.length_singleton]
    have no_9 : ¬ qst X k (dz k d) y s lt ps_9.length → ∀ (l2' : am_L) (h2 : am_H), ly_hy m_tt ly_TH h2 → ly_fr cst [] h0 h2 → hp_a l2' 0 94 → hp_i l2' 1 k → hp_i l2' 2 y → hp_i l2' 3 s → hp_i l2' 5 (40 * (lt : Int) + (jt : Int)) → hp_i l2' 6 o.toInt → hp_i l2' 7 (cnb ps_9 : Int) → hp_i l2' 8 ((ps_9.length : Int) + 1) → hp_F cst strs Φ (D + 3) M 47 l2' [] h2 := fun nq l2' h2 u1_9 u2_9 m0_9 m1_9 m2_9 m3_9 m5_9 m6_9 m7_9 m8_9 => ih_9 h2 l2' (ps_9 ++ [false]) o (by rw [nl']; omega) (by rw [nl']; omega) u1_9 u2_9 (mbs_f Bo_9) (ap_at ch_9 ⟨fun e_9 => (by cases e_9), fun e_9 => absurd e_9 nq⟩) m0_9 m1_9 m2_9 m3_9 m5_9 m6_9 (by rw [cnb_ap]; exact m7_9) (by rw [nl]; exact m8_9)
    by_cases e_9 : (X[ps_9.length]).1 = (X[lt]).1
    rotate_left
    · exact rk6 c hM (by omega) hy k y s (40 * (lt : Int) + (jt : Int)) o.toInt (cnb ps_9 : Int) (ps_9.length : Int) (X.length : Int) (lt : Int) (X[ps_9.length]).1 (X[lt]).1 k0 k1 y0 y1 s0 s1 (by omega) (by omega) ob_9 ob' (by omega) (by omega) (by omega) (by omega) (by omega) (by omega) (by omega) (by omega) (by omega) (by omega) (by omega) (by omega) (by omega) km (q40 hjt) ka kl (hp_ne (by omega)) l0 l1 l2 l3 l5 l6 l7 l8 (fun l2' h2 u1_9 u2_9 u3 m0_9 m1_9 m2_9 m3_9 m5_9 m6_9 m7_9 m8_9 => no_9 (fun t_9 => by
        obtain ⟨_, _, t1_9, _⟩ := t_9
        exact e_9 t1_9) l2' h2 u1_9 (ly_fr_tr fr_9 u2_9) m0_9 m1_9 m2_9 m3_9 m5_9 m6_9 m7_9 m8_9)
    rw [← e_9] at kl
    refine rk7 c hM (by omega) hy k y s (40 * (lt : Int) + (jt : Int)) o.toInt (cnb ps_9 : Int) (ps_9.length : Int) (X.length : Int) (lt : Int) (X[ps_9.length]).1 d k0 k1 y0 y1 s0 s1 (by omega) (by omega) ob_9 ob' (by omega) (by omega) (by omega) (by omega) (by omega) (by omega) (by omega) (by omega) (by omega) (by omega) d0 d1 (by omega) km (q40 hjt) ka kl (fr_9 _ _ _ rfl kd') l0 l1 l2 l3 l5 l6 l7 l8 (fun l2' h2 z0 z1 z2 z3 z4 e0_9 e1_9 e2_9 e3_9 e4_9 u1_9 u2_9 u3 m0_9 m1_9 m2_9 m3_9 m5_9 m6_9 m7_9 m8_9 => ?_)
    have F2 : ly_fr cst [] h0 h2 := ly_fr_tr fr_9 u2_9
    obtain ⟨r_9, hrun, w_9, r1_9, r2, r3, rhy, rfr, rres⟩ := co_run (D := D) cc hD u1_9 (rA_f3 R F2) x30 ha_9 (wd _ ha_9) (y := y) (s := s) (k := k) (d := d) k0 k1 (xa := z4) (xk := z3) (xd := z2) (xy := z1) (xs := z0) e4_9 e3_9 e2_9 e1_9 e0_9
    refine hp_call (mi := 325) (pc := 86) (tg := 285) (na := 6) (c := 78) (ci := 12) (st0 := [.int z0, .int z1, .long z2, .int z3, .int z4, .ref 94]) (st := []) (av := [.int z4, .int z3, .long z2, .int z1, .int z0]) hM (by decide +kernel) u1_9 rfl rfl rfl (by decide) hrun r2 r3 ?_
    rw [r1_9]
    have F3 : ly_fr cst [] h0 r_9.2.1 := ly_fr_tr F2 rfr
    rcases rres with ⟨j_9, hj, ew⟩ | ⟨nh, ew⟩
    rotate_left
    · exact rk8 c hM (by omega) rhy k y s (40 * (lt : Int) + (jt : Int)) o.toInt (cnb ps_9 : Int) (ps_9.length : Int) w_9 ew k0 k1 y0 y1 s0 s1 (by omega) (by omega) ob_9 ob' (by omega) (by omega) (by omega) (by omega) m0_9 m1_9 m2_9 m3_9 m5_9 m6_9 m7_9 m8_9 (fun l3' h3 v1_9 v2 v3 o0_9 o1 o2 o3_9 o5_9 o6 o7 o8_9 => no_9 (fun t_9 => by
        obtain ⟨_, _, _, j_9, t1_9⟩ := t_9
        exact nh j_9 t1_9) l3' h3 v1_9 (ly_fr_tr F3 v2) o0_9 o1 o2 o3_9 o5_9 o6 o7 o8_9)
    have yes_9 : qst X k (dz k d) y s lt ps_9.length := ⟨hlt, ha_9, e_9, j_9, hj⟩
    obtain ⟨ha', -, ⟨hj', -⟩, -⟩ := id hj
    have lA := (rc_ln R ha_9).2
    refine rk9 c hM (by omega) rhy k y s (40 * (lt : Int) + (jt : Int)) o.toInt (cnb ps_9 : Int) (ps_9.length : Int) (40 * (ps_9.length : Int) + (j_9 : Int)) w_9 ew k0 k1 y0 y1 s0 s1 (by omega) (by omega) ob_9 ob' (by omega) (by omega) (by omega) (by omega) (by omega) (by omega) m0_9 m1_9 m2_9 m3_9 m5_9 m6_9 m7_9 m8_9 (fun l3' h3 x0_9 x1_9 x2_9 f0_9 f1_9 f2_9 v1_9 v2 v3 o0_9 o1 o2 o3_9 o5_9 o6 o7 o8_9 => ?_)
    have em2 : x2_9 = o := Int32.toInt_inj.mp f2_9
    have em1 : x1_9 = 1 := Int32.toInt_inj.mp (show x1_9.toInt = (1 : Int32).toInt from f1_9)
    rw [em2, em1]
    refine btq_ishl hM (by decide +kernel) ?_
    refine btq_ior hM (by decide +kernel) ?_
    exact rkA c hM (by omega) v1_9 k y s (40 * (lt : Int) + (jt : Int)) o.toInt (cnb ps_9 : Int) (ps_9.length : Int) (o ||| ((1 : Int32) <<< (x0_9 &&& 31))).toInt (o ||| ((1 : Int32) <<< (x0_9 &&& 31))) rfl k0 k1 y0 y1 s0 s1 (by omega) (by omega) ob_9 ob' (by omega) (by omega) (by omega) (by omega) (Int32.le_toInt _) (Int32.toInt_le _) o0_9 o1 o2 o3_9 o5_9 o6 o7 o8_9 (fun l5' h5 p1_9 p2_9 p3_9 q0 q1_9 q2_9 q3_9 q5_9 q6_9 q7_9 q8_9 => ih_9 h5 l5' (ps_9 ++ [true]) _ (by rw [nl']; omega) (by rw [nl']; omega) p1_9 (ly_fr_tr F3 (ly_fr_tr v2 p2_9)) (mbs_t Bo_9 f0_9 (by omega)) (ap_at ch_9 ⟨fun _ => yes_9, fun _ => rfl⟩) q0 q1_9 q2_9 q3_9 q5_9 q6_9 (by rw [cnb_ap]; exact q7_9) (by rw [nl]; exact q8_9))
/-- quarrel of the class -/
theorem lq_run {cst : am_K} {strs : List Nat} {D : Nat} {h : am_H} (cc : ∀ d, hp_C cst strs d) (hy : ly_hy m_tt ly_TH h) {N : Nat} (n1 : (N : Int) ≤ 1200) (kn : ly_hv cst h 257 0 = some (N : Int)) {X : List rX} {i0 : List Int} (I : LC cst h X i0) (x30 : X.length ≤ 30) (g12 : (fX X).length ≤ 1240) {xk xy xs : Int32} :
    ∃ r_9, am_Run cst m_cl m_tt m_P strs sx_bi (D + 13) 117 [.ref 16, .int xk, .int xy, .int xs] h r_9 ∧ (fun r_9 : am_Q => ∃ w_9 : Int32, r_9.1 = some (.int w_9) ∧ r_9.2.2.1 = 0 ∧ r_9.2.2.2 = 0 ∧ ly_hy m_tt ly_TH r_9.2.1 ∧ ly_fr cst gt_mods h r_9.2.1 ∧ (ly_hv cst r_9.2.1 257 0 = some 0 ∧ ∃ (t_9 : Nat) (en : Nat → Int) (kd pl vl : Int → Int), tkT (gt_g cst h 512) (N : Int) t_9 kd pl vl en ∧ qa xk.toInt xy.toInt xs.toInt (sw kd vl t_9) w_9.toInt (pQua X xk.toInt (dz xk.toInt (sw kd vl t_9)) xy.toInt xs.toInt))) r_9 := by
  obtain ⟨M_9, hM_9, hl⟩ := hp_M (mi := 117) (k := 4) (by decide +kernel)
  have c : hp_C cst strs (D + 12) := cc _
  have bk : -2147483648 ≤ xk.toInt := xk.le_toInt
  have bk' : xk.toInt ≤ 2147483647 := xk.toInt_le
  have bz8 : -2147483648 ≤ xy.toInt := xy.le_toInt
  have bz9 : xy.toInt ≤ 2147483647 := xy.toInt_le
  have bs : -2147483648 ≤ xs.toInt := xs.le_toInt
  have bs' : xs.toInt ≤ 2147483647 := xs.toInt_le
  have go_9 : hp_F cst strs (fun r_9 : am_Q => ∃ w_9 : Int32, r_9.1 = some (.int w_9) ∧ r_9.2.2.1 = 0 ∧ r_9.2.2.2 = 0 ∧ ly_hy m_tt ly_TH r_9.2.1 ∧ ly_fr cst gt_mods h r_9.2.1 ∧ (ly_hv cst r_9.2.1 257 0 = some 0 ∧ ∃ (t_9 : Nat) (en : Nat → Int) (kd pl vl : Int → Int), tkT (gt_g cst h 512) (N : Int) t_9 kd pl vl en ∧ qa xk.toInt xy.toInt xs.toInt (sw kd vl t_9) w_9.toInt (pQua X xk.toInt (dz xk.toInt (sw kd vl t_9)) xy.toInt xs.toInt))) (D + 12) M_9 0 (lv_args 0 [.ref 16, .int xk, .int xy, .int xs]) [] h := by
    refine lq0 c hM_9 (by omega) hy xk.toInt xy.toInt xs.toInt bk bk' bz8 bz9 bs bs' rfl ⟨xk, rfl, rfl⟩ ⟨xy, rfl, rfl⟩ ⟨xs, rfl, rfl⟩ (fun l1 h1 a0_9 ea0 u1_9 u2_9 u3 m0_9 m1_9 m2_9 m3_9 => ?_)
    have ek0 : a0_9 = xk := Int32.toInt_inj.mp ea0
    rw [ek0]
    obtain ⟨r_9, hrun, w_9, r1_9, r2, r3, rhy, rfr, rk9, t_9, en, kd, pl, vl, TT, ew⟩ := td_run (D := D + 9) cc (by omega) u1_9 n1 (u2_9 _ _ _ rfl kn) (xk := xk)
    refine hp_call (mi := 117) (pc := 2) (tg := 112) (na := 2) (c := 0) (ci := 0) (st0 := [.int xk, .ref 16]) (st := []) (av := [.int xk]) hM_9 (by decide +kernel) u1_9 rfl rfl rfl (by decide) hrun r2 r3 ?_
    rw [r1_9]
    have et : gt_g cst h1 512 = gt_g cst h 512 := by
      unfold gt_g
      rw [hp_same (mods := []) (show ly_ths ly_TH 2 = some (.inl (.int, 1200, 0, 255)) from rfl) rfl hy u1_9 u2_9]
    rw [et] at TT
    have F1_9 : ly_fr cst gt_mods h r_9.2.1 := ly_fr_tr (hp_sub2 rfl u2_9) rfr
    have bw : -9223372036854775808 ≤ dz xk.toInt (sw kd vl t_9) := by rw [← ew]; exact w_9.le_toInt
    have bw' : dz xk.toInt (sw kd vl t_9) ≤ 9223372036854775807 := by rw [← ew]; exact w_9.toInt_le
    have bad_9 : ¬ qok xk.toInt xy.toInt xs.toInt → ∀ (h3 : am_H) (v_9 : Int32), v_9.toInt = -2 → ly_hy m_tt ly_TH h3 → ly_fr cst [] r_9.2.1 h3 → r_9.2.1.length ≤ h3.length → (fun r_9 : am_Q => ∃ w_9 : Int32, r_9.1 = some (.int w_9) ∧ r_9.2.2.1 = 0 ∧ r_9.2.2.2 = 0 ∧ ly_hy m_tt ly_TH r_9.2.1 ∧ ly_fr cst gt_mods h r_9.2.1 ∧ (ly_hv cst r_9.2.1 257 0 = some 0 ∧ ∃ (t_9 : Nat) (en : Nat → Int) (kd pl vl : Int → Int), tkT (gt_g cst h 512) (N : Int) t_9 kd pl vl en ∧ qa xk.toInt xy.toInt xs.toInt (sw kd vl t_9) w_9.toInt (pQua X xk.toInt (dz xk.toInt (sw kd vl t_9)) xy.toInt xs.toInt))) (some (.int v_9), h3, 0, 0) := fun z_9 h3 v_9 hv v1_9 v2 v3 => ⟨v_9, rfl, rfl, rfl, v1_9, ly_fr_tr F1_9 (hp_sub2 rfl v2), v2 _ _ _ rfl rk9, t_9, en, kd, pl, vl, TT, fun _ => hv, fun o => absurd o z_9⟩
    by_cases q0 : xk.toInt < 0
    · exact lqR0 c hM_9 (by omega) rhy xk.toInt xy.toInt xs.toInt (dz xk.toInt (sw kd vl t_9)) w_9 ew bk (by omega) bz8 bz9 bs bs' bw bw' m0_9 m1_9 m2_9 m3_9 (bad_9 (fun z_9 => by unfold qok at z_9; omega))
    by_cases q1_9 : 13 < xk.toInt
    · exact lqR1 c hM_9 (by omega) rhy xk.toInt xy.toInt xs.toInt (dz xk.toInt (sw kd vl t_9)) w_9 ew (by omega) bk' bz8 bz9 bs bs' bw bw' m0_9 m1_9 m2_9 m3_9 (bad_9 (fun z_9 => by unfold qok at z_9; omega))
    by_cases q2_9 : xy.toInt < 0
    · exact lqR2 c hM_9 (by omega) rhy xk.toInt xy.toInt xs.toInt (dz xk.toInt (sw kd vl t_9)) w_9 ew (by omega) (by omega) bz8 (by omega) bs bs' bw bw' m0_9 m1_9 m2_9 m3_9 (bad_9 (fun z_9 => by unfold qok at z_9; omega))
    by_cases q3_9 : 399 < xy.toInt
    · exact lqR3 c hM_9 (by omega) rhy xk.toInt xy.toInt xs.toInt (dz xk.toInt (sw kd vl t_9)) w_9 ew (by omega) (by omega) (by omega) bz9 bs bs' bw bw' m0_9 m1_9 m2_9 m3_9 (bad_9 (fun z_9 => by unfold qok at z_9; omega))
    by_cases q4_9 : xs.toInt < 0
    · exact lqR4 c hM_9 (by omega) rhy xk.toInt xy.toInt xs.toInt (dz xk.toInt (sw kd vl t_9)) w_9 ew (by omega) (by omega) (by omega) (by omega) bs (by omega) bw bw' m0_9 m1_9 m2_9 m3_9 (bad_9 (fun z_9 => by unfold qok at z_9; omega))
    by_cases q5_9 : 5 < xs.toInt
    · exact lqR5 c hM_9 (by omega) rhy xk.toInt xy.toInt xs.toInt (dz xk.toInt (sw kd vl t_9)) w_9 ew (by omega) (by omega) (by omega) (by omega) (by omega) bs' bw bw' m0_9 m1_9 m2_9 m3_9 (bad_9 (fun z_9 => by unfold qok at z_9; omega))
    have ok_9 : qok xk.toInt xy.toInt xs.toInt := ⟨by omega, by omega, by omega, by omega, by omega, by omega⟩
    have go2 : ¬ (xk.toInt < 7 ∧ sw kd vl t_9 = 0) → ∀ (l3 : am_L) (h3 : am_H) (z0 z1 : Int32) (z2 : Int64) (z3 : Int32), z0.toInt = xs.toInt → z1.toInt = xy.toInt → z2.toInt = dz xk.toInt (sw kd vl t_9) → z3.toInt = xk.toInt → ly_hy m_tt ly_TH h3 → ly_fr cst [] r_9.2.1 h3 → r_9.2.1.length ≤ h3.length → hp_a l3 0 16 → hp_F cst strs (fun r_9 : am_Q => ∃ w_9 : Int32, r_9.1 = some (.int w_9) ∧ r_9.2.2.1 = 0 ∧ r_9.2.2.2 = 0 ∧ ly_hy m_tt ly_TH r_9.2.1 ∧ ly_fr cst gt_mods h r_9.2.1 ∧ (ly_hv cst r_9.2.1 257 0 = some 0 ∧ ∃ (t_9 : Nat) (en : Nat → Int) (kd pl vl : Int → Int), tkT (gt_g cst h 512) (N : Int) t_9 kd pl vl en ∧ qa xk.toInt xy.toInt xs.toInt (sw kd vl t_9) w_9.toInt (pQua X xk.toInt (dz xk.toInt (sw kd vl t_9)) xy.toInt xs.toInt))) (D + 12) M_9 36 l3 [.int z0, .int z1, .long z2, .int z3, .ref 30] h3 := by
      intro nz l3 h3 z0 z1 z2 z3 e0_9 e1_9 e2_9 e3_9 v1_9 v2 v3 o0_9
      have F3 : ly_fr cst gt_mods h h3 := ly_fr_tr F1_9 (hp_sub2 rfl v2)
      obtain ⟨r', hrun', w', s1_9, s2_9, s3_9, shy, sfr, sres⟩ := qu_run (D := D + 7) cc (by omega) v1_9 (LC_mv I F3 rfl) x30 g12 (k := xk.toInt) (d := dz xk.toInt (sw kd vl t_9)) ok_9.1 ok_9.2.1 (xk := z3) (xd := z2) (xy := z1) (xs := z0) e3_9 e2_9
      refine hp_call (mi := 117) (pc := 36) (tg := 118) (na := 5) (c := 14) (ci := 3) (st0 := [.int z0, .int z1, .long z2, .int z3, .ref 30]) (st := []) (av := [.int z3, .long z2, .int z1, .int z0]) hM_9 (by decide +kernel) v1_9 rfl rfl rfl (by decide) hrun' s2_9 s3_9 ?_
      rw [s1_9]
      rw [e0_9, e1_9] at sres
      exact lqE c hM_9 (by omega) shy w'.toInt w' rfl w'.le_toInt w'.toInt_le o0_9 (fun h5 v_9 hv x1_9 x2_9 x3 => ⟨v_9, rfl, rfl, rfl, x1_9, ly_fr_tr F3 (ly_fr_tr (hp_sub2 rfl sfr) (hp_sub2 rfl x2_9)), x2_9 _ _ _ rfl (sfr _ _ _ rfl (v2 _ _ _ rfl rk9)), t_9, en, kd, pl, vl, TT, fun o => absurd ok_9 o, fun _ => ⟨fun z_9 => absurd z_9 nz, fun _ => by rw [hv]; exact sres⟩⟩)
    by_cases q6_9 : 7 ≤ xk.toInt
    · exact lqG c hM_9 (by omega) rhy xk.toInt xy.toInt xs.toInt (dz xk.toInt (sw kd vl t_9)) w_9 ew q6_9 (by omega) (by omega) (by omega) (by omega) (by omega) bw bw' m0_9 m1_9 m2_9 m3_9 (go2 (fun z_9 => by omega))
    have ez : dz xk.toInt (sw kd vl t_9) = sw kd vl t_9 := if_pos (by omega)
    by_cases q7_9 : sw kd vl t_9 = 0
    · rw [ez, q7_9] at ew
      exact lqS c hM_9 (by omega) rhy xk.toInt xy.toInt xs.toInt w_9 ew (by omega) (by omega) (by omega) (by omega) (by omega) (by omega) m0_9 m1_9 m2_9 m3_9 (fun h3 v_9 hv v1_9 v2 v3 => ⟨v_9, rfl, rfl, rfl, v1_9, ly_fr_tr F1_9 (hp_sub2 rfl v2), v2 _ _ _ rfl rk9, t_9, en, kd, pl, vl, TT, fun o => absurd ok_9 o, fun _ => ⟨fun _ => hv, fun z_9 => absurd ⟨by omega, q7_9⟩ z_9⟩⟩)
    · exact lqH c hM_9 (by omega) rhy xk.toInt xy.toInt xs.toInt (dz xk.toInt (sw kd vl t_9)) w_9 ew (by omega) (by omega) (by omega) (by omega) (by omega) (by omega) bw bw' (hp_ne (by rw [ez]; exact q7_9)) m0_9 m1_9 m2_9 m3_9 (go2 (fun z_9 => q7_9 z_9.2))
  obtain ⟨n', r_9, hgo, w_9, r1_9, r2, r3, r4⟩ := go_9
  simp only [Nat.zero_add] at r2 r3
  exact ⟨r_9, Or.inr ⟨M_9, n', hM_9, hl, hgo⟩, w_9, r1_9, r2, r3, r4⟩
/-- quarrel of the reference -/
theorem rk_run {cst : am_K} {strs : List Nat} {D : Nat} {h0 : am_H} (cc : ∀ d, hp_C cst strs d) (hy : ly_hy m_tt ly_TH h0) {f : Int → Int} {n : Int} {t : Nat} {kd pl vl : Int → Int} {en : Nat → Int} (TT : tkT f n t kd pl vl en) (n0 : 0 ≤ n) (n1 : n ≤ 1200) (ff : ∀ x_9, 0 ≤ x_9 → x_9 < n → gs_f cst h0 x_9 = f x_9) (kn : ly_hv cst h0 19969 0 = some n) {X : List rX} (R : rA cst h0 X) (x30 : X.length ≤ 30) (wd : ∀ a_9 (ha_9 : a_9 < X.length), wD (X[a_9]).2.2.1) {xk xy xs : Int32} :
    ∃ r_9, am_Run cst m_cl m_tt m_P strs sx_bi (D + 13) 325 [.ref 94, .int xk, .int xy, .int xs] h0 r_9 ∧ (fun r_9 : am_Q => ∃ w_9 : Int32, r_9.1 = some (.int w_9) ∧ r_9.2.2.1 = 0 ∧ r_9.2.2.2 = 0 ∧ ly_hy m_tt ly_TH r_9.2.1 ∧ ly_fr cst [19969, 19970, 19971, 19972, 19973, 19974, 19975, 19976, 20017] h0 r_9.2.1 ∧ (ly_hv cst r_9.2.1 19969 0 = some 0 ∧ qa xk.toInt xy.toInt xs.toInt (sw kd vl t) w_9.toInt (pQua X xk.toInt (dz xk.toInt (sw kd vl t)) xy.toInt xs.toInt))) r_9 := by
  obtain ⟨M_9, hM_9, hl⟩ := hp_M (mi := 325) (k := 4) (by decide +kernel)
  have c : hp_C cst strs (D + 12) := cc _
  have bk : -2147483648 ≤ xk.toInt := xk.le_toInt
  have bk' : xk.toInt ≤ 2147483647 := xk.toInt_le
  have bz8 : -2147483648 ≤ xy.toInt := xy.le_toInt
  have bz9 : xy.toInt ≤ 2147483647 := xy.toInt_le
  have bs : -2147483648 ≤ xs.toInt := xs.le_toInt
  have bs' : xs.toInt ≤ 2147483647 := xs.toInt_le
  have go_9 : hp_F cst strs (fun r_9 : am_Q => ∃ w_9 : Int32, r_9.1 = some (.int w_9) ∧ r_9.2.2.1 = 0 ∧ r_9.2.2.2 = 0 ∧ ly_hy m_tt ly_TH r_9.2.1 ∧ ly_fr cst [19969, 19970, 19971, 19972, 19973, 19974, 19975, 19976, 20017] h0 r_9.2.1 ∧ (ly_hv cst r_9.2.1 19969 0 = some 0 ∧ qa xk.toInt xy.toInt xs.toInt (sw kd vl t) w_9.toInt (pQua X xk.toInt (dz xk.toInt (sw kd vl t)) xy.toInt xs.toInt))) (D + 12) M_9 0 (lv_args 0 [.ref 94, .int xk, .int xy, .int xs]) [] h0 := by
    refine rk0 c hM_9 (by omega) hy xk.toInt xy.toInt xs.toInt bk bk' bz8 bz9 bs bs' rfl ⟨xk, rfl, rfl⟩ ⟨xy, rfl, rfl⟩ ⟨xs, rfl, rfl⟩ (fun l1 h1 a0_9 a1_9 a2 ea0 ea1 ea2 u1_9 u2_9 u3 m0_9 m1_9 m2_9 m3_9 => ?_)
    obtain ⟨r_9, hrun, w_9, r1_9, r2, r3, rhy, rfr, rk9, rres⟩ := as_run (D := D + 8) cc (by omega) u1_9 TT n0 n1 (fun x_9 x0_9 x1_9 => by rw [gs_same hy u1_9 u2_9 rfl]; exact ff x_9 x0_9 x1_9) (u2_9 _ _ _ rfl kn) (xk := a2) (xy := a1_9) (xs := a0_9)
    refine hp_call (mi := 325) (pc := 4) (tg := 322) (na := 4) (c := 78) (ci := 12) (st0 := [.int a0_9, .int a1_9, .int a2, .ref 94]) (st := []) (av := [.int a2, .int a1_9, .int a0_9]) hM_9 (by decide +kernel) u1_9 rfl rfl rfl (by decide) hrun r2 r3 ?_
    rw [r1_9]
    rw [ea0, ea1, ea2] at rres
    have F1_9 : ly_fr cst [19969, 19970, 19971, 19972, 19973, 19974, 19975, 19976, 20017] h0 r_9.2.1 := ly_fr_tr (hp_sub2 rfl u2_9) rfr
    rcases rres with ⟨nk, ew⟩ | ⟨ok_9, z_9, ew⟩ | ⟨ok_9, nz, ew, kd'⟩
    · exact rk1 c hM_9 (by omega) rhy xk.toInt xy.toInt xs.toInt (-2) w_9 ew bk bk' bz8 bz9 bs bs' (by decide) (by decide) (hp_ne (by decide)) m0_9 m1_9 m2_9 m3_9 (fun h3 v_9 hv v1_9 v2 v3 => ⟨v_9, rfl, rfl, rfl, v1_9, ly_fr_tr F1_9 (hp_sub2 rfl v2), v2 _ _ _ rfl rk9, fun _ => hv, fun o => absurd o nk⟩)
    · exact rk1 c hM_9 (by omega) rhy xk.toInt xy.toInt xs.toInt (-4) w_9 ew bk bk' bz8 bz9 bs bs' (by decide) (by decide) (hp_ne (by decide)) m0_9 m1_9 m2_9 m3_9 (fun h3 v_9 hv v1_9 v2 v3 => ⟨v_9, rfl, rfl, rfl, v1_9, ly_fr_tr F1_9 (hp_sub2 rfl v2), v2 _ _ _ rfl rk9, fun o => absurd ok_9 o, fun _ => ⟨fun _ => hv, fun y => absurd z_9 y⟩⟩)
    have dr' : -9223372036854775808 ≤ sw kd vl t ∧ sw kd vl t ≤ 9223372036854775807 := sw_b TT
    obtain ⟨ok1, ok2, ok3, ok4, ok5, ok6⟩ := id ok_9
    have fin_9 : ∀ (h5 : am_H) (v_9 : Int32), pQua X xk.toInt (dz xk.toInt (sw kd vl t)) xy.toInt xs.toInt v_9.toInt → ly_hy m_tt ly_TH h5 → ly_fr cst [] r_9.2.1 h5 → (fun r_9 : am_Q => ∃ w_9 : Int32, r_9.1 = some (.int w_9) ∧ r_9.2.2.1 = 0 ∧ r_9.2.2.2 = 0 ∧ ly_hy m_tt ly_TH r_9.2.1 ∧ ly_fr cst [19969, 19970, 19971, 19972, 19973, 19974, 19975, 19976, 20017] h0 r_9.2.1 ∧ (ly_hv cst r_9.2.1 19969 0 = some 0 ∧ qa xk.toInt xy.toInt xs.toInt (sw kd vl t) w_9.toInt (pQua X xk.toInt (dz xk.toInt (sw kd vl t)) xy.toInt xs.toInt))) (some (.int v_9), h5, 0, 0) := fun h5 v_9 hv x1_9 x2_9 => ⟨v_9, rfl, rfl, rfl, x1_9, ly_fr_tr F1_9 (hp_sub2 rfl x2_9), x2_9 _ _ _ rfl rk9, fun o => absurd ok_9 o, fun _ => ⟨fun z_9 => absurd z_9 nz, fun _ => hv⟩⟩
    refine rk2 c hM_9 (by omega) rhy xk.toInt xy.toInt xs.toInt (sw kd vl t) w_9 ew bk bk' bz8 bz9 bs bs' dr'.1 dr'.2 kd' m0_9 m1_9 m2_9 m3_9 (fun l3 h3 z0 z1 z2 z3 e0_9 e1_9 e2_9 e3_9 v1_9 v2 v3 o0_9 o1 o2 o3_9 => ?_)
    have F3 : ly_fr cst [19969, 19970, 19971, 19972, 19973, 19974, 19975, 19976, 20017] h0 h3 := ly_fr_tr F1_9 (hp_sub2 rfl v2)
    have R3 : rA cst h3 X := rA_k R (gk_fr F3 rfl rfl) (F3 _ _ _ rfl R.1)
    obtain ⟨r', hrun', w', s1_9, s2_9, s3_9, shy, sfr, sres⟩ := lo_run (D := D + 8) cc (by omega) v1_9 R3 x30 wd (y := xy.toInt) (s := xs.toInt) (k := xk.toInt) (d := sw kd vl t) ok1 ok2 (xk := z3) (xd := z2) (xy := z1) (xs := z0) e3_9 e2_9 e1_9 e0_9
    refine hp_call (mi := 325) (pc := 25) (tg := 284) (na := 5) (c := 78) (ci := 12) (st0 := [.int z0, .int z1, .long z2, .int z3, .ref 94]) (st := []) (av := [.int z3, .long z2, .int z1, .int z0]) hM_9 (by decide +kernel) v1_9 rfl rfl rfl (by decide) hrun' s2_9 s3_9 ?_
    rw [s1_9]
    have F4 : ly_fr cst [] r_9.2.1 r'.2.1 := ly_fr_tr v2 sfr
    rcases sres with ⟨a_9, j_9, hf, ew'⟩ | ⟨nf_9, ew'⟩
    · obtain ⟨⟨ha_9, -, ⟨hj, -⟩, -⟩, -⟩ := id hf
      have lA := (rc_ln R ha_9).2
      have R4 : rA cst r'.2.1 X := rA_f3 R3 sfr
      refine rk4 c hM_9 (by omega) shy xk.toInt xy.toInt xs.toInt (40 * (a_9 : Int) + (j_9 : Int)) w' ew' bk bk' bz8 bz9 bs bs' (by omega) (by omega) o0_9 o1 o2 o3_9 (fun l5 h5 x1_9 x2_9 x3 q0 q1_9 q2_9 q3_9 q5_9 q6_9 q7_9 q8_9 => ?_)
      exact rk_lp (D := D + 9) cc hM_9 (by omega) (rA_f3 R4 x2_9) x30 wd ok1 ok2 dr'.1 dr'.2 bz8 bz9 bs bs' (x2_9 _ _ _ rfl (F4 _ _ _ rfl kd')) ha_9 (show j_9 < 40 by omega) (fun h6 v_9 ps_9 o p1_9 p2_9 p3_9 p4_9 p5_9 p6_9 => fin_9 h6 v_9 (Or.inr ⟨a_9, j_9, hf, ps_9, o, p3_9, p5_9, p4_9, p6_9⟩) p1_9 (ly_fr_tr F4 (ly_fr_tr x2_9 p2_9))) (X.length + 1) h5 l5 [] 0 (by show X.length - 0 < X.length + 1; omega) (Nat.zero_le _) x1_9 (ly_fr_rf h5) mbs_0 (fun i_9 hi_9 => absurd hi_9 (Nat.not_lt_zero _)) q0 q1_9 q2_9 q3_9 q5_9 q6_9 q7_9 q8_9
    · exact rk3 c hM_9 (by omega) shy xk.toInt xy.toInt xs.toInt w' ew' bk bk' bz8 bz9 bs bs' o0_9 o1 o2 o3_9 (fun h5 v_9 hv x1_9 x2_9 x3 => fin_9 h5 v_9 (Or.inl ⟨nf_9, hv⟩) x1_9 (ly_fr_tr F4 x2_9))
  obtain ⟨n', r_9, hgo, w_9, r1_9, r2, r3, r4⟩ := go_9
  simp only [Nat.zero_add] at r2 r3
  exact ⟨r_9, Or.inr ⟨M_9, n', hM_9, hl, hgo⟩, w_9, r1_9, r2, r3, r4⟩
