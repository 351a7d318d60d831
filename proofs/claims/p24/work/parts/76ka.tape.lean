/-! PRINTED by wip/p2/hp_tape.py: the tape: feed of class and reference, exactly -/
theorem kt0_k : hp_chk 23 0 1 [(0, (-2147483648), 2147483647)] [] [(0, .inr (.inr (.inl (some 17)))), (1, .inl (0, [(0, 1)]))] [] [] [] 2 [(3, ([], 1, [(0, (-2147483648), 2147483647)], [], [(0, .inr (.inr (.inl (some 17)))), (1, .inl (0, [(0, 1)])), (2, .inl (24, []))], [], []))] [] = true := by decide +kernel
theorem kt0 {cst : am_K} {strs : List Nat} {Φ : am_Q → Prop} {D : Nat} {M : am_M} {h : am_H} {l : am_L} (c : hp_C cst strs D) (hM : m_P[23]? = some M) (hD : (2 : Int) ≤ (D : Int) + 1) (hy : ly_hy m_tt ly_TH h) (v : Int) (b0 : (-2147483648) ≤ v) (t0 : v ≤ 2147483647) (l0 : hp_a l 0 17) (l1 : hp_i l 1 (v)) (e0 : ∀ (l' : am_L) (h' : am_H), ly_hy m_tt ly_TH h' → ly_fr cst [] h h' → h.length ≤ h'.length → hp_a l' 0 17 → hp_i l' 1 (v) → hp_i l' 2 24 → hp_F cst strs Φ D M 3 l' [] h') : hp_F cst strs Φ D M 0 l [] h := by
  refine hp_arc c hM kt0_k hD [v] rfl hy (hp_Bc (z := v) rfl b0 t0 hp_Bn) hp_Fn hp_Kn (hp_La l0 (hp_Li (z := (0 + (1 * v + 0))) l1 rfl (by omega) hp_Ln)) trivial ?_ ?_
  · intro p hp ys l' st' h' hys a1 a2 a3 gZ gL gS
    rcases List.mem_cons.mp hp with rfl | hp
    · obtain rfl := hp_y0 hys
      cases hp_gSn gS
      exact e0 l' h' a1 a2 a3 (hp_gLa gL (List.mem_of_getElem? (i := 0) rfl) (by decide)) (hp_gLi (z := (0 + (1 * v + 0))) gL (List.mem_of_getElem? (i := 1) rfl) rfl (by omega)) (hp_gLi (z := (24 + 0)) gL (List.mem_of_getElem? (i := 2) rfl) rfl (by omega))
    cases hp
  · intro p hp ys v h' hys a1 a2 a3 gZ gS
    cases hp
theorem kt1_k : hp_chk 23 3 3 [(0, (-2147483648), 2147483647), (1, 0, 24), (2, 0, 1199)] [] [(0, .inr (.inr (.inl (some 17)))), (1, .inl (0, [(0, 1)])), (2, .inl (0, [(1, 1)]))] [] [(257, (0, []), (0, [(2, 1)]))] [] 2 [(27, ([], 3, [(0, (-2147483648), 2147483647), (1, 0, 24), (2, 0, 1199)], [], [(0, .inr (.inr (.inl (some 17)))), (1, .inl (0, [(0, 1)])), (2, .inl (0, [(1, 1)]))], [.inl (0, [(1, 1)]), .inl (0, [(0, 1)]), .inl (0, [(2, 1)]), .inr (.inr (.inl (some 18)))], [(257, (0, []), (0, [(2, 1)]))]))] [] = true := by decide +kernel
theorem kt1 {cst : am_K} {strs : List Nat} {Φ : am_Q → Prop} {D : Nat} {M : am_M} {h : am_H} {l : am_L} (c : hp_C cst strs D) (hM : m_P[23]? = some M) (hD : (2 : Int) ≤ (D : Int) + 1) (hy : ly_hy m_tt ly_TH h) (v s n : Int) (b0 : (-2147483648) ≤ v) (t0 : v ≤ 2147483647) (b1 : 0 ≤ s) (t1 : s ≤ 24) (b2 : 0 ≤ n) (t2 : n ≤ 1199) (k0 : ly_hv cst h 257 0 = some (n)) (l0 : hp_a l 0 17) (l1 : hp_i l 1 (v)) (l2 : hp_i l 2 (s)) (e0 : ∀ (l' : am_L) (h' : am_H) (y0 : Int32) (y1 : Int32) (y2 : Int32), y0.toInt = (s) → y1.toInt = (v) → y2.toInt = (n) → ly_hy m_tt ly_TH h' → ly_fr cst [] h h' → h.length ≤ h'.length → ly_hv cst h' 257 0 = some (n) → hp_a l' 0 17 → hp_i l' 1 (v) → hp_i l' 2 (s) → hp_F cst strs Φ D M 27 l' [.int y0, .int y1, .int y2, .ref 18] h') : hp_F cst strs Φ D M 3 l [] h := by
  refine hp_arc c hM kt1_k hD [v, s, n] rfl hy (hp_Bc (z := v) rfl b0 t0 (hp_Bc (z := s) rfl b1 t1 (hp_Bc (z := n) rfl b2 t2 hp_Bn))) hp_Fn (hp_Kc (zi := (0 + 0)) (zv := (0 + (1 * n + 0))) k0 rfl rfl (by omega) (by omega) hp_Kn) (hp_La l0 (hp_Li (z := (0 + (1 * v + 0))) l1 rfl (by omega) (hp_Li (z := (0 + (1 * s + 0))) l2 rfl (by omega) hp_Ln))) trivial ?_ ?_
  · intro p hp ys l' st' h' hys a1 a2 a3 gZ gL gS
    rcases List.mem_cons.mp hp with rfl | hp
    · obtain rfl := hp_y0 hys
      obtain ⟨y0, t0, rfl, q0, g0⟩ := hp_gSi (z := (0 + (1 * s + 0))) gS rfl
      obtain ⟨y1, t1, rfl, q1, g1⟩ := hp_gSi (z := (0 + (1 * v + 0))) g0 rfl
      obtain ⟨y2, t2, rfl, q2, g2⟩ := hp_gSi (z := (0 + (1 * n + 0))) g1 rfl
      obtain ⟨t3, rfl, g3⟩ := hp_gSa g2 (by decide)
      cases hp_gSn g3
      exact e0 l' h' y0 y1 y2 (by omega) (by omega) (by omega) a1 a2 a3 (hp_gK (zi := (0 + 0)) (zv := (0 + (1 * n + 0))) gZ.2.2.2 (List.mem_of_getElem? (i := 0) rfl) rfl rfl (by omega) (by omega)) (hp_gLa gL (List.mem_of_getElem? (i := 0) rfl) (by decide)) (hp_gLi (z := (0 + (1 * v + 0))) gL (List.mem_of_getElem? (i := 1) rfl) rfl (by omega)) (hp_gLi (z := (0 + (1 * s + 0))) gL (List.mem_of_getElem? (i := 2) rfl) rfl (by omega))
    cases hp
  · intro p hp ys v h' hys a1 a2 a3 gZ gS
    cases hp
theorem kt2_k : hp_chk 23 28 5 [(0, (-2147483648), 2147483647), (1, (-2147483648), 2147483647), (2, 0, 24), (3, 0, 1199), (4, 0, 255)] [] [(0, .inr (.inr (.inl (some 17)))), (1, .inl (0, [(0, 1)])), (2, .inl (0, [(2, 1)]))] [.inl (0, [(1, 1)]), .inl (0, [(3, 1)]), .inr (.inr (.inl (some 18)))] [(257, (0, []), (0, [(3, 1)])), (63008, (0, [(1, 1)]), (0, [(4, 1)]))] [] 2 [(32, ([], 5, [(0, (-2147483648), 2147483647), (1, (-2147483648), 2147483647), (2, 0, 24), (3, 0, 1199), (4, 0, 255)], [], [(0, .inr (.inr (.inl (some 17)))), (1, .inl (0, [(0, 1)])), (2, .inl (0, [(2, 1)]))], [.inl (0, [(4, 1)]), .inl (0, [(3, 1)]), .inr (.inr (.inl (some 18)))], [(257, (0, []), (0, [(3, 1)]))]))] [] = true := by decide +kernel
theorem kt2 {cst : am_K} {strs : List Nat} {Φ : am_Q → Prop} {D : Nat} {M : am_M} {h : am_H} {l : am_L} (c : hp_C cst strs D) (hM : m_P[23]? = some M) (hD : (2 : Int) ≤ (D : Int) + 1) (hy : ly_hy m_tt ly_TH h) (v x s n b : Int) (x0 : Int32) (x1 : Int32) (hx0 : x0.toInt = (x)) (hx1 : x1.toInt = (n)) (b0 : (-2147483648) ≤ v) (t0 : v ≤ 2147483647) (b1 : (-2147483648) ≤ x) (t1 : x ≤ 2147483647) (b2 : 0 ≤ s) (t2 : s ≤ 24) (b3 : 0 ≤ n) (t3 : n ≤ 1199) (b4 : 0 ≤ b) (t4 : b ≤ 255) (k0 : ly_hv cst h 257 0 = some (n)) (k1 : ly_hv cst h 63008 (x) = some (b)) (l0 : hp_a l 0 17) (l1 : hp_i l 1 (v)) (l2 : hp_i l 2 (s)) (e0 : ∀ (l' : am_L) (h' : am_H) (y0 : Int32) (y1 : Int32), y0.toInt = (b) → y1.toInt = (n) → ly_hy m_tt ly_TH h' → ly_fr cst [] h h' → h.length ≤ h'.length → ly_hv cst h' 257 0 = some (n) → hp_a l' 0 17 → hp_i l' 1 (v) → hp_i l' 2 (s) → hp_F cst strs Φ D M 32 l' [.int y0, .int y1, .ref 18] h') : hp_F cst strs Φ D M 28 l [.int x0, .int x1, .ref 18] h := by
  refine hp_arc c hM kt2_k hD [v, x, s, n, b] rfl hy (hp_Bc (z := v) rfl b0 t0 (hp_Bc (z := x) rfl b1 t1 (hp_Bc (z := s) rfl b2 t2 (hp_Bc (z := n) rfl b3 t3 (hp_Bc (z := b) rfl b4 t4 hp_Bn))))) hp_Fn (hp_Kc (zi := (0 + 0)) (zv := (0 + (1 * n + 0))) k0 rfl rfl (by omega) (by omega) (hp_Kc (zi := (0 + (1 * x + 0))) (zv := (0 + (1 * b + 0))) k1 rfl rfl (by omega) (by omega) hp_Kn)) (hp_La l0 (hp_Li (z := (0 + (1 * v + 0))) l1 rfl (by omega) (hp_Li (z := (0 + (1 * s + 0))) l2 rfl (by omega) hp_Ln))) (hp_Si (z := (0 + (1 * x + 0))) rfl (by omega) (hp_Si (z := (0 + (1 * n + 0))) rfl (by omega) (hp_Sa trivial))) ?_ ?_
  · intro p hp ys l' st' h' hys a1 a2 a3 gZ gL gS
    rcases List.mem_cons.mp hp with rfl | hp
    · obtain rfl := hp_y0 hys
      obtain ⟨y0, t0, rfl, q0, g0⟩ := hp_gSi (z := (0 + (1 * b + 0))) gS rfl
      obtain ⟨y1, t1, rfl, q1, g1⟩ := hp_gSi (z := (0 + (1 * n + 0))) g0 rfl
      obtain ⟨t2, rfl, g2⟩ := hp_gSa g1 (by decide)
      cases hp_gSn g2
      exact e0 l' h' y0 y1 (by omega) (by omega) a1 a2 a3 (hp_gK (zi := (0 + 0)) (zv := (0 + (1 * n + 0))) gZ.2.2.2 (List.mem_of_getElem? (i := 0) rfl) rfl rfl (by omega) (by omega)) (hp_gLa gL (List.mem_of_getElem? (i := 0) rfl) (by decide)) (hp_gLi (z := (0 + (1 * v + 0))) gL (List.mem_of_getElem? (i := 1) rfl) rfl (by omega)) (hp_gLi (z := (0 + (1 * s + 0))) gL (List.mem_of_getElem? (i := 2) rfl) rfl (by omega))
    cases hp
  · intro p hp ys v h' hys a1 a2 a3 gZ gS
    cases hp
theorem kt3_k : hp_chk 23 33 3 [(0, (-2147483648), 2147483647), (1, 0, 24), (2, 0, 1199)] [] [(0, .inr (.inr (.inl (some 17)))), (1, .inl (0, [(0, 1)])), (2, .inl (0, [(1, 1)]))] [] [(257, (0, []), (0, [(2, 1)]))] [257] 2 [(3, ([], 3, [(0, (-2147483648), 2147483647), (1, 0, 24), (2, 0, 1199)], [], [(0, .inr (.inr (.inl (some 17)))), (1, .inl (0, [(0, 1)])), (2, .inl ((-8), [(1, 1)]))], [], [(257, (0, []), (1, [(2, 1)]))]))] [] = true := by decide +kernel
theorem kt3 {cst : am_K} {strs : List Nat} {Φ : am_Q → Prop} {D : Nat} {M : am_M} {h : am_H} {l : am_L} (c : hp_C cst strs D) (hM : m_P[23]? = some M) (hD : (2 : Int) ≤ (D : Int) + 1) (hy : ly_hy m_tt ly_TH h) (v s n : Int) (b0 : (-2147483648) ≤ v) (t0 : v ≤ 2147483647) (b1 : 0 ≤ s) (t1 : s ≤ 24) (b2 : 0 ≤ n) (t2 : n ≤ 1199) (k0 : ly_hv cst h 257 0 = some (n)) (l0 : hp_a l 0 17) (l1 : hp_i l 1 (v)) (l2 : hp_i l 2 (s)) (e0 : ∀ (l' : am_L) (h' : am_H), ly_hy m_tt ly_TH h' → ly_fr cst [257] h h' → h.length ≤ h'.length → ly_hv cst h' 257 0 = some (n + 1) → hp_a l' 0 17 → hp_i l' 1 (v) → hp_i l' 2 (s - 8) → hp_F cst strs Φ D M 3 l' [] h') : hp_F cst strs Φ D M 33 l [] h := by
  refine hp_arc c hM kt3_k hD [v, s, n] rfl hy (hp_Bc (z := v) rfl b0 t0 (hp_Bc (z := s) rfl b1 t1 (hp_Bc (z := n) rfl b2 t2 hp_Bn))) hp_Fn (hp_Kc (zi := (0 + 0)) (zv := (0 + (1 * n + 0))) k0 rfl rfl (by omega) (by omega) hp_Kn) (hp_La l0 (hp_Li (z := (0 + (1 * v + 0))) l1 rfl (by omega) (hp_Li (z := (0 + (1 * s + 0))) l2 rfl (by omega) hp_Ln))) trivial ?_ ?_
  · intro p hp ys l' st' h' hys a1 a2 a3 gZ gL gS
    rcases List.mem_cons.mp hp with rfl | hp
    · obtain rfl := hp_y0 hys
      cases hp_gSn gS
      exact e0 l' h' a1 a2 a3 (hp_gK (zi := (0 + 0)) (zv := (1 + (1 * n + 0))) gZ.2.2.2 (List.mem_of_getElem? (i := 0) rfl) rfl rfl (by omega) (by omega)) (hp_gLa gL (List.mem_of_getElem? (i := 0) rfl) (by decide)) (hp_gLi (z := (0 + (1 * v + 0))) gL (List.mem_of_getElem? (i := 1) rfl) rfl (by omega)) (hp_gLi (z := ((-8) + (1 * s + 0))) gL (List.mem_of_getElem? (i := 2) rfl) rfl (by omega))
    cases hp
  · intro p hp ys v h' hys a1 a2 a3 gZ gS
    cases hp
theorem kt4_k : hp_chk 23 3 2 [(0, (-2147483648), 2147483647), (1, 0, 1200)] [] [(0, .inr (.inr (.inl (some 17)))), (1, .inl (0, [(0, 1)])), (2, .inl ((-8), []))] [] [(257, (0, []), (0, [(1, 1)]))] [] 2 [] [([], 2, [(0, (-2147483648), 2147483647), (1, 0, 1200)], [], [], [], [(257, (0, []), (0, [(1, 1)]))])] = true := by decide +kernel
theorem kt4 {cst : am_K} {strs : List Nat} {Φ : am_Q → Prop} {D : Nat} {M : am_M} {h : am_H} {l : am_L} (c : hp_C cst strs D) (hM : m_P[23]? = some M) (hD : (2 : Int) ≤ (D : Int) + 1) (hy : ly_hy m_tt ly_TH h) (v n : Int) (b0 : (-2147483648) ≤ v) (t0 : v ≤ 2147483647) (b1 : 0 ≤ n) (t1 : n ≤ 1200) (k0 : ly_hv cst h 257 0 = some (n)) (l0 : hp_a l 0 17) (l1 : hp_i l 1 (v)) (l2 : hp_i l 2 (-8)) (r0 : ∀ (h' : am_H), ly_hy m_tt ly_TH h' → ly_fr cst [] h h' → h.length ≤ h'.length → ly_hv cst h' 257 0 = some (n) → Φ (none, h', 0, 0)) : hp_F cst strs Φ D M 3 l [] h := by
  refine hp_arc c hM kt4_k hD [v, n] rfl hy (hp_Bc (z := v) rfl b0 t0 (hp_Bc (z := n) rfl b1 t1 hp_Bn)) hp_Fn (hp_Kc (zi := (0 + 0)) (zv := (0 + (1 * n + 0))) k0 rfl rfl (by omega) (by omega) hp_Kn) (hp_La l0 (hp_Li (z := (0 + (1 * v + 0))) l1 rfl (by omega) (hp_Li (z := ((-8) + 0)) l2 rfl (by omega) hp_Ln))) trivial ?_ ?_
  · intro p hp ys l' st' h' hys a1 a2 a3 gZ gL gS
    cases hp
  · intro p hp ys v h' hys a1 a2 a3 gZ gS
    rcases List.mem_cons.mp hp with rfl | hp
    · obtain rfl := hp_y0 hys
      have sv := hp_gSn gS
      cases v with
      | some w => cases sv
      | none =>
        exact r0 h' a1 a2 a3 (hp_gK (zi := (0 + 0)) (zv := (0 + (1 * n + 0))) gZ.2.2.2 (List.mem_of_getElem? (i := 0) rfl) rfl rfl (by omega) (by omega))
    cases hp
theorem ku0_k : hp_chk 21 0 6 [(0, (-2147483648), 2147483647), (1, (-2147483648), 2147483647), (2, (-2147483648), 2147483647), (3, (-2147483648), 2147483647), (4, (-2147483648), 2147483647), (5, 1181, 1200)] [] [(0, .inr (.inr (.inl (some 16)))), (1, .inl (0, [(0, 1)])), (2, .inl (0, [(1, 1)])), (3, .inl (0, [(2, 1)])), (4, .inl (0, [(3, 1)])), (5, .inl (0, [(4, 1)]))] [] [(257, (0, []), (0, [(5, 1)]))] [] 4 [] [([], 6, [(0, (-2147483648), 2147483647), (1, (-2147483648), 2147483647), (2, (-2147483648), 2147483647), (3, (-2147483648), 2147483647), (4, (-2147483648), 2147483647), (5, 1181, 1200)], [], [], [.inl ((-3), [])], [(257, (0, []), (0, [(5, 1)]))])] = true := by decide +kernel
theorem ku0 {cst : am_K} {strs : List Nat} {Φ : am_Q → Prop} {D : Nat} {M : am_M} {h : am_H} {l : am_L} (c : hp_C cst strs D) (hM : m_P[21]? = some M) (hD : (4 : Int) ≤ (D : Int) + 1) (hy : ly_hy m_tt ly_TH h) (va vb vc vd ve n : Int) (b0 : (-2147483648) ≤ va) (t0 : va ≤ 2147483647) (b1 : (-2147483648) ≤ vb) (t1 : vb ≤ 2147483647) (b2 : (-2147483648) ≤ vc) (t2 : vc ≤ 2147483647) (b3 : (-2147483648) ≤ vd) (t3 : vd ≤ 2147483647) (b4 : (-2147483648) ≤ ve) (t4 : ve ≤ 2147483647) (b5 : 1181 ≤ n) (t5 : n ≤ 1200) (k0 : ly_hv cst h 257 0 = some (n)) (l0 : hp_a l 0 16) (l1 : hp_i l 1 (va)) (l2 : hp_i l 2 (vb)) (l3 : hp_i l 3 (vc)) (l4 : hp_i l 4 (vd)) (l5 : hp_i l 5 (ve)) (r0 : ∀ (h' : am_H) (y0 : Int32), y0.toInt = (-3) → ly_hy m_tt ly_TH h' → ly_fr cst [] h h' → h.length ≤ h'.length → ly_hv cst h' 257 0 = some (n) → Φ (some (.int y0), h', 0, 0)) : hp_F cst strs Φ D M 0 l [] h := by
  refine hp_arc c hM ku0_k hD [va, vb, vc, vd, ve, n] rfl hy (hp_Bc (z := va) rfl b0 t0 (hp_Bc (z := vb) rfl b1 t1 (hp_Bc (z := vc) rfl b2 t2 (hp_Bc (z := vd) rfl b3 t3 (hp_Bc (z := ve) rfl b4 t4 (hp_Bc (z := n) rfl b5 t5 hp_Bn)))))) hp_Fn (hp_Kc (zi := (0 + 0)) (zv := (0 + (1 * n + 0))) k0 rfl rfl (by omega) (by omega) hp_Kn) (hp_La l0 (hp_Li (z := (0 + (1 * va + 0))) l1 rfl (by omega) (hp_Li (z := (0 + (1 * vb + 0))) l2 rfl (by omega) (hp_Li (z := (0 + (1 * vc + 0))) l3 rfl (by omega) (hp_Li (z := (0 + (1 * vd + 0))) l4 rfl (by omega) (hp_Li (z := (0 + (1 * ve + 0))) l5 rfl (by omega) hp_Ln)))))) trivial ?_ ?_
  · intro p hp ys l' st' h' hys a1 a2 a3 gZ gL gS
    cases hp
  · intro p hp ys v h' hys a1 a2 a3 gZ gS
    rcases List.mem_cons.mp hp with rfl | hp
    · obtain rfl := hp_y0 hys
      cases v with
      | none => cases gS
      | some w =>
        obtain ⟨y0, t0, s0, q0, -⟩ := hp_gSi (z := ((-3) + 0)) gS rfl
        cases s0
        exact r0 h' y0 (by omega) a1 a2 a3 (hp_gK (zi := (0 + 0)) (zv := (0 + (1 * n + 0))) gZ.2.2.2 (List.mem_of_getElem? (i := 0) rfl) rfl rfl (by omega) (by omega))
    cases hp
theorem kv0_k : hp_chk 21 0 6 [(0, (-2147483648), 2147483647), (1, (-2147483648), 2147483647), (2, (-2147483648), 2147483647), (3, (-2147483648), 2147483647), (4, (-2147483648), 2147483647), (5, 0, 1180)] [] [(0, .inr (.inr (.inl (some 16)))), (1, .inl (0, [(0, 1)])), (2, .inl (0, [(1, 1)])), (3, .inl (0, [(2, 1)])), (4, .inl (0, [(3, 1)])), (5, .inl (0, [(4, 1)]))] [] [(257, (0, []), (0, [(5, 1)]))] [] 4 [(20, ([], 6, [(0, (-2147483648), 2147483647), (1, (-2147483648), 2147483647), (2, (-2147483648), 2147483647), (3, (-2147483648), 2147483647), (4, (-2147483648), 2147483647), (5, 0, 1180)], [], [(0, .inr (.inr (.inl (some 16)))), (1, .inl (0, [(0, 1)])), (2, .inl (0, [(1, 1)])), (3, .inl (0, [(2, 1)])), (4, .inl (0, [(3, 1)])), (5, .inl (0, [(4, 1)]))], [.inl (0, [(0, 1)]), .inr (.inr (.inl (some 17)))], [(257, (0, []), (0, [(5, 1)]))]))] [] = true := by decide +kernel
theorem kv0 {cst : am_K} {strs : List Nat} {Φ : am_Q → Prop} {D : Nat} {M : am_M} {h : am_H} {l : am_L} (c : hp_C cst strs D) (hM : m_P[21]? = some M) (hD : (4 : Int) ≤ (D : Int) + 1) (hy : ly_hy m_tt ly_TH h) (va vb vc vd ve n : Int) (b0 : (-2147483648) ≤ va) (t0 : va ≤ 2147483647) (b1 : (-2147483648) ≤ vb) (t1 : vb ≤ 2147483647) (b2 : (-2147483648) ≤ vc) (t2 : vc ≤ 2147483647) (b3 : (-2147483648) ≤ vd) (t3 : vd ≤ 2147483647) (b4 : (-2147483648) ≤ ve) (t4 : ve ≤ 2147483647) (b5 : 0 ≤ n) (t5 : n ≤ 1180) (k0 : ly_hv cst h 257 0 = some (n)) (l0 : hp_a l 0 16) (l1 : hp_i l 1 (va)) (l2 : hp_i l 2 (vb)) (l3 : hp_i l 3 (vc)) (l4 : hp_i l 4 (vd)) (l5 : hp_i l 5 (ve)) (e0 : ∀ (l' : am_L) (h' : am_H) (y0 : Int32), y0.toInt = (va) → ly_hy m_tt ly_TH h' → ly_fr cst [] h h' → h.length ≤ h'.length → ly_hv cst h' 257 0 = some (n) → hp_a l' 0 16 → hp_i l' 1 (va) → hp_i l' 2 (vb) → hp_i l' 3 (vc) → hp_i l' 4 (vd) → hp_i l' 5 (ve) → hp_F cst strs Φ D M 20 l' [.int y0, .ref 17] h') : hp_F cst strs Φ D M 0 l [] h := by
  refine hp_arc c hM kv0_k hD [va, vb, vc, vd, ve, n] rfl hy (hp_Bc (z := va) rfl b0 t0 (hp_Bc (z := vb) rfl b1 t1 (hp_Bc (z := vc) rfl b2 t2 (hp_Bc (z := vd) rfl b3 t3 (hp_Bc (z := ve) rfl b4 t4 (hp_Bc (z := n) rfl b5 t5 hp_Bn)))))) hp_Fn (hp_Kc (zi := (0 + 0)) (zv := (0 + (1 * n + 0))) k0 rfl rfl (by omega) (by omega) hp_Kn) (hp_La l0 (hp_Li (z := (0 + (1 * va + 0))) l1 rfl (by omega) (hp_Li (z := (0 + (1 * vb + 0))) l2 rfl (by omega) (hp_Li (z := (0 + (1 * vc + 0))) l3 rfl (by omega) (hp_Li (z := (0 + (1 * vd + 0))) l4 rfl (by omega) (hp_Li (z := (0 + (1 * ve + 0))) l5 rfl (by omega) hp_Ln)))))) trivial ?_ ?_
  · intro p hp ys l' st' h' hys a1 a2 a3 gZ gL gS
    rcases List.mem_cons.mp hp with rfl | hp
    · obtain rfl := hp_y0 hys
      obtain ⟨y0, t0, rfl, q0, g0⟩ := hp_gSi (z := (0 + (1 * va + 0))) gS rfl
      obtain ⟨t1, rfl, g1⟩ := hp_gSa g0 (by decide)
      cases hp_gSn g1
      exact e0 l' h' y0 (by omega) a1 a2 a3 (hp_gK (zi := (0 + 0)) (zv := (0 + (1 * n + 0))) gZ.2.2.2 (List.mem_of_getElem? (i := 0) rfl) rfl rfl (by omega) (by omega)) (hp_gLa gL (List.mem_of_getElem? (i := 0) rfl) (by decide)) (hp_gLi (z := (0 + (1 * va + 0))) gL (List.mem_of_getElem? (i := 1) rfl) rfl (by omega)) (hp_gLi (z := (0 + (1 * vb + 0))) gL (List.mem_of_getElem? (i := 2) rfl) rfl (by omega)) (hp_gLi (z := (0 + (1 * vc + 0))) gL (List.mem_of_getElem? (i := 3) rfl) rfl (by omega)) (hp_gLi (z := (0 + (1 * vd + 0))) gL (List.mem_of_getElem? (i := 4) rfl) rfl (by omega)) (hp_gLi (z := (0 + (1 * ve + 0))) gL (List.mem_of_getElem? (i := 5) rfl) rfl (by omega))
    cases hp
  · intro p hp ys v h' hys a1 a2 a3 gZ gS
    cases hp
theorem kv1_k : hp_chk 21 23 6 [(0, (-2147483648), 2147483647), (1, (-2147483648), 2147483647), (2, (-2147483648), 2147483647), (3, (-2147483648), 2147483647), (4, (-2147483648), 2147483647), (5, 0, 1200)] [] [(0, .inr (.inr (.inl (some 16)))), (1, .inl (0, [(0, 1)])), (2, .inl (0, [(1, 1)])), (3, .inl (0, [(2, 1)])), (4, .inl (0, [(3, 1)])), (5, .inl (0, [(4, 1)]))] [] [(257, (0, []), (0, [(5, 1)]))] [] 4 [(28, ([], 6, [(0, (-2147483648), 2147483647), (1, (-2147483648), 2147483647), (2, (-2147483648), 2147483647), (3, (-2147483648), 2147483647), (4, (-2147483648), 2147483647), (5, 0, 1200)], [], [(0, .inr (.inr (.inl (some 16)))), (1, .inl (0, [(0, 1)])), (2, .inl (0, [(1, 1)])), (3, .inl (0, [(2, 1)])), (4, .inl (0, [(3, 1)])), (5, .inl (0, [(4, 1)]))], [.inl (0, [(1, 1)]), .inr (.inr (.inl (some 17)))], [(257, (0, []), (0, [(5, 1)]))]))] [] = true := by decide +kernel
theorem kv1 {cst : am_K} {strs : List Nat} {Φ : am_Q → Prop} {D : Nat} {M : am_M} {h : am_H} {l : am_L} (c : hp_C cst strs D) (hM : m_P[21]? = some M) (hD : (4 : Int) ≤ (D : Int) + 1) (hy : ly_hy m_tt ly_TH h) (va vb vc vd ve n : Int) (b0 : (-2147483648) ≤ va) (t0 : va ≤ 2147483647) (b1 : (-2147483648) ≤ vb) (t1 : vb ≤ 2147483647) (b2 : (-2147483648) ≤ vc) (t2 : vc ≤ 2147483647) (b3 : (-2147483648) ≤ vd) (t3 : vd ≤ 2147483647) (b4 : (-2147483648) ≤ ve) (t4 : ve ≤ 2147483647) (b5 : 0 ≤ n) (t5 : n ≤ 1200) (k0 : ly_hv cst h 257 0 = some (n)) (l0 : hp_a l 0 16) (l1 : hp_i l 1 (va)) (l2 : hp_i l 2 (vb)) (l3 : hp_i l 3 (vc)) (l4 : hp_i l 4 (vd)) (l5 : hp_i l 5 (ve)) (e0 : ∀ (l' : am_L) (h' : am_H) (y0 : Int32), y0.toInt = (vb) → ly_hy m_tt ly_TH h' → ly_fr cst [] h h' → h.length ≤ h'.length → ly_hv cst h' 257 0 = some (n) → hp_a l' 0 16 → hp_i l' 1 (va) → hp_i l' 2 (vb) → hp_i l' 3 (vc) → hp_i l' 4 (vd) → hp_i l' 5 (ve) → hp_F cst strs Φ D M 28 l' [.int y0, .ref 17] h') : hp_F cst strs Φ D M 23 l [] h := by
  refine hp_arc c hM kv1_k hD [va, vb, vc, vd, ve, n] rfl hy (hp_Bc (z := va) rfl b0 t0 (hp_Bc (z := vb) rfl b1 t1 (hp_Bc (z := vc) rfl b2 t2 (hp_Bc (z := vd) rfl b3 t3 (hp_Bc (z := ve) rfl b4 t4 (hp_Bc (z := n) rfl b5 t5 hp_Bn)))))) hp_Fn (hp_Kc (zi := (0 + 0)) (zv := (0 + (1 * n + 0))) k0 rfl rfl (by omega) (by omega) hp_Kn) (hp_La l0 (hp_Li (z := (0 + (1 * va + 0))) l1 rfl (by omega) (hp_Li (z := (0 + (1 * vb + 0))) l2 rfl (by omega) (hp_Li (z := (0 + (1 * vc + 0))) l3 rfl (by omega) (hp_Li (z := (0 + (1 * vd + 0))) l4 rfl (by omega) (hp_Li (z := (0 + (1 * ve + 0))) l5 rfl (by omega) hp_Ln)))))) trivial ?_ ?_
  · intro p hp ys l' st' h' hys a1 a2 a3 gZ gL gS
    rcases List.mem_cons.mp hp with rfl | hp
    · obtain rfl := hp_y0 hys
      obtain ⟨y0, t0, rfl, q0, g0⟩ := hp_gSi (z := (0 + (1 * vb + 0))) gS rfl
      obtain ⟨t1, rfl, g1⟩ := hp_gSa g0 (by decide)
      cases hp_gSn g1
      exact e0 l' h' y0 (by omega) a1 a2 a3 (hp_gK (zi := (0 + 0)) (zv := (0 + (1 * n + 0))) gZ.2.2.2 (List.mem_of_getElem? (i := 0) rfl) rfl rfl (by omega) (by omega)) (hp_gLa gL (List.mem_of_getElem? (i := 0) rfl) (by decide)) (hp_gLi (z := (0 + (1 * va + 0))) gL (List.mem_of_getElem? (i := 1) rfl) rfl (by omega)) (hp_gLi (z := (0 + (1 * vb + 0))) gL (List.mem_of_getElem? (i := 2) rfl) rfl (by omega)) (hp_gLi (z := (0 + (1 * vc + 0))) gL (List.mem_of_getElem? (i := 3) rfl) rfl (by omega)) (hp_gLi (z := (0 + (1 * vd + 0))) gL (List.mem_of_getElem? (i := 4) rfl) rfl (by omega)) (hp_gLi (z := (0 + (1 * ve + 0))) gL (List.mem_of_getElem? (i := 5) rfl) rfl (by omega))
    cases hp
  · intro p hp ys v h' hys a1 a2 a3 gZ gS
    cases hp
theorem kv2_k : hp_chk 21 31 6 [(0, (-2147483648), 2147483647), (1, (-2147483648), 2147483647), (2, (-2147483648), 2147483647), (3, (-2147483648), 2147483647), (4, (-2147483648), 2147483647), (5, 0, 1200)] [] [(0, .inr (.inr (.inl (some 16)))), (1, .inl (0, [(0, 1)])), (2, .inl (0, [(1, 1)])), (3, .inl (0, [(2, 1)])), (4, .inl (0, [(3, 1)])), (5, .inl (0, [(4, 1)]))] [] [(257, (0, []), (0, [(5, 1)]))] [] 4 [(36, ([], 6, [(0, (-2147483648), 2147483647), (1, (-2147483648), 2147483647), (2, (-2147483648), 2147483647), (3, (-2147483648), 2147483647), (4, (-2147483648), 2147483647), (5, 0, 1200)], [], [(0, .inr (.inr (.inl (some 16)))), (1, .inl (0, [(0, 1)])), (2, .inl (0, [(1, 1)])), (3, .inl (0, [(2, 1)])), (4, .inl (0, [(3, 1)])), (5, .inl (0, [(4, 1)]))], [.inl (0, [(2, 1)]), .inr (.inr (.inl (some 17)))], [(257, (0, []), (0, [(5, 1)]))]))] [] = true := by decide +kernel
theorem kv2 {cst : am_K} {strs : List Nat} {Φ : am_Q → Prop} {D : Nat} {M : am_M} {h : am_H} {l : am_L} (c : hp_C cst strs D) (hM : m_P[21]? = some M) (hD : (4 : Int) ≤ (D : Int) + 1) (hy : ly_hy m_tt ly_TH h) (va vb vc vd ve n : Int) (b0 : (-2147483648) ≤ va) (t0 : va ≤ 2147483647) (b1 : (-2147483648) ≤ vb) (t1 : vb ≤ 2147483647) (b2 : (-2147483648) ≤ vc) (t2 : vc ≤ 2147483647) (b3 : (-2147483648) ≤ vd) (t3 : vd ≤ 2147483647) (b4 : (-2147483648) ≤ ve) (t4 : ve ≤ 2147483647) (b5 : 0 ≤ n) (t5 : n ≤ 1200) (k0 : ly_hv cst h 257 0 = some (n)) (l0 : hp_a l 0 16) (l1 : hp_i l 1 (va)) (l2 : hp_i l 2 (vb)) (l3 : hp_i l 3 (vc)) (l4 : hp_i l 4 (vd)) (l5 : hp_i l 5 (ve)) (e0 : ∀ (l' : am_L) (h' : am_H) (y0 : Int32), y0.toInt = (vc) → ly_hy m_tt ly_TH h' → ly_fr cst [] h h' → h.length ≤ h'.length → ly_hv cst h' 257 0 = some (n) → hp_a l' 0 16 → hp_i l' 1 (va) → hp_i l' 2 (vb) → hp_i l' 3 (vc) → hp_i l' 4 (vd) → hp_i l' 5 (ve) → hp_F cst strs Φ D M 36 l' [.int y0, .ref 17] h') : hp_F cst strs Φ D M 31 l [] h := by
  refine hp_arc c hM kv2_k hD [va, vb, vc, vd, ve, n] rfl hy (hp_Bc (z := va) rfl b0 t0 (hp_Bc (z := vb) rfl b1 t1 (hp_Bc (z := vc) rfl b2 t2 (hp_Bc (z := vd) rfl b3 t3 (hp_Bc (z := ve) rfl b4 t4 (hp_Bc (z := n) rfl b5 t5 hp_Bn)))))) hp_Fn (hp_Kc (zi := (0 + 0)) (zv := (0 + (1 * n + 0))) k0 rfl rfl (by omega) (by omega) hp_Kn) (hp_La l0 (hp_Li (z := (0 + (1 * va + 0))) l1 rfl (by omega) (hp_Li (z := (0 + (1 * vb + 0))) l2 rfl (by omega) (hp_Li (z := (0 + (1 * vc + 0))) l3 rfl (by omega) (hp_Li (z := (0 + (1 * vd + 0))) l4 rfl (by omega) (hp_Li (z := (0 + (1 * ve + 0))) l5 rfl (by omega) hp_Ln)))))) trivial ?_ ?_
  · intro p hp ys l' st' h' hys a1 a2 a3 gZ gL gS
    rcases List.mem_cons.mp hp with rfl | hp
    · obtain rfl := hp_y0 hys
      obtain ⟨y0, t0, rfl, q0, g0⟩ := hp_gSi (z := (0 + (1 * vc + 0))) gS rfl
      obtain ⟨t1, rfl, g1⟩ := hp_gSa g0 (by decide)
      cases hp_gSn g1
      exact e0 l' h' y0 (by omega) a1 a2 a3 (hp_gK (zi := (0 + 0)) (zv := (0 + (1 * n + 0))) gZ.2.2.2 (List.mem_of_getElem? (i := 0) rfl) rfl rfl (by omega) (by omega)) (hp_gLa gL (List.mem_of_getElem? (i := 0) rfl) (by decide)) (hp_gLi (z := (0 + (1 * va + 0))) gL (List.mem_of_getElem? (i := 1) rfl) rfl (by omega)) (hp_gLi (z := (0 + (1 * vb + 0))) gL (List.mem_of_getElem? (i := 2) rfl) rfl (by omega)) (hp_gLi (z := (0 + (1 * vc + 0))) gL (List.mem_of_getElem? (i := 3) rfl) rfl (by omega)) (hp_gLi (z := (0 + (1 * vd + 0))) gL (List.mem_of_getElem? (i := 4) rfl) rfl (by omega)) (hp_gLi (z := (0 + (1 * ve + 0))) gL (List.mem_of_getElem? (i := 5) rfl) rfl (by omega))
    cases hp
  · intro p hp ys v h' hys a1 a2 a3 gZ gS
    cases hp
theorem kv3_k : hp_chk 21 39 6 [(0, (-2147483648), 2147483647), (1, (-2147483648), 2147483647), (2, (-2147483648), 2147483647), (3, (-2147483648), 2147483647), (4, (-2147483648), 2147483647), (5, 0, 1200)] [] [(0, .inr (.inr (.inl (some 16)))), (1, .inl (0, [(0, 1)])), (2, .inl (0, [(1, 1)])), (3, .inl (0, [(2, 1)])), (4, .inl (0, [(3, 1)])), (5, .inl (0, [(4, 1)]))] [] [(257, (0, []), (0, [(5, 1)]))] [] 4 [(45, ([], 6, [(0, (-2147483648), 2147483647), (1, (-2147483648), 2147483647), (2, (-2147483648), 2147483647), (3, (-2147483648), 2147483647), (4, (-2147483648), 2147483647), (5, 0, 1200)], [], [(0, .inr (.inr (.inl (some 16)))), (1, .inl (0, [(0, 1)])), (2, .inl (0, [(1, 1)])), (3, .inl (0, [(2, 1)])), (4, .inl (0, [(3, 1)])), (5, .inl (0, [(4, 1)]))], [.inl (0, [(3, 1)]), .inr (.inr (.inl (some 17)))], [(257, (0, []), (0, [(5, 1)]))]))] [] = true := by decide +kernel
theorem kv3 {cst : am_K} {strs : List Nat} {Φ : am_Q → Prop} {D : Nat} {M : am_M} {h : am_H} {l : am_L} (c : hp_C cst strs D) (hM : m_P[21]? = some M) (hD : (4 : Int) ≤ (D : Int) + 1) (hy : ly_hy m_tt ly_TH h) (va vb vc vd ve n : Int) (b0 : (-2147483648) ≤ va) (t0 : va ≤ 2147483647) (b1 : (-2147483648) ≤ vb) (t1 : vb ≤ 2147483647) (b2 : (-2147483648) ≤ vc) (t2 : vc ≤ 2147483647) (b3 : (-2147483648) ≤ vd) (t3 : vd ≤ 2147483647) (b4 : (-2147483648) ≤ ve) (t4 : ve ≤ 2147483647) (b5 : 0 ≤ n) (t5 : n ≤ 1200) (k0 : ly_hv cst h 257 0 = some (n)) (l0 : hp_a l 0 16) (l1 : hp_i l 1 (va)) (l2 : hp_i l 2 (vb)) (l3 : hp_i l 3 (vc)) (l4 : hp_i l 4 (vd)) (l5 : hp_i l 5 (ve)) (e0 : ∀ (l' : am_L) (h' : am_H) (y0 : Int32), y0.toInt = (vd) → ly_hy m_tt ly_TH h' → ly_fr cst [] h h' → h.length ≤ h'.length → ly_hv cst h' 257 0 = some (n) → hp_a l' 0 16 → hp_i l' 1 (va) → hp_i l' 2 (vb) → hp_i l' 3 (vc) → hp_i l' 4 (vd) → hp_i l' 5 (ve) → hp_F cst strs Φ D M 45 l' [.int y0, .ref 17] h') : hp_F cst strs Φ D M 39 l [] h := by
  refine hp_arc c hM kv3_k hD [va, vb, vc, vd, ve, n] rfl hy (hp_Bc (z := va) rfl b0 t0 (hp_Bc (z := vb) rfl b1 t1 (hp_Bc (z := vc) rfl b2 t2 (hp_Bc (z := vd) rfl b3 t3 (hp_Bc (z := ve) rfl b4 t4 (hp_Bc (z := n) rfl b5 t5 hp_Bn)))))) hp_Fn (hp_Kc (zi := (0 + 0)) (zv := (0 + (1 * n + 0))) k0 rfl rfl (by omega) (by omega) hp_Kn) (hp_La l0 (hp_Li (z := (0 + (1 * va + 0))) l1 rfl (by omega) (hp_Li (z := (0 + (1 * vb + 0))) l2 rfl (by omega) (hp_Li (z := (0 + (1 * vc + 0))) l3 rfl (by omega) (hp_Li (z := (0 + (1 * vd + 0))) l4 rfl (by omega) (hp_Li (z := (0 + (1 * ve + 0))) l5 rfl (by omega) hp_Ln)))))) trivial ?_ ?_
  · intro p hp ys l' st' h' hys a1 a2 a3 gZ gL gS
    rcases List.mem_cons.mp hp with rfl | hp
    · obtain rfl := hp_y0 hys
      obtain ⟨y0, t0, rfl, q0, g0⟩ := hp_gSi (z := (0 + (1 * vd + 0))) gS rfl
      obtain ⟨t1, rfl, g1⟩ := hp_gSa g0 (by decide)
      cases hp_gSn g1
      exact e0 l' h' y0 (by omega) a1 a2 a3 (hp_gK (zi := (0 + 0)) (zv := (0 + (1 * n + 0))) gZ.2.2.2 (List.mem_of_getElem? (i := 0) rfl) rfl rfl (by omega) (by omega)) (hp_gLa gL (List.mem_of_getElem? (i := 0) rfl) (by decide)) (hp_gLi (z := (0 + (1 * va + 0))) gL (List.mem_of_getElem? (i := 1) rfl) rfl (by omega)) (hp_gLi (z := (0 + (1 * vb + 0))) gL (List.mem_of_getElem? (i := 2) rfl) rfl (by omega)) (hp_gLi (z := (0 + (1 * vc + 0))) gL (List.mem_of_getElem? (i := 3) rfl) rfl (by omega)) (hp_gLi (z := (0 + (1 * vd + 0))) gL (List.mem_of_getElem? (i := 4) rfl) rfl (by omega)) (hp_gLi (z := (0 + (1 * ve + 0))) gL (List.mem_of_getElem? (i := 5) rfl) rfl (by omega))
    cases hp
  · intro p hp ys v h' hys a1 a2 a3 gZ gS
    cases hp
theorem kv4_k : hp_chk 21 48 6 [(0, (-2147483648), 2147483647), (1, (-2147483648), 2147483647), (2, (-2147483648), 2147483647), (3, (-2147483648), 2147483647), (4, (-2147483648), 2147483647), (5, 0, 1200)] [] [(0, .inr (.inr (.inl (some 16)))), (1, .inl (0, [(0, 1)])), (2, .inl (0, [(1, 1)])), (3, .inl (0, [(2, 1)])), (4, .inl (0, [(3, 1)])), (5, .inl (0, [(4, 1)]))] [] [(257, (0, []), (0, [(5, 1)]))] [] 4 [(54, ([], 6, [(0, (-2147483648), 2147483647), (1, (-2147483648), 2147483647), (2, (-2147483648), 2147483647), (3, (-2147483648), 2147483647), (4, (-2147483648), 2147483647), (5, 0, 1200)], [], [(0, .inr (.inr (.inl (some 16)))), (1, .inl (0, [(0, 1)])), (2, .inl (0, [(1, 1)])), (3, .inl (0, [(2, 1)])), (4, .inl (0, [(3, 1)])), (5, .inl (0, [(4, 1)]))], [.inl (0, [(4, 1)]), .inr (.inr (.inl (some 17)))], [(257, (0, []), (0, [(5, 1)]))]))] [] = true := by decide +kernel
theorem kv4 {cst : am_K} {strs : List Nat} {Φ : am_Q → Prop} {D : Nat} {M : am_M} {h : am_H} {l : am_L} (c : hp_C cst strs D) (hM : m_P[21]? = some M) (hD : (4 : Int) ≤ (D : Int) + 1) (hy : ly_hy m_tt ly_TH h) (va vb vc vd ve n : Int) (b0 : (-2147483648) ≤ va) (t0 : va ≤ 2147483647) (b1 : (-2147483648) ≤ vb) (t1 : vb ≤ 2147483647) (b2 : (-2147483648) ≤ vc) (t2 : vc ≤ 2147483647) (b3 : (-2147483648) ≤ vd) (t3 : vd ≤ 2147483647) (b4 : (-2147483648) ≤ ve) (t4 : ve ≤ 2147483647) (b5 : 0 ≤ n) (t5 : n ≤ 1200) (k0 : ly_hv cst h 257 0 = some (n)) (l0 : hp_a l 0 16) (l1 : hp_i l 1 (va)) (l2 : hp_i l 2 (vb)) (l3 : hp_i l 3 (vc)) (l4 : hp_i l 4 (vd)) (l5 : hp_i l 5 (ve)) (e0 : ∀ (l' : am_L) (h' : am_H) (y0 : Int32), y0.toInt = (ve) → ly_hy m_tt ly_TH h' → ly_fr cst [] h h' → h.length ≤ h'.length → ly_hv cst h' 257 0 = some (n) → hp_a l' 0 16 → hp_i l' 1 (va) → hp_i l' 2 (vb) → hp_i l' 3 (vc) → hp_i l' 4 (vd) → hp_i l' 5 (ve) → hp_F cst strs Φ D M 54 l' [.int y0, .ref 17] h') : hp_F cst strs Φ D M 48 l [] h := by
  refine hp_arc c hM kv4_k hD [va, vb, vc, vd, ve, n] rfl hy (hp_Bc (z := va) rfl b0 t0 (hp_Bc (z := vb) rfl b1 t1 (hp_Bc (z := vc) rfl b2 t2 (hp_Bc (z := vd) rfl b3 t3 (hp_Bc (z := ve) rfl b4 t4 (hp_Bc (z := n) rfl b5 t5 hp_Bn)))))) hp_Fn (hp_Kc (zi := (0 + 0)) (zv := (0 + (1 * n + 0))) k0 rfl rfl (by omega) (by omega) hp_Kn) (hp_La l0 (hp_Li (z := (0 + (1 * va + 0))) l1 rfl (by omega) (hp_Li (z := (0 + (1 * vb + 0))) l2 rfl (by omega) (hp_Li (z := (0 + (1 * vc + 0))) l3 rfl (by omega) (hp_Li (z := (0 + (1 * vd + 0))) l4 rfl (by omega) (hp_Li (z := (0 + (1 * ve + 0))) l5 rfl (by omega) hp_Ln)))))) trivial ?_ ?_
  · intro p hp ys l' st' h' hys a1 a2 a3 gZ gL gS
    rcases List.mem_cons.mp hp with rfl | hp
    · obtain rfl := hp_y0 hys
      obtain ⟨y0, t0, rfl, q0, g0⟩ := hp_gSi (z := (0 + (1 * ve + 0))) gS rfl
      obtain ⟨t1, rfl, g1⟩ := hp_gSa g0 (by decide)
      cases hp_gSn g1
      exact e0 l' h' y0 (by omega) a1 a2 a3 (hp_gK (zi := (0 + 0)) (zv := (0 + (1 * n + 0))) gZ.2.2.2 (List.mem_of_getElem? (i := 0) rfl) rfl rfl (by omega) (by omega)) (hp_gLa gL (List.mem_of_getElem? (i := 0) rfl) (by decide)) (hp_gLi (z := (0 + (1 * va + 0))) gL (List.mem_of_getElem? (i := 1) rfl) rfl (by omega)) (hp_gLi (z := (0 + (1 * vb + 0))) gL (List.mem_of_getElem? (i := 2) rfl) rfl (by omega)) (hp_gLi (z := (0 + (1 * vc + 0))) gL (List.mem_of_getElem? (i := 3) rfl) rfl (by omega)) (hp_gLi (z := (0 + (1 * vd + 0))) gL (List.mem_of_getElem? (i := 4) rfl) rfl (by omega)) (hp_gLi (z := (0 + (1 * ve + 0))) gL (List.mem_of_getElem? (i := 5) rfl) rfl (by omega))
    cases hp
  · intro p hp ys v h' hys a1 a2 a3 gZ gS
    cases hp
theorem ku1_k : hp_chk 21 57 6 [(0, (-2147483648), 2147483647), (1, (-2147483648), 2147483647), (2, (-2147483648), 2147483647), (3, (-2147483648), 2147483647), (4, (-2147483648), 2147483647), (5, 0, 1200)] [] [(0, .inr (.inr (.inl (some 16)))), (1, .inl (0, [(0, 1)])), (2, .inl (0, [(1, 1)])), (3, .inl (0, [(2, 1)])), (4, .inl (0, [(3, 1)])), (5, .inl (0, [(4, 1)]))] [] [(257, (0, []), (0, [(5, 1)]))] [] 2 [] [([], 6, [(0, (-2147483648), 2147483647), (1, (-2147483648), 2147483647), (2, (-2147483648), 2147483647), (3, (-2147483648), 2147483647), (4, (-2147483648), 2147483647), (5, 0, 1200)], [], [], [.inl (0, [(5, 1)])], [(257, (0, []), (0, [(5, 1)]))])] = true := by decide +kernel
theorem ku1 {cst : am_K} {strs : List Nat} {Φ : am_Q → Prop} {D : Nat} {M : am_M} {h : am_H} {l : am_L} (c : hp_C cst strs D) (hM : m_P[21]? = some M) (hD : (2 : Int) ≤ (D : Int) + 1) (hy : ly_hy m_tt ly_TH h) (va vb vc vd ve n : Int) (b0 : (-2147483648) ≤ va) (t0 : va ≤ 2147483647) (b1 : (-2147483648) ≤ vb) (t1 : vb ≤ 2147483647) (b2 : (-2147483648) ≤ vc) (t2 : vc ≤ 2147483647) (b3 : (-2147483648) ≤ vd) (t3 : vd ≤ 2147483647) (b4 : (-2147483648) ≤ ve) (t4 : ve ≤ 2147483647) (b5 : 0 ≤ n) (t5 : n ≤ 1200) (k0 : ly_hv cst h 257 0 = some (n)) (l0 : hp_a l 0 16) (l1 : hp_i l 1 (va)) (l2 : hp_i l 2 (vb)) (l3 : hp_i l 3 (vc)) (l4 : hp_i l 4 (vd)) (l5 : hp_i l 5 (ve)) (r0 : ∀ (h' : am_H) (y0 : Int32), y0.toInt = (n) → ly_hy m_tt ly_TH h' → ly_fr cst [] h h' → h.length ≤ h'.length → ly_hv cst h' 257 0 = some (n) → Φ (some (.int y0), h', 0, 0)) : hp_F cst strs Φ D M 57 l [] h := by
  refine hp_arc c hM ku1_k hD [va, vb, vc, vd, ve, n] rfl hy (hp_Bc (z := va) rfl b0 t0 (hp_Bc (z := vb) rfl b1 t1 (hp_Bc (z := vc) rfl b2 t2 (hp_Bc (z := vd) rfl b3 t3 (hp_Bc (z := ve) rfl b4 t4 (hp_Bc (z := n) rfl b5 t5 hp_Bn)))))) hp_Fn (hp_Kc (zi := (0 + 0)) (zv := (0 + (1 * n + 0))) k0 rfl rfl (by omega) (by omega) hp_Kn) (hp_La l0 (hp_Li (z := (0 + (1 * va + 0))) l1 rfl (by omega) (hp_Li (z := (0 + (1 * vb + 0))) l2 rfl (by omega) (hp_Li (z := (0 + (1 * vc + 0))) l3 rfl (by omega) (hp_Li (z := (0 + (1 * vd + 0))) l4 rfl (by omega) (hp_Li (z := (0 + (1 * ve + 0))) l5 rfl (by omega) hp_Ln)))))) trivial ?_ ?_
  · intro p hp ys l' st' h' hys a1 a2 a3 gZ gL gS
    cases hp
  · intro p hp ys v h' hys a1 a2 a3 gZ gS
    rcases List.mem_cons.mp hp with rfl | hp
    · obtain rfl := hp_y0 hys
      cases v with
      | none => cases gS
      | some w =>
        obtain ⟨y0, t0, s0, q0, -⟩ := hp_gSi (z := (0 + (1 * n + 0))) gS rfl
        cases s0
        exact r0 h' y0 (by omega) a1 a2 a3 (hp_gK (zi := (0 + 0)) (zv := (0 + (1 * n + 0))) gZ.2.2.2 (List.mem_of_getElem? (i := 0) rfl) rfl rfl (by omega) (by omega))
    cases hp
theorem kx0_k : hp_chk 269 0 6 [(0, (-2147483648), 2147483647), (1, (-2147483648), 2147483647), (2, (-2147483648), 2147483647), (3, (-2147483648), 2147483647), (4, (-2147483648), 2147483647), (5, 1181, 1200)] [] [(0, .inr (.inr (.inl (some 94)))), (1, .inl (0, [(0, 1)])), (2, .inl (0, [(1, 1)])), (3, .inl (0, [(2, 1)])), (4, .inl (0, [(3, 1)])), (5, .inl (0, [(4, 1)]))] [] [(19969, (0, []), (0, [(5, 1)]))] [] 4 [] [([], 6, [(0, (-2147483648), 2147483647), (1, (-2147483648), 2147483647), (2, (-2147483648), 2147483647), (3, (-2147483648), 2147483647), (4, (-2147483648), 2147483647), (5, 1181, 1200)], [], [], [.inl ((-3), [])], [(19969, (0, []), (0, [(5, 1)]))])] = true := by decide +kernel
theorem kx0 {cst : am_K} {strs : List Nat} {Φ : am_Q → Prop} {D : Nat} {M : am_M} {h : am_H} {l : am_L} (c : hp_C cst strs D) (hM : m_P[269]? = some M) (hD : (4 : Int) ≤ (D : Int) + 1) (hy : ly_hy m_tt ly_TH h) (va vb vc vd ve n : Int) (b0 : (-2147483648) ≤ va) (t0 : va ≤ 2147483647) (b1 : (-2147483648) ≤ vb) (t1 : vb ≤ 2147483647) (b2 : (-2147483648) ≤ vc) (t2 : vc ≤ 2147483647) (b3 : (-2147483648) ≤ vd) (t3 : vd ≤ 2147483647) (b4 : (-2147483648) ≤ ve) (t4 : ve ≤ 2147483647) (b5 : 1181 ≤ n) (t5 : n ≤ 1200) (k0 : ly_hv cst h 19969 0 = some (n)) (l0 : hp_a l 0 94) (l1 : hp_i l 1 (va)) (l2 : hp_i l 2 (vb)) (l3 : hp_i l 3 (vc)) (l4 : hp_i l 4 (vd)) (l5 : hp_i l 5 (ve)) (r0 : ∀ (h' : am_H) (y0 : Int32), y0.toInt = (-3) → ly_hy m_tt ly_TH h' → ly_fr cst [] h h' → h.length ≤ h'.length → ly_hv cst h' 19969 0 = some (n) → Φ (some (.int y0), h', 0, 0)) : hp_F cst strs Φ D M 0 l [] h := by
  refine hp_arc c hM kx0_k hD [va, vb, vc, vd, ve, n] rfl hy (hp_Bc (z := va) rfl b0 t0 (hp_Bc (z := vb) rfl b1 t1 (hp_Bc (z := vc) rfl b2 t2 (hp_Bc (z := vd) rfl b3 t3 (hp_Bc (z := ve) rfl b4 t4 (hp_Bc (z := n) rfl b5 t5 hp_Bn)))))) hp_Fn (hp_Kc (zi := (0 + 0)) (zv := (0 + (1 * n + 0))) k0 rfl rfl (by omega) (by omega) hp_Kn) (hp_La l0 (hp_Li (z := (0 + (1 * va + 0))) l1 rfl (by omega) (hp_Li (z := (0 + (1 * vb + 0))) l2 rfl (by omega) (hp_Li (z := (0 + (1 * vc + 0))) l3 rfl (by omega) (hp_Li (z := (0 + (1 * vd + 0))) l4 rfl (by omega) (hp_Li (z := (0 + (1 * ve + 0))) l5 rfl (by omega) hp_Ln)))))) trivial ?_ ?_
  · intro p hp ys l' st' h' hys a1 a2 a3 gZ gL gS
    cases hp
  · intro p hp ys v h' hys a1 a2 a3 gZ gS
    rcases List.mem_cons.mp hp with rfl | hp
    · obtain rfl := hp_y0 hys
      cases v with
      | none => cases gS
      | some w =>
        obtain ⟨y0, t0, s0, q0, -⟩ := hp_gSi (z := ((-3) + 0)) gS rfl
        cases s0
        exact r0 h' y0 (by omega) a1 a2 a3 (hp_gK (zi := (0 + 0)) (zv := (0 + (1 * n + 0))) gZ.2.2.2 (List.mem_of_getElem? (i := 0) rfl) rfl rfl (by omega) (by omega))
    cases hp
theorem kx1_k : hp_chk 269 0 6 [(0, (-2147483648), 2147483647), (1, (-2147483648), 2147483647), (2, (-2147483648), 2147483647), (3, (-2147483648), 2147483647), (4, (-2147483648), 2147483647), (5, 0, 1180)] [] [(0, .inr (.inr (.inl (some 94)))), (1, .inl (0, [(0, 1)])), (2, .inl (0, [(1, 1)])), (3, .inl (0, [(2, 1)])), (4, .inl (0, [(3, 1)])), (5, .inl (0, [(4, 1)]))] [] [(19969, (0, []), (0, [(5, 1)]))] [] 4 [(19, ([], 6, [(0, (-2147483648), 2147483647), (1, (-2147483648), 2147483647), (2, (-2147483648), 2147483647), (3, (-2147483648), 2147483647), (4, (-2147483648), 2147483647), (5, 0, 1180)], [], [(0, .inr (.inr (.inl (some 94)))), (1, .inl (0, [(0, 1)])), (2, .inl (0, [(1, 1)])), (3, .inl (0, [(2, 1)])), (4, .inl (0, [(3, 1)])), (5, .inl (0, [(4, 1)])), (6, .inl (0, []))], [], [(19969, (0, []), (0, [(5, 1)]))]))] [] = true := by decide +kernel
theorem kx1 {cst : am_K} {strs : List Nat} {Φ : am_Q → Prop} {D : Nat} {M : am_M} {h : am_H} {l : am_L} (c : hp_C cst strs D) (hM : m_P[269]? = some M) (hD : (4 : Int) ≤ (D : Int) + 1) (hy : ly_hy m_tt ly_TH h) (va vb vc vd ve n : Int) (b0 : (-2147483648) ≤ va) (t0 : va ≤ 2147483647) (b1 : (-2147483648) ≤ vb) (t1 : vb ≤ 2147483647) (b2 : (-2147483648) ≤ vc) (t2 : vc ≤ 2147483647) (b3 : (-2147483648) ≤ vd) (t3 : vd ≤ 2147483647) (b4 : (-2147483648) ≤ ve) (t4 : ve ≤ 2147483647) (b5 : 0 ≤ n) (t5 : n ≤ 1180) (k0 : ly_hv cst h 19969 0 = some (n)) (l0 : hp_a l 0 94) (l1 : hp_i l 1 (va)) (l2 : hp_i l 2 (vb)) (l3 : hp_i l 3 (vc)) (l4 : hp_i l 4 (vd)) (l5 : hp_i l 5 (ve)) (e0 : ∀ (l' : am_L) (h' : am_H), ly_hy m_tt ly_TH h' → ly_fr cst [] h h' → h.length ≤ h'.length → ly_hv cst h' 19969 0 = some (n) → hp_a l' 0 94 → hp_i l' 1 (va) → hp_i l' 2 (vb) → hp_i l' 3 (vc) → hp_i l' 4 (vd) → hp_i l' 5 (ve) → hp_i l' 6 0 → hp_F cst strs Φ D M 19 l' [] h') : hp_F cst strs Φ D M 0 l [] h := by
  refine hp_arc c hM kx1_k hD [va, vb, vc, vd, ve, n] rfl hy (hp_Bc (z := va) rfl b0 t0 (hp_Bc (z := vb) rfl b1 t1 (hp_Bc (z := vc) rfl b2 t2 (hp_Bc (z := vd) rfl b3 t3 (hp_Bc (z := ve) rfl b4 t4 (hp_Bc (z := n) rfl b5 t5 hp_Bn)))))) hp_Fn (hp_Kc (zi := (0 + 0)) (zv := (0 + (1 * n + 0))) k0 rfl rfl (by omega) (by omega) hp_Kn) (hp_La l0 (hp_Li (z := (0 + (1 * va + 0))) l1 rfl (by omega) (hp_Li (z := (0 + (1 * vb + 0))) l2 rfl (by omega) (hp_Li (z := (0 + (1 * vc + 0))) l3 rfl (by omega) (hp_Li (z := (0 + (1 * vd + 0))) l4 rfl (by omega) (hp_Li (z := (0 + (1 * ve + 0))) l5 rfl (by omega) hp_Ln)))))) trivial ?_ ?_
  · intro p hp ys l' st' h' hys a1 a2 a3 gZ gL gS
    rcases List.mem_cons.mp hp with rfl | hp
    · obtain rfl := hp_y0 hys
      cases hp_gSn gS
      exact e0 l' h' a1 a2 a3 (hp_gK (zi := (0 + 0)) (zv := (0 + (1 * n + 0))) gZ.2.2.2 (List.mem_of_getElem? (i := 0) rfl) rfl rfl (by omega) (by omega)) (hp_gLa gL (List.mem_of_getElem? (i := 0) rfl) (by decide)) (hp_gLi (z := (0 + (1 * va + 0))) gL (List.mem_of_getElem? (i := 1) rfl) rfl (by omega)) (hp_gLi (z := (0 + (1 * vb + 0))) gL (List.mem_of_getElem? (i := 2) rfl) rfl (by omega)) (hp_gLi (z := (0 + (1 * vc + 0))) gL (List.mem_of_getElem? (i := 3) rfl) rfl (by omega)) (hp_gLi (z := (0 + (1 * vd + 0))) gL (List.mem_of_getElem? (i := 4) rfl) rfl (by omega)) (hp_gLi (z := (0 + (1 * ve + 0))) gL (List.mem_of_getElem? (i := 5) rfl) rfl (by omega)) (hp_gLi (z := (0 + 0)) gL (List.mem_of_getElem? (i := 6) rfl) rfl (by omega))
    cases hp
  · intro p hp ys v h' hys a1 a2 a3 gZ gS
    cases hp
theorem ky0_k : hp_chk 269 19 6 [(0, (-2147483648), 2147483647), (1, (-2147483648), 2147483647), (2, (-2147483648), 2147483647), (3, (-2147483648), 2147483647), (4, (-2147483648), 2147483647), (5, 0, 1200)] [] [(0, .inr (.inr (.inl (some 94)))), (1, .inl (0, [(0, 1)])), (2, .inl (0, [(1, 1)])), (3, .inl (0, [(2, 1)])), (4, .inl (0, [(3, 1)])), (5, .inl (0, [(4, 1)])), (6, .inl (0, []))] [] [(19969, (0, []), (0, [(5, 1)]))] [] 2 [(73, ([], 6, [(0, (-2147483648), 2147483647), (1, (-2147483648), 2147483647), (2, (-2147483648), 2147483647), (3, (-2147483648), 2147483647), (4, (-2147483648), 2147483647), (5, 0, 1200)], [], [(0, .inr (.inr (.inl (some 94)))), (1, .inl (0, [(0, 1)])), (2, .inl (0, [(1, 1)])), (3, .inl (0, [(2, 1)])), (4, .inl (0, [(3, 1)])), (5, .inl (0, [(4, 1)])), (6, .inl (0, [])), (7, .inl (0, [(0, 1)])), (8, .inl (24, []))], [], [(19969, (0, []), (0, [(5, 1)]))]))] [] = true := by decide +kernel
theorem ky0 {cst : am_K} {strs : List Nat} {Φ : am_Q → Prop} {D : Nat} {M : am_M} {h : am_H} {l : am_L} (c : hp_C cst strs D) (hM : m_P[269]? = some M) (hD : (2 : Int) ≤ (D : Int) + 1) (hy : ly_hy m_tt ly_TH h) (va vb vc vd ve n : Int) (b0 : (-2147483648) ≤ va) (t0 : va ≤ 2147483647) (b1 : (-2147483648) ≤ vb) (t1 : vb ≤ 2147483647) (b2 : (-2147483648) ≤ vc) (t2 : vc ≤ 2147483647) (b3 : (-2147483648) ≤ vd) (t3 : vd ≤ 2147483647) (b4 : (-2147483648) ≤ ve) (t4 : ve ≤ 2147483647) (b5 : 0 ≤ n) (t5 : n ≤ 1200) (k0 : ly_hv cst h 19969 0 = some (n)) (l0 : hp_a l 0 94) (l1 : hp_i l 1 (va)) (l2 : hp_i l 2 (vb)) (l3 : hp_i l 3 (vc)) (l4 : hp_i l 4 (vd)) (l5 : hp_i l 5 (ve)) (l6 : hp_i l 6 0) (e0 : ∀ (l' : am_L) (h' : am_H), ly_hy m_tt ly_TH h' → ly_fr cst [] h h' → h.length ≤ h'.length → ly_hv cst h' 19969 0 = some (n) → hp_a l' 0 94 → hp_i l' 1 (va) → hp_i l' 2 (vb) → hp_i l' 3 (vc) → hp_i l' 4 (vd) → hp_i l' 5 (ve) → hp_i l' 6 0 → hp_i l' 7 (va) → hp_i l' 8 24 → hp_F cst strs Φ D M 73 l' [] h') : hp_F cst strs Φ D M 19 l [] h := by
  refine hp_arc c hM ky0_k hD [va, vb, vc, vd, ve, n] rfl hy (hp_Bc (z := va) rfl b0 t0 (hp_Bc (z := vb) rfl b1 t1 (hp_Bc (z := vc) rfl b2 t2 (hp_Bc (z := vd) rfl b3 t3 (hp_Bc (z := ve) rfl b4 t4 (hp_Bc (z := n) rfl b5 t5 hp_Bn)))))) hp_Fn (hp_Kc (zi := (0 + 0)) (zv := (0 + (1 * n + 0))) k0 rfl rfl (by omega) (by omega) hp_Kn) (hp_La l0 (hp_Li (z := (0 + (1 * va + 0))) l1 rfl (by omega) (hp_Li (z := (0 + (1 * vb + 0))) l2 rfl (by omega) (hp_Li (z := (0 + (1 * vc + 0))) l3 rfl (by omega) (hp_Li (z := (0 + (1 * vd + 0))) l4 rfl (by omega) (hp_Li (z := (0 + (1 * ve + 0))) l5 rfl (by omega) (hp_Li (z := (0 + 0)) l6 rfl (by omega) hp_Ln))))))) trivial ?_ ?_
  · intro p hp ys l' st' h' hys a1 a2 a3 gZ gL gS
    rcases List.mem_cons.mp hp with rfl | hp
    · obtain rfl := hp_y0 hys
      cases hp_gSn gS
      exact e0 l' h' a1 a2 a3 (hp_gK (zi := (0 + 0)) (zv := (0 + (1 * n + 0))) gZ.2.2.2 (List.mem_of_getElem? (i := 0) rfl) rfl rfl (by omega) (by omega)) (hp_gLa gL (List.mem_of_getElem? (i := 0) rfl) (by decide)) (hp_gLi (z := (0 + (1 * va + 0))) gL (List.mem_of_getElem? (i := 1) rfl) rfl (by omega)) (hp_gLi (z := (0 + (1 * vb + 0))) gL (List.mem_of_getElem? (i := 2) rfl) rfl (by omega)) (hp_gLi (z := (0 + (1 * vc + 0))) gL (List.mem_of_getElem? (i := 3) rfl) rfl (by omega)) (hp_gLi (z := (0 + (1 * vd + 0))) gL (List.mem_of_getElem? (i := 4) rfl) rfl (by omega)) (hp_gLi (z := (0 + (1 * ve + 0))) gL (List.mem_of_getElem? (i := 5) rfl) rfl (by omega)) (hp_gLi (z := (0 + 0)) gL (List.mem_of_getElem? (i := 6) rfl) rfl (by omega)) (hp_gLi (z := (0 + (1 * va + 0))) gL (List.mem_of_getElem? (i := 7) rfl) rfl (by omega)) (hp_gLi (z := (24 + 0)) gL (List.mem_of_getElem? (i := 8) rfl) rfl (by omega))
    cases hp
  · intro p hp ys v h' hys a1 a2 a3 gZ gS
    cases hp
theorem ky1_k : hp_chk 269 19 6 [(0, (-2147483648), 2147483647), (1, (-2147483648), 2147483647), (2, (-2147483648), 2147483647), (3, (-2147483648), 2147483647), (4, (-2147483648), 2147483647), (5, 0, 1200)] [] [(0, .inr (.inr (.inl (some 94)))), (1, .inl (0, [(0, 1)])), (2, .inl (0, [(1, 1)])), (3, .inl (0, [(2, 1)])), (4, .inl (0, [(3, 1)])), (5, .inl (0, [(4, 1)])), (6, .inl (1, []))] [] [(19969, (0, []), (0, [(5, 1)]))] [] 2 [(73, ([], 6, [(0, (-2147483648), 2147483647), (1, (-2147483648), 2147483647), (2, (-2147483648), 2147483647), (3, (-2147483648), 2147483647), (4, (-2147483648), 2147483647), (5, 0, 1200)], [], [(0, .inr (.inr (.inl (some 94)))), (1, .inl (0, [(0, 1)])), (2, .inl (0, [(1, 1)])), (3, .inl (0, [(2, 1)])), (4, .inl (0, [(3, 1)])), (5, .inl (0, [(4, 1)])), (6, .inl (1, [])), (7, .inl (0, [(1, 1)])), (8, .inl (24, []))], [], [(19969, (0, []), (0, [(5, 1)]))]))] [] = true := by decide +kernel
theorem ky1 {cst : am_K} {strs : List Nat} {Φ : am_Q → Prop} {D : Nat} {M : am_M} {h : am_H} {l : am_L} (c : hp_C cst strs D) (hM : m_P[269]? = some M) (hD : (2 : Int) ≤ (D : Int) + 1) (hy : ly_hy m_tt ly_TH h) (va vb vc vd ve n : Int) (b0 : (-2147483648) ≤ va) (t0 : va ≤ 2147483647) (b1 : (-2147483648) ≤ vb) (t1 : vb ≤ 2147483647) (b2 : (-2147483648) ≤ vc) (t2 : vc ≤ 2147483647) (b3 : (-2147483648) ≤ vd) (t3 : vd ≤ 2147483647) (b4 : (-2147483648) ≤ ve) (t4 : ve ≤ 2147483647) (b5 : 0 ≤ n) (t5 : n ≤ 1200) (k0 : ly_hv cst h 19969 0 = some (n)) (l0 : hp_a l 0 94) (l1 : hp_i l 1 (va)) (l2 : hp_i l 2 (vb)) (l3 : hp_i l 3 (vc)) (l4 : hp_i l 4 (vd)) (l5 : hp_i l 5 (ve)) (l6 : hp_i l 6 1) (e0 : ∀ (l' : am_L) (h' : am_H), ly_hy m_tt ly_TH h' → ly_fr cst [] h h' → h.length ≤ h'.length → ly_hv cst h' 19969 0 = some (n) → hp_a l' 0 94 → hp_i l' 1 (va) → hp_i l' 2 (vb) → hp_i l' 3 (vc) → hp_i l' 4 (vd) → hp_i l' 5 (ve) → hp_i l' 6 1 → hp_i l' 7 (vb) → hp_i l' 8 24 → hp_F cst strs Φ D M 73 l' [] h') : hp_F cst strs Φ D M 19 l [] h := by
  refine hp_arc c hM ky1_k hD [va, vb, vc, vd, ve, n] rfl hy (hp_Bc (z := va) rfl b0 t0 (hp_Bc (z := vb) rfl b1 t1 (hp_Bc (z := vc) rfl b2 t2 (hp_Bc (z := vd) rfl b3 t3 (hp_Bc (z := ve) rfl b4 t4 (hp_Bc (z := n) rfl b5 t5 hp_Bn)))))) hp_Fn (hp_Kc (zi := (0 + 0)) (zv := (0 + (1 * n + 0))) k0 rfl rfl (by omega) (by omega) hp_Kn) (hp_La l0 (hp_Li (z := (0 + (1 * va + 0))) l1 rfl (by omega) (hp_Li (z := (0 + (1 * vb + 0))) l2 rfl (by omega) (hp_Li (z := (0 + (1 * vc + 0))) l3 rfl (by omega) (hp_Li (z := (0 + (1 * vd + 0))) l4 rfl (by omega) (hp_Li (z := (0 + (1 * ve + 0))) l5 rfl (by omega) (hp_Li (z := (1 + 0)) l6 rfl (by omega) hp_Ln))))))) trivial ?_ ?_
  · intro p hp ys l' st' h' hys a1 a2 a3 gZ gL gS
    rcases List.mem_cons.mp hp with rfl | hp
    · obtain rfl := hp_y0 hys
      cases hp_gSn gS
      exact e0 l' h' a1 a2 a3 (hp_gK (zi := (0 + 0)) (zv := (0 + (1 * n + 0))) gZ.2.2.2 (List.mem_of_getElem? (i := 0) rfl) rfl rfl (by omega) (by omega)) (hp_gLa gL (List.mem_of_getElem? (i := 0) rfl) (by decide)) (hp_gLi (z := (0 + (1 * va + 0))) gL (List.mem_of_getElem? (i := 1) rfl) rfl (by omega)) (hp_gLi (z := (0 + (1 * vb + 0))) gL (List.mem_of_getElem? (i := 2) rfl) rfl (by omega)) (hp_gLi (z := (0 + (1 * vc + 0))) gL (List.mem_of_getElem? (i := 3) rfl) rfl (by omega)) (hp_gLi (z := (0 + (1 * vd + 0))) gL (List.mem_of_getElem? (i := 4) rfl) rfl (by omega)) (hp_gLi (z := (0 + (1 * ve + 0))) gL (List.mem_of_getElem? (i := 5) rfl) rfl (by omega)) (hp_gLi (z := (1 + 0)) gL (List.mem_of_getElem? (i := 6) rfl) rfl (by omega)) (hp_gLi (z := (0 + (1 * vb + 0))) gL (List.mem_of_getElem? (i := 7) rfl) rfl (by omega)) (hp_gLi (z := (24 + 0)) gL (List.mem_of_getElem? (i := 8) rfl) rfl (by omega))
    cases hp
  · intro p hp ys v h' hys a1 a2 a3 gZ gS
    cases hp
theorem ky2_k : hp_chk 269 19 6 [(0, (-2147483648), 2147483647), (1, (-2147483648), 2147483647), (2, (-2147483648), 2147483647), (3, (-2147483648), 2147483647), (4, (-2147483648), 2147483647), (5, 0, 1200)] [] [(0, .inr (.inr (.inl (some 94)))), (1, .inl (0, [(0, 1)])), (2, .inl (0, [(1, 1)])), (3, .inl (0, [(2, 1)])), (4, .inl (0, [(3, 1)])), (5, .inl (0, [(4, 1)])), (6, .inl (2, []))] [] [(19969, (0, []), (0, [(5, 1)]))] [] 2 [(73, ([], 6, [(0, (-2147483648), 2147483647), (1, (-2147483648), 2147483647), (2, (-2147483648), 2147483647), (3, (-2147483648), 2147483647), (4, (-2147483648), 2147483647), (5, 0, 1200)], [], [(0, .inr (.inr (.inl (some 94)))), (1, .inl (0, [(0, 1)])), (2, .inl (0, [(1, 1)])), (3, .inl (0, [(2, 1)])), (4, .inl (0, [(3, 1)])), (5, .inl (0, [(4, 1)])), (6, .inl (2, [])), (7, .inl (0, [(2, 1)])), (8, .inl (24, []))], [], [(19969, (0, []), (0, [(5, 1)]))]))] [] = true := by decide +kernel
theorem ky2 {cst : am_K} {strs : List Nat} {Φ : am_Q → Prop} {D : Nat} {M : am_M} {h : am_H} {l : am_L} (c : hp_C cst strs D) (hM : m_P[269]? = some M) (hD : (2 : Int) ≤ (D : Int) + 1) (hy : ly_hy m_tt ly_TH h) (va vb vc vd ve n : Int) (b0 : (-2147483648) ≤ va) (t0 : va ≤ 2147483647) (b1 : (-2147483648) ≤ vb) (t1 : vb ≤ 2147483647) (b2 : (-2147483648) ≤ vc) (t2 : vc ≤ 2147483647) (b3 : (-2147483648) ≤ vd) (t3 : vd ≤ 2147483647) (b4 : (-2147483648) ≤ ve) (t4 : ve ≤ 2147483647) (b5 : 0 ≤ n) (t5 : n ≤ 1200) (k0 : ly_hv cst h 19969 0 = some (n)) (l0 : hp_a l 0 94) (l1 : hp_i l 1 (va)) (l2 : hp_i l 2 (vb)) (l3 : hp_i l 3 (vc)) (l4 : hp_i l 4 (vd)) (l5 : hp_i l 5 (ve)) (l6 : hp_i l 6 2) (e0 : ∀ (l' : am_L) (h' : am_H), ly_hy m_tt ly_TH h' → ly_fr cst [] h h' → h.length ≤ h'.length → ly_hv cst h' 19969 0 = some (n) → hp_a l' 0 94 → hp_i l' 1 (va) → hp_i l' 2 (vb) → hp_i l' 3 (vc) → hp_i l' 4 (vd) → hp_i l' 5 (ve) → hp_i l' 6 2 → hp_i l' 7 (vc) → hp_i l' 8 24 → hp_F cst strs Φ D M 73 l' [] h') : hp_F cst strs Φ D M 19 l [] h := by
  refine hp_arc c hM ky2_k hD [va, vb, vc, vd, ve, n] rfl hy (hp_Bc (z := va) rfl b0 t0 (hp_Bc (z := vb) rfl b1 t1 (hp_Bc (z := vc) rfl b2 t2 (hp_Bc (z := vd) rfl b3 t3 (hp_Bc (z := ve) rfl b4 t4 (hp_Bc (z := n) rfl b5 t5 hp_Bn)))))) hp_Fn (hp_Kc (zi := (0 + 0)) (zv := (0 + (1 * n + 0))) k0 rfl rfl (by omega) (by omega) hp_Kn) (hp_La l0 (hp_Li (z := (0 + (1 * va + 0))) l1 rfl (by omega) (hp_Li (z := (0 + (1 * vb + 0))) l2 rfl (by omega) (hp_Li (z := (0 + (1 * vc + 0))) l3 rfl (by omega) (hp_Li (z := (0 + (1 * vd + 0))) l4 rfl (by omega) (hp_Li (z := (0 + (1 * ve + 0))) l5 rfl (by omega) (hp_Li (z := (2 + 0)) l6 rfl (by omega) hp_Ln))))))) trivial ?_ ?_
  · intro p hp ys l' st' h' hys a1 a2 a3 gZ gL gS
    rcases List.mem_cons.mp hp with rfl | hp
    · obtain rfl := hp_y0 hys
      cases hp_gSn gS
      exact e0 l' h' a1 a2 a3 (hp_gK (zi := (0 + 0)) (zv := (0 + (1 * n + 0))) gZ.2.2.2 (List.mem_of_getElem? (i := 0) rfl) rfl rfl (by omega) (by omega)) (hp_gLa gL (List.mem_of_getElem? (i := 0) rfl) (by decide)) (hp_gLi (z := (0 + (1 * va + 0))) gL (List.mem_of_getElem? (i := 1) rfl) rfl (by omega)) (hp_gLi (z := (0 + (1 * vb + 0))) gL (List.mem_of_getElem? (i := 2) rfl) rfl (by omega)) (hp_gLi (z := (0 + (1 * vc + 0))) gL (List.mem_of_getElem? (i := 3) rfl) rfl (by omega)) (hp_gLi (z := (0 + (1 * vd + 0))) gL (List.mem_of_getElem? (i := 4) rfl) rfl (by omega)) (hp_gLi (z := (0 + (1 * ve + 0))) gL (List.mem_of_getElem? (i := 5) rfl) rfl (by omega)) (hp_gLi (z := (2 + 0)) gL (List.mem_of_getElem? (i := 6) rfl) rfl (by omega)) (hp_gLi (z := (0 + (1 * vc + 0))) gL (List.mem_of_getElem? (i := 7) rfl) rfl (by omega)) (hp_gLi (z := (24 + 0)) gL (List.mem_of_getElem? (i := 8) rfl) rfl (by omega))
    cases hp
  · intro p hp ys v h' hys a1 a2 a3 gZ gS
    cases hp
theorem ky3_k : hp_chk 269 19 6 [(0, (-2147483648), 2147483647), (1, (-2147483648), 2147483647), (2, (-2147483648), 2147483647), (3, (-2147483648), 2147483647), (4, (-2147483648), 2147483647), (5, 0, 1200)] [] [(0, .inr (.inr (.inl (some 94)))), (1, .inl (0, [(0, 1)])), (2, .inl (0, [(1, 1)])), (3, .inl (0, [(2, 1)])), (4, .inl (0, [(3, 1)])), (5, .inl (0, [(4, 1)])), (6, .inl (3, []))] [] [(19969, (0, []), (0, [(5, 1)]))] [] 2 [(73, ([], 6, [(0, (-2147483648), 2147483647), (1, (-2147483648), 2147483647), (2, (-2147483648), 2147483647), (3, (-2147483648), 2147483647), (4, (-2147483648), 2147483647), (5, 0, 1200)], [], [(0, .inr (.inr (.inl (some 94)))), (1, .inl (0, [(0, 1)])), (2, .inl (0, [(1, 1)])), (3, .inl (0, [(2, 1)])), (4, .inl (0, [(3, 1)])), (5, .inl (0, [(4, 1)])), (6, .inl (3, [])), (7, .inl (0, [(3, 1)])), (8, .inl (24, []))], [], [(19969, (0, []), (0, [(5, 1)]))]))] [] = true := by decide +kernel
theorem ky3 {cst : am_K} {strs : List Nat} {Φ : am_Q → Prop} {D : Nat} {M : am_M} {h : am_H} {l : am_L} (c : hp_C cst strs D) (hM : m_P[269]? = some M) (hD : (2 : Int) ≤ (D : Int) + 1) (hy : ly_hy m_tt ly_TH h) (va vb vc vd ve n : Int) (b0 : (-2147483648) ≤ va) (t0 : va ≤ 2147483647) (b1 : (-2147483648) ≤ vb) (t1 : vb ≤ 2147483647) (b2 : (-2147483648) ≤ vc) (t2 : vc ≤ 2147483647) (b3 : (-2147483648) ≤ vd) (t3 : vd ≤ 2147483647) (b4 : (-2147483648) ≤ ve) (t4 : ve ≤ 2147483647) (b5 : 0 ≤ n) (t5 : n ≤ 1200) (k0 : ly_hv cst h 19969 0 = some (n)) (l0 : hp_a l 0 94) (l1 : hp_i l 1 (va)) (l2 : hp_i l 2 (vb)) (l3 : hp_i l 3 (vc)) (l4 : hp_i l 4 (vd)) (l5 : hp_i l 5 (ve)) (l6 : hp_i l 6 3) (e0 : ∀ (l' : am_L) (h' : am_H), ly_hy m_tt ly_TH h' → ly_fr cst [] h h' → h.length ≤ h'.length → ly_hv cst h' 19969 0 = some (n) → hp_a l' 0 94 → hp_i l' 1 (va) → hp_i l' 2 (vb) → hp_i l' 3 (vc) → hp_i l' 4 (vd) → hp_i l' 5 (ve) → hp_i l' 6 3 → hp_i l' 7 (vd) → hp_i l' 8 24 → hp_F cst strs Φ D M 73 l' [] h') : hp_F cst strs Φ D M 19 l [] h := by
  refine hp_arc c hM ky3_k hD [va, vb, vc, vd, ve, n] rfl hy (hp_Bc (z := va) rfl b0 t0 (hp_Bc (z := vb) rfl b1 t1 (hp_Bc (z := vc) rfl b2 t2 (hp_Bc (z := vd) rfl b3 t3 (hp_Bc (z := ve) rfl b4 t4 (hp_Bc (z := n) rfl b5 t5 hp_Bn)))))) hp_Fn (hp_Kc (zi := (0 + 0)) (zv := (0 + (1 * n + 0))) k0 rfl rfl (by omega) (by omega) hp_Kn) (hp_La l0 (hp_Li (z := (0 + (1 * va + 0))) l1 rfl (by omega) (hp_Li (z := (0 + (1 * vb + 0))) l2 rfl (by omega) (hp_Li (z := (0 + (1 * vc + 0))) l3 rfl (by omega) (hp_Li (z := (0 + (1 * vd + 0))) l4 rfl (by omega) (hp_Li (z := (0 + (1 * ve + 0))) l5 rfl (by omega) (hp_Li (z := (3 + 0)) l6 rfl (by omega) hp_Ln))))))) trivial ?_ ?_
  · intro p hp ys l' st' h' hys a1 a2 a3 gZ gL gS
    rcases List.mem_cons.mp hp with rfl | hp
    · obtain rfl := hp_y0 hys
      cases hp_gSn gS
      exact e0 l' h' a1 a2 a3 (hp_gK (zi := (0 + 0)) (zv := (0 + (1 * n + 0))) gZ.2.2.2 (List.mem_of_getElem? (i := 0) rfl) rfl rfl (by omega) (by omega)) (hp_gLa gL (List.mem_of_getElem? (i := 0) rfl) (by decide)) (hp_gLi (z := (0 + (1 * va + 0))) gL (List.mem_of_getElem? (i := 1) rfl) rfl (by omega)) (hp_gLi (z := (0 + (1 * vb + 0))) gL (List.mem_of_getElem? (i := 2) rfl) rfl (by omega)) (hp_gLi (z := (0 + (1 * vc + 0))) gL (List.mem_of_getElem? (i := 3) rfl) rfl (by omega)) (hp_gLi (z := (0 + (1 * vd + 0))) gL (List.mem_of_getElem? (i := 4) rfl) rfl (by omega)) (hp_gLi (z := (0 + (1 * ve + 0))) gL (List.mem_of_getElem? (i := 5) rfl) rfl (by omega)) (hp_gLi (z := (3 + 0)) gL (List.mem_of_getElem? (i := 6) rfl) rfl (by omega)) (hp_gLi (z := (0 + (1 * vd + 0))) gL (List.mem_of_getElem? (i := 7) rfl) rfl (by omega)) (hp_gLi (z := (24 + 0)) gL (List.mem_of_getElem? (i := 8) rfl) rfl (by omega))
    cases hp
  · intro p hp ys v h' hys a1 a2 a3 gZ gS
    cases hp
theorem ky4_k : hp_chk 269 19 6 [(0, (-2147483648), 2147483647), (1, (-2147483648), 2147483647), (2, (-2147483648), 2147483647), (3, (-2147483648), 2147483647), (4, (-2147483648), 2147483647), (5, 0, 1200)] [] [(0, .inr (.inr (.inl (some 94)))), (1, .inl (0, [(0, 1)])), (2, .inl (0, [(1, 1)])), (3, .inl (0, [(2, 1)])), (4, .inl (0, [(3, 1)])), (5, .inl (0, [(4, 1)])), (6, .inl (4, []))] [] [(19969, (0, []), (0, [(5, 1)]))] [] 2 [(73, ([], 6, [(0, (-2147483648), 2147483647), (1, (-2147483648), 2147483647), (2, (-2147483648), 2147483647), (3, (-2147483648), 2147483647), (4, (-2147483648), 2147483647), (5, 0, 1200)], [], [(0, .inr (.inr (.inl (some 94)))), (1, .inl (0, [(0, 1)])), (2, .inl (0, [(1, 1)])), (3, .inl (0, [(2, 1)])), (4, .inl (0, [(3, 1)])), (5, .inl (0, [(4, 1)])), (6, .inl (4, [])), (7, .inl (0, [(4, 1)])), (8, .inl (24, []))], [], [(19969, (0, []), (0, [(5, 1)]))]))] [] = true := by decide +kernel
theorem ky4 {cst : am_K} {strs : List Nat} {Φ : am_Q → Prop} {D : Nat} {M : am_M} {h : am_H} {l : am_L} (c : hp_C cst strs D) (hM : m_P[269]? = some M) (hD : (2 : Int) ≤ (D : Int) + 1) (hy : ly_hy m_tt ly_TH h) (va vb vc vd ve n : Int) (b0 : (-2147483648) ≤ va) (t0 : va ≤ 2147483647) (b1 : (-2147483648) ≤ vb) (t1 : vb ≤ 2147483647) (b2 : (-2147483648) ≤ vc) (t2 : vc ≤ 2147483647) (b3 : (-2147483648) ≤ vd) (t3 : vd ≤ 2147483647) (b4 : (-2147483648) ≤ ve) (t4 : ve ≤ 2147483647) (b5 : 0 ≤ n) (t5 : n ≤ 1200) (k0 : ly_hv cst h 19969 0 = some (n)) (l0 : hp_a l 0 94) (l1 : hp_i l 1 (va)) (l2 : hp_i l 2 (vb)) (l3 : hp_i l 3 (vc)) (l4 : hp_i l 4 (vd)) (l5 : hp_i l 5 (ve)) (l6 : hp_i l 6 4) (e0 : ∀ (l' : am_L) (h' : am_H), ly_hy m_tt ly_TH h' → ly_fr cst [] h h' → h.length ≤ h'.length → ly_hv cst h' 19969 0 = some (n) → hp_a l' 0 94 → hp_i l' 1 (va) → hp_i l' 2 (vb) → hp_i l' 3 (vc) → hp_i l' 4 (vd) → hp_i l' 5 (ve) → hp_i l' 6 4 → hp_i l' 7 (ve) → hp_i l' 8 24 → hp_F cst strs Φ D M 73 l' [] h') : hp_F cst strs Φ D M 19 l [] h := by
  refine hp_arc c hM ky4_k hD [va, vb, vc, vd, ve, n] rfl hy (hp_Bc (z := va) rfl b0 t0 (hp_Bc (z := vb) rfl b1 t1 (hp_Bc (z := vc) rfl b2 t2 (hp_Bc (z := vd) rfl b3 t3 (hp_Bc (z := ve) rfl b4 t4 (hp_Bc (z := n) rfl b5 t5 hp_Bn)))))) hp_Fn (hp_Kc (zi := (0 + 0)) (zv := (0 + (1 * n + 0))) k0 rfl rfl (by omega) (by omega) hp_Kn) (hp_La l0 (hp_Li (z := (0 + (1 * va + 0))) l1 rfl (by omega) (hp_Li (z := (0 + (1 * vb + 0))) l2 rfl (by omega) (hp_Li (z := (0 + (1 * vc + 0))) l3 rfl (by omega) (hp_Li (z := (0 + (1 * vd + 0))) l4 rfl (by omega) (hp_Li (z := (0 + (1 * ve + 0))) l5 rfl (by omega) (hp_Li (z := (4 + 0)) l6 rfl (by omega) hp_Ln))))))) trivial ?_ ?_
  · intro p hp ys l' st' h' hys a1 a2 a3 gZ gL gS
    rcases List.mem_cons.mp hp with rfl | hp
    · obtain rfl := hp_y0 hys
      cases hp_gSn gS
      exact e0 l' h' a1 a2 a3 (hp_gK (zi := (0 + 0)) (zv := (0 + (1 * n + 0))) gZ.2.2.2 (List.mem_of_getElem? (i := 0) rfl) rfl rfl (by omega) (by omega)) (hp_gLa gL (List.mem_of_getElem? (i := 0) rfl) (by decide)) (hp_gLi (z := (0 + (1 * va + 0))) gL (List.mem_of_getElem? (i := 1) rfl) rfl (by omega)) (hp_gLi (z := (0 + (1 * vb + 0))) gL (List.mem_of_getElem? (i := 2) rfl) rfl (by omega)) (hp_gLi (z := (0 + (1 * vc + 0))) gL (List.mem_of_getElem? (i := 3) rfl) rfl (by omega)) (hp_gLi (z := (0 + (1 * vd + 0))) gL (List.mem_of_getElem? (i := 4) rfl) rfl (by omega)) (hp_gLi (z := (0 + (1 * ve + 0))) gL (List.mem_of_getElem? (i := 5) rfl) rfl (by omega)) (hp_gLi (z := (4 + 0)) gL (List.mem_of_getElem? (i := 6) rfl) rfl (by omega)) (hp_gLi (z := (0 + (1 * ve + 0))) gL (List.mem_of_getElem? (i := 7) rfl) rfl (by omega)) (hp_gLi (z := (24 + 0)) gL (List.mem_of_getElem? (i := 8) rfl) rfl (by omega))
    cases hp
  · intro p hp ys v h' hys a1 a2 a3 gZ gS
    cases hp
theorem kz1_k : hp_chk 269 73 9 [(0, (-2147483648), 2147483647), (1, (-2147483648), 2147483647), (2, (-2147483648), 2147483647), (3, (-2147483648), 2147483647), (4, (-2147483648), 2147483647), (5, (-2147483648), 2147483647), (6, 0, 4), (7, 0, 24), (8, 0, 1199)] [] [(0, .inr (.inr (.inl (some 94)))), (1, .inl (0, [(0, 1)])), (2, .inl (0, [(1, 1)])), (3, .inl (0, [(2, 1)])), (4, .inl (0, [(3, 1)])), (5, .inl (0, [(4, 1)])), (6, .inl (0, [(6, 1)])), (7, .inl (0, [(5, 1)])), (8, .inl (0, [(7, 1)]))] [] [(19969, (0, []), (0, [(8, 1)]))] [] 2 [(90, ([], 9, [(0, (-2147483648), 2147483647), (1, (-2147483648), 2147483647), (2, (-2147483648), 2147483647), (3, (-2147483648), 2147483647), (4, (-2147483648), 2147483647), (5, (-2147483648), 2147483647), (6, 0, 4), (7, 0, 24), (8, 0, 1199)], [], [(0, .inr (.inr (.inl (some 94)))), (1, .inl (0, [(0, 1)])), (2, .inl (0, [(1, 1)])), (3, .inl (0, [(2, 1)])), (4, .inl (0, [(3, 1)])), (5, .inl (0, [(4, 1)])), (6, .inl (0, [(6, 1)])), (7, .inl (0, [(5, 1)])), (8, .inl (0, [(7, 1)]))], [.inl (0, [(7, 1)]), .inl (0, [(5, 1)]), .inl (0, [(8, 1)]), .inr (.inr (.inl (some 95)))], [(19969, (0, []), (0, [(8, 1)]))]))] [] = true := by decide +kernel
theorem kz1 {cst : am_K} {strs : List Nat} {Φ : am_Q → Prop} {D : Nat} {M : am_M} {h : am_H} {l : am_L} (c : hp_C cst strs D) (hM : m_P[269]? = some M) (hD : (2 : Int) ≤ (D : Int) + 1) (hy : ly_hy m_tt ly_TH h) (va vb vc vd ve v i s n : Int) (b0 : (-2147483648) ≤ va) (t0 : va ≤ 2147483647) (b1 : (-2147483648) ≤ vb) (t1 : vb ≤ 2147483647) (b2 : (-2147483648) ≤ vc) (t2 : vc ≤ 2147483647) (b3 : (-2147483648) ≤ vd) (t3 : vd ≤ 2147483647) (b4 : (-2147483648) ≤ ve) (t4 : ve ≤ 2147483647) (b5 : (-2147483648) ≤ v) (t5 : v ≤ 2147483647) (b6 : 0 ≤ i) (t6 : i ≤ 4) (b7 : 0 ≤ s) (t7 : s ≤ 24) (b8 : 0 ≤ n) (t8 : n ≤ 1199) (k0 : ly_hv cst h 19969 0 = some (n)) (l0 : hp_a l 0 94) (l1 : hp_i l 1 (va)) (l2 : hp_i l 2 (vb)) (l3 : hp_i l 3 (vc)) (l4 : hp_i l 4 (vd)) (l5 : hp_i l 5 (ve)) (l6 : hp_i l 6 (i)) (l7 : hp_i l 7 (v)) (l8 : hp_i l 8 (s)) (e0 : ∀ (l' : am_L) (h' : am_H) (y0 : Int32) (y1 : Int32) (y2 : Int32), y0.toInt = (s) → y1.toInt = (v) → y2.toInt = (n) → ly_hy m_tt ly_TH h' → ly_fr cst [] h h' → h.length ≤ h'.length → ly_hv cst h' 19969 0 = some (n) → hp_a l' 0 94 → hp_i l' 1 (va) → hp_i l' 2 (vb) → hp_i l' 3 (vc) → hp_i l' 4 (vd) → hp_i l' 5 (ve) → hp_i l' 6 (i) → hp_i l' 7 (v) → hp_i l' 8 (s) → hp_F cst strs Φ D M 90 l' [.int y0, .int y1, .int y2, .ref 95] h') : hp_F cst strs Φ D M 73 l [] h := by
  refine hp_arc c hM kz1_k hD [va, vb, vc, vd, ve, v, i, s, n] rfl hy (hp_Bc (z := va) rfl b0 t0 (hp_Bc (z := vb) rfl b1 t1 (hp_Bc (z := vc) rfl b2 t2 (hp_Bc (z := vd) rfl b3 t3 (hp_Bc (z := ve) rfl b4 t4 (hp_Bc (z := v) rfl b5 t5 (hp_Bc (z := i) rfl b6 t6 (hp_Bc (z := s) rfl b7 t7 (hp_Bc (z := n) rfl b8 t8 hp_Bn))))))))) hp_Fn (hp_Kc (zi := (0 + 0)) (zv := (0 + (1 * n + 0))) k0 rfl rfl (by omega) (by omega) hp_Kn) (hp_La l0 (hp_Li (z := (0 + (1 * va + 0))) l1 rfl (by omega) (hp_Li (z := (0 + (1 * vb + 0))) l2 rfl (by omega) (hp_Li (z := (0 + (1 * vc + 0))) l3 rfl (by omega) (hp_Li (z := (0 + (1 * vd + 0))) l4 rfl (by omega) (hp_Li (z := (0 + (1 * ve + 0))) l5 rfl (by omega) (hp_Li (z := (0 + (1 * i + 0))) l6 rfl (by omega) (hp_Li (z := (0 + (1 * v + 0))) l7 rfl (by omega) (hp_Li (z := (0 + (1 * s + 0))) l8 rfl (by omega) hp_Ln))))))))) trivial ?_ ?_
  · intro p hp ys l' st' h' hys a1 a2 a3 gZ gL gS
    rcases List.mem_cons.mp hp with rfl | hp
    · obtain rfl := hp_y0 hys
      obtain ⟨y0, t0, rfl, q0, g0⟩ := hp_gSi (z := (0 + (1 * s + 0))) gS rfl
      obtain ⟨y1, t1, rfl, q1, g1⟩ := hp_gSi (z := (0 + (1 * v + 0))) g0 rfl
      obtain ⟨y2, t2, rfl, q2, g2⟩ := hp_gSi (z := (0 + (1 * n + 0))) g1 rfl
      obtain ⟨t3, rfl, g3⟩ := hp_gSa g2 (by decide)
      cases hp_gSn g3
      exact e0 l' h' y0 y1 y2 (by omega) (by omega) (by omega) a1 a2 a3 (hp_gK (zi := (0 + 0)) (zv := (0 + (1 * n + 0))) gZ.2.2.2 (List.mem_of_getElem? (i := 0) rfl) rfl rfl (by omega) (by omega)) (hp_gLa gL (List.mem_of_getElem? (i := 0) rfl) (by decide)) (hp_gLi (z := (0 + (1 * va + 0))) gL (List.mem_of_getElem? (i := 1) rfl) rfl (by omega)) (hp_gLi (z := (0 + (1 * vb + 0))) gL (List.mem_of_getElem? (i := 2) rfl) rfl (by omega)) (hp_gLi (z := (0 + (1 * vc + 0))) gL (List.mem_of_getElem? (i := 3) rfl) rfl (by omega)) (hp_gLi (z := (0 + (1 * vd + 0))) gL (List.mem_of_getElem? (i := 4) rfl) rfl (by omega)) (hp_gLi (z := (0 + (1 * ve + 0))) gL (List.mem_of_getElem? (i := 5) rfl) rfl (by omega)) (hp_gLi (z := (0 + (1 * i + 0))) gL (List.mem_of_getElem? (i := 6) rfl) rfl (by omega)) (hp_gLi (z := (0 + (1 * v + 0))) gL (List.mem_of_getElem? (i := 7) rfl) rfl (by omega)) (hp_gLi (z := (0 + (1 * s + 0))) gL (List.mem_of_getElem? (i := 8) rfl) rfl (by omega))
    cases hp
  · intro p hp ys v h' hys a1 a2 a3 gZ gS
    cases hp
theorem kz3_k : hp_chk 269 93 9 [(0, (-2147483648), 2147483647), (1, (-2147483648), 2147483647), (2, (-2147483648), 2147483647), (3, (-2147483648), 2147483647), (4, (-2147483648), 2147483647), (5, (-2147483648), 2147483647), (6, 0, 4), (7, 0, 24), (8, 0, 1199)] [] [(0, .inr (.inr (.inl (some 94)))), (1, .inl (0, [(0, 1)])), (2, .inl (0, [(1, 1)])), (3, .inl (0, [(2, 1)])), (4, .inl (0, [(3, 1)])), (5, .inl (0, [(4, 1)])), (6, .inl (0, [(6, 1)])), (7, .inl (0, [(5, 1)])), (8, .inl (0, [(7, 1)]))] [] [(19969, (0, []), (0, [(8, 1)]))] [19969] 2 [(73, ([], 9, [(0, (-2147483648), 2147483647), (1, (-2147483648), 2147483647), (2, (-2147483648), 2147483647), (3, (-2147483648), 2147483647), (4, (-2147483648), 2147483647), (5, (-2147483648), 2147483647), (6, 0, 4), (7, 0, 24), (8, 0, 1199)], [], [(0, .inr (.inr (.inl (some 94)))), (1, .inl (0, [(0, 1)])), (2, .inl (0, [(1, 1)])), (3, .inl (0, [(2, 1)])), (4, .inl (0, [(3, 1)])), (5, .inl (0, [(4, 1)])), (6, .inl (0, [(6, 1)])), (7, .inl (0, [(5, 1)])), (8, .inl ((-8), [(7, 1)]))], [], [(19969, (0, []), (1, [(8, 1)]))]))] [] = true := by decide +kernel
theorem kz3 {cst : am_K} {strs : List Nat} {Φ : am_Q → Prop} {D : Nat} {M : am_M} {h : am_H} {l : am_L} (c : hp_C cst strs D) (hM : m_P[269]? = some M) (hD : (2 : Int) ≤ (D : Int) + 1) (hy : ly_hy m_tt ly_TH h) (va vb vc vd ve v i s n : Int) (b0 : (-2147483648) ≤ va) (t0 : va ≤ 2147483647) (b1 : (-2147483648) ≤ vb) (t1 : vb ≤ 2147483647) (b2 : (-2147483648) ≤ vc) (t2 : vc ≤ 2147483647) (b3 : (-2147483648) ≤ vd) (t3 : vd ≤ 2147483647) (b4 : (-2147483648) ≤ ve) (t4 : ve ≤ 2147483647) (b5 : (-2147483648) ≤ v) (t5 : v ≤ 2147483647) (b6 : 0 ≤ i) (t6 : i ≤ 4) (b7 : 0 ≤ s) (t7 : s ≤ 24) (b8 : 0 ≤ n) (t8 : n ≤ 1199) (k0 : ly_hv cst h 19969 0 = some (n)) (l0 : hp_a l 0 94) (l1 : hp_i l 1 (va)) (l2 : hp_i l 2 (vb)) (l3 : hp_i l 3 (vc)) (l4 : hp_i l 4 (vd)) (l5 : hp_i l 5 (ve)) (l6 : hp_i l 6 (i)) (l7 : hp_i l 7 (v)) (l8 : hp_i l 8 (s)) (e0 : ∀ (l' : am_L) (h' : am_H), ly_hy m_tt ly_TH h' → ly_fr cst [19969] h h' → h.length ≤ h'.length → ly_hv cst h' 19969 0 = some (n + 1) → hp_a l' 0 94 → hp_i l' 1 (va) → hp_i l' 2 (vb) → hp_i l' 3 (vc) → hp_i l' 4 (vd) → hp_i l' 5 (ve) → hp_i l' 6 (i) → hp_i l' 7 (v) → hp_i l' 8 (s - 8) → hp_F cst strs Φ D M 73 l' [] h') : hp_F cst strs Φ D M 93 l [] h := by
  refine hp_arc c hM kz3_k hD [va, vb, vc, vd, ve, v, i, s, n] rfl hy (hp_Bc (z := va) rfl b0 t0 (hp_Bc (z := vb) rfl b1 t1 (hp_Bc (z := vc) rfl b2 t2 (hp_Bc (z := vd) rfl b3 t3 (hp_Bc (z := ve) rfl b4 t4 (hp_Bc (z := v) rfl b5 t5 (hp_Bc (z := i) rfl b6 t6 (hp_Bc (z := s) rfl b7 t7 (hp_Bc (z := n) rfl b8 t8 hp_Bn))))))))) hp_Fn (hp_Kc (zi := (0 + 0)) (zv := (0 + (1 * n + 0))) k0 rfl rfl (by omega) (by omega) hp_Kn) (hp_La l0 (hp_Li (z := (0 + (1 * va + 0))) l1 rfl (by omega) (hp_Li (z := (0 + (1 * vb + 0))) l2 rfl (by omega) (hp_Li (z := (0 + (1 * vc + 0))) l3 rfl (by omega) (hp_Li (z := (0 + (1 * vd + 0))) l4 rfl (by omega) (hp_Li (z := (0 + (1 * ve + 0))) l5 rfl (by omega) (hp_Li (z := (0 + (1 * i + 0))) l6 rfl (by omega) (hp_Li (z := (0 + (1 * v + 0))) l7 rfl (by omega) (hp_Li (z := (0 + (1 * s + 0))) l8 rfl (by omega) hp_Ln))))))))) trivial ?_ ?_
  · intro p hp ys l' st' h' hys a1 a2 a3 gZ gL gS
    rcases List.mem_cons.mp hp with rfl | hp
    · obtain rfl := hp_y0 hys
      cases hp_gSn gS
      exact e0 l' h' a1 a2 a3 (hp_gK (zi := (0 + 0)) (zv := (1 + (1 * n + 0))) gZ.2.2.2 (List.mem_of_getElem? (i := 0) rfl) rfl rfl (by omega) (by omega)) (hp_gLa gL (List.mem_of_getElem? (i := 0) rfl) (by decide)) (hp_gLi (z := (0 + (1 * va + 0))) gL (List.mem_of_getElem? (i := 1) rfl) rfl (by omega)) (hp_gLi (z := (0 + (1 * vb + 0))) gL (List.mem_of_getElem? (i := 2) rfl) rfl (by omega)) (hp_gLi (z := (0 + (1 * vc + 0))) gL (List.mem_of_getElem? (i := 3) rfl) rfl (by omega)) (hp_gLi (z := (0 + (1 * vd + 0))) gL (List.mem_of_getElem? (i := 4) rfl) rfl (by omega)) (hp_gLi (z := (0 + (1 * ve + 0))) gL (List.mem_of_getElem? (i := 5) rfl) rfl (by omega)) (hp_gLi (z := (0 + (1 * i + 0))) gL (List.mem_of_getElem? (i := 6) rfl) rfl (by omega)) (hp_gLi (z := (0 + (1 * v + 0))) gL (List.mem_of_getElem? (i := 7) rfl) rfl (by omega)) (hp_gLi (z := ((-8) + (1 * s + 0))) gL (List.mem_of_getElem? (i := 8) rfl) rfl (by omega))
    cases hp
  · intro p hp ys v h' hys a1 a2 a3 gZ gS
    cases hp
theorem kz4_k : hp_chk 269 73 8 [(0, (-2147483648), 2147483647), (1, (-2147483648), 2147483647), (2, (-2147483648), 2147483647), (3, (-2147483648), 2147483647), (4, (-2147483648), 2147483647), (5, (-2147483648), 2147483647), (6, 0, 4), (7, 0, 1200)] [] [(0, .inr (.inr (.inl (some 94)))), (1, .inl (0, [(0, 1)])), (2, .inl (0, [(1, 1)])), (3, .inl (0, [(2, 1)])), (4, .inl (0, [(3, 1)])), (5, .inl (0, [(4, 1)])), (6, .inl (0, [(6, 1)])), (7, .inl (0, [(5, 1)])), (8, .inl ((-8), []))] [] [(19969, (0, []), (0, [(7, 1)]))] [] 2 [(19, ([], 8, [(0, (-2147483648), 2147483647), (1, (-2147483648), 2147483647), (2, (-2147483648), 2147483647), (3, (-2147483648), 2147483647), (4, (-2147483648), 2147483647), (5, (-2147483648), 2147483647), (6, 0, 4), (7, 0, 1200)], [], [(0, .inr (.inr (.inl (some 94)))), (1, .inl (0, [(0, 1)])), (2, .inl (0, [(1, 1)])), (3, .inl (0, [(2, 1)])), (4, .inl (0, [(3, 1)])), (5, .inl (0, [(4, 1)])), (6, .inl (1, [(6, 1)]))], [], [(19969, (0, []), (0, [(7, 1)]))]))] [] = true := by decide +kernel
theorem kz4 {cst : am_K} {strs : List Nat} {Φ : am_Q → Prop} {D : Nat} {M : am_M} {h : am_H} {l : am_L} (c : hp_C cst strs D) (hM : m_P[269]? = some M) (hD : (2 : Int) ≤ (D : Int) + 1) (hy : ly_hy m_tt ly_TH h) (va vb vc vd ve v i n : Int) (b0 : (-2147483648) ≤ va) (t0 : va ≤ 2147483647) (b1 : (-2147483648) ≤ vb) (t1 : vb ≤ 2147483647) (b2 : (-2147483648) ≤ vc) (t2 : vc ≤ 2147483647) (b3 : (-2147483648) ≤ vd) (t3 : vd ≤ 2147483647) (b4 : (-2147483648) ≤ ve) (t4 : ve ≤ 2147483647) (b5 : (-2147483648) ≤ v) (t5 : v ≤ 2147483647) (b6 : 0 ≤ i) (t6 : i ≤ 4) (b7 : 0 ≤ n) (t7 : n ≤ 1200) (k0 : ly_hv cst h 19969 0 = some (n)) (l0 : hp_a l 0 94) (l1 : hp_i l 1 (va)) (l2 : hp_i l 2 (vb)) (l3 : hp_i l 3 (vc)) (l4 : hp_i l 4 (vd)) (l5 : hp_i l 5 (ve)) (l6 : hp_i l 6 (i)) (l7 : hp_i l 7 (v)) (l8 : hp_i l 8 (-8)) (e0 : ∀ (l' : am_L) (h' : am_H), ly_hy m_tt ly_TH h' → ly_fr cst [] h h' → h.length ≤ h'.length → ly_hv cst h' 19969 0 = some (n) → hp_a l' 0 94 → hp_i l' 1 (va) → hp_i l' 2 (vb) → hp_i l' 3 (vc) → hp_i l' 4 (vd) → hp_i l' 5 (ve) → hp_i l' 6 (i + 1) → hp_F cst strs Φ D M 19 l' [] h') : hp_F cst strs Φ D M 73 l [] h := by
  refine hp_arc c hM kz4_k hD [va, vb, vc, vd, ve, v, i, n] rfl hy (hp_Bc (z := va) rfl b0 t0 (hp_Bc (z := vb) rfl b1 t1 (hp_Bc (z := vc) rfl b2 t2 (hp_Bc (z := vd) rfl b3 t3 (hp_Bc (z := ve) rfl b4 t4 (hp_Bc (z := v) rfl b5 t5 (hp_Bc (z := i) rfl b6 t6 (hp_Bc (z := n) rfl b7 t7 hp_Bn)))))))) hp_Fn (hp_Kc (zi := (0 + 0)) (zv := (0 + (1 * n + 0))) k0 rfl rfl (by omega) (by omega) hp_Kn) (hp_La l0 (hp_Li (z := (0 + (1 * va + 0))) l1 rfl (by omega) (hp_Li (z := (0 + (1 * vb + 0))) l2 rfl (by omega) (hp_Li (z := (0 + (1 * vc + 0))) l3 rfl (by omega) (hp_Li (z := (0 + (1 * vd + 0))) l4 rfl (by omega) (hp_Li (z := (0 + (1 * ve + 0))) l5 rfl (by omega) (hp_Li (z := (0 + (1 * i + 0))) l6 rfl (by omega) (hp_Li (z := (0 + (1 * v + 0))) l7 rfl (by omega) (hp_Li (z := ((-8) + 0)) l8 rfl (by omega) hp_Ln))))))))) trivial ?_ ?_
  · intro p hp ys l' st' h' hys a1 a2 a3 gZ gL gS
    rcases List.mem_cons.mp hp with rfl | hp
    · obtain rfl := hp_y0 hys
      cases hp_gSn gS
      exact e0 l' h' a1 a2 a3 (hp_gK (zi := (0 + 0)) (zv := (0 + (1 * n + 0))) gZ.2.2.2 (List.mem_of_getElem? (i := 0) rfl) rfl rfl (by omega) (by omega)) (hp_gLa gL (List.mem_of_getElem? (i := 0) rfl) (by decide)) (hp_gLi (z := (0 + (1 * va + 0))) gL (List.mem_of_getElem? (i := 1) rfl) rfl (by omega)) (hp_gLi (z := (0 + (1 * vb + 0))) gL (List.mem_of_getElem? (i := 2) rfl) rfl (by omega)) (hp_gLi (z := (0 + (1 * vc + 0))) gL (List.mem_of_getElem? (i := 3) rfl) rfl (by omega)) (hp_gLi (z := (0 + (1 * vd + 0))) gL (List.mem_of_getElem? (i := 4) rfl) rfl (by omega)) (hp_gLi (z := (0 + (1 * ve + 0))) gL (List.mem_of_getElem? (i := 5) rfl) rfl (by omega)) (hp_gLi (z := (1 + (1 * i + 0))) gL (List.mem_of_getElem? (i := 6) rfl) rfl (by omega))
    cases hp
  · intro p hp ys v h' hys a1 a2 a3 gZ gS
    cases hp
theorem kx2_k : hp_chk 269 19 6 [(0, (-2147483648), 2147483647), (1, (-2147483648), 2147483647), (2, (-2147483648), 2147483647), (3, (-2147483648), 2147483647), (4, (-2147483648), 2147483647), (5, 0, 1200)] [] [(0, .inr (.inr (.inl (some 94)))), (1, .inl (0, [(0, 1)])), (2, .inl (0, [(1, 1)])), (3, .inl (0, [(2, 1)])), (4, .inl (0, [(3, 1)])), (5, .inl (0, [(4, 1)])), (6, .inl (5, []))] [] [(19969, (0, []), (0, [(5, 1)]))] [] 2 [] [([], 6, [(0, (-2147483648), 2147483647), (1, (-2147483648), 2147483647), (2, (-2147483648), 2147483647), (3, (-2147483648), 2147483647), (4, (-2147483648), 2147483647), (5, 0, 1200)], [], [], [.inl (0, [(5, 1)])], [(19969, (0, []), (0, [(5, 1)]))])] = true := by decide +kernel
theorem kx2 {cst : am_K} {strs : List Nat} {Φ : am_Q → Prop} {D : Nat} {M : am_M} {h : am_H} {l : am_L} (c : hp_C cst strs D) (hM : m_P[269]? = some M) (hD : (2 : Int) ≤ (D : Int) + 1) (hy : ly_hy m_tt ly_TH h) (va vb vc vd ve n : Int) (b0 : (-2147483648) ≤ va) (t0 : va ≤ 2147483647) (b1 : (-2147483648) ≤ vb) (t1 : vb ≤ 2147483647) (b2 : (-2147483648) ≤ vc) (t2 : vc ≤ 2147483647) (b3 : (-2147483648) ≤ vd) (t3 : vd ≤ 2147483647) (b4 : (-2147483648) ≤ ve) (t4 : ve ≤ 2147483647) (b5 : 0 ≤ n) (t5 : n ≤ 1200) (k0 : ly_hv cst h 19969 0 = some (n)) (l0 : hp_a l 0 94) (l1 : hp_i l 1 (va)) (l2 : hp_i l 2 (vb)) (l3 : hp_i l 3 (vc)) (l4 : hp_i l 4 (vd)) (l5 : hp_i l 5 (ve)) (l6 : hp_i l 6 5) (r0 : ∀ (h' : am_H) (y0 : Int32), y0.toInt = (n) → ly_hy m_tt ly_TH h' → ly_fr cst [] h h' → h.length ≤ h'.length → ly_hv cst h' 19969 0 = some (n) → Φ (some (.int y0), h', 0, 0)) : hp_F cst strs Φ D M 19 l [] h := by
  refine hp_arc c hM kx2_k hD [va, vb, vc, vd, ve, n] rfl hy (hp_Bc (z := va) rfl b0 t0 (hp_Bc (z := vb) rfl b1 t1 (hp_Bc (z := vc) rfl b2 t2 (hp_Bc (z := vd) rfl b3 t3 (hp_Bc (z := ve) rfl b4 t4 (hp_Bc (z := n) rfl b5 t5 hp_Bn)))))) hp_Fn (hp_Kc (zi := (0 + 0)) (zv := (0 + (1 * n + 0))) k0 rfl rfl (by omega) (by omega) hp_Kn) (hp_La l0 (hp_Li (z := (0 + (1 * va + 0))) l1 rfl (by omega) (hp_Li (z := (0 + (1 * vb + 0))) l2 rfl (by omega) (hp_Li (z := (0 + (1 * vc + 0))) l3 rfl (by omega) (hp_Li (z := (0 + (1 * vd + 0))) l4 rfl (by omega) (hp_Li (z := (0 + (1 * ve + 0))) l5 rfl (by omega) (hp_Li (z := (5 + 0)) l6 rfl (by omega) hp_Ln))))))) trivial ?_ ?_
  · intro p hp ys l' st' h' hys a1 a2 a3 gZ gL gS
    cases hp
  · intro p hp ys v h' hys a1 a2 a3 gZ gS
    rcases List.mem_cons.mp hp with rfl | hp
    · obtain rfl := hp_y0 hys
      cases v with
      | none => cases gS
      | some w =>
        obtain ⟨y0, t0, s0, q0, -⟩ := hp_gSi (z := (0 + (1 * n + 0))) gS rfl
        cases s0
        exact r0 h' y0 (by omega) a1 a2 a3 (hp_gK (zi := (0 + 0)) (zv := (0 + (1 * n + 0))) gZ.2.2.2 (List.mem_of_getElem? (i := 0) rfl) rfl rfl (by omega) (by omega))
    cases hp
noncomputable def hp_isUs (mi pc : Nat) : Bool := match sx_ch 16 mi sx_T with
  | some m => Nat.beq m.1 mi && (match sx_find pc m.2.2.2.2 with
    | some (.iushr, _) => true
    | _ => false)
  | none => false
noncomputable def hp_isSr (mi pc : Nat) : Bool := match sx_ch 16 mi sx_T with
  | some m => Nat.beq m.1 mi && (match sx_find pc m.2.2.2.2 with
    | some (.ishr, _) => true
    | _ => false)
  | none => false
noncomputable def hp_isIb (mi pc : Nat) : Bool := match sx_ch 16 mi sx_T with
  | some m => Nat.beq m.1 mi && (match sx_find pc m.2.2.2.2 with
    | some (.i2b, _) => true
    | _ => false)
  | none => false
noncomputable def hp_isBs (mi pc : Nat) : Bool := match sx_ch 16 mi sx_T with
  | some m => Nat.beq m.1 mi && (match sx_find pc m.2.2.2.2 with
    | some (.bastore, _) => true
    | _ => false)
  | none => false
theorem hp_us {cst : am_K} {strs : List Nat} {Φ : am_Q → Prop} {D mi pc : Nat} {M : am_M} {l : am_L} {st : List Value} {h : am_H} {x y : Int32} (hM : m_P[mi]? = some M) (hI : hp_isUs mi pc = true) (k : hp_F cst strs Φ D M (pc + 1) l (.int ((x.toUInt32 >>> (y.toUInt32 &&& Int32.toUInt32 31)).toInt32) :: st) h) : hp_F cst strs Φ D M pc l (.int y :: .int x :: st) h := by
  unfold hp_isUs at hI
  split at hI
  case h_2 => cases hI
  rename_i m hm
  rw [Bool.and_eq_true, sx_beqn] at hI
  obtain ⟨c0, hI⟩ := hI
  split at hI
  case h_2 => cases hI
  rename_i X hX
  obtain ⟨M', hM', hmok, -⟩ := sx_tok_m mi m hm c0
  rw [hM] at hM'
  cases hM'
  have hfind := hmok.2.2 _ _ hX
  have hs : am_s cst m_cl m_tt .iushr X pc l (.int y :: .int x :: st) h = some (pc + 1, l, .int ((x.toUInt32 >>> (y.toUInt32 &&& Int32.toUInt32 31)).toInt32) :: st, h) := rfl
  exact sx_Fin_step rfl (fun n r hgo => ⟨_, X, hfind, Or.inl ⟨_, hs, hgo⟩⟩) k
theorem hp_sr {cst : am_K} {strs : List Nat} {Φ : am_Q → Prop} {D mi pc : Nat} {M : am_M} {l : am_L} {st : List Value} {h : am_H} {x y : Int32} (hM : m_P[mi]? = some M) (hI : hp_isSr mi pc = true) (k : hp_F cst strs Φ D M (pc + 1) l (.int (x >>> (y &&& 31)) :: st) h) : hp_F cst strs Φ D M pc l (.int y :: .int x :: st) h := by
  unfold hp_isSr at hI
  split at hI
  case h_2 => cases hI
  rename_i m hm
  rw [Bool.and_eq_true, sx_beqn] at hI
  obtain ⟨c0, hI⟩ := hI
  split at hI
  case h_2 => cases hI
  rename_i X hX
  obtain ⟨M', hM', hmok, -⟩ := sx_tok_m mi m hm c0
  rw [hM] at hM'
  cases hM'
  have hfind := hmok.2.2 _ _ hX
  have hs : am_s cst m_cl m_tt .ishr X pc l (.int y :: .int x :: st) h = some (pc + 1, l, .int (x >>> (y &&& 31)) :: st, h) := rfl
  exact sx_Fin_step rfl (fun n r hgo => ⟨_, X, hfind, Or.inl ⟨_, hs, hgo⟩⟩) k
theorem hp_ib {cst : am_K} {strs : List Nat} {Φ : am_Q → Prop} {D mi pc : Nat} {M : am_M} {l : am_L} {st : List Value} {h : am_H} {x : Int32} (hM : m_P[mi]? = some M) (hI : hp_isIb mi pc = true) (k : hp_F cst strs Φ D M (pc + 1) l (.int (x.toInt8.toInt32) :: st) h) : hp_F cst strs Φ D M pc l (.int x :: st) h := by
  unfold hp_isIb at hI
  split at hI
  case h_2 => cases hI
  rename_i m hm
  rw [Bool.and_eq_true, sx_beqn] at hI
  obtain ⟨c0, hI⟩ := hI
  split at hI
  case h_2 => cases hI
  rename_i X hX
  obtain ⟨M', hM', hmok, -⟩ := sx_tok_m mi m hm c0
  rw [hM] at hM'
  cases hM'
  have hfind := hmok.2.2 _ _ hX
  have hs : am_s cst m_cl m_tt .i2b X pc l (.int x :: st) h = some (pc + 1, l, .int (x.toInt8.toInt32) :: st, h) := rfl
  exact sx_Fin_step rfl (fun n r hgo => ⟨_, X, hfind, Or.inl ⟨_, hs, hgo⟩⟩) k
theorem hp_stb {cst : am_K} {strs : List Nat} {Φ : am_Q → Prop} {D mi pc : Nat} {M : am_M} {l : am_L} {st : List Value} {h : am_H} {c n : Nat} {lo hi : Int} {x i : Int32} (hM : m_P[mi]? = some M) (hI : hp_isBs mi pc = true) (hy : ly_hy m_tt ly_TH h) (ht : ly_ths ly_TH c = some (.inl (.byte, n, lo, hi))) (hg : ly_dg (256 * c) = []) (h0 : 0 ≤ i.toInt) (h1 : i.toInt < (n : Int)) (v0 : lo ≤ (vp_nar .byte x).toInt) (v1 : (vp_nar .byte x).toInt ≤ hi)
    (k : ∀ h', ly_hy m_tt ly_TH h' → h'.length = h.length → hp_put cst (256 * c) i.toInt (vp_nar .byte x).toInt h h' → hp_F cst strs Φ D M (pc + 1) l st h') : hp_F cst strs Φ D M pc l (.int x :: .int i :: .ref (16 + c) :: st) h := by
  have hc := ly_ths_lt ht
  obtain ⟨xc, hx, cc, rfl, f, rfl, hf⟩ := hy.2.1 _ _ ht
  unfold hp_isBs at hI
  split at hI
  case h_2 => cases hI
  rename_i m hm
  rw [Bool.and_eq_true, sx_beqn] at hI
  obtain ⟨c0, hI⟩ := hI
  split at hI
  case h_2 => cases hI
  rename_i X hX
  obtain ⟨M', hM', hmok, -⟩ := sx_tok_m mi m hm c0
  rw [hM] at hM'
  cases hM'
  have hfind := hmok.2.2 _ _ hX
  have en : i.toNatClampNeg = i.toInt.toNat := rfl
  have hlt : ¬ (i < 0 ∨ n ≤ i.toNatClampNeg) := by
    rintro (q | q)
    · have := Int32.lt_iff_toInt_lt.mp q
      have z : (0 : Int32).toInt = 0 := rfl
      omega
    · omega
  have hs : am_s cst m_cl m_tt .bastore X pc l (.int x :: .int i :: .ref (16 + c) :: st) h = some (pc + 1, l, st, h.set c (.inl (.byte, n, .inl (upd f i.toNatClampNeg (vp_nar .byte x))))) := by
    have e16 : 16 + c - 16 = c := by omega
    have g16 : ¬ 16 + c < 16 := by omega
    simp only [am_s, if_neg g16, e16, hx, if_neg hlt]
  have up : ∀ j, upd f i.toNatClampNeg (vp_nar .byte x) j = if j = i.toNatClampNeg then vp_nar .byte x else f j := fun j => rfl
  refine sx_Fin_step rfl (fun n r hgo => ⟨_, X, hfind, Or.inl ⟨_, hs, hgo⟩⟩) (k _ (ly_hy_set1 hy hc fun t ht' => ?_) (by rw [List.length_set]) (hp_put_of (n := n) hg hc hx ?_ ?_))
  · rw [ht] at ht'
    cases ht'
    refine ⟨_, rfl, _, rfl, fun j hj => ?_⟩
    rw [up]
    by_cases ej : j = i.toNatClampNeg
    · rw [if_pos ej]; exact ⟨v0, v1⟩
    · rw [if_neg ej]; exact hf j hj
  · simp only [ly_hs]
    rw [if_pos ⟨trivial, h0, by omega⟩, up, if_pos (by omega)]
  · intro k i' hne
    simp only [ly_hs]
    by_cases hk : k = 0 ∧ 0 ≤ i' ∧ i'.toNat < n
    · rw [if_pos hk, if_pos hk, up, if_neg]
      have := hne.resolve_left (fun q => q hk.1)
      omega
    · rw [if_neg hk, if_neg hk]
theorem hp_rowb {cst : am_K} {h : am_H} {c n : Nat} {lo hi i : Int} (hy : ly_hy m_tt ly_TH h) (ht : ly_ths ly_TH c = some (.inl (.byte, n, lo, hi))) (h0 : 0 ≤ i) (h1 : i < (n : Int)) : ∃ v, ly_hv cst h (256 * c) i = some v ∧ lo ≤ v ∧ v ≤ hi := by
  have hc := ly_ths_lt ht
  obtain ⟨x, hx, cc, rfl, f, rfl, hf⟩ := hy.2.1 _ _ ht
  have := hf i.toNat (by omega)
  refine ⟨_, ?_, this⟩
  rw [ly_hv0 (by omega)]
  have := ly_h0_of1 (cst := cst) (h := h) (k := 0) (i := i) hc (by omega)
  rw [Nat.add_zero] at this
  rw [this, hx]
  simp only [ly_hs]
  rw [if_pos ⟨trivial, h0, by omega⟩]
theorem hp_sameb {cst : am_K} {h h' : am_H} {c n : Nat} {lo hi : Int} {mods : List Nat} (ht : ly_ths ly_TH c = some (.inl (.byte, n, lo, hi))) (hm : ly_has (256 * c) mods = false) (hy : ly_hy m_tt ly_TH h) (hy' : ly_hy m_tt ly_TH h') (fr : ly_fr cst mods h h') : ly_hv cst h' (256 * c) = ly_hv cst h (256 * c) := by
  funext i
  by_cases hi : 0 ≤ i ∧ i < (n : Int)
  · obtain ⟨v, hv, -⟩ := hp_rowb (cst := cst) hy ht hi.1 hi.2
    rw [hv, fr _ _ _ hm hv]
  · have hc := ly_ths_lt ht
    have none : ∀ h : am_H, ly_hy m_tt ly_TH h → ly_hv cst h (256 * c) i = none := fun h hy => by
      obtain ⟨x, hx, cc, rfl, f, rfl, hf⟩ := hy.2.1 _ _ ht
      rw [ly_hv0 (by omega)]
      have := ly_h0_of1 (cst := cst) (h := h) (k := 0) (i := i) hc (by omega)
      rw [Nat.add_zero] at this
      rw [this, hx]
      simp only [ly_hs]
      rw [if_neg (by omega)]
    rw [none h hy, none h' hy']
theorem th_BT : ly_ths ly_TH 79 = some (.inl (.byte, 1200, -128, 127)) := rfl
theorem th_CT : ly_ths ly_TH 2 = some (.inl (.int, 1200, 0, 255)) := rfl
theorem hp_m8 {cst : am_K} {h : am_H} (x : Int) : ly_hv cst h 63008 x = some (x % 256) := by
  unfold ly_hv
  rw [if_neg (by omega), if_neg (by omega), if_neg (by omega), if_neg (by omega), if_neg (by omega)]
  rfl
/-- a byte of an int: the class's, the reference's -/
def tq_x (v : Int32) (s : Int) : Int32 := (v.toUInt32 >>> ((Int32.ofInt s).toUInt32 &&& Int32.toUInt32 31)).toInt32
def tq_y (v : Int32) (s : Int) : Int32 := (v >>> (Int32.ofInt s &&& 31)).toInt8.toInt32
theorem tq_bit (x : BitVec 32) (c : Nat) (hc : c ≤ 24) (j : Nat) (hj : j < 32) : ((x >>> c) &&& 255#32).getLsbD j = (((x.sshiftRight c).signExtend 8).signExtend 32 &&& 255#32).getLsbD j := by
  have h255 : ∀ j : Nat, j < 32 → (255#32).getLsbD j = decide (j < 8) := by decide
  rw [BitVec.getLsbD_and, BitVec.getLsbD_and, h255 j hj]
  by_cases q : j < 8
  · have e1 : (x >>> c).getLsbD j = x.getLsbD (c + j) := BitVec.getLsbD_ushiftRight ..
    have e2 : (((x.sshiftRight c).signExtend 8).signExtend 32).getLsbD j = x.getLsbD (c + j) := by
      rw [BitVec.getLsbD_signExtend, BitVec.getLsbD_signExtend, BitVec.getLsbD_sshiftRight]
      simp [q, hj, show ¬ 32 ≤ j by omega, show c + j < 32 by omega]
    rw [e1, e2]
  · simp [q]
theorem tq_eq (v : Int32) {s : Int} (hs : s = 0 ∨ s = 8 ∨ s = 16 ∨ s = 24) : (tq_x v s).toInt % 256 = (tq_y v s).toInt % 256 := by
  rw [← (ly_and_m (tq_x v s)).1, ← (ly_and_m (tq_y v s)).1]
  have e : tq_x v s &&& 255 = tq_y v s &&& 255 := by
    apply Int32.toBitVec_inj.mp
    apply BitVec.eq_of_getLsbD_eq
    intro j hj
    rcases hs with rfl | rfl | rfl | rfl
    · exact tq_bit v.toBitVec 0 (by omega) j hj
    · exact tq_bit v.toBitVec 8 (by omega) j hj
    · exact tq_bit v.toBitVec 16 (by omega) j hj
    · exact tq_bit v.toBitVec 24 (by omega) j hj
  rw [e]
theorem tq_of {y : Int32} {s : Int} (h : y.toInt = s) : y = Int32.ofInt s := by
  rw [← h]
  exact (Int32.ofInt_toInt y).symm
/-- bytes written from n on, m of them -/
def tb_R (f0 : Int → Option Int) (n m : Int) (g : Int → Int) (f : Int → Option Int) : Prop := ∀ k, ((n ≤ k ∧ k < n + m) → f k = some (g (k - n))) ∧ (¬ (n ≤ k ∧ k < n + m) → f k = f0 k)
theorem tb_0 (f0 : Int → Option Int) (n : Int) (g : Int → Int) : tb_R f0 n 0 g f0 := fun k => ⟨fun h => by omega, fun _ => rfl⟩
theorem tb_s {f0 f f' : Int → Option Int} {n m v : Int} {g : Int → Int} (m0 : 0 ≤ m) (H : tb_R f0 n m g f) (hv : v = g m) (e1 : f' (n + m) = some v) (e2 : ∀ k, k ≠ n + m → f' k = f k) : tb_R f0 n (m + 1) g f' := by
  intro k
  by_cases q : k = n + m
  · subst q
    refine ⟨fun _ => ?_, fun h => by omega⟩
    rw [e1, hv, show n + m - n = m by omega]
  · rw [e2 k q]
    exact ⟨fun h => (H k).1 (by omega), fun h => (H k).2 (by omega)⟩
def tq_C (ar : Int → Int32) (q : Int) : Int := (tq_x (ar (q / 4)) (24 - 8 * (q % 4))).toInt % 256
def tq_R (ar : Int → Int32) (q : Int) : Int := (tq_y (ar (q / 4)) (24 - 8 * (q % 4))).toInt
theorem tq_CR (ar : Int → Int32) (q : Int) (q0 : 0 ≤ q) : tq_C ar q = tq_R ar q % 256 := by
  unfold tq_C tq_R
  exact tq_eq _ (by omega)
theorem kt_loop {cst : am_K} {strs : List Nat} {D : Nat} {M : am_M} {h0 : am_H} (c : hp_C cst strs D) (hM : m_P[23]? = some M) (hD : (2 : Int) ≤ (D : Int) + 1) {v : Int32} {f0 : Int → Option Int} {N i : Int} {ar : Int → Int32} (N0 : 0 ≤ N) (N1 : N ≤ 1180) (i0 : 0 ≤ i) (i1 : i ≤ 4) (hv : v = ar i) :
    ∀ (k j : Nat), j + k = 4 → ∀ (h : am_H) (l : am_L), ly_hy m_tt ly_TH h → ly_fr cst [257, 512] h0 h → ly_hv cst h 257 0 = some (N + 4 * i + (j : Int)) → tb_R f0 N (4 * i + (j : Int)) (tq_C ar) (ly_hv cst h 512) → hp_a l 0 17 → hp_i l 1 v.toInt → hp_i l 2 (24 - 8 * (j : Int)) → hp_F cst strs (fun r => r.1 = none ∧ r.2.2.1 = 0 ∧ r.2.2.2 = 0 ∧ ly_hy m_tt ly_TH r.2.1 ∧ ly_fr cst [257, 512] h0 r.2.1 ∧ ly_hv cst r.2.1 257 0 = some (N + 4 * i + 4) ∧ tb_R f0 N (4 * i + 4) (tq_C ar) (ly_hv cst r.2.1 512)) D M 3 l [] h := by
  intro k
  induction k with
  | zero =>
    intro j hj h l hy fr kn H l0 l1 l2
    have e : j = 4 := by omega
    subst e
    exact kt4 c hM hD hy v.toInt (N + 4 * i + 4) v.le_toInt v.toInt_le (by omega) (by omega) kn l0 l1 l2 (fun h2 u1 u2 u3 k1 => ⟨rfl, rfl, rfl, u1, ly_fr_tr fr (fun r i v _ e => u2 r i v rfl e), k1, by show tb_R _ _ _ _ (ly_hv cst h2 512); rw [hp_same th_CT rfl hy u1 u2]; exact H⟩)
  | succ k ih =>
    intro j hj h l hy fr kn H l0 l1 l2
    refine kt1 c hM hD hy v.toInt (24 - 8 * (j : Int)) (N + 4 * i + (j : Int)) v.le_toInt v.toInt_le (by omega) (by omega) (by omega) (by omega) kn l0 l1 l2 (fun l1' h1 y0 y1 y2 f0' f1' f2' u1 u2 u3 k1 m0 m1 m2 => ?_)
    have ey : y1 = v := Int32.toInt_inj.mp f1'
    have es := tq_of f0'
    refine hp_us hM (by decide +kernel) ?_
    have ex : (y1.toUInt32 >>> (y0.toUInt32 &&& Int32.toUInt32 31)).toInt32 = tq_x v (24 - 8 * (j : Int)) := by rw [ey, es]; rfl
    rw [ex]
    refine kt2 c hM hD u1 v.toInt (tq_x v (24 - 8 * (j : Int))).toInt (24 - 8 * (j : Int)) (N + 4 * i + (j : Int)) ((tq_x v (24 - 8 * (j : Int))).toInt % 256) (tq_x v (24 - 8 * (j : Int))) y2 rfl f2' v.le_toInt v.toInt_le (tq_x v (24 - 8 * (j : Int))).le_toInt (tq_x v (24 - 8 * (j : Int))).toInt_le (by omega) (by omega) (by omega) (by omega) (by omega) (by omega) k1 (hp_m8 _) m0 m1 m2 (fun l2' h2 z0 z1 e0 e1 w1 w2 w3 k2 n0 n1 n2 => ?_)
    refine hp_st (c := 2) hM (by decide +kernel) w1 th_CT rfl (by omega) (by omega) (by omega) (by omega) (fun h3 q1 q2 q3 => ?_)
    rw [e0, e1] at q3
    refine kt3 c hM hD q1 v.toInt (24 - 8 * (j : Int)) (N + 4 * i + (j : Int)) v.le_toInt v.toInt_le (by omega) (by omega) (by omega) (by omega) (by rw [hp_put_ne q3 (by decide)]; exact k2) n0 n1 n2 (fun l4 h4 t1 t2 t3 k4 o0 o1 o2 => ?_)
    refine ih (j + 1) (by omega) h4 l4 t1 (ly_fr_tr fr (ly_fr_tr (fun r i v _ e => w2 r i v rfl (u2 r i v rfl e)) (ly_fr_tr (hp_put_fr (by rfl) q3) (hp_sub2 rfl t2)))) (by rw [show N + 4 * i + ((j + 1 : Nat) : Int) = N + 4 * i + (j : Int) + 1 by omega]; exact k4) ?_ o0 o1 (by rw [show 24 - 8 * ((j + 1 : Nat) : Int) = 24 - 8 * (j : Int) - 8 by omega]; exact o2)
    rw [show 4 * i + ((j + 1 : Nat) : Int) = 4 * i + (j : Int) + 1 by omega, hp_same th_CT rfl q1 t1 t2, hp_put_eq q3, hp_same th_CT rfl u1 w1 w2, hp_same th_CT rfl hy u1 u2]
    refine tb_s (by omega) H ?_ (by rw [show N + 4 * i + (j : Int) = N + (4 * i + (j : Int)) by omega]; exact if_pos rfl) (fun k' hk => if_neg (by omega))
    unfold tq_C
    rw [show (4 * i + (j : Int)) / 4 = i by omega, show (4 * i + (j : Int)) % 4 = (j : Int) by omega, hv]
theorem kt_run {cst : am_K} {strs : List Nat} {D : Nat} {h : am_H} (c : hp_C cst strs D) (hD : (2 : Int) ≤ (D : Int) + 1) (hy : ly_hy m_tt ly_TH h) {v : Int32} {f0 : Int → Option Int} {N i : Int} {ar : Int → Int32} (N0 : 0 ≤ N) (N1 : N ≤ 1180) (i0 : 0 ≤ i) (i1 : i ≤ 4) (hv : v = ar i) (kn : ly_hv cst h 257 0 = some (N + 4 * i)) (H : tb_R f0 N (4 * i) (tq_C ar) (ly_hv cst h 512)) :
    ∃ r, am_Run cst m_cl m_tt m_P strs sx_bi (D + 1) 23 [.ref 17, .int v] h r ∧ r.1 = none ∧ r.2.2.1 = 0 ∧ r.2.2.2 = 0 ∧ ly_hy m_tt ly_TH r.2.1 ∧ ly_fr cst [257, 512] h r.2.1 ∧ ly_hv cst r.2.1 257 0 = some (N + 4 * i + 4) ∧ tb_R f0 N (4 * i + 4) (tq_C ar) (ly_hv cst r.2.1 512) := by
  obtain ⟨M, hM, hl⟩ := hp_M (mi := 23) (k := 2) (by decide +kernel)
  obtain ⟨n, r, hgo, r1, r2, r3, r4⟩ := kt0 (l := lv_args 0 [.ref 17, .int v]) c hM hD hy v.toInt v.le_toInt v.toInt_le rfl ⟨v, rfl, rfl⟩ (fun l' h2 u1 u2 u3 w0 w1 w2 => kt_loop (h0 := h) (f0 := f0) (ar := ar) c hM hD N0 N1 i0 i1 hv 4 0 (by omega) h2 l' u1 (fun r i x _ e => u2 r i x rfl e) (by rw [show N + 4 * i + ((0 : Nat) : Int) = N + 4 * i by omega]; exact u2 _ _ _ rfl kn) (by rw [show 4 * i + ((0 : Nat) : Int) = 4 * i by omega, hp_same th_CT rfl hy u1 u2]; exact H) w0 w1 w2)
  simp only [Nat.zero_add] at r2 r3
  exact ⟨r, Or.inr ⟨M, n, hM, hl, hgo⟩, r1, r2, r3, r4⟩
def tq_ar (xa xb xc xd xe : Int32) : Int → Int32 := fun i => if i = 0 then xa else if i = 1 then xb else if i = 2 then xc else if i = 3 then xd else xe
def tp_Φ (cst : am_K) (h : am_H) (L R : Nat) (n : Int) (g : Int → Int) (r : am_Q) : Prop := (∃ a : Int32, r.1 = some (.int a)) ∧ r.2.2.1 = 0 ∧ r.2.2.2 = 0 ∧ ly_hy m_tt ly_TH r.2.1 ∧ ly_fr cst [L, R] h r.2.1 ∧ ((1181 ≤ n → ly_hv cst r.2.1 L 0 = some n ∧ ly_hv cst r.2.1 R = ly_hv cst h R) ∧ (n ≤ 1180 → ly_hv cst r.2.1 L 0 = some (n + 20) ∧ tb_R (ly_hv cst h R) n 20 g (ly_hv cst r.2.1 R)))
theorem ku_run {cst : am_K} {strs : List Nat} {D : Nat} {h : am_H} (c1 : hp_C cst strs D) (c : hp_C cst strs (D + 1)) (hD : (3 : Int) ≤ (D : Int) + 1) (hy : ly_hy m_tt ly_TH h) {xa xb xc xd xe : Int32} {n : Int} (n0 : 0 ≤ n) (n1 : n ≤ 1200) (kn : ly_hv cst h 257 0 = some n) :
    ∃ r, am_Run cst m_cl m_tt m_P strs sx_bi (D + 1 + 1) 21 [.ref 16, .int xa, .int xb, .int xc, .int xd, .int xe] h r ∧ tp_Φ cst h 257 512 n (tq_C (tq_ar xa xb xc xd xe)) r := by
  obtain ⟨M, hM, hl⟩ := hp_M (mi := 21) (k := 6) (by decide +kernel)
  have go : hp_F cst strs (tp_Φ cst h 257 512 n (tq_C (tq_ar xa xb xc xd xe))) (D + 1) M 0 (lv_args 0 [.ref 16, .int xa, .int xb, .int xc, .int xd, .int xe]) [] h := by
    by_cases q : 1181 ≤ n
    · exact ku0 c hM (by omega) hy xa.toInt xb.toInt xc.toInt xd.toInt xe.toInt n xa.le_toInt xa.toInt_le xb.le_toInt xb.toInt_le xc.le_toInt xc.toInt_le xd.le_toInt xd.toInt_le xe.le_toInt xe.toInt_le q n1 kn rfl ⟨xa, rfl, rfl⟩ ⟨xb, rfl, rfl⟩ ⟨xc, rfl, rfl⟩ ⟨xd, rfl, rfl⟩ ⟨xe, rfl, rfl⟩ (fun h2 a ha u1 u2 u3 k1 => ⟨⟨a, rfl⟩, rfl, rfl, u1, (fun r i x _ e => u2 r i x rfl e), fun _ => ⟨k1, hp_same th_CT rfl hy u1 u2⟩, fun z => by omega⟩)
    have H0 : tb_R (ly_hv cst h 512) n (4 * 0) (tq_C (tq_ar xa xb xc xd xe)) (ly_hv cst h 512) := tb_0 _ _ _
    have F0 : ly_fr cst [257, 512] h h := ly_fr_rf h
    refine kv0 c hM (by omega) hy xa.toInt xb.toInt xc.toInt xd.toInt xe.toInt (n) xa.le_toInt xa.toInt_le xb.le_toInt xb.toInt_le xc.le_toInt xc.toInt_le xd.le_toInt xd.toInt_le xe.le_toInt xe.toInt_le (by omega) (by omega) kn rfl ⟨xa, rfl, rfl⟩ ⟨xb, rfl, rfl⟩ ⟨xc, rfl, rfl⟩ ⟨xd, rfl, rfl⟩ ⟨xe, rfl, rfl⟩ (fun l0 a0 y0 f0 u0 w0 z0 k0 g0_0 g0_1 g0_2 g0_3 g0_4 g0_5 => ?_)
    have ey0 : y0 = xa := Int32.toInt_inj.mp f0
    obtain ⟨r0, run0, s01, s02, s03, hy0, fr0, kr0, H1⟩ := kt_run (v := y0) (f0 := ly_hv cst h 512) (N := n) (i := 0) (ar := (tq_ar xa xb xc xd xe)) c1 (by omega) u0 n0 (by omega) (by omega) (by omega) (by rw [ey0]; rfl) (by rw [show n + 4 * (0 : Int) = n by omega]; exact k0) (by rw [hp_same th_CT rfl hy u0 w0]; exact H0)
    refine hp_call (mi := 21) (pc := 20) (tg := 23) (na := 2) (c := 1) (ci := 1) (st0 := [.int y0, .ref 17]) (st := []) (av := [.int y0]) hM (by decide +kernel) u0 rfl rfl rfl (by decide) run0 s02 s03 ?_
    rw [s01]
    have F1 : ly_fr cst [257, 512] h r0.2.1 := ly_fr_tr F0 (ly_fr_tr (fun r i x _ e => w0 r i x rfl e) fr0)
    have H1' : tb_R (ly_hv cst h 512) n (4 * 1) (tq_C (tq_ar xa xb xc xd xe)) (ly_hv cst r0.2.1 512) := by rw [show 4 * (1 : Int) = 4 * 0 + 4 by omega]; exact H1
    refine kv1 c hM (by omega) hy0 xa.toInt xb.toInt xc.toInt xd.toInt xe.toInt (n + 4) xa.le_toInt xa.toInt_le xb.le_toInt xb.toInt_le xc.le_toInt xc.toInt_le xd.le_toInt xd.toInt_le xe.le_toInt xe.toInt_le (by omega) (by omega) (by rw [show n + 4 = n + 4 * (0 : Int) + 4 by omega]; exact kr0) g0_0 g0_1 g0_2 g0_3 g0_4 g0_5 (fun l1 a1 y1 f1 u1 w1 z1 k1 g1_0 g1_1 g1_2 g1_3 g1_4 g1_5 => ?_)
    have ey1 : y1 = xb := Int32.toInt_inj.mp f1
    obtain ⟨r1, run1, s11, s12, s13, hy1, fr1, kr1, H2⟩ := kt_run (v := y1) (f0 := ly_hv cst h 512) (N := n) (i := 1) (ar := (tq_ar xa xb xc xd xe)) c1 (by omega) u1 n0 (by omega) (by omega) (by omega) (by rw [ey1]; rfl) (by rw [show n + 4 * (1 : Int) = n + 4 by omega]; exact k1) (by rw [hp_same th_CT rfl hy0 u1 w1]; exact H1')
    refine hp_call (mi := 21) (pc := 28) (tg := 23) (na := 2) (c := 1) (ci := 1) (st0 := [.int y1, .ref 17]) (st := []) (av := [.int y1]) hM (by decide +kernel) u1 rfl rfl rfl (by decide) run1 s12 s13 ?_
    rw [s11]
    have F2 : ly_fr cst [257, 512] h r1.2.1 := ly_fr_tr F1 (ly_fr_tr (fun r i x _ e => w1 r i x rfl e) fr1)
    have H2' : tb_R (ly_hv cst h 512) n (4 * 2) (tq_C (tq_ar xa xb xc xd xe)) (ly_hv cst r1.2.1 512) := by rw [show 4 * (2 : Int) = 4 * 1 + 4 by omega]; exact H2
    refine kv2 c hM (by omega) hy1 xa.toInt xb.toInt xc.toInt xd.toInt xe.toInt (n + 8) xa.le_toInt xa.toInt_le xb.le_toInt xb.toInt_le xc.le_toInt xc.toInt_le xd.le_toInt xd.toInt_le xe.le_toInt xe.toInt_le (by omega) (by omega) (by rw [show n + 8 = n + 4 * (1 : Int) + 4 by omega]; exact kr1) g1_0 g1_1 g1_2 g1_3 g1_4 g1_5 (fun l2 a2 y2 f2 u2 w2 z2 k2 g2_0 g2_1 g2_2 g2_3 g2_4 g2_5 => ?_)
    have ey2 : y2 = xc := Int32.toInt_inj.mp f2
    obtain ⟨r2, run2, s21, s22, s23, hy2, fr2, kr2, H3⟩ := kt_run (v := y2) (f0 := ly_hv cst h 512) (N := n) (i := 2) (ar := (tq_ar xa xb xc xd xe)) c1 (by omega) u2 n0 (by omega) (by omega) (by omega) (by rw [ey2]; rfl) (by rw [show n + 4 * (2 : Int) = n + 8 by omega]; exact k2) (by rw [hp_same th_CT rfl hy1 u2 w2]; exact H2')
    refine hp_call (mi := 21) (pc := 36) (tg := 23) (na := 2) (c := 1) (ci := 1) (st0 := [.int y2, .ref 17]) (st := []) (av := [.int y2]) hM (by decide +kernel) u2 rfl rfl rfl (by decide) run2 s22 s23 ?_
    rw [s21]
    have F3 : ly_fr cst [257, 512] h r2.2.1 := ly_fr_tr F2 (ly_fr_tr (fun r i x _ e => w2 r i x rfl e) fr2)
    have H3' : tb_R (ly_hv cst h 512) n (4 * 3) (tq_C (tq_ar xa xb xc xd xe)) (ly_hv cst r2.2.1 512) := by rw [show 4 * (3 : Int) = 4 * 2 + 4 by omega]; exact H3
    refine kv3 c hM (by omega) hy2 xa.toInt xb.toInt xc.toInt xd.toInt xe.toInt (n + 12) xa.le_toInt xa.toInt_le xb.le_toInt xb.toInt_le xc.le_toInt xc.toInt_le xd.le_toInt xd.toInt_le xe.le_toInt xe.toInt_le (by omega) (by omega) (by rw [show n + 12 = n + 4 * (2 : Int) + 4 by omega]; exact kr2) g2_0 g2_1 g2_2 g2_3 g2_4 g2_5 (fun l3 a3 y3 f3 u3 w3 z3 k3 g3_0 g3_1 g3_2 g3_3 g3_4 g3_5 => ?_)
    have ey3 : y3 = xd := Int32.toInt_inj.mp f3
    obtain ⟨r3, run3, s31, s32, s33, hy3, fr3, kr3, H4⟩ := kt_run (v := y3) (f0 := ly_hv cst h 512) (N := n) (i := 3) (ar := (tq_ar xa xb xc xd xe)) c1 (by omega) u3 n0 (by omega) (by omega) (by omega) (by rw [ey3]; rfl) (by rw [show n + 4 * (3 : Int) = n + 12 by omega]; exact k3) (by rw [hp_same th_CT rfl hy2 u3 w3]; exact H3')
    refine hp_call (mi := 21) (pc := 45) (tg := 23) (na := 2) (c := 1) (ci := 1) (st0 := [.int y3, .ref 17]) (st := []) (av := [.int y3]) hM (by decide +kernel) u3 rfl rfl rfl (by decide) run3 s32 s33 ?_
    rw [s31]
    have F4 : ly_fr cst [257, 512] h r3.2.1 := ly_fr_tr F3 (ly_fr_tr (fun r i x _ e => w3 r i x rfl e) fr3)
    have H4' : tb_R (ly_hv cst h 512) n (4 * 4) (tq_C (tq_ar xa xb xc xd xe)) (ly_hv cst r3.2.1 512) := by rw [show 4 * (4 : Int) = 4 * 3 + 4 by omega]; exact H4
    refine kv4 c hM (by omega) hy3 xa.toInt xb.toInt xc.toInt xd.toInt xe.toInt (n + 16) xa.le_toInt xa.toInt_le xb.le_toInt xb.toInt_le xc.le_toInt xc.toInt_le xd.le_toInt xd.toInt_le xe.le_toInt xe.toInt_le (by omega) (by omega) (by rw [show n + 16 = n + 4 * (3 : Int) + 4 by omega]; exact kr3) g3_0 g3_1 g3_2 g3_3 g3_4 g3_5 (fun l4 a4 y4 f4 u4 w4 z4 k4 g4_0 g4_1 g4_2 g4_3 g4_4 g4_5 => ?_)
    have ey4 : y4 = xe := Int32.toInt_inj.mp f4
    obtain ⟨r4, run4, s41, s42, s43, hy4, fr4, kr4, H5⟩ := kt_run (v := y4) (f0 := ly_hv cst h 512) (N := n) (i := 4) (ar := (tq_ar xa xb xc xd xe)) c1 (by omega) u4 n0 (by omega) (by omega) (by omega) (by rw [ey4]; rfl) (by rw [show n + 4 * (4 : Int) = n + 16 by omega]; exact k4) (by rw [hp_same th_CT rfl hy3 u4 w4]; exact H4')
    refine hp_call (mi := 21) (pc := 54) (tg := 23) (na := 2) (c := 1) (ci := 1) (st0 := [.int y4, .ref 17]) (st := []) (av := [.int y4]) hM (by decide +kernel) u4 rfl rfl rfl (by decide) run4 s42 s43 ?_
    rw [s41]
    have F5 : ly_fr cst [257, 512] h r4.2.1 := ly_fr_tr F4 (ly_fr_tr (fun r i x _ e => w4 r i x rfl e) fr4)
    have H5' : tb_R (ly_hv cst h 512) n (4 * 5) (tq_C (tq_ar xa xb xc xd xe)) (ly_hv cst r4.2.1 512) := by rw [show 4 * (5 : Int) = 4 * 4 + 4 by omega]; exact H5
    exact ku1 c hM (by omega) hy4 xa.toInt xb.toInt xc.toInt xd.toInt xe.toInt (n + 20) xa.le_toInt xa.toInt_le xb.le_toInt xb.toInt_le xc.le_toInt xc.toInt_le xd.le_toInt xd.toInt_le xe.le_toInt xe.toInt_le (by omega) (by omega) (by rw [show n + 20 = n + 4 * (4 : Int) + 4 by omega]; exact kr4) g4_0 g4_1 g4_2 g4_3 g4_4 g4_5 (fun h2 a ha u1 u2 u3 k1 => ⟨⟨a, rfl⟩, rfl, rfl, u1, ly_fr_tr F5 (fun r i x _ e => u2 r i x rfl e), fun z => absurd z q, fun _ => ⟨k1, by rw [hp_same th_CT rfl hy4 u1 u2]; exact H5'⟩⟩)
  obtain ⟨n', r, hgo, r1, r2, r3, r4⟩ := go
  simp only [Nat.zero_add] at r2 r3
  exact ⟨r, Or.inr ⟨M, n', hM, hl, hgo⟩, r1, r2, r3, r4⟩
theorem kz_loop {cst : am_K} {strs : List Nat} {D : Nat} {M : am_M} {h0 : am_H} {Φ : am_Q → Prop} (c : hp_C cst strs D) (hM : m_P[269]? = some M) (hD : (2 : Int) ≤ (D : Int) + 1) {xa xb xc xd xe v : Int32} {f0 : Int → Option Int} {N i : Int} {ar : Int → Int32} (N0 : 0 ≤ N) (N1 : N ≤ 1180) (i0 : 0 ≤ i) (i1 : i ≤ 4) (hv : v = ar i)
    (kc : ∀ (h : am_H) (l : am_L), ly_hy m_tt ly_TH h → ly_fr cst [19969, 20224] h0 h → ly_hv cst h 19969 0 = some (N + 4 * i + 4) → tb_R f0 N (4 * i + 4) (tq_R ar) (ly_hv cst h 20224) → hp_a l 0 94 → hp_i l 1 xa.toInt → hp_i l 2 xb.toInt → hp_i l 3 xc.toInt → hp_i l 4 xd.toInt → hp_i l 5 xe.toInt → hp_i l 6 (i + 1) → hp_F cst strs Φ D M 19 l [] h) :
    ∀ (k j : Nat), j + k = 4 → ∀ (h : am_H) (l : am_L), ly_hy m_tt ly_TH h → ly_fr cst [19969, 20224] h0 h → ly_hv cst h 19969 0 = some (N + 4 * i + (j : Int)) → tb_R f0 N (4 * i + (j : Int)) (tq_R ar) (ly_hv cst h 20224) → hp_a l 0 94 → hp_i l 1 xa.toInt → hp_i l 2 xb.toInt → hp_i l 3 xc.toInt → hp_i l 4 xd.toInt → hp_i l 5 xe.toInt → hp_i l 6 i → hp_i l 7 v.toInt → hp_i l 8 (24 - 8 * (j : Int)) → hp_F cst strs Φ D M 73 l [] h := by
  intro k
  induction k with
  | zero =>
    intro j hj h l hy fr kn H l0 l1 l2 l3 l4 l5 l6 l7 l8
    have e : j = 4 := by omega
    subst e
    exact kz4 c hM hD hy xa.toInt xb.toInt xc.toInt xd.toInt xe.toInt v.toInt i (N + 4 * i + 4) xa.le_toInt xa.toInt_le xb.le_toInt xb.toInt_le xc.le_toInt xc.toInt_le xd.le_toInt xd.toInt_le xe.le_toInt xe.toInt_le v.le_toInt v.toInt_le i0 i1 (by omega) (by omega) kn l0 l1 l2 l3 l4 l5 l6 l7 l8 (fun l' h2 u1 u2 u3 k1 m0 m1 m2 m3 m4 m5 m6 => kc h2 l' u1 (ly_fr_tr fr (fun r i v _ e => u2 r i v rfl e)) k1 (by rw [hp_sameb th_BT rfl hy u1 u2]; exact H) m0 m1 m2 m3 m4 m5 m6)
  | succ k ih =>
    intro j hj h l hy fr kn H l0 l1 l2 l3 l4 l5 l6 l7 l8
    refine kz1 c hM hD hy xa.toInt xb.toInt xc.toInt xd.toInt xe.toInt v.toInt i (24 - 8 * (j : Int)) (N + 4 * i + (j : Int)) xa.le_toInt xa.toInt_le xb.le_toInt xb.toInt_le xc.le_toInt xc.toInt_le xd.le_toInt xd.toInt_le xe.le_toInt xe.toInt_le v.le_toInt v.toInt_le i0 i1 (by omega) (by omega) (by omega) (by omega) kn l0 l1 l2 l3 l4 l5 l6 l7 l8 (fun l1' h1 y0 y1 y2 f0' f1' f2' u1 u2 u3 k1 m0 m1 m2 m3 m4 m5 m6 m7 m8 => ?_)
    have ey : y1 = v := Int32.toInt_inj.mp f1'
    have es := tq_of f0'
    refine hp_sr hM (by decide +kernel) ?_
    refine hp_ib hM (by decide +kernel) ?_
    have ex : (y1 >>> (y0 &&& 31)).toInt8.toInt32 = tq_y v (24 - 8 * (j : Int)) := by rw [ey, es]; rfl
    rw [ex]
    have idem : vp_nar .byte (tq_y v (24 - 8 * (j : Int))) = tq_y v (24 - 8 * (j : Int)) := (ly_i2b_r _).2 (ly_i2b_r _).1.1 (ly_i2b_r _).1.2
    refine hp_stb (c := 79) hM (by decide +kernel) u1 th_BT rfl (by omega) (by omega) (ly_nar_b _).1 (ly_nar_b _).2 (fun h3 q1 q2 q3 => ?_)
    rw [idem, f2'] at q3
    refine kz3 c hM hD q1 xa.toInt xb.toInt xc.toInt xd.toInt xe.toInt v.toInt i (24 - 8 * (j : Int)) (N + 4 * i + (j : Int)) xa.le_toInt xa.toInt_le xb.le_toInt xb.toInt_le xc.le_toInt xc.toInt_le xd.le_toInt xd.toInt_le xe.le_toInt xe.toInt_le v.le_toInt v.toInt_le i0 i1 (by omega) (by omega) (by omega) (by omega) (by rw [hp_put_ne q3 (by decide)]; exact k1) m0 m1 m2 m3 m4 m5 m6 m7 m8 (fun l4 h4 t1 t2 t3 k4 o0 o1 o2 o3 o4 o5 o6 o7 o8 => ?_)
    refine ih (j + 1) (by omega) h4 l4 t1 (ly_fr_tr fr (ly_fr_tr (fun r i v _ e => u2 r i v rfl e) (ly_fr_tr (hp_put_fr (by rfl) q3) (hp_sub2 rfl t2)))) (by rw [show N + 4 * i + ((j + 1 : Nat) : Int) = N + 4 * i + (j : Int) + 1 by omega]; exact k4) ?_ o0 o1 o2 o3 o4 o5 o6 o7 (by rw [show 24 - 8 * ((j + 1 : Nat) : Int) = 24 - 8 * (j : Int) - 8 by omega]; exact o8)
    rw [show 4 * i + ((j + 1 : Nat) : Int) = 4 * i + (j : Int) + 1 by omega, hp_sameb th_BT rfl q1 t1 t2, hp_put_eq q3, hp_sameb th_BT rfl hy u1 u2]
    refine tb_s (by omega) H ?_ (by rw [show N + 4 * i + (j : Int) = N + (4 * i + (j : Int)) by omega]; exact if_pos rfl) (fun k' hk => if_neg (by omega))
    unfold tq_R
    rw [show (4 * i + (j : Int)) / 4 = i by omega, show (4 * i + (j : Int)) % 4 = (j : Int) by omega, hv]
theorem kx_run {cst : am_K} {strs : List Nat} {D : Nat} {h : am_H} (c : hp_C cst strs D) (hD : (4 : Int) ≤ (D : Int) + 1) (hy : ly_hy m_tt ly_TH h) {xa xb xc xd xe : Int32} {n : Int} (n0 : 0 ≤ n) (n1 : n ≤ 1200) (kn : ly_hv cst h 19969 0 = some n) :
    ∃ r, am_Run cst m_cl m_tt m_P strs sx_bi (D + 1) 269 [.ref 94, .int xa, .int xb, .int xc, .int xd, .int xe] h r ∧ tp_Φ cst h 19969 20224 n (tq_R (tq_ar xa xb xc xd xe)) r := by
  obtain ⟨M, hM, hl⟩ := hp_M (mi := 269) (k := 6) (by decide +kernel)
  have go : hp_F cst strs (tp_Φ cst h 19969 20224 n (tq_R (tq_ar xa xb xc xd xe))) D M 0 (lv_args 0 [.ref 94, .int xa, .int xb, .int xc, .int xd, .int xe]) [] h := by
    by_cases q : 1181 ≤ n
    · exact kx0 c hM (by omega) hy xa.toInt xb.toInt xc.toInt xd.toInt xe.toInt n xa.le_toInt xa.toInt_le xb.le_toInt xb.toInt_le xc.le_toInt xc.toInt_le xd.le_toInt xd.toInt_le xe.le_toInt xe.toInt_le q n1 kn rfl ⟨xa, rfl, rfl⟩ ⟨xb, rfl, rfl⟩ ⟨xc, rfl, rfl⟩ ⟨xd, rfl, rfl⟩ ⟨xe, rfl, rfl⟩ (fun h2 a ha u1 u2 u3 k1 => ⟨⟨a, rfl⟩, rfl, rfl, u1, (fun r i x _ e => u2 r i x rfl e), fun _ => ⟨k1, hp_sameb th_BT rfl hy u1 u2⟩, fun z => by omega⟩)
    refine kx1 c hM (by omega) hy xa.toInt xb.toInt xc.toInt xd.toInt xe.toInt n xa.le_toInt xa.toInt_le xb.le_toInt xb.toInt_le xc.le_toInt xc.toInt_le xd.le_toInt xd.toInt_le xe.le_toInt xe.toInt_le n0 (by omega) kn rfl ⟨xa, rfl, rfl⟩ ⟨xb, rfl, rfl⟩ ⟨xc, rfl, rfl⟩ ⟨xd, rfl, rfl⟩ ⟨xe, rfl, rfl⟩ (fun l0 h0 u0 w0 z0 k0 g0_0 g0_1 g0_2 g0_3 g0_4 g0_5 g0_6 => ?_)
    have F0 : ly_fr cst [19969, 20224] h h0 := fun r i x _ e => w0 r i x rfl e
    have H0 : tb_R (ly_hv cst h 20224) n (4 * 0) (tq_R (tq_ar xa xb xc xd xe)) (ly_hv cst h0 20224) := by rw [hp_sameb th_BT rfl hy u0 w0]; exact tb_0 _ _ _
    refine ky0 c hM (by omega) u0 xa.toInt xb.toInt xc.toInt xd.toInt xe.toInt (n) xa.le_toInt xa.toInt_le xb.le_toInt xb.toInt_le xc.le_toInt xc.toInt_le xd.le_toInt xd.toInt_le xe.le_toInt xe.toInt_le (by omega) (by omega) k0 g0_0 g0_1 g0_2 g0_3 g0_4 g0_5 g0_6 (fun la0 a0 v0 w0' z0' ka0 b0_0 b0_1 b0_2 b0_3 b0_4 b0_5 b0_6 b0_7 b0_8 => ?_)
    refine kz_loop (h0 := h) (v := xa) (f0 := ly_hv cst h 20224) (N := n) (i := 0) (ar := (tq_ar xa xb xc xd xe)) c hM (by omega) n0 (by omega) (by omega) (by omega) rfl (fun h1 l1 u1 F1 k1' H1' g1_0 g1_1 g1_2 g1_3 g1_4 g1_5 g1_6 => ?_) 4 0 (by omega) a0 la0 v0 (ly_fr_tr F0 (fun r i x _ e => w0' r i x rfl e)) (by rw [show n + 4 * (0 : Int) + ((0 : Nat) : Int) = n by omega]; exact ka0) (by rw [show 4 * (0 : Int) + ((0 : Nat) : Int) = 4 * 0 by omega, hp_sameb th_BT rfl u0 v0 w0']; exact H0) b0_0 b0_1 b0_2 b0_3 b0_4 b0_5 b0_6 b0_7 b0_8
    have k1 : ly_hv cst h1 19969 0 = some (n + 4) := by rw [show n + 4 = n + 4 * (0 : Int) + 4 by omega]; exact k1'
    have H1 : tb_R (ly_hv cst h 20224) n (4 * 1) (tq_R (tq_ar xa xb xc xd xe)) (ly_hv cst h1 20224) := by rw [show 4 * (1 : Int) = 4 * 0 + 4 by omega]; exact H1'
    refine ky1 c hM (by omega) u1 xa.toInt xb.toInt xc.toInt xd.toInt xe.toInt (n + 4) xa.le_toInt xa.toInt_le xb.le_toInt xb.toInt_le xc.le_toInt xc.toInt_le xd.le_toInt xd.toInt_le xe.le_toInt xe.toInt_le (by omega) (by omega) k1 g1_0 g1_1 g1_2 g1_3 g1_4 g1_5 g1_6 (fun la1 a1 v1 w1' z1' ka1 b1_0 b1_1 b1_2 b1_3 b1_4 b1_5 b1_6 b1_7 b1_8 => ?_)
    refine kz_loop (h0 := h) (v := xb) (f0 := ly_hv cst h 20224) (N := n) (i := 1) (ar := (tq_ar xa xb xc xd xe)) c hM (by omega) n0 (by omega) (by omega) (by omega) rfl (fun h2 l2 u2 F2 k2' H2' g2_0 g2_1 g2_2 g2_3 g2_4 g2_5 g2_6 => ?_) 4 0 (by omega) a1 la1 v1 (ly_fr_tr F1 (fun r i x _ e => w1' r i x rfl e)) (by rw [show n + 4 * (1 : Int) + ((0 : Nat) : Int) = n + 4 by omega]; exact ka1) (by rw [show 4 * (1 : Int) + ((0 : Nat) : Int) = 4 * 1 by omega, hp_sameb th_BT rfl u1 v1 w1']; exact H1) b1_0 b1_1 b1_2 b1_3 b1_4 b1_5 b1_6 b1_7 b1_8
    have k2 : ly_hv cst h2 19969 0 = some (n + 8) := by rw [show n + 8 = n + 4 * (1 : Int) + 4 by omega]; exact k2'
    have H2 : tb_R (ly_hv cst h 20224) n (4 * 2) (tq_R (tq_ar xa xb xc xd xe)) (ly_hv cst h2 20224) := by rw [show 4 * (2 : Int) = 4 * 1 + 4 by omega]; exact H2'
    refine ky2 c hM (by omega) u2 xa.toInt xb.toInt xc.toInt xd.toInt xe.toInt (n + 8) xa.le_toInt xa.toInt_le xb.le_toInt xb.toInt_le xc.le_toInt xc.toInt_le xd.le_toInt xd.toInt_le xe.le_toInt xe.toInt_le (by omega) (by omega) k2 g2_0 g2_1 g2_2 g2_3 g2_4 g2_5 g2_6 (fun la2 a2 v2 w2' z2' ka2 b2_0 b2_1 b2_2 b2_3 b2_4 b2_5 b2_6 b2_7 b2_8 => ?_)
    refine kz_loop (h0 := h) (v := xc) (f0 := ly_hv cst h 20224) (N := n) (i := 2) (ar := (tq_ar xa xb xc xd xe)) c hM (by omega) n0 (by omega) (by omega) (by omega) rfl (fun h3 l3 u3 F3 k3' H3' g3_0 g3_1 g3_2 g3_3 g3_4 g3_5 g3_6 => ?_) 4 0 (by omega) a2 la2 v2 (ly_fr_tr F2 (fun r i x _ e => w2' r i x rfl e)) (by rw [show n + 4 * (2 : Int) + ((0 : Nat) : Int) = n + 8 by omega]; exact ka2) (by rw [show 4 * (2 : Int) + ((0 : Nat) : Int) = 4 * 2 by omega, hp_sameb th_BT rfl u2 v2 w2']; exact H2) b2_0 b2_1 b2_2 b2_3 b2_4 b2_5 b2_6 b2_7 b2_8
    have k3 : ly_hv cst h3 19969 0 = some (n + 12) := by rw [show n + 12 = n + 4 * (2 : Int) + 4 by omega]; exact k3'
    have H3 : tb_R (ly_hv cst h 20224) n (4 * 3) (tq_R (tq_ar xa xb xc xd xe)) (ly_hv cst h3 20224) := by rw [show 4 * (3 : Int) = 4 * 2 + 4 by omega]; exact H3'
    refine ky3 c hM (by omega) u3 xa.toInt xb.toInt xc.toInt xd.toInt xe.toInt (n + 12) xa.le_toInt xa.toInt_le xb.le_toInt xb.toInt_le xc.le_toInt xc.toInt_le xd.le_toInt xd.toInt_le xe.le_toInt xe.toInt_le (by omega) (by omega) k3 g3_0 g3_1 g3_2 g3_3 g3_4 g3_5 g3_6 (fun la3 a3 v3 w3' z3' ka3 b3_0 b3_1 b3_2 b3_3 b3_4 b3_5 b3_6 b3_7 b3_8 => ?_)
    refine kz_loop (h0 := h) (v := xd) (f0 := ly_hv cst h 20224) (N := n) (i := 3) (ar := (tq_ar xa xb xc xd xe)) c hM (by omega) n0 (by omega) (by omega) (by omega) rfl (fun h4 l4 u4 F4 k4' H4' g4_0 g4_1 g4_2 g4_3 g4_4 g4_5 g4_6 => ?_) 4 0 (by omega) a3 la3 v3 (ly_fr_tr F3 (fun r i x _ e => w3' r i x rfl e)) (by rw [show n + 4 * (3 : Int) + ((0 : Nat) : Int) = n + 12 by omega]; exact ka3) (by rw [show 4 * (3 : Int) + ((0 : Nat) : Int) = 4 * 3 by omega, hp_sameb th_BT rfl u3 v3 w3']; exact H3) b3_0 b3_1 b3_2 b3_3 b3_4 b3_5 b3_6 b3_7 b3_8
    have k4 : ly_hv cst h4 19969 0 = some (n + 16) := by rw [show n + 16 = n + 4 * (3 : Int) + 4 by omega]; exact k4'
    have H4 : tb_R (ly_hv cst h 20224) n (4 * 4) (tq_R (tq_ar xa xb xc xd xe)) (ly_hv cst h4 20224) := by rw [show 4 * (4 : Int) = 4 * 3 + 4 by omega]; exact H4'
    refine ky4 c hM (by omega) u4 xa.toInt xb.toInt xc.toInt xd.toInt xe.toInt (n + 16) xa.le_toInt xa.toInt_le xb.le_toInt xb.toInt_le xc.le_toInt xc.toInt_le xd.le_toInt xd.toInt_le xe.le_toInt xe.toInt_le (by omega) (by omega) k4 g4_0 g4_1 g4_2 g4_3 g4_4 g4_5 g4_6 (fun la4 a4 v4 w4' z4' ka4 b4_0 b4_1 b4_2 b4_3 b4_4 b4_5 b4_6 b4_7 b4_8 => ?_)
    refine kz_loop (h0 := h) (v := xe) (f0 := ly_hv cst h 20224) (N := n) (i := 4) (ar := (tq_ar xa xb xc xd xe)) c hM (by omega) n0 (by omega) (by omega) (by omega) rfl (fun h5 l5 u5 F5 k5' H5' g5_0 g5_1 g5_2 g5_3 g5_4 g5_5 g5_6 => ?_) 4 0 (by omega) a4 la4 v4 (ly_fr_tr F4 (fun r i x _ e => w4' r i x rfl e)) (by rw [show n + 4 * (4 : Int) + ((0 : Nat) : Int) = n + 16 by omega]; exact ka4) (by rw [show 4 * (4 : Int) + ((0 : Nat) : Int) = 4 * 4 by omega, hp_sameb th_BT rfl u4 v4 w4']; exact H4) b4_0 b4_1 b4_2 b4_3 b4_4 b4_5 b4_6 b4_7 b4_8
    have k5 : ly_hv cst h5 19969 0 = some (n + 20) := by rw [show n + 20 = n + 4 * (4 : Int) + 4 by omega]; exact k5'
    have H5 : tb_R (ly_hv cst h 20224) n (4 * 5) (tq_R (tq_ar xa xb xc xd xe)) (ly_hv cst h5 20224) := by rw [show 4 * (5 : Int) = 4 * 4 + 4 by omega]; exact H5'
    exact kx2 c hM (by omega) u5 xa.toInt xb.toInt xc.toInt xd.toInt xe.toInt (n + 20) xa.le_toInt xa.toInt_le xb.le_toInt xb.toInt_le xc.le_toInt xc.toInt_le xd.le_toInt xd.toInt_le xe.le_toInt xe.toInt_le (by omega) (by omega) k5 g5_0 g5_1 g5_2 g5_3 g5_4 g5_5 g5_6 (fun h2 a ha t1 t2 t3 t4 => ⟨⟨a, rfl⟩, rfl, rfl, t1, ly_fr_tr F5 (fun r i x _ e => t2 r i x rfl e), fun z => absurd z q, fun _ => ⟨t4, by rw [hp_sameb th_BT rfl u5 t1 t2]; exact H5⟩⟩)
  obtain ⟨n', r, hgo, r1, r2, r3, r4⟩ := go
  simp only [Nat.zero_add] at r2 r3
  exact ⟨r, Or.inr ⟨M, n', hM, hl, hgo⟩, r1, r2, r3, r4⟩
/-- the tapes' bytes, place by place -/
def tp_H (cst : am_K) (h1 h2 : am_H) : Prop := ∀ k x, ly_hv cst h2 20224 k = some x → ly_hv cst h1 512 k = some (x % 256)
theorem tp_mv {cst : am_K} {mc mm : List Nat} {h1 r1 h2 r2 : am_H} (T : tp_H cst h1 h2) (u1 : ly_hy m_tt ly_TH h1) (u2 : ly_hy m_tt ly_TH r1) (w1 : ly_hy m_tt ly_TH h2) (w2 : ly_hy m_tt ly_TH r2) (fc : ly_fr cst mc h1 r1) (fm : ly_fr cst mm h2 r2) (hc : ly_has 512 mc = false) (hm : ly_has 20224 mm = false) : tp_H cst r1 r2 := by
  unfold tp_H at T ⊢
  rw [hp_same th_CT hc u1 u2 fc, hp_sameb th_BT hm w1 w2 fm]
  exact T
theorem tp_feed {cst : am_K} {h1 h2 q1 q2 : am_H} {n : Int} {ar : Int → Int32} (T : tp_H cst h1 h2) (n0 : 0 ≤ n) (n1 : n ≤ 1200)
    (C : (1181 ≤ n → ly_hv cst q1 257 0 = some n ∧ ly_hv cst q1 512 = ly_hv cst h1 512) ∧ (n ≤ 1180 → ly_hv cst q1 257 0 = some (n + 20) ∧ tb_R (ly_hv cst h1 512) n 20 (tq_C ar) (ly_hv cst q1 512)))
    (M : (1181 ≤ n → ly_hv cst q2 19969 0 = some n ∧ ly_hv cst q2 20224 = ly_hv cst h2 20224) ∧ (n ≤ 1180 → ly_hv cst q2 19969 0 = some (n + 20) ∧ tb_R (ly_hv cst h2 20224) n 20 (tq_R ar) (ly_hv cst q2 20224))) :
    ∃ w, 0 ≤ w ∧ w ≤ 1200 ∧ ly_hv cst q1 257 0 = some w ∧ ly_hv cst q2 19969 0 = some w ∧ tp_H cst q1 q2 := by
  by_cases q : 1181 ≤ n
  · obtain ⟨c1, c2⟩ := C.1 q
    obtain ⟨m1, m2⟩ := M.1 q
    refine ⟨n, n0, n1, c1, m1, ?_⟩
    unfold tp_H at T ⊢
    rw [c2, m2]
    exact T
  · obtain ⟨c1, c2⟩ := C.2 (by omega)
    obtain ⟨m1, m2⟩ := M.2 (by omega)
    refine ⟨n + 20, by omega, by omega, c1, m1, fun k x hx => ?_⟩
    by_cases r : n ≤ k ∧ k < n + 20
    · rw [(m2 k).1 r] at hx
      cases hx
      rw [(c2 k).1 r, tq_CR _ _ (by omega)]
    · rw [(m2 k).2 r] at hx
      rw [(c2 k).2 r]
      exact T k x hx
