/-! PRINTED by wip/p2/hp_told.py: told of both -/
theorem tzA_k : hq_chk [110, 25] 109 0 3 [(0, (-2147483648), (-1)), (1, (-2147483648), 2147483647), (2, 0, 30)] [] [(0, .inr (.inr (.inl (some 16)))), (1, .inl (0, [(0, 1)])), (2, .inl (0, [(1, 1)]))] [] [(3584, (0, []), (0, [(2, 1)]))] [] 4 [] [([], 3, [(0, (-2147483648), (-1)), (1, (-2147483648), 2147483647), (2, 0, 30)], [], [], [.inl ((-1), [])], [])] = true := by decide +kernel
theorem tzA {cst : am_K} {strs : List Nat} {Φ : am_Q → Prop} {D : Nat} {M : am_M} {h : am_H} {l : am_L} (c : hp_C cst strs D) (hM : m_P[109]? = some M) (hD : (4 : Int) ≤ (D : Int) + 1) (hy : ly_hy m_tt ly_TH h) (a w ac : Int) (b0 : (-2147483648) ≤ a) (t0 : a ≤ (-1)) (b1 : (-2147483648) ≤ w) (t1 : w ≤ 2147483647) (b2 : 0 ≤ ac) (t2 : ac ≤ 30) (k0 : ly_hv cst h 3584 0 = some (ac)) (l0 : hp_a l 0 16) (l1 : hp_i l 1 (a)) (l2 : hp_i l 2 (w)) (r0 : ∀ (h' : am_H) (y0 : Int32), y0.toInt = (-1) → ly_hy m_tt ly_TH h' → ly_fr cst [] h h' → h.length ≤ h'.length → Φ (some (.int y0), h', 0, 0)) : hp_F cst strs Φ D M 0 l [] h := by
  refine hq_arc c hM tzA_k hD [a, w, ac] rfl hy (hp_Bc (z := a) rfl b0 t0 (hp_Bc (z := w) rfl b1 t1 (hp_Bc (z := ac) rfl b2 t2 hp_Bn))) hp_Fn (hp_Kc (zi := (0 + 0)) (zv := (0 + (1 * ac + 0))) k0 rfl rfl (by omega) (by omega) hp_Kn) (hp_La l0 (hp_Li (z := (0 + (1 * a + 0))) l1 rfl (by omega) (hp_Li (z := (0 + (1 * w + 0))) l2 rfl (by omega) hp_Ln))) trivial ?_ ?_
  · intro p hp ys l' st' h' hys a1 a2 a3 gZ gL gS
    cases hp
  · intro p hp ys v h' hys a1 a2 a3 gZ gS
    rcases List.mem_cons.mp hp with rfl | hp
    · obtain rfl := hp_y0 hys
      cases v with
      | none => cases gS
      | some w =>
        obtain ⟨y0, t0, s0, q0, -⟩ := hp_gSi (z := ((-1) + 0)) gS rfl
        cases s0
        exact r0 h' y0 (by omega) a1 a2 a3
    cases hp
theorem tzB_k : hq_chk [110, 25] 109 0 3 [(0, 0, 2147483647), (1, (-2147483648), 2147483647), (2, 0, 30)] [(0, [(0, 1), (2, (-1))])] [(0, .inr (.inr (.inl (some 16)))), (1, .inl (0, [(0, 1)])), (2, .inl (0, [(1, 1)]))] [] [(3584, (0, []), (0, [(2, 1)]))] [] 4 [] [([], 3, [(0, 0, 2147483647), (1, (-2147483648), 2147483647), (2, 0, 30)], [], [], [.inl ((-1), [])], [])] = true := by decide +kernel
theorem tzB {cst : am_K} {strs : List Nat} {Φ : am_Q → Prop} {D : Nat} {M : am_M} {h : am_H} {l : am_L} (c : hp_C cst strs D) (hM : m_P[109]? = some M) (hD : (4 : Int) ≤ (D : Int) + 1) (hy : ly_hy m_tt ly_TH h) (a w ac : Int) (b0 : 0 ≤ a) (t0 : a ≤ 2147483647) (b1 : (-2147483648) ≤ w) (t1 : w ≤ 2147483647) (b2 : 0 ≤ ac) (t2 : ac ≤ 30) (f0 : 0 ≤ (a - ac)) (k0 : ly_hv cst h 3584 0 = some (ac)) (l0 : hp_a l 0 16) (l1 : hp_i l 1 (a)) (l2 : hp_i l 2 (w)) (r0 : ∀ (h' : am_H) (y0 : Int32), y0.toInt = (-1) → ly_hy m_tt ly_TH h' → ly_fr cst [] h h' → h.length ≤ h'.length → Φ (some (.int y0), h', 0, 0)) : hp_F cst strs Φ D M 0 l [] h := by
  refine hq_arc c hM tzB_k hD [a, w, ac] rfl hy (hp_Bc (z := a) rfl b0 t0 (hp_Bc (z := w) rfl b1 t1 (hp_Bc (z := ac) rfl b2 t2 hp_Bn))) (hp_Fc (z := (0 + (1 * a + ((-1) * ac + 0)))) rfl (by omega) hp_Fn) (hp_Kc (zi := (0 + 0)) (zv := (0 + (1 * ac + 0))) k0 rfl rfl (by omega) (by omega) hp_Kn) (hp_La l0 (hp_Li (z := (0 + (1 * a + 0))) l1 rfl (by omega) (hp_Li (z := (0 + (1 * w + 0))) l2 rfl (by omega) hp_Ln))) trivial ?_ ?_
  · intro p hp ys l' st' h' hys a1 a2 a3 gZ gL gS
    cases hp
  · intro p hp ys v h' hys a1 a2 a3 gZ gS
    rcases List.mem_cons.mp hp with rfl | hp
    · obtain rfl := hp_y0 hys
      cases v with
      | none => cases gS
      | some w =>
        obtain ⟨y0, t0, s0, q0, -⟩ := hp_gSi (z := ((-1) + 0)) gS rfl
        cases s0
        exact r0 h' y0 (by omega) a1 a2 a3
    cases hp
theorem tzC_k : hq_chk [110, 25] 109 0 3 [(0, 0, 29), (1, (-2147483648), (-1)), (2, 0, 30)] [((-1), [(0, (-1)), (2, 1)])] [(0, .inr (.inr (.inl (some 16)))), (1, .inl (0, [(0, 1)])), (2, .inl (0, [(1, 1)]))] [] [(3584, (0, []), (0, [(2, 1)]))] [] 4 [] [([], 3, [(0, 0, 29), (1, (-2147483648), (-1)), (2, 0, 30)], [], [], [.inl ((-1), [])], [])] = true := by decide +kernel
theorem tzC {cst : am_K} {strs : List Nat} {Φ : am_Q → Prop} {D : Nat} {M : am_M} {h : am_H} {l : am_L} (c : hp_C cst strs D) (hM : m_P[109]? = some M) (hD : (4 : Int) ≤ (D : Int) + 1) (hy : ly_hy m_tt ly_TH h) (a w ac : Int) (b0 : 0 ≤ a) (t0 : a ≤ 29) (b1 : (-2147483648) ≤ w) (t1 : w ≤ (-1)) (b2 : 0 ≤ ac) (t2 : ac ≤ 30) (f0 : 0 ≤ (ac - a - 1)) (k0 : ly_hv cst h 3584 0 = some (ac)) (l0 : hp_a l 0 16) (l1 : hp_i l 1 (a)) (l2 : hp_i l 2 (w)) (r0 : ∀ (h' : am_H) (y0 : Int32), y0.toInt = (-1) → ly_hy m_tt ly_TH h' → ly_fr cst [] h h' → h.length ≤ h'.length → Φ (some (.int y0), h', 0, 0)) : hp_F cst strs Φ D M 0 l [] h := by
  refine hq_arc c hM tzC_k hD [a, w, ac] rfl hy (hp_Bc (z := a) rfl b0 t0 (hp_Bc (z := w) rfl b1 t1 (hp_Bc (z := ac) rfl b2 t2 hp_Bn))) (hp_Fc (z := ((-1) + ((-1) * a + (1 * ac + 0)))) rfl (by omega) hp_Fn) (hp_Kc (zi := (0 + 0)) (zv := (0 + (1 * ac + 0))) k0 rfl rfl (by omega) (by omega) hp_Kn) (hp_La l0 (hp_Li (z := (0 + (1 * a + 0))) l1 rfl (by omega) (hp_Li (z := (0 + (1 * w + 0))) l2 rfl (by omega) hp_Ln))) trivial ?_ ?_
  · intro p hp ys l' st' h' hys a1 a2 a3 gZ gL gS
    cases hp
  · intro p hp ys v h' hys a1 a2 a3 gZ gS
    rcases List.mem_cons.mp hp with rfl | hp
    · obtain rfl := hp_y0 hys
      cases v with
      | none => cases gS
      | some w =>
        obtain ⟨y0, t0, s0, q0, -⟩ := hp_gSi (z := ((-1) + 0)) gS rfl
        cases s0
        exact r0 h' y0 (by omega) a1 a2 a3
    cases hp
theorem tzD_k : hq_chk [110, 25] 109 0 3 [(0, 0, 29), (1, 3, 2147483647), (2, 0, 30)] [((-1), [(0, (-1)), (2, 1)])] [(0, .inr (.inr (.inl (some 16)))), (1, .inl (0, [(0, 1)])), (2, .inl (0, [(1, 1)]))] [] [(3584, (0, []), (0, [(2, 1)]))] [] 4 [] [([], 3, [(0, 0, 29), (1, 3, 2147483647), (2, 0, 30)], [], [], [.inl ((-1), [])], [])] = true := by decide +kernel
theorem tzD {cst : am_K} {strs : List Nat} {Φ : am_Q → Prop} {D : Nat} {M : am_M} {h : am_H} {l : am_L} (c : hp_C cst strs D) (hM : m_P[109]? = some M) (hD : (4 : Int) ≤ (D : Int) + 1) (hy : ly_hy m_tt ly_TH h) (a w ac : Int) (b0 : 0 ≤ a) (t0 : a ≤ 29) (b1 : 3 ≤ w) (t1 : w ≤ 2147483647) (b2 : 0 ≤ ac) (t2 : ac ≤ 30) (f0 : 0 ≤ (ac - a - 1)) (k0 : ly_hv cst h 3584 0 = some (ac)) (l0 : hp_a l 0 16) (l1 : hp_i l 1 (a)) (l2 : hp_i l 2 (w)) (r0 : ∀ (h' : am_H) (y0 : Int32), y0.toInt = (-1) → ly_hy m_tt ly_TH h' → ly_fr cst [] h h' → h.length ≤ h'.length → Φ (some (.int y0), h', 0, 0)) : hp_F cst strs Φ D M 0 l [] h := by
  refine hq_arc c hM tzD_k hD [a, w, ac] rfl hy (hp_Bc (z := a) rfl b0 t0 (hp_Bc (z := w) rfl b1 t1 (hp_Bc (z := ac) rfl b2 t2 hp_Bn))) (hp_Fc (z := ((-1) + ((-1) * a + (1 * ac + 0)))) rfl (by omega) hp_Fn) (hp_Kc (zi := (0 + 0)) (zv := (0 + (1 * ac + 0))) k0 rfl rfl (by omega) (by omega) hp_Kn) (hp_La l0 (hp_Li (z := (0 + (1 * a + 0))) l1 rfl (by omega) (hp_Li (z := (0 + (1 * w + 0))) l2 rfl (by omega) hp_Ln))) trivial ?_ ?_
  · intro p hp ys l' st' h' hys a1 a2 a3 gZ gL gS
    cases hp
  · intro p hp ys v h' hys a1 a2 a3 gZ gS
    rcases List.mem_cons.mp hp with rfl | hp
    · obtain rfl := hp_y0 hys
      cases v with
      | none => cases gS
      | some w =>
        obtain ⟨y0, t0, s0, q0, -⟩ := hp_gSi (z := ((-1) + 0)) gS rfl
        cases s0
        exact r0 h' y0 (by omega) a1 a2 a3
    cases hp
theorem tzE0_k : hq_chk [110, 25] 109 0 3 [(0, 0, 29), (1, 0, 30), (2, (-2147483648), 2147483647)] [((-1), [(0, (-1)), (1, 1)])] [(0, .inr (.inr (.inl (some 16)))), (1, .inl (0, [(0, 1)])), (2, .inl (0, []))] [] [(3584, (0, []), (0, [(1, 1)])), (3840, (0, [(0, 1)]), (0, [(2, 1)]))] [] 4 [] [([], 3, [(0, 0, 29), (1, 0, 30), (2, (-2147483648), 2147483647)], [], [], [.inl (0, [(2, 1)])], [])] = true := by decide +kernel
theorem tzE0 {cst : am_K} {strs : List Nat} {Φ : am_Q → Prop} {D : Nat} {M : am_M} {h : am_H} {l : am_L} (c : hp_C cst strs D) (hM : m_P[109]? = some M) (hD : (4 : Int) ≤ (D : Int) + 1) (hy : ly_hy m_tt ly_TH h) (a ac x : Int) (b0 : 0 ≤ a) (t0 : a ≤ 29) (b1 : 0 ≤ ac) (t1 : ac ≤ 30) (b2 : (-2147483648) ≤ x) (t2 : x ≤ 2147483647) (f0 : 0 ≤ (ac - a - 1)) (k0 : ly_hv cst h 3584 0 = some (ac)) (k1 : ly_hv cst h 3840 (a) = some (x)) (l0 : hp_a l 0 16) (l1 : hp_i l 1 (a)) (l2 : hp_i l 2 0) (r0 : ∀ (h' : am_H) (y0 : Int32), y0.toInt = (x) → ly_hy m_tt ly_TH h' → ly_fr cst [] h h' → h.length ≤ h'.length → Φ (some (.int y0), h', 0, 0)) : hp_F cst strs Φ D M 0 l [] h := by
  refine hq_arc c hM tzE0_k hD [a, ac, x] rfl hy (hp_Bc (z := a) rfl b0 t0 (hp_Bc (z := ac) rfl b1 t1 (hp_Bc (z := x) rfl b2 t2 hp_Bn))) (hp_Fc (z := ((-1) + ((-1) * a + (1 * ac + 0)))) rfl (by omega) hp_Fn) (hp_Kc (zi := (0 + 0)) (zv := (0 + (1 * ac + 0))) k0 rfl rfl (by omega) (by omega) (hp_Kc (zi := (0 + (1 * a + 0))) (zv := (0 + (1 * x + 0))) k1 rfl rfl (by omega) (by omega) hp_Kn)) (hp_La l0 (hp_Li (z := (0 + (1 * a + 0))) l1 rfl (by omega) (hp_Li (z := (0 + 0)) l2 rfl (by omega) hp_Ln))) trivial ?_ ?_
  · intro p hp ys l' st' h' hys a1 a2 a3 gZ gL gS
    cases hp
  · intro p hp ys v h' hys a1 a2 a3 gZ gS
    rcases List.mem_cons.mp hp with rfl | hp
    · obtain rfl := hp_y0 hys
      cases v with
      | none => cases gS
      | some w =>
        obtain ⟨y0, t0, s0, q0, -⟩ := hp_gSi (z := (0 + (1 * x + 0))) gS rfl
        cases s0
        exact r0 h' y0 (by omega) a1 a2 a3
    cases hp
theorem tzE1_k : hq_chk [110, 25] 109 0 3 [(0, 0, 29), (1, 0, 30), (2, (-2147483648), 2147483647)] [((-1), [(0, (-1)), (1, 1)])] [(0, .inr (.inr (.inl (some 16)))), (1, .inl (0, [(0, 1)])), (2, .inl (1, []))] [] [(3584, (0, []), (0, [(1, 1)])), (4096, (0, [(0, 1)]), (0, [(2, 1)]))] [] 4 [] [([], 3, [(0, 0, 29), (1, 0, 30), (2, (-2147483648), 2147483647)], [], [], [.inl (0, [(2, 1)])], [])] = true := by decide +kernel
theorem tzE1 {cst : am_K} {strs : List Nat} {Φ : am_Q → Prop} {D : Nat} {M : am_M} {h : am_H} {l : am_L} (c : hp_C cst strs D) (hM : m_P[109]? = some M) (hD : (4 : Int) ≤ (D : Int) + 1) (hy : ly_hy m_tt ly_TH h) (a ac x : Int) (b0 : 0 ≤ a) (t0 : a ≤ 29) (b1 : 0 ≤ ac) (t1 : ac ≤ 30) (b2 : (-2147483648) ≤ x) (t2 : x ≤ 2147483647) (f0 : 0 ≤ (ac - a - 1)) (k0 : ly_hv cst h 3584 0 = some (ac)) (k1 : ly_hv cst h 4096 (a) = some (x)) (l0 : hp_a l 0 16) (l1 : hp_i l 1 (a)) (l2 : hp_i l 2 1) (r0 : ∀ (h' : am_H) (y0 : Int32), y0.toInt = (x) → ly_hy m_tt ly_TH h' → ly_fr cst [] h h' → h.length ≤ h'.length → Φ (some (.int y0), h', 0, 0)) : hp_F cst strs Φ D M 0 l [] h := by
  refine hq_arc c hM tzE1_k hD [a, ac, x] rfl hy (hp_Bc (z := a) rfl b0 t0 (hp_Bc (z := ac) rfl b1 t1 (hp_Bc (z := x) rfl b2 t2 hp_Bn))) (hp_Fc (z := ((-1) + ((-1) * a + (1 * ac + 0)))) rfl (by omega) hp_Fn) (hp_Kc (zi := (0 + 0)) (zv := (0 + (1 * ac + 0))) k0 rfl rfl (by omega) (by omega) (hp_Kc (zi := (0 + (1 * a + 0))) (zv := (0 + (1 * x + 0))) k1 rfl rfl (by omega) (by omega) hp_Kn)) (hp_La l0 (hp_Li (z := (0 + (1 * a + 0))) l1 rfl (by omega) (hp_Li (z := (1 + 0)) l2 rfl (by omega) hp_Ln))) trivial ?_ ?_
  · intro p hp ys l' st' h' hys a1 a2 a3 gZ gL gS
    cases hp
  · intro p hp ys v h' hys a1 a2 a3 gZ gS
    rcases List.mem_cons.mp hp with rfl | hp
    · obtain rfl := hp_y0 hys
      cases v with
      | none => cases gS
      | some w =>
        obtain ⟨y0, t0, s0, q0, -⟩ := hp_gSi (z := (0 + (1 * x + 0))) gS rfl
        cases s0
        exact r0 h' y0 (by omega) a1 a2 a3
    cases hp
theorem tyA_k : hq_chk [273] 320 0 3 [(0, (-2147483648), (-1)), (1, (-2147483648), 2147483647), (2, 0, 30)] [] [(0, .inr (.inr (.inl (some 94)))), (1, .inl (0, [(0, 1)])), (2, .inl (0, [(1, 1)]))] [] [(19989, (0, []), (0, [(2, 1)]))] [] 4 [] [([], 3, [(0, (-2147483648), (-1)), (1, (-2147483648), 2147483647), (2, 0, 30)], [], [], [.inl ((-1), [])], [])] = true := by decide +kernel
theorem tyA {cst : am_K} {strs : List Nat} {Φ : am_Q → Prop} {D : Nat} {M : am_M} {h : am_H} {l : am_L} (c : hp_C cst strs D) (hM : m_P[320]? = some M) (hD : (4 : Int) ≤ (D : Int) + 1) (hy : ly_hy m_tt ly_TH h) (a w ac : Int) (b0 : (-2147483648) ≤ a) (t0 : a ≤ (-1)) (b1 : (-2147483648) ≤ w) (t1 : w ≤ 2147483647) (b2 : 0 ≤ ac) (t2 : ac ≤ 30) (k0 : ly_hv cst h 19989 0 = some (ac)) (l0 : hp_a l 0 94) (l1 : hp_i l 1 (a)) (l2 : hp_i l 2 (w)) (r0 : ∀ (h' : am_H) (y0 : Int32), y0.toInt = (-1) → ly_hy m_tt ly_TH h' → ly_fr cst [] h h' → h.length ≤ h'.length → Φ (some (.int y0), h', 0, 0)) : hp_F cst strs Φ D M 0 l [] h := by
  refine hq_arc c hM tyA_k hD [a, w, ac] rfl hy (hp_Bc (z := a) rfl b0 t0 (hp_Bc (z := w) rfl b1 t1 (hp_Bc (z := ac) rfl b2 t2 hp_Bn))) hp_Fn (hp_Kc (zi := (0 + 0)) (zv := (0 + (1 * ac + 0))) k0 rfl rfl (by omega) (by omega) hp_Kn) (hp_La l0 (hp_Li (z := (0 + (1 * a + 0))) l1 rfl (by omega) (hp_Li (z := (0 + (1 * w + 0))) l2 rfl (by omega) hp_Ln))) trivial ?_ ?_
  · intro p hp ys l' st' h' hys a1 a2 a3 gZ gL gS
    cases hp
  · intro p hp ys v h' hys a1 a2 a3 gZ gS
    rcases List.mem_cons.mp hp with rfl | hp
    · obtain rfl := hp_y0 hys
      cases v with
      | none => cases gS
      | some w =>
        obtain ⟨y0, t0, s0, q0, -⟩ := hp_gSi (z := ((-1) + 0)) gS rfl
        cases s0
        exact r0 h' y0 (by omega) a1 a2 a3
    cases hp
theorem tyB_k : hq_chk [273] 320 0 3 [(0, 0, 2147483647), (1, (-2147483648), 2147483647), (2, 0, 30)] [(0, [(0, 1), (2, (-1))])] [(0, .inr (.inr (.inl (some 94)))), (1, .inl (0, [(0, 1)])), (2, .inl (0, [(1, 1)]))] [] [(19989, (0, []), (0, [(2, 1)]))] [] 4 [] [([], 3, [(0, 0, 2147483647), (1, (-2147483648), 2147483647), (2, 0, 30)], [], [], [.inl ((-1), [])], [])] = true := by decide +kernel
theorem tyB {cst : am_K} {strs : List Nat} {Φ : am_Q → Prop} {D : Nat} {M : am_M} {h : am_H} {l : am_L} (c : hp_C cst strs D) (hM : m_P[320]? = some M) (hD : (4 : Int) ≤ (D : Int) + 1) (hy : ly_hy m_tt ly_TH h) (a w ac : Int) (b0 : 0 ≤ a) (t0 : a ≤ 2147483647) (b1 : (-2147483648) ≤ w) (t1 : w ≤ 2147483647) (b2 : 0 ≤ ac) (t2 : ac ≤ 30) (f0 : 0 ≤ (a - ac)) (k0 : ly_hv cst h 19989 0 = some (ac)) (l0 : hp_a l 0 94) (l1 : hp_i l 1 (a)) (l2 : hp_i l 2 (w)) (r0 : ∀ (h' : am_H) (y0 : Int32), y0.toInt = (-1) → ly_hy m_tt ly_TH h' → ly_fr cst [] h h' → h.length ≤ h'.length → Φ (some (.int y0), h', 0, 0)) : hp_F cst strs Φ D M 0 l [] h := by
  refine hq_arc c hM tyB_k hD [a, w, ac] rfl hy (hp_Bc (z := a) rfl b0 t0 (hp_Bc (z := w) rfl b1 t1 (hp_Bc (z := ac) rfl b2 t2 hp_Bn))) (hp_Fc (z := (0 + (1 * a + ((-1) * ac + 0)))) rfl (by omega) hp_Fn) (hp_Kc (zi := (0 + 0)) (zv := (0 + (1 * ac + 0))) k0 rfl rfl (by omega) (by omega) hp_Kn) (hp_La l0 (hp_Li (z := (0 + (1 * a + 0))) l1 rfl (by omega) (hp_Li (z := (0 + (1 * w + 0))) l2 rfl (by omega) hp_Ln))) trivial ?_ ?_
  · intro p hp ys l' st' h' hys a1 a2 a3 gZ gL gS
    cases hp
  · intro p hp ys v h' hys a1 a2 a3 gZ gS
    rcases List.mem_cons.mp hp with rfl | hp
    · obtain rfl := hp_y0 hys
      cases v with
      | none => cases gS
      | some w =>
        obtain ⟨y0, t0, s0, q0, -⟩ := hp_gSi (z := ((-1) + 0)) gS rfl
        cases s0
        exact r0 h' y0 (by omega) a1 a2 a3
    cases hp
theorem tyC_k : hq_chk [273] 320 0 3 [(0, 0, 29), (1, (-2147483648), (-1)), (2, 0, 30)] [((-1), [(0, (-1)), (2, 1)])] [(0, .inr (.inr (.inl (some 94)))), (1, .inl (0, [(0, 1)])), (2, .inl (0, [(1, 1)]))] [] [(19989, (0, []), (0, [(2, 1)]))] [] 4 [] [([], 3, [(0, 0, 29), (1, (-2147483648), (-1)), (2, 0, 30)], [], [], [.inl ((-1), [])], [])] = true := by decide +kernel
theorem tyC {cst : am_K} {strs : List Nat} {Φ : am_Q → Prop} {D : Nat} {M : am_M} {h : am_H} {l : am_L} (c : hp_C cst strs D) (hM : m_P[320]? = some M) (hD : (4 : Int) ≤ (D : Int) + 1) (hy : ly_hy m_tt ly_TH h) (a w ac : Int) (b0 : 0 ≤ a) (t0 : a ≤ 29) (b1 : (-2147483648) ≤ w) (t1 : w ≤ (-1)) (b2 : 0 ≤ ac) (t2 : ac ≤ 30) (f0 : 0 ≤ (ac - a - 1)) (k0 : ly_hv cst h 19989 0 = some (ac)) (l0 : hp_a l 0 94) (l1 : hp_i l 1 (a)) (l2 : hp_i l 2 (w)) (r0 : ∀ (h' : am_H) (y0 : Int32), y0.toInt = (-1) → ly_hy m_tt ly_TH h' → ly_fr cst [] h h' → h.length ≤ h'.length → Φ (some (.int y0), h', 0, 0)) : hp_F cst strs Φ D M 0 l [] h := by
  refine hq_arc c hM tyC_k hD [a, w, ac] rfl hy (hp_Bc (z := a) rfl b0 t0 (hp_Bc (z := w) rfl b1 t1 (hp_Bc (z := ac) rfl b2 t2 hp_Bn))) (hp_Fc (z := ((-1) + ((-1) * a + (1 * ac + 0)))) rfl (by omega) hp_Fn) (hp_Kc (zi := (0 + 0)) (zv := (0 + (1 * ac + 0))) k0 rfl rfl (by omega) (by omega) hp_Kn) (hp_La l0 (hp_Li (z := (0 + (1 * a + 0))) l1 rfl (by omega) (hp_Li (z := (0 + (1 * w + 0))) l2 rfl (by omega) hp_Ln))) trivial ?_ ?_
  · intro p hp ys l' st' h' hys a1 a2 a3 gZ gL gS
    cases hp
  · intro p hp ys v h' hys a1 a2 a3 gZ gS
    rcases List.mem_cons.mp hp with rfl | hp
    · obtain rfl := hp_y0 hys
      cases v with
      | none => cases gS
      | some w =>
        obtain ⟨y0, t0, s0, q0, -⟩ := hp_gSi (z := ((-1) + 0)) gS rfl
        cases s0
        exact r0 h' y0 (by omega) a1 a2 a3
    cases hp
theorem tyD_k : hq_chk [273] 320 0 3 [(0, 0, 29), (1, 3, 2147483647), (2, 0, 30)] [((-1), [(0, (-1)), (2, 1)])] [(0, .inr (.inr (.inl (some 94)))), (1, .inl (0, [(0, 1)])), (2, .inl (0, [(1, 1)]))] [] [(19989, (0, []), (0, [(2, 1)]))] [] 4 [] [([], 3, [(0, 0, 29), (1, 3, 2147483647), (2, 0, 30)], [], [], [.inl ((-1), [])], [])] = true := by decide +kernel
theorem tyD {cst : am_K} {strs : List Nat} {Φ : am_Q → Prop} {D : Nat} {M : am_M} {h : am_H} {l : am_L} (c : hp_C cst strs D) (hM : m_P[320]? = some M) (hD : (4 : Int) ≤ (D : Int) + 1) (hy : ly_hy m_tt ly_TH h) (a w ac : Int) (b0 : 0 ≤ a) (t0 : a ≤ 29) (b1 : 3 ≤ w) (t1 : w ≤ 2147483647) (b2 : 0 ≤ ac) (t2 : ac ≤ 30) (f0 : 0 ≤ (ac - a - 1)) (k0 : ly_hv cst h 19989 0 = some (ac)) (l0 : hp_a l 0 94) (l1 : hp_i l 1 (a)) (l2 : hp_i l 2 (w)) (r0 : ∀ (h' : am_H) (y0 : Int32), y0.toInt = (-1) → ly_hy m_tt ly_TH h' → ly_fr cst [] h h' → h.length ≤ h'.length → Φ (some (.int y0), h', 0, 0)) : hp_F cst strs Φ D M 0 l [] h := by
  refine hq_arc c hM tyD_k hD [a, w, ac] rfl hy (hp_Bc (z := a) rfl b0 t0 (hp_Bc (z := w) rfl b1 t1 (hp_Bc (z := ac) rfl b2 t2 hp_Bn))) (hp_Fc (z := ((-1) + ((-1) * a + (1 * ac + 0)))) rfl (by omega) hp_Fn) (hp_Kc (zi := (0 + 0)) (zv := (0 + (1 * ac + 0))) k0 rfl rfl (by omega) (by omega) hp_Kn) (hp_La l0 (hp_Li (z := (0 + (1 * a + 0))) l1 rfl (by omega) (hp_Li (z := (0 + (1 * w + 0))) l2 rfl (by omega) hp_Ln))) trivial ?_ ?_
  · intro p hp ys l' st' h' hys a1 a2 a3 gZ gL gS
    cases hp
  · intro p hp ys v h' hys a1 a2 a3 gZ gS
    rcases List.mem_cons.mp hp with rfl | hp
    · obtain rfl := hp_y0 hys
      cases v with
      | none => cases gS
      | some w =>
        obtain ⟨y0, t0, s0, q0, -⟩ := hp_gSi (z := ((-1) + 0)) gS rfl
        cases s0
        exact r0 h' y0 (by omega) a1 a2 a3
    cases hp
theorem tyE0_k : hq_chk [273] 320 0 3 [(0, 0, 29), (1, 0, 30), (2, (-2147483648), 2147483647)] [((-1), [(0, (-1)), (1, 1)])] [(0, .inr (.inr (.inl (some 94)))), (1, .inl (0, [(0, 1)])), (2, .inl (0, []))] [] [(19989, (0, []), (0, [(1, 1)])), (22784, (0, [(0, 1)]), (0, [(2, 1)]))] [] 4 [] [([], 3, [(0, 0, 29), (1, 0, 30), (2, (-2147483648), 2147483647)], [], [], [.inl (0, [(2, 1)])], [])] = true := by decide +kernel
theorem tyE0 {cst : am_K} {strs : List Nat} {Φ : am_Q → Prop} {D : Nat} {M : am_M} {h : am_H} {l : am_L} (c : hp_C cst strs D) (hM : m_P[320]? = some M) (hD : (4 : Int) ≤ (D : Int) + 1) (hy : ly_hy m_tt ly_TH h) (a ac x : Int) (b0 : 0 ≤ a) (t0 : a ≤ 29) (b1 : 0 ≤ ac) (t1 : ac ≤ 30) (b2 : (-2147483648) ≤ x) (t2 : x ≤ 2147483647) (f0 : 0 ≤ (ac - a - 1)) (k0 : ly_hv cst h 19989 0 = some (ac)) (k1 : ly_hv cst h 22784 (a) = some (x)) (l0 : hp_a l 0 94) (l1 : hp_i l 1 (a)) (l2 : hp_i l 2 0) (r0 : ∀ (h' : am_H) (y0 : Int32), y0.toInt = (x) → ly_hy m_tt ly_TH h' → ly_fr cst [] h h' → h.length ≤ h'.length → Φ (some (.int y0), h', 0, 0)) : hp_F cst strs Φ D M 0 l [] h := by
  refine hq_arc c hM tyE0_k hD [a, ac, x] rfl hy (hp_Bc (z := a) rfl b0 t0 (hp_Bc (z := ac) rfl b1 t1 (hp_Bc (z := x) rfl b2 t2 hp_Bn))) (hp_Fc (z := ((-1) + ((-1) * a + (1 * ac + 0)))) rfl (by omega) hp_Fn) (hp_Kc (zi := (0 + 0)) (zv := (0 + (1 * ac + 0))) k0 rfl rfl (by omega) (by omega) (hp_Kc (zi := (0 + (1 * a + 0))) (zv := (0 + (1 * x + 0))) k1 rfl rfl (by omega) (by omega) hp_Kn)) (hp_La l0 (hp_Li (z := (0 + (1 * a + 0))) l1 rfl (by omega) (hp_Li (z := (0 + 0)) l2 rfl (by omega) hp_Ln))) trivial ?_ ?_
  · intro p hp ys l' st' h' hys a1 a2 a3 gZ gL gS
    cases hp
  · intro p hp ys v h' hys a1 a2 a3 gZ gS
    rcases List.mem_cons.mp hp with rfl | hp
    · obtain rfl := hp_y0 hys
      cases v with
      | none => cases gS
      | some w =>
        obtain ⟨y0, t0, s0, q0, -⟩ := hp_gSi (z := (0 + (1 * x + 0))) gS rfl
        cases s0
        exact r0 h' y0 (by omega) a1 a2 a3
    cases hp
theorem tyE1_k : hq_chk [273] 320 0 3 [(0, 0, 29), (1, 0, 30), (2, (-2147483648), 2147483647)] [((-1), [(0, (-1)), (1, 1)])] [(0, .inr (.inr (.inl (some 94)))), (1, .inl (0, [(0, 1)])), (2, .inl (1, []))] [] [(19989, (0, []), (0, [(1, 1)])), (23040, (0, [(0, 1)]), (0, [(2, 1)]))] [] 4 [] [([], 3, [(0, 0, 29), (1, 0, 30), (2, (-2147483648), 2147483647)], [], [], [.inl (0, [(2, 1)])], [])] = true := by decide +kernel
theorem tyE1 {cst : am_K} {strs : List Nat} {Φ : am_Q → Prop} {D : Nat} {M : am_M} {h : am_H} {l : am_L} (c : hp_C cst strs D) (hM : m_P[320]? = some M) (hD : (4 : Int) ≤ (D : Int) + 1) (hy : ly_hy m_tt ly_TH h) (a ac x : Int) (b0 : 0 ≤ a) (t0 : a ≤ 29) (b1 : 0 ≤ ac) (t1 : ac ≤ 30) (b2 : (-2147483648) ≤ x) (t2 : x ≤ 2147483647) (f0 : 0 ≤ (ac - a - 1)) (k0 : ly_hv cst h 19989 0 = some (ac)) (k1 : ly_hv cst h 23040 (a) = some (x)) (l0 : hp_a l 0 94) (l1 : hp_i l 1 (a)) (l2 : hp_i l 2 1) (r0 : ∀ (h' : am_H) (y0 : Int32), y0.toInt = (x) → ly_hy m_tt ly_TH h' → ly_fr cst [] h h' → h.length ≤ h'.length → Φ (some (.int y0), h', 0, 0)) : hp_F cst strs Φ D M 0 l [] h := by
  refine hq_arc c hM tyE1_k hD [a, ac, x] rfl hy (hp_Bc (z := a) rfl b0 t0 (hp_Bc (z := ac) rfl b1 t1 (hp_Bc (z := x) rfl b2 t2 hp_Bn))) (hp_Fc (z := ((-1) + ((-1) * a + (1 * ac + 0)))) rfl (by omega) hp_Fn) (hp_Kc (zi := (0 + 0)) (zv := (0 + (1 * ac + 0))) k0 rfl rfl (by omega) (by omega) (hp_Kc (zi := (0 + (1 * a + 0))) (zv := (0 + (1 * x + 0))) k1 rfl rfl (by omega) (by omega) hp_Kn)) (hp_La l0 (hp_Li (z := (0 + (1 * a + 0))) l1 rfl (by omega) (hp_Li (z := (1 + 0)) l2 rfl (by omega) hp_Ln))) trivial ?_ ?_
  · intro p hp ys l' st' h' hys a1 a2 a3 gZ gL gS
    cases hp
  · intro p hp ys v h' hys a1 a2 a3 gZ gS
    rcases List.mem_cons.mp hp with rfl | hp
    · obtain rfl := hp_y0 hys
      cases v with
      | none => cases gS
      | some w =>
        obtain ⟨y0, t0, s0, q0, -⟩ := hp_gSi (z := (0 + (1 * x + 0))) gS rfl
        cases s0
        exact r0 h' y0 (by omega) a1 a2 a3
    cases hp
theorem tyE2_k : hq_chk [273] 320 0 3 [(0, 0, 29), (1, 0, 30), (2, 0, 40)] [((-1), [(0, (-1)), (1, 1)])] [(0, .inr (.inr (.inl (some 94)))), (1, .inl (0, [(0, 1)])), (2, .inl (2, []))] [] [(19989, (0, []), (0, [(1, 1)])), (23296, (0, [(0, 1)]), (0, [(2, 1)]))] [] 4 [] [([], 3, [(0, 0, 29), (1, 0, 30), (2, 0, 40)], [], [], [.inl (0, [(2, 1)])], [])] = true := by decide +kernel
theorem tyE2 {cst : am_K} {strs : List Nat} {Φ : am_Q → Prop} {D : Nat} {M : am_M} {h : am_H} {l : am_L} (c : hp_C cst strs D) (hM : m_P[320]? = some M) (hD : (4 : Int) ≤ (D : Int) + 1) (hy : ly_hy m_tt ly_TH h) (a ac x : Int) (b0 : 0 ≤ a) (t0 : a ≤ 29) (b1 : 0 ≤ ac) (t1 : ac ≤ 30) (b2 : 0 ≤ x) (t2 : x ≤ 40) (f0 : 0 ≤ (ac - a - 1)) (k0 : ly_hv cst h 19989 0 = some (ac)) (k1 : ly_hv cst h 23296 (a) = some (x)) (l0 : hp_a l 0 94) (l1 : hp_i l 1 (a)) (l2 : hp_i l 2 2) (r0 : ∀ (h' : am_H) (y0 : Int32), y0.toInt = (x) → ly_hy m_tt ly_TH h' → ly_fr cst [] h h' → h.length ≤ h'.length → Φ (some (.int y0), h', 0, 0)) : hp_F cst strs Φ D M 0 l [] h := by
  refine hq_arc c hM tyE2_k hD [a, ac, x] rfl hy (hp_Bc (z := a) rfl b0 t0 (hp_Bc (z := ac) rfl b1 t1 (hp_Bc (z := x) rfl b2 t2 hp_Bn))) (hp_Fc (z := ((-1) + ((-1) * a + (1 * ac + 0)))) rfl (by omega) hp_Fn) (hp_Kc (zi := (0 + 0)) (zv := (0 + (1 * ac + 0))) k0 rfl rfl (by omega) (by omega) (hp_Kc (zi := (0 + (1 * a + 0))) (zv := (0 + (1 * x + 0))) k1 rfl rfl (by omega) (by omega) hp_Kn)) (hp_La l0 (hp_Li (z := (0 + (1 * a + 0))) l1 rfl (by omega) (hp_Li (z := (2 + 0)) l2 rfl (by omega) hp_Ln))) trivial ?_ ?_
  · intro p hp ys l' st' h' hys a1 a2 a3 gZ gL gS
    cases hp
  · intro p hp ys v h' hys a1 a2 a3 gZ gS
    rcases List.mem_cons.mp hp with rfl | hp
    · obtain rfl := hp_y0 hys
      cases v with
      | none => cases gS
      | some w =>
        obtain ⟨y0, t0, s0, q0, -⟩ := hp_gSi (z := (0 + (1 * x + 0))) gS rfl
        cases s0
        exact r0 h' y0 (by omega) a1 a2 a3
    cases hp
theorem tzE2_k : hq_chk [110, 25] 109 0 4 [(0, 0, 29), (1, 0, 30), (2, 0, 1240), (3, 0, 1240)] [((-1), [(0, (-1)), (1, 1)])] [(0, .inr (.inr (.inl (some 16)))), (1, .inl (0, [(0, 1)])), (2, .inl (2, []))] [] [(3584, (0, []), (0, [(1, 1)])), (4352, (0, [(0, 1)]), (0, [(2, 1)])), (4352, (1, [(0, 1)]), (0, [(3, 1)]))] [] 4 [] [([], 4, [(0, 0, 29), (1, 0, 30), (2, 0, 1240), (3, 0, 1240)], [], [], [.inl (0, [(2, (-1)), (3, 1)])], [])] = true := by decide +kernel
theorem tzE2 {cst : am_K} {strs : List Nat} {Φ : am_Q → Prop} {D : Nat} {M : am_M} {h : am_H} {l : am_L} (c : hp_C cst strs D) (hM : m_P[109]? = some M) (hD : (4 : Int) ≤ (D : Int) + 1) (hy : ly_hy m_tt ly_TH h) (a ac x y : Int) (b0 : 0 ≤ a) (t0 : a ≤ 29) (b1 : 0 ≤ ac) (t1 : ac ≤ 30) (b2 : 0 ≤ x) (t2 : x ≤ 1240) (b3 : 0 ≤ y) (t3 : y ≤ 1240) (f0 : 0 ≤ (ac - a - 1)) (k0 : ly_hv cst h 3584 0 = some (ac)) (k1 : ly_hv cst h 4352 (a) = some (x)) (k2 : ly_hv cst h 4352 (a + 1) = some (y)) (l0 : hp_a l 0 16) (l1 : hp_i l 1 (a)) (l2 : hp_i l 2 2) (r0 : ∀ (h' : am_H) (y0 : Int32), y0.toInt = (y - x) → ly_hy m_tt ly_TH h' → ly_fr cst [] h h' → h.length ≤ h'.length → Φ (some (.int y0), h', 0, 0)) : hp_F cst strs Φ D M 0 l [] h := by
  refine hq_arc c hM tzE2_k hD [a, ac, x, y] rfl hy (hp_Bc (z := a) rfl b0 t0 (hp_Bc (z := ac) rfl b1 t1 (hp_Bc (z := x) rfl b2 t2 (hp_Bc (z := y) rfl b3 t3 hp_Bn)))) (hp_Fc (z := ((-1) + ((-1) * a + (1 * ac + 0)))) rfl (by omega) hp_Fn) (hp_Kc (zi := (0 + 0)) (zv := (0 + (1 * ac + 0))) k0 rfl rfl (by omega) (by omega) (hp_Kc (zi := (0 + (1 * a + 0))) (zv := (0 + (1 * x + 0))) k1 rfl rfl (by omega) (by omega) (hp_Kc (zi := (1 + (1 * a + 0))) (zv := (0 + (1 * y + 0))) k2 rfl rfl (by omega) (by omega) hp_Kn))) (hp_La l0 (hp_Li (z := (0 + (1 * a + 0))) l1 rfl (by omega) (hp_Li (z := (2 + 0)) l2 rfl (by omega) hp_Ln))) trivial ?_ ?_
  · intro p hp ys l' st' h' hys a1 a2 a3 gZ gL gS
    cases hp
  · intro p hp ys v h' hys a1 a2 a3 gZ gS
    rcases List.mem_cons.mp hp with rfl | hp
    · obtain rfl := hp_y0 hys
      cases v with
      | none => cases gS
      | some w =>
        obtain ⟨y0, t0, s0, q0, -⟩ := hp_gSi (z := (0 + ((-1) * x + (1 * y + 0)))) gS rfl
        cases s0
        exact r0 h' y0 (by omega) a1 a2 a3
    cases hp
theorem fX_ts : ∀ (X : List rX) (i : Nat) (hi : i < X.length), (fX (X.take (i + 1))).length = (fX (X.take i)).length + (X[i]).2.2.1.length
  | [], i, hi => absurd hi (Nat.not_lt_zero _)
  | x :: X, 0, hi => by
    show (x.2.2.1 ++ fX (X.take 0)).length = (fX []).length + x.2.2.1.length
    rw [show X.take 0 = [] from rfl, List.length_append]
    show x.2.2.1.length + (fX []).length = (fX []).length + x.2.2.1.length
    omega
  | x :: X, i + 1, hi => by
    show (x.2.2.1 ++ fX (X.take (i + 1))).length = (x.2.2.1 ++ fX (X.take i)).length + (X[i]'(Nat.lt_of_succ_lt_succ hi)).2.2.1.length
    rw [List.length_append, List.length_append, fX_ts X i (Nat.lt_of_succ_lt_succ hi)]
    omega
/-- what told answers -/
def tol (X : List rX) (a w v : Int) : Prop := (a < 0 ∨ (X.length : Int) ≤ a → v = -1) ∧ ∀ i (hi : i < X.length), a = (i : Int) → (w = 0 → v = (X[i]).1) ∧ (w = 1 → v = (X[i]).2.1) ∧ (w = 2 → v = ((X[i]).2.2.1.length : Int)) ∧ (w < 0 ∨ 2 < w → v = -1)
theorem tol_uni {X : List rX} {a w p q : Int} (A : tol X a w p) (B : tol X a w q) : p = q := by
  by_cases z : a < 0 ∨ (X.length : Int) ≤ a
  · rw [A.1 z, B.1 z]
  · obtain ⟨i, ei⟩ : ∃ i : Nat, a = (i : Int) := ⟨a.toNat, by omega⟩
    have hi : i < X.length := by omega
    have A1 := A.2 i hi ei
    have B1 := B.2 i hi ei
    by_cases w0 : w = 0
    · rw [A1.1 w0, B1.1 w0]
    by_cases w1 : w = 1
    · rw [A1.2.1 w1, B1.2.1 w1]
    by_cases w2 : w = 2
    · rw [A1.2.2.1 w2, B1.2.2.1 w2]
    · rw [A1.2.2.2 (by omega), B1.2.2.2 (by omega)]
theorem tz_run {cst : am_K} {strs : List Nat} {D : Nat} {h : am_H} (c : hp_C cst strs D) (hD : 3 ≤ D) (hy : ly_hy m_tt ly_TH h) {X : List rX} {i0 : List Int} (I : LC cst h X i0) (x30 : X.length ≤ 30) {xa xw : Int32} :
    ∃ r, am_Run cst m_cl m_tt m_P strs sx_bi (D + 1) 109 [.ref 16, .int xa, .int xw] h r ∧ (fun r : am_Q => ∃ v : Int32, r.1 = some (.int v) ∧ r.2.2.1 = 0 ∧ r.2.2.2 = 0 ∧ ly_hy m_tt ly_TH r.2.1 ∧ ly_fr cst [] h r.2.1 ∧ tol X xa.toInt xw.toInt v.toInt) r := by
  obtain ⟨M, hM, hl⟩ := hp_M (mi := 109) (k := 3) (by decide +kernel)
  have ba : -2147483648 ≤ xa.toInt := xa.le_toInt
  have ba' : xa.toInt ≤ 2147483647 := xa.toInt_le
  have bw : -2147483648 ≤ xw.toInt := xw.le_toInt
  have bw' : xw.toInt ≤ 2147483647 := xw.toInt_le
  have kA : ly_hv cst h 3584 0 = some (X.length : Int) := I.1.1
  have go : hp_F cst strs (fun r : am_Q => ∃ v : Int32, r.1 = some (.int v) ∧ r.2.2.1 = 0 ∧ r.2.2.2 = 0 ∧ ly_hy m_tt ly_TH r.2.1 ∧ ly_fr cst [] h r.2.1 ∧ tol X xa.toInt xw.toInt v.toInt) D M 0 (lv_args 0 [.ref 16, .int xa, .int xw]) [] h := by
    by_cases q1 : xa.toInt < 0
    · exact tzA c hM (by omega) hy xa.toInt xw.toInt (X.length : Int) ba (by omega) bw bw' (by omega) (by omega) kA rfl ⟨xa, rfl, rfl⟩ ⟨xw, rfl, rfl⟩ (fun h2 v hv u1 u2 u3 => ⟨v, rfl, rfl, rfl, u1, u2, fun _ => hv, fun i hi e => by omega⟩)
    by_cases q2 : (X.length : Int) ≤ xa.toInt
    · exact tzB c hM (by omega) hy xa.toInt xw.toInt (X.length : Int) (by omega) ba' bw bw' (by omega) (by omega) (by omega) kA rfl ⟨xa, rfl, rfl⟩ ⟨xw, rfl, rfl⟩ (fun h2 v hv u1 u2 u3 => ⟨v, rfl, rfl, rfl, u1, u2, fun _ => hv, fun i hi e => by omega⟩)
    obtain ⟨i, ei⟩ : ∃ i : Nat, xa.toInt = (i : Int) := ⟨xa.toInt.toNat, by omega⟩
    have hi : i < X.length := by omega
    have same : ∀ i' (hi' : i' < X.length), xa.toInt = (i' : Int) → i' = i := fun i' hi' e => by omega
    by_cases q3 : xw.toInt < 0
    · exact tzC c hM (by omega) hy xa.toInt xw.toInt (X.length : Int) (by omega) (by omega) bw (by omega) (by omega) (by omega) (by omega) kA rfl ⟨xa, rfl, rfl⟩ ⟨xw, rfl, rfl⟩ (fun h2 v hv u1 u2 u3 => ⟨v, rfl, rfl, rfl, u1, u2, fun z => by omega, fun i' hi' e => ⟨fun z => by omega, fun z => by omega, fun z => by omega, fun _ => hv⟩⟩)
    by_cases q4 : 2 < xw.toInt
    · exact tzD c hM (by omega) hy xa.toInt xw.toInt (X.length : Int) (by omega) (by omega) (by omega) bw' (by omega) (by omega) (by omega) kA rfl ⟨xa, rfl, rfl⟩ ⟨xw, rfl, rfl⟩ (fun h2 v hv u1 u2 u3 => ⟨v, rfl, rfl, rfl, u1, u2, fun z => by omega, fun i' hi' e => ⟨fun z => by omega, fun z => by omega, fun z => by omega, fun _ => hv⟩⟩)
    by_cases w0 : xw.toInt = 0
    · have kc : ly_hv cst h 3840 xa.toInt = some ((X[i]).1) := by
        rw [ei]
        exact (I.2.1 i hi).1
      obtain ⟨u, ku, ul, uh⟩ := hp_row (cst := cst) (i := xa.toInt) hy (show ly_ths ly_TH 15 = some (.inl (.int, 30, -2147483648, 2147483647)) from rfl) (by omega) (by omega)
      have ku : ly_hv cst h 3840 xa.toInt = some u := ku
      rw [kc] at ku
      have eu := Option.some.inj ku
      exact tzE0 c hM (by omega) hy xa.toInt (X.length : Int) ((X[i]).1) (by omega) (by omega) (by omega) (by omega) (by omega) (by omega) (by omega) kA kc rfl ⟨xa, rfl, rfl⟩ ⟨xw, rfl, w0⟩ (fun h2 v hv u1 u2 u3 => ⟨v, rfl, rfl, rfl, u1, u2, fun z => by omega, fun i' hi' e => by
        have := same i' hi' e
        subst this
        exact ⟨fun _ => hv, fun z => by omega, fun z => by omega, fun z => by omega⟩⟩)
    by_cases w1 : xw.toInt = 1
    · have kc : ly_hv cst h 4096 xa.toInt = some ((X[i]).2.1) := by
        rw [ei]
        exact (I.2.1 i hi).2
      obtain ⟨u, ku, ul, uh⟩ := hp_row (cst := cst) (i := xa.toInt) hy (show ly_ths ly_TH 16 = some (.inl (.int, 30, -2147483648, 2147483647)) from rfl) (by omega) (by omega)
      have ku : ly_hv cst h 4096 xa.toInt = some u := ku
      rw [kc] at ku
      have eu := Option.some.inj ku
      exact tzE1 c hM (by omega) hy xa.toInt (X.length : Int) ((X[i]).2.1) (by omega) (by omega) (by omega) (by omega) (by omega) (by omega) (by omega) kA kc rfl ⟨xa, rfl, rfl⟩ ⟨xw, rfl, w1⟩ (fun h2 v hv u1 u2 u3 => ⟨v, rfl, rfl, rfl, u1, u2, fun z => by omega, fun i' hi' e => by
        have := same i' hi' e
        subst this
        exact ⟨fun z => by omega, fun _ => hv, fun z => by omega, fun z => by omega⟩⟩)
    have w2 : xw.toInt = 2 := by omega
    have k1 : ly_hv cst h 4352 xa.toInt = some ((fX (X.take i)).length : Int) := by
      rw [ei]
      exact I.2.2.1 i (by omega)
    have k2 : ly_hv cst h 4352 (xa.toInt + 1) = some ((fX (X.take (i + 1))).length : Int) := by
      rw [ei]
      exact I.2.2.1 (i + 1) hi
    have ts := fX_ts X i hi
    obtain ⟨u, ku, ul, uh⟩ := hp_row (cst := cst) (i := xa.toInt) hy (show ly_ths ly_TH 17 = some (.inl (.int, 31, 0, 1240)) from rfl) (by omega) (by omega)
    have ku : ly_hv cst h 4352 xa.toInt = some u := ku
    rw [k1] at ku
    have eu := Option.some.inj ku
    obtain ⟨u', ku', ul', uh'⟩ := hp_row (cst := cst) (i := xa.toInt + 1) hy (show ly_ths ly_TH 17 = some (.inl (.int, 31, 0, 1240)) from rfl) (by omega) (by omega)
    have ku' : ly_hv cst h 4352 (xa.toInt + 1) = some u' := ku'
    rw [k2] at ku'
    have eu' := Option.some.inj ku'
    exact tzE2 c hM (by omega) hy xa.toInt (X.length : Int) ((fX (X.take i)).length : Int) ((fX (X.take (i + 1))).length : Int) (by omega) (by omega) (by omega) (by omega) (by omega) (by omega) (by omega) (by omega) (by omega) kA k1 k2 rfl ⟨xa, rfl, rfl⟩ ⟨xw, rfl, w2⟩ (fun h2 v hv u1 u2 u3 => ⟨v, rfl, rfl, rfl, u1, u2, fun z => by omega, fun i' hi' e => by
      have := same i' hi' e
      subst this
      exact ⟨fun z => by omega, fun z => by omega, fun _ => by omega, fun z => by omega⟩⟩)
  obtain ⟨n', r, hgo, v, r1, r2, r3, r4⟩ := go
  simp only [Nat.zero_add] at r2 r3
  exact ⟨r, Or.inr ⟨M, n', hM, hl, hgo⟩, v, r1, r2, r3, r4⟩
theorem ty_run {cst : am_K} {strs : List Nat} {D : Nat} {h : am_H} (c : hp_C cst strs D) (hD : 3 ≤ D) (hy : ly_hy m_tt ly_TH h) {X : List rX} (I : rA cst h X) (x30 : X.length ≤ 30) {xa xw : Int32} :
    ∃ r, am_Run cst m_cl m_tt m_P strs sx_bi (D + 1) 320 [.ref 94, .int xa, .int xw] h r ∧ (fun r : am_Q => ∃ v : Int32, r.1 = some (.int v) ∧ r.2.2.1 = 0 ∧ r.2.2.2 = 0 ∧ ly_hy m_tt ly_TH r.2.1 ∧ ly_fr cst [] h r.2.1 ∧ tol X xa.toInt xw.toInt v.toInt) r := by
  obtain ⟨M, hM, hl⟩ := hp_M (mi := 320) (k := 3) (by decide +kernel)
  have ba : -2147483648 ≤ xa.toInt := xa.le_toInt
  have ba' : xa.toInt ≤ 2147483647 := xa.toInt_le
  have bw : -2147483648 ≤ xw.toInt := xw.le_toInt
  have bw' : xw.toInt ≤ 2147483647 := xw.toInt_le
  have kA : ly_hv cst h 19989 0 = some (X.length : Int) := I.1
  have go : hp_F cst strs (fun r : am_Q => ∃ v : Int32, r.1 = some (.int v) ∧ r.2.2.1 = 0 ∧ r.2.2.2 = 0 ∧ ly_hy m_tt ly_TH r.2.1 ∧ ly_fr cst [] h r.2.1 ∧ tol X xa.toInt xw.toInt v.toInt) D M 0 (lv_args 0 [.ref 94, .int xa, .int xw]) [] h := by
    by_cases q1 : xa.toInt < 0
    · exact tyA c hM (by omega) hy xa.toInt xw.toInt (X.length : Int) ba (by omega) bw bw' (by omega) (by omega) kA rfl ⟨xa, rfl, rfl⟩ ⟨xw, rfl, rfl⟩ (fun h2 v hv u1 u2 u3 => ⟨v, rfl, rfl, rfl, u1, u2, fun _ => hv, fun i hi e => by omega⟩)
    by_cases q2 : (X.length : Int) ≤ xa.toInt
    · exact tyB c hM (by omega) hy xa.toInt xw.toInt (X.length : Int) (by omega) ba' bw bw' (by omega) (by omega) (by omega) kA rfl ⟨xa, rfl, rfl⟩ ⟨xw, rfl, rfl⟩ (fun h2 v hv u1 u2 u3 => ⟨v, rfl, rfl, rfl, u1, u2, fun _ => hv, fun i hi e => by omega⟩)
    obtain ⟨i, ei⟩ : ∃ i : Nat, xa.toInt = (i : Int) := ⟨xa.toInt.toNat, by omega⟩
    have hi : i < X.length := by omega
    have same : ∀ i' (hi' : i' < X.length), xa.toInt = (i' : Int) → i' = i := fun i' hi' e => by omega
    by_cases q3 : xw.toInt < 0
    · exact tyC c hM (by omega) hy xa.toInt xw.toInt (X.length : Int) (by omega) (by omega) bw (by omega) (by omega) (by omega) (by omega) kA rfl ⟨xa, rfl, rfl⟩ ⟨xw, rfl, rfl⟩ (fun h2 v hv u1 u2 u3 => ⟨v, rfl, rfl, rfl, u1, u2, fun z => by omega, fun i' hi' e => ⟨fun z => by omega, fun z => by omega, fun z => by omega, fun _ => hv⟩⟩)
    by_cases q4 : 2 < xw.toInt
    · exact tyD c hM (by omega) hy xa.toInt xw.toInt (X.length : Int) (by omega) (by omega) (by omega) bw' (by omega) (by omega) (by omega) kA rfl ⟨xa, rfl, rfl⟩ ⟨xw, rfl, rfl⟩ (fun h2 v hv u1 u2 u3 => ⟨v, rfl, rfl, rfl, u1, u2, fun z => by omega, fun i' hi' e => ⟨fun z => by omega, fun z => by omega, fun z => by omega, fun _ => hv⟩⟩)
    by_cases w0 : xw.toInt = 0
    · have kc : ly_hv cst h 22784 xa.toInt = some ((X[i]).1) := by
        rw [ei]
        exact (I.2 i hi).1.1
      obtain ⟨u, ku, ul, uh⟩ := hp_row (cst := cst) (i := xa.toInt) hy (show ly_ths ly_TH 89 = some (.inl (.int, 31, -2147483648, 2147483647)) from rfl) (by omega) (by omega)
      have ku : ly_hv cst h 22784 xa.toInt = some u := ku
      rw [kc] at ku
      have eu := Option.some.inj ku
      exact tyE0 c hM (by omega) hy xa.toInt (X.length : Int) ((X[i]).1) (by omega) (by omega) (by omega) (by omega) (by omega) (by omega) (by omega) kA kc rfl ⟨xa, rfl, rfl⟩ ⟨xw, rfl, w0⟩ (fun h2 v hv u1 u2 u3 => ⟨v, rfl, rfl, rfl, u1, u2, fun z => by omega, fun i' hi' e => by
        have := same i' hi' e
        subst this
        exact ⟨fun _ => hv, fun z => by omega, fun z => by omega, fun z => by omega⟩⟩)
    by_cases w1 : xw.toInt = 1
    · have kc : ly_hv cst h 23040 xa.toInt = some ((X[i]).2.1) := by
        rw [ei]
        exact (I.2 i hi).1.2.1
      obtain ⟨u, ku, ul, uh⟩ := hp_row (cst := cst) (i := xa.toInt) hy (show ly_ths ly_TH 90 = some (.inl (.int, 31, -2147483648, 2147483647)) from rfl) (by omega) (by omega)
      have ku : ly_hv cst h 23040 xa.toInt = some u := ku
      rw [kc] at ku
      have eu := Option.some.inj ku
      exact tyE1 c hM (by omega) hy xa.toInt (X.length : Int) ((X[i]).2.1) (by omega) (by omega) (by omega) (by omega) (by omega) (by omega) (by omega) kA kc rfl ⟨xa, rfl, rfl⟩ ⟨xw, rfl, w1⟩ (fun h2 v hv u1 u2 u3 => ⟨v, rfl, rfl, rfl, u1, u2, fun z => by omega, fun i' hi' e => by
        have := same i' hi' e
        subst this
        exact ⟨fun z => by omega, fun _ => hv, fun z => by omega, fun z => by omega⟩⟩)
    by_cases w2 : xw.toInt = 2
    · have kc : ly_hv cst h 23296 xa.toInt = some (((X[i]).2.2.1.length : Int)) := by
        rw [ei]
        exact (I.2 i hi).1.2.2
      obtain ⟨u, ku, ul, uh⟩ := hp_row (cst := cst) (i := xa.toInt) hy (show ly_ths ly_TH 91 = some (.inl (.int, 31, 0, 40)) from rfl) (by omega) (by omega)
      have ku : ly_hv cst h 23296 xa.toInt = some u := ku
      rw [kc] at ku
      have eu := Option.some.inj ku
      exact tyE2 c hM (by omega) hy xa.toInt (X.length : Int) (((X[i]).2.2.1.length : Int)) (by omega) (by omega) (by omega) (by omega) (by omega) (by omega) (by omega) kA kc rfl ⟨xa, rfl, rfl⟩ ⟨xw, rfl, w2⟩ (fun h2 v hv u1 u2 u3 => ⟨v, rfl, rfl, rfl, u1, u2, fun z => by omega, fun i' hi' e => by
        have := same i' hi' e
        subst this
        exact ⟨fun z => by omega, fun z => by omega, fun _ => hv, fun z => by omega⟩⟩)
    omega
  obtain ⟨n', r, hgo, v, r1, r2, r3, r4⟩ := go
  simp only [Nat.zero_add] at r2 r3
  exact ⟨r, Or.inr ⟨M, n', hM, hl, hgo⟩, v, r1, r2, r3, r4⟩
