/-! PRINTED by wip/p2/hp_ract.py: act of the reference, exactly -/
theorem za0_k : hp_chk 297 0 2 [(0, (-2147483648), 2147483647), (1, (-2147483648), 2147483647)] [] [(0, .inr (.inr (.inl (some 94)))), (1, .inl (0, [(0, 1)])), (2, .inl (0, [(1, 1)]))] [] [] [] 8 [(1, ([], 2, [(0, (-2147483648), 2147483647), (1, (-2147483648), 2147483647)], [], [(0, .inr (.inr (.inl (some 94)))), (1, .inl (0, [(0, 1)])), (2, .inl (0, [(1, 1)]))], [.inr (.inr (.inl (some 94)))], []))] [] = true := by decide +kernel
theorem za0 {cst : am_K} {strs : List Nat} {Φ : am_Q → Prop} {D : Nat} {M : am_M} {h : am_H} {l : am_L} (c : hp_C cst strs D) (hM : m_P[297]? = some M) (hD : (8 : Int) ≤ (D : Int) + 1) (hy : ly_hy m_tt ly_TH h) (d s : Int) (b0 : (-2147483648) ≤ d) (t0 : d ≤ 2147483647) (b1 : (-2147483648) ≤ s) (t1 : s ≤ 2147483647) (l0 : hp_a l 0 94) (l1 : hp_i l 1 (d)) (l2 : hp_i l 2 (s)) (e0 : ∀ (l' : am_L) (h' : am_H), ly_hy m_tt ly_TH h' → ly_fr cst [] h h' → h.length ≤ h'.length → hp_a l' 0 94 → hp_i l' 1 (d) → hp_i l' 2 (s) → hp_F cst strs Φ D M 1 l' [.ref 94] h') : hp_F cst strs Φ D M 0 l [] h := by
  refine hp_arc c hM za0_k hD [d, s] rfl hy (hp_Bc (z := d) rfl b0 t0 (hp_Bc (z := s) rfl b1 t1 hp_Bn)) hp_Fn hp_Kn (hp_La l0 (hp_Li (z := (0 + (1 * d + 0))) l1 rfl (by omega) (hp_Li (z := (0 + (1 * s + 0))) l2 rfl (by omega) hp_Ln))) trivial ?_ ?_
  · intro p hp ys l' st' h' hys a1 a2 a3 gZ gL gS
    rcases List.mem_cons.mp hp with rfl | hp
    · obtain rfl := hp_y0 hys
      obtain ⟨t0, rfl, g0⟩ := hp_gSa gS (by decide)
      cases hp_gSn g0
      exact e0 l' h' a1 a2 a3 (hp_gLa gL (List.mem_of_getElem? (i := 0) rfl) (by decide)) (hp_gLi (z := (0 + (1 * d + 0))) gL (List.mem_of_getElem? (i := 1) rfl) rfl (by omega)) (hp_gLi (z := (0 + (1 * s + 0))) gL (List.mem_of_getElem? (i := 2) rfl) rfl (by omega))
    cases hp
  · intro p hp ys v h' hys a1 a2 a3 gZ gS
    cases hp
theorem zaA_k : hq_chk [277, 273] 297 4 2 [(0, (-2147483648), (-1)), (1, (-2147483648), 2147483647)] [] [(0, .inr (.inr (.inl (some 94)))), (1, .inl (0, [(0, 1)])), (2, .inl (0, [(1, 1)]))] [] [] [] 8 [] [([], 2, [(0, (-2147483648), (-1)), (1, (-2147483648), 2147483647)], [], [], [.inl ((-2), [])], [])] = true := by decide +kernel
theorem zaA {cst : am_K} {strs : List Nat} {Φ : am_Q → Prop} {D : Nat} {M : am_M} {h : am_H} {l : am_L} (c : hp_C cst strs D) (hM : m_P[297]? = some M) (hD : (8 : Int) ≤ (D : Int) + 1) (hy : ly_hy m_tt ly_TH h) (d s : Int) (b0 : (-2147483648) ≤ d) (t0 : d ≤ (-1)) (b1 : (-2147483648) ≤ s) (t1 : s ≤ 2147483647) (l0 : hp_a l 0 94) (l1 : hp_i l 1 (d)) (l2 : hp_i l 2 (s)) (r0 : ∀ (h' : am_H) (y0 : Int32), y0.toInt = (-2) → ly_hy m_tt ly_TH h' → ly_fr cst [] h h' → h.length ≤ h'.length → Φ (some (.int y0), h', 0, 0)) : hp_F cst strs Φ D M 4 l [] h := by
  refine hq_arc c hM zaA_k hD [d, s] rfl hy (hp_Bc (z := d) rfl b0 t0 (hp_Bc (z := s) rfl b1 t1 hp_Bn)) hp_Fn hp_Kn (hp_La l0 (hp_Li (z := (0 + (1 * d + 0))) l1 rfl (by omega) (hp_Li (z := (0 + (1 * s + 0))) l2 rfl (by omega) hp_Ln))) trivial ?_ ?_
  · intro p hp ys l' st' h' hys a1 a2 a3 gZ gL gS
    cases hp
  · intro p hp ys v h' hys a1 a2 a3 gZ gS
    rcases List.mem_cons.mp hp with rfl | hp
    · obtain rfl := hp_y0 hys
      cases v with
      | none => cases gS
      | some w =>
        obtain ⟨y0, t0, s0, q0, -⟩ := hp_gSi (z := ((-2) + 0)) gS rfl
        cases s0
        exact r0 h' y0 (by omega) a1 a2 a3
    cases hp
theorem zaB_k : hq_chk [277, 273] 297 4 2 [(0, 400, 2147483647), (1, (-2147483648), 2147483647)] [] [(0, .inr (.inr (.inl (some 94)))), (1, .inl (0, [(0, 1)])), (2, .inl (0, [(1, 1)]))] [] [] [] 8 [] [([], 2, [(0, 400, 2147483647), (1, (-2147483648), 2147483647)], [], [], [.inl ((-2), [])], [])] = true := by decide +kernel
theorem zaB {cst : am_K} {strs : List Nat} {Φ : am_Q → Prop} {D : Nat} {M : am_M} {h : am_H} {l : am_L} (c : hp_C cst strs D) (hM : m_P[297]? = some M) (hD : (8 : Int) ≤ (D : Int) + 1) (hy : ly_hy m_tt ly_TH h) (d s : Int) (b0 : 400 ≤ d) (t0 : d ≤ 2147483647) (b1 : (-2147483648) ≤ s) (t1 : s ≤ 2147483647) (l0 : hp_a l 0 94) (l1 : hp_i l 1 (d)) (l2 : hp_i l 2 (s)) (r0 : ∀ (h' : am_H) (y0 : Int32), y0.toInt = (-2) → ly_hy m_tt ly_TH h' → ly_fr cst [] h h' → h.length ≤ h'.length → Φ (some (.int y0), h', 0, 0)) : hp_F cst strs Φ D M 4 l [] h := by
  refine hq_arc c hM zaB_k hD [d, s] rfl hy (hp_Bc (z := d) rfl b0 t0 (hp_Bc (z := s) rfl b1 t1 hp_Bn)) hp_Fn hp_Kn (hp_La l0 (hp_Li (z := (0 + (1 * d + 0))) l1 rfl (by omega) (hp_Li (z := (0 + (1 * s + 0))) l2 rfl (by omega) hp_Ln))) trivial ?_ ?_
  · intro p hp ys l' st' h' hys a1 a2 a3 gZ gL gS
    cases hp
  · intro p hp ys v h' hys a1 a2 a3 gZ gS
    rcases List.mem_cons.mp hp with rfl | hp
    · obtain rfl := hp_y0 hys
      cases v with
      | none => cases gS
      | some w =>
        obtain ⟨y0, t0, s0, q0, -⟩ := hp_gSi (z := ((-2) + 0)) gS rfl
        cases s0
        exact r0 h' y0 (by omega) a1 a2 a3
    cases hp
theorem zaC_k : hq_chk [277, 273] 297 4 2 [(0, 0, 399), (1, (-2147483648), 0)] [] [(0, .inr (.inr (.inl (some 94)))), (1, .inl (0, [(0, 1)])), (2, .inl (0, [(1, 1)]))] [] [] [] 8 [] [([], 2, [(0, 0, 399), (1, (-2147483648), 0)], [], [], [.inl ((-2), [])], [])] = true := by decide +kernel
theorem zaC {cst : am_K} {strs : List Nat} {Φ : am_Q → Prop} {D : Nat} {M : am_M} {h : am_H} {l : am_L} (c : hp_C cst strs D) (hM : m_P[297]? = some M) (hD : (8 : Int) ≤ (D : Int) + 1) (hy : ly_hy m_tt ly_TH h) (d s : Int) (b0 : 0 ≤ d) (t0 : d ≤ 399) (b1 : (-2147483648) ≤ s) (t1 : s ≤ 0) (l0 : hp_a l 0 94) (l1 : hp_i l 1 (d)) (l2 : hp_i l 2 (s)) (r0 : ∀ (h' : am_H) (y0 : Int32), y0.toInt = (-2) → ly_hy m_tt ly_TH h' → ly_fr cst [] h h' → h.length ≤ h'.length → Φ (some (.int y0), h', 0, 0)) : hp_F cst strs Φ D M 4 l [] h := by
  refine hq_arc c hM zaC_k hD [d, s] rfl hy (hp_Bc (z := d) rfl b0 t0 (hp_Bc (z := s) rfl b1 t1 hp_Bn)) hp_Fn hp_Kn (hp_La l0 (hp_Li (z := (0 + (1 * d + 0))) l1 rfl (by omega) (hp_Li (z := (0 + (1 * s + 0))) l2 rfl (by omega) hp_Ln))) trivial ?_ ?_
  · intro p hp ys l' st' h' hys a1 a2 a3 gZ gL gS
    cases hp
  · intro p hp ys v h' hys a1 a2 a3 gZ gS
    rcases List.mem_cons.mp hp with rfl | hp
    · obtain rfl := hp_y0 hys
      cases v with
      | none => cases gS
      | some w =>
        obtain ⟨y0, t0, s0, q0, -⟩ := hp_gSi (z := ((-2) + 0)) gS rfl
        cases s0
        exact r0 h' y0 (by omega) a1 a2 a3
    cases hp
theorem zaD_k : hq_chk [277, 273] 297 4 2 [(0, 0, 399), (1, 64, 2147483647)] [] [(0, .inr (.inr (.inl (some 94)))), (1, .inl (0, [(0, 1)])), (2, .inl (0, [(1, 1)]))] [] [] [] 8 [] [([], 2, [(0, 0, 399), (1, 64, 2147483647)], [], [], [.inl ((-2), [])], [])] = true := by decide +kernel
theorem zaD {cst : am_K} {strs : List Nat} {Φ : am_Q → Prop} {D : Nat} {M : am_M} {h : am_H} {l : am_L} (c : hp_C cst strs D) (hM : m_P[297]? = some M) (hD : (8 : Int) ≤ (D : Int) + 1) (hy : ly_hy m_tt ly_TH h) (d s : Int) (b0 : 0 ≤ d) (t0 : d ≤ 399) (b1 : 64 ≤ s) (t1 : s ≤ 2147483647) (l0 : hp_a l 0 94) (l1 : hp_i l 1 (d)) (l2 : hp_i l 2 (s)) (r0 : ∀ (h' : am_H) (y0 : Int32), y0.toInt = (-2) → ly_hy m_tt ly_TH h' → ly_fr cst [] h h' → h.length ≤ h'.length → Φ (some (.int y0), h', 0, 0)) : hp_F cst strs Φ D M 4 l [] h := by
  refine hq_arc c hM zaD_k hD [d, s] rfl hy (hp_Bc (z := d) rfl b0 t0 (hp_Bc (z := s) rfl b1 t1 hp_Bn)) hp_Fn hp_Kn (hp_La l0 (hp_Li (z := (0 + (1 * d + 0))) l1 rfl (by omega) (hp_Li (z := (0 + (1 * s + 0))) l2 rfl (by omega) hp_Ln))) trivial ?_ ?_
  · intro p hp ys l' st' h' hys a1 a2 a3 gZ gL gS
    cases hp
  · intro p hp ys v h' hys a1 a2 a3 gZ gS
    rcases List.mem_cons.mp hp with rfl | hp
    · obtain rfl := hp_y0 hys
      cases v with
      | none => cases gS
      | some w =>
        obtain ⟨y0, t0, s0, q0, -⟩ := hp_gSi (z := ((-2) + 0)) gS rfl
        cases s0
        exact r0 h' y0 (by omega) a1 a2 a3
    cases hp
theorem zaE_k : hq_chk [277, 273] 297 4 2 [(0, 0, 399), (1, 1, 63)] [] [(0, .inr (.inr (.inl (some 94)))), (1, .inl (0, [(0, 1)])), (2, .inl (0, [(1, 1)]))] [] [(19989, (0, []), (0, []))] [19990, 19991] 8 [(63, ([], 2, [(0, 0, 399), (1, 1, 63)], [], [(0, .inr (.inr (.inl (some 94)))), (1, .inl (0, [(0, 1)])), (2, .inl (0, [(1, 1)]))], [.inl (0, []), .inl (30, []), .inr (.inr (.inl (some 107)))], [(19990, (0, []), (0, [])), (19991, (0, []), ((-1), []))]))] [] = true := by decide +kernel
theorem zaE {cst : am_K} {strs : List Nat} {Φ : am_Q → Prop} {D : Nat} {M : am_M} {h : am_H} {l : am_L} (c : hp_C cst strs D) (hM : m_P[297]? = some M) (hD : (8 : Int) ≤ (D : Int) + 1) (hy : ly_hy m_tt ly_TH h) (d s : Int) (b0 : 0 ≤ d) (t0 : d ≤ 399) (b1 : 1 ≤ s) (t1 : s ≤ 63) (k0 : ly_hv cst h 19989 0 = some 0) (l0 : hp_a l 0 94) (l1 : hp_i l 1 (d)) (l2 : hp_i l 2 (s)) (e0 : ∀ (l' : am_L) (h' : am_H) (y0 : Int32) (y1 : Int32), y0.toInt = 0 → y1.toInt = 30 → ly_hy m_tt ly_TH h' → ly_fr cst [19990, 19991] h h' → h.length ≤ h'.length → ly_hv cst h' 19990 0 = some 0 → ly_hv cst h' 19991 0 = some (-1) → hp_a l' 0 94 → hp_i l' 1 (d) → hp_i l' 2 (s) → hp_F cst strs Φ D M 63 l' [.int y0, .int y1, .ref 107] h') : hp_F cst strs Φ D M 4 l [] h := by
  refine hq_arc c hM zaE_k hD [d, s] rfl hy (hp_Bc (z := d) rfl b0 t0 (hp_Bc (z := s) rfl b1 t1 hp_Bn)) hp_Fn (hp_Kc (zi := (0 + 0)) (zv := (0 + 0)) k0 rfl rfl (by omega) (by omega) hp_Kn) (hp_La l0 (hp_Li (z := (0 + (1 * d + 0))) l1 rfl (by omega) (hp_Li (z := (0 + (1 * s + 0))) l2 rfl (by omega) hp_Ln))) trivial ?_ ?_
  · intro p hp ys l' st' h' hys a1 a2 a3 gZ gL gS
    rcases List.mem_cons.mp hp with rfl | hp
    · obtain rfl := hp_y0 hys
      obtain ⟨y0, t0, rfl, q0, g0⟩ := hp_gSi (z := (0 + 0)) gS rfl
      obtain ⟨y1, t1, rfl, q1, g1⟩ := hp_gSi (z := (30 + 0)) g0 rfl
      obtain ⟨t2, rfl, g2⟩ := hp_gSa g1 (by decide)
      cases hp_gSn g2
      exact e0 l' h' y0 y1 (by omega) (by omega) a1 a2 a3 (hp_gK (zi := (0 + 0)) (zv := (0 + 0)) gZ.2.2.2 (List.mem_of_getElem? (i := 0) rfl) rfl rfl (by omega) (by omega)) (hp_gK (zi := (0 + 0)) (zv := ((-1) + 0)) gZ.2.2.2 (List.mem_of_getElem? (i := 1) rfl) rfl rfl (by omega) (by omega)) (hp_gLa gL (List.mem_of_getElem? (i := 0) rfl) (by decide)) (hp_gLi (z := (0 + (1 * d + 0))) gL (List.mem_of_getElem? (i := 1) rfl) rfl (by omega)) (hp_gLi (z := (0 + (1 * s + 0))) gL (List.mem_of_getElem? (i := 2) rfl) rfl (by omega))
    cases hp
  · intro p hp ys v h' hys a1 a2 a3 gZ gS
    cases hp
theorem zaF_k : hq_chk [277, 273] 297 4 4 [(0, 0, 399), (1, 1, 63), (2, 1, 30), (3, (-2147483648), 2147483647)] [((-1), [(0, (-1)), (3, 1)])] [(0, .inr (.inr (.inl (some 94)))), (1, .inl (0, [(0, 1)])), (2, .inl (0, [(1, 1)]))] [] [(19989, (0, []), (0, [(2, 1)])), (22784, ((-1), [(2, 1)]), (0, [(3, 1)]))] [] 8 [] [([], 4, [(0, 0, 399), (1, 1, 63), (2, 1, 30), (3, (-2147483648), 2147483647)], [], [], [.inl ((-2), [])], [])] = true := by decide +kernel
theorem zaF {cst : am_K} {strs : List Nat} {Φ : am_Q → Prop} {D : Nat} {M : am_M} {h : am_H} {l : am_L} (c : hp_C cst strs D) (hM : m_P[297]? = some M) (hD : (8 : Int) ≤ (D : Int) + 1) (hy : ly_hy m_tt ly_TH h) (d s ac e : Int) (b0 : 0 ≤ d) (t0 : d ≤ 399) (b1 : 1 ≤ s) (t1 : s ≤ 63) (b2 : 1 ≤ ac) (t2 : ac ≤ 30) (b3 : (-2147483648) ≤ e) (t3 : e ≤ 2147483647) (f0 : 0 ≤ (e - d - 1)) (k0 : ly_hv cst h 19989 0 = some (ac)) (k1 : ly_hv cst h 22784 (ac - 1) = some (e)) (l0 : hp_a l 0 94) (l1 : hp_i l 1 (d)) (l2 : hp_i l 2 (s)) (r0 : ∀ (h' : am_H) (y0 : Int32), y0.toInt = (-2) → ly_hy m_tt ly_TH h' → ly_fr cst [] h h' → h.length ≤ h'.length → Φ (some (.int y0), h', 0, 0)) : hp_F cst strs Φ D M 4 l [] h := by
  refine hq_arc c hM zaF_k hD [d, s, ac, e] rfl hy (hp_Bc (z := d) rfl b0 t0 (hp_Bc (z := s) rfl b1 t1 (hp_Bc (z := ac) rfl b2 t2 (hp_Bc (z := e) rfl b3 t3 hp_Bn)))) (hp_Fc (z := ((-1) + ((-1) * d + (1 * e + 0)))) rfl (by omega) hp_Fn) (hp_Kc (zi := (0 + 0)) (zv := (0 + (1 * ac + 0))) k0 rfl rfl (by omega) (by omega) (hp_Kc (zi := ((-1) + (1 * ac + 0))) (zv := (0 + (1 * e + 0))) k1 rfl rfl (by omega) (by omega) hp_Kn)) (hp_La l0 (hp_Li (z := (0 + (1 * d + 0))) l1 rfl (by omega) (hp_Li (z := (0 + (1 * s + 0))) l2 rfl (by omega) hp_Ln))) trivial ?_ ?_
  · intro p hp ys l' st' h' hys a1 a2 a3 gZ gL gS
    cases hp
  · intro p hp ys v h' hys a1 a2 a3 gZ gS
    rcases List.mem_cons.mp hp with rfl | hp
    · obtain rfl := hp_y0 hys
      cases v with
      | none => cases gS
      | some w =>
        obtain ⟨y0, t0, s0, q0, -⟩ := hp_gSi (z := ((-2) + 0)) gS rfl
        cases s0
        exact r0 h' y0 (by omega) a1 a2 a3
    cases hp
theorem zaG_k : hq_chk [277, 273] 297 4 4 [(0, 0, 399), (1, 1, 63), (2, 1, 30), (3, (-2147483648), 2147483647)] [(0, [(0, 1), (3, (-1))])] [(0, .inr (.inr (.inl (some 94)))), (1, .inl (0, [(0, 1)])), (2, .inl (0, [(1, 1)]))] [] [(19989, (0, []), (0, [(2, 1)])), (22784, ((-1), [(2, 1)]), (0, [(3, 1)]))] [19990, 19991] 8 [(63, ([], 4, [(0, 0, 399), (1, 1, 63), (2, 1, 30), (3, (-2147483648), 2147483647)], [], [(0, .inr (.inr (.inl (some 94)))), (1, .inl (0, [(0, 1)])), (2, .inl (0, [(1, 1)]))], [.inl (0, []), .inl (30, []), .inr (.inr (.inl (some 107)))], [(19990, (0, []), (0, [])), (19991, (0, []), ((-1), []))]))] [] = true := by decide +kernel
theorem zaG {cst : am_K} {strs : List Nat} {Φ : am_Q → Prop} {D : Nat} {M : am_M} {h : am_H} {l : am_L} (c : hp_C cst strs D) (hM : m_P[297]? = some M) (hD : (8 : Int) ≤ (D : Int) + 1) (hy : ly_hy m_tt ly_TH h) (d s ac e : Int) (b0 : 0 ≤ d) (t0 : d ≤ 399) (b1 : 1 ≤ s) (t1 : s ≤ 63) (b2 : 1 ≤ ac) (t2 : ac ≤ 30) (b3 : (-2147483648) ≤ e) (t3 : e ≤ 2147483647) (f0 : 0 ≤ (d - e)) (k0 : ly_hv cst h 19989 0 = some (ac)) (k1 : ly_hv cst h 22784 (ac - 1) = some (e)) (l0 : hp_a l 0 94) (l1 : hp_i l 1 (d)) (l2 : hp_i l 2 (s)) (e0 : ∀ (l' : am_L) (h' : am_H) (y0 : Int32) (y1 : Int32), y0.toInt = 0 → y1.toInt = 30 → ly_hy m_tt ly_TH h' → ly_fr cst [19990, 19991] h h' → h.length ≤ h'.length → ly_hv cst h' 19990 0 = some 0 → ly_hv cst h' 19991 0 = some (-1) → hp_a l' 0 94 → hp_i l' 1 (d) → hp_i l' 2 (s) → hp_F cst strs Φ D M 63 l' [.int y0, .int y1, .ref 107] h') : hp_F cst strs Φ D M 4 l [] h := by
  refine hq_arc c hM zaG_k hD [d, s, ac, e] rfl hy (hp_Bc (z := d) rfl b0 t0 (hp_Bc (z := s) rfl b1 t1 (hp_Bc (z := ac) rfl b2 t2 (hp_Bc (z := e) rfl b3 t3 hp_Bn)))) (hp_Fc (z := (0 + (1 * d + ((-1) * e + 0)))) rfl (by omega) hp_Fn) (hp_Kc (zi := (0 + 0)) (zv := (0 + (1 * ac + 0))) k0 rfl rfl (by omega) (by omega) (hp_Kc (zi := ((-1) + (1 * ac + 0))) (zv := (0 + (1 * e + 0))) k1 rfl rfl (by omega) (by omega) hp_Kn)) (hp_La l0 (hp_Li (z := (0 + (1 * d + 0))) l1 rfl (by omega) (hp_Li (z := (0 + (1 * s + 0))) l2 rfl (by omega) hp_Ln))) trivial ?_ ?_
  · intro p hp ys l' st' h' hys a1 a2 a3 gZ gL gS
    rcases List.mem_cons.mp hp with rfl | hp
    · obtain rfl := hp_y0 hys
      obtain ⟨y0, t0, rfl, q0, g0⟩ := hp_gSi (z := (0 + 0)) gS rfl
      obtain ⟨y1, t1, rfl, q1, g1⟩ := hp_gSi (z := (30 + 0)) g0 rfl
      obtain ⟨t2, rfl, g2⟩ := hp_gSa g1 (by decide)
      cases hp_gSn g2
      exact e0 l' h' y0 y1 (by omega) (by omega) a1 a2 a3 (hp_gK (zi := (0 + 0)) (zv := (0 + 0)) gZ.2.2.2 (List.mem_of_getElem? (i := 0) rfl) rfl rfl (by omega) (by omega)) (hp_gK (zi := (0 + 0)) (zv := ((-1) + 0)) gZ.2.2.2 (List.mem_of_getElem? (i := 1) rfl) rfl rfl (by omega) (by omega)) (hp_gLa gL (List.mem_of_getElem? (i := 0) rfl) (by decide)) (hp_gLi (z := (0 + (1 * d + 0))) gL (List.mem_of_getElem? (i := 1) rfl) rfl (by omega)) (hp_gLi (z := (0 + (1 * s + 0))) gL (List.mem_of_getElem? (i := 2) rfl) rfl (by omega))
    cases hp
  · intro p hp ys v h' hys a1 a2 a3 gZ gS
    cases hp
theorem zaH_k : hp_chk 297 64 2 [(0, 0, 399), (1, 1, 63)] [] [(0, .inr (.inr (.inl (some 94)))), (1, .inl (0, [(0, 1)])), (2, .inl (0, [(1, 1)]))] [] [] [20010, 20011, 20012, 20013, 60020, 60060, 60061] 8 [(84, ([], 2, [(0, 0, 399), (1, 1, 63)], [], [(0, .inr (.inr (.inl (some 94)))), (1, .inl (0, [(0, 1)])), (2, .inl (0, [(1, 1)]))], [], [(20010, (0, []), (0, [])), (20011, (0, []), (0, [])), (20012, (0, []), (0, [])), (20013, (0, []), (0, []))]))] [] = true := by decide +kernel
theorem zaH {cst : am_K} {strs : List Nat} {Φ : am_Q → Prop} {D : Nat} {M : am_M} {h : am_H} {l : am_L} (c : hp_C cst strs D) (hM : m_P[297]? = some M) (hD : (8 : Int) ≤ (D : Int) + 1) (hy : ly_hy m_tt ly_TH h) (d s : Int) (b0 : 0 ≤ d) (t0 : d ≤ 399) (b1 : 1 ≤ s) (t1 : s ≤ 63) (l0 : hp_a l 0 94) (l1 : hp_i l 1 (d)) (l2 : hp_i l 2 (s)) (e0 : ∀ (l' : am_L) (h' : am_H), ly_hy m_tt ly_TH h' → ly_fr cst [20010, 20011, 20012, 20013, 60020, 60060, 60061] h h' → h.length ≤ h'.length → ly_hv cst h' 20010 0 = some 0 → ly_hv cst h' 20011 0 = some 0 → ly_hv cst h' 20012 0 = some 0 → ly_hv cst h' 20013 0 = some 0 → hp_a l' 0 94 → hp_i l' 1 (d) → hp_i l' 2 (s) → hp_F cst strs Φ D M 84 l' [] h') : hp_F cst strs Φ D M 64 l [] h := by
  refine hp_arc c hM zaH_k hD [d, s] rfl hy (hp_Bc (z := d) rfl b0 t0 (hp_Bc (z := s) rfl b1 t1 hp_Bn)) hp_Fn hp_Kn (hp_La l0 (hp_Li (z := (0 + (1 * d + 0))) l1 rfl (by omega) (hp_Li (z := (0 + (1 * s + 0))) l2 rfl (by omega) hp_Ln))) trivial ?_ ?_
  · intro p hp ys l' st' h' hys a1 a2 a3 gZ gL gS
    rcases List.mem_cons.mp hp with rfl | hp
    · obtain rfl := hp_y0 hys
      cases hp_gSn gS
      exact e0 l' h' a1 a2 a3 (hp_gK (zi := (0 + 0)) (zv := (0 + 0)) gZ.2.2.2 (List.mem_of_getElem? (i := 0) rfl) rfl rfl (by omega) (by omega)) (hp_gK (zi := (0 + 0)) (zv := (0 + 0)) gZ.2.2.2 (List.mem_of_getElem? (i := 1) rfl) rfl rfl (by omega) (by omega)) (hp_gK (zi := (0 + 0)) (zv := (0 + 0)) gZ.2.2.2 (List.mem_of_getElem? (i := 2) rfl) rfl rfl (by omega) (by omega)) (hp_gK (zi := (0 + 0)) (zv := (0 + 0)) gZ.2.2.2 (List.mem_of_getElem? (i := 3) rfl) rfl rfl (by omega) (by omega)) (hp_gLa gL (List.mem_of_getElem? (i := 0) rfl) (by decide)) (hp_gLi (z := (0 + (1 * d + 0))) gL (List.mem_of_getElem? (i := 1) rfl) rfl (by omega)) (hp_gLi (z := (0 + (1 * s + 0))) gL (List.mem_of_getElem? (i := 2) rfl) rfl (by omega))
    cases hp
  · intro p hp ys v h' hys a1 a2 a3 gZ gS
    cases hp
theorem zaI_k : hp_chk 297 84 3 [(0, 0, 399), (1, 1, 63), (2, 0, 7)] [] [(0, .inr (.inr (.inl (some 94)))), (1, .inl (0, [(0, 1)])), (2, .inl (0, [(1, 1)]))] [] [(19971, (0, []), (0, [(2, 1)]))] [] 8 [(94, ([], 3, [(0, 0, 399), (1, 1, 63), (2, 0, 7)], [], [(0, .inr (.inr (.inl (some 94)))), (1, .inl (0, [(0, 1)])), (2, .inl (0, [(1, 1)]))], [.inr (.inr (.inl (some 94)))], []))] [] = true := by decide +kernel
theorem zaI {cst : am_K} {strs : List Nat} {Φ : am_Q → Prop} {D : Nat} {M : am_M} {h : am_H} {l : am_L} (c : hp_C cst strs D) (hM : m_P[297]? = some M) (hD : (8 : Int) ≤ (D : Int) + 1) (hy : ly_hy m_tt ly_TH h) (d s q : Int) (b0 : 0 ≤ d) (t0 : d ≤ 399) (b1 : 1 ≤ s) (t1 : s ≤ 63) (b2 : 0 ≤ q) (t2 : q ≤ 7) (k0 : ly_hv cst h 19971 0 = some (q)) (l0 : hp_a l 0 94) (l1 : hp_i l 1 (d)) (l2 : hp_i l 2 (s)) (e0 : ∀ (l' : am_L) (h' : am_H), ly_hy m_tt ly_TH h' → ly_fr cst [] h h' → h.length ≤ h'.length → hp_a l' 0 94 → hp_i l' 1 (d) → hp_i l' 2 (s) → hp_F cst strs Φ D M 94 l' [.ref 94] h') : hp_F cst strs Φ D M 84 l [] h := by
  refine hp_arc c hM zaI_k hD [d, s, q] rfl hy (hp_Bc (z := d) rfl b0 t0 (hp_Bc (z := s) rfl b1 t1 (hp_Bc (z := q) rfl b2 t2 hp_Bn))) hp_Fn (hp_Kc (zi := (0 + 0)) (zv := (0 + (1 * q + 0))) k0 rfl rfl (by omega) (by omega) hp_Kn) (hp_La l0 (hp_Li (z := (0 + (1 * d + 0))) l1 rfl (by omega) (hp_Li (z := (0 + (1 * s + 0))) l2 rfl (by omega) hp_Ln))) trivial ?_ ?_
  · intro p hp ys l' st' h' hys a1 a2 a3 gZ gL gS
    rcases List.mem_cons.mp hp with rfl | hp
    · obtain rfl := hp_y0 hys
      obtain ⟨t0, rfl, g0⟩ := hp_gSa gS (by decide)
      cases hp_gSn g0
      exact e0 l' h' a1 a2 a3 (hp_gLa gL (List.mem_of_getElem? (i := 0) rfl) (by decide)) (hp_gLi (z := (0 + (1 * d + 0))) gL (List.mem_of_getElem? (i := 1) rfl) rfl (by omega)) (hp_gLi (z := (0 + (1 * s + 0))) gL (List.mem_of_getElem? (i := 2) rfl) rfl (by omega))
    cases hp
  · intro p hp ys v h' hys a1 a2 a3 gZ gS
    cases hp
theorem zaJ0_k : hp_chk 297 97 2 [(0, 0, 399), (1, 1, 63)] [] [(0, .inr (.inr (.inl (some 94)))), (1, .inl (0, [(0, 1)])), (2, .inl (0, [(1, 1)]))] [.inl (0, [])] [] [] 8 [] [([], 2, [(0, 0, 399), (1, 1, 63)], [], [], [.inl ((-1), [])], [])] = true := by decide +kernel
theorem zaJ0 {cst : am_K} {strs : List Nat} {Φ : am_Q → Prop} {D : Nat} {M : am_M} {h : am_H} {l : am_L} (c : hp_C cst strs D) (hM : m_P[297]? = some M) (hD : (8 : Int) ≤ (D : Int) + 1) (hy : ly_hy m_tt ly_TH h) (d s : Int) (x0 : Int32) (hx0 : x0.toInt = 0) (b0 : 0 ≤ d) (t0 : d ≤ 399) (b1 : 1 ≤ s) (t1 : s ≤ 63) (l0 : hp_a l 0 94) (l1 : hp_i l 1 (d)) (l2 : hp_i l 2 (s)) (r0 : ∀ (h' : am_H) (y0 : Int32), y0.toInt = (-1) → ly_hy m_tt ly_TH h' → ly_fr cst [] h h' → h.length ≤ h'.length → Φ (some (.int y0), h', 0, 0)) : hp_F cst strs Φ D M 97 l [.int x0] h := by
  refine hp_arc c hM zaJ0_k hD [d, s] rfl hy (hp_Bc (z := d) rfl b0 t0 (hp_Bc (z := s) rfl b1 t1 hp_Bn)) hp_Fn hp_Kn (hp_La l0 (hp_Li (z := (0 + (1 * d + 0))) l1 rfl (by omega) (hp_Li (z := (0 + (1 * s + 0))) l2 rfl (by omega) hp_Ln))) (hp_Si (z := (0 + 0)) rfl (by omega) trivial) ?_ ?_
  · intro p hp ys l' st' h' hys a1 a2 a3 gZ gL gS
    cases hp
  · intro p hp ys v h' hys a1 a2 a3 gZ gS
    rcases List.mem_cons.mp hp with rfl | hp
    · obtain rfl := hp_y0 hys
      cases v with
      | none => cases gS
      | some w =>
        obtain ⟨y0, t0, s0, q0, -⟩ := hp_gSi (z := ((-1) + 0)) gS rfl
        cases s0
        exact r0 h' y0 (by omega) a1 a2 a3
    cases hp
theorem zaJ1_k : hp_chk 297 97 2 [(0, 0, 399), (1, 1, 63)] [] [(0, .inr (.inr (.inl (some 94)))), (1, .inl (0, [(0, 1)])), (2, .inl (0, [(1, 1)]))] [.inl (1, [])] [] [] 8 [(84, ([], 2, [(0, 0, 399), (1, 1, 63)], [], [(0, .inr (.inr (.inl (some 94)))), (1, .inl (0, [(0, 1)])), (2, .inl (0, [(1, 1)]))], [], []))] [] = true := by decide +kernel
theorem zaJ1 {cst : am_K} {strs : List Nat} {Φ : am_Q → Prop} {D : Nat} {M : am_M} {h : am_H} {l : am_L} (c : hp_C cst strs D) (hM : m_P[297]? = some M) (hD : (8 : Int) ≤ (D : Int) + 1) (hy : ly_hy m_tt ly_TH h) (d s : Int) (x0 : Int32) (hx0 : x0.toInt = 1) (b0 : 0 ≤ d) (t0 : d ≤ 399) (b1 : 1 ≤ s) (t1 : s ≤ 63) (l0 : hp_a l 0 94) (l1 : hp_i l 1 (d)) (l2 : hp_i l 2 (s)) (e0 : ∀ (l' : am_L) (h' : am_H), ly_hy m_tt ly_TH h' → ly_fr cst [] h h' → h.length ≤ h'.length → hp_a l' 0 94 → hp_i l' 1 (d) → hp_i l' 2 (s) → hp_F cst strs Φ D M 84 l' [] h') : hp_F cst strs Φ D M 97 l [.int x0] h := by
  refine hp_arc c hM zaJ1_k hD [d, s] rfl hy (hp_Bc (z := d) rfl b0 t0 (hp_Bc (z := s) rfl b1 t1 hp_Bn)) hp_Fn hp_Kn (hp_La l0 (hp_Li (z := (0 + (1 * d + 0))) l1 rfl (by omega) (hp_Li (z := (0 + (1 * s + 0))) l2 rfl (by omega) hp_Ln))) (hp_Si (z := (1 + 0)) rfl (by omega) trivial) ?_ ?_
  · intro p hp ys l' st' h' hys a1 a2 a3 gZ gL gS
    rcases List.mem_cons.mp hp with rfl | hp
    · obtain rfl := hp_y0 hys
      cases hp_gSn gS
      exact e0 l' h' a1 a2 a3 (hp_gLa gL (List.mem_of_getElem? (i := 0) rfl) (by decide)) (hp_gLi (z := (0 + (1 * d + 0))) gL (List.mem_of_getElem? (i := 1) rfl) rfl (by omega)) (hp_gLi (z := (0 + (1 * s + 0))) gL (List.mem_of_getElem? (i := 2) rfl) rfl (by omega))
    cases hp
  · intro p hp ys v h' hys a1 a2 a3 gZ gS
    cases hp
theorem zaK_k : hp_chk 297 84 2 [(0, 0, 399), (1, 1, 63)] [] [(0, .inr (.inr (.inl (some 94)))), (1, .inl (0, [(0, 1)])), (2, .inl (0, [(1, 1)]))] [] [(19971, (0, []), (8, [])), (19989, (0, []), (30, []))] [] 8 [] [([], 2, [(0, 0, 399), (1, 1, 63)], [], [], [.inl ((-3), [])], [])] = true := by decide +kernel
theorem zaK {cst : am_K} {strs : List Nat} {Φ : am_Q → Prop} {D : Nat} {M : am_M} {h : am_H} {l : am_L} (c : hp_C cst strs D) (hM : m_P[297]? = some M) (hD : (8 : Int) ≤ (D : Int) + 1) (hy : ly_hy m_tt ly_TH h) (d s : Int) (b0 : 0 ≤ d) (t0 : d ≤ 399) (b1 : 1 ≤ s) (t1 : s ≤ 63) (k0 : ly_hv cst h 19971 0 = some 8) (k1 : ly_hv cst h 19989 0 = some 30) (l0 : hp_a l 0 94) (l1 : hp_i l 1 (d)) (l2 : hp_i l 2 (s)) (r0 : ∀ (h' : am_H) (y0 : Int32), y0.toInt = (-3) → ly_hy m_tt ly_TH h' → ly_fr cst [] h h' → h.length ≤ h'.length → Φ (some (.int y0), h', 0, 0)) : hp_F cst strs Φ D M 84 l [] h := by
  refine hp_arc c hM zaK_k hD [d, s] rfl hy (hp_Bc (z := d) rfl b0 t0 (hp_Bc (z := s) rfl b1 t1 hp_Bn)) hp_Fn (hp_Kc (zi := (0 + 0)) (zv := (8 + 0)) k0 rfl rfl (by omega) (by omega) (hp_Kc (zi := (0 + 0)) (zv := (30 + 0)) k1 rfl rfl (by omega) (by omega) hp_Kn)) (hp_La l0 (hp_Li (z := (0 + (1 * d + 0))) l1 rfl (by omega) (hp_Li (z := (0 + (1 * s + 0))) l2 rfl (by omega) hp_Ln))) trivial ?_ ?_
  · intro p hp ys l' st' h' hys a1 a2 a3 gZ gL gS
    cases hp
  · intro p hp ys v h' hys a1 a2 a3 gZ gS
    rcases List.mem_cons.mp hp with rfl | hp
    · obtain rfl := hp_y0 hys
      cases v with
      | none => cases gS
      | some w =>
        obtain ⟨y0, t0, s0, q0, -⟩ := hp_gSi (z := ((-3) + 0)) gS rfl
        cases s0
        exact r0 h' y0 (by omega) a1 a2 a3
    cases hp
theorem zaL_k : hp_chk 297 84 3 [(0, 0, 399), (1, 1, 63), (2, 0, 29)] [] [(0, .inr (.inr (.inl (some 94)))), (1, .inl (0, [(0, 1)])), (2, .inl (0, [(1, 1)]))] [] [(19971, (0, []), (8, [])), (19989, (0, []), (0, [(2, 1)]))] [] 8 [(123, ([], 3, [(0, 0, 399), (1, 1, 63), (2, 0, 29)], [], [(0, .inr (.inr (.inl (some 94)))), (1, .inl (0, [(0, 1)])), (2, .inl (0, [(1, 1)]))], [.inl (0, [(0, 1)]), .inl (0, [(2, 1)]), .inr (.inr (.inl (some 105)))], []))] [] = true := by decide +kernel
theorem zaL {cst : am_K} {strs : List Nat} {Φ : am_Q → Prop} {D : Nat} {M : am_M} {h : am_H} {l : am_L} (c : hp_C cst strs D) (hM : m_P[297]? = some M) (hD : (8 : Int) ≤ (D : Int) + 1) (hy : ly_hy m_tt ly_TH h) (d s ac : Int) (b0 : 0 ≤ d) (t0 : d ≤ 399) (b1 : 1 ≤ s) (t1 : s ≤ 63) (b2 : 0 ≤ ac) (t2 : ac ≤ 29) (k0 : ly_hv cst h 19971 0 = some 8) (k1 : ly_hv cst h 19989 0 = some (ac)) (l0 : hp_a l 0 94) (l1 : hp_i l 1 (d)) (l2 : hp_i l 2 (s)) (e0 : ∀ (l' : am_L) (h' : am_H) (y0 : Int32) (y1 : Int32), y0.toInt = (d) → y1.toInt = (ac) → ly_hy m_tt ly_TH h' → ly_fr cst [] h h' → h.length ≤ h'.length → hp_a l' 0 94 → hp_i l' 1 (d) → hp_i l' 2 (s) → hp_F cst strs Φ D M 123 l' [.int y0, .int y1, .ref 105] h') : hp_F cst strs Φ D M 84 l [] h := by
  refine hp_arc c hM zaL_k hD [d, s, ac] rfl hy (hp_Bc (z := d) rfl b0 t0 (hp_Bc (z := s) rfl b1 t1 (hp_Bc (z := ac) rfl b2 t2 hp_Bn))) hp_Fn (hp_Kc (zi := (0 + 0)) (zv := (8 + 0)) k0 rfl rfl (by omega) (by omega) (hp_Kc (zi := (0 + 0)) (zv := (0 + (1 * ac + 0))) k1 rfl rfl (by omega) (by omega) hp_Kn)) (hp_La l0 (hp_Li (z := (0 + (1 * d + 0))) l1 rfl (by omega) (hp_Li (z := (0 + (1 * s + 0))) l2 rfl (by omega) hp_Ln))) trivial ?_ ?_
  · intro p hp ys l' st' h' hys a1 a2 a3 gZ gL gS
    rcases List.mem_cons.mp hp with rfl | hp
    · obtain rfl := hp_y0 hys
      obtain ⟨y0, t0, rfl, q0, g0⟩ := hp_gSi (z := (0 + (1 * d + 0))) gS rfl
      obtain ⟨y1, t1, rfl, q1, g1⟩ := hp_gSi (z := (0 + (1 * ac + 0))) g0 rfl
      obtain ⟨t2, rfl, g2⟩ := hp_gSa g1 (by decide)
      cases hp_gSn g2
      exact e0 l' h' y0 y1 (by omega) (by omega) a1 a2 a3 (hp_gLa gL (List.mem_of_getElem? (i := 0) rfl) (by decide)) (hp_gLi (z := (0 + (1 * d + 0))) gL (List.mem_of_getElem? (i := 1) rfl) rfl (by omega)) (hp_gLi (z := (0 + (1 * s + 0))) gL (List.mem_of_getElem? (i := 2) rfl) rfl (by omega))
    cases hp
  · intro p hp ys v h' hys a1 a2 a3 gZ gS
    cases hp
theorem zaM_k : hp_chk 297 124 3 [(0, 0, 399), (1, 1, 63), (2, 0, 29)] [] [(0, .inr (.inr (.inl (some 94)))), (1, .inl (0, [(0, 1)])), (2, .inl (0, [(1, 1)]))] [] [(19989, (0, []), (0, [(2, 1)]))] [] 8 [(133, ([], 3, [(0, 0, 399), (1, 1, 63), (2, 0, 29)], [], [(0, .inr (.inr (.inl (some 94))))], [.inl (0, [(1, 1)]), .inl (0, [(2, 1)]), .inr (.inr (.inl (some 106)))], []))] [] = true := by decide +kernel
theorem zaM {cst : am_K} {strs : List Nat} {Φ : am_Q → Prop} {D : Nat} {M : am_M} {h : am_H} {l : am_L} (c : hp_C cst strs D) (hM : m_P[297]? = some M) (hD : (8 : Int) ≤ (D : Int) + 1) (hy : ly_hy m_tt ly_TH h) (d s ac : Int) (b0 : 0 ≤ d) (t0 : d ≤ 399) (b1 : 1 ≤ s) (t1 : s ≤ 63) (b2 : 0 ≤ ac) (t2 : ac ≤ 29) (k0 : ly_hv cst h 19989 0 = some (ac)) (l0 : hp_a l 0 94) (l1 : hp_i l 1 (d)) (l2 : hp_i l 2 (s)) (e0 : ∀ (l' : am_L) (h' : am_H) (y0 : Int32) (y1 : Int32), y0.toInt = (s) → y1.toInt = (ac) → ly_hy m_tt ly_TH h' → ly_fr cst [] h h' → h.length ≤ h'.length → hp_a l' 0 94 → hp_F cst strs Φ D M 133 l' [.int y0, .int y1, .ref 106] h') : hp_F cst strs Φ D M 124 l [] h := by
  refine hp_arc c hM zaM_k hD [d, s, ac] rfl hy (hp_Bc (z := d) rfl b0 t0 (hp_Bc (z := s) rfl b1 t1 (hp_Bc (z := ac) rfl b2 t2 hp_Bn))) hp_Fn (hp_Kc (zi := (0 + 0)) (zv := (0 + (1 * ac + 0))) k0 rfl rfl (by omega) (by omega) hp_Kn) (hp_La l0 (hp_Li (z := (0 + (1 * d + 0))) l1 rfl (by omega) (hp_Li (z := (0 + (1 * s + 0))) l2 rfl (by omega) hp_Ln))) trivial ?_ ?_
  · intro p hp ys l' st' h' hys a1 a2 a3 gZ gL gS
    rcases List.mem_cons.mp hp with rfl | hp
    · obtain rfl := hp_y0 hys
      obtain ⟨y0, t0, rfl, q0, g0⟩ := hp_gSi (z := (0 + (1 * s + 0))) gS rfl
      obtain ⟨y1, t1, rfl, q1, g1⟩ := hp_gSi (z := (0 + (1 * ac + 0))) g0 rfl
      obtain ⟨t2, rfl, g2⟩ := hp_gSa g1 (by decide)
      cases hp_gSn g2
      exact e0 l' h' y0 y1 (by omega) (by omega) a1 a2 a3 (hp_gLa gL (List.mem_of_getElem? (i := 0) rfl) (by decide))
    cases hp
  · intro p hp ys v h' hys a1 a2 a3 gZ gS
    cases hp
theorem zaN_k : hp_chk 297 134 2 [(0, 0, 29), (1, 0, 40)] [] [(0, .inr (.inr (.inl (some 94))))] [] [(19989, (0, []), (0, [(0, 1)])), (23296, (30, []), (0, [(1, 1)]))] [] 8 [(149, ([], 2, [(0, 0, 29), (1, 0, 40)], [], [(0, .inr (.inr (.inl (some 94))))], [.inl (0, [(1, 1)]), .inl (0, [(0, 1)]), .inr (.inr (.inl (some 107)))], []))] [] = true := by decide +kernel
theorem zaN {cst : am_K} {strs : List Nat} {Φ : am_Q → Prop} {D : Nat} {M : am_M} {h : am_H} {l : am_L} (c : hp_C cst strs D) (hM : m_P[297]? = some M) (hD : (8 : Int) ≤ (D : Int) + 1) (hy : ly_hy m_tt ly_TH h) (ac q : Int) (b0 : 0 ≤ ac) (t0 : ac ≤ 29) (b1 : 0 ≤ q) (t1 : q ≤ 40) (k0 : ly_hv cst h 19989 0 = some (ac)) (k1 : ly_hv cst h 23296 30 = some (q)) (l0 : hp_a l 0 94) (e0 : ∀ (l' : am_L) (h' : am_H) (y0 : Int32) (y1 : Int32), y0.toInt = (q) → y1.toInt = (ac) → ly_hy m_tt ly_TH h' → ly_fr cst [] h h' → h.length ≤ h'.length → hp_a l' 0 94 → hp_F cst strs Φ D M 149 l' [.int y0, .int y1, .ref 107] h') : hp_F cst strs Φ D M 134 l [] h := by
  refine hp_arc c hM zaN_k hD [ac, q] rfl hy (hp_Bc (z := ac) rfl b0 t0 (hp_Bc (z := q) rfl b1 t1 hp_Bn)) hp_Fn (hp_Kc (zi := (0 + 0)) (zv := (0 + (1 * ac + 0))) k0 rfl rfl (by omega) (by omega) (hp_Kc (zi := (30 + 0)) (zv := (0 + (1 * q + 0))) k1 rfl rfl (by omega) (by omega) hp_Kn)) (hp_La l0 hp_Ln) trivial ?_ ?_
  · intro p hp ys l' st' h' hys a1 a2 a3 gZ gL gS
    rcases List.mem_cons.mp hp with rfl | hp
    · obtain rfl := hp_y0 hys
      obtain ⟨y0, t0, rfl, q0, g0⟩ := hp_gSi (z := (0 + (1 * q + 0))) gS rfl
      obtain ⟨y1, t1, rfl, q1, g1⟩ := hp_gSi (z := (0 + (1 * ac + 0))) g0 rfl
      obtain ⟨t2, rfl, g2⟩ := hp_gSa g1 (by decide)
      cases hp_gSn g2
      exact e0 l' h' y0 y1 (by omega) (by omega) a1 a2 a3 (hp_gLa gL (List.mem_of_getElem? (i := 0) rfl) (by decide))
    cases hp
  · intro p hp ys v h' hys a1 a2 a3 gZ gS
    cases hp
theorem zaO_k : hp_chk 297 150 0 [] [] [(0, .inr (.inr (.inl (some 94))))] [] [] [] 8 [(152, ([], 0, [], [], [(0, .inr (.inr (.inl (some 94)))), (3, .inl (0, []))], [], []))] [] = true := by decide +kernel
theorem zaO {cst : am_K} {strs : List Nat} {Φ : am_Q → Prop} {D : Nat} {M : am_M} {h : am_H} {l : am_L} (c : hp_C cst strs D) (hM : m_P[297]? = some M) (hD : (8 : Int) ≤ (D : Int) + 1) (hy : ly_hy m_tt ly_TH h) (l0 : hp_a l 0 94) (e0 : ∀ (l' : am_L) (h' : am_H), ly_hy m_tt ly_TH h' → ly_fr cst [] h h' → h.length ≤ h'.length → hp_a l' 0 94 → hp_i l' 3 0 → hp_F cst strs Φ D M 152 l' [] h') : hp_F cst strs Φ D M 150 l [] h := by
  refine hp_arc c hM zaO_k hD [] rfl hy hp_Bn hp_Fn hp_Kn (hp_La l0 hp_Ln) trivial ?_ ?_
  · intro p hp ys l' st' h' hys a1 a2 a3 gZ gL gS
    rcases List.mem_cons.mp hp with rfl | hp
    · obtain rfl := hp_y0 hys
      cases hp_gSn gS
      exact e0 l' h' a1 a2 a3 (hp_gLa gL (List.mem_of_getElem? (i := 0) rfl) (by decide)) (hp_gLi (z := (0 + 0)) gL (List.mem_of_getElem? (i := 1) rfl) rfl (by omega))
    cases hp
  · intro p hp ys v h' hys a1 a2 a3 gZ gS
    cases hp
theorem zb0_0_k : hp_chk 297 152 3 [(0, 0, 29), (1, 0, 39), (2, (-2147483648), 2147483647)] [] [(0, .inr (.inr (.inl (some 94)))), (3, .inl (0, [(1, 1)]))] [] [(19989, (0, []), (0, [(0, 1)])), (23552, (1200, [(1, 1)]), (0, [(2, 1)]))] [] 8 [(189, ([], 3, [(0, 0, 29), (1, 0, 39), (2, (-2147483648), 2147483647)], [], [(0, .inr (.inr (.inl (some 94)))), (3, .inl (0, [(1, 1)])), (4, .inl (0, [(0, 40), (1, 1)])), (5, .inl (1200, [(1, 1)]))], [.inl (0, [(2, 1)]), .inl (0, [(0, 40), (1, 1)]), .inr (.inr (.inl (some 108)))], []))] [] = true := by decide +kernel
theorem zb0_0 {cst : am_K} {strs : List Nat} {Φ : am_Q → Prop} {D : Nat} {M : am_M} {h : am_H} {l : am_L} (c : hp_C cst strs D) (hM : m_P[297]? = some M) (hD : (8 : Int) ≤ (D : Int) + 1) (hy : ly_hy m_tt ly_TH h) (ac k x : Int) (b0 : 0 ≤ ac) (t0 : ac ≤ 29) (b1 : 0 ≤ k) (t1 : k ≤ 39) (b2 : (-2147483648) ≤ x) (t2 : x ≤ 2147483647) (k0 : ly_hv cst h 19989 0 = some (ac)) (k1 : ly_hv cst h 23552 (k + 1200) = some (x)) (l0 : hp_a l 0 94) (l3 : hp_i l 3 (k)) (e0 : ∀ (l' : am_L) (h' : am_H) (y0 : Int32) (y1 : Int32), y0.toInt = (x) → y1.toInt = (40 * ac + k) → ly_hy m_tt ly_TH h' → ly_fr cst [] h h' → h.length ≤ h'.length → hp_a l' 0 94 → hp_i l' 3 (k) → hp_i l' 4 (40 * ac + k) → hp_i l' 5 (k + 1200) → hp_F cst strs Φ D M 189 l' [.int y0, .int y1, .ref 108] h') : hp_F cst strs Φ D M 152 l [] h := by
  refine hp_arc c hM zb0_0_k hD [ac, k, x] rfl hy (hp_Bc (z := ac) rfl b0 t0 (hp_Bc (z := k) rfl b1 t1 (hp_Bc (z := x) rfl b2 t2 hp_Bn))) hp_Fn (hp_Kc (zi := (0 + 0)) (zv := (0 + (1 * ac + 0))) k0 rfl rfl (by omega) (by omega) (hp_Kc (zi := (1200 + (1 * k + 0))) (zv := (0 + (1 * x + 0))) k1 rfl rfl (by omega) (by omega) hp_Kn)) (hp_La l0 (hp_Li (z := (0 + (1 * k + 0))) l3 rfl (by omega) hp_Ln)) trivial ?_ ?_
  · intro p hp ys l' st' h' hys a1 a2 a3 gZ gL gS
    rcases List.mem_cons.mp hp with rfl | hp
    · obtain rfl := hp_y0 hys
      obtain ⟨y0, t0, rfl, q0, g0⟩ := hp_gSi (z := (0 + (1 * x + 0))) gS rfl
      obtain ⟨y1, t1, rfl, q1, g1⟩ := hp_gSi (z := (0 + (40 * ac + (1 * k + 0)))) g0 rfl
      obtain ⟨t2, rfl, g2⟩ := hp_gSa g1 (by decide)
      cases hp_gSn g2
      exact e0 l' h' y0 y1 (by omega) (by omega) a1 a2 a3 (hp_gLa gL (List.mem_of_getElem? (i := 0) rfl) (by decide)) (hp_gLi (z := (0 + (1 * k + 0))) gL (List.mem_of_getElem? (i := 1) rfl) rfl (by omega)) (hp_gLi (z := (0 + (40 * ac + (1 * k + 0)))) gL (List.mem_of_getElem? (i := 2) rfl) rfl (by omega)) (hp_gLi (z := (1200 + (1 * k + 0))) gL (List.mem_of_getElem? (i := 3) rfl) rfl (by omega))
    cases hp
  · intro p hp ys v h' hys a1 a2 a3 gZ gS
    cases hp
theorem zb0_1_k : hp_chk 297 190 3 [(0, 0, 29), (1, 0, 39), (2, (-9223372036854775808), 9223372036854775807)] [] [(0, .inr (.inr (.inl (some 94)))), (3, .inl (0, [(1, 1)])), (4, .inl (0, [(0, 40), (1, 1)])), (5, .inl (1200, [(1, 1)]))] [] [(19989, (0, []), (0, [(0, 1)])), (23808, (1200, [(1, 1)]), (0, [(2, 1)]))] [] 8 [(203, ([], 3, [(0, 0, 29), (1, 0, 39), (2, (-9223372036854775808), 9223372036854775807)], [], [(0, .inr (.inr (.inl (some 94)))), (3, .inl (0, [(1, 1)])), (4, .inl (0, [(0, 40), (1, 1)])), (5, .inl (1200, [(1, 1)]))], [.inr (.inl (0, [(2, 1)])), .inl (0, [(0, 40), (1, 1)]), .inr (.inr (.inl (some 109)))], []))] [] = true := by decide +kernel
theorem zb0_1 {cst : am_K} {strs : List Nat} {Φ : am_Q → Prop} {D : Nat} {M : am_M} {h : am_H} {l : am_L} (c : hp_C cst strs D) (hM : m_P[297]? = some M) (hD : (8 : Int) ≤ (D : Int) + 1) (hy : ly_hy m_tt ly_TH h) (ac k x : Int) (b0 : 0 ≤ ac) (t0 : ac ≤ 29) (b1 : 0 ≤ k) (t1 : k ≤ 39) (b2 : (-9223372036854775808) ≤ x) (t2 : x ≤ 9223372036854775807) (k0 : ly_hv cst h 19989 0 = some (ac)) (k1 : ly_hv cst h 23808 (k + 1200) = some (x)) (l0 : hp_a l 0 94) (l3 : hp_i l 3 (k)) (l4 : hp_i l 4 (40 * ac + k)) (l5 : hp_i l 5 (k + 1200)) (e0 : ∀ (l' : am_L) (h' : am_H) (y0 : Int64) (y1 : Int32), y0.toInt = (x) → y1.toInt = (40 * ac + k) → ly_hy m_tt ly_TH h' → ly_fr cst [] h h' → h.length ≤ h'.length → hp_a l' 0 94 → hp_i l' 3 (k) → hp_i l' 4 (40 * ac + k) → hp_i l' 5 (k + 1200) → hp_F cst strs Φ D M 203 l' [.long y0, .int y1, .ref 109] h') : hp_F cst strs Φ D M 190 l [] h := by
  refine hp_arc c hM zb0_1_k hD [ac, k, x] rfl hy (hp_Bc (z := ac) rfl b0 t0 (hp_Bc (z := k) rfl b1 t1 (hp_Bc (z := x) rfl b2 t2 hp_Bn))) hp_Fn (hp_Kc (zi := (0 + 0)) (zv := (0 + (1 * ac + 0))) k0 rfl rfl (by omega) (by omega) (hp_Kc (zi := (1200 + (1 * k + 0))) (zv := (0 + (1 * x + 0))) k1 rfl rfl (by omega) (by omega) hp_Kn)) (hp_La l0 (hp_Li (z := (0 + (1 * k + 0))) l3 rfl (by omega) (hp_Li (z := (0 + (40 * ac + (1 * k + 0)))) l4 rfl (by omega) (hp_Li (z := (1200 + (1 * k + 0))) l5 rfl (by omega) hp_Ln)))) trivial ?_ ?_
  · intro p hp ys l' st' h' hys a1 a2 a3 gZ gL gS
    rcases List.mem_cons.mp hp with rfl | hp
    · obtain rfl := hp_y0 hys
      obtain ⟨y0, t0, rfl, q0, g0⟩ := hp_gSj (z := (0 + (1 * x + 0))) gS rfl
      obtain ⟨y1, t1, rfl, q1, g1⟩ := hp_gSi (z := (0 + (40 * ac + (1 * k + 0)))) g0 rfl
      obtain ⟨t2, rfl, g2⟩ := hp_gSa g1 (by decide)
      cases hp_gSn g2
      exact e0 l' h' y0 y1 (by omega) (by omega) a1 a2 a3 (hp_gLa gL (List.mem_of_getElem? (i := 0) rfl) (by decide)) (hp_gLi (z := (0 + (1 * k + 0))) gL (List.mem_of_getElem? (i := 1) rfl) rfl (by omega)) (hp_gLi (z := (0 + (40 * ac + (1 * k + 0)))) gL (List.mem_of_getElem? (i := 2) rfl) rfl (by omega)) (hp_gLi (z := (1200 + (1 * k + 0))) gL (List.mem_of_getElem? (i := 3) rfl) rfl (by omega))
    cases hp
  · intro p hp ys v h' hys a1 a2 a3 gZ gS
    cases hp
theorem zb0_2_k : hp_chk 297 204 3 [(0, 0, 29), (1, 0, 39), (2, (-2147483648), 2147483647)] [] [(0, .inr (.inr (.inl (some 94)))), (3, .inl (0, [(1, 1)])), (4, .inl (0, [(0, 40), (1, 1)])), (5, .inl (1200, [(1, 1)]))] [] [(19989, (0, []), (0, [(0, 1)])), (24064, (1200, [(1, 1)]), (0, [(2, 1)]))] [] 8 [(217, ([], 3, [(0, 0, 29), (1, 0, 39), (2, (-2147483648), 2147483647)], [], [(0, .inr (.inr (.inl (some 94)))), (3, .inl (0, [(1, 1)])), (4, .inl (0, [(0, 40), (1, 1)])), (5, .inl (1200, [(1, 1)]))], [.inl (0, [(2, 1)]), .inl (0, [(0, 40), (1, 1)]), .inr (.inr (.inl (some 110)))], []))] [] = true := by decide +kernel
theorem zb0_2 {cst : am_K} {strs : List Nat} {Φ : am_Q → Prop} {D : Nat} {M : am_M} {h : am_H} {l : am_L} (c : hp_C cst strs D) (hM : m_P[297]? = some M) (hD : (8 : Int) ≤ (D : Int) + 1) (hy : ly_hy m_tt ly_TH h) (ac k x : Int) (b0 : 0 ≤ ac) (t0 : ac ≤ 29) (b1 : 0 ≤ k) (t1 : k ≤ 39) (b2 : (-2147483648) ≤ x) (t2 : x ≤ 2147483647) (k0 : ly_hv cst h 19989 0 = some (ac)) (k1 : ly_hv cst h 24064 (k + 1200) = some (x)) (l0 : hp_a l 0 94) (l3 : hp_i l 3 (k)) (l4 : hp_i l 4 (40 * ac + k)) (l5 : hp_i l 5 (k + 1200)) (e0 : ∀ (l' : am_L) (h' : am_H) (y0 : Int32) (y1 : Int32), y0.toInt = (x) → y1.toInt = (40 * ac + k) → ly_hy m_tt ly_TH h' → ly_fr cst [] h h' → h.length ≤ h'.length → hp_a l' 0 94 → hp_i l' 3 (k) → hp_i l' 4 (40 * ac + k) → hp_i l' 5 (k + 1200) → hp_F cst strs Φ D M 217 l' [.int y0, .int y1, .ref 110] h') : hp_F cst strs Φ D M 204 l [] h := by
  refine hp_arc c hM zb0_2_k hD [ac, k, x] rfl hy (hp_Bc (z := ac) rfl b0 t0 (hp_Bc (z := k) rfl b1 t1 (hp_Bc (z := x) rfl b2 t2 hp_Bn))) hp_Fn (hp_Kc (zi := (0 + 0)) (zv := (0 + (1 * ac + 0))) k0 rfl rfl (by omega) (by omega) (hp_Kc (zi := (1200 + (1 * k + 0))) (zv := (0 + (1 * x + 0))) k1 rfl rfl (by omega) (by omega) hp_Kn)) (hp_La l0 (hp_Li (z := (0 + (1 * k + 0))) l3 rfl (by omega) (hp_Li (z := (0 + (40 * ac + (1 * k + 0)))) l4 rfl (by omega) (hp_Li (z := (1200 + (1 * k + 0))) l5 rfl (by omega) hp_Ln)))) trivial ?_ ?_
  · intro p hp ys l' st' h' hys a1 a2 a3 gZ gL gS
    rcases List.mem_cons.mp hp with rfl | hp
    · obtain rfl := hp_y0 hys
      obtain ⟨y0, t0, rfl, q0, g0⟩ := hp_gSi (z := (0 + (1 * x + 0))) gS rfl
      obtain ⟨y1, t1, rfl, q1, g1⟩ := hp_gSi (z := (0 + (40 * ac + (1 * k + 0)))) g0 rfl
      obtain ⟨t2, rfl, g2⟩ := hp_gSa g1 (by decide)
      cases hp_gSn g2
      exact e0 l' h' y0 y1 (by omega) (by omega) a1 a2 a3 (hp_gLa gL (List.mem_of_getElem? (i := 0) rfl) (by decide)) (hp_gLi (z := (0 + (1 * k + 0))) gL (List.mem_of_getElem? (i := 1) rfl) rfl (by omega)) (hp_gLi (z := (0 + (40 * ac + (1 * k + 0)))) gL (List.mem_of_getElem? (i := 2) rfl) rfl (by omega)) (hp_gLi (z := (1200 + (1 * k + 0))) gL (List.mem_of_getElem? (i := 3) rfl) rfl (by omega))
    cases hp
  · intro p hp ys v h' hys a1 a2 a3 gZ gS
    cases hp
theorem zb0_3_k : hp_chk 297 218 3 [(0, 0, 29), (1, 0, 39), (2, (-2147483648), 2147483647)] [] [(0, .inr (.inr (.inl (some 94)))), (3, .inl (0, [(1, 1)])), (4, .inl (0, [(0, 40), (1, 1)])), (5, .inl (1200, [(1, 1)]))] [] [(19989, (0, []), (0, [(0, 1)])), (24320, (1200, [(1, 1)]), (0, [(2, 1)]))] [] 8 [(231, ([], 3, [(0, 0, 29), (1, 0, 39), (2, (-2147483648), 2147483647)], [], [(0, .inr (.inr (.inl (some 94)))), (3, .inl (0, [(1, 1)])), (4, .inl (0, [(0, 40), (1, 1)])), (5, .inl (1200, [(1, 1)]))], [.inl (0, [(2, 1)]), .inl (0, [(0, 40), (1, 1)]), .inr (.inr (.inl (some 111)))], []))] [] = true := by decide +kernel
theorem zb0_3 {cst : am_K} {strs : List Nat} {Φ : am_Q → Prop} {D : Nat} {M : am_M} {h : am_H} {l : am_L} (c : hp_C cst strs D) (hM : m_P[297]? = some M) (hD : (8 : Int) ≤ (D : Int) + 1) (hy : ly_hy m_tt ly_TH h) (ac k x : Int) (b0 : 0 ≤ ac) (t0 : ac ≤ 29) (b1 : 0 ≤ k) (t1 : k ≤ 39) (b2 : (-2147483648) ≤ x) (t2 : x ≤ 2147483647) (k0 : ly_hv cst h 19989 0 = some (ac)) (k1 : ly_hv cst h 24320 (k + 1200) = some (x)) (l0 : hp_a l 0 94) (l3 : hp_i l 3 (k)) (l4 : hp_i l 4 (40 * ac + k)) (l5 : hp_i l 5 (k + 1200)) (e0 : ∀ (l' : am_L) (h' : am_H) (y0 : Int32) (y1 : Int32), y0.toInt = (x) → y1.toInt = (40 * ac + k) → ly_hy m_tt ly_TH h' → ly_fr cst [] h h' → h.length ≤ h'.length → hp_a l' 0 94 → hp_i l' 3 (k) → hp_i l' 4 (40 * ac + k) → hp_i l' 5 (k + 1200) → hp_F cst strs Φ D M 231 l' [.int y0, .int y1, .ref 111] h') : hp_F cst strs Φ D M 218 l [] h := by
  refine hp_arc c hM zb0_3_k hD [ac, k, x] rfl hy (hp_Bc (z := ac) rfl b0 t0 (hp_Bc (z := k) rfl b1 t1 (hp_Bc (z := x) rfl b2 t2 hp_Bn))) hp_Fn (hp_Kc (zi := (0 + 0)) (zv := (0 + (1 * ac + 0))) k0 rfl rfl (by omega) (by omega) (hp_Kc (zi := (1200 + (1 * k + 0))) (zv := (0 + (1 * x + 0))) k1 rfl rfl (by omega) (by omega) hp_Kn)) (hp_La l0 (hp_Li (z := (0 + (1 * k + 0))) l3 rfl (by omega) (hp_Li (z := (0 + (40 * ac + (1 * k + 0)))) l4 rfl (by omega) (hp_Li (z := (1200 + (1 * k + 0))) l5 rfl (by omega) hp_Ln)))) trivial ?_ ?_
  · intro p hp ys l' st' h' hys a1 a2 a3 gZ gL gS
    rcases List.mem_cons.mp hp with rfl | hp
    · obtain rfl := hp_y0 hys
      obtain ⟨y0, t0, rfl, q0, g0⟩ := hp_gSi (z := (0 + (1 * x + 0))) gS rfl
      obtain ⟨y1, t1, rfl, q1, g1⟩ := hp_gSi (z := (0 + (40 * ac + (1 * k + 0)))) g0 rfl
      obtain ⟨t2, rfl, g2⟩ := hp_gSa g1 (by decide)
      cases hp_gSn g2
      exact e0 l' h' y0 y1 (by omega) (by omega) a1 a2 a3 (hp_gLa gL (List.mem_of_getElem? (i := 0) rfl) (by decide)) (hp_gLi (z := (0 + (1 * k + 0))) gL (List.mem_of_getElem? (i := 1) rfl) rfl (by omega)) (hp_gLi (z := (0 + (40 * ac + (1 * k + 0)))) gL (List.mem_of_getElem? (i := 2) rfl) rfl (by omega)) (hp_gLi (z := (1200 + (1 * k + 0))) gL (List.mem_of_getElem? (i := 3) rfl) rfl (by omega))
    cases hp
  · intro p hp ys v h' hys a1 a2 a3 gZ gS
    cases hp
theorem zb0_4_k : hp_chk 297 232 3 [(0, 0, 29), (1, 0, 39), (2, (-2147483648), 2147483647)] [] [(0, .inr (.inr (.inl (some 94)))), (3, .inl (0, [(1, 1)])), (4, .inl (0, [(0, 40), (1, 1)])), (5, .inl (1200, [(1, 1)]))] [] [(19989, (0, []), (0, [(0, 1)])), (24576, (1200, [(1, 1)]), (0, [(2, 1)]))] [] 8 [(245, ([], 3, [(0, 0, 29), (1, 0, 39), (2, (-2147483648), 2147483647)], [], [(0, .inr (.inr (.inl (some 94)))), (3, .inl (0, [(1, 1)])), (4, .inl (0, [(0, 40), (1, 1)])), (5, .inl (1200, [(1, 1)]))], [.inl (0, [(2, 1)]), .inl (0, [(0, 40), (1, 1)]), .inr (.inr (.inl (some 112)))], []))] [] = true := by decide +kernel
theorem zb0_4 {cst : am_K} {strs : List Nat} {Φ : am_Q → Prop} {D : Nat} {M : am_M} {h : am_H} {l : am_L} (c : hp_C cst strs D) (hM : m_P[297]? = some M) (hD : (8 : Int) ≤ (D : Int) + 1) (hy : ly_hy m_tt ly_TH h) (ac k x : Int) (b0 : 0 ≤ ac) (t0 : ac ≤ 29) (b1 : 0 ≤ k) (t1 : k ≤ 39) (b2 : (-2147483648) ≤ x) (t2 : x ≤ 2147483647) (k0 : ly_hv cst h 19989 0 = some (ac)) (k1 : ly_hv cst h 24576 (k + 1200) = some (x)) (l0 : hp_a l 0 94) (l3 : hp_i l 3 (k)) (l4 : hp_i l 4 (40 * ac + k)) (l5 : hp_i l 5 (k + 1200)) (e0 : ∀ (l' : am_L) (h' : am_H) (y0 : Int32) (y1 : Int32), y0.toInt = (x) → y1.toInt = (40 * ac + k) → ly_hy m_tt ly_TH h' → ly_fr cst [] h h' → h.length ≤ h'.length → hp_a l' 0 94 → hp_i l' 3 (k) → hp_i l' 4 (40 * ac + k) → hp_i l' 5 (k + 1200) → hp_F cst strs Φ D M 245 l' [.int y0, .int y1, .ref 112] h') : hp_F cst strs Φ D M 232 l [] h := by
  refine hp_arc c hM zb0_4_k hD [ac, k, x] rfl hy (hp_Bc (z := ac) rfl b0 t0 (hp_Bc (z := k) rfl b1 t1 (hp_Bc (z := x) rfl b2 t2 hp_Bn))) hp_Fn (hp_Kc (zi := (0 + 0)) (zv := (0 + (1 * ac + 0))) k0 rfl rfl (by omega) (by omega) (hp_Kc (zi := (1200 + (1 * k + 0))) (zv := (0 + (1 * x + 0))) k1 rfl rfl (by omega) (by omega) hp_Kn)) (hp_La l0 (hp_Li (z := (0 + (1 * k + 0))) l3 rfl (by omega) (hp_Li (z := (0 + (40 * ac + (1 * k + 0)))) l4 rfl (by omega) (hp_Li (z := (1200 + (1 * k + 0))) l5 rfl (by omega) hp_Ln)))) trivial ?_ ?_
  · intro p hp ys l' st' h' hys a1 a2 a3 gZ gL gS
    rcases List.mem_cons.mp hp with rfl | hp
    · obtain rfl := hp_y0 hys
      obtain ⟨y0, t0, rfl, q0, g0⟩ := hp_gSi (z := (0 + (1 * x + 0))) gS rfl
      obtain ⟨y1, t1, rfl, q1, g1⟩ := hp_gSi (z := (0 + (40 * ac + (1 * k + 0)))) g0 rfl
      obtain ⟨t2, rfl, g2⟩ := hp_gSa g1 (by decide)
      cases hp_gSn g2
      exact e0 l' h' y0 y1 (by omega) (by omega) a1 a2 a3 (hp_gLa gL (List.mem_of_getElem? (i := 0) rfl) (by decide)) (hp_gLi (z := (0 + (1 * k + 0))) gL (List.mem_of_getElem? (i := 1) rfl) rfl (by omega)) (hp_gLi (z := (0 + (40 * ac + (1 * k + 0)))) gL (List.mem_of_getElem? (i := 2) rfl) rfl (by omega)) (hp_gLi (z := (1200 + (1 * k + 0))) gL (List.mem_of_getElem? (i := 3) rfl) rfl (by omega))
    cases hp
  · intro p hp ys v h' hys a1 a2 a3 gZ gS
    cases hp
theorem zb0_5_k : hp_chk 297 246 3 [(0, 0, 29), (1, 0, 39), (2, (-2147483648), 2147483647)] [] [(0, .inr (.inr (.inl (some 94)))), (3, .inl (0, [(1, 1)])), (4, .inl (0, [(0, 40), (1, 1)])), (5, .inl (1200, [(1, 1)]))] [] [(19989, (0, []), (0, [(0, 1)])), (24832, (1200, [(1, 1)]), (0, [(2, 1)]))] [] 8 [(259, ([], 3, [(0, 0, 29), (1, 0, 39), (2, (-2147483648), 2147483647)], [], [(0, .inr (.inr (.inl (some 94)))), (3, .inl (0, [(1, 1)])), (4, .inl (0, [(0, 40), (1, 1)])), (5, .inl (1200, [(1, 1)]))], [.inl (0, [(2, 1)]), .inl (0, [(0, 40), (1, 1)]), .inr (.inr (.inl (some 113)))], []))] [] = true := by decide +kernel
theorem zb0_5 {cst : am_K} {strs : List Nat} {Φ : am_Q → Prop} {D : Nat} {M : am_M} {h : am_H} {l : am_L} (c : hp_C cst strs D) (hM : m_P[297]? = some M) (hD : (8 : Int) ≤ (D : Int) + 1) (hy : ly_hy m_tt ly_TH h) (ac k x : Int) (b0 : 0 ≤ ac) (t0 : ac ≤ 29) (b1 : 0 ≤ k) (t1 : k ≤ 39) (b2 : (-2147483648) ≤ x) (t2 : x ≤ 2147483647) (k0 : ly_hv cst h 19989 0 = some (ac)) (k1 : ly_hv cst h 24832 (k + 1200) = some (x)) (l0 : hp_a l 0 94) (l3 : hp_i l 3 (k)) (l4 : hp_i l 4 (40 * ac + k)) (l5 : hp_i l 5 (k + 1200)) (e0 : ∀ (l' : am_L) (h' : am_H) (y0 : Int32) (y1 : Int32), y0.toInt = (x) → y1.toInt = (40 * ac + k) → ly_hy m_tt ly_TH h' → ly_fr cst [] h h' → h.length ≤ h'.length → hp_a l' 0 94 → hp_i l' 3 (k) → hp_i l' 4 (40 * ac + k) → hp_i l' 5 (k + 1200) → hp_F cst strs Φ D M 259 l' [.int y0, .int y1, .ref 113] h') : hp_F cst strs Φ D M 246 l [] h := by
  refine hp_arc c hM zb0_5_k hD [ac, k, x] rfl hy (hp_Bc (z := ac) rfl b0 t0 (hp_Bc (z := k) rfl b1 t1 (hp_Bc (z := x) rfl b2 t2 hp_Bn))) hp_Fn (hp_Kc (zi := (0 + 0)) (zv := (0 + (1 * ac + 0))) k0 rfl rfl (by omega) (by omega) (hp_Kc (zi := (1200 + (1 * k + 0))) (zv := (0 + (1 * x + 0))) k1 rfl rfl (by omega) (by omega) hp_Kn)) (hp_La l0 (hp_Li (z := (0 + (1 * k + 0))) l3 rfl (by omega) (hp_Li (z := (0 + (40 * ac + (1 * k + 0)))) l4 rfl (by omega) (hp_Li (z := (1200 + (1 * k + 0))) l5 rfl (by omega) hp_Ln)))) trivial ?_ ?_
  · intro p hp ys l' st' h' hys a1 a2 a3 gZ gL gS
    rcases List.mem_cons.mp hp with rfl | hp
    · obtain rfl := hp_y0 hys
      obtain ⟨y0, t0, rfl, q0, g0⟩ := hp_gSi (z := (0 + (1 * x + 0))) gS rfl
      obtain ⟨y1, t1, rfl, q1, g1⟩ := hp_gSi (z := (0 + (40 * ac + (1 * k + 0)))) g0 rfl
      obtain ⟨t2, rfl, g2⟩ := hp_gSa g1 (by decide)
      cases hp_gSn g2
      exact e0 l' h' y0 y1 (by omega) (by omega) a1 a2 a3 (hp_gLa gL (List.mem_of_getElem? (i := 0) rfl) (by decide)) (hp_gLi (z := (0 + (1 * k + 0))) gL (List.mem_of_getElem? (i := 1) rfl) rfl (by omega)) (hp_gLi (z := (0 + (40 * ac + (1 * k + 0)))) gL (List.mem_of_getElem? (i := 2) rfl) rfl (by omega)) (hp_gLi (z := (1200 + (1 * k + 0))) gL (List.mem_of_getElem? (i := 3) rfl) rfl (by omega))
    cases hp
  · intro p hp ys v h' hys a1 a2 a3 gZ gS
    cases hp
theorem zb0_6_k : hp_chk 297 260 3 [(0, 0, 29), (1, 0, 39), (2, (-2147483648), 2147483647)] [] [(0, .inr (.inr (.inl (some 94)))), (3, .inl (0, [(1, 1)])), (4, .inl (0, [(0, 40), (1, 1)])), (5, .inl (1200, [(1, 1)]))] [] [(19989, (0, []), (0, [(0, 1)])), (25088, (1200, [(1, 1)]), (0, [(2, 1)]))] [] 8 [(273, ([], 3, [(0, 0, 29), (1, 0, 39), (2, (-2147483648), 2147483647)], [], [(0, .inr (.inr (.inl (some 94)))), (3, .inl (0, [(1, 1)])), (4, .inl (0, [(0, 40), (1, 1)])), (5, .inl (1200, [(1, 1)]))], [.inl (0, [(2, 1)]), .inl (0, [(0, 40), (1, 1)]), .inr (.inr (.inl (some 114)))], []))] [] = true := by decide +kernel
theorem zb0_6 {cst : am_K} {strs : List Nat} {Φ : am_Q → Prop} {D : Nat} {M : am_M} {h : am_H} {l : am_L} (c : hp_C cst strs D) (hM : m_P[297]? = some M) (hD : (8 : Int) ≤ (D : Int) + 1) (hy : ly_hy m_tt ly_TH h) (ac k x : Int) (b0 : 0 ≤ ac) (t0 : ac ≤ 29) (b1 : 0 ≤ k) (t1 : k ≤ 39) (b2 : (-2147483648) ≤ x) (t2 : x ≤ 2147483647) (k0 : ly_hv cst h 19989 0 = some (ac)) (k1 : ly_hv cst h 25088 (k + 1200) = some (x)) (l0 : hp_a l 0 94) (l3 : hp_i l 3 (k)) (l4 : hp_i l 4 (40 * ac + k)) (l5 : hp_i l 5 (k + 1200)) (e0 : ∀ (l' : am_L) (h' : am_H) (y0 : Int32) (y1 : Int32), y0.toInt = (x) → y1.toInt = (40 * ac + k) → ly_hy m_tt ly_TH h' → ly_fr cst [] h h' → h.length ≤ h'.length → hp_a l' 0 94 → hp_i l' 3 (k) → hp_i l' 4 (40 * ac + k) → hp_i l' 5 (k + 1200) → hp_F cst strs Φ D M 273 l' [.int y0, .int y1, .ref 114] h') : hp_F cst strs Φ D M 260 l [] h := by
  refine hp_arc c hM zb0_6_k hD [ac, k, x] rfl hy (hp_Bc (z := ac) rfl b0 t0 (hp_Bc (z := k) rfl b1 t1 (hp_Bc (z := x) rfl b2 t2 hp_Bn))) hp_Fn (hp_Kc (zi := (0 + 0)) (zv := (0 + (1 * ac + 0))) k0 rfl rfl (by omega) (by omega) (hp_Kc (zi := (1200 + (1 * k + 0))) (zv := (0 + (1 * x + 0))) k1 rfl rfl (by omega) (by omega) hp_Kn)) (hp_La l0 (hp_Li (z := (0 + (1 * k + 0))) l3 rfl (by omega) (hp_Li (z := (0 + (40 * ac + (1 * k + 0)))) l4 rfl (by omega) (hp_Li (z := (1200 + (1 * k + 0))) l5 rfl (by omega) hp_Ln)))) trivial ?_ ?_
  · intro p hp ys l' st' h' hys a1 a2 a3 gZ gL gS
    rcases List.mem_cons.mp hp with rfl | hp
    · obtain rfl := hp_y0 hys
      obtain ⟨y0, t0, rfl, q0, g0⟩ := hp_gSi (z := (0 + (1 * x + 0))) gS rfl
      obtain ⟨y1, t1, rfl, q1, g1⟩ := hp_gSi (z := (0 + (40 * ac + (1 * k + 0)))) g0 rfl
      obtain ⟨t2, rfl, g2⟩ := hp_gSa g1 (by decide)
      cases hp_gSn g2
      exact e0 l' h' y0 y1 (by omega) (by omega) a1 a2 a3 (hp_gLa gL (List.mem_of_getElem? (i := 0) rfl) (by decide)) (hp_gLi (z := (0 + (1 * k + 0))) gL (List.mem_of_getElem? (i := 1) rfl) rfl (by omega)) (hp_gLi (z := (0 + (40 * ac + (1 * k + 0)))) gL (List.mem_of_getElem? (i := 2) rfl) rfl (by omega)) (hp_gLi (z := (1200 + (1 * k + 0))) gL (List.mem_of_getElem? (i := 3) rfl) rfl (by omega))
    cases hp
  · intro p hp ys v h' hys a1 a2 a3 gZ gS
    cases hp
theorem zb0_N_k : hp_chk 297 274 2 [(0, 0, 29), (1, 0, 39)] [] [(0, .inr (.inr (.inl (some 94)))), (3, .inl (0, [(1, 1)])), (4, .inl (0, [(0, 40), (1, 1)])), (5, .inl (1200, [(1, 1)]))] [] [] [] 8 [(152, ([], 2, [(0, 0, 29), (1, 0, 39)], [], [(0, .inr (.inr (.inl (some 94)))), (3, .inl (1, [(1, 1)]))], [], []))] [] = true := by decide +kernel
theorem zb0_N {cst : am_K} {strs : List Nat} {Φ : am_Q → Prop} {D : Nat} {M : am_M} {h : am_H} {l : am_L} (c : hp_C cst strs D) (hM : m_P[297]? = some M) (hD : (8 : Int) ≤ (D : Int) + 1) (hy : ly_hy m_tt ly_TH h) (ac k : Int) (b0 : 0 ≤ ac) (t0 : ac ≤ 29) (b1 : 0 ≤ k) (t1 : k ≤ 39) (l0 : hp_a l 0 94) (l3 : hp_i l 3 (k)) (l4 : hp_i l 4 (40 * ac + k)) (l5 : hp_i l 5 (k + 1200)) (e0 : ∀ (l' : am_L) (h' : am_H), ly_hy m_tt ly_TH h' → ly_fr cst [] h h' → h.length ≤ h'.length → hp_a l' 0 94 → hp_i l' 3 (k + 1) → hp_F cst strs Φ D M 152 l' [] h') : hp_F cst strs Φ D M 274 l [] h := by
  refine hp_arc c hM zb0_N_k hD [ac, k] rfl hy (hp_Bc (z := ac) rfl b0 t0 (hp_Bc (z := k) rfl b1 t1 hp_Bn)) hp_Fn hp_Kn (hp_La l0 (hp_Li (z := (0 + (1 * k + 0))) l3 rfl (by omega) (hp_Li (z := (0 + (40 * ac + (1 * k + 0)))) l4 rfl (by omega) (hp_Li (z := (1200 + (1 * k + 0))) l5 rfl (by omega) hp_Ln)))) trivial ?_ ?_
  · intro p hp ys l' st' h' hys a1 a2 a3 gZ gL gS
    rcases List.mem_cons.mp hp with rfl | hp
    · obtain rfl := hp_y0 hys
      cases hp_gSn gS
      exact e0 l' h' a1 a2 a3 (hp_gLa gL (List.mem_of_getElem? (i := 0) rfl) (by decide)) (hp_gLi (z := (1 + (1 * k + 0))) gL (List.mem_of_getElem? (i := 1) rfl) rfl (by omega))
    cases hp
  · intro p hp ys v h' hys a1 a2 a3 gZ gS
    cases hp
theorem zb0_X_k : hp_chk 297 152 0 [] [] [(0, .inr (.inr (.inl (some 94)))), (3, .inl (40, []))] [] [] [] 8 [(282, ([], 0, [], [], [(0, .inr (.inr (.inl (some 94)))), (3, .inl (0, []))], [], []))] [] = true := by decide +kernel
theorem zb0_X {cst : am_K} {strs : List Nat} {Φ : am_Q → Prop} {D : Nat} {M : am_M} {h : am_H} {l : am_L} (c : hp_C cst strs D) (hM : m_P[297]? = some M) (hD : (8 : Int) ≤ (D : Int) + 1) (hy : ly_hy m_tt ly_TH h) (l0 : hp_a l 0 94) (l3 : hp_i l 3 40) (e0 : ∀ (l' : am_L) (h' : am_H), ly_hy m_tt ly_TH h' → ly_fr cst [] h h' → h.length ≤ h'.length → hp_a l' 0 94 → hp_i l' 3 0 → hp_F cst strs Φ D M 282 l' [] h') : hp_F cst strs Φ D M 152 l [] h := by
  refine hp_arc c hM zb0_X_k hD [] rfl hy hp_Bn hp_Fn hp_Kn (hp_La l0 (hp_Li (z := (40 + 0)) l3 rfl (by omega) hp_Ln)) trivial ?_ ?_
  · intro p hp ys l' st' h' hys a1 a2 a3 gZ gL gS
    rcases List.mem_cons.mp hp with rfl | hp
    · obtain rfl := hp_y0 hys
      cases hp_gSn gS
      exact e0 l' h' a1 a2 a3 (hp_gLa gL (List.mem_of_getElem? (i := 0) rfl) (by decide)) (hp_gLi (z := (0 + 0)) gL (List.mem_of_getElem? (i := 1) rfl) rfl (by omega))
    cases hp
  · intro p hp ys v h' hys a1 a2 a3 gZ gS
    cases hp
theorem zb1_0_k : hp_chk 297 282 3 [(0, 0, 29), (1, 0, 419), (2, (-2147483648), 2147483647)] [] [(0, .inr (.inr (.inl (some 94)))), (3, .inl (0, [(1, 1)]))] [] [(19989, (0, []), (0, [(0, 1)])), (25344, (12600, [(1, 1)]), (0, [(2, 1)]))] [] 8 [(321, ([], 3, [(0, 0, 29), (1, 0, 419), (2, (-2147483648), 2147483647)], [], [(0, .inr (.inr (.inl (some 94)))), (3, .inl (0, [(1, 1)])), (4, .inl (0, [(0, 420), (1, 1)])), (5, .inl (12600, [(1, 1)]))], [.inl (0, [(2, 1)]), .inl (0, [(0, 420), (1, 1)]), .inr (.inr (.inl (some 115)))], []))] [] = true := by decide +kernel
theorem zb1_0 {cst : am_K} {strs : List Nat} {Φ : am_Q → Prop} {D : Nat} {M : am_M} {h : am_H} {l : am_L} (c : hp_C cst strs D) (hM : m_P[297]? = some M) (hD : (8 : Int) ≤ (D : Int) + 1) (hy : ly_hy m_tt ly_TH h) (ac k x : Int) (b0 : 0 ≤ ac) (t0 : ac ≤ 29) (b1 : 0 ≤ k) (t1 : k ≤ 419) (b2 : (-2147483648) ≤ x) (t2 : x ≤ 2147483647) (k0 : ly_hv cst h 19989 0 = some (ac)) (k1 : ly_hv cst h 25344 (k + 12600) = some (x)) (l0 : hp_a l 0 94) (l3 : hp_i l 3 (k)) (e0 : ∀ (l' : am_L) (h' : am_H) (y0 : Int32) (y1 : Int32), y0.toInt = (x) → y1.toInt = (420 * ac + k) → ly_hy m_tt ly_TH h' → ly_fr cst [] h h' → h.length ≤ h'.length → hp_a l' 0 94 → hp_i l' 3 (k) → hp_i l' 4 (420 * ac + k) → hp_i l' 5 (k + 12600) → hp_F cst strs Φ D M 321 l' [.int y0, .int y1, .ref 115] h') : hp_F cst strs Φ D M 282 l [] h := by
  refine hp_arc c hM zb1_0_k hD [ac, k, x] rfl hy (hp_Bc (z := ac) rfl b0 t0 (hp_Bc (z := k) rfl b1 t1 (hp_Bc (z := x) rfl b2 t2 hp_Bn))) hp_Fn (hp_Kc (zi := (0 + 0)) (zv := (0 + (1 * ac + 0))) k0 rfl rfl (by omega) (by omega) (hp_Kc (zi := (12600 + (1 * k + 0))) (zv := (0 + (1 * x + 0))) k1 rfl rfl (by omega) (by omega) hp_Kn)) (hp_La l0 (hp_Li (z := (0 + (1 * k + 0))) l3 rfl (by omega) hp_Ln)) trivial ?_ ?_
  · intro p hp ys l' st' h' hys a1 a2 a3 gZ gL gS
    rcases List.mem_cons.mp hp with rfl | hp
    · obtain rfl := hp_y0 hys
      obtain ⟨y0, t0, rfl, q0, g0⟩ := hp_gSi (z := (0 + (1 * x + 0))) gS rfl
      obtain ⟨y1, t1, rfl, q1, g1⟩ := hp_gSi (z := (0 + (420 * ac + (1 * k + 0)))) g0 rfl
      obtain ⟨t2, rfl, g2⟩ := hp_gSa g1 (by decide)
      cases hp_gSn g2
      exact e0 l' h' y0 y1 (by omega) (by omega) a1 a2 a3 (hp_gLa gL (List.mem_of_getElem? (i := 0) rfl) (by decide)) (hp_gLi (z := (0 + (1 * k + 0))) gL (List.mem_of_getElem? (i := 1) rfl) rfl (by omega)) (hp_gLi (z := (0 + (420 * ac + (1 * k + 0)))) gL (List.mem_of_getElem? (i := 2) rfl) rfl (by omega)) (hp_gLi (z := (12600 + (1 * k + 0))) gL (List.mem_of_getElem? (i := 3) rfl) rfl (by omega))
    cases hp
  · intro p hp ys v h' hys a1 a2 a3 gZ gS
    cases hp
theorem zb1_1_k : hp_chk 297 322 3 [(0, 0, 29), (1, 0, 419), (2, (-2147483648), 2147483647)] [] [(0, .inr (.inr (.inl (some 94)))), (3, .inl (0, [(1, 1)])), (4, .inl (0, [(0, 420), (1, 1)])), (5, .inl (12600, [(1, 1)]))] [] [(19989, (0, []), (0, [(0, 1)])), (25600, (12600, [(1, 1)]), (0, [(2, 1)]))] [] 8 [(335, ([], 3, [(0, 0, 29), (1, 0, 419), (2, (-2147483648), 2147483647)], [], [(0, .inr (.inr (.inl (some 94)))), (3, .inl (0, [(1, 1)])), (4, .inl (0, [(0, 420), (1, 1)])), (5, .inl (12600, [(1, 1)]))], [.inl (0, [(2, 1)]), .inl (0, [(0, 420), (1, 1)]), .inr (.inr (.inl (some 116)))], []))] [] = true := by decide +kernel
theorem zb1_1 {cst : am_K} {strs : List Nat} {Φ : am_Q → Prop} {D : Nat} {M : am_M} {h : am_H} {l : am_L} (c : hp_C cst strs D) (hM : m_P[297]? = some M) (hD : (8 : Int) ≤ (D : Int) + 1) (hy : ly_hy m_tt ly_TH h) (ac k x : Int) (b0 : 0 ≤ ac) (t0 : ac ≤ 29) (b1 : 0 ≤ k) (t1 : k ≤ 419) (b2 : (-2147483648) ≤ x) (t2 : x ≤ 2147483647) (k0 : ly_hv cst h 19989 0 = some (ac)) (k1 : ly_hv cst h 25600 (k + 12600) = some (x)) (l0 : hp_a l 0 94) (l3 : hp_i l 3 (k)) (l4 : hp_i l 4 (420 * ac + k)) (l5 : hp_i l 5 (k + 12600)) (e0 : ∀ (l' : am_L) (h' : am_H) (y0 : Int32) (y1 : Int32), y0.toInt = (x) → y1.toInt = (420 * ac + k) → ly_hy m_tt ly_TH h' → ly_fr cst [] h h' → h.length ≤ h'.length → hp_a l' 0 94 → hp_i l' 3 (k) → hp_i l' 4 (420 * ac + k) → hp_i l' 5 (k + 12600) → hp_F cst strs Φ D M 335 l' [.int y0, .int y1, .ref 116] h') : hp_F cst strs Φ D M 322 l [] h := by
  refine hp_arc c hM zb1_1_k hD [ac, k, x] rfl hy (hp_Bc (z := ac) rfl b0 t0 (hp_Bc (z := k) rfl b1 t1 (hp_Bc (z := x) rfl b2 t2 hp_Bn))) hp_Fn (hp_Kc (zi := (0 + 0)) (zv := (0 + (1 * ac + 0))) k0 rfl rfl (by omega) (by omega) (hp_Kc (zi := (12600 + (1 * k + 0))) (zv := (0 + (1 * x + 0))) k1 rfl rfl (by omega) (by omega) hp_Kn)) (hp_La l0 (hp_Li (z := (0 + (1 * k + 0))) l3 rfl (by omega) (hp_Li (z := (0 + (420 * ac + (1 * k + 0)))) l4 rfl (by omega) (hp_Li (z := (12600 + (1 * k + 0))) l5 rfl (by omega) hp_Ln)))) trivial ?_ ?_
  · intro p hp ys l' st' h' hys a1 a2 a3 gZ gL gS
    rcases List.mem_cons.mp hp with rfl | hp
    · obtain rfl := hp_y0 hys
      obtain ⟨y0, t0, rfl, q0, g0⟩ := hp_gSi (z := (0 + (1 * x + 0))) gS rfl
      obtain ⟨y1, t1, rfl, q1, g1⟩ := hp_gSi (z := (0 + (420 * ac + (1 * k + 0)))) g0 rfl
      obtain ⟨t2, rfl, g2⟩ := hp_gSa g1 (by decide)
      cases hp_gSn g2
      exact e0 l' h' y0 y1 (by omega) (by omega) a1 a2 a3 (hp_gLa gL (List.mem_of_getElem? (i := 0) rfl) (by decide)) (hp_gLi (z := (0 + (1 * k + 0))) gL (List.mem_of_getElem? (i := 1) rfl) rfl (by omega)) (hp_gLi (z := (0 + (420 * ac + (1 * k + 0)))) gL (List.mem_of_getElem? (i := 2) rfl) rfl (by omega)) (hp_gLi (z := (12600 + (1 * k + 0))) gL (List.mem_of_getElem? (i := 3) rfl) rfl (by omega))
    cases hp
  · intro p hp ys v h' hys a1 a2 a3 gZ gS
    cases hp
theorem zb1_2_k : hp_chk 297 336 3 [(0, 0, 29), (1, 0, 419), (2, (-2147483648), 2147483647)] [] [(0, .inr (.inr (.inl (some 94)))), (3, .inl (0, [(1, 1)])), (4, .inl (0, [(0, 420), (1, 1)])), (5, .inl (12600, [(1, 1)]))] [] [(19989, (0, []), (0, [(0, 1)])), (25856, (12600, [(1, 1)]), (0, [(2, 1)]))] [] 8 [(349, ([], 3, [(0, 0, 29), (1, 0, 419), (2, (-2147483648), 2147483647)], [], [(0, .inr (.inr (.inl (some 94)))), (3, .inl (0, [(1, 1)])), (4, .inl (0, [(0, 420), (1, 1)])), (5, .inl (12600, [(1, 1)]))], [.inl (0, [(2, 1)]), .inl (0, [(0, 420), (1, 1)]), .inr (.inr (.inl (some 117)))], []))] [] = true := by decide +kernel
theorem zb1_2 {cst : am_K} {strs : List Nat} {Φ : am_Q → Prop} {D : Nat} {M : am_M} {h : am_H} {l : am_L} (c : hp_C cst strs D) (hM : m_P[297]? = some M) (hD : (8 : Int) ≤ (D : Int) + 1) (hy : ly_hy m_tt ly_TH h) (ac k x : Int) (b0 : 0 ≤ ac) (t0 : ac ≤ 29) (b1 : 0 ≤ k) (t1 : k ≤ 419) (b2 : (-2147483648) ≤ x) (t2 : x ≤ 2147483647) (k0 : ly_hv cst h 19989 0 = some (ac)) (k1 : ly_hv cst h 25856 (k + 12600) = some (x)) (l0 : hp_a l 0 94) (l3 : hp_i l 3 (k)) (l4 : hp_i l 4 (420 * ac + k)) (l5 : hp_i l 5 (k + 12600)) (e0 : ∀ (l' : am_L) (h' : am_H) (y0 : Int32) (y1 : Int32), y0.toInt = (x) → y1.toInt = (420 * ac + k) → ly_hy m_tt ly_TH h' → ly_fr cst [] h h' → h.length ≤ h'.length → hp_a l' 0 94 → hp_i l' 3 (k) → hp_i l' 4 (420 * ac + k) → hp_i l' 5 (k + 12600) → hp_F cst strs Φ D M 349 l' [.int y0, .int y1, .ref 117] h') : hp_F cst strs Φ D M 336 l [] h := by
  refine hp_arc c hM zb1_2_k hD [ac, k, x] rfl hy (hp_Bc (z := ac) rfl b0 t0 (hp_Bc (z := k) rfl b1 t1 (hp_Bc (z := x) rfl b2 t2 hp_Bn))) hp_Fn (hp_Kc (zi := (0 + 0)) (zv := (0 + (1 * ac + 0))) k0 rfl rfl (by omega) (by omega) (hp_Kc (zi := (12600 + (1 * k + 0))) (zv := (0 + (1 * x + 0))) k1 rfl rfl (by omega) (by omega) hp_Kn)) (hp_La l0 (hp_Li (z := (0 + (1 * k + 0))) l3 rfl (by omega) (hp_Li (z := (0 + (420 * ac + (1 * k + 0)))) l4 rfl (by omega) (hp_Li (z := (12600 + (1 * k + 0))) l5 rfl (by omega) hp_Ln)))) trivial ?_ ?_
  · intro p hp ys l' st' h' hys a1 a2 a3 gZ gL gS
    rcases List.mem_cons.mp hp with rfl | hp
    · obtain rfl := hp_y0 hys
      obtain ⟨y0, t0, rfl, q0, g0⟩ := hp_gSi (z := (0 + (1 * x + 0))) gS rfl
      obtain ⟨y1, t1, rfl, q1, g1⟩ := hp_gSi (z := (0 + (420 * ac + (1 * k + 0)))) g0 rfl
      obtain ⟨t2, rfl, g2⟩ := hp_gSa g1 (by decide)
      cases hp_gSn g2
      exact e0 l' h' y0 y1 (by omega) (by omega) a1 a2 a3 (hp_gLa gL (List.mem_of_getElem? (i := 0) rfl) (by decide)) (hp_gLi (z := (0 + (1 * k + 0))) gL (List.mem_of_getElem? (i := 1) rfl) rfl (by omega)) (hp_gLi (z := (0 + (420 * ac + (1 * k + 0)))) gL (List.mem_of_getElem? (i := 2) rfl) rfl (by omega)) (hp_gLi (z := (12600 + (1 * k + 0))) gL (List.mem_of_getElem? (i := 3) rfl) rfl (by omega))
    cases hp
  · intro p hp ys v h' hys a1 a2 a3 gZ gS
    cases hp
theorem zb1_3_k : hp_chk 297 350 3 [(0, 0, 29), (1, 0, 419), (2, (-2147483648), 2147483647)] [] [(0, .inr (.inr (.inl (some 94)))), (3, .inl (0, [(1, 1)])), (4, .inl (0, [(0, 420), (1, 1)])), (5, .inl (12600, [(1, 1)]))] [] [(19989, (0, []), (0, [(0, 1)])), (26112, (12600, [(1, 1)]), (0, [(2, 1)]))] [] 8 [(363, ([], 3, [(0, 0, 29), (1, 0, 419), (2, (-2147483648), 2147483647)], [], [(0, .inr (.inr (.inl (some 94)))), (3, .inl (0, [(1, 1)])), (4, .inl (0, [(0, 420), (1, 1)])), (5, .inl (12600, [(1, 1)]))], [.inl (0, [(2, 1)]), .inl (0, [(0, 420), (1, 1)]), .inr (.inr (.inl (some 118)))], []))] [] = true := by decide +kernel
theorem zb1_3 {cst : am_K} {strs : List Nat} {Φ : am_Q → Prop} {D : Nat} {M : am_M} {h : am_H} {l : am_L} (c : hp_C cst strs D) (hM : m_P[297]? = some M) (hD : (8 : Int) ≤ (D : Int) + 1) (hy : ly_hy m_tt ly_TH h) (ac k x : Int) (b0 : 0 ≤ ac) (t0 : ac ≤ 29) (b1 : 0 ≤ k) (t1 : k ≤ 419) (b2 : (-2147483648) ≤ x) (t2 : x ≤ 2147483647) (k0 : ly_hv cst h 19989 0 = some (ac)) (k1 : ly_hv cst h 26112 (k + 12600) = some (x)) (l0 : hp_a l 0 94) (l3 : hp_i l 3 (k)) (l4 : hp_i l 4 (420 * ac + k)) (l5 : hp_i l 5 (k + 12600)) (e0 : ∀ (l' : am_L) (h' : am_H) (y0 : Int32) (y1 : Int32), y0.toInt = (x) → y1.toInt = (420 * ac + k) → ly_hy m_tt ly_TH h' → ly_fr cst [] h h' → h.length ≤ h'.length → hp_a l' 0 94 → hp_i l' 3 (k) → hp_i l' 4 (420 * ac + k) → hp_i l' 5 (k + 12600) → hp_F cst strs Φ D M 363 l' [.int y0, .int y1, .ref 118] h') : hp_F cst strs Φ D M 350 l [] h := by
  refine hp_arc c hM zb1_3_k hD [ac, k, x] rfl hy (hp_Bc (z := ac) rfl b0 t0 (hp_Bc (z := k) rfl b1 t1 (hp_Bc (z := x) rfl b2 t2 hp_Bn))) hp_Fn (hp_Kc (zi := (0 + 0)) (zv := (0 + (1 * ac + 0))) k0 rfl rfl (by omega) (by omega) (hp_Kc (zi := (12600 + (1 * k + 0))) (zv := (0 + (1 * x + 0))) k1 rfl rfl (by omega) (by omega) hp_Kn)) (hp_La l0 (hp_Li (z := (0 + (1 * k + 0))) l3 rfl (by omega) (hp_Li (z := (0 + (420 * ac + (1 * k + 0)))) l4 rfl (by omega) (hp_Li (z := (12600 + (1 * k + 0))) l5 rfl (by omega) hp_Ln)))) trivial ?_ ?_
  · intro p hp ys l' st' h' hys a1 a2 a3 gZ gL gS
    rcases List.mem_cons.mp hp with rfl | hp
    · obtain rfl := hp_y0 hys
      obtain ⟨y0, t0, rfl, q0, g0⟩ := hp_gSi (z := (0 + (1 * x + 0))) gS rfl
      obtain ⟨y1, t1, rfl, q1, g1⟩ := hp_gSi (z := (0 + (420 * ac + (1 * k + 0)))) g0 rfl
      obtain ⟨t2, rfl, g2⟩ := hp_gSa g1 (by decide)
      cases hp_gSn g2
      exact e0 l' h' y0 y1 (by omega) (by omega) a1 a2 a3 (hp_gLa gL (List.mem_of_getElem? (i := 0) rfl) (by decide)) (hp_gLi (z := (0 + (1 * k + 0))) gL (List.mem_of_getElem? (i := 1) rfl) rfl (by omega)) (hp_gLi (z := (0 + (420 * ac + (1 * k + 0)))) gL (List.mem_of_getElem? (i := 2) rfl) rfl (by omega)) (hp_gLi (z := (12600 + (1 * k + 0))) gL (List.mem_of_getElem? (i := 3) rfl) rfl (by omega))
    cases hp
  · intro p hp ys v h' hys a1 a2 a3 gZ gS
    cases hp
theorem zb1_N_k : hp_chk 297 364 2 [(0, 0, 29), (1, 0, 419)] [] [(0, .inr (.inr (.inl (some 94)))), (3, .inl (0, [(1, 1)])), (4, .inl (0, [(0, 420), (1, 1)])), (5, .inl (12600, [(1, 1)]))] [] [] [] 8 [(282, ([], 2, [(0, 0, 29), (1, 0, 419)], [], [(0, .inr (.inr (.inl (some 94)))), (3, .inl (1, [(1, 1)]))], [], []))] [] = true := by decide +kernel
theorem zb1_N {cst : am_K} {strs : List Nat} {Φ : am_Q → Prop} {D : Nat} {M : am_M} {h : am_H} {l : am_L} (c : hp_C cst strs D) (hM : m_P[297]? = some M) (hD : (8 : Int) ≤ (D : Int) + 1) (hy : ly_hy m_tt ly_TH h) (ac k : Int) (b0 : 0 ≤ ac) (t0 : ac ≤ 29) (b1 : 0 ≤ k) (t1 : k ≤ 419) (l0 : hp_a l 0 94) (l3 : hp_i l 3 (k)) (l4 : hp_i l 4 (420 * ac + k)) (l5 : hp_i l 5 (k + 12600)) (e0 : ∀ (l' : am_L) (h' : am_H), ly_hy m_tt ly_TH h' → ly_fr cst [] h h' → h.length ≤ h'.length → hp_a l' 0 94 → hp_i l' 3 (k + 1) → hp_F cst strs Φ D M 282 l' [] h') : hp_F cst strs Φ D M 364 l [] h := by
  refine hp_arc c hM zb1_N_k hD [ac, k] rfl hy (hp_Bc (z := ac) rfl b0 t0 (hp_Bc (z := k) rfl b1 t1 hp_Bn)) hp_Fn hp_Kn (hp_La l0 (hp_Li (z := (0 + (1 * k + 0))) l3 rfl (by omega) (hp_Li (z := (0 + (420 * ac + (1 * k + 0)))) l4 rfl (by omega) (hp_Li (z := (12600 + (1 * k + 0))) l5 rfl (by omega) hp_Ln)))) trivial ?_ ?_
  · intro p hp ys l' st' h' hys a1 a2 a3 gZ gL gS
    rcases List.mem_cons.mp hp with rfl | hp
    · obtain rfl := hp_y0 hys
      cases hp_gSn gS
      exact e0 l' h' a1 a2 a3 (hp_gLa gL (List.mem_of_getElem? (i := 0) rfl) (by decide)) (hp_gLi (z := (1 + (1 * k + 0))) gL (List.mem_of_getElem? (i := 1) rfl) rfl (by omega))
    cases hp
  · intro p hp ys v h' hys a1 a2 a3 gZ gS
    cases hp
theorem zb1_X_k : hp_chk 297 282 0 [] [] [(0, .inr (.inr (.inl (some 94)))), (3, .inl (420, []))] [] [] [] 8 [(372, ([], 0, [], [], [(0, .inr (.inr (.inl (some 94)))), (3, .inl (0, []))], [], []))] [] = true := by decide +kernel
theorem zb1_X {cst : am_K} {strs : List Nat} {Φ : am_Q → Prop} {D : Nat} {M : am_M} {h : am_H} {l : am_L} (c : hp_C cst strs D) (hM : m_P[297]? = some M) (hD : (8 : Int) ≤ (D : Int) + 1) (hy : ly_hy m_tt ly_TH h) (l0 : hp_a l 0 94) (l3 : hp_i l 3 420) (e0 : ∀ (l' : am_L) (h' : am_H), ly_hy m_tt ly_TH h' → ly_fr cst [] h h' → h.length ≤ h'.length → hp_a l' 0 94 → hp_i l' 3 0 → hp_F cst strs Φ D M 372 l' [] h') : hp_F cst strs Φ D M 282 l [] h := by
  refine hp_arc c hM zb1_X_k hD [] rfl hy hp_Bn hp_Fn hp_Kn (hp_La l0 (hp_Li (z := (420 + 0)) l3 rfl (by omega) hp_Ln)) trivial ?_ ?_
  · intro p hp ys l' st' h' hys a1 a2 a3 gZ gL gS
    rcases List.mem_cons.mp hp with rfl | hp
    · obtain rfl := hp_y0 hys
      cases hp_gSn gS
      exact e0 l' h' a1 a2 a3 (hp_gLa gL (List.mem_of_getElem? (i := 0) rfl) (by decide)) (hp_gLi (z := (0 + 0)) gL (List.mem_of_getElem? (i := 1) rfl) rfl (by omega))
    cases hp
  · intro p hp ys v h' hys a1 a2 a3 gZ gS
    cases hp
theorem zb2_0_k : hp_chk 297 372 3 [(0, 0, 29), (1, 0, 619), (2, (-9223372036854775808), 9223372036854775807)] [] [(0, .inr (.inr (.inl (some 94)))), (3, .inl (0, [(1, 1)]))] [] [(19989, (0, []), (0, [(0, 1)])), (26368, (18600, [(1, 1)]), (0, [(2, 1)]))] [] 8 [(403, ([], 3, [(0, 0, 29), (1, 0, 619), (2, (-9223372036854775808), 9223372036854775807)], [], [(0, .inr (.inr (.inl (some 94)))), (3, .inl (0, [(1, 1)]))], [.inr (.inl (0, [(2, 1)])), .inl (0, [(0, 620), (1, 1)]), .inr (.inr (.inl (some 119)))], []))] [] = true := by decide +kernel
theorem zb2_0 {cst : am_K} {strs : List Nat} {Φ : am_Q → Prop} {D : Nat} {M : am_M} {h : am_H} {l : am_L} (c : hp_C cst strs D) (hM : m_P[297]? = some M) (hD : (8 : Int) ≤ (D : Int) + 1) (hy : ly_hy m_tt ly_TH h) (ac k x : Int) (b0 : 0 ≤ ac) (t0 : ac ≤ 29) (b1 : 0 ≤ k) (t1 : k ≤ 619) (b2 : (-9223372036854775808) ≤ x) (t2 : x ≤ 9223372036854775807) (k0 : ly_hv cst h 19989 0 = some (ac)) (k1 : ly_hv cst h 26368 (k + 18600) = some (x)) (l0 : hp_a l 0 94) (l3 : hp_i l 3 (k)) (e0 : ∀ (l' : am_L) (h' : am_H) (y0 : Int64) (y1 : Int32), y0.toInt = (x) → y1.toInt = (620 * ac + k) → ly_hy m_tt ly_TH h' → ly_fr cst [] h h' → h.length ≤ h'.length → hp_a l' 0 94 → hp_i l' 3 (k) → hp_F cst strs Φ D M 403 l' [.long y0, .int y1, .ref 119] h') : hp_F cst strs Φ D M 372 l [] h := by
  refine hp_arc c hM zb2_0_k hD [ac, k, x] rfl hy (hp_Bc (z := ac) rfl b0 t0 (hp_Bc (z := k) rfl b1 t1 (hp_Bc (z := x) rfl b2 t2 hp_Bn))) hp_Fn (hp_Kc (zi := (0 + 0)) (zv := (0 + (1 * ac + 0))) k0 rfl rfl (by omega) (by omega) (hp_Kc (zi := (18600 + (1 * k + 0))) (zv := (0 + (1 * x + 0))) k1 rfl rfl (by omega) (by omega) hp_Kn)) (hp_La l0 (hp_Li (z := (0 + (1 * k + 0))) l3 rfl (by omega) hp_Ln)) trivial ?_ ?_
  · intro p hp ys l' st' h' hys a1 a2 a3 gZ gL gS
    rcases List.mem_cons.mp hp with rfl | hp
    · obtain rfl := hp_y0 hys
      obtain ⟨y0, t0, rfl, q0, g0⟩ := hp_gSj (z := (0 + (1 * x + 0))) gS rfl
      obtain ⟨y1, t1, rfl, q1, g1⟩ := hp_gSi (z := (0 + (620 * ac + (1 * k + 0)))) g0 rfl
      obtain ⟨t2, rfl, g2⟩ := hp_gSa g1 (by decide)
      cases hp_gSn g2
      exact e0 l' h' y0 y1 (by omega) (by omega) a1 a2 a3 (hp_gLa gL (List.mem_of_getElem? (i := 0) rfl) (by decide)) (hp_gLi (z := (0 + (1 * k + 0))) gL (List.mem_of_getElem? (i := 1) rfl) rfl (by omega))
    cases hp
  · intro p hp ys v h' hys a1 a2 a3 gZ gS
    cases hp
theorem zb2_1_k : hp_chk 297 404 3 [(0, 0, 29), (1, 0, 619), (2, (-2147483648), 2147483647)] [] [(0, .inr (.inr (.inl (some 94)))), (3, .inl (0, [(1, 1)]))] [] [(19989, (0, []), (0, [(0, 1)])), (26624, (18600, [(1, 1)]), (0, [(2, 1)]))] [] 8 [(428, ([], 3, [(0, 0, 29), (1, 0, 619), (2, (-2147483648), 2147483647)], [], [(0, .inr (.inr (.inl (some 94)))), (3, .inl (0, [(1, 1)]))], [.inl (0, [(2, 1)]), .inl (0, [(0, 620), (1, 1)]), .inr (.inr (.inl (some 120)))], []))] [] = true := by decide +kernel
theorem zb2_1 {cst : am_K} {strs : List Nat} {Φ : am_Q → Prop} {D : Nat} {M : am_M} {h : am_H} {l : am_L} (c : hp_C cst strs D) (hM : m_P[297]? = some M) (hD : (8 : Int) ≤ (D : Int) + 1) (hy : ly_hy m_tt ly_TH h) (ac k x : Int) (b0 : 0 ≤ ac) (t0 : ac ≤ 29) (b1 : 0 ≤ k) (t1 : k ≤ 619) (b2 : (-2147483648) ≤ x) (t2 : x ≤ 2147483647) (k0 : ly_hv cst h 19989 0 = some (ac)) (k1 : ly_hv cst h 26624 (k + 18600) = some (x)) (l0 : hp_a l 0 94) (l3 : hp_i l 3 (k)) (e0 : ∀ (l' : am_L) (h' : am_H) (y0 : Int32) (y1 : Int32), y0.toInt = (x) → y1.toInt = (620 * ac + k) → ly_hy m_tt ly_TH h' → ly_fr cst [] h h' → h.length ≤ h'.length → hp_a l' 0 94 → hp_i l' 3 (k) → hp_F cst strs Φ D M 428 l' [.int y0, .int y1, .ref 120] h') : hp_F cst strs Φ D M 404 l [] h := by
  refine hp_arc c hM zb2_1_k hD [ac, k, x] rfl hy (hp_Bc (z := ac) rfl b0 t0 (hp_Bc (z := k) rfl b1 t1 (hp_Bc (z := x) rfl b2 t2 hp_Bn))) hp_Fn (hp_Kc (zi := (0 + 0)) (zv := (0 + (1 * ac + 0))) k0 rfl rfl (by omega) (by omega) (hp_Kc (zi := (18600 + (1 * k + 0))) (zv := (0 + (1 * x + 0))) k1 rfl rfl (by omega) (by omega) hp_Kn)) (hp_La l0 (hp_Li (z := (0 + (1 * k + 0))) l3 rfl (by omega) hp_Ln)) trivial ?_ ?_
  · intro p hp ys l' st' h' hys a1 a2 a3 gZ gL gS
    rcases List.mem_cons.mp hp with rfl | hp
    · obtain rfl := hp_y0 hys
      obtain ⟨y0, t0, rfl, q0, g0⟩ := hp_gSi (z := (0 + (1 * x + 0))) gS rfl
      obtain ⟨y1, t1, rfl, q1, g1⟩ := hp_gSi (z := (0 + (620 * ac + (1 * k + 0)))) g0 rfl
      obtain ⟨t2, rfl, g2⟩ := hp_gSa g1 (by decide)
      cases hp_gSn g2
      exact e0 l' h' y0 y1 (by omega) (by omega) a1 a2 a3 (hp_gLa gL (List.mem_of_getElem? (i := 0) rfl) (by decide)) (hp_gLi (z := (0 + (1 * k + 0))) gL (List.mem_of_getElem? (i := 1) rfl) rfl (by omega))
    cases hp
  · intro p hp ys v h' hys a1 a2 a3 gZ gS
    cases hp
theorem zb2_N_k : hp_chk 297 429 2 [(0, 0, 29), (1, 0, 619)] [] [(0, .inr (.inr (.inl (some 94)))), (3, .inl (0, [(1, 1)]))] [] [] [] 8 [(372, ([], 2, [(0, 0, 29), (1, 0, 619)], [], [(0, .inr (.inr (.inl (some 94)))), (3, .inl (1, [(1, 1)]))], [], []))] [] = true := by decide +kernel
theorem zb2_N {cst : am_K} {strs : List Nat} {Φ : am_Q → Prop} {D : Nat} {M : am_M} {h : am_H} {l : am_L} (c : hp_C cst strs D) (hM : m_P[297]? = some M) (hD : (8 : Int) ≤ (D : Int) + 1) (hy : ly_hy m_tt ly_TH h) (ac k : Int) (b0 : 0 ≤ ac) (t0 : ac ≤ 29) (b1 : 0 ≤ k) (t1 : k ≤ 619) (l0 : hp_a l 0 94) (l3 : hp_i l 3 (k)) (e0 : ∀ (l' : am_L) (h' : am_H), ly_hy m_tt ly_TH h' → ly_fr cst [] h h' → h.length ≤ h'.length → hp_a l' 0 94 → hp_i l' 3 (k + 1) → hp_F cst strs Φ D M 372 l' [] h') : hp_F cst strs Φ D M 429 l [] h := by
  refine hp_arc c hM zb2_N_k hD [ac, k] rfl hy (hp_Bc (z := ac) rfl b0 t0 (hp_Bc (z := k) rfl b1 t1 hp_Bn)) hp_Fn hp_Kn (hp_La l0 (hp_Li (z := (0 + (1 * k + 0))) l3 rfl (by omega) hp_Ln)) trivial ?_ ?_
  · intro p hp ys l' st' h' hys a1 a2 a3 gZ gL gS
    rcases List.mem_cons.mp hp with rfl | hp
    · obtain rfl := hp_y0 hys
      cases hp_gSn gS
      exact e0 l' h' a1 a2 a3 (hp_gLa gL (List.mem_of_getElem? (i := 0) rfl) (by decide)) (hp_gLi (z := (1 + (1 * k + 0))) gL (List.mem_of_getElem? (i := 1) rfl) rfl (by omega))
    cases hp
  · intro p hp ys v h' hys a1 a2 a3 gZ gS
    cases hp
theorem zb2_X_k : hp_chk 297 372 0 [] [] [(0, .inr (.inr (.inl (some 94)))), (3, .inl (620, []))] [] [] [] 8 [(437, ([], 0, [], [], [(0, .inr (.inr (.inl (some 94)))), (3, .inl (0, []))], [], []))] [] = true := by decide +kernel
theorem zb2_X {cst : am_K} {strs : List Nat} {Φ : am_Q → Prop} {D : Nat} {M : am_M} {h : am_H} {l : am_L} (c : hp_C cst strs D) (hM : m_P[297]? = some M) (hD : (8 : Int) ≤ (D : Int) + 1) (hy : ly_hy m_tt ly_TH h) (l0 : hp_a l 0 94) (l3 : hp_i l 3 620) (e0 : ∀ (l' : am_L) (h' : am_H), ly_hy m_tt ly_TH h' → ly_fr cst [] h h' → h.length ≤ h'.length → hp_a l' 0 94 → hp_i l' 3 0 → hp_F cst strs Φ D M 437 l' [] h') : hp_F cst strs Φ D M 372 l [] h := by
  refine hp_arc c hM zb2_X_k hD [] rfl hy hp_Bn hp_Fn hp_Kn (hp_La l0 (hp_Li (z := (620 + 0)) l3 rfl (by omega) hp_Ln)) trivial ?_ ?_
  · intro p hp ys l' st' h' hys a1 a2 a3 gZ gL gS
    rcases List.mem_cons.mp hp with rfl | hp
    · obtain rfl := hp_y0 hys
      cases hp_gSn gS
      exact e0 l' h' a1 a2 a3 (hp_gLa gL (List.mem_of_getElem? (i := 0) rfl) (by decide)) (hp_gLi (z := (0 + 0)) gL (List.mem_of_getElem? (i := 1) rfl) rfl (by omega))
    cases hp
  · intro p hp ys v h' hys a1 a2 a3 gZ gS
    cases hp
theorem zb3_0_k : hp_chk 297 437 3 [(0, 0, 29), (1, 0, 819), (2, (-2147483648), 2147483647)] [] [(0, .inr (.inr (.inl (some 94)))), (3, .inl (0, [(1, 1)]))] [] [(19989, (0, []), (0, [(0, 1)])), (26880, (24600, [(1, 1)]), (0, [(2, 1)]))] [] 8 [(468, ([], 3, [(0, 0, 29), (1, 0, 819), (2, (-2147483648), 2147483647)], [], [(0, .inr (.inr (.inl (some 94)))), (3, .inl (0, [(1, 1)]))], [.inl (0, [(2, 1)]), .inl (0, [(0, 820), (1, 1)]), .inr (.inr (.inl (some 121)))], []))] [] = true := by decide +kernel
theorem zb3_0 {cst : am_K} {strs : List Nat} {Φ : am_Q → Prop} {D : Nat} {M : am_M} {h : am_H} {l : am_L} (c : hp_C cst strs D) (hM : m_P[297]? = some M) (hD : (8 : Int) ≤ (D : Int) + 1) (hy : ly_hy m_tt ly_TH h) (ac k x : Int) (b0 : 0 ≤ ac) (t0 : ac ≤ 29) (b1 : 0 ≤ k) (t1 : k ≤ 819) (b2 : (-2147483648) ≤ x) (t2 : x ≤ 2147483647) (k0 : ly_hv cst h 19989 0 = some (ac)) (k1 : ly_hv cst h 26880 (k + 24600) = some (x)) (l0 : hp_a l 0 94) (l3 : hp_i l 3 (k)) (e0 : ∀ (l' : am_L) (h' : am_H) (y0 : Int32) (y1 : Int32), y0.toInt = (x) → y1.toInt = (820 * ac + k) → ly_hy m_tt ly_TH h' → ly_fr cst [] h h' → h.length ≤ h'.length → hp_a l' 0 94 → hp_i l' 3 (k) → hp_F cst strs Φ D M 468 l' [.int y0, .int y1, .ref 121] h') : hp_F cst strs Φ D M 437 l [] h := by
  refine hp_arc c hM zb3_0_k hD [ac, k, x] rfl hy (hp_Bc (z := ac) rfl b0 t0 (hp_Bc (z := k) rfl b1 t1 (hp_Bc (z := x) rfl b2 t2 hp_Bn))) hp_Fn (hp_Kc (zi := (0 + 0)) (zv := (0 + (1 * ac + 0))) k0 rfl rfl (by omega) (by omega) (hp_Kc (zi := (24600 + (1 * k + 0))) (zv := (0 + (1 * x + 0))) k1 rfl rfl (by omega) (by omega) hp_Kn)) (hp_La l0 (hp_Li (z := (0 + (1 * k + 0))) l3 rfl (by omega) hp_Ln)) trivial ?_ ?_
  · intro p hp ys l' st' h' hys a1 a2 a3 gZ gL gS
    rcases List.mem_cons.mp hp with rfl | hp
    · obtain rfl := hp_y0 hys
      obtain ⟨y0, t0, rfl, q0, g0⟩ := hp_gSi (z := (0 + (1 * x + 0))) gS rfl
      obtain ⟨y1, t1, rfl, q1, g1⟩ := hp_gSi (z := (0 + (820 * ac + (1 * k + 0)))) g0 rfl
      obtain ⟨t2, rfl, g2⟩ := hp_gSa g1 (by decide)
      cases hp_gSn g2
      exact e0 l' h' y0 y1 (by omega) (by omega) a1 a2 a3 (hp_gLa gL (List.mem_of_getElem? (i := 0) rfl) (by decide)) (hp_gLi (z := (0 + (1 * k + 0))) gL (List.mem_of_getElem? (i := 1) rfl) rfl (by omega))
    cases hp
  · intro p hp ys v h' hys a1 a2 a3 gZ gS
    cases hp
theorem zb3_N_k : hp_chk 297 469 2 [(0, 0, 29), (1, 0, 819)] [] [(0, .inr (.inr (.inl (some 94)))), (3, .inl (0, [(1, 1)]))] [] [] [] 8 [(437, ([], 2, [(0, 0, 29), (1, 0, 819)], [], [(0, .inr (.inr (.inl (some 94)))), (3, .inl (1, [(1, 1)]))], [], []))] [] = true := by decide +kernel
theorem zb3_N {cst : am_K} {strs : List Nat} {Φ : am_Q → Prop} {D : Nat} {M : am_M} {h : am_H} {l : am_L} (c : hp_C cst strs D) (hM : m_P[297]? = some M) (hD : (8 : Int) ≤ (D : Int) + 1) (hy : ly_hy m_tt ly_TH h) (ac k : Int) (b0 : 0 ≤ ac) (t0 : ac ≤ 29) (b1 : 0 ≤ k) (t1 : k ≤ 819) (l0 : hp_a l 0 94) (l3 : hp_i l 3 (k)) (e0 : ∀ (l' : am_L) (h' : am_H), ly_hy m_tt ly_TH h' → ly_fr cst [] h h' → h.length ≤ h'.length → hp_a l' 0 94 → hp_i l' 3 (k + 1) → hp_F cst strs Φ D M 437 l' [] h') : hp_F cst strs Φ D M 469 l [] h := by
  refine hp_arc c hM zb3_N_k hD [ac, k] rfl hy (hp_Bc (z := ac) rfl b0 t0 (hp_Bc (z := k) rfl b1 t1 hp_Bn)) hp_Fn hp_Kn (hp_La l0 (hp_Li (z := (0 + (1 * k + 0))) l3 rfl (by omega) hp_Ln)) trivial ?_ ?_
  · intro p hp ys l' st' h' hys a1 a2 a3 gZ gL gS
    rcases List.mem_cons.mp hp with rfl | hp
    · obtain rfl := hp_y0 hys
      cases hp_gSn gS
      exact e0 l' h' a1 a2 a3 (hp_gLa gL (List.mem_of_getElem? (i := 0) rfl) (by decide)) (hp_gLi (z := (1 + (1 * k + 0))) gL (List.mem_of_getElem? (i := 1) rfl) rfl (by omega))
    cases hp
  · intro p hp ys v h' hys a1 a2 a3 gZ gS
    cases hp
theorem zb3_X_k : hp_chk 297 437 0 [] [] [(0, .inr (.inr (.inl (some 94)))), (3, .inl (820, []))] [] [] [] 8 [(477, ([], 0, [], [], [(0, .inr (.inr (.inl (some 94)))), (3, .inl (0, []))], [], []))] [] = true := by decide +kernel
theorem zb3_X {cst : am_K} {strs : List Nat} {Φ : am_Q → Prop} {D : Nat} {M : am_M} {h : am_H} {l : am_L} (c : hp_C cst strs D) (hM : m_P[297]? = some M) (hD : (8 : Int) ≤ (D : Int) + 1) (hy : ly_hy m_tt ly_TH h) (l0 : hp_a l 0 94) (l3 : hp_i l 3 820) (e0 : ∀ (l' : am_L) (h' : am_H), ly_hy m_tt ly_TH h' → ly_fr cst [] h h' → h.length ≤ h'.length → hp_a l' 0 94 → hp_i l' 3 0 → hp_F cst strs Φ D M 477 l' [] h') : hp_F cst strs Φ D M 437 l [] h := by
  refine hp_arc c hM zb3_X_k hD [] rfl hy hp_Bn hp_Fn hp_Kn (hp_La l0 (hp_Li (z := (820 + 0)) l3 rfl (by omega) hp_Ln)) trivial ?_ ?_
  · intro p hp ys l' st' h' hys a1 a2 a3 gZ gL gS
    rcases List.mem_cons.mp hp with rfl | hp
    · obtain rfl := hp_y0 hys
      cases hp_gSn gS
      exact e0 l' h' a1 a2 a3 (hp_gLa gL (List.mem_of_getElem? (i := 0) rfl) (by decide)) (hp_gLi (z := (0 + 0)) gL (List.mem_of_getElem? (i := 1) rfl) rfl (by omega))
    cases hp
  · intro p hp ys v h' hys a1 a2 a3 gZ gS
    cases hp
theorem zb4_0_k : hp_chk 297 477 3 [(0, 0, 29), (1, 0, 329), (2, (-9223372036854775808), 9223372036854775807)] [] [(0, .inr (.inr (.inl (some 94)))), (3, .inl (0, [(1, 1)]))] [] [(19989, (0, []), (0, [(0, 1)])), (27136, (9900, [(1, 1)]), (0, [(2, 1)]))] [] 8 [(508, ([], 3, [(0, 0, 29), (1, 0, 329), (2, (-9223372036854775808), 9223372036854775807)], [], [(0, .inr (.inr (.inl (some 94)))), (3, .inl (0, [(1, 1)]))], [.inr (.inl (0, [(2, 1)])), .inl (0, [(0, 330), (1, 1)]), .inr (.inr (.inl (some 122)))], []))] [] = true := by decide +kernel
theorem zb4_0 {cst : am_K} {strs : List Nat} {Φ : am_Q → Prop} {D : Nat} {M : am_M} {h : am_H} {l : am_L} (c : hp_C cst strs D) (hM : m_P[297]? = some M) (hD : (8 : Int) ≤ (D : Int) + 1) (hy : ly_hy m_tt ly_TH h) (ac k x : Int) (b0 : 0 ≤ ac) (t0 : ac ≤ 29) (b1 : 0 ≤ k) (t1 : k ≤ 329) (b2 : (-9223372036854775808) ≤ x) (t2 : x ≤ 9223372036854775807) (k0 : ly_hv cst h 19989 0 = some (ac)) (k1 : ly_hv cst h 27136 (k + 9900) = some (x)) (l0 : hp_a l 0 94) (l3 : hp_i l 3 (k)) (e0 : ∀ (l' : am_L) (h' : am_H) (y0 : Int64) (y1 : Int32), y0.toInt = (x) → y1.toInt = (330 * ac + k) → ly_hy m_tt ly_TH h' → ly_fr cst [] h h' → h.length ≤ h'.length → hp_a l' 0 94 → hp_i l' 3 (k) → hp_F cst strs Φ D M 508 l' [.long y0, .int y1, .ref 122] h') : hp_F cst strs Φ D M 477 l [] h := by
  refine hp_arc c hM zb4_0_k hD [ac, k, x] rfl hy (hp_Bc (z := ac) rfl b0 t0 (hp_Bc (z := k) rfl b1 t1 (hp_Bc (z := x) rfl b2 t2 hp_Bn))) hp_Fn (hp_Kc (zi := (0 + 0)) (zv := (0 + (1 * ac + 0))) k0 rfl rfl (by omega) (by omega) (hp_Kc (zi := (9900 + (1 * k + 0))) (zv := (0 + (1 * x + 0))) k1 rfl rfl (by omega) (by omega) hp_Kn)) (hp_La l0 (hp_Li (z := (0 + (1 * k + 0))) l3 rfl (by omega) hp_Ln)) trivial ?_ ?_
  · intro p hp ys l' st' h' hys a1 a2 a3 gZ gL gS
    rcases List.mem_cons.mp hp with rfl | hp
    · obtain rfl := hp_y0 hys
      obtain ⟨y0, t0, rfl, q0, g0⟩ := hp_gSj (z := (0 + (1 * x + 0))) gS rfl
      obtain ⟨y1, t1, rfl, q1, g1⟩ := hp_gSi (z := (0 + (330 * ac + (1 * k + 0)))) g0 rfl
      obtain ⟨t2, rfl, g2⟩ := hp_gSa g1 (by decide)
      cases hp_gSn g2
      exact e0 l' h' y0 y1 (by omega) (by omega) a1 a2 a3 (hp_gLa gL (List.mem_of_getElem? (i := 0) rfl) (by decide)) (hp_gLi (z := (0 + (1 * k + 0))) gL (List.mem_of_getElem? (i := 1) rfl) rfl (by omega))
    cases hp
  · intro p hp ys v h' hys a1 a2 a3 gZ gS
    cases hp
theorem zb4_N_k : hp_chk 297 509 2 [(0, 0, 29), (1, 0, 329)] [] [(0, .inr (.inr (.inl (some 94)))), (3, .inl (0, [(1, 1)]))] [] [] [] 8 [(477, ([], 2, [(0, 0, 29), (1, 0, 329)], [], [(0, .inr (.inr (.inl (some 94)))), (3, .inl (1, [(1, 1)]))], [], []))] [] = true := by decide +kernel
theorem zb4_N {cst : am_K} {strs : List Nat} {Φ : am_Q → Prop} {D : Nat} {M : am_M} {h : am_H} {l : am_L} (c : hp_C cst strs D) (hM : m_P[297]? = some M) (hD : (8 : Int) ≤ (D : Int) + 1) (hy : ly_hy m_tt ly_TH h) (ac k : Int) (b0 : 0 ≤ ac) (t0 : ac ≤ 29) (b1 : 0 ≤ k) (t1 : k ≤ 329) (l0 : hp_a l 0 94) (l3 : hp_i l 3 (k)) (e0 : ∀ (l' : am_L) (h' : am_H), ly_hy m_tt ly_TH h' → ly_fr cst [] h h' → h.length ≤ h'.length → hp_a l' 0 94 → hp_i l' 3 (k + 1) → hp_F cst strs Φ D M 477 l' [] h') : hp_F cst strs Φ D M 509 l [] h := by
  refine hp_arc c hM zb4_N_k hD [ac, k] rfl hy (hp_Bc (z := ac) rfl b0 t0 (hp_Bc (z := k) rfl b1 t1 hp_Bn)) hp_Fn hp_Kn (hp_La l0 (hp_Li (z := (0 + (1 * k + 0))) l3 rfl (by omega) hp_Ln)) trivial ?_ ?_
  · intro p hp ys l' st' h' hys a1 a2 a3 gZ gL gS
    rcases List.mem_cons.mp hp with rfl | hp
    · obtain rfl := hp_y0 hys
      cases hp_gSn gS
      exact e0 l' h' a1 a2 a3 (hp_gLa gL (List.mem_of_getElem? (i := 0) rfl) (by decide)) (hp_gLi (z := (1 + (1 * k + 0))) gL (List.mem_of_getElem? (i := 1) rfl) rfl (by omega))
    cases hp
  · intro p hp ys v h' hys a1 a2 a3 gZ gS
    cases hp
theorem zb4_X_k : hp_chk 297 477 0 [] [] [(0, .inr (.inr (.inl (some 94)))), (3, .inl (330, []))] [] [] [] 8 [(515, ([], 0, [], [], [(0, .inr (.inr (.inl (some 94))))], [], []))] [] = true := by decide +kernel
theorem zb4_X {cst : am_K} {strs : List Nat} {Φ : am_Q → Prop} {D : Nat} {M : am_M} {h : am_H} {l : am_L} (c : hp_C cst strs D) (hM : m_P[297]? = some M) (hD : (8 : Int) ≤ (D : Int) + 1) (hy : ly_hy m_tt ly_TH h) (l0 : hp_a l 0 94) (l3 : hp_i l 3 330) (e0 : ∀ (l' : am_L) (h' : am_H), ly_hy m_tt ly_TH h' → ly_fr cst [] h h' → h.length ≤ h'.length → hp_a l' 0 94 → hp_F cst strs Φ D M 515 l' [] h') : hp_F cst strs Φ D M 477 l [] h := by
  refine hp_arc c hM zb4_X_k hD [] rfl hy hp_Bn hp_Fn hp_Kn (hp_La l0 (hp_Li (z := (330 + 0)) l3 rfl (by omega) hp_Ln)) trivial ?_ ?_
  · intro p hp ys l' st' h' hys a1 a2 a3 gZ gL gS
    rcases List.mem_cons.mp hp with rfl | hp
    · obtain rfl := hp_y0 hys
      cases hp_gSn gS
      exact e0 l' h' a1 a2 a3 (hp_gLa gL (List.mem_of_getElem? (i := 0) rfl) (by decide))
    cases hp
  · intro p hp ys v h' hys a1 a2 a3 gZ gS
    cases hp
theorem zaZ_k : hp_chk 297 515 1 [(0, 0, 29)] [] [(0, .inr (.inr (.inl (some 94))))] [] [(19989, (0, []), (0, [(0, 1)]))] [19989, 60020, 60030, 60031, 60032, 60033, 60034, 60035, 60036, 60037, 60038, 60039, 60040, 60070, 60071] 8 [] [([], 1, [(0, 0, 29)], [], [], [.inl (0, [(0, 1)])], [(19989, (0, []), (1, [(0, 1)]))])] = true := by decide +kernel
theorem zaZ {cst : am_K} {strs : List Nat} {Φ : am_Q → Prop} {D : Nat} {M : am_M} {h : am_H} {l : am_L} (c : hp_C cst strs D) (hM : m_P[297]? = some M) (hD : (8 : Int) ≤ (D : Int) + 1) (hy : ly_hy m_tt ly_TH h) (ac : Int) (b0 : 0 ≤ ac) (t0 : ac ≤ 29) (k0 : ly_hv cst h 19989 0 = some (ac)) (l0 : hp_a l 0 94) (r0 : ∀ (h' : am_H) (y0 : Int32), y0.toInt = (ac) → ly_hy m_tt ly_TH h' → ly_fr cst [19989, 60020, 60030, 60031, 60032, 60033, 60034, 60035, 60036, 60037, 60038, 60039, 60040, 60070, 60071] h h' → h.length ≤ h'.length → ly_hv cst h' 19989 0 = some (ac + 1) → Φ (some (.int y0), h', 0, 0)) : hp_F cst strs Φ D M 515 l [] h := by
  refine hp_arc c hM zaZ_k hD [ac] rfl hy (hp_Bc (z := ac) rfl b0 t0 hp_Bn) hp_Fn (hp_Kc (zi := (0 + 0)) (zv := (0 + (1 * ac + 0))) k0 rfl rfl (by omega) (by omega) hp_Kn) (hp_La l0 hp_Ln) trivial ?_ ?_
  · intro p hp ys l' st' h' hys a1 a2 a3 gZ gL gS
    cases hp
  · intro p hp ys v h' hys a1 a2 a3 gZ gS
    rcases List.mem_cons.mp hp with rfl | hp
    · obtain rfl := hp_y0 hys
      cases v with
      | none => cases gS
      | some w =>
        obtain ⟨y0, t0, s0, q0, -⟩ := hp_gSi (z := (0 + (1 * ac + 0))) gS rfl
        cases s0
        exact r0 h' y0 (by omega) a1 a2 a3 (hp_gK (zi := (0 + 0)) (zv := (1 + (1 * ac + 0))) gZ.2.2.2 (List.mem_of_getElem? (i := 0) rfl) rfl rfl (by omega) (by omega))
    cases hp
/-- a row's places from o on stand from s on too, so far k of them; the others stand -/
def cp (cst : am_K) (h0 h : am_H) (r : Nat) (s o k : Int) : Prop := (∀ j u, 0 ≤ j → j < k → ly_hv cst h0 r (o + j) = some u → ly_hv cst h r (s + j) = some u) ∧ ∀ j u, ¬ (s ≤ j ∧ j < s + k) → ly_hv cst h0 r j = some u → ly_hv cst h r j = some u
theorem cp_0 {cst : am_K} {h0 h : am_H} {r : Nat} {s o : Int} {ms : List Nat} (fr : ly_fr cst ms h0 h) (q : ly_has r ms = false) : cp cst h0 h r s o 0 := ⟨fun j u a b => by omega, fun j u _ e => fr _ _ _ q e⟩
theorem cp_mv {cst : am_K} {h0 h h' : am_H} {r : Nat} {s o k : Int} {ms : List Nat} (C : cp cst h0 h r s o k) (fr : ly_fr cst ms h h') (q : ly_has r ms = false) : cp cst h0 h' r s o k := ⟨fun j u a b e => fr _ _ _ q (C.1 j u a b e), fun j u n e => fr _ _ _ q (C.2 j u n e)⟩
theorem cp_rf {cst : am_K} {h0 h h' : am_H} {r : Nat} {s o k : Int} {ms : List Nat} (fr : ly_fr cst ms h0 h) (q : ly_has r ms = false) (C : cp cst h h' r s o k) : cp cst h0 h' r s o k := ⟨fun j u a b e => C.1 j u a b (fr _ _ _ q e), fun j u n e => C.2 j u n (fr _ _ _ q e)⟩
theorem cp_p0 {cst : am_K} {h0 h h' : am_H} {r : Nat} {s o k i x : Int} (C : cp cst h0 h r s o k) (p : hp_p0 cst r i x h h') (ei : i = s + k) (hr : r < 60010) (kx : ly_hv cst h r (k + o) = some x) (k0 : 0 ≤ k) (so : s + k < o) : cp cst h0 h' r s o (k + 1) := by
  refine ⟨fun j u a b e => ?_, fun j u nj e => ?_⟩
  · by_cases z : j = k
    · rw [z] at e ⊢
      have e' := C.2 (o + k) u (by omega) e
      rw [Int.add_comm, kx] at e'
      cases e'
      rw [ly_hv0 hr, ← ei]
      exact p.1
    · rw [ly_hv0 hr, p.2 _ _ (Or.inr (by omega)), ← ly_hv0 hr]
      exact C.1 j u a (by omega) e
  · rw [ly_hv0 hr, p.2 _ _ (Or.inr (by omega)), ← ly_hv0 hr]
    exact C.2 j u (by omega) e
theorem cp_pt {cst : am_K} {h0 h h' : am_H} {r : Nat} {s o k i x : Int} (C : cp cst h0 h r s o k) (p : hp_put cst r i x h h') (ei : i = s + k) (kx : ly_hv cst h r (k + o) = some x) (k0 : 0 ≤ k) (so : s + k < o) : cp cst h0 h' r s o (k + 1) := by
  refine ⟨fun j u a b e => ?_, fun j u nj e => ?_⟩
  · by_cases z : j = k
    · rw [z] at e ⊢
      have e' := C.2 (o + k) u (by omega) e
      rw [Int.add_comm, kx] at e'
      cases e'
      rw [← ei]
      exact p.1
    · rw [p.2 _ _ (Or.inr (by omega))]
      exact C.1 j u a (by omega) e
  · rw [p.2 _ _ (Or.inr (by omega))]
    exact C.2 j u (by omega) e
theorem cp_fn {cst : am_K} {h0 h : am_H} {r : Nat} {s o k : Int} {ns : List Int} (C : cp cst h0 h r s o k) (A : fn_N cst h0 r o ns) (hk : (ns.length : Int) ≤ k) : fn_N cst h r s ns := fun j hj => C.1 (j : Int) _ (by omega) (by omega) (A j hj)
set_option maxRecDepth 8000 in
theorem zb0_lp {cst : am_K} {strs : List Nat} {D : Nat} {M : am_M} {h0 : am_H} {Φ : am_Q → Prop} (cc : ∀ d, hp_C cst strs d) (hM : m_P[297]? = some M) (hD : 7 ≤ D) {ac : Int} (a0 : 0 ≤ ac) (a1 : ac ≤ 29) (kA : ly_hv cst h0 19989 0 = some ac) (go : ∀ (l : am_L) (h : am_H), ly_hy m_tt ly_TH h → ly_fr cst [23552, 23808, 24064, 24320, 24576, 24832, 25088, 60020, 60030, 60031, 60032, 60033, 60034, 60035, 60036, 60037, 60038, 60039, 60040, 60050, 60060, 60061, 60070] h0 h → cp cst h0 h 23552 (40 * ac) 1200 40 → cp cst h0 h 23808 (40 * ac) 1200 40 → cp cst h0 h 24064 (40 * ac) 1200 40 → cp cst h0 h 24320 (40 * ac) 1200 40 → cp cst h0 h 24576 (40 * ac) 1200 40 → cp cst h0 h 24832 (40 * ac) 1200 40 → cp cst h0 h 25088 (40 * ac) 1200 40 → hp_a l 0 94 → hp_i l 3 0 → hp_F cst strs Φ D M 282 l [] h) : ∀ (Q k : Nat) (h : am_H) (l : am_L), Q + k = 40 → ly_hy m_tt ly_TH h → ly_fr cst [23552, 23808, 24064, 24320, 24576, 24832, 25088, 60020, 60030, 60031, 60032, 60033, 60034, 60035, 60036, 60037, 60038, 60039, 60040, 60050, 60060, 60061, 60070] h0 h → cp cst h0 h 23552 (40 * ac) 1200 (k : Int) → cp cst h0 h 23808 (40 * ac) 1200 (k : Int) → cp cst h0 h 24064 (40 * ac) 1200 (k : Int) → cp cst h0 h 24320 (40 * ac) 1200 (k : Int) → cp cst h0 h 24576 (40 * ac) 1200 (k : Int) → cp cst h0 h 24832 (40 * ac) 1200 (k : Int) → cp cst h0 h 25088 (40 * ac) 1200 (k : Int) → hp_a l 0 94 → hp_i l 3 (k : Int) → hp_F cst strs Φ D M 152 l [] h
  | 0, k, h, l, hQ, hy, fr, c0, c1, c2, c3, c4, c5, c6, l0, l3 => by
    have ek : k = 40 := by omega
    subst ek
    exact zb0_X (cc _) hM (by omega) hy l0 l3 (fun l2 h2 u1 u2 u3 m0 m3 => go l2 h2 u1 (ly_fr_tr fr (hp_sub2 rfl u2)) (cp_mv c0 u2 rfl) (cp_mv c1 u2 rfl) (cp_mv c2 u2 rfl) (cp_mv c3 u2 rfl) (cp_mv c4 u2 rfl) (cp_mv c5 u2 rfl) (cp_mv c6 u2 rfl) m0 m3)
  | Q + 1, k, h, l, hQ, hy, fr, c0, c1, c2, c3, c4, c5, c6, l0, l3 => by
    obtain ⟨x0, kx0, xl0, xh0⟩ := hp_row (cst := cst) (i := (k : Int) + 1200) hy (show ly_ths ly_TH 92 = some (.inl (.int, 1240, 0, 14)) from rfl) (by omega) (by omega)
    have kx0 : ly_hv cst h 23552 ((k : Int) + 1200) = some x0 := kx0
    refine zb0_0 (cc _) hM (by omega) hy ac (k : Int) x0 a0 a1 (by omega) (by omega) (by omega) (by omega) (fr _ _ _ rfl kA) kx0 l0 l3 (fun la0 ha0 ya0 yb0 fa0 fb0 ua0 ub0 uc0 p0_0 p0_3 p0_4 p0_5 => ?_)
    refine hp_st0 (c := 92) hM (by decide +kernel) ua0 (show ly_ths ly_TH 92 = some (.inl (.int, 1240, 0, 14)) from rfl) (by omega) (by omega) (by omega) (by omega) (fun hb0 va0 vb0 vc0 => ?_)
    rw [fa0] at vc0
    have vc0 : hp_p0 cst 23552 yb0.toInt x0 ha0 hb0 := vc0
    have F0 : ly_fr cst [23552, 60020, 60030, 60031, 60032, 60033, 60034, 60035, 60036, 60037, 60038, 60039, 60040, 60070] ha0 hb0 := hp_p0_fr vc0 (by decide) rfl rfl
    have d0_0 : cp cst h0 hb0 23552 (40 * ac) 1200 ((k : Int) + 1) := cp_p0 (cp_mv c0 ub0 rfl) vc0 (by omega) (by decide) (ub0 _ _ _ rfl kx0) (by omega) (by omega)
    have d0_1 := cp_mv (cp_mv c1 ub0 rfl) F0 rfl
    have d0_2 := cp_mv (cp_mv c2 ub0 rfl) F0 rfl
    have d0_3 := cp_mv (cp_mv c3 ub0 rfl) F0 rfl
    have d0_4 := cp_mv (cp_mv c4 ub0 rfl) F0 rfl
    have d0_5 := cp_mv (cp_mv c5 ub0 rfl) F0 rfl
    have d0_6 := cp_mv (cp_mv c6 ub0 rfl) F0 rfl
    have fr0 : ly_fr cst [23552, 23808, 24064, 24320, 24576, 24832, 25088, 60020, 60030, 60031, 60032, 60033, 60034, 60035, 60036, 60037, 60038, 60039, 60040, 60050, 60060, 60061, 60070] h0 hb0 := ly_fr_tr fr (ly_fr_tr (hp_sub2 rfl ub0) (hp_sub2 rfl F0))
    obtain ⟨x1, kx1, xl1, xh1⟩ := hp_rowj (cst := cst) (i := (k : Int) + 1200) va0 (show ly_ths ly_TH 93 = some (.inl (.long, 1240, 0, 0)) from rfl) (by omega) (by omega)
    have kx1 : ly_hv cst hb0 23808 ((k : Int) + 1200) = some x1 := kx1
    have xl1 : -9223372036854775808 ≤ x1 := xl1
    have xh1 : x1 ≤ 9223372036854775807 := xh1
    refine zb0_1 (cc _) hM (by omega) va0 ac (k : Int) x1 a0 a1 (by omega) (by omega) (by omega) (by omega) (fr0 _ _ _ rfl kA) kx1 p0_0 p0_3 p0_4 p0_5 (fun la1 ha1 ya1 yb1 fa1 fb1 ua1 ub1 uc1 p1_0 p1_3 p1_4 p1_5 => ?_)
    refine hp_stj (c := 93) hM (by decide +kernel) ua1 (show ly_ths ly_TH 93 = some (.inl (.long, 1240, 0, 0)) from rfl) rfl (by omega) (by omega) (fun hb1 va1 vb1 vc1 => ?_)
    rw [fa1] at vc1
    have vc1 : hp_put cst 23808 yb1.toInt x1 ha1 hb1 := vc1
    have F1 : ly_fr cst [23808] ha1 hb1 := hp_put_fr (by rfl) vc1
    have d1_0 := cp_mv (cp_mv d0_0 ub1 rfl) F1 rfl
    have d1_1 : cp cst h0 hb1 23808 (40 * ac) 1200 ((k : Int) + 1) := cp_pt (cp_mv d0_1 ub1 rfl) vc1 (by omega) (ub1 _ _ _ rfl kx1) (by omega) (by omega)
    have d1_2 := cp_mv (cp_mv d0_2 ub1 rfl) F1 rfl
    have d1_3 := cp_mv (cp_mv d0_3 ub1 rfl) F1 rfl
    have d1_4 := cp_mv (cp_mv d0_4 ub1 rfl) F1 rfl
    have d1_5 := cp_mv (cp_mv d0_5 ub1 rfl) F1 rfl
    have d1_6 := cp_mv (cp_mv d0_6 ub1 rfl) F1 rfl
    have fr1 : ly_fr cst [23552, 23808, 24064, 24320, 24576, 24832, 25088, 60020, 60030, 60031, 60032, 60033, 60034, 60035, 60036, 60037, 60038, 60039, 60040, 60050, 60060, 60061, 60070] h0 hb1 := ly_fr_tr fr0 (ly_fr_tr (hp_sub2 rfl ub1) (hp_sub2 rfl F1))
    obtain ⟨x2, kx2, xl2, xh2⟩ := hp_row (cst := cst) (i := (k : Int) + 1200) va1 (show ly_ths ly_TH 94 = some (.inl (.int, 1240, 0, 9999)) from rfl) (by omega) (by omega)
    have kx2 : ly_hv cst hb1 24064 ((k : Int) + 1200) = some x2 := kx2
    refine zb0_2 (cc _) hM (by omega) va1 ac (k : Int) x2 a0 a1 (by omega) (by omega) (by omega) (by omega) (fr1 _ _ _ rfl kA) kx2 p1_0 p1_3 p1_4 p1_5 (fun la2 ha2 ya2 yb2 fa2 fb2 ua2 ub2 uc2 p2_0 p2_3 p2_4 p2_5 => ?_)
    refine hp_st0 (c := 94) hM (by decide +kernel) ua2 (show ly_ths ly_TH 94 = some (.inl (.int, 1240, 0, 9999)) from rfl) (by omega) (by omega) (by omega) (by omega) (fun hb2 va2 vb2 vc2 => ?_)
    rw [fa2] at vc2
    have vc2 : hp_p0 cst 24064 yb2.toInt x2 ha2 hb2 := vc2
    have F2 : ly_fr cst [24064, 60020, 60070] ha2 hb2 := hp_p0_fr vc2 (by decide) rfl rfl
    have d2_0 := cp_mv (cp_mv d1_0 ub2 rfl) F2 rfl
    have d2_1 := cp_mv (cp_mv d1_1 ub2 rfl) F2 rfl
    have d2_2 : cp cst h0 hb2 24064 (40 * ac) 1200 ((k : Int) + 1) := cp_p0 (cp_mv d1_2 ub2 rfl) vc2 (by omega) (by decide) (ub2 _ _ _ rfl kx2) (by omega) (by omega)
    have d2_3 := cp_mv (cp_mv d1_3 ub2 rfl) F2 rfl
    have d2_4 := cp_mv (cp_mv d1_4 ub2 rfl) F2 rfl
    have d2_5 := cp_mv (cp_mv d1_5 ub2 rfl) F2 rfl
    have d2_6 := cp_mv (cp_mv d1_6 ub2 rfl) F2 rfl
    have fr2 : ly_fr cst [23552, 23808, 24064, 24320, 24576, 24832, 25088, 60020, 60030, 60031, 60032, 60033, 60034, 60035, 60036, 60037, 60038, 60039, 60040, 60050, 60060, 60061, 60070] h0 hb2 := ly_fr_tr fr1 (ly_fr_tr (hp_sub2 rfl ub2) (hp_sub2 rfl F2))
    obtain ⟨x3, kx3, xl3, xh3⟩ := hp_row (cst := cst) (i := (k : Int) + 1200) va2 (show ly_ths ly_TH 95 = some (.inl (.int, 1240, 0, 401)) from rfl) (by omega) (by omega)
    have kx3 : ly_hv cst hb2 24320 ((k : Int) + 1200) = some x3 := kx3
    refine zb0_3 (cc _) hM (by omega) va2 ac (k : Int) x3 a0 a1 (by omega) (by omega) (by omega) (by omega) (fr2 _ _ _ rfl kA) kx3 p2_0 p2_3 p2_4 p2_5 (fun la3 ha3 ya3 yb3 fa3 fb3 ua3 ub3 uc3 p3_0 p3_3 p3_4 p3_5 => ?_)
    refine hp_st0 (c := 95) hM (by decide +kernel) ua3 (show ly_ths ly_TH 95 = some (.inl (.int, 1240, 0, 401)) from rfl) (by omega) (by omega) (by omega) (by omega) (fun hb3 va3 vb3 vc3 => ?_)
    rw [fa3] at vc3
    have vc3 : hp_p0 cst 24320 yb3.toInt x3 ha3 hb3 := vc3
    have F3 : ly_fr cst [24320] ha3 hb3 := hp_p0_fr vc3 (by decide) rfl rfl
    have d3_0 := cp_mv (cp_mv d2_0 ub3 rfl) F3 rfl
    have d3_1 := cp_mv (cp_mv d2_1 ub3 rfl) F3 rfl
    have d3_2 := cp_mv (cp_mv d2_2 ub3 rfl) F3 rfl
    have d3_3 : cp cst h0 hb3 24320 (40 * ac) 1200 ((k : Int) + 1) := cp_p0 (cp_mv d2_3 ub3 rfl) vc3 (by omega) (by decide) (ub3 _ _ _ rfl kx3) (by omega) (by omega)
    have d3_4 := cp_mv (cp_mv d2_4 ub3 rfl) F3 rfl
    have d3_5 := cp_mv (cp_mv d2_5 ub3 rfl) F3 rfl
    have d3_6 := cp_mv (cp_mv d2_6 ub3 rfl) F3 rfl
    have fr3 : ly_fr cst [23552, 23808, 24064, 24320, 24576, 24832, 25088, 60020, 60030, 60031, 60032, 60033, 60034, 60035, 60036, 60037, 60038, 60039, 60040, 60050, 60060, 60061, 60070] h0 hb3 := ly_fr_tr fr2 (ly_fr_tr (hp_sub2 rfl ub3) (hp_sub2 rfl F3))
    obtain ⟨x4, kx4, xl4, xh4⟩ := hp_row (cst := cst) (i := (k : Int) + 1200) va3 (show ly_ths ly_TH 96 = some (.inl (.int, 1240, 0, 20)) from rfl) (by omega) (by omega)
    have kx4 : ly_hv cst hb3 24576 ((k : Int) + 1200) = some x4 := kx4
    refine zb0_4 (cc _) hM (by omega) va3 ac (k : Int) x4 a0 a1 (by omega) (by omega) (by omega) (by omega) (fr3 _ _ _ rfl kA) kx4 p3_0 p3_3 p3_4 p3_5 (fun la4 ha4 ya4 yb4 fa4 fb4 ua4 ub4 uc4 p4_0 p4_3 p4_4 p4_5 => ?_)
    refine hp_st0 (c := 96) hM (by decide +kernel) ua4 (show ly_ths ly_TH 96 = some (.inl (.int, 1240, 0, 20)) from rfl) (by omega) (by omega) (by omega) (by omega) (fun hb4 va4 vb4 vc4 => ?_)
    rw [fa4] at vc4
    have vc4 : hp_p0 cst 24576 yb4.toInt x4 ha4 hb4 := vc4
    have F4 : ly_fr cst [24576, 60020, 60070] ha4 hb4 := hp_p0_fr vc4 (by decide) rfl rfl
    have d4_0 := cp_mv (cp_mv d3_0 ub4 rfl) F4 rfl
    have d4_1 := cp_mv (cp_mv d3_1 ub4 rfl) F4 rfl
    have d4_2 := cp_mv (cp_mv d3_2 ub4 rfl) F4 rfl
    have d4_3 := cp_mv (cp_mv d3_3 ub4 rfl) F4 rfl
    have d4_4 : cp cst h0 hb4 24576 (40 * ac) 1200 ((k : Int) + 1) := cp_p0 (cp_mv d3_4 ub4 rfl) vc4 (by omega) (by decide) (ub4 _ _ _ rfl kx4) (by omega) (by omega)
    have d4_5 := cp_mv (cp_mv d3_5 ub4 rfl) F4 rfl
    have d4_6 := cp_mv (cp_mv d3_6 ub4 rfl) F4 rfl
    have fr4 : ly_fr cst [23552, 23808, 24064, 24320, 24576, 24832, 25088, 60020, 60030, 60031, 60032, 60033, 60034, 60035, 60036, 60037, 60038, 60039, 60040, 60050, 60060, 60061, 60070] h0 hb4 := ly_fr_tr fr3 (ly_fr_tr (hp_sub2 rfl ub4) (hp_sub2 rfl F4))
    obtain ⟨x5, kx5, xl5, xh5⟩ := hp_row (cst := cst) (i := (k : Int) + 1200) va4 (show ly_ths ly_TH 97 = some (.inl (.int, 1240, 0, 802)) from rfl) (by omega) (by omega)
    have kx5 : ly_hv cst hb4 24832 ((k : Int) + 1200) = some x5 := kx5
    refine zb0_5 (cc _) hM (by omega) va4 ac (k : Int) x5 a0 a1 (by omega) (by omega) (by omega) (by omega) (fr4 _ _ _ rfl kA) kx5 p4_0 p4_3 p4_4 p4_5 (fun la5 ha5 ya5 yb5 fa5 fb5 ua5 ub5 uc5 p5_0 p5_3 p5_4 p5_5 => ?_)
    refine hp_st0 (c := 97) hM (by decide +kernel) ua5 (show ly_ths ly_TH 97 = some (.inl (.int, 1240, 0, 802)) from rfl) (by omega) (by omega) (by omega) (by omega) (fun hb5 va5 vb5 vc5 => ?_)
    rw [fa5] at vc5
    have vc5 : hp_p0 cst 24832 yb5.toInt x5 ha5 hb5 := vc5
    have F5 : ly_fr cst [24832, 60020, 60050, 60060, 60061, 60070] ha5 hb5 := hp_p0_fr vc5 (by decide) rfl rfl
    have d5_0 := cp_mv (cp_mv d4_0 ub5 rfl) F5 rfl
    have d5_1 := cp_mv (cp_mv d4_1 ub5 rfl) F5 rfl
    have d5_2 := cp_mv (cp_mv d4_2 ub5 rfl) F5 rfl
    have d5_3 := cp_mv (cp_mv d4_3 ub5 rfl) F5 rfl
    have d5_4 := cp_mv (cp_mv d4_4 ub5 rfl) F5 rfl
    have d5_5 : cp cst h0 hb5 24832 (40 * ac) 1200 ((k : Int) + 1) := cp_p0 (cp_mv d4_5 ub5 rfl) vc5 (by omega) (by decide) (ub5 _ _ _ rfl kx5) (by omega) (by omega)
    have d5_6 := cp_mv (cp_mv d4_6 ub5 rfl) F5 rfl
    have fr5 : ly_fr cst [23552, 23808, 24064, 24320, 24576, 24832, 25088, 60020, 60030, 60031, 60032, 60033, 60034, 60035, 60036, 60037, 60038, 60039, 60040, 60050, 60060, 60061, 60070] h0 hb5 := ly_fr_tr fr4 (ly_fr_tr (hp_sub2 rfl ub5) (hp_sub2 rfl F5))
    obtain ⟨x6, kx6, xl6, xh6⟩ := hp_row (cst := cst) (i := (k : Int) + 1200) va5 (show ly_ths ly_TH 98 = some (.inl (.int, 1240, 0, 802)) from rfl) (by omega) (by omega)
    have kx6 : ly_hv cst hb5 25088 ((k : Int) + 1200) = some x6 := kx6
    refine zb0_6 (cc _) hM (by omega) va5 ac (k : Int) x6 a0 a1 (by omega) (by omega) (by omega) (by omega) (fr5 _ _ _ rfl kA) kx6 p5_0 p5_3 p5_4 p5_5 (fun la6 ha6 ya6 yb6 fa6 fb6 ua6 ub6 uc6 p6_0 p6_3 p6_4 p6_5 => ?_)
    refine hp_st0 (c := 98) hM (by decide +kernel) ua6 (show ly_ths ly_TH 98 = some (.inl (.int, 1240, 0, 802)) from rfl) (by omega) (by omega) (by omega) (by omega) (fun hb6 va6 vb6 vc6 => ?_)
    rw [fa6] at vc6
    have vc6 : hp_p0 cst 25088 yb6.toInt x6 ha6 hb6 := vc6
    have F6 : ly_fr cst [25088, 60020, 60061, 60070] ha6 hb6 := hp_p0_fr vc6 (by decide) rfl rfl
    have d6_0 := cp_mv (cp_mv d5_0 ub6 rfl) F6 rfl
    have d6_1 := cp_mv (cp_mv d5_1 ub6 rfl) F6 rfl
    have d6_2 := cp_mv (cp_mv d5_2 ub6 rfl) F6 rfl
    have d6_3 := cp_mv (cp_mv d5_3 ub6 rfl) F6 rfl
    have d6_4 := cp_mv (cp_mv d5_4 ub6 rfl) F6 rfl
    have d6_5 := cp_mv (cp_mv d5_5 ub6 rfl) F6 rfl
    have d6_6 : cp cst h0 hb6 25088 (40 * ac) 1200 ((k : Int) + 1) := cp_p0 (cp_mv d5_6 ub6 rfl) vc6 (by omega) (by decide) (ub6 _ _ _ rfl kx6) (by omega) (by omega)
    have fr6 : ly_fr cst [23552, 23808, 24064, 24320, 24576, 24832, 25088, 60020, 60030, 60031, 60032, 60033, 60034, 60035, 60036, 60037, 60038, 60039, 60040, 60050, 60060, 60061, 60070] h0 hb6 := ly_fr_tr fr5 (ly_fr_tr (hp_sub2 rfl ub6) (hp_sub2 rfl F6))
    refine zb0_N (cc _) hM (by omega) va6 ac (k : Int) a0 a1 (by omega) (by omega) p6_0 p6_3 p6_4 p6_5 (fun lz hz u1 u2 u3 m0 m3 => ?_)
    exact zb0_lp cc hM hD a0 a1 kA go Q (k + 1) hz lz (by omega) u1 (ly_fr_tr fr6 (hp_sub2 rfl u2)) (cp_mv d6_0 u2 rfl) (cp_mv d6_1 u2 rfl) (cp_mv d6_2 u2 rfl) (cp_mv d6_3 u2 rfl) (cp_mv d6_4 u2 rfl) (cp_mv d6_5 u2 rfl) (cp_mv d6_6 u2 rfl) m0 m3
set_option maxRecDepth 8000 in
theorem zb1_lp {cst : am_K} {strs : List Nat} {D : Nat} {M : am_M} {h0 : am_H} {Φ : am_Q → Prop} (cc : ∀ d, hp_C cst strs d) (hM : m_P[297]? = some M) (hD : 7 ≤ D) {ac : Int} (a0 : 0 ≤ ac) (a1 : ac ≤ 29) (kA : ly_hv cst h0 19989 0 = some ac) (go : ∀ (l : am_L) (h : am_H), ly_hy m_tt ly_TH h → ly_fr cst [25344, 25600, 25856, 26112] h0 h → cp cst h0 h 25344 (420 * ac) 12600 420 → cp cst h0 h 25600 (420 * ac) 12600 420 → cp cst h0 h 25856 (420 * ac) 12600 420 → cp cst h0 h 26112 (420 * ac) 12600 420 → hp_a l 0 94 → hp_i l 3 0 → hp_F cst strs Φ D M 372 l [] h) : ∀ (Q k : Nat) (h : am_H) (l : am_L), Q + k = 420 → ly_hy m_tt ly_TH h → ly_fr cst [25344, 25600, 25856, 26112] h0 h → cp cst h0 h 25344 (420 * ac) 12600 (k : Int) → cp cst h0 h 25600 (420 * ac) 12600 (k : Int) → cp cst h0 h 25856 (420 * ac) 12600 (k : Int) → cp cst h0 h 26112 (420 * ac) 12600 (k : Int) → hp_a l 0 94 → hp_i l 3 (k : Int) → hp_F cst strs Φ D M 282 l [] h
  | 0, k, h, l, hQ, hy, fr, c0, c1, c2, c3, l0, l3 => by
    have ek : k = 420 := by omega
    subst ek
    exact zb1_X (cc _) hM (by omega) hy l0 l3 (fun l2 h2 u1 u2 u3 m0 m3 => go l2 h2 u1 (ly_fr_tr fr (hp_sub2 rfl u2)) (cp_mv c0 u2 rfl) (cp_mv c1 u2 rfl) (cp_mv c2 u2 rfl) (cp_mv c3 u2 rfl) m0 m3)
  | Q + 1, k, h, l, hQ, hy, fr, c0, c1, c2, c3, l0, l3 => by
    obtain ⟨x0, kx0, xl0, xh0⟩ := hp_row (cst := cst) (i := (k : Int) + 12600) hy (show ly_ths ly_TH 99 = some (.inl (.int, 13020, -2147483648, 2147483647)) from rfl) (by omega) (by omega)
    have kx0 : ly_hv cst h 25344 ((k : Int) + 12600) = some x0 := kx0
    refine zb1_0 (cc _) hM (by omega) hy ac (k : Int) x0 a0 a1 (by omega) (by omega) (by omega) (by omega) (fr _ _ _ rfl kA) kx0 l0 l3 (fun la0 ha0 ya0 yb0 fa0 fb0 ua0 ub0 uc0 p0_0 p0_3 p0_4 p0_5 => ?_)
    refine hp_st0 (c := 99) hM (by decide +kernel) ua0 (show ly_ths ly_TH 99 = some (.inl (.int, 13020, -2147483648, 2147483647)) from rfl) (by omega) (by omega) (by omega) (by omega) (fun hb0 va0 vb0 vc0 => ?_)
    rw [fa0] at vc0
    have vc0 : hp_p0 cst 25344 yb0.toInt x0 ha0 hb0 := vc0
    have F0 : ly_fr cst [25344] ha0 hb0 := hp_p0_fr vc0 (by decide) rfl rfl
    have d0_0 : cp cst h0 hb0 25344 (420 * ac) 12600 ((k : Int) + 1) := cp_p0 (cp_mv c0 ub0 rfl) vc0 (by omega) (by decide) (ub0 _ _ _ rfl kx0) (by omega) (by omega)
    have d0_1 := cp_mv (cp_mv c1 ub0 rfl) F0 rfl
    have d0_2 := cp_mv (cp_mv c2 ub0 rfl) F0 rfl
    have d0_3 := cp_mv (cp_mv c3 ub0 rfl) F0 rfl
    have fr0 : ly_fr cst [25344, 25600, 25856, 26112] h0 hb0 := ly_fr_tr fr (ly_fr_tr (hp_sub2 rfl ub0) (hp_sub2 rfl F0))
    obtain ⟨x1, kx1, xl1, xh1⟩ := hp_row (cst := cst) (i := (k : Int) + 12600) va0 (show ly_ths ly_TH 100 = some (.inl (.int, 13020, 0, 601)) from rfl) (by omega) (by omega)
    have kx1 : ly_hv cst hb0 25600 ((k : Int) + 12600) = some x1 := kx1
    refine zb1_1 (cc _) hM (by omega) va0 ac (k : Int) x1 a0 a1 (by omega) (by omega) (by omega) (by omega) (fr0 _ _ _ rfl kA) kx1 p0_0 p0_3 p0_4 p0_5 (fun la1 ha1 ya1 yb1 fa1 fb1 ua1 ub1 uc1 p1_0 p1_3 p1_4 p1_5 => ?_)
    refine hp_st0 (c := 100) hM (by decide +kernel) ua1 (show ly_ths ly_TH 100 = some (.inl (.int, 13020, 0, 601)) from rfl) (by omega) (by omega) (by omega) (by omega) (fun hb1 va1 vb1 vc1 => ?_)
    rw [fa1] at vc1
    have vc1 : hp_p0 cst 25600 yb1.toInt x1 ha1 hb1 := vc1
    have F1 : ly_fr cst [25600] ha1 hb1 := hp_p0_fr vc1 (by decide) rfl rfl
    have d1_0 := cp_mv (cp_mv d0_0 ub1 rfl) F1 rfl
    have d1_1 : cp cst h0 hb1 25600 (420 * ac) 12600 ((k : Int) + 1) := cp_p0 (cp_mv d0_1 ub1 rfl) vc1 (by omega) (by decide) (ub1 _ _ _ rfl kx1) (by omega) (by omega)
    have d1_2 := cp_mv (cp_mv d0_2 ub1 rfl) F1 rfl
    have d1_3 := cp_mv (cp_mv d0_3 ub1 rfl) F1 rfl
    have fr1 : ly_fr cst [25344, 25600, 25856, 26112] h0 hb1 := ly_fr_tr fr0 (ly_fr_tr (hp_sub2 rfl ub1) (hp_sub2 rfl F1))
    obtain ⟨x2, kx2, xl2, xh2⟩ := hp_row (cst := cst) (i := (k : Int) + 12600) va1 (show ly_ths ly_TH 101 = some (.inl (.int, 13020, 0, 4)) from rfl) (by omega) (by omega)
    have kx2 : ly_hv cst hb1 25856 ((k : Int) + 12600) = some x2 := kx2
    refine zb1_2 (cc _) hM (by omega) va1 ac (k : Int) x2 a0 a1 (by omega) (by omega) (by omega) (by omega) (fr1 _ _ _ rfl kA) kx2 p1_0 p1_3 p1_4 p1_5 (fun la2 ha2 ya2 yb2 fa2 fb2 ua2 ub2 uc2 p2_0 p2_3 p2_4 p2_5 => ?_)
    refine hp_st0 (c := 101) hM (by decide +kernel) ua2 (show ly_ths ly_TH 101 = some (.inl (.int, 13020, 0, 4)) from rfl) (by omega) (by omega) (by omega) (by omega) (fun hb2 va2 vb2 vc2 => ?_)
    rw [fa2] at vc2
    have vc2 : hp_p0 cst 25856 yb2.toInt x2 ha2 hb2 := vc2
    have F2 : ly_fr cst [25856] ha2 hb2 := hp_p0_fr vc2 (by decide) rfl rfl
    have d2_0 := cp_mv (cp_mv d1_0 ub2 rfl) F2 rfl
    have d2_1 := cp_mv (cp_mv d1_1 ub2 rfl) F2 rfl
    have d2_2 : cp cst h0 hb2 25856 (420 * ac) 12600 ((k : Int) + 1) := cp_p0 (cp_mv d1_2 ub2 rfl) vc2 (by omega) (by decide) (ub2 _ _ _ rfl kx2) (by omega) (by omega)
    have d2_3 := cp_mv (cp_mv d1_3 ub2 rfl) F2 rfl
    have fr2 : ly_fr cst [25344, 25600, 25856, 26112] h0 hb2 := ly_fr_tr fr1 (ly_fr_tr (hp_sub2 rfl ub2) (hp_sub2 rfl F2))
    obtain ⟨x3, kx3, xl3, xh3⟩ := hp_row (cst := cst) (i := (k : Int) + 12600) va2 (show ly_ths ly_TH 102 = some (.inl (.int, 13020, 0, 4)) from rfl) (by omega) (by omega)
    have kx3 : ly_hv cst hb2 26112 ((k : Int) + 12600) = some x3 := kx3
    refine zb1_3 (cc _) hM (by omega) va2 ac (k : Int) x3 a0 a1 (by omega) (by omega) (by omega) (by omega) (fr2 _ _ _ rfl kA) kx3 p2_0 p2_3 p2_4 p2_5 (fun la3 ha3 ya3 yb3 fa3 fb3 ua3 ub3 uc3 p3_0 p3_3 p3_4 p3_5 => ?_)
    refine hp_st0 (c := 102) hM (by decide +kernel) ua3 (show ly_ths ly_TH 102 = some (.inl (.int, 13020, 0, 4)) from rfl) (by omega) (by omega) (by omega) (by omega) (fun hb3 va3 vb3 vc3 => ?_)
    rw [fa3] at vc3
    have vc3 : hp_p0 cst 26112 yb3.toInt x3 ha3 hb3 := vc3
    have F3 : ly_fr cst [26112] ha3 hb3 := hp_p0_fr vc3 (by decide) rfl rfl
    have d3_0 := cp_mv (cp_mv d2_0 ub3 rfl) F3 rfl
    have d3_1 := cp_mv (cp_mv d2_1 ub3 rfl) F3 rfl
    have d3_2 := cp_mv (cp_mv d2_2 ub3 rfl) F3 rfl
    have d3_3 : cp cst h0 hb3 26112 (420 * ac) 12600 ((k : Int) + 1) := cp_p0 (cp_mv d2_3 ub3 rfl) vc3 (by omega) (by decide) (ub3 _ _ _ rfl kx3) (by omega) (by omega)
    have fr3 : ly_fr cst [25344, 25600, 25856, 26112] h0 hb3 := ly_fr_tr fr2 (ly_fr_tr (hp_sub2 rfl ub3) (hp_sub2 rfl F3))
    refine zb1_N (cc _) hM (by omega) va3 ac (k : Int) a0 a1 (by omega) (by omega) p3_0 p3_3 p3_4 p3_5 (fun lz hz u1 u2 u3 m0 m3 => ?_)
    exact zb1_lp cc hM hD a0 a1 kA go Q (k + 1) hz lz (by omega) u1 (ly_fr_tr fr3 (hp_sub2 rfl u2)) (cp_mv d3_0 u2 rfl) (cp_mv d3_1 u2 rfl) (cp_mv d3_2 u2 rfl) (cp_mv d3_3 u2 rfl) m0 m3
set_option maxRecDepth 8000 in
theorem zb2_lp {cst : am_K} {strs : List Nat} {D : Nat} {M : am_M} {h0 : am_H} {Φ : am_Q → Prop} (cc : ∀ d, hp_C cst strs d) (hM : m_P[297]? = some M) (hD : 7 ≤ D) {ac : Int} (a0 : 0 ≤ ac) (a1 : ac ≤ 29) (kA : ly_hv cst h0 19989 0 = some ac) (go : ∀ (l : am_L) (h : am_H), ly_hy m_tt ly_TH h → ly_fr cst [26368, 26624] h0 h → cp cst h0 h 26368 (620 * ac) 18600 620 → cp cst h0 h 26624 (620 * ac) 18600 620 → hp_a l 0 94 → hp_i l 3 0 → hp_F cst strs Φ D M 437 l [] h) : ∀ (Q k : Nat) (h : am_H) (l : am_L), Q + k = 620 → ly_hy m_tt ly_TH h → ly_fr cst [26368, 26624] h0 h → cp cst h0 h 26368 (620 * ac) 18600 (k : Int) → cp cst h0 h 26624 (620 * ac) 18600 (k : Int) → hp_a l 0 94 → hp_i l 3 (k : Int) → hp_F cst strs Φ D M 372 l [] h
  | 0, k, h, l, hQ, hy, fr, c0, c1, l0, l3 => by
    have ek : k = 620 := by omega
    subst ek
    exact zb2_X (cc _) hM (by omega) hy l0 l3 (fun l2 h2 u1 u2 u3 m0 m3 => go l2 h2 u1 (ly_fr_tr fr (hp_sub2 rfl u2)) (cp_mv c0 u2 rfl) (cp_mv c1 u2 rfl) m0 m3)
  | Q + 1, k, h, l, hQ, hy, fr, c0, c1, l0, l3 => by
    obtain ⟨x0, kx0, xl0, xh0⟩ := hp_rowj (cst := cst) (i := (k : Int) + 18600) hy (show ly_ths ly_TH 103 = some (.inl (.long, 19220, 0, 0)) from rfl) (by omega) (by omega)
    have kx0 : ly_hv cst h 26368 ((k : Int) + 18600) = some x0 := kx0
    have xl0 : -9223372036854775808 ≤ x0 := xl0
    have xh0 : x0 ≤ 9223372036854775807 := xh0
    refine zb2_0 (cc _) hM (by omega) hy ac (k : Int) x0 a0 a1 (by omega) (by omega) (by omega) (by omega) (fr _ _ _ rfl kA) kx0 l0 l3 (fun la0 ha0 ya0 yb0 fa0 fb0 ua0 ub0 uc0 p0_0 p0_3 => ?_)
    refine hp_stj (c := 103) hM (by decide +kernel) ua0 (show ly_ths ly_TH 103 = some (.inl (.long, 19220, 0, 0)) from rfl) rfl (by omega) (by omega) (fun hb0 va0 vb0 vc0 => ?_)
    rw [fa0] at vc0
    have vc0 : hp_put cst 26368 yb0.toInt x0 ha0 hb0 := vc0
    have F0 : ly_fr cst [26368] ha0 hb0 := hp_put_fr (by rfl) vc0
    have d0_0 : cp cst h0 hb0 26368 (620 * ac) 18600 ((k : Int) + 1) := cp_pt (cp_mv c0 ub0 rfl) vc0 (by omega) (ub0 _ _ _ rfl kx0) (by omega) (by omega)
    have d0_1 := cp_mv (cp_mv c1 ub0 rfl) F0 rfl
    have fr0 : ly_fr cst [26368, 26624] h0 hb0 := ly_fr_tr fr (ly_fr_tr (hp_sub2 rfl ub0) (hp_sub2 rfl F0))
    obtain ⟨x1, kx1, xl1, xh1⟩ := hp_row (cst := cst) (i := (k : Int) + 18600) va0 (show ly_ths ly_TH 104 = some (.inl (.int, 19220, -2147483648, 2147483647)) from rfl) (by omega) (by omega)
    have kx1 : ly_hv cst hb0 26624 ((k : Int) + 18600) = some x1 := kx1
    refine zb2_1 (cc _) hM (by omega) va0 ac (k : Int) x1 a0 a1 (by omega) (by omega) (by omega) (by omega) (fr0 _ _ _ rfl kA) kx1 p0_0 p0_3 (fun la1 ha1 ya1 yb1 fa1 fb1 ua1 ub1 uc1 p1_0 p1_3 => ?_)
    refine hp_st0 (c := 104) hM (by decide +kernel) ua1 (show ly_ths ly_TH 104 = some (.inl (.int, 19220, -2147483648, 2147483647)) from rfl) (by omega) (by omega) (by omega) (by omega) (fun hb1 va1 vb1 vc1 => ?_)
    rw [fa1] at vc1
    have vc1 : hp_p0 cst 26624 yb1.toInt x1 ha1 hb1 := vc1
    have F1 : ly_fr cst [26624] ha1 hb1 := hp_p0_fr vc1 (by decide) rfl rfl
    have d1_0 := cp_mv (cp_mv d0_0 ub1 rfl) F1 rfl
    have d1_1 : cp cst h0 hb1 26624 (620 * ac) 18600 ((k : Int) + 1) := cp_p0 (cp_mv d0_1 ub1 rfl) vc1 (by omega) (by decide) (ub1 _ _ _ rfl kx1) (by omega) (by omega)
    have fr1 : ly_fr cst [26368, 26624] h0 hb1 := ly_fr_tr fr0 (ly_fr_tr (hp_sub2 rfl ub1) (hp_sub2 rfl F1))
    refine zb2_N (cc _) hM (by omega) va1 ac (k : Int) a0 a1 (by omega) (by omega) p1_0 p1_3 (fun lz hz u1 u2 u3 m0 m3 => ?_)
    exact zb2_lp cc hM hD a0 a1 kA go Q (k + 1) hz lz (by omega) u1 (ly_fr_tr fr1 (hp_sub2 rfl u2)) (cp_mv d1_0 u2 rfl) (cp_mv d1_1 u2 rfl) m0 m3
set_option maxRecDepth 8000 in
theorem zb3_lp {cst : am_K} {strs : List Nat} {D : Nat} {M : am_M} {h0 : am_H} {Φ : am_Q → Prop} (cc : ∀ d, hp_C cst strs d) (hM : m_P[297]? = some M) (hD : 7 ≤ D) {ac : Int} (a0 : 0 ≤ ac) (a1 : ac ≤ 29) (kA : ly_hv cst h0 19989 0 = some ac) (go : ∀ (l : am_L) (h : am_H), ly_hy m_tt ly_TH h → ly_fr cst [26880, 60020, 60050, 60060, 60061, 60071] h0 h → cp cst h0 h 26880 (820 * ac) 24600 820 → hp_a l 0 94 → hp_i l 3 0 → hp_F cst strs Φ D M 477 l [] h) : ∀ (Q k : Nat) (h : am_H) (l : am_L), Q + k = 820 → ly_hy m_tt ly_TH h → ly_fr cst [26880, 60020, 60050, 60060, 60061, 60071] h0 h → cp cst h0 h 26880 (820 * ac) 24600 (k : Int) → hp_a l 0 94 → hp_i l 3 (k : Int) → hp_F cst strs Φ D M 437 l [] h
  | 0, k, h, l, hQ, hy, fr, c0, l0, l3 => by
    have ek : k = 820 := by omega
    subst ek
    exact zb3_X (cc _) hM (by omega) hy l0 l3 (fun l2 h2 u1 u2 u3 m0 m3 => go l2 h2 u1 (ly_fr_tr fr (hp_sub2 rfl u2)) (cp_mv c0 u2 rfl) m0 m3)
  | Q + 1, k, h, l, hQ, hy, fr, c0, l0, l3 => by
    obtain ⟨x0, kx0, xl0, xh0⟩ := hp_row (cst := cst) (i := (k : Int) + 24600) hy (show ly_ths ly_TH 105 = some (.inl (.int, 25420, -4, 19)) from rfl) (by omega) (by omega)
    have kx0 : ly_hv cst h 26880 ((k : Int) + 24600) = some x0 := kx0
    refine zb3_0 (cc _) hM (by omega) hy ac (k : Int) x0 a0 a1 (by omega) (by omega) (by omega) (by omega) (fr _ _ _ rfl kA) kx0 l0 l3 (fun la0 ha0 ya0 yb0 fa0 fb0 ua0 ub0 uc0 p0_0 p0_3 => ?_)
    refine hp_st0 (c := 105) hM (by decide +kernel) ua0 (show ly_ths ly_TH 105 = some (.inl (.int, 25420, -4, 19)) from rfl) (by omega) (by omega) (by omega) (by omega) (fun hb0 va0 vb0 vc0 => ?_)
    rw [fa0] at vc0
    have vc0 : hp_p0 cst 26880 yb0.toInt x0 ha0 hb0 := vc0
    have F0 : ly_fr cst [26880, 60020, 60050, 60060, 60061, 60071] ha0 hb0 := hp_p0_fr vc0 (by decide) rfl rfl
    have d0_0 : cp cst h0 hb0 26880 (820 * ac) 24600 ((k : Int) + 1) := cp_p0 (cp_mv c0 ub0 rfl) vc0 (by omega) (by decide) (ub0 _ _ _ rfl kx0) (by omega) (by omega)
    have fr0 : ly_fr cst [26880, 60020, 60050, 60060, 60061, 60071] h0 hb0 := ly_fr_tr fr (ly_fr_tr (hp_sub2 rfl ub0) (hp_sub2 rfl F0))
    refine zb3_N (cc _) hM (by omega) va0 ac (k : Int) a0 a1 (by omega) (by omega) p0_0 p0_3 (fun lz hz u1 u2 u3 m0 m3 => ?_)
    exact zb3_lp cc hM hD a0 a1 kA go Q (k + 1) hz lz (by omega) u1 (ly_fr_tr fr0 (hp_sub2 rfl u2)) (cp_mv d0_0 u2 rfl) m0 m3
set_option maxRecDepth 8000 in
theorem zb4_lp {cst : am_K} {strs : List Nat} {D : Nat} {M : am_M} {h0 : am_H} {Φ : am_Q → Prop} (cc : ∀ d, hp_C cst strs d) (hM : m_P[297]? = some M) (hD : 7 ≤ D) {ac : Int} (a0 : 0 ≤ ac) (a1 : ac ≤ 29) (kA : ly_hv cst h0 19989 0 = some ac) (go : ∀ (l : am_L) (h : am_H), ly_hy m_tt ly_TH h → ly_fr cst [27136] h0 h → cp cst h0 h 27136 (330 * ac) 9900 330 → hp_a l 0 94 → hp_F cst strs Φ D M 515 l [] h) : ∀ (Q k : Nat) (h : am_H) (l : am_L), Q + k = 330 → ly_hy m_tt ly_TH h → ly_fr cst [27136] h0 h → cp cst h0 h 27136 (330 * ac) 9900 (k : Int) → hp_a l 0 94 → hp_i l 3 (k : Int) → hp_F cst strs Φ D M 477 l [] h
  | 0, k, h, l, hQ, hy, fr, c0, l0, l3 => by
    have ek : k = 330 := by omega
    subst ek
    exact zb4_X (cc _) hM (by omega) hy l0 l3 (fun l2 h2 u1 u2 u3 m0 => go l2 h2 u1 (ly_fr_tr fr (hp_sub2 rfl u2)) (cp_mv c0 u2 rfl) m0)
  | Q + 1, k, h, l, hQ, hy, fr, c0, l0, l3 => by
    obtain ⟨x0, kx0, xl0, xh0⟩ := hp_rowj (cst := cst) (i := (k : Int) + 9900) hy (show ly_ths ly_TH 106 = some (.inl (.long, 10230, 0, 0)) from rfl) (by omega) (by omega)
    have kx0 : ly_hv cst h 27136 ((k : Int) + 9900) = some x0 := kx0
    have xl0 : -9223372036854775808 ≤ x0 := xl0
    have xh0 : x0 ≤ 9223372036854775807 := xh0
    refine zb4_0 (cc _) hM (by omega) hy ac (k : Int) x0 a0 a1 (by omega) (by omega) (by omega) (by omega) (fr _ _ _ rfl kA) kx0 l0 l3 (fun la0 ha0 ya0 yb0 fa0 fb0 ua0 ub0 uc0 p0_0 p0_3 => ?_)
    refine hp_stj (c := 106) hM (by decide +kernel) ua0 (show ly_ths ly_TH 106 = some (.inl (.long, 10230, 0, 0)) from rfl) rfl (by omega) (by omega) (fun hb0 va0 vb0 vc0 => ?_)
    rw [fa0] at vc0
    have vc0 : hp_put cst 27136 yb0.toInt x0 ha0 hb0 := vc0
    have F0 : ly_fr cst [27136] ha0 hb0 := hp_put_fr (by rfl) vc0
    have d0_0 : cp cst h0 hb0 27136 (330 * ac) 9900 ((k : Int) + 1) := cp_pt (cp_mv c0 ub0 rfl) vc0 (by omega) (ub0 _ _ _ rfl kx0) (by omega) (by omega)
    have fr0 : ly_fr cst [27136] h0 hb0 := ly_fr_tr fr (ly_fr_tr (hp_sub2 rfl ub0) (hp_sub2 rfl F0))
    refine zb4_N (cc _) hM (by omega) va0 ac (k : Int) a0 a1 (by omega) (by omega) p0_0 p0_3 (fun lz hz u1 u2 u3 m0 m3 => ?_)
    exact zb4_lp cc hM hD a0 a1 kA go Q (k + 1) hz lz (by omega) u1 (ly_fr_tr fr0 (hp_sub2 rfl u2)) (cp_mv d0_0 u2 rfl) m0 m3
/-- an act of the reference: first day, shires, clauses, where they begin, tests, steps, words -/
abbrev rX : Type := Int × Int × List cl × List qt_Z × List qt_T × List Int × List Int
def ra_c (cst : am_K) (h : am_H) (i : Nat) (C : List cl) (Z : List qt_Z) : Prop := fn_N cst h 23552 (40 * (i : Int)) (C.map fun x => x.1) ∧ fn_N cst h 23808 (40 * (i : Int)) (C.map fun x => x.2.1) ∧ fn_N cst h 24064 (40 * (i : Int)) (C.map rz_n) ∧ fn_N cst h 24576 (40 * (i : Int)) (C.map rz_m) ∧ fn_N cst h 24320 (40 * (i : Int)) (Z.map fun x => x.1) ∧ fn_N cst h 24832 (40 * (i : Int)) (Z.map fun x => x.2.1) ∧ fn_N cst h 25088 (40 * (i : Int)) (Z.map fun x => x.2.2)
def ra_t (cst : am_K) (h : am_H) (i : Nat) (T : List qt_T) : Prop := fn_N cst h 25344 (420 * (i : Int)) (T.map fun x => x.1) ∧ fn_N cst h 25600 (420 * (i : Int)) (qt_s 0 T) ∧ fn_N cst h 25856 (420 * (i : Int)) (T.map fun x => (x.2.1.length : Int)) ∧ fn_N cst h 26112 (420 * (i : Int)) (T.map fun x => (x.2.2.length : Int)) ∧ fn_N cst h 26368 (620 * (i : Int)) ((qt_g T).map tw) ∧ fn_N cst h 26624 (620 * (i : Int)) ((qt_g T).map tn)
def ra_l (x : rX) : Prop := x.2.2.2.1.length = x.2.2.1.length ∧ x.2.2.1.length ≤ 40 ∧ x.2.2.2.2.1.length ≤ 420 ∧ (qt_g x.2.2.2.2.1).length ≤ 620 ∧ x.2.2.2.2.2.1.length ≤ 820 ∧ x.2.2.2.2.2.2.length ≤ 330 ∧ rz_R x.2.2.1 x.2.2.2.1 x.2.2.2.2.1 x.2.2.2.2.2.1 x.2.2.2.2.2.2
def ra_1 (cst : am_K) (h : am_H) (i : Nat) (x : rX) : Prop := (ly_hv cst h 22784 (i : Int) = some x.1 ∧ ly_hv cst h 23040 (i : Int) = some x.2.1 ∧ ly_hv cst h 23296 (i : Int) = some (x.2.2.1.length : Int)) ∧ ra_c cst h i x.2.2.1 x.2.2.2.1 ∧ ra_t cst h i x.2.2.2.2.1 ∧ fn_N cst h 26880 (820 * (i : Int)) x.2.2.2.2.2.1 ∧ fn_N cst h 27136 (330 * (i : Int)) x.2.2.2.2.2.2 ∧ ra_l x
/-- all that is told of the acts below m stands -/
def gk_L : List (Nat × Int) := [(23552, 40), (23808, 40), (24064, 40), (24320, 40), (24576, 40), (24832, 40), (25088, 40), (25344, 420), (25600, 420), (25856, 420), (26112, 420), (26368, 620), (26624, 620), (26880, 820), (27136, 330)]
def gk (cst : am_K) (m : Nat) (h h' : am_H) : Prop := (∀ r ∈ [22784, 23040, 23296], ∀ (i : Int) (u : Int), i < (m : Int) → ly_hv cst h r i = some u → ly_hv cst h' r i = some u) ∧ ∀ p ∈ gk_L, ∀ j u, j < p.2 * (m : Int) → ly_hv cst h p.1 j = some u → ly_hv cst h' p.1 j = some u
theorem gk_tr {cst : am_K} {m : Nat} {a b c : am_H} (x : gk cst m a b) (y : gk cst m b c) : gk cst m a c := ⟨fun r hr i u hi e => y.1 r hr i u hi (x.1 r hr i u hi e), fun p hp j u hj e => y.2 p hp j u hj (x.2 p hp j u hj e)⟩
theorem gk_fr {cst : am_K} {m : Nat} {h h' : am_H} {ms : List Nat} (fr : ly_fr cst ms h h') (q1 : [22784, 23040, 23296].all (fun r => !ly_has r ms) = true) (q2 : gk_L.all (fun p => !ly_has p.1 ms) = true) : gk cst m h h' := ⟨fun r hr i u _ e => fr _ _ _ (by have := List.all_eq_true.mp q1 r hr; simpa using this) e, fun p hp j u _ e => fr _ _ _ (by have := List.all_eq_true.mp q2 p hp; simpa using this) e⟩
theorem fn_gk {cst : am_K} {m : Nat} {h h' : am_H} {p : Nat × Int} {o : Int} {ns : List Int} (g : gk cst m h h') (hp : p ∈ gk_L) (A : fn_N cst h p.1 o ns) (hb : o + (ns.length : Int) ≤ p.2 * (m : Int)) : fn_N cst h' p.1 o ns := fun k hk => g.2 p hp _ _ (by
  have : o + (k : Int) < o + (ns.length : Int) := by omega
  exact Int.lt_of_lt_of_le this hb) (A k hk)
theorem gk_gl {cst : am_K} {h h' : am_H} {ms : List Nat} {m : Nat} {gb : Bool} (g : gl gb cst h h') (fr : ly_fr cst ms h h') (m30 : m ≤ 30) (q1 : ly_has 22784 ms = false) (q2 : ly_has 23040 ms = false) : gk cst m h h' := by
  refine ⟨fun r hr i u hi e => ?_, fun p hp j u hj e => ?_⟩
  · simp only [List.mem_cons, List.mem_nil_iff, or_false] at hr
    rcases hr with rfl | rfl | rfl
    · exact fr _ _ _ q1 e
    · exact fr _ _ _ q2 e
    · exact g.1 (23296, 30) (by decide) i u (by show i < 30; omega) e
  · simp only [gk_L, List.mem_cons, List.mem_nil_iff, or_false] at hp
    rcases hp with rfl | rfl | rfl | rfl | rfl | rfl | rfl | rfl | rfl | rfl | rfl | rfl | rfl | rfl | rfl
    · exact g.1 (23552, 1200) (by decide) j u (by have hj : j < 40 * (m : Int) := hj; show j < 1200; omega) e
    · exact g.1 (23808, 1200) (by decide) j u (by have hj : j < 40 * (m : Int) := hj; show j < 1200; omega) e
    · exact g.1 (24064, 1200) (by decide) j u (by have hj : j < 40 * (m : Int) := hj; show j < 1200; omega) e
    · exact g.1 (24320, 1200) (by decide) j u (by have hj : j < 40 * (m : Int) := hj; show j < 1200; omega) e
    · exact g.1 (24576, 1200) (by decide) j u (by have hj : j < 40 * (m : Int) := hj; show j < 1200; omega) e
    · exact g.1 (24832, 1200) (by decide) j u (by have hj : j < 40 * (m : Int) := hj; show j < 1200; omega) e
    · exact g.1 (25088, 1200) (by decide) j u (by have hj : j < 40 * (m : Int) := hj; show j < 1200; omega) e
    · exact g.1 (25344, 12600) (by decide) j u (by have hj : j < 420 * (m : Int) := hj; show j < 12600; omega) e
    · exact g.1 (25600, 12600) (by decide) j u (by have hj : j < 420 * (m : Int) := hj; show j < 12600; omega) e
    · exact g.1 (25856, 12600) (by decide) j u (by have hj : j < 420 * (m : Int) := hj; show j < 12600; omega) e
    · exact g.1 (26112, 12600) (by decide) j u (by have hj : j < 420 * (m : Int) := hj; show j < 12600; omega) e
    · exact g.1 (26368, 18600) (by decide) j u (by have hj : j < 620 * (m : Int) := hj; show j < 18600; omega) e
    · exact g.1 (26624, 18600) (by decide) j u (by have hj : j < 620 * (m : Int) := hj; show j < 18600; omega) e
    · exact g.1 (26880, 24600) (by decide) j u (by have hj : j < 820 * (m : Int) := hj; show j < 24600; omega) e
    · exact g.1 (27136, 9900) (by decide) j u (by have hj : j < 330 * (m : Int) := hj; show j < 9900; omega) e
theorem ra_k {cst : am_K} {h h' : am_H} {m i : Nat} {x : rX} (A : ra_1 cst h i x) (g : gk cst m h h') (him : i < m) : ra_1 cst h' i x := by
  obtain ⟨⟨a1, a2, a3⟩, ⟨b1, b2, b3, b4, b5, b6, b7⟩, ⟨c1, c2, c3, c4, c5, c6⟩, d1, d2, l⟩ := A
  have l' := l
  obtain ⟨zl, lc, lt, lg, ls, lw, -⟩ := l
  have hi : (i : Int) < (m : Int) := by omega
  refine ⟨⟨g.1 22784 (by decide) _ _ hi a1, g.1 23040 (by decide) _ _ hi a2, g.1 23296 (by decide) _ _ hi a3⟩, ⟨fn_gk (p := (23552, 40)) g (by decide) b1 (by show 40 * (i : Int) + ((x.2.2.1.map fun x => x.1).length : Int) ≤ 40 * (m : Int); rw [List.length_map]; omega), fn_gk (p := (23808, 40)) g (by decide) b2 (by show 40 * (i : Int) + ((x.2.2.1.map fun x => x.2.1).length : Int) ≤ 40 * (m : Int); rw [List.length_map]; omega), fn_gk (p := (24064, 40)) g (by decide) b3 (by show 40 * (i : Int) + ((x.2.2.1.map rz_n).length : Int) ≤ 40 * (m : Int); rw [List.length_map]; omega), fn_gk (p := (24576, 40)) g (by decide) b4 (by show 40 * (i : Int) + ((x.2.2.1.map rz_m).length : Int) ≤ 40 * (m : Int); rw [List.length_map]; omega), fn_gk (p := (24320, 40)) g (by decide) b5 (by show 40 * (i : Int) + ((x.2.2.2.1.map fun x => x.1).length : Int) ≤ 40 * (m : Int); rw [List.length_map]; omega), fn_gk (p := (24832, 40)) g (by decide) b6 (by show 40 * (i : Int) + ((x.2.2.2.1.map fun x => x.2.1).length : Int) ≤ 40 * (m : Int); rw [List.length_map]; omega), fn_gk (p := (25088, 40)) g (by decide) b7 (by show 40 * (i : Int) + ((x.2.2.2.1.map fun x => x.2.2).length : Int) ≤ 40 * (m : Int); rw [List.length_map]; omega)⟩, ⟨fn_gk (p := (25344, 420)) g (by decide) c1 (by show 420 * (i : Int) + ((x.2.2.2.2.1.map fun x => x.1).length : Int) ≤ 420 * (m : Int); rw [List.length_map]; omega), fn_gk (p := (25600, 420)) g (by decide) c2 (by show 420 * (i : Int) + ((qt_s 0 x.2.2.2.2.1).length : Int) ≤ 420 * (m : Int); rw [qt_s_len]; omega), fn_gk (p := (25856, 420)) g (by decide) c3 (by show 420 * (i : Int) + ((x.2.2.2.2.1.map fun x => (x.2.1.length : Int)).length : Int) ≤ 420 * (m : Int); rw [List.length_map]; omega), fn_gk (p := (26112, 420)) g (by decide) c4 (by show 420 * (i : Int) + ((x.2.2.2.2.1.map fun x => (x.2.2.length : Int)).length : Int) ≤ 420 * (m : Int); rw [List.length_map]; omega), fn_gk (p := (26368, 620)) g (by decide) c5 (by show 620 * (i : Int) + (((qt_g x.2.2.2.2.1).map tw).length : Int) ≤ 620 * (m : Int); rw [List.length_map]; omega), fn_gk (p := (26624, 620)) g (by decide) c6 (by show 620 * (i : Int) + (((qt_g x.2.2.2.2.1).map tn).length : Int) ≤ 620 * (m : Int); rw [List.length_map]; omega)⟩, fn_gk (p := (26880, 820)) g (by decide) d1 (by show 820 * (i : Int) + (x.2.2.2.2.2.1.length : Int) ≤ 820 * (m : Int); omega), fn_gk (p := (27136, 330)) g (by decide) d2 (by show 330 * (i : Int) + (x.2.2.2.2.2.2.length : Int) ≤ 330 * (m : Int); omega), l'⟩
/-- the acts of the reference -/
def rA (cst : am_K) (h : am_H) (X : List rX) : Prop := ly_hv cst h 19989 0 = some (X.length : Int) ∧ ∀ i (hi : i < X.length), ra_1 cst h i (X[i])
theorem rA_k {cst : am_K} {h h' : am_H} {X : List rX} (A : rA cst h X) (g : gk cst X.length h h') (k : ly_hv cst h' 19989 0 = some (X.length : Int)) : rA cst h' X := ⟨k, fun i hi => ra_k (A.2 i hi) g hi⟩
/-- how act ends -/
def ra_P (cst : am_K) (h h' : am_H) (X : List rX) (pl : Int → Int) (t : Nat) (n : Int) (res : (Int × Nat) ⊕ List cl) (d s e w : Int) : Prop := (¬ ac_ok (X.length : Int) d s e → w = -2 ∧ rA cst h' X ∧ (∀ v, ly_hv cst h 19990 0 = some v → ly_hv cst h' 19990 0 = some v) ∧ ∀ v, ly_hv cst h 19991 0 = some v → ly_hv cst h' 19991 0 = some v) ∧ (ac_ok (X.length : Int) d s e → (∀ k b, res = .inl (k, b) → w = -1 ∧ rA cst h' X ∧ ly_hv cst h' 19990 0 = some k ∧ ly_hv cst h' 19991 0 = some (pa pl t n b)) ∧ ∀ C, res = .inr C → ly_hv cst h' 19990 0 = some 0 ∧ ly_hv cst h' 19991 0 = some (-1) ∧ (X.length = 30 → w = -3 ∧ rA cst h' X) ∧ (X.length ≠ 30 → w = (X.length : Int) ∧ ∃ Z T S W, rA cst h' (X ++ [(d, s, C, Z, T, S, W)])))
def ra_Φ (cst : am_K) (h : am_H) (X : List rX) (pl : Int → Int) (t : Nat) (n : Int) (res : (Int × Nat) ⊕ List cl) (d s e : Int) (r : am_Q) : Prop := ∃ w : Int32, r.1 = some (.int w) ∧ r.2.2.1 = 0 ∧ r.2.2.2 = 0 ∧ ly_hy m_tt ly_TH r.2.1 ∧ ly_fr cst [19969, 19970, 19971, 19972, 19973, 19974, 19975, 19976, 19989, 19990, 19991, 20010, 20011, 20012, 20013, 20014, 20015, 20016, 22784, 23040, 23296, 23552, 23808, 24064, 24320, 24576, 24832, 25088, 25344, 25600, 25856, 26112, 26368, 26624, 26880, 27136, 60020, 60030, 60031, 60032, 60033, 60034, 60035, 60036, 60037, 60038, 60039, 60040, 60050, 60060, 60061, 60070, 60071] h r.2.1 ∧ ly_hv cst r.2.1 19969 0 = some 0 ∧ ra_P cst h r.2.1 X pl t n res d s e w.toInt
/-- act behind its text -/
theorem za_f {cst : am_K} {strs : List Nat} {D : Nat} {M : am_M} {h0 h : am_H} {l : am_L} (cc : ∀ d, hp_C cst strs d) (hM : m_P[297]? = some M) (hD : 7 ≤ D) (hy : ly_hy m_tt ly_TH h) {f : Int → Int} {n : Int} {t : Nat} {kd pl vl : Int → Int} {en : Nat → Int} (kb : kB kd t) {X : List rX} (x30 : X.length ≤ 30) {d s e : Int} (ok : ac_ok (X.length : Int) d s e) {a : Nat} {C : List cl} {Z : List qt_Z} {T : List qt_T} {S W : List Int} (fr : ly_fr cst [19969, 19970, 19971, 19972, 19973, 19974, 19975, 19976, 19989, 19990, 19991, 20010, 20011, 20012, 20013, 20014, 20015, 20016, 22784, 23040, 23296, 23552, 23808, 24064, 24320, 24576, 24832, 25088, 25344, 25600, 25856, 26112, 26368, 26624, 26880, 27136, 60020, 60030, 60031, 60032, 60033, 60034, 60035, 60036, 60037, 60038, 60039, 60040, 60050, 60060, 60061, 60070, 60071] h0 h) (I : yJ cst h f n t kd pl vl en (X.length : Int) a C Z T S W) (hX : rA cst h X) (k69 : ly_hv cst h 19969 0 = some 0) (k90 : ly_hv cst h 19990 0 = some 0) (k91 : ly_hv cst h 19991 0 = some (-1)) (er : tx kd vl t (X.length : Int) (t + 1) 0 [] = .inr C) (q0 : fk kd t a = 0) (l0 : hp_a l 0 94) (l1 : hp_i l 1 d) (l2 : hp_i l 2 s) : hp_F cst strs (ra_Φ cst h0 X pl t n (tx kd vl t (X.length : Int) (t + 1) 0 []) d s e) D M 84 l [] h := by
  have c := cc D
  obtain ⟨R, ⟨cm, r1, r2, r3, r4, zl, r5, r6, r7⟩, ⟨x1, x2, x3, x4, x5, x6⟩, Y, WW, ⟨p1, p2, p3⟩, wl, c40, rel, ha, kA⟩ := I
  have n1 := R.1.2.2.1
  have ea := tkT_end R.1.1 a ha
  have ks := rs_so R.2.1
  rw [(rk_i8 kb a).mpr q0] at ks
  have okk := ok
  obtain ⟨d0, d9, s1', s6, -⟩ := ok
  by_cases z30 : X.length = 30
  · have kA' : ly_hv cst h 19989 0 = some 30 := by
      rw [kA, z30]
      rfl
    exact zaK c hM (by omega) hy d s d0 d9 s1' s6 ks kA' l0 l1 l2 (fun h2 w hw u1 u2 u3 => ⟨w, rfl, rfl, rfl, u1, ly_fr_tr fr (hp_sub2 rfl u2), u2 _ _ _ rfl k69, fun z => absurd okk z, fun _ => ⟨fun k b z => (by rw [er] at z; cases z), fun C' z => by
      rw [er] at z
      cases z
      exact ⟨u2 _ _ _ rfl k90, u2 _ _ _ rfl k91, fun _ => ⟨hw, rA_k hX (gk_fr u2 rfl rfl) (u2 _ _ _ rfl kA)⟩, fun z => absurd z30 z⟩⟩⟩)
  refine zaL c hM (by omega) hy d s (X.length : Int) d0 d9 s1' s6 (by omega) (by omega) ks kA l0 l1 l2 (fun l3 h3 y0 y1 f0 f1 u1 u2 u3 m0 m1 m2 => ?_)
  refine hp_st (c := 89) hM (by decide +kernel) u1 (show ly_ths ly_TH 89 = some (.inl (.int, 31, -2147483648, 2147483647)) from rfl) rfl (by omega) (by omega) (by omega) (by omega) (fun h4 t1 t2 t3 => ?_)
  rw [f0, f1] at t3
  have t3 : hp_put cst 22784 (X.length : Int) d h3 h4 := t3
  have F4 : ly_fr cst [22784] h h4 := ly_fr_tr (hp_sub2 rfl u2) (hp_put_fr (by rfl) t3)
  refine zaM c hM (by omega) t1 d s (X.length : Int) d0 d9 s1' s6 (by omega) (by omega) (F4 _ _ _ rfl kA) m0 m1 m2 (fun l5 h5 y2 y3 f2 f3 v1 v2 v3 o0 => ?_)
  refine hp_st (c := 90) hM (by decide +kernel) v1 (show ly_ths ly_TH 90 = some (.inl (.int, 31, -2147483648, 2147483647)) from rfl) rfl (by omega) (by omega) (by omega) (by omega) (fun h6 w1 w2 w3 => ?_)
  rw [f2, f3] at w3
  have w3 : hp_put cst 23040 (X.length : Int) s h5 h6 := w3
  have F46 : ly_fr cst [23040] h4 h6 := ly_fr_tr (hp_sub2 rfl v2) (hp_put_fr (by rfl) w3)
  have F6 : ly_fr cst [22784, 23040] h h6 := ly_fr_tr (hp_sub2 rfl F4) (hp_sub2 rfl F46)
  refine zaN c hM (by omega) w1 (X.length : Int) (C.length : Int) (by omega) (by omega) (by omega) (by omega) (F6 _ _ _ rfl kA) (F6 _ _ _ rfl cm) o0 (fun l7 h7 y4 y5 f4 f5 a1 a2 a3 i0 => ?_)
  refine hp_st0 (c := 91) hM (by decide +kernel) a1 (show ly_ths ly_TH 91 = some (.inl (.int, 31, 0, 40)) from rfl) (by omega) (by omega) (by omega) (by omega) (fun h8 b1 b2 b3 => ?_)
  rw [f4, f5] at b3
  have b3 : hp_p0 cst 23296 (X.length : Int) (C.length : Int) h7 h8 := b3
  have F8 : ly_fr cst [23296, 60020, 60030, 60031, 60032, 60033, 60034, 60035, 60036, 60037, 60038, 60039, 60040, 60060, 60061] h7 h8 := hp_p0_fr b3 (by decide) rfl rfl
  have F68 : ly_fr cst [23296, 60020, 60030, 60031, 60032, 60033, 60034, 60035, 60036, 60037, 60038, 60039, 60040, 60060, 60061] h6 h8 := ly_fr_tr (hp_sub2 rfl a2) F8
  have FA : ly_fr cst [22784, 23040, 23296, 60020, 60030, 60031, 60032, 60033, 60034, 60035, 60036, 60037, 60038, 60039, 60040, 60060, 60061] h h8 := ly_fr_tr (hp_sub2 rfl F6) (hp_sub2 rfl F68)
  have g8 : gk cst X.length h h8 := by
    refine ⟨fun r hr i u hi ee => ?_, fun p hp j u hj ee => FA _ _ _ (by have := List.all_eq_true.mp (show gk_L.all (fun p => !ly_has p.1 [22784, 23040, 23296, 60020, 60030, 60031, 60032, 60033, 60034, 60035, 60036, 60037, 60038, 60039, 60040, 60060, 60061]) = true from rfl) p hp; simpa using this) ee⟩
    simp only [List.mem_cons, List.mem_nil_iff, or_false] at hr
    rcases hr with rfl | rfl | rfl
    · refine F68 _ _ _ rfl (F46 _ _ _ rfl ?_)
      rw [t3.2 _ _ (Or.inr (by omega))]
      exact u2 _ _ _ rfl ee
    · refine F68 _ _ _ rfl ?_
      rw [w3.2 _ _ (Or.inr (by omega))]
      exact v2 _ _ _ rfl (F4 _ _ _ rfl ee)
    · rw [ly_hv0 (by decide), b3.2 _ _ (Or.inr (by omega)), ← ly_hv0 (by decide)]
      exact a2 _ _ _ rfl (F6 _ _ _ rfl ee)
  have n1' : ly_hv cst h8 22784 (X.length : Int) = some d := F68 _ _ _ rfl (F46 _ _ _ rfl t3.1)
  have n2' : ly_hv cst h8 23040 (X.length : Int) = some s := F68 _ _ _ rfl w3.1
  have n3' : ly_hv cst h8 23296 (X.length : Int) = some (C.length : Int) := by
    rw [ly_hv0 (by decide)]
    exact b3.1
  have kA8 := FA _ _ _ rfl kA
  refine zaO c hM (by omega) b1 i0 (fun l9 h9 e1 e2 e3 j0 j3 => ?_)
  have F89 : ly_fr cst [] h8 h9 := e2
  have FA9 : ly_fr cst [22784, 23040, 23296, 60020, 60030, 60031, 60032, 60033, 60034, 60035, 60036, 60037, 60038, 60039, 60040, 60060, 60061] h h9 := ly_fr_tr FA (hp_sub2 rfl e2)
  refine zb0_lp (h0 := h9) cc hM hD (ac := (X.length : Int)) (by omega) (by omega) (F89 _ _ _ rfl kA8) (fun lc0 hc0 uy0 uf0 k0_0 k0_1 k0_2 k0_3 k0_4 k0_5 k0_6 n0_0 n0_3 => ?_) 40 0 h9 l9 (by omega) e1 (ly_fr_rf h9) (cp_0 (ms := []) (ly_fr_rf h9) rfl) (cp_0 (ms := []) (ly_fr_rf h9) rfl) (cp_0 (ms := []) (ly_fr_rf h9) rfl) (cp_0 (ms := []) (ly_fr_rf h9) rfl) (cp_0 (ms := []) (ly_fr_rf h9) rfl) (cp_0 (ms := []) (ly_fr_rf h9) rfl) (cp_0 (ms := []) (ly_fr_rf h9) rfl) j0 j3
  refine zb1_lp (h0 := hc0) cc hM hD (ac := (X.length : Int)) (by omega) (by omega) (uf0 _ _ _ rfl (F89 _ _ _ rfl kA8)) (fun lc1 hc1 uy1 uf1 k1_0 k1_1 k1_2 k1_3 n1_0 n1_3 => ?_) 420 0 hc0 lc0 (by omega) uy0 (ly_fr_rf hc0) (cp_0 (ms := []) (ly_fr_rf hc0) rfl) (cp_0 (ms := []) (ly_fr_rf hc0) rfl) (cp_0 (ms := []) (ly_fr_rf hc0) rfl) (cp_0 (ms := []) (ly_fr_rf hc0) rfl) n0_0 n0_3
  refine zb2_lp (h0 := hc1) cc hM hD (ac := (X.length : Int)) (by omega) (by omega) (uf1 _ _ _ rfl (uf0 _ _ _ rfl (F89 _ _ _ rfl kA8))) (fun lc2 hc2 uy2 uf2 k2_0 k2_1 n2_0 n2_3 => ?_) 620 0 hc1 lc1 (by omega) uy1 (ly_fr_rf hc1) (cp_0 (ms := []) (ly_fr_rf hc1) rfl) (cp_0 (ms := []) (ly_fr_rf hc1) rfl) n1_0 n1_3
  refine zb3_lp (h0 := hc2) cc hM hD (ac := (X.length : Int)) (by omega) (by omega) (uf2 _ _ _ rfl (uf1 _ _ _ rfl (uf0 _ _ _ rfl (F89 _ _ _ rfl kA8)))) (fun lc3 hc3 uy3 uf3 k3_0 n3_0 n3_3 => ?_) 820 0 hc2 lc2 (by omega) uy2 (ly_fr_rf hc2) (cp_0 (ms := []) (ly_fr_rf hc2) rfl) n2_0 n2_3
  refine zb4_lp (h0 := hc3) cc hM hD (ac := (X.length : Int)) (by omega) (by omega) (uf3 _ _ _ rfl (uf2 _ _ _ rfl (uf1 _ _ _ rfl (uf0 _ _ _ rfl (F89 _ _ _ rfl kA8))))) (fun lc4 hc4 uy4 uf4 k4_0 n4_0 => ?_) 330 0 hc3 lc3 (by omega) uy3 (ly_fr_rf hc3) (cp_0 (ms := []) (ly_fr_rf hc3) rfl) n3_0 n3_3
  have FB : ly_fr cst [23552, 23808, 24064, 24320, 24576, 24832, 25088, 25344, 25600, 25856, 26112, 26368, 26624, 26880, 27136, 60020, 60030, 60031, 60032, 60033, 60034, 60035, 60036, 60037, 60038, 60039, 60040, 60050, 60060, 60061, 60070, 60071] h9 hc4 := ly_fr_tr (hp_sub2 rfl uf0) (ly_fr_tr (hp_sub2 rfl uf1) (ly_fr_tr (hp_sub2 rfl uf2) (ly_fr_tr (hp_sub2 rfl uf3) (hp_sub2 rfl uf4))))
  have g23552 : cp cst h9 hc4 23552 (40 * (X.length : Int)) 1200 40 := (cp_mv (cp_mv (cp_mv (cp_mv k0_0 uf1 rfl) uf2 rfl) uf3 rfl) uf4 rfl)
  have g23808 : cp cst h9 hc4 23808 (40 * (X.length : Int)) 1200 40 := (cp_mv (cp_mv (cp_mv (cp_mv k0_1 uf1 rfl) uf2 rfl) uf3 rfl) uf4 rfl)
  have g24064 : cp cst h9 hc4 24064 (40 * (X.length : Int)) 1200 40 := (cp_mv (cp_mv (cp_mv (cp_mv k0_2 uf1 rfl) uf2 rfl) uf3 rfl) uf4 rfl)
  have g24320 : cp cst h9 hc4 24320 (40 * (X.length : Int)) 1200 40 := (cp_mv (cp_mv (cp_mv (cp_mv k0_3 uf1 rfl) uf2 rfl) uf3 rfl) uf4 rfl)
  have g24576 : cp cst h9 hc4 24576 (40 * (X.length : Int)) 1200 40 := (cp_mv (cp_mv (cp_mv (cp_mv k0_4 uf1 rfl) uf2 rfl) uf3 rfl) uf4 rfl)
  have g24832 : cp cst h9 hc4 24832 (40 * (X.length : Int)) 1200 40 := (cp_mv (cp_mv (cp_mv (cp_mv k0_5 uf1 rfl) uf2 rfl) uf3 rfl) uf4 rfl)
  have g25088 : cp cst h9 hc4 25088 (40 * (X.length : Int)) 1200 40 := (cp_mv (cp_mv (cp_mv (cp_mv k0_6 uf1 rfl) uf2 rfl) uf3 rfl) uf4 rfl)
  have g25344 : cp cst h9 hc4 25344 (420 * (X.length : Int)) 12600 420 := (cp_rf uf0 rfl (cp_mv (cp_mv (cp_mv k1_0 uf2 rfl) uf3 rfl) uf4 rfl))
  have g25600 : cp cst h9 hc4 25600 (420 * (X.length : Int)) 12600 420 := (cp_rf uf0 rfl (cp_mv (cp_mv (cp_mv k1_1 uf2 rfl) uf3 rfl) uf4 rfl))
  have g25856 : cp cst h9 hc4 25856 (420 * (X.length : Int)) 12600 420 := (cp_rf uf0 rfl (cp_mv (cp_mv (cp_mv k1_2 uf2 rfl) uf3 rfl) uf4 rfl))
  have g26112 : cp cst h9 hc4 26112 (420 * (X.length : Int)) 12600 420 := (cp_rf uf0 rfl (cp_mv (cp_mv (cp_mv k1_3 uf2 rfl) uf3 rfl) uf4 rfl))
  have g26368 : cp cst h9 hc4 26368 (620 * (X.length : Int)) 18600 620 := (cp_rf uf0 rfl (cp_rf uf1 rfl (cp_mv (cp_mv k2_0 uf3 rfl) uf4 rfl)))
  have g26624 : cp cst h9 hc4 26624 (620 * (X.length : Int)) 18600 620 := (cp_rf uf0 rfl (cp_rf uf1 rfl (cp_mv (cp_mv k2_1 uf3 rfl) uf4 rfl)))
  have g26880 : cp cst h9 hc4 26880 (820 * (X.length : Int)) 24600 820 := (cp_rf uf0 rfl (cp_rf uf1 rfl (cp_rf uf2 rfl (cp_mv k3_0 uf4 rfl))))
  have g27136 : cp cst h9 hc4 27136 (330 * (X.length : Int)) 9900 330 := (cp_rf uf0 rfl (cp_rf uf1 rfl (cp_rf uf2 rfl (cp_rf uf3 rfl k4_0))))
  refine zaZ c hM (by omega) uy4 (X.length : Int) (by omega) (by omega) (uf4 _ _ _ rfl (uf3 _ _ _ rfl (uf2 _ _ _ rfl (uf1 _ _ _ rfl (uf0 _ _ _ rfl (F89 _ _ _ rfl kA8)))))) n4_0 (fun h10 w hw v1 v2 v3 kN => ?_)
  have FC : ly_fr cst [19989, 23552, 23808, 24064, 24320, 24576, 24832, 25088, 25344, 25600, 25856, 26112, 26368, 26624, 26880, 27136, 60020, 60030, 60031, 60032, 60033, 60034, 60035, 60036, 60037, 60038, 60039, 60040, 60050, 60060, 60061, 60070, 60071] h9 h10 := ly_fr_tr (hp_sub2 rfl FB) (hp_sub2 rfl v2)
  have FD : ly_fr cst [19969, 19970, 19971, 19972, 19973, 19974, 19975, 19976, 19989, 19990, 19991, 20010, 20011, 20012, 20013, 20014, 20015, 20016, 22784, 23040, 23296, 23552, 23808, 24064, 24320, 24576, 24832, 25088, 25344, 25600, 25856, 26112, 26368, 26624, 26880, 27136, 60020, 60030, 60031, 60032, 60033, 60034, 60035, 60036, 60037, 60038, 60039, 60040, 60050, 60060, 60061, 60070, 60071] h h10 := ly_fr_tr (hp_sub2 rfl FA9) (hp_sub2 rfl FC)
  have FD1 : ly_fr cst [19989, 22784, 23040, 23296, 23552, 23808, 24064, 24320, 24576, 24832, 25088, 25344, 25600, 25856, 26112, 26368, 26624, 26880, 27136, 60020, 60030, 60031, 60032, 60033, 60034, 60035, 60036, 60037, 60038, 60039, 60040, 60050, 60060, 60061, 60070, 60071] h h10 := ly_fr_tr (hp_sub2 rfl FA9) (hp_sub2 rfl FC)
  have gA : gk cst X.length h9 h10 := by
    refine gk_tr (b := hc4) ⟨fun r hr i u _ ee => FB _ _ _ (by have := List.all_eq_true.mp (show [22784, 23040, 23296].all (fun r => !ly_has r [23552, 23808, 24064, 24320, 24576, 24832, 25088, 25344, 25600, 25856, 26112, 26368, 26624, 26880, 27136, 60020, 60030, 60031, 60032, 60033, 60034, 60035, 60036, 60037, 60038, 60039, 60040, 60050, 60060, 60061, 60070, 60071]) = true from rfl) r hr; simpa using this) ee, fun p hp j u hj ee => ?_⟩ (gk_fr v2 rfl rfl)
    simp only [gk_L, List.mem_cons, List.mem_nil_iff, or_false] at hp
    rcases hp with rfl | rfl | rfl | rfl | rfl | rfl | rfl | rfl | rfl | rfl | rfl | rfl | rfl | rfl | rfl
    · have hj : j < 40 * (X.length : Int) := hj
      exact g23552.2 j u (by omega) ee
    · have hj : j < 40 * (X.length : Int) := hj
      exact g23808.2 j u (by omega) ee
    · have hj : j < 40 * (X.length : Int) := hj
      exact g24064.2 j u (by omega) ee
    · have hj : j < 40 * (X.length : Int) := hj
      exact g24320.2 j u (by omega) ee
    · have hj : j < 40 * (X.length : Int) := hj
      exact g24576.2 j u (by omega) ee
    · have hj : j < 40 * (X.length : Int) := hj
      exact g24832.2 j u (by omega) ee
    · have hj : j < 40 * (X.length : Int) := hj
      exact g25088.2 j u (by omega) ee
    · have hj : j < 420 * (X.length : Int) := hj
      exact g25344.2 j u (by omega) ee
    · have hj : j < 420 * (X.length : Int) := hj
      exact g25600.2 j u (by omega) ee
    · have hj : j < 420 * (X.length : Int) := hj
      exact g25856.2 j u (by omega) ee
    · have hj : j < 420 * (X.length : Int) := hj
      exact g26112.2 j u (by omega) ee
    · have hj : j < 620 * (X.length : Int) := hj
      exact g26368.2 j u (by omega) ee
    · have hj : j < 620 * (X.length : Int) := hj
      exact g26624.2 j u (by omega) ee
    · have hj : j < 820 * (X.length : Int) := hj
      exact g26880.2 j u (by omega) ee
    · have hj : j < 330 * (X.length : Int) := hj
      exact g27136.2 j u (by omega) ee
  have len1 : (X ++ [(d, s, C, Z, T, S, W)]).length = X.length + 1 := by rw [List.length_append, List.length_singleton]
  have lS : (S.length : Int) ≤ 820 := by omega
  have lW : W.length ≤ 330 := by omega
  have lT : T.length ≤ 420 := by omega
  have lG : (qt_g T).length ≤ 620 := by omega
  have lS' : S.length ≤ 820 := by omega
  refine ⟨w, rfl, rfl, rfl, v1, ly_fr_tr fr FD, FD1 _ _ _ rfl k69, fun z => absurd okk z, fun _ => ⟨fun k b z => (by rw [er] at z; cases z), fun C' z => ?_⟩⟩
  rw [er] at z
  cases z
  refine ⟨FD1 _ _ _ rfl k90, FD1 _ _ _ rfl k91, fun z => absurd z z30, fun _ => ⟨hw, Z, T, S, W, by rw [len1]; exact kN, fun i hi => ?_⟩⟩
  rw [len1] at hi
  by_cases zi : i < X.length
  · rw [List.getElem_append_left zi]
    exact ra_k (hX.2 i zi) (gk_tr g8 (gk_tr (gk_fr e2 rfl rfl) gA)) zi
  · have ei : i = X.length := by omega
    subst ei
    rw [List.getElem_append_right (Nat.le_refl _)]
    simp only [Nat.sub_self, List.getElem_singleton]
    have nw0 : fn_N cst h10 23552 (40 * (X.length : Int)) (C.map fun x => x.1) := fn_mv (cp_fn g23552 (fn_mv r1 FA9 rfl) (by rw [List.length_map]; omega)) v2 rfl
    have nw1 : fn_N cst h10 23808 (40 * (X.length : Int)) (C.map fun x => x.2.1) := fn_mv (cp_fn g23808 (fn_mv r2 FA9 rfl) (by rw [List.length_map]; omega)) v2 rfl
    have nw2 : fn_N cst h10 24064 (40 * (X.length : Int)) (C.map rz_n) := fn_mv (cp_fn g24064 (fn_mv r3 FA9 rfl) (by rw [List.length_map]; omega)) v2 rfl
    have nw3 : fn_N cst h10 24576 (40 * (X.length : Int)) (C.map rz_m) := fn_mv (cp_fn g24576 (fn_mv r4 FA9 rfl) (by rw [List.length_map]; omega)) v2 rfl
    have nw4 : fn_N cst h10 24320 (40 * (X.length : Int)) (Z.map fun x => x.1) := fn_mv (cp_fn g24320 (fn_mv r5 FA9 rfl) (by rw [List.length_map]; omega)) v2 rfl
    have nw5 : fn_N cst h10 24832 (40 * (X.length : Int)) (Z.map fun x => x.2.1) := fn_mv (cp_fn g24832 (fn_mv r6 FA9 rfl) (by rw [List.length_map]; omega)) v2 rfl
    have nw6 : fn_N cst h10 25088 (40 * (X.length : Int)) (Z.map fun x => x.2.2) := fn_mv (cp_fn g25088 (fn_mv r7 FA9 rfl) (by rw [List.length_map]; omega)) v2 rfl
    have nw7 : fn_N cst h10 25344 (420 * (X.length : Int)) (T.map fun x => x.1) := fn_mv (cp_fn g25344 (fn_mv x2 FA9 rfl) (by rw [List.length_map]; omega)) v2 rfl
    have nw8 : fn_N cst h10 25600 (420 * (X.length : Int)) (qt_s 0 T) := fn_mv (cp_fn g25600 (fn_mv x3 FA9 rfl) (by rw [qt_s_len]; omega)) v2 rfl
    have nw9 : fn_N cst h10 25856 (420 * (X.length : Int)) (T.map fun x => (x.2.1.length : Int)) := fn_mv (cp_fn g25856 (fn_mv x4 FA9 rfl) (by rw [List.length_map]; omega)) v2 rfl
    have nw10 : fn_N cst h10 26112 (420 * (X.length : Int)) (T.map fun x => (x.2.2.length : Int)) := fn_mv (cp_fn g26112 (fn_mv x5 FA9 rfl) (by rw [List.length_map]; omega)) v2 rfl
    have nw11 : fn_N cst h10 26368 (620 * (X.length : Int)) ((qt_g T).map tw) := fn_mv (cp_fn g26368 (fn_mv x6.2.1 FA9 rfl) (by rw [List.length_map]; omega)) v2 rfl
    have nw12 : fn_N cst h10 26624 (620 * (X.length : Int)) ((qt_g T).map tn) := fn_mv (cp_fn g26624 (fn_mv x6.2.2 FA9 rfl) (by rw [List.length_map]; omega)) v2 rfl
    have nw13 : fn_N cst h10 26880 (820 * (X.length : Int)) S := fn_mv (cp_fn g26880 (fn_mv Y.2 FA9 rfl) (by omega)) v2 rfl
    have nw14 : fn_N cst h10 27136 (330 * (X.length : Int)) W := fn_mv (cp_fn g27136 (fn_mv WW.2 FA9 rfl) (by omega)) v2 rfl
    exact ⟨⟨FC _ _ _ rfl (e2 _ _ _ rfl n1'), FC _ _ _ rfl (e2 _ _ _ rfl n2'), FC _ _ _ rfl (e2 _ _ _ rfl n3')⟩, ⟨nw0, nw1, nw2, nw3, nw4, nw5, nw6⟩, ⟨nw7, nw8, nw9, nw10, nw11, nw12⟩, nw13, nw14, zl, c40, lT, lG, lS', lW, rel⟩
set_option maxRecDepth 8000 in
/-- act, its clauses -/
theorem za_lp {cst : am_K} {strs : List Nat} {D : Nat} {M : am_M} {h0 : am_H} (cc : ∀ d, hp_C cst strs d) (hM : m_P[297]? = some M) (hD : 35 ≤ D) {f : Int → Int} {n : Int} {t : Nat} {kd pl vl : Int → Int} {en : Nat → Int} (kb : kB kd t) (vb : vB kd vl t) {X : List rX} (x30 : X.length ≤ 30) {d s e : Int} (ok : ac_ok (X.length : Int) d s e) : ∀ (F : Nat) (h : am_H) (l : am_L) (a : Nat) (C : List cl) (Z : List qt_Z) (T : List qt_T) (S W : List Int), t + 1 ≤ F + a → ly_hy m_tt ly_TH h → ly_fr cst [19969, 19970, 19971, 19972, 19973, 19974, 19975, 19976, 19989, 19990, 19991, 20010, 20011, 20012, 20013, 20014, 20015, 20016, 22784, 23040, 23296, 23552, 23808, 24064, 24320, 24576, 24832, 25088, 25344, 25600, 25856, 26112, 26368, 26624, 26880, 27136, 60020, 60030, 60031, 60032, 60033, 60034, 60035, 60036, 60037, 60038, 60039, 60040, 60050, 60060, 60061, 60070, 60071] h0 h → yJ cst h f n t kd pl vl en (X.length : Int) a C Z T S W → rA cst h X → ly_hv cst h 19969 0 = some 0 → ly_hv cst h 19990 0 = some 0 → ly_hv cst h 19991 0 = some (-1) → tx kd vl t (X.length : Int) (t + 1) 0 [] = tx kd vl t (X.length : Int) F a C → hp_a l 0 94 → hp_i l 1 d → hp_i l 2 s → hp_F cst strs (ra_Φ cst h0 X pl t n (tx kd vl t (X.length : Int) (t + 1) 0 []) d s e) D M 84 l [] h
  | 0, h, l, a, C, Z, T, S, W, hF, hy, fr, I, hX, k69, k90, k91, er, l0, l1, l2 => by
    have ha := I.2.2.2.2.2.2.2.2.2.1
    omega
  | F + 1, h, l, a, C, Z, T, S, W, hF, hy, fr, I, hX, k69, k90, k91, er, l0, l1, l2 => by
    have c := cc D
    by_cases q0 : fk kd t a = 0
    · exact za_f cc hM (by omega) hy kb x30 ok fr I hX k69 k90 k91 (by rw [er, tx, if_pos q0]) q0 l0 l1 l2
    have R := I.1
    have kA := hX.1
    have ks := rs_so R.2.1
    have b0 := (rk_b kd t a kb).1
    have b8 := (rk_b kd t a kb).2.1
    have n8 : rk kd t a ≠ 8 := fun z => q0 ((rk_i8 kb a).mp z)
    have okk := ok
    obtain ⟨d0, d9, s1', s6, -⟩ := ok
    rw [tx_c q0] at er
    refine zaI c hM (by omega) hy d s (rk kd t a) d0 d9 s1' s6 b0 (by omega) ks l0 l1 l2 (fun l3 h3 u1 u2 u3 m0 m1 m2 => ?_)
    obtain ⟨E, rfl⟩ : ∃ E, D = E + 1 := ⟨D - 1, by omega⟩
    obtain ⟨r, hrun, w, r1, r2, r3, rhy, rfr, rg, rF, rS⟩ := yq_run (D := E) (A := (X.length : Int)) cc (by omega) u1 kb vb (by omega) (by omega) (yJ_mv I hy u1 u2)
    refine hp_call (mi := 297) (pc := 94) (tg := 304) (na := 1) (c := 78) (ci := 12) (st0 := [.ref 94]) (st := []) (av := []) hM (by decide +kernel) u1 rfl rfl rfl (by decide) hrun r2 r3 ?_
    rw [r1]
    have gk1 : gk cst X.length h r.2.1 := gk_tr (gk_fr u2 rfl rfl) (gk_gl rg rfr x30 rfl rfl)
    have kA1 := rfr _ _ _ rfl (u2 _ _ _ rfl kA)
    have fr1 : ly_fr cst [19969, 19970, 19971, 19972, 19973, 19974, 19975, 19976, 19989, 19990, 19991, 20010, 20011, 20012, 20013, 20014, 20015, 20016, 22784, 23040, 23296, 23552, 23808, 24064, 24320, 24576, 24832, 25088, 25344, 25600, 25856, 26112, 26368, 26624, 26880, 27136, 60020, 60030, 60031, 60032, 60033, 60034, 60035, 60036, 60037, 60038, 60039, 60040, 60050, 60060, 60061, 60070, 60071] h0 r.2.1 := ly_fr_tr fr (ly_fr_tr (hp_sub2 rfl u2) (hp_sub2 rfl rfr))
    have k691 := rfr _ _ _ rfl (u2 _ _ _ rfl k69)
    cases e1 : yq_c kd vl t (X.length : Int) C a with
    | inl q =>
      obtain ⟨k, b⟩ := q
      obtain ⟨w0, z1, z2⟩ := rF k b e1
      rw [e1] at er
      have er : tx kd vl t (X.length : Int) (t + 1) 0 [] = .inl (k, b) := er
      exact zaJ0 c hM (by omega) rhy d s w w0 d0 d9 s1' s6 m0 m1 m2 (fun h5 v hv v1 v2 v3 => ⟨v, rfl, rfl, rfl, v1, ly_fr_tr fr1 (hp_sub2 rfl v2), v2 _ _ _ rfl k691, fun z => absurd okk z, fun _ => ⟨fun k' b' z => by
        rw [er] at z
        cases z
        exact ⟨hv, rA_k hX (gk_tr gk1 (gk_fr v2 rfl rfl)) (v2 _ _ _ rfl kA1), v2 _ _ _ rfl z1, v2 _ _ _ rfl z2⟩, fun C' z => (by rw [er] at z; cases z)⟩⟩)
    | inr q =>
      obtain ⟨b, x⟩ := q
      obtain ⟨w0, gt, ab, Z9, T9, S9, W9, I9⟩ := rS _ e1
      have k901 := gt.2 rfl 19990 (by decide) _ (u2 _ _ _ rfl k90)
      have k911 := gt.2 rfl 19991 (by decide) _ (u2 _ _ _ rfl k91)
      rw [e1] at er
      have er : tx kd vl t (X.length : Int) (t + 1) 0 [] = tx kd vl t (X.length : Int) F b (C ++ [x]) := er
      have ab : a < b := ab
      refine zaJ1 c hM (by omega) rhy d s w w0 d0 d9 s1' s6 m0 m1 m2 (fun l5 h5 v1 v2 v3 n0 n1 n2 => ?_)
      exact za_lp cc hM hD kb vb x30 okk F h5 l5 b (C ++ [x]) Z9 T9 S9 W9 (by omega) v1 (ly_fr_tr fr1 (hp_sub2 rfl v2)) (yJ_mv I9 rhy v1 v2) (rA_k hX (gk_tr gk1 (gk_fr v2 rfl rfl)) (v2 _ _ _ rfl kA1)) (v2 _ _ _ rfl k691) (v2 _ _ _ rfl k901) (v2 _ _ _ rfl k911) er n0 n1 n2
/-- act of the reference -/
theorem ra_run {cst : am_K} {strs : List Nat} {D : Nat} {h0 : am_H} (cc : ∀ d, hp_C cst strs d) (hD : 36 ≤ D) (hy : ly_hy m_tt ly_TH h0) {f : Int → Int} {n : Int} {t : Nat} {kd pl vl : Int → Int} {en : Nat → Int} (TT : tkT f n t kd pl vl en) (kb : kB kd t) (vb : vB kd vl t) (n0 : 0 ≤ n) (n1 : n ≤ 1200) (ff : ∀ x, 0 ≤ x → x < n → gs_f cst h0 x = f x) (kn : ly_hv cst h0 19969 0 = some n) {X : List rX} (x30 : X.length ≤ 30) (hX : rA cst h0 X) {e : Int} (ke : X.length ≠ 0 → ly_hv cst h0 22784 ((X.length : Int) - 1) = some e ∧ -2147483648 ≤ e ∧ e ≤ 2147483647) {xd xs : Int32} :
    ∃ r, am_Run cst m_cl m_tt m_P strs sx_bi (D + 1) 297 [.ref 94, .int xd, .int xs] h0 r ∧ ra_Φ cst h0 X pl t n (tx kd vl t (X.length : Int) (t + 1) 0 []) xd.toInt xs.toInt e r := by
  obtain ⟨M, hM, hl⟩ := hp_M (mi := 297) (k := 3) (by decide +kernel)
  have c := cc D
  have bd : -2147483648 ≤ xd.toInt := xd.le_toInt
  have bd' : xd.toInt ≤ 2147483647 := xd.toInt_le
  have bs : -2147483648 ≤ xs.toInt := xs.le_toInt
  have bs' : xs.toInt ≤ 2147483647 := xs.toInt_le
  have go : hp_F cst strs (ra_Φ cst h0 X pl t n (tx kd vl t (X.length : Int) (t + 1) 0 []) xd.toInt xs.toInt e) D M 0 (lv_args 0 [.ref 94, .int xd, .int xs]) [] h0 := by
    refine za0 c hM (by omega) hy xd.toInt xs.toInt bd bd' bs bs' rfl ⟨xd, rfl, rfl⟩ ⟨xs, rfl, rfl⟩ (fun l1 h1 u1 u2 u3 m0 m1 m2 => ?_)
    obtain ⟨E, rfl⟩ : ∃ E, D = E + 1 + 1 := ⟨D - 2, by omega⟩
    obtain ⟨r, hrun, r1, r2, r3, rhy, rfr, rk, rn, rE⟩ := zo_take (D := E) (cc _) (cc _) (by omega) u1 n0 n1 (u2 _ _ _ rfl kn)
    refine hp_call (mi := 297) (pc := 1) (tg := 298) (na := 1) (c := 78) (ci := 12) (st0 := [.ref 94]) (st := []) (av := []) hM (by decide +kernel) u1 rfl rfl rfl (by decide) hrun r2 r3 ?_
    rw [r1]
    have F1 : ly_fr cst [19969, 19970, 19971, 19972, 19973, 19974, 19975, 19976] h0 r.2.1 := ly_fr_tr (hp_sub2 rfl u2) rfr
    have f1 : ∀ x, 0 ≤ x → x < n → gs_f cst r.2.1 x = f x := fun x x0 x1 => by
      rw [gs_same hy rhy F1 rfl]
      exact ff x x0 x1
    have E1 : gs_E f cst r.2.1 (en 0) n := by
      rw [TT.1]
      refine gs_ev (Int.le_refl 0) ?_ rE
      intro x x0 x1
      rw [gs_same hy u1 u2 rfl]
      exact ff x x0 x1
    have R1 : rq cst r.2.1 f n t kd pl vl en 0 := ⟨⟨TT, n0, n1, f1, rn⟩, rs_at TT (Nat.zero_le _) E1, rq_at TT (Nat.zero_le _) E1⟩
    have kA1 := F1 _ _ _ rfl hX.1
    have gk1 : gk cst X.length h0 r.2.1 := gk_fr F1 rfl rfl
    have bad : ¬ ac_ok (X.length : Int) xd.toInt xs.toInt e → ∀ (h5 : am_H) (w : Int32), w.toInt = -2 → ly_hy m_tt ly_TH h5 → ly_fr cst [] r.2.1 h5 → ra_Φ cst h0 X pl t n (tx kd vl t (X.length : Int) (t + 1) 0 []) xd.toInt xs.toInt e (some (.int w), h5, 0, 0) := fun no h5 w hw v1 v2 => ⟨w, rfl, rfl, rfl, v1, ly_fr_tr (hp_sub2 rfl F1) (hp_sub2 rfl v2), v2 _ _ _ rfl rk, fun _ => ⟨hw, rA_k hX (gk_tr gk1 (gk_fr v2 rfl rfl)) (v2 _ _ _ rfl kA1), fun v k => v2 _ _ _ rfl (F1 _ _ _ rfl k), fun v k => v2 _ _ _ rfl (F1 _ _ _ rfl k)⟩, fun z => absurd z no⟩
    by_cases q1 : xd.toInt < 0
    · exact zaA c hM (by omega) rhy xd.toInt xs.toInt bd (by omega) bs bs' m0 m1 m2 (fun h5 w hw v1 v2 v3 => bad (fun z => by have := z.1; omega) h5 w hw v1 v2)
    by_cases q2 : 399 < xd.toInt
    · exact zaB c hM (by omega) rhy xd.toInt xs.toInt (by omega) bd' bs bs' m0 m1 m2 (fun h5 w hw v1 v2 v3 => bad (fun z => by have := z.2.1; omega) h5 w hw v1 v2)
    by_cases q3 : xs.toInt < 1
    · exact zaC c hM (by omega) rhy xd.toInt xs.toInt (by omega) (by omega) bs (by omega) m0 m1 m2 (fun h5 w hw v1 v2 v3 => bad (fun z => by have := z.2.2.1; omega) h5 w hw v1 v2)
    by_cases q4 : 63 < xs.toInt
    · exact zaD c hM (by omega) rhy xd.toInt xs.toInt (by omega) (by omega) (by omega) bs' m0 m1 m2 (fun h5 w hw v1 v2 v3 => bad (fun z => by have := z.2.2.2.1; omega) h5 w hw v1 v2)
    -- it is read
    have good : ac_ok (X.length : Int) xd.toInt xs.toInt e → ∀ (l2 : am_L) (h2 : am_H) (y0 y1 : Int32), y0.toInt = 0 → y1.toInt = 30 → ly_hy m_tt ly_TH h2 → ly_fr cst [19990, 19991] r.2.1 h2 → ly_hv cst h2 19990 0 = some 0 → ly_hv cst h2 19991 0 = some (-1) → hp_a l2 0 94 → hp_i l2 1 xd.toInt → hp_i l2 2 xs.toInt → hp_F cst strs (ra_Φ cst h0 X pl t n (tx kd vl t (X.length : Int) (t + 1) 0 []) xd.toInt xs.toInt e) (E + 1 + 1) M 63 l2 [.int y0, .int y1, .ref 107] h2 := by
      intro ok l2 h2 y0 y1 g0 g1 v1 v2 k1 k2 o0 o1 o2
      refine hp_st0 (c := 91) hM (by decide +kernel) v1 (show ly_ths ly_TH 91 = some (.inl (.int, 31, 0, 40)) from rfl) (by omega) (by omega) (by omega) (by omega) (fun h3 w1 w2 w3 => ?_)
      rw [g0, show y1.toInt = 30 + ((0 : Nat) : Int) by omega] at w3
      have w3 : hp_p0 cst 23296 (30 + ((0 : Nat) : Int)) 0 h2 h3 := w3
      have F3 : ly_fr cst [23296, 60020, 60030, 60031, 60032, 60033, 60034, 60035, 60036, 60037, 60038, 60039, 60040, 60060, 60061] h2 h3 := hp_p0_fr w3 (by decide) rfl rfl
      have g3 : gl true cst h2 h3 := gl_p0 w3 (by decide)
      refine zaH c hM (by omega) w1 xd.toInt xs.toInt (by omega) (by omega) (by omega) (by omega) o0 o1 o2 (fun l4 h4 x1 x2 x3 c1 c2 c3 c4 i0 i1 i2 => ?_)
      have F24 : ly_fr cst [20010, 20011, 20012, 20013, 23296, 60020, 60030, 60031, 60032, 60033, 60034, 60035, 60036, 60037, 60038, 60039, 60040, 60060, 60061] h2 h4 := ly_fr_tr (hp_sub2 rfl F3) (hp_sub2 rfl x2)
      have F14 : ly_fr cst [19990, 19991, 20010, 20011, 20012, 20013, 23296, 60020, 60030, 60031, 60032, 60033, 60034, 60035, 60036, 60037, 60038, 60039, 60040, 60060, 60061] r.2.1 h4 := ly_fr_tr (hp_sub2 rfl v2) (hp_sub2 rfl F24)
      have R4 := rq_mv R1 rhy x1 F14 rfl
      have gk4 : gk cst X.length h0 h4 := gk_tr gk1 (gk_tr (gk_fr v2 rfl rfl) (gk_tr (gk_gl g3 F3 x30 rfl rfl) (gk_fr x2 rfl rfl)))
      have kA4 := F14 _ _ _ rfl kA1
      have cm4 : ly_hv cst h4 23296 30 = some 0 := by
        refine x2 _ _ _ rfl ?_
        rw [ly_hv0 (by decide)]
        exact w3.1
      have nil : ∀ (q : Nat) (o : Int), fn_N cst h4 q o [] := fun q o k hk => absurd hk (Nat.not_lt_zero _)
      refine za_lp cc hM (by omega) kb vb x30 ok (t + 1) h4 l4 0 [] [] [] [] [] (by omega) x1 (ly_fr_tr (hp_sub2 rfl F1) (hp_sub2 rfl F14)) ⟨R4, ⟨cm4, nil _ _, nil _ _, nil _ _, nil _ _, rfl, nil _ _, nil _ _, nil _ _⟩, ⟨c1, nil _ _, nil _ _, nil _ _, nil _ _, c2, nil _ _, nil _ _⟩, ⟨c3, nil _ _⟩, ⟨c4, nil _ _⟩, ?_, Nat.zero_le _, Nat.zero_le _, fun k hk => absurd hk (Nat.not_lt_zero _), Nat.zero_le _, kA4⟩ (rA_k hX gk4 kA4) (F14 _ _ _ rfl rk) (F24 _ _ _ rfl k1) (F24 _ _ _ rfl k2) rfl i0 i1 i2
      rw [TT.1]
      exact ⟨by decide, by decide, by decide⟩
    by_cases q5 : X.length = 0
    · have kA0 : ly_hv cst r.2.1 19989 0 = some 0 := by
        rw [kA1, q5]
        rfl
      exact zaE c hM (by omega) rhy xd.toInt xs.toInt (by omega) (by omega) (by omega) (by omega) kA0 m0 m1 m2 (fun l2 h2 y0 y1 g0 g1 v1 v2 v3 k1 k2 o0 o1 o2 => good ⟨by omega, by omega, by omega, by omega, fun z => by omega⟩ l2 h2 y0 y1 g0 g1 v1 v2 k1 k2 o0 o1 o2)
    obtain ⟨k5, e5, e6⟩ := ke q5
    have k5 := F1 _ _ _ rfl k5
    by_cases q6 : xd.toInt < e
    · exact zaF c hM (by omega) rhy xd.toInt xs.toInt (X.length : Int) e (by omega) (by omega) (by omega) (by omega) (by omega) (by omega) e5 e6 (by omega) kA1 k5 m0 m1 m2 (fun h5 w hw v1 v2 v3 => bad (fun z => by have := z.2.2.2.2 (by omega); omega) h5 w hw v1 v2)
    · exact zaG c hM (by omega) rhy xd.toInt xs.toInt (X.length : Int) e (by omega) (by omega) (by omega) (by omega) (by omega) (by omega) e5 e6 (by omega) kA1 k5 m0 m1 m2 (fun l2 h2 y0 y1 g0 g1 v1 v2 v3 k1 k2 o0 o1 o2 => good ⟨by omega, by omega, by omega, by omega, fun _ => by omega⟩ l2 h2 y0 y1 g0 g1 v1 v2 k1 k2 o0 o1 o2)
  obtain ⟨n', r, hgo, w, s1, s2, s3, s4⟩ := go
  simp only [Nat.zero_add] at s2 s3
  exact ⟨r, Or.inr ⟨M, n', hM, hl, hgo⟩, w, s1, s2, s3, s4⟩
