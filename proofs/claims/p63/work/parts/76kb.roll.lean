/-! PRINTED by wip/p2/hp_roll2.py: roll of class and reference, exactly as to the answer -/
theorem ro0_k : hp_chk 72 0 1 [(0, 0, 1200)] [] [(0, .inr (.inr (.inl (some 17))))] [] [(257, (0, []), (0, [(0, 1)]))] [257] 2 [] [([], 1, [(0, 0, 1200)], [], [], [.inl (0, [(0, 1)])], [(257, (0, []), (0, []))])] = true := by decide +kernel
theorem ro0 {cst : am_K} {strs : List Nat} {Φ : am_Q → Prop} {D : Nat} {M : am_M} {h : am_H} {l : am_L} (c : hp_C cst strs D) (hM : m_P[72]? = some M) (hD : (2 : Int) ≤ (D : Int) + 1) (hy : ly_hy m_tt ly_TH h) (n : Int) (b0 : 0 ≤ n) (t0 : n ≤ 1200) (k0 : ly_hv cst h 257 0 = some (n)) (l0 : hp_a l 0 17) (r0 : ∀ (h' : am_H) (y0 : Int32), y0.toInt = (n) → ly_hy m_tt ly_TH h' → ly_fr cst [257] h h' → h.length ≤ h'.length → ly_hv cst h' 257 0 = some 0 → Φ (some (.int y0), h', 0, 0)) : hp_F cst strs Φ D M 0 l [] h := by
  refine hp_arc c hM ro0_k hD [n] rfl hy (hp_Bc (z := n) rfl b0 t0 hp_Bn) hp_Fn (hp_Kc (zi := (0 + 0)) (zv := (0 + (1 * n + 0))) k0 rfl rfl (by omega) (by omega) hp_Kn) (hp_La l0 hp_Ln) trivial ?_ ?_
  · intro p hp ys l' st' h' hys a1 a2 a3 gZ gL gS
    cases hp
  · intro p hp ys v h' hys a1 a2 a3 gZ gS
    rcases List.mem_cons.mp hp with rfl | hp
    · obtain rfl := hp_y0 hys
      cases v with
      | none => cases gS
      | some w =>
        obtain ⟨y0, t0, s0, q0, -⟩ := hp_gSi (z := (0 + (1 * n + 0))) gS rfl
        cases s0
        exact r0 h' y0 (by omega) a1 a2 a3 (hp_gK (zi := (0 + 0)) (zv := (0 + 0)) gZ.2.2.2 (List.mem_of_getElem? (i := 0) rfl) rfl rfl (by omega) (by omega))
    cases hp
theorem ro1_k : hp_chk 244 0 2 [(0, (-2147483648), 2147483647), (1, 0, 1200)] [] [(0, .inr (.inr (.inl (some 16)))), (1, .inl (0, [(0, 1)]))] [] [(257, (0, []), (0, [(1, 1)]))] [] 2 [(4, ([], 2, [(0, (-2147483648), 2147483647), (1, 0, 1200)], [], [(0, .inr (.inr (.inl (some 16)))), (1, .inl (0, [(0, 1)]))], [.inr (.inr (.inl (some 17)))], [(257, (0, []), (0, [(1, 1)]))]))] [] = true := by decide +kernel
theorem ro1 {cst : am_K} {strs : List Nat} {Φ : am_Q → Prop} {D : Nat} {M : am_M} {h : am_H} {l : am_L} (c : hp_C cst strs D) (hM : m_P[244]? = some M) (hD : (2 : Int) ≤ (D : Int) + 1) (hy : ly_hy m_tt ly_TH h) (r n : Int) (b0 : (-2147483648) ≤ r) (t0 : r ≤ 2147483647) (b1 : 0 ≤ n) (t1 : n ≤ 1200) (k0 : ly_hv cst h 257 0 = some (n)) (l0 : hp_a l 0 16) (l1 : hp_i l 1 (r)) (e0 : ∀ (l' : am_L) (h' : am_H), ly_hy m_tt ly_TH h' → ly_fr cst [] h h' → h.length ≤ h'.length → ly_hv cst h' 257 0 = some (n) → hp_a l' 0 16 → hp_i l' 1 (r) → hp_F cst strs Φ D M 4 l' [.ref 17] h') : hp_F cst strs Φ D M 0 l [] h := by
  refine hp_arc c hM ro1_k hD [r, n] rfl hy (hp_Bc (z := r) rfl b0 t0 (hp_Bc (z := n) rfl b1 t1 hp_Bn)) hp_Fn (hp_Kc (zi := (0 + 0)) (zv := (0 + (1 * n + 0))) k0 rfl rfl (by omega) (by omega) hp_Kn) (hp_La l0 (hp_Li (z := (0 + (1 * r + 0))) l1 rfl (by omega) hp_Ln)) trivial ?_ ?_
  · intro p hp ys l' st' h' hys a1 a2 a3 gZ gL gS
    rcases List.mem_cons.mp hp with rfl | hp
    · obtain rfl := hp_y0 hys
      obtain ⟨t0, rfl, g0⟩ := hp_gSa gS (by decide)
      cases hp_gSn g0
      exact e0 l' h' a1 a2 a3 (hp_gK (zi := (0 + 0)) (zv := (0 + (1 * n + 0))) gZ.2.2.2 (List.mem_of_getElem? (i := 0) rfl) rfl rfl (by omega) (by omega)) (hp_gLa gL (List.mem_of_getElem? (i := 0) rfl) (by decide)) (hp_gLi (z := (0 + (1 * r + 0))) gL (List.mem_of_getElem? (i := 1) rfl) rfl (by omega))
    cases hp
  · intro p hp ys v h' hys a1 a2 a3 gZ gS
    cases hp
theorem ro2_k : hp_chk 244 7 2 [(0, (-2147483648), (-1)), (1, 0, 1200)] [] [(0, .inr (.inr (.inl (some 16)))), (1, .inl (0, [(0, 1)]))] [.inl (0, [(1, 1)])] [] [] 4 [] [([], 2, [(0, (-2147483648), (-1)), (1, 0, 1200)], [], [], [.inl ((-2), [])], [])] = true := by decide +kernel
theorem ro2 {cst : am_K} {strs : List Nat} {Φ : am_Q → Prop} {D : Nat} {M : am_M} {h : am_H} {l : am_L} (c : hp_C cst strs D) (hM : m_P[244]? = some M) (hD : (4 : Int) ≤ (D : Int) + 1) (hy : ly_hy m_tt ly_TH h) (r n : Int) (x0 : Int32) (hx0 : x0.toInt = (n)) (b0 : (-2147483648) ≤ r) (t0 : r ≤ (-1)) (b1 : 0 ≤ n) (t1 : n ≤ 1200) (l0 : hp_a l 0 16) (l1 : hp_i l 1 (r)) (r0 : ∀ (h' : am_H) (y0 : Int32), y0.toInt = (-2) → ly_hy m_tt ly_TH h' → ly_fr cst [] h h' → h.length ≤ h'.length → Φ (some (.int y0), h', 0, 0)) : hp_F cst strs Φ D M 7 l [.int x0] h := by
  refine hp_arc c hM ro2_k hD [r, n] rfl hy (hp_Bc (z := r) rfl b0 t0 (hp_Bc (z := n) rfl b1 t1 hp_Bn)) hp_Fn hp_Kn (hp_La l0 (hp_Li (z := (0 + (1 * r + 0))) l1 rfl (by omega) hp_Ln)) (hp_Si (z := (0 + (1 * n + 0))) rfl (by omega) trivial) ?_ ?_
  · intro p hp ys l' st' h' hys a1 a2 a3 gZ gL gS
    cases hp
  · intro p hp ys v h' hys a1 a2 a3 gZ gS
    rcases List.mem_cons.mp hp with rfl | hp
    · obtain rfl := hp_y0 hys
      cases v with
      | none => cases gS
      | some w =>
        obtain ⟨y0, t0, s0, q0, -⟩ := hp_gSi (z := ((-2) + 0)) gS rfl
        cases s0
        exact r0 h' y0 (by omega) a1 a2 a3
    cases hp
theorem ro3_k : hp_chk 244 7 2 [(0, 3, 2147483647), (1, 0, 1200)] [] [(0, .inr (.inr (.inl (some 16)))), (1, .inl (0, [(0, 1)]))] [.inl (0, [(1, 1)])] [] [] 4 [] [([], 2, [(0, 3, 2147483647), (1, 0, 1200)], [], [], [.inl ((-2), [])], [])] = true := by decide +kernel
theorem ro3 {cst : am_K} {strs : List Nat} {Φ : am_Q → Prop} {D : Nat} {M : am_M} {h : am_H} {l : am_L} (c : hp_C cst strs D) (hM : m_P[244]? = some M) (hD : (4 : Int) ≤ (D : Int) + 1) (hy : ly_hy m_tt ly_TH h) (r n : Int) (x0 : Int32) (hx0 : x0.toInt = (n)) (b0 : 3 ≤ r) (t0 : r ≤ 2147483647) (b1 : 0 ≤ n) (t1 : n ≤ 1200) (l0 : hp_a l 0 16) (l1 : hp_i l 1 (r)) (r0 : ∀ (h' : am_H) (y0 : Int32), y0.toInt = (-2) → ly_hy m_tt ly_TH h' → ly_fr cst [] h h' → h.length ≤ h'.length → Φ (some (.int y0), h', 0, 0)) : hp_F cst strs Φ D M 7 l [.int x0] h := by
  refine hp_arc c hM ro3_k hD [r, n] rfl hy (hp_Bc (z := r) rfl b0 t0 (hp_Bc (z := n) rfl b1 t1 hp_Bn)) hp_Fn hp_Kn (hp_La l0 (hp_Li (z := (0 + (1 * r + 0))) l1 rfl (by omega) hp_Ln)) (hp_Si (z := (0 + (1 * n + 0))) rfl (by omega) trivial) ?_ ?_
  · intro p hp ys l' st' h' hys a1 a2 a3 gZ gL gS
    cases hp
  · intro p hp ys v h' hys a1 a2 a3 gZ gS
    rcases List.mem_cons.mp hp with rfl | hp
    · obtain rfl := hp_y0 hys
      cases v with
      | none => cases gS
      | some w =>
        obtain ⟨y0, t0, s0, q0, -⟩ := hp_gSi (z := ((-2) + 0)) gS rfl
        cases s0
        exact r0 h' y0 (by omega) a1 a2 a3
    cases hp
theorem ro4_k : hp_chk 244 7 2 [(0, 0, 2), (1, 0, 1200)] [] [(0, .inr (.inr (.inl (some 16)))), (1, .inl (0, [(0, 1)]))] [.inl (0, [(1, 1)])] [] [] 4 [(27, ([], 2, [(0, 0, 2), (1, 0, 1200)], [], [(0, .inr (.inr (.inl (some 16))))], [.inl (0, [(1, 1)]), .inr (.inr (.inl (some 17))), .inl (0, [(0, 1)]), .inr (.inr (.inl (some 85)))], []))] [] = true := by decide +kernel
theorem ro4 {cst : am_K} {strs : List Nat} {Φ : am_Q → Prop} {D : Nat} {M : am_M} {h : am_H} {l : am_L} (c : hp_C cst strs D) (hM : m_P[244]? = some M) (hD : (4 : Int) ≤ (D : Int) + 1) (hy : ly_hy m_tt ly_TH h) (r n : Int) (x0 : Int32) (hx0 : x0.toInt = (n)) (b0 : 0 ≤ r) (t0 : r ≤ 2) (b1 : 0 ≤ n) (t1 : n ≤ 1200) (l0 : hp_a l 0 16) (l1 : hp_i l 1 (r)) (e0 : ∀ (l' : am_L) (h' : am_H) (y0 : Int32) (y2 : Int32), y0.toInt = (n) → y2.toInt = (r) → ly_hy m_tt ly_TH h' → ly_fr cst [] h h' → h.length ≤ h'.length → hp_a l' 0 16 → hp_F cst strs Φ D M 27 l' [.int y0, .ref 17, .int y2, .ref 85] h') : hp_F cst strs Φ D M 7 l [.int x0] h := by
  refine hp_arc c hM ro4_k hD [r, n] rfl hy (hp_Bc (z := r) rfl b0 t0 (hp_Bc (z := n) rfl b1 t1 hp_Bn)) hp_Fn hp_Kn (hp_La l0 (hp_Li (z := (0 + (1 * r + 0))) l1 rfl (by omega) hp_Ln)) (hp_Si (z := (0 + (1 * n + 0))) rfl (by omega) trivial) ?_ ?_
  · intro p hp ys l' st' h' hys a1 a2 a3 gZ gL gS
    rcases List.mem_cons.mp hp with rfl | hp
    · obtain rfl := hp_y0 hys
      obtain ⟨y0, t0, rfl, q0, g0⟩ := hp_gSi (z := (0 + (1 * n + 0))) gS rfl
      obtain ⟨t1, rfl, g1⟩ := hp_gSa g0 (by decide)
      obtain ⟨y2, t2, rfl, q2, g2⟩ := hp_gSi (z := (0 + (1 * r + 0))) g1 rfl
      obtain ⟨t3, rfl, g3⟩ := hp_gSa g2 (by decide)
      cases hp_gSn g3
      exact e0 l' h' y0 y2 (by omega) (by omega) a1 a2 a3 (hp_gLa gL (List.mem_of_getElem? (i := 0) rfl) (by decide))
    cases hp
  · intro p hp ys v h' hys a1 a2 a3 gZ gS
    cases hp
theorem ro5_k : hp_chk 244 30 1 [(0, (-2147483648), 2147483647)] [] [(0, .inr (.inr (.inl (some 16))))] [.inl (0, [(0, 1)])] [] [] 2 [] [([], 1, [(0, (-2147483648), 2147483647)], [], [], [.inl (0, [(0, 1)])], [])] = true := by decide +kernel
theorem ro5 {cst : am_K} {strs : List Nat} {Φ : am_Q → Prop} {D : Nat} {M : am_M} {h : am_H} {l : am_L} (c : hp_C cst strs D) (hM : m_P[244]? = some M) (hD : (2 : Int) ≤ (D : Int) + 1) (hy : ly_hy m_tt ly_TH h) (a : Int) (x0 : Int32) (hx0 : x0.toInt = (a)) (b0 : (-2147483648) ≤ a) (t0 : a ≤ 2147483647) (l0 : hp_a l 0 16) (r0 : ∀ (h' : am_H) (y0 : Int32), y0.toInt = (a) → ly_hy m_tt ly_TH h' → ly_fr cst [] h h' → h.length ≤ h'.length → Φ (some (.int y0), h', 0, 0)) : hp_F cst strs Φ D M 30 l [.int x0] h := by
  refine hp_arc c hM ro5_k hD [a] rfl hy (hp_Bc (z := a) rfl b0 t0 hp_Bn) hp_Fn hp_Kn (hp_La l0 hp_Ln) (hp_Si (z := (0 + (1 * a + 0))) rfl (by omega) trivial) ?_ ?_
  · intro p hp ys l' st' h' hys a1 a2 a3 gZ gL gS
    cases hp
  · intro p hp ys v h' hys a1 a2 a3 gZ gS
    rcases List.mem_cons.mp hp with rfl | hp
    · obtain rfl := hp_y0 hys
      cases v with
      | none => cases gS
      | some w =>
        obtain ⟨y0, t0, s0, q0, -⟩ := hp_gSi (z := (0 + (1 * a + 0))) gS rfl
        cases s0
        exact r0 h' y0 (by omega) a1 a2 a3
    cases hp
theorem rw0_k : hp_chk 245 0 2 [(0, 0, 2), (1, 31, 1200)] [] [(0, .inr (.inr (.inl (some 85)))), (1, .inl (0, [(0, 1)])), (2, .inr (.inr (.inl (some 17)))), (3, .inl (0, [(1, 1)]))] [] [] [] 2 [] [([], 2, [(0, 0, 2), (1, 31, 1200)], [], [], [.inl ((-1), [])], [])] = true := by decide +kernel
theorem rw0 {cst : am_K} {strs : List Nat} {Φ : am_Q → Prop} {D : Nat} {M : am_M} {h : am_H} {l : am_L} (c : hp_C cst strs D) (hM : m_P[245]? = some M) (hD : (2 : Int) ≤ (D : Int) + 1) (hy : ly_hy m_tt ly_TH h) (r n : Int) (b0 : 0 ≤ r) (t0 : r ≤ 2) (b1 : 31 ≤ n) (t1 : n ≤ 1200) (l0 : hp_a l 0 85) (l1 : hp_i l 1 (r)) (l2 : hp_a l 2 17) (l3 : hp_i l 3 (n)) (r0 : ∀ (h' : am_H) (y0 : Int32), y0.toInt = (-1) → ly_hy m_tt ly_TH h' → ly_fr cst [] h h' → h.length ≤ h'.length → Φ (some (.int y0), h', 0, 0)) : hp_F cst strs Φ D M 0 l [] h := by
  refine hp_arc c hM rw0_k hD [r, n] rfl hy (hp_Bc (z := r) rfl b0 t0 (hp_Bc (z := n) rfl b1 t1 hp_Bn)) hp_Fn hp_Kn (hp_La l0 (hp_Li (z := (0 + (1 * r + 0))) l1 rfl (by omega) (hp_La l2 (hp_Li (z := (0 + (1 * n + 0))) l3 rfl (by omega) hp_Ln)))) trivial ?_ ?_
  · intro p hp ys l' st' h' hys a1 a2 a3 gZ gL gS
    cases hp
  · intro p hp ys v h' hys a1 a2 a3 gZ gS
    rcases List.mem_cons.mp hp with rfl | hp
    · obtain rfl := hp_y0 hys
      cases v with
      | none => cases gS
      | some w =>
        obtain ⟨y0, t0, s0, q0, -⟩ := hp_gSi (z := ((-1) + 0)) gS rfl
        cases s0
        exact r0 h' y0 (by omega) a1 a2 a3
    cases hp
theorem rw1_k : hp_chk 245 0 2 [(0, 0, 2), (1, 0, 30)] [] [(0, .inr (.inr (.inl (some 85)))), (1, .inl (0, [(0, 1)])), (2, .inr (.inr (.inl (some 17)))), (3, .inl (0, [(1, 1)]))] [] [] [] 2 [(17, ([], 2, [(0, 0, 2), (1, 0, 30)], [], [(0, .inr (.inr (.inl (some 85)))), (1, .inl (0, [(0, 1)])), (2, .inr (.inr (.inl (some 17)))), (3, .inl (0, [(1, 1)]))], [.inl (3, []), .inl (0, [(1, 1)])], []))] [] = true := by decide +kernel
theorem rw1 {cst : am_K} {strs : List Nat} {Φ : am_Q → Prop} {D : Nat} {M : am_M} {h : am_H} {l : am_L} (c : hp_C cst strs D) (hM : m_P[245]? = some M) (hD : (2 : Int) ≤ (D : Int) + 1) (hy : ly_hy m_tt ly_TH h) (r n : Int) (b0 : 0 ≤ r) (t0 : r ≤ 2) (b1 : 0 ≤ n) (t1 : n ≤ 30) (l0 : hp_a l 0 85) (l1 : hp_i l 1 (r)) (l2 : hp_a l 2 17) (l3 : hp_i l 3 (n)) (e0 : ∀ (l' : am_L) (h' : am_H) (y0 : Int32) (y1 : Int32), y0.toInt = 3 → y1.toInt = (n) → ly_hy m_tt ly_TH h' → ly_fr cst [] h h' → h.length ≤ h'.length → hp_a l' 0 85 → hp_i l' 1 (r) → hp_a l' 2 17 → hp_i l' 3 (n) → hp_F cst strs Φ D M 17 l' [.int y0, .int y1] h') : hp_F cst strs Φ D M 0 l [] h := by
  refine hp_arc c hM rw1_k hD [r, n] rfl hy (hp_Bc (z := r) rfl b0 t0 (hp_Bc (z := n) rfl b1 t1 hp_Bn)) hp_Fn hp_Kn (hp_La l0 (hp_Li (z := (0 + (1 * r + 0))) l1 rfl (by omega) (hp_La l2 (hp_Li (z := (0 + (1 * n + 0))) l3 rfl (by omega) hp_Ln)))) trivial ?_ ?_
  · intro p hp ys l' st' h' hys a1 a2 a3 gZ gL gS
    rcases List.mem_cons.mp hp with rfl | hp
    · obtain rfl := hp_y0 hys
      obtain ⟨y0, t0, rfl, q0, g0⟩ := hp_gSi (z := (3 + 0)) gS rfl
      obtain ⟨y1, t1, rfl, q1, g1⟩ := hp_gSi (z := (0 + (1 * n + 0))) g0 rfl
      cases hp_gSn g1
      exact e0 l' h' y0 y1 (by omega) (by omega) a1 a2 a3 (hp_gLa gL (List.mem_of_getElem? (i := 0) rfl) (by decide)) (hp_gLi (z := (0 + (1 * r + 0))) gL (List.mem_of_getElem? (i := 1) rfl) rfl (by omega)) (hp_gLa gL (List.mem_of_getElem? (i := 2) rfl) (by decide)) (hp_gLi (z := (0 + (1 * n + 0))) gL (List.mem_of_getElem? (i := 3) rfl) rfl (by omega))
    cases hp
  · intro p hp ys v h' hys a1 a2 a3 gZ gS
    cases hp
theorem rw2_k : hp_chk 245 18 3 [(0, 0, 2), (1, 0, 30), (2, 1, 2)] [] [(0, .inr (.inr (.inl (some 85)))), (1, .inl (0, [(0, 1)])), (2, .inr (.inr (.inl (some 17)))), (3, .inl (0, [(1, 1)]))] [.inl (0, [(2, 1)])] [] [] 2 [] [([], 3, [(0, 0, 2), (1, 0, 30), (2, 1, 2)], [], [], [.inl ((-1), [])], [])] = true := by decide +kernel
theorem rw2 {cst : am_K} {strs : List Nat} {Φ : am_Q → Prop} {D : Nat} {M : am_M} {h : am_H} {l : am_L} (c : hp_C cst strs D) (hM : m_P[245]? = some M) (hD : (2 : Int) ≤ (D : Int) + 1) (hy : ly_hy m_tt ly_TH h) (r n m : Int) (x0 : Int32) (hx0 : x0.toInt = (m)) (b0 : 0 ≤ r) (t0 : r ≤ 2) (b1 : 0 ≤ n) (t1 : n ≤ 30) (b2 : 1 ≤ m) (t2 : m ≤ 2) (l0 : hp_a l 0 85) (l1 : hp_i l 1 (r)) (l2 : hp_a l 2 17) (l3 : hp_i l 3 (n)) (r0 : ∀ (h' : am_H) (y0 : Int32), y0.toInt = (-1) → ly_hy m_tt ly_TH h' → ly_fr cst [] h h' → h.length ≤ h'.length → Φ (some (.int y0), h', 0, 0)) : hp_F cst strs Φ D M 18 l [.int x0] h := by
  refine hp_arc c hM rw2_k hD [r, n, m] rfl hy (hp_Bc (z := r) rfl b0 t0 (hp_Bc (z := n) rfl b1 t1 (hp_Bc (z := m) rfl b2 t2 hp_Bn))) hp_Fn hp_Kn (hp_La l0 (hp_Li (z := (0 + (1 * r + 0))) l1 rfl (by omega) (hp_La l2 (hp_Li (z := (0 + (1 * n + 0))) l3 rfl (by omega) hp_Ln)))) (hp_Si (z := (0 + (1 * m + 0))) rfl (by omega) trivial) ?_ ?_
  · intro p hp ys l' st' h' hys a1 a2 a3 gZ gL gS
    cases hp
  · intro p hp ys v h' hys a1 a2 a3 gZ gS
    rcases List.mem_cons.mp hp with rfl | hp
    · obtain rfl := hp_y0 hys
      cases v with
      | none => cases gS
      | some w =>
        obtain ⟨y0, t0, s0, q0, -⟩ := hp_gSi (z := ((-1) + 0)) gS rfl
        cases s0
        exact r0 h' y0 (by omega) a1 a2 a3
    cases hp
theorem rw3_k : hp_chk 245 18 2 [(0, 0, 2), (1, 0, 30)] [] [(0, .inr (.inr (.inl (some 85)))), (1, .inl (0, [(0, 1)])), (2, .inr (.inr (.inl (some 17)))), (3, .inl (0, [(1, 1)]))] [.inl (0, [])] [] [] 2 [(26, ([], 2, [(0, 0, 2), (1, 0, 30)], [], [(0, .inr (.inr (.inl (some 85)))), (1, .inl (0, [(0, 1)])), (2, .inr (.inr (.inl (some 17)))), (3, .inl (0, [(1, 1)])), (4, .inl (0, []))], [], []))] [] = true := by decide +kernel
theorem rw3 {cst : am_K} {strs : List Nat} {Φ : am_Q → Prop} {D : Nat} {M : am_M} {h : am_H} {l : am_L} (c : hp_C cst strs D) (hM : m_P[245]? = some M) (hD : (2 : Int) ≤ (D : Int) + 1) (hy : ly_hy m_tt ly_TH h) (r n : Int) (x0 : Int32) (hx0 : x0.toInt = 0) (b0 : 0 ≤ r) (t0 : r ≤ 2) (b1 : 0 ≤ n) (t1 : n ≤ 30) (l0 : hp_a l 0 85) (l1 : hp_i l 1 (r)) (l2 : hp_a l 2 17) (l3 : hp_i l 3 (n)) (e0 : ∀ (l' : am_L) (h' : am_H), ly_hy m_tt ly_TH h' → ly_fr cst [] h h' → h.length ≤ h'.length → hp_a l' 0 85 → hp_i l' 1 (r) → hp_a l' 2 17 → hp_i l' 3 (n) → hp_i l' 4 0 → hp_F cst strs Φ D M 26 l' [] h') : hp_F cst strs Φ D M 18 l [.int x0] h := by
  refine hp_arc c hM rw3_k hD [r, n] rfl hy (hp_Bc (z := r) rfl b0 t0 (hp_Bc (z := n) rfl b1 t1 hp_Bn)) hp_Fn hp_Kn (hp_La l0 (hp_Li (z := (0 + (1 * r + 0))) l1 rfl (by omega) (hp_La l2 (hp_Li (z := (0 + (1 * n + 0))) l3 rfl (by omega) hp_Ln)))) (hp_Si (z := (0 + 0)) rfl (by omega) trivial) ?_ ?_
  · intro p hp ys l' st' h' hys a1 a2 a3 gZ gL gS
    rcases List.mem_cons.mp hp with rfl | hp
    · obtain rfl := hp_y0 hys
      cases hp_gSn gS
      exact e0 l' h' a1 a2 a3 (hp_gLa gL (List.mem_of_getElem? (i := 0) rfl) (by decide)) (hp_gLi (z := (0 + (1 * r + 0))) gL (List.mem_of_getElem? (i := 1) rfl) rfl (by omega)) (hp_gLa gL (List.mem_of_getElem? (i := 2) rfl) (by decide)) (hp_gLi (z := (0 + (1 * n + 0))) gL (List.mem_of_getElem? (i := 3) rfl) rfl (by omega)) (hp_gLi (z := (0 + 0)) gL (List.mem_of_getElem? (i := 4) rfl) rfl (by omega))
    cases hp
  · intro p hp ys v h' hys a1 a2 a3 gZ gS
    cases hp
theorem rw4_k : hp_chk 245 26 4 [(0, 0, 2), (1, 0, 30), (2, 0, 29), (3, 48, 57)] [((-1), [(1, 1), (2, (-1))])] [(0, .inr (.inr (.inl (some 85)))), (1, .inl (0, [(0, 1)])), (2, .inr (.inr (.inl (some 17)))), (3, .inl (0, [(1, 1)])), (4, .inl (0, [(2, 1)]))] [] [(512, (0, [(2, 1)]), (0, [(3, 1)]))] [] 4 [(26, ([], 4, [(0, 0, 2), (1, 0, 30), (2, 0, 29), (3, 48, 57)], [], [(0, .inr (.inr (.inl (some 85)))), (1, .inl (0, [(0, 1)])), (2, .inr (.inr (.inl (some 17)))), (3, .inl (0, [(1, 1)])), (4, .inl (1, [(2, 1)]))], [], []))] [] = true := by decide +kernel
theorem rw4 {cst : am_K} {strs : List Nat} {Φ : am_Q → Prop} {D : Nat} {M : am_M} {h : am_H} {l : am_L} (c : hp_C cst strs D) (hM : m_P[245]? = some M) (hD : (4 : Int) ≤ (D : Int) + 1) (hy : ly_hy m_tt ly_TH h) (r n i b : Int) (b0 : 0 ≤ r) (t0 : r ≤ 2) (b1 : 0 ≤ n) (t1 : n ≤ 30) (b2 : 0 ≤ i) (t2 : i ≤ 29) (b3 : 48 ≤ b) (t3 : b ≤ 57) (f0 : 0 ≤ (n - i - 1)) (k0 : ly_hv cst h 512 (i) = some (b)) (l0 : hp_a l 0 85) (l1 : hp_i l 1 (r)) (l2 : hp_a l 2 17) (l3 : hp_i l 3 (n)) (l4 : hp_i l 4 (i)) (e0 : ∀ (l' : am_L) (h' : am_H), ly_hy m_tt ly_TH h' → ly_fr cst [] h h' → h.length ≤ h'.length → hp_a l' 0 85 → hp_i l' 1 (r) → hp_a l' 2 17 → hp_i l' 3 (n) → hp_i l' 4 (i + 1) → hp_F cst strs Φ D M 26 l' [] h') : hp_F cst strs Φ D M 26 l [] h := by
  refine hp_arc c hM rw4_k hD [r, n, i, b] rfl hy (hp_Bc (z := r) rfl b0 t0 (hp_Bc (z := n) rfl b1 t1 (hp_Bc (z := i) rfl b2 t2 (hp_Bc (z := b) rfl b3 t3 hp_Bn)))) (hp_Fc (z := ((-1) + (1 * n + ((-1) * i + 0)))) rfl (by omega) hp_Fn) (hp_Kc (zi := (0 + (1 * i + 0))) (zv := (0 + (1 * b + 0))) k0 rfl rfl (by omega) (by omega) hp_Kn) (hp_La l0 (hp_Li (z := (0 + (1 * r + 0))) l1 rfl (by omega) (hp_La l2 (hp_Li (z := (0 + (1 * n + 0))) l3 rfl (by omega) (hp_Li (z := (0 + (1 * i + 0))) l4 rfl (by omega) hp_Ln))))) trivial ?_ ?_
  · intro p hp ys l' st' h' hys a1 a2 a3 gZ gL gS
    rcases List.mem_cons.mp hp with rfl | hp
    · obtain rfl := hp_y0 hys
      cases hp_gSn gS
      exact e0 l' h' a1 a2 a3 (hp_gLa gL (List.mem_of_getElem? (i := 0) rfl) (by decide)) (hp_gLi (z := (0 + (1 * r + 0))) gL (List.mem_of_getElem? (i := 1) rfl) rfl (by omega)) (hp_gLa gL (List.mem_of_getElem? (i := 2) rfl) (by decide)) (hp_gLi (z := (0 + (1 * n + 0))) gL (List.mem_of_getElem? (i := 3) rfl) rfl (by omega)) (hp_gLi (z := (1 + (1 * i + 0))) gL (List.mem_of_getElem? (i := 4) rfl) rfl (by omega))
    cases hp
  · intro p hp ys v h' hys a1 a2 a3 gZ gS
    cases hp
theorem rw5_k : hp_chk 245 26 4 [(0, 0, 2), (1, 0, 30), (2, 0, 29), (3, 0, 47)] [((-1), [(1, 1), (2, (-1))])] [(0, .inr (.inr (.inl (some 85)))), (1, .inl (0, [(0, 1)])), (2, .inr (.inr (.inl (some 17)))), (3, .inl (0, [(1, 1)])), (4, .inl (0, [(2, 1)]))] [] [(512, (0, [(2, 1)]), (0, [(3, 1)]))] [] 4 [] [([], 4, [(0, 0, 2), (1, 0, 30), (2, 0, 29), (3, 0, 47)], [], [], [.inl ((-1), [])], [])] = true := by decide +kernel
theorem rw5 {cst : am_K} {strs : List Nat} {Φ : am_Q → Prop} {D : Nat} {M : am_M} {h : am_H} {l : am_L} (c : hp_C cst strs D) (hM : m_P[245]? = some M) (hD : (4 : Int) ≤ (D : Int) + 1) (hy : ly_hy m_tt ly_TH h) (r n i b : Int) (b0 : 0 ≤ r) (t0 : r ≤ 2) (b1 : 0 ≤ n) (t1 : n ≤ 30) (b2 : 0 ≤ i) (t2 : i ≤ 29) (b3 : 0 ≤ b) (t3 : b ≤ 47) (f0 : 0 ≤ (n - i - 1)) (k0 : ly_hv cst h 512 (i) = some (b)) (l0 : hp_a l 0 85) (l1 : hp_i l 1 (r)) (l2 : hp_a l 2 17) (l3 : hp_i l 3 (n)) (l4 : hp_i l 4 (i)) (r0 : ∀ (h' : am_H) (y0 : Int32), y0.toInt = (-1) → ly_hy m_tt ly_TH h' → ly_fr cst [] h h' → h.length ≤ h'.length → Φ (some (.int y0), h', 0, 0)) : hp_F cst strs Φ D M 26 l [] h := by
  refine hp_arc c hM rw5_k hD [r, n, i, b] rfl hy (hp_Bc (z := r) rfl b0 t0 (hp_Bc (z := n) rfl b1 t1 (hp_Bc (z := i) rfl b2 t2 (hp_Bc (z := b) rfl b3 t3 hp_Bn)))) (hp_Fc (z := ((-1) + (1 * n + ((-1) * i + 0)))) rfl (by omega) hp_Fn) (hp_Kc (zi := (0 + (1 * i + 0))) (zv := (0 + (1 * b + 0))) k0 rfl rfl (by omega) (by omega) hp_Kn) (hp_La l0 (hp_Li (z := (0 + (1 * r + 0))) l1 rfl (by omega) (hp_La l2 (hp_Li (z := (0 + (1 * n + 0))) l3 rfl (by omega) (hp_Li (z := (0 + (1 * i + 0))) l4 rfl (by omega) hp_Ln))))) trivial ?_ ?_
  · intro p hp ys l' st' h' hys a1 a2 a3 gZ gL gS
    cases hp
  · intro p hp ys v h' hys a1 a2 a3 gZ gS
    rcases List.mem_cons.mp hp with rfl | hp
    · obtain rfl := hp_y0 hys
      cases v with
      | none => cases gS
      | some w =>
        obtain ⟨y0, t0, s0, q0, -⟩ := hp_gSi (z := ((-1) + 0)) gS rfl
        cases s0
        exact r0 h' y0 (by omega) a1 a2 a3
    cases hp
theorem rw6_k : hp_chk 245 26 4 [(0, 0, 2), (1, 0, 30), (2, 0, 29), (3, 58, 255)] [((-1), [(1, 1), (2, (-1))])] [(0, .inr (.inr (.inl (some 85)))), (1, .inl (0, [(0, 1)])), (2, .inr (.inr (.inl (some 17)))), (3, .inl (0, [(1, 1)])), (4, .inl (0, [(2, 1)]))] [] [(512, (0, [(2, 1)]), (0, [(3, 1)]))] [] 4 [] [([], 4, [(0, 0, 2), (1, 0, 30), (2, 0, 29), (3, 58, 255)], [], [], [.inl ((-1), [])], [])] = true := by decide +kernel
theorem rw6 {cst : am_K} {strs : List Nat} {Φ : am_Q → Prop} {D : Nat} {M : am_M} {h : am_H} {l : am_L} (c : hp_C cst strs D) (hM : m_P[245]? = some M) (hD : (4 : Int) ≤ (D : Int) + 1) (hy : ly_hy m_tt ly_TH h) (r n i b : Int) (b0 : 0 ≤ r) (t0 : r ≤ 2) (b1 : 0 ≤ n) (t1 : n ≤ 30) (b2 : 0 ≤ i) (t2 : i ≤ 29) (b3 : 58 ≤ b) (t3 : b ≤ 255) (f0 : 0 ≤ (n - i - 1)) (k0 : ly_hv cst h 512 (i) = some (b)) (l0 : hp_a l 0 85) (l1 : hp_i l 1 (r)) (l2 : hp_a l 2 17) (l3 : hp_i l 3 (n)) (l4 : hp_i l 4 (i)) (r0 : ∀ (h' : am_H) (y0 : Int32), y0.toInt = (-1) → ly_hy m_tt ly_TH h' → ly_fr cst [] h h' → h.length ≤ h'.length → Φ (some (.int y0), h', 0, 0)) : hp_F cst strs Φ D M 26 l [] h := by
  refine hp_arc c hM rw6_k hD [r, n, i, b] rfl hy (hp_Bc (z := r) rfl b0 t0 (hp_Bc (z := n) rfl b1 t1 (hp_Bc (z := i) rfl b2 t2 (hp_Bc (z := b) rfl b3 t3 hp_Bn)))) (hp_Fc (z := ((-1) + (1 * n + ((-1) * i + 0)))) rfl (by omega) hp_Fn) (hp_Kc (zi := (0 + (1 * i + 0))) (zv := (0 + (1 * b + 0))) k0 rfl rfl (by omega) (by omega) hp_Kn) (hp_La l0 (hp_Li (z := (0 + (1 * r + 0))) l1 rfl (by omega) (hp_La l2 (hp_Li (z := (0 + (1 * n + 0))) l3 rfl (by omega) (hp_Li (z := (0 + (1 * i + 0))) l4 rfl (by omega) hp_Ln))))) trivial ?_ ?_
  · intro p hp ys l' st' h' hys a1 a2 a3 gZ gL gS
    cases hp
  · intro p hp ys v h' hys a1 a2 a3 gZ gS
    rcases List.mem_cons.mp hp with rfl | hp
    · obtain rfl := hp_y0 hys
      cases v with
      | none => cases gS
      | some w =>
        obtain ⟨y0, t0, s0, q0, -⟩ := hp_gSi (z := ((-1) + 0)) gS rfl
        cases s0
        exact r0 h' y0 (by omega) a1 a2 a3
    cases hp
theorem rw7_k : hp_chk 245 26 3 [(0, 0, 2), (1, 0, 30), (2, 0, 10)] [] [(0, .inr (.inr (.inl (some 85)))), (1, .inl (0, [(0, 1)])), (2, .inr (.inr (.inl (some 17)))), (3, .inl (0, [(1, 1)])), (4, .inl (0, [(1, 1)]))] [] [(62003, (0, [(1, 1)]), (0, [(2, 1)]))] [] 2 [(65, ([], 3, [(0, 0, 2), (1, 0, 30), (2, 0, 10)], [], [(0, .inr (.inr (.inl (some 85)))), (1, .inl (0, [(0, 1)])), (2, .inr (.inr (.inl (some 17)))), (3, .inl (0, [(1, 1)]))], [.inl (0, [(2, 1)]), .inl (0, [(0, 1)]), .inr (.inr (.inl (some 86)))], []))] [] = true := by decide +kernel
theorem rw7 {cst : am_K} {strs : List Nat} {Φ : am_Q → Prop} {D : Nat} {M : am_M} {h : am_H} {l : am_L} (c : hp_C cst strs D) (hM : m_P[245]? = some M) (hD : (2 : Int) ≤ (D : Int) + 1) (hy : ly_hy m_tt ly_TH h) (r n q : Int) (b0 : 0 ≤ r) (t0 : r ≤ 2) (b1 : 0 ≤ n) (t1 : n ≤ 30) (b2 : 0 ≤ q) (t2 : q ≤ 10) (k0 : ly_hv cst h 62003 (n) = some (q)) (l0 : hp_a l 0 85) (l1 : hp_i l 1 (r)) (l2 : hp_a l 2 17) (l3 : hp_i l 3 (n)) (l4 : hp_i l 4 (n)) (e0 : ∀ (l' : am_L) (h' : am_H) (y0 : Int32) (y1 : Int32), y0.toInt = (q) → y1.toInt = (r) → ly_hy m_tt ly_TH h' → ly_fr cst [] h h' → h.length ≤ h'.length → hp_a l' 0 85 → hp_i l' 1 (r) → hp_a l' 2 17 → hp_i l' 3 (n) → hp_F cst strs Φ D M 65 l' [.int y0, .int y1, .ref 86] h') : hp_F cst strs Φ D M 26 l [] h := by
  refine hp_arc c hM rw7_k hD [r, n, q] rfl hy (hp_Bc (z := r) rfl b0 t0 (hp_Bc (z := n) rfl b1 t1 (hp_Bc (z := q) rfl b2 t2 hp_Bn))) hp_Fn (hp_Kc (zi := (0 + (1 * n + 0))) (zv := (0 + (1 * q + 0))) k0 rfl rfl (by omega) (by omega) hp_Kn) (hp_La l0 (hp_Li (z := (0 + (1 * r + 0))) l1 rfl (by omega) (hp_La l2 (hp_Li (z := (0 + (1 * n + 0))) l3 rfl (by omega) (hp_Li (z := (0 + (1 * n + 0))) l4 rfl (by omega) hp_Ln))))) trivial ?_ ?_
  · intro p hp ys l' st' h' hys a1 a2 a3 gZ gL gS
    rcases List.mem_cons.mp hp with rfl | hp
    · obtain rfl := hp_y0 hys
      obtain ⟨y0, t0, rfl, q0, g0⟩ := hp_gSi (z := (0 + (1 * q + 0))) gS rfl
      obtain ⟨y1, t1, rfl, q1, g1⟩ := hp_gSi (z := (0 + (1 * r + 0))) g0 rfl
      obtain ⟨t2, rfl, g2⟩ := hp_gSa g1 (by decide)
      cases hp_gSn g2
      exact e0 l' h' y0 y1 (by omega) (by omega) a1 a2 a3 (hp_gLa gL (List.mem_of_getElem? (i := 0) rfl) (by decide)) (hp_gLi (z := (0 + (1 * r + 0))) gL (List.mem_of_getElem? (i := 1) rfl) rfl (by omega)) (hp_gLa gL (List.mem_of_getElem? (i := 2) rfl) (by decide)) (hp_gLi (z := (0 + (1 * n + 0))) gL (List.mem_of_getElem? (i := 3) rfl) rfl (by omega))
    cases hp
  · intro p hp ys v h' hys a1 a2 a3 gZ gS
    cases hp
theorem rw8_k : hp_chk 245 66 3 [(0, 0, 2), (1, 0, 30), (2, 0, 10)] [] [(0, .inr (.inr (.inl (some 85)))), (1, .inl (0, [(0, 1)])), (2, .inr (.inr (.inl (some 17)))), (3, .inl (0, [(1, 1)]))] [] [(17920, (0, [(0, 1)]), (0, [(2, 1)]))] [] 2 [(69, ([], 3, [(0, 0, 2), (1, 0, 30), (2, 0, 10)], [], [(0, .inr (.inr (.inl (some 85)))), (1, .inl (0, [(0, 1)])), (2, .inr (.inr (.inl (some 17)))), (3, .inl (0, [(1, 1)])), (4, .inl (0, []))], [], [(17920, (0, [(0, 1)]), (0, [(2, 1)]))]))] [] = true := by decide +kernel
theorem rw8 {cst : am_K} {strs : List Nat} {Φ : am_Q → Prop} {D : Nat} {M : am_M} {h : am_H} {l : am_L} (c : hp_C cst strs D) (hM : m_P[245]? = some M) (hD : (2 : Int) ≤ (D : Int) + 1) (hy : ly_hy m_tt ly_TH h) (r n q : Int) (b0 : 0 ≤ r) (t0 : r ≤ 2) (b1 : 0 ≤ n) (t1 : n ≤ 30) (b2 : 0 ≤ q) (t2 : q ≤ 10) (k0 : ly_hv cst h 17920 (r) = some (q)) (l0 : hp_a l 0 85) (l1 : hp_i l 1 (r)) (l2 : hp_a l 2 17) (l3 : hp_i l 3 (n)) (e0 : ∀ (l' : am_L) (h' : am_H), ly_hy m_tt ly_TH h' → ly_fr cst [] h h' → h.length ≤ h'.length → ly_hv cst h' 17920 (r) = some (q) → hp_a l' 0 85 → hp_i l' 1 (r) → hp_a l' 2 17 → hp_i l' 3 (n) → hp_i l' 4 0 → hp_F cst strs Φ D M 69 l' [] h') : hp_F cst strs Φ D M 66 l [] h := by
  refine hp_arc c hM rw8_k hD [r, n, q] rfl hy (hp_Bc (z := r) rfl b0 t0 (hp_Bc (z := n) rfl b1 t1 (hp_Bc (z := q) rfl b2 t2 hp_Bn))) hp_Fn (hp_Kc (zi := (0 + (1 * r + 0))) (zv := (0 + (1 * q + 0))) k0 rfl rfl (by omega) (by omega) hp_Kn) (hp_La l0 (hp_Li (z := (0 + (1 * r + 0))) l1 rfl (by omega) (hp_La l2 (hp_Li (z := (0 + (1 * n + 0))) l3 rfl (by omega) hp_Ln)))) trivial ?_ ?_
  · intro p hp ys l' st' h' hys a1 a2 a3 gZ gL gS
    rcases List.mem_cons.mp hp with rfl | hp
    · obtain rfl := hp_y0 hys
      cases hp_gSn gS
      exact e0 l' h' a1 a2 a3 (hp_gK (zi := (0 + (1 * r + 0))) (zv := (0 + (1 * q + 0))) gZ.2.2.2 (List.mem_of_getElem? (i := 0) rfl) rfl rfl (by omega) (by omega)) (hp_gLa gL (List.mem_of_getElem? (i := 0) rfl) (by decide)) (hp_gLi (z := (0 + (1 * r + 0))) gL (List.mem_of_getElem? (i := 1) rfl) rfl (by omega)) (hp_gLa gL (List.mem_of_getElem? (i := 2) rfl) (by decide)) (hp_gLi (z := (0 + (1 * n + 0))) gL (List.mem_of_getElem? (i := 3) rfl) rfl (by omega)) (hp_gLi (z := (0 + 0)) gL (List.mem_of_getElem? (i := 4) rfl) rfl (by omega))
    cases hp
  · intro p hp ys v h' hys a1 a2 a3 gZ gS
    cases hp
theorem rw9_k : hp_chk 245 69 4 [(0, 0, 2), (1, 0, 30), (2, 0, 10), (3, 0, 9)] [((-1), [(2, 1), (3, (-1))])] [(0, .inr (.inr (.inl (some 85)))), (1, .inl (0, [(0, 1)])), (2, .inr (.inr (.inl (some 17)))), (3, .inl (0, [(1, 1)])), (4, .inl (0, [(3, 1)]))] [] [(17920, (0, [(0, 1)]), (0, [(2, 1)]))] [] 2 [(86, ([], 4, [(0, 0, 2), (1, 0, 30), (2, 0, 10), (3, 0, 9)], [], [(0, .inr (.inr (.inl (some 85)))), (1, .inl (0, [(0, 1)])), (2, .inr (.inr (.inl (some 17)))), (3, .inl (0, [(1, 1)])), (4, .inl (0, [(3, 1)])), (5, .inl (0, [])), (6, .inl (0, []))], [], [(17920, (0, [(0, 1)]), (0, [(2, 1)]))]))] [] = true := by decide +kernel
theorem rw9 {cst : am_K} {strs : List Nat} {Φ : am_Q → Prop} {D : Nat} {M : am_M} {h : am_H} {l : am_L} (c : hp_C cst strs D) (hM : m_P[245]? = some M) (hD : (2 : Int) ≤ (D : Int) + 1) (hy : ly_hy m_tt ly_TH h) (r n q i : Int) (b0 : 0 ≤ r) (t0 : r ≤ 2) (b1 : 0 ≤ n) (t1 : n ≤ 30) (b2 : 0 ≤ q) (t2 : q ≤ 10) (b3 : 0 ≤ i) (t3 : i ≤ 9) (f0 : 0 ≤ (q - i - 1)) (k0 : ly_hv cst h 17920 (r) = some (q)) (l0 : hp_a l 0 85) (l1 : hp_i l 1 (r)) (l2 : hp_a l 2 17) (l3 : hp_i l 3 (n)) (l4 : hp_i l 4 (i)) (e0 : ∀ (l' : am_L) (h' : am_H), ly_hy m_tt ly_TH h' → ly_fr cst [] h h' → h.length ≤ h'.length → ly_hv cst h' 17920 (r) = some (q) → hp_a l' 0 85 → hp_i l' 1 (r) → hp_a l' 2 17 → hp_i l' 3 (n) → hp_i l' 4 (i) → hp_i l' 5 0 → hp_i l' 6 0 → hp_F cst strs Φ D M 86 l' [] h') : hp_F cst strs Φ D M 69 l [] h := by
  refine hp_arc c hM rw9_k hD [r, n, q, i] rfl hy (hp_Bc (z := r) rfl b0 t0 (hp_Bc (z := n) rfl b1 t1 (hp_Bc (z := q) rfl b2 t2 (hp_Bc (z := i) rfl b3 t3 hp_Bn)))) (hp_Fc (z := ((-1) + (1 * q + ((-1) * i + 0)))) rfl (by omega) hp_Fn) (hp_Kc (zi := (0 + (1 * r + 0))) (zv := (0 + (1 * q + 0))) k0 rfl rfl (by omega) (by omega) hp_Kn) (hp_La l0 (hp_Li (z := (0 + (1 * r + 0))) l1 rfl (by omega) (hp_La l2 (hp_Li (z := (0 + (1 * n + 0))) l3 rfl (by omega) (hp_Li (z := (0 + (1 * i + 0))) l4 rfl (by omega) hp_Ln))))) trivial ?_ ?_
  · intro p hp ys l' st' h' hys a1 a2 a3 gZ gL gS
    rcases List.mem_cons.mp hp with rfl | hp
    · obtain rfl := hp_y0 hys
      cases hp_gSn gS
      exact e0 l' h' a1 a2 a3 (hp_gK (zi := (0 + (1 * r + 0))) (zv := (0 + (1 * q + 0))) gZ.2.2.2 (List.mem_of_getElem? (i := 0) rfl) rfl rfl (by omega) (by omega)) (hp_gLa gL (List.mem_of_getElem? (i := 0) rfl) (by decide)) (hp_gLi (z := (0 + (1 * r + 0))) gL (List.mem_of_getElem? (i := 1) rfl) rfl (by omega)) (hp_gLa gL (List.mem_of_getElem? (i := 2) rfl) (by decide)) (hp_gLi (z := (0 + (1 * n + 0))) gL (List.mem_of_getElem? (i := 3) rfl) rfl (by omega)) (hp_gLi (z := (0 + (1 * i + 0))) gL (List.mem_of_getElem? (i := 4) rfl) rfl (by omega)) (hp_gLi (z := (0 + 0)) gL (List.mem_of_getElem? (i := 5) rfl) rfl (by omega)) (hp_gLi (z := (0 + 0)) gL (List.mem_of_getElem? (i := 6) rfl) rfl (by omega))
    cases hp
  · intro p hp ys v h' hys a1 a2 a3 gZ gS
    cases hp
theorem rwa_k : hp_chk 245 86 6 [(0, 0, 2), (1, 0, 30), (2, 0, 10), (3, 0, 9), (4, (-2147483648), 2147483647), (5, 0, 2)] [((-1), [(2, 1), (3, (-1))])] [(0, .inr (.inr (.inl (some 85)))), (1, .inl (0, [(0, 1)])), (2, .inr (.inr (.inl (some 17)))), (3, .inl (0, [(1, 1)])), (4, .inl (0, [(3, 1)])), (5, .inl (0, [(4, 1)])), (6, .inl (0, [(5, 1)]))] [] [(17920, (0, [(0, 1)]), (0, [(2, 1)]))] [] 2 [(86, ([(0, 5, (0, []))], 7, [(0, 0, 2), (1, 0, 30), (2, 0, 10), (3, 0, 9), (4, (-2147483648), 2147483647), (5, 0, 2), (6, (-2147483648), 2147483647)], [], [(0, .inr (.inr (.inl (some 85)))), (1, .inl (0, [(0, 1)])), (2, .inr (.inr (.inl (some 17)))), (3, .inl (0, [(1, 1)])), (4, .inl (0, [(3, 1)])), (5, .inl (0, [(6, 1)])), (6, .inl (1, [(5, 1)]))], [], [(17920, (0, [(0, 1)]), (0, [(2, 1)]))]))] [] = true := by decide +kernel
theorem rwa {cst : am_K} {strs : List Nat} {Φ : am_Q → Prop} {D : Nat} {M : am_M} {h : am_H} {l : am_L} (c : hp_C cst strs D) (hM : m_P[245]? = some M) (hD : (2 : Int) ≤ (D : Int) + 1) (hy : ly_hy m_tt ly_TH h) (r n q i w f : Int) (b0 : 0 ≤ r) (t0 : r ≤ 2) (b1 : 0 ≤ n) (t1 : n ≤ 30) (b2 : 0 ≤ q) (t2 : q ≤ 10) (b3 : 0 ≤ i) (t3 : i ≤ 9) (b4 : (-2147483648) ≤ w) (t4 : w ≤ 2147483647) (b5 : 0 ≤ f) (t5 : f ≤ 2) (f0 : 0 ≤ (q - i - 1)) (k0 : ly_hv cst h 17920 (r) = some (q)) (l0 : hp_a l 0 85) (l1 : hp_i l 1 (r)) (l2 : hp_a l 2 17) (l3 : hp_i l 3 (n)) (l4 : hp_i l 4 (i)) (l5 : hp_i l 5 (w)) (l6 : hp_i l 6 (f)) (e0 : ∀ (l' : am_L) (h' : am_H) (w2 : Int), ly_hy m_tt ly_TH h' → ly_fr cst [] h h' → h.length ≤ h'.length → (-2147483648) ≤ w2 → w2 ≤ 2147483647 → ly_hv cst h' 17920 (r) = some (q) → hp_a l' 0 85 → hp_i l' 1 (r) → hp_a l' 2 17 → hp_i l' 3 (n) → hp_i l' 4 (i) → hp_i l' 5 (w2) → hp_i l' 6 (f + 1) → hp_F cst strs Φ D M 86 l' [] h') : hp_F cst strs Φ D M 86 l [] h := by
  refine hp_arc c hM rwa_k hD [r, n, q, i, w, f] rfl hy (hp_Bc (z := r) rfl b0 t0 (hp_Bc (z := n) rfl b1 t1 (hp_Bc (z := q) rfl b2 t2 (hp_Bc (z := i) rfl b3 t3 (hp_Bc (z := w) rfl b4 t4 (hp_Bc (z := f) rfl b5 t5 hp_Bn)))))) (hp_Fc (z := ((-1) + (1 * q + ((-1) * i + 0)))) rfl (by omega) hp_Fn) (hp_Kc (zi := (0 + (1 * r + 0))) (zv := (0 + (1 * q + 0))) k0 rfl rfl (by omega) (by omega) hp_Kn) (hp_La l0 (hp_Li (z := (0 + (1 * r + 0))) l1 rfl (by omega) (hp_La l2 (hp_Li (z := (0 + (1 * n + 0))) l3 rfl (by omega) (hp_Li (z := (0 + (1 * i + 0))) l4 rfl (by omega) (hp_Li (z := (0 + (1 * w + 0))) l5 rfl (by omega) (hp_Li (z := (0 + (1 * f + 0))) l6 rfl (by omega) hp_Ln))))))) trivial ?_ ?_
  · intro p hp ys l' st' h' hys a1 a2 a3 gZ gL gS
    rcases List.mem_cons.mp hp with rfl | hp
    · obtain ⟨w2, rfl⟩ := hp_y1 hys
      cases hp_gSn gS
      exact e0 l' h' w2 a1 a2 a3 (hp_gB (z := w2) gZ.2.1 (List.mem_of_getElem? (i := 6) rfl) rfl).1 (hp_gB (z := w2) gZ.2.1 (List.mem_of_getElem? (i := 6) rfl) rfl).2 (hp_gK (zi := (0 + (1 * r + 0))) (zv := (0 + (1 * q + 0))) gZ.2.2.2 (List.mem_of_getElem? (i := 0) rfl) rfl rfl (by omega) (by omega)) (hp_gLa gL (List.mem_of_getElem? (i := 0) rfl) (by decide)) (hp_gLi (z := (0 + (1 * r + 0))) gL (List.mem_of_getElem? (i := 1) rfl) rfl (by omega)) (hp_gLa gL (List.mem_of_getElem? (i := 2) rfl) (by decide)) (hp_gLi (z := (0 + (1 * n + 0))) gL (List.mem_of_getElem? (i := 3) rfl) rfl (by omega)) (hp_gLi (z := (0 + (1 * i + 0))) gL (List.mem_of_getElem? (i := 4) rfl) rfl (by omega)) (hp_gLi (z := (0 + (1 * w2 + 0))) gL (List.mem_of_getElem? (i := 5) rfl) rfl (by omega)) (hp_gLi (z := (1 + (1 * f + 0))) gL (List.mem_of_getElem? (i := 6) rfl) rfl (by omega))
    cases hp
  · intro p hp ys v h' hys a1 a2 a3 gZ gS
    cases hp
theorem rwb_k : hp_chk 245 86 5 [(0, 0, 2), (1, 0, 30), (2, 0, 10), (3, 0, 9), (4, (-2147483648), 2147483647)] [((-1), [(2, 1), (3, (-1))])] [(0, .inr (.inr (.inl (some 85)))), (1, .inl (0, [(0, 1)])), (2, .inr (.inr (.inl (some 17)))), (3, .inl (0, [(1, 1)])), (4, .inl (0, [(3, 1)])), (5, .inl (0, [(4, 1)])), (6, .inl (3, []))] [] [(17920, (0, [(0, 1)]), (0, [(2, 1)]))] [18176] 2 [(69, ([], 5, [(0, 0, 2), (1, 0, 30), (2, 0, 10), (3, 0, 9), (4, (-2147483648), 2147483647)], [], [(0, .inr (.inr (.inl (some 85)))), (1, .inl (0, [(0, 1)])), (2, .inr (.inr (.inl (some 17)))), (3, .inl (0, [(1, 1)])), (4, .inl (1, [(3, 1)]))], [], [(17920, (0, [(0, 1)]), (0, [(2, 1)]))]))] [] = true := by decide +kernel
theorem rwb {cst : am_K} {strs : List Nat} {Φ : am_Q → Prop} {D : Nat} {M : am_M} {h : am_H} {l : am_L} (c : hp_C cst strs D) (hM : m_P[245]? = some M) (hD : (2 : Int) ≤ (D : Int) + 1) (hy : ly_hy m_tt ly_TH h) (r n q i w : Int) (b0 : 0 ≤ r) (t0 : r ≤ 2) (b1 : 0 ≤ n) (t1 : n ≤ 30) (b2 : 0 ≤ q) (t2 : q ≤ 10) (b3 : 0 ≤ i) (t3 : i ≤ 9) (b4 : (-2147483648) ≤ w) (t4 : w ≤ 2147483647) (f0 : 0 ≤ (q - i - 1)) (k0 : ly_hv cst h 17920 (r) = some (q)) (l0 : hp_a l 0 85) (l1 : hp_i l 1 (r)) (l2 : hp_a l 2 17) (l3 : hp_i l 3 (n)) (l4 : hp_i l 4 (i)) (l5 : hp_i l 5 (w)) (l6 : hp_i l 6 3) (e0 : ∀ (l' : am_L) (h' : am_H), ly_hy m_tt ly_TH h' → ly_fr cst [18176] h h' → h.length ≤ h'.length → ly_hv cst h' 17920 (r) = some (q) → hp_a l' 0 85 → hp_i l' 1 (r) → hp_a l' 2 17 → hp_i l' 3 (n) → hp_i l' 4 (i + 1) → hp_F cst strs Φ D M 69 l' [] h') : hp_F cst strs Φ D M 86 l [] h := by
  refine hp_arc c hM rwb_k hD [r, n, q, i, w] rfl hy (hp_Bc (z := r) rfl b0 t0 (hp_Bc (z := n) rfl b1 t1 (hp_Bc (z := q) rfl b2 t2 (hp_Bc (z := i) rfl b3 t3 (hp_Bc (z := w) rfl b4 t4 hp_Bn))))) (hp_Fc (z := ((-1) + (1 * q + ((-1) * i + 0)))) rfl (by omega) hp_Fn) (hp_Kc (zi := (0 + (1 * r + 0))) (zv := (0 + (1 * q + 0))) k0 rfl rfl (by omega) (by omega) hp_Kn) (hp_La l0 (hp_Li (z := (0 + (1 * r + 0))) l1 rfl (by omega) (hp_La l2 (hp_Li (z := (0 + (1 * n + 0))) l3 rfl (by omega) (hp_Li (z := (0 + (1 * i + 0))) l4 rfl (by omega) (hp_Li (z := (0 + (1 * w + 0))) l5 rfl (by omega) (hp_Li (z := (3 + 0)) l6 rfl (by omega) hp_Ln))))))) trivial ?_ ?_
  · intro p hp ys l' st' h' hys a1 a2 a3 gZ gL gS
    rcases List.mem_cons.mp hp with rfl | hp
    · obtain rfl := hp_y0 hys
      cases hp_gSn gS
      exact e0 l' h' a1 a2 a3 (hp_gK (zi := (0 + (1 * r + 0))) (zv := (0 + (1 * q + 0))) gZ.2.2.2 (List.mem_of_getElem? (i := 0) rfl) rfl rfl (by omega) (by omega)) (hp_gLa gL (List.mem_of_getElem? (i := 0) rfl) (by decide)) (hp_gLi (z := (0 + (1 * r + 0))) gL (List.mem_of_getElem? (i := 1) rfl) rfl (by omega)) (hp_gLa gL (List.mem_of_getElem? (i := 2) rfl) (by decide)) (hp_gLi (z := (0 + (1 * n + 0))) gL (List.mem_of_getElem? (i := 3) rfl) rfl (by omega)) (hp_gLi (z := (1 + (1 * i + 0))) gL (List.mem_of_getElem? (i := 4) rfl) rfl (by omega))
    cases hp
  · intro p hp ys v h' hys a1 a2 a3 gZ gS
    cases hp
theorem rwc_k : hp_chk 245 69 3 [(0, 0, 2), (1, 0, 30), (2, 0, 10)] [] [(0, .inr (.inr (.inl (some 85)))), (1, .inl (0, [(0, 1)])), (2, .inr (.inr (.inl (some 17)))), (3, .inl (0, [(1, 1)])), (4, .inl (0, [(2, 1)]))] [] [(17920, (0, [(0, 1)]), (0, [(2, 1)]))] [17669] 2 [] [([], 3, [(0, 0, 2), (1, 0, 30), (2, 0, 10)], [], [], [.inl (0, [(2, 1)])], [])] = true := by decide +kernel
theorem rwc {cst : am_K} {strs : List Nat} {Φ : am_Q → Prop} {D : Nat} {M : am_M} {h : am_H} {l : am_L} (c : hp_C cst strs D) (hM : m_P[245]? = some M) (hD : (2 : Int) ≤ (D : Int) + 1) (hy : ly_hy m_tt ly_TH h) (r n q : Int) (b0 : 0 ≤ r) (t0 : r ≤ 2) (b1 : 0 ≤ n) (t1 : n ≤ 30) (b2 : 0 ≤ q) (t2 : q ≤ 10) (k0 : ly_hv cst h 17920 (r) = some (q)) (l0 : hp_a l 0 85) (l1 : hp_i l 1 (r)) (l2 : hp_a l 2 17) (l3 : hp_i l 3 (n)) (l4 : hp_i l 4 (q)) (r0 : ∀ (h' : am_H) (y0 : Int32), y0.toInt = (q) → ly_hy m_tt ly_TH h' → ly_fr cst [17669] h h' → h.length ≤ h'.length → Φ (some (.int y0), h', 0, 0)) : hp_F cst strs Φ D M 69 l [] h := by
  refine hp_arc c hM rwc_k hD [r, n, q] rfl hy (hp_Bc (z := r) rfl b0 t0 (hp_Bc (z := n) rfl b1 t1 (hp_Bc (z := q) rfl b2 t2 hp_Bn))) hp_Fn (hp_Kc (zi := (0 + (1 * r + 0))) (zv := (0 + (1 * q + 0))) k0 rfl rfl (by omega) (by omega) hp_Kn) (hp_La l0 (hp_Li (z := (0 + (1 * r + 0))) l1 rfl (by omega) (hp_La l2 (hp_Li (z := (0 + (1 * n + 0))) l3 rfl (by omega) (hp_Li (z := (0 + (1 * q + 0))) l4 rfl (by omega) hp_Ln))))) trivial ?_ ?_
  · intro p hp ys l' st' h' hys a1 a2 a3 gZ gL gS
    cases hp
  · intro p hp ys v h' hys a1 a2 a3 gZ gS
    rcases List.mem_cons.mp hp with rfl | hp
    · obtain rfl := hp_y0 hys
      cases v with
      | none => cases gS
      | some w =>
        obtain ⟨y0, t0, s0, q0, -⟩ := hp_gSi (z := (0 + (1 * q + 0))) gS rfl
        cases s0
        exact r0 h' y0 (by omega) a1 a2 a3
    cases hp
theorem rr0_k : hp_chk 410 0 2 [(0, (-2147483648), (-1)), (1, 0, 1200)] [] [(0, .inr (.inr (.inl (some 94)))), (1, .inl (0, [(0, 1)]))] [] [(19969, (0, []), (0, [(1, 1)]))] [19969] 4 [] [([], 2, [(0, (-2147483648), (-1)), (1, 0, 1200)], [], [], [.inl ((-2), [])], [(19969, (0, []), (0, []))])] = true := by decide +kernel
theorem rr0 {cst : am_K} {strs : List Nat} {Φ : am_Q → Prop} {D : Nat} {M : am_M} {h : am_H} {l : am_L} (c : hp_C cst strs D) (hM : m_P[410]? = some M) (hD : (4 : Int) ≤ (D : Int) + 1) (hy : ly_hy m_tt ly_TH h) (r n : Int) (b0 : (-2147483648) ≤ r) (t0 : r ≤ (-1)) (b1 : 0 ≤ n) (t1 : n ≤ 1200) (k0 : ly_hv cst h 19969 0 = some (n)) (l0 : hp_a l 0 94) (l1 : hp_i l 1 (r)) (r0 : ∀ (h' : am_H) (y0 : Int32), y0.toInt = (-2) → ly_hy m_tt ly_TH h' → ly_fr cst [19969] h h' → h.length ≤ h'.length → ly_hv cst h' 19969 0 = some 0 → Φ (some (.int y0), h', 0, 0)) : hp_F cst strs Φ D M 0 l [] h := by
  refine hp_arc c hM rr0_k hD [r, n] rfl hy (hp_Bc (z := r) rfl b0 t0 (hp_Bc (z := n) rfl b1 t1 hp_Bn)) hp_Fn (hp_Kc (zi := (0 + 0)) (zv := (0 + (1 * n + 0))) k0 rfl rfl (by omega) (by omega) hp_Kn) (hp_La l0 (hp_Li (z := (0 + (1 * r + 0))) l1 rfl (by omega) hp_Ln)) trivial ?_ ?_
  · intro p hp ys l' st' h' hys a1 a2 a3 gZ gL gS
    cases hp
  · intro p hp ys v h' hys a1 a2 a3 gZ gS
    rcases List.mem_cons.mp hp with rfl | hp
    · obtain rfl := hp_y0 hys
      cases v with
      | none => cases gS
      | some w =>
        obtain ⟨y0, t0, s0, q0, -⟩ := hp_gSi (z := ((-2) + 0)) gS rfl
        cases s0
        exact r0 h' y0 (by omega) a1 a2 a3 (hp_gK (zi := (0 + 0)) (zv := (0 + 0)) gZ.2.2.2 (List.mem_of_getElem? (i := 0) rfl) rfl rfl (by omega) (by omega))
    cases hp
theorem rr1_k : hp_chk 410 0 2 [(0, 3, 2147483647), (1, 0, 1200)] [] [(0, .inr (.inr (.inl (some 94)))), (1, .inl (0, [(0, 1)]))] [] [(19969, (0, []), (0, [(1, 1)]))] [19969] 4 [] [([], 2, [(0, 3, 2147483647), (1, 0, 1200)], [], [], [.inl ((-2), [])], [(19969, (0, []), (0, []))])] = true := by decide +kernel
theorem rr1 {cst : am_K} {strs : List Nat} {Φ : am_Q → Prop} {D : Nat} {M : am_M} {h : am_H} {l : am_L} (c : hp_C cst strs D) (hM : m_P[410]? = some M) (hD : (4 : Int) ≤ (D : Int) + 1) (hy : ly_hy m_tt ly_TH h) (r n : Int) (b0 : 3 ≤ r) (t0 : r ≤ 2147483647) (b1 : 0 ≤ n) (t1 : n ≤ 1200) (k0 : ly_hv cst h 19969 0 = some (n)) (l0 : hp_a l 0 94) (l1 : hp_i l 1 (r)) (r0 : ∀ (h' : am_H) (y0 : Int32), y0.toInt = (-2) → ly_hy m_tt ly_TH h' → ly_fr cst [19969] h h' → h.length ≤ h'.length → ly_hv cst h' 19969 0 = some 0 → Φ (some (.int y0), h', 0, 0)) : hp_F cst strs Φ D M 0 l [] h := by
  refine hp_arc c hM rr1_k hD [r, n] rfl hy (hp_Bc (z := r) rfl b0 t0 (hp_Bc (z := n) rfl b1 t1 hp_Bn)) hp_Fn (hp_Kc (zi := (0 + 0)) (zv := (0 + (1 * n + 0))) k0 rfl rfl (by omega) (by omega) hp_Kn) (hp_La l0 (hp_Li (z := (0 + (1 * r + 0))) l1 rfl (by omega) hp_Ln)) trivial ?_ ?_
  · intro p hp ys l' st' h' hys a1 a2 a3 gZ gL gS
    cases hp
  · intro p hp ys v h' hys a1 a2 a3 gZ gS
    rcases List.mem_cons.mp hp with rfl | hp
    · obtain rfl := hp_y0 hys
      cases v with
      | none => cases gS
      | some w =>
        obtain ⟨y0, t0, s0, q0, -⟩ := hp_gSi (z := ((-2) + 0)) gS rfl
        cases s0
        exact r0 h' y0 (by omega) a1 a2 a3 (hp_gK (zi := (0 + 0)) (zv := (0 + 0)) gZ.2.2.2 (List.mem_of_getElem? (i := 0) rfl) rfl rfl (by omega) (by omega))
    cases hp
theorem rr2_k : hp_chk 410 0 2 [(0, 0, 2), (1, 0, 1200)] [] [(0, .inr (.inr (.inl (some 94)))), (1, .inl (0, [(0, 1)]))] [] [(19969, (0, []), (0, [(1, 1)]))] [19969] 4 [(24, ([], 2, [(0, 0, 2), (1, 0, 1200)], [], [(0, .inr (.inr (.inl (some 94)))), (1, .inl (0, [(0, 1)])), (2, .inl (0, [(1, 1)]))], [.inl (3, []), .inl (0, [(1, 1)])], [(19969, (0, []), (0, []))]))] [] = true := by decide +kernel
theorem rr2 {cst : am_K} {strs : List Nat} {Φ : am_Q → Prop} {D : Nat} {M : am_M} {h : am_H} {l : am_L} (c : hp_C cst strs D) (hM : m_P[410]? = some M) (hD : (4 : Int) ≤ (D : Int) + 1) (hy : ly_hy m_tt ly_TH h) (r n : Int) (b0 : 0 ≤ r) (t0 : r ≤ 2) (b1 : 0 ≤ n) (t1 : n ≤ 1200) (k0 : ly_hv cst h 19969 0 = some (n)) (l0 : hp_a l 0 94) (l1 : hp_i l 1 (r)) (e0 : ∀ (l' : am_L) (h' : am_H) (y0 : Int32) (y1 : Int32), y0.toInt = 3 → y1.toInt = (n) → ly_hy m_tt ly_TH h' → ly_fr cst [19969] h h' → h.length ≤ h'.length → ly_hv cst h' 19969 0 = some 0 → hp_a l' 0 94 → hp_i l' 1 (r) → hp_i l' 2 (n) → hp_F cst strs Φ D M 24 l' [.int y0, .int y1] h') : hp_F cst strs Φ D M 0 l [] h := by
  refine hp_arc c hM rr2_k hD [r, n] rfl hy (hp_Bc (z := r) rfl b0 t0 (hp_Bc (z := n) rfl b1 t1 hp_Bn)) hp_Fn (hp_Kc (zi := (0 + 0)) (zv := (0 + (1 * n + 0))) k0 rfl rfl (by omega) (by omega) hp_Kn) (hp_La l0 (hp_Li (z := (0 + (1 * r + 0))) l1 rfl (by omega) hp_Ln)) trivial ?_ ?_
  · intro p hp ys l' st' h' hys a1 a2 a3 gZ gL gS
    rcases List.mem_cons.mp hp with rfl | hp
    · obtain rfl := hp_y0 hys
      obtain ⟨y0, t0, rfl, q0, g0⟩ := hp_gSi (z := (3 + 0)) gS rfl
      obtain ⟨y1, t1, rfl, q1, g1⟩ := hp_gSi (z := (0 + (1 * n + 0))) g0 rfl
      cases hp_gSn g1
      exact e0 l' h' y0 y1 (by omega) (by omega) a1 a2 a3 (hp_gK (zi := (0 + 0)) (zv := (0 + 0)) gZ.2.2.2 (List.mem_of_getElem? (i := 0) rfl) rfl rfl (by omega) (by omega)) (hp_gLa gL (List.mem_of_getElem? (i := 0) rfl) (by decide)) (hp_gLi (z := (0 + (1 * r + 0))) gL (List.mem_of_getElem? (i := 1) rfl) rfl (by omega)) (hp_gLi (z := (0 + (1 * n + 0))) gL (List.mem_of_getElem? (i := 2) rfl) rfl (by omega))
    cases hp
  · intro p hp ys v h' hys a1 a2 a3 gZ gS
    cases hp
theorem rr3_k : hp_chk 410 25 3 [(0, 0, 2), (1, 0, 1200), (2, 1, 2)] [] [(0, .inr (.inr (.inl (some 94)))), (1, .inl (0, [(0, 1)])), (2, .inl (0, [(1, 1)]))] [.inl (0, [(2, 1)])] [(19969, (0, []), (0, []))] [] 2 [] [([], 3, [(0, 0, 2), (1, 0, 1200), (2, 1, 2)], [], [], [.inl ((-1), [])], [(19969, (0, []), (0, []))])] = true := by decide +kernel
theorem rr3 {cst : am_K} {strs : List Nat} {Φ : am_Q → Prop} {D : Nat} {M : am_M} {h : am_H} {l : am_L} (c : hp_C cst strs D) (hM : m_P[410]? = some M) (hD : (2 : Int) ≤ (D : Int) + 1) (hy : ly_hy m_tt ly_TH h) (r n m : Int) (x0 : Int32) (hx0 : x0.toInt = (m)) (b0 : 0 ≤ r) (t0 : r ≤ 2) (b1 : 0 ≤ n) (t1 : n ≤ 1200) (b2 : 1 ≤ m) (t2 : m ≤ 2) (k0 : ly_hv cst h 19969 0 = some 0) (l0 : hp_a l 0 94) (l1 : hp_i l 1 (r)) (l2 : hp_i l 2 (n)) (r0 : ∀ (h' : am_H) (y0 : Int32), y0.toInt = (-1) → ly_hy m_tt ly_TH h' → ly_fr cst [] h h' → h.length ≤ h'.length → ly_hv cst h' 19969 0 = some 0 → Φ (some (.int y0), h', 0, 0)) : hp_F cst strs Φ D M 25 l [.int x0] h := by
  refine hp_arc c hM rr3_k hD [r, n, m] rfl hy (hp_Bc (z := r) rfl b0 t0 (hp_Bc (z := n) rfl b1 t1 (hp_Bc (z := m) rfl b2 t2 hp_Bn))) hp_Fn (hp_Kc (zi := (0 + 0)) (zv := (0 + 0)) k0 rfl rfl (by omega) (by omega) hp_Kn) (hp_La l0 (hp_Li (z := (0 + (1 * r + 0))) l1 rfl (by omega) (hp_Li (z := (0 + (1 * n + 0))) l2 rfl (by omega) hp_Ln))) (hp_Si (z := (0 + (1 * m + 0))) rfl (by omega) trivial) ?_ ?_
  · intro p hp ys l' st' h' hys a1 a2 a3 gZ gL gS
    cases hp
  · intro p hp ys v h' hys a1 a2 a3 gZ gS
    rcases List.mem_cons.mp hp with rfl | hp
    · obtain rfl := hp_y0 hys
      cases v with
      | none => cases gS
      | some w =>
        obtain ⟨y0, t0, s0, q0, -⟩ := hp_gSi (z := ((-1) + 0)) gS rfl
        cases s0
        exact r0 h' y0 (by omega) a1 a2 a3 (hp_gK (zi := (0 + 0)) (zv := (0 + 0)) gZ.2.2.2 (List.mem_of_getElem? (i := 0) rfl) rfl rfl (by omega) (by omega))
    cases hp
theorem rr4_k : hp_chk 410 25 2 [(0, 0, 2), (1, 31, 1200)] [] [(0, .inr (.inr (.inl (some 94)))), (1, .inl (0, [(0, 1)])), (2, .inl (0, [(1, 1)]))] [.inl (0, [])] [(19969, (0, []), (0, []))] [] 2 [] [([], 2, [(0, 0, 2), (1, 31, 1200)], [], [], [.inl ((-1), [])], [(19969, (0, []), (0, []))])] = true := by decide +kernel
theorem rr4 {cst : am_K} {strs : List Nat} {Φ : am_Q → Prop} {D : Nat} {M : am_M} {h : am_H} {l : am_L} (c : hp_C cst strs D) (hM : m_P[410]? = some M) (hD : (2 : Int) ≤ (D : Int) + 1) (hy : ly_hy m_tt ly_TH h) (r n : Int) (x0 : Int32) (hx0 : x0.toInt = 0) (b0 : 0 ≤ r) (t0 : r ≤ 2) (b1 : 31 ≤ n) (t1 : n ≤ 1200) (k0 : ly_hv cst h 19969 0 = some 0) (l0 : hp_a l 0 94) (l1 : hp_i l 1 (r)) (l2 : hp_i l 2 (n)) (r0 : ∀ (h' : am_H) (y0 : Int32), y0.toInt = (-1) → ly_hy m_tt ly_TH h' → ly_fr cst [] h h' → h.length ≤ h'.length → ly_hv cst h' 19969 0 = some 0 → Φ (some (.int y0), h', 0, 0)) : hp_F cst strs Φ D M 25 l [.int x0] h := by
  refine hp_arc c hM rr4_k hD [r, n] rfl hy (hp_Bc (z := r) rfl b0 t0 (hp_Bc (z := n) rfl b1 t1 hp_Bn)) hp_Fn (hp_Kc (zi := (0 + 0)) (zv := (0 + 0)) k0 rfl rfl (by omega) (by omega) hp_Kn) (hp_La l0 (hp_Li (z := (0 + (1 * r + 0))) l1 rfl (by omega) (hp_Li (z := (0 + (1 * n + 0))) l2 rfl (by omega) hp_Ln))) (hp_Si (z := (0 + 0)) rfl (by omega) trivial) ?_ ?_
  · intro p hp ys l' st' h' hys a1 a2 a3 gZ gL gS
    cases hp
  · intro p hp ys v h' hys a1 a2 a3 gZ gS
    rcases List.mem_cons.mp hp with rfl | hp
    · obtain rfl := hp_y0 hys
      cases v with
      | none => cases gS
      | some w =>
        obtain ⟨y0, t0, s0, q0, -⟩ := hp_gSi (z := ((-1) + 0)) gS rfl
        cases s0
        exact r0 h' y0 (by omega) a1 a2 a3 (hp_gK (zi := (0 + 0)) (zv := (0 + 0)) gZ.2.2.2 (List.mem_of_getElem? (i := 0) rfl) rfl rfl (by omega) (by omega))
    cases hp
theorem rr5_k : hp_chk 410 25 2 [(0, 0, 2), (1, 0, 30)] [] [(0, .inr (.inr (.inl (some 94)))), (1, .inl (0, [(0, 1)])), (2, .inl (0, [(1, 1)]))] [.inl (0, [])] [(19969, (0, []), (0, []))] [] 2 [(38, ([], 2, [(0, 0, 2), (1, 0, 30)], [], [(0, .inr (.inr (.inl (some 94)))), (1, .inl (0, [(0, 1)])), (2, .inl (0, [(1, 1)])), (3, .inl (0, []))], [], [(19969, (0, []), (0, []))]))] [] = true := by decide +kernel
theorem rr5 {cst : am_K} {strs : List Nat} {Φ : am_Q → Prop} {D : Nat} {M : am_M} {h : am_H} {l : am_L} (c : hp_C cst strs D) (hM : m_P[410]? = some M) (hD : (2 : Int) ≤ (D : Int) + 1) (hy : ly_hy m_tt ly_TH h) (r n : Int) (x0 : Int32) (hx0 : x0.toInt = 0) (b0 : 0 ≤ r) (t0 : r ≤ 2) (b1 : 0 ≤ n) (t1 : n ≤ 30) (k0 : ly_hv cst h 19969 0 = some 0) (l0 : hp_a l 0 94) (l1 : hp_i l 1 (r)) (l2 : hp_i l 2 (n)) (e0 : ∀ (l' : am_L) (h' : am_H), ly_hy m_tt ly_TH h' → ly_fr cst [] h h' → h.length ≤ h'.length → ly_hv cst h' 19969 0 = some 0 → hp_a l' 0 94 → hp_i l' 1 (r) → hp_i l' 2 (n) → hp_i l' 3 0 → hp_F cst strs Φ D M 38 l' [] h') : hp_F cst strs Φ D M 25 l [.int x0] h := by
  refine hp_arc c hM rr5_k hD [r, n] rfl hy (hp_Bc (z := r) rfl b0 t0 (hp_Bc (z := n) rfl b1 t1 hp_Bn)) hp_Fn (hp_Kc (zi := (0 + 0)) (zv := (0 + 0)) k0 rfl rfl (by omega) (by omega) hp_Kn) (hp_La l0 (hp_Li (z := (0 + (1 * r + 0))) l1 rfl (by omega) (hp_Li (z := (0 + (1 * n + 0))) l2 rfl (by omega) hp_Ln))) (hp_Si (z := (0 + 0)) rfl (by omega) trivial) ?_ ?_
  · intro p hp ys l' st' h' hys a1 a2 a3 gZ gL gS
    rcases List.mem_cons.mp hp with rfl | hp
    · obtain rfl := hp_y0 hys
      cases hp_gSn gS
      exact e0 l' h' a1 a2 a3 (hp_gK (zi := (0 + 0)) (zv := (0 + 0)) gZ.2.2.2 (List.mem_of_getElem? (i := 0) rfl) rfl rfl (by omega) (by omega)) (hp_gLa gL (List.mem_of_getElem? (i := 0) rfl) (by decide)) (hp_gLi (z := (0 + (1 * r + 0))) gL (List.mem_of_getElem? (i := 1) rfl) rfl (by omega)) (hp_gLi (z := (0 + (1 * n + 0))) gL (List.mem_of_getElem? (i := 2) rfl) rfl (by omega)) (hp_gLi (z := (0 + 0)) gL (List.mem_of_getElem? (i := 3) rfl) rfl (by omega))
    cases hp
  · intro p hp ys v h' hys a1 a2 a3 gZ gS
    cases hp
theorem rr6_k : hp_chk 410 38 4 [(0, 0, 2), (1, 0, 30), (2, 0, 29), (3, 48, 57)] [((-1), [(1, 1), (2, (-1))])] [(0, .inr (.inr (.inl (some 94)))), (1, .inl (0, [(0, 1)])), (2, .inl (0, [(1, 1)])), (3, .inl (0, [(2, 1)]))] [] [(19969, (0, []), (0, [])), (20224, (0, [(2, 1)]), (0, [(3, 1)]))] [] 4 [(38, ([], 4, [(0, 0, 2), (1, 0, 30), (2, 0, 29), (3, 48, 57)], [], [(0, .inr (.inr (.inl (some 94)))), (1, .inl (0, [(0, 1)])), (2, .inl (0, [(1, 1)])), (3, .inl (1, [(2, 1)]))], [], [(19969, (0, []), (0, []))]))] [] = true := by decide +kernel
theorem rr6 {cst : am_K} {strs : List Nat} {Φ : am_Q → Prop} {D : Nat} {M : am_M} {h : am_H} {l : am_L} (c : hp_C cst strs D) (hM : m_P[410]? = some M) (hD : (4 : Int) ≤ (D : Int) + 1) (hy : ly_hy m_tt ly_TH h) (r n i b : Int) (b0 : 0 ≤ r) (t0 : r ≤ 2) (b1 : 0 ≤ n) (t1 : n ≤ 30) (b2 : 0 ≤ i) (t2 : i ≤ 29) (b3 : 48 ≤ b) (t3 : b ≤ 57) (f0 : 0 ≤ (n - i - 1)) (k0 : ly_hv cst h 19969 0 = some 0) (k1 : ly_hv cst h 20224 (i) = some (b)) (l0 : hp_a l 0 94) (l1 : hp_i l 1 (r)) (l2 : hp_i l 2 (n)) (l3 : hp_i l 3 (i)) (e0 : ∀ (l' : am_L) (h' : am_H), ly_hy m_tt ly_TH h' → ly_fr cst [] h h' → h.length ≤ h'.length → ly_hv cst h' 19969 0 = some 0 → hp_a l' 0 94 → hp_i l' 1 (r) → hp_i l' 2 (n) → hp_i l' 3 (i + 1) → hp_F cst strs Φ D M 38 l' [] h') : hp_F cst strs Φ D M 38 l [] h := by
  refine hp_arc c hM rr6_k hD [r, n, i, b] rfl hy (hp_Bc (z := r) rfl b0 t0 (hp_Bc (z := n) rfl b1 t1 (hp_Bc (z := i) rfl b2 t2 (hp_Bc (z := b) rfl b3 t3 hp_Bn)))) (hp_Fc (z := ((-1) + (1 * n + ((-1) * i + 0)))) rfl (by omega) hp_Fn) (hp_Kc (zi := (0 + 0)) (zv := (0 + 0)) k0 rfl rfl (by omega) (by omega) (hp_Kc (zi := (0 + (1 * i + 0))) (zv := (0 + (1 * b + 0))) k1 rfl rfl (by omega) (by omega) hp_Kn)) (hp_La l0 (hp_Li (z := (0 + (1 * r + 0))) l1 rfl (by omega) (hp_Li (z := (0 + (1 * n + 0))) l2 rfl (by omega) (hp_Li (z := (0 + (1 * i + 0))) l3 rfl (by omega) hp_Ln)))) trivial ?_ ?_
  · intro p hp ys l' st' h' hys a1 a2 a3 gZ gL gS
    rcases List.mem_cons.mp hp with rfl | hp
    · obtain rfl := hp_y0 hys
      cases hp_gSn gS
      exact e0 l' h' a1 a2 a3 (hp_gK (zi := (0 + 0)) (zv := (0 + 0)) gZ.2.2.2 (List.mem_of_getElem? (i := 0) rfl) rfl rfl (by omega) (by omega)) (hp_gLa gL (List.mem_of_getElem? (i := 0) rfl) (by decide)) (hp_gLi (z := (0 + (1 * r + 0))) gL (List.mem_of_getElem? (i := 1) rfl) rfl (by omega)) (hp_gLi (z := (0 + (1 * n + 0))) gL (List.mem_of_getElem? (i := 2) rfl) rfl (by omega)) (hp_gLi (z := (1 + (1 * i + 0))) gL (List.mem_of_getElem? (i := 3) rfl) rfl (by omega))
    cases hp
  · intro p hp ys v h' hys a1 a2 a3 gZ gS
    cases hp
theorem rr7_k : hp_chk 410 38 4 [(0, 0, 2), (1, 0, 30), (2, 0, 29), (3, (-128), 47)] [((-1), [(1, 1), (2, (-1))])] [(0, .inr (.inr (.inl (some 94)))), (1, .inl (0, [(0, 1)])), (2, .inl (0, [(1, 1)])), (3, .inl (0, [(2, 1)]))] [] [(19969, (0, []), (0, [])), (20224, (0, [(2, 1)]), (0, [(3, 1)]))] [] 4 [] [([], 4, [(0, 0, 2), (1, 0, 30), (2, 0, 29), (3, (-128), 47)], [], [], [.inl ((-1), [])], [(19969, (0, []), (0, []))])] = true := by decide +kernel
theorem rr7 {cst : am_K} {strs : List Nat} {Φ : am_Q → Prop} {D : Nat} {M : am_M} {h : am_H} {l : am_L} (c : hp_C cst strs D) (hM : m_P[410]? = some M) (hD : (4 : Int) ≤ (D : Int) + 1) (hy : ly_hy m_tt ly_TH h) (r n i b : Int) (b0 : 0 ≤ r) (t0 : r ≤ 2) (b1 : 0 ≤ n) (t1 : n ≤ 30) (b2 : 0 ≤ i) (t2 : i ≤ 29) (b3 : (-128) ≤ b) (t3 : b ≤ 47) (f0 : 0 ≤ (n - i - 1)) (k0 : ly_hv cst h 19969 0 = some 0) (k1 : ly_hv cst h 20224 (i) = some (b)) (l0 : hp_a l 0 94) (l1 : hp_i l 1 (r)) (l2 : hp_i l 2 (n)) (l3 : hp_i l 3 (i)) (r0 : ∀ (h' : am_H) (y0 : Int32), y0.toInt = (-1) → ly_hy m_tt ly_TH h' → ly_fr cst [] h h' → h.length ≤ h'.length → ly_hv cst h' 19969 0 = some 0 → Φ (some (.int y0), h', 0, 0)) : hp_F cst strs Φ D M 38 l [] h := by
  refine hp_arc c hM rr7_k hD [r, n, i, b] rfl hy (hp_Bc (z := r) rfl b0 t0 (hp_Bc (z := n) rfl b1 t1 (hp_Bc (z := i) rfl b2 t2 (hp_Bc (z := b) rfl b3 t3 hp_Bn)))) (hp_Fc (z := ((-1) + (1 * n + ((-1) * i + 0)))) rfl (by omega) hp_Fn) (hp_Kc (zi := (0 + 0)) (zv := (0 + 0)) k0 rfl rfl (by omega) (by omega) (hp_Kc (zi := (0 + (1 * i + 0))) (zv := (0 + (1 * b + 0))) k1 rfl rfl (by omega) (by omega) hp_Kn)) (hp_La l0 (hp_Li (z := (0 + (1 * r + 0))) l1 rfl (by omega) (hp_Li (z := (0 + (1 * n + 0))) l2 rfl (by omega) (hp_Li (z := (0 + (1 * i + 0))) l3 rfl (by omega) hp_Ln)))) trivial ?_ ?_
  · intro p hp ys l' st' h' hys a1 a2 a3 gZ gL gS
    cases hp
  · intro p hp ys v h' hys a1 a2 a3 gZ gS
    rcases List.mem_cons.mp hp with rfl | hp
    · obtain rfl := hp_y0 hys
      cases v with
      | none => cases gS
      | some w =>
        obtain ⟨y0, t0, s0, q0, -⟩ := hp_gSi (z := ((-1) + 0)) gS rfl
        cases s0
        exact r0 h' y0 (by omega) a1 a2 a3 (hp_gK (zi := (0 + 0)) (zv := (0 + 0)) gZ.2.2.2 (List.mem_of_getElem? (i := 0) rfl) rfl rfl (by omega) (by omega))
    cases hp
theorem rr8_k : hp_chk 410 38 4 [(0, 0, 2), (1, 0, 30), (2, 0, 29), (3, 58, 127)] [((-1), [(1, 1), (2, (-1))])] [(0, .inr (.inr (.inl (some 94)))), (1, .inl (0, [(0, 1)])), (2, .inl (0, [(1, 1)])), (3, .inl (0, [(2, 1)]))] [] [(19969, (0, []), (0, [])), (20224, (0, [(2, 1)]), (0, [(3, 1)]))] [] 4 [] [([], 4, [(0, 0, 2), (1, 0, 30), (2, 0, 29), (3, 58, 127)], [], [], [.inl ((-1), [])], [(19969, (0, []), (0, []))])] = true := by decide +kernel
theorem rr8 {cst : am_K} {strs : List Nat} {Φ : am_Q → Prop} {D : Nat} {M : am_M} {h : am_H} {l : am_L} (c : hp_C cst strs D) (hM : m_P[410]? = some M) (hD : (4 : Int) ≤ (D : Int) + 1) (hy : ly_hy m_tt ly_TH h) (r n i b : Int) (b0 : 0 ≤ r) (t0 : r ≤ 2) (b1 : 0 ≤ n) (t1 : n ≤ 30) (b2 : 0 ≤ i) (t2 : i ≤ 29) (b3 : 58 ≤ b) (t3 : b ≤ 127) (f0 : 0 ≤ (n - i - 1)) (k0 : ly_hv cst h 19969 0 = some 0) (k1 : ly_hv cst h 20224 (i) = some (b)) (l0 : hp_a l 0 94) (l1 : hp_i l 1 (r)) (l2 : hp_i l 2 (n)) (l3 : hp_i l 3 (i)) (r0 : ∀ (h' : am_H) (y0 : Int32), y0.toInt = (-1) → ly_hy m_tt ly_TH h' → ly_fr cst [] h h' → h.length ≤ h'.length → ly_hv cst h' 19969 0 = some 0 → Φ (some (.int y0), h', 0, 0)) : hp_F cst strs Φ D M 38 l [] h := by
  refine hp_arc c hM rr8_k hD [r, n, i, b] rfl hy (hp_Bc (z := r) rfl b0 t0 (hp_Bc (z := n) rfl b1 t1 (hp_Bc (z := i) rfl b2 t2 (hp_Bc (z := b) rfl b3 t3 hp_Bn)))) (hp_Fc (z := ((-1) + (1 * n + ((-1) * i + 0)))) rfl (by omega) hp_Fn) (hp_Kc (zi := (0 + 0)) (zv := (0 + 0)) k0 rfl rfl (by omega) (by omega) (hp_Kc (zi := (0 + (1 * i + 0))) (zv := (0 + (1 * b + 0))) k1 rfl rfl (by omega) (by omega) hp_Kn)) (hp_La l0 (hp_Li (z := (0 + (1 * r + 0))) l1 rfl (by omega) (hp_Li (z := (0 + (1 * n + 0))) l2 rfl (by omega) (hp_Li (z := (0 + (1 * i + 0))) l3 rfl (by omega) hp_Ln)))) trivial ?_ ?_
  · intro p hp ys l' st' h' hys a1 a2 a3 gZ gL gS
    cases hp
  · intro p hp ys v h' hys a1 a2 a3 gZ gS
    rcases List.mem_cons.mp hp with rfl | hp
    · obtain rfl := hp_y0 hys
      cases v with
      | none => cases gS
      | some w =>
        obtain ⟨y0, t0, s0, q0, -⟩ := hp_gSi (z := ((-1) + 0)) gS rfl
        cases s0
        exact r0 h' y0 (by omega) a1 a2 a3 (hp_gK (zi := (0 + 0)) (zv := (0 + 0)) gZ.2.2.2 (List.mem_of_getElem? (i := 0) rfl) rfl rfl (by omega) (by omega))
    cases hp
theorem rr9_k : hp_chk 410 38 2 [(0, 0, 2), (1, 0, 30)] [] [(0, .inr (.inr (.inl (some 94)))), (1, .inl (0, [(0, 1)])), (2, .inl (0, [(1, 1)])), (3, .inl (0, [(1, 1)]))] [] [(19969, (0, []), (0, []))] [] 2 [(65, ([], 2, [(0, 0, 2), (1, 0, 30)], [], [(0, .inr (.inr (.inl (some 94)))), (1, .inl (0, [(0, 1)])), (2, .inl (0, [(1, 1)])), (3, .inl (0, []))], [], [(19969, (0, []), (0, []))]))] [] = true := by decide +kernel
theorem rr9 {cst : am_K} {strs : List Nat} {Φ : am_Q → Prop} {D : Nat} {M : am_M} {h : am_H} {l : am_L} (c : hp_C cst strs D) (hM : m_P[410]? = some M) (hD : (2 : Int) ≤ (D : Int) + 1) (hy : ly_hy m_tt ly_TH h) (r n : Int) (b0 : 0 ≤ r) (t0 : r ≤ 2) (b1 : 0 ≤ n) (t1 : n ≤ 30) (k0 : ly_hv cst h 19969 0 = some 0) (l0 : hp_a l 0 94) (l1 : hp_i l 1 (r)) (l2 : hp_i l 2 (n)) (l3 : hp_i l 3 (n)) (e0 : ∀ (l' : am_L) (h' : am_H), ly_hy m_tt ly_TH h' → ly_fr cst [] h h' → h.length ≤ h'.length → ly_hv cst h' 19969 0 = some 0 → hp_a l' 0 94 → hp_i l' 1 (r) → hp_i l' 2 (n) → hp_i l' 3 0 → hp_F cst strs Φ D M 65 l' [] h') : hp_F cst strs Φ D M 38 l [] h := by
  refine hp_arc c hM rr9_k hD [r, n] rfl hy (hp_Bc (z := r) rfl b0 t0 (hp_Bc (z := n) rfl b1 t1 hp_Bn)) hp_Fn (hp_Kc (zi := (0 + 0)) (zv := (0 + 0)) k0 rfl rfl (by omega) (by omega) hp_Kn) (hp_La l0 (hp_Li (z := (0 + (1 * r + 0))) l1 rfl (by omega) (hp_Li (z := (0 + (1 * n + 0))) l2 rfl (by omega) (hp_Li (z := (0 + (1 * n + 0))) l3 rfl (by omega) hp_Ln)))) trivial ?_ ?_
  · intro p hp ys l' st' h' hys a1 a2 a3 gZ gL gS
    rcases List.mem_cons.mp hp with rfl | hp
    · obtain rfl := hp_y0 hys
      cases hp_gSn gS
      exact e0 l' h' a1 a2 a3 (hp_gK (zi := (0 + 0)) (zv := (0 + 0)) gZ.2.2.2 (List.mem_of_getElem? (i := 0) rfl) rfl rfl (by omega) (by omega)) (hp_gLa gL (List.mem_of_getElem? (i := 0) rfl) (by decide)) (hp_gLi (z := (0 + (1 * r + 0))) gL (List.mem_of_getElem? (i := 1) rfl) rfl (by omega)) (hp_gLi (z := (0 + (1 * n + 0))) gL (List.mem_of_getElem? (i := 2) rfl) rfl (by omega)) (hp_gLi (z := (0 + 0)) gL (List.mem_of_getElem? (i := 3) rfl) rfl (by omega))
    cases hp
  · intro p hp ys v h' hys a1 a2 a3 gZ gS
    cases hp
theorem rra_k : hp_chk 410 65 3 [(0, 0, 2), (1, 0, 30), (2, 0, 29)] [((-1), [(1, 1), (2, (-1))])] [(0, .inr (.inr (.inl (some 94)))), (1, .inl (0, [(0, 1)])), (2, .inl (0, [(1, 1)])), (3, .inl (0, [(2, 1)]))] [] [(19969, (0, []), (0, []))] [44032] 2 [(65, ([], 3, [(0, 0, 2), (1, 0, 30), (2, 0, 29)], [], [(0, .inr (.inr (.inl (some 94)))), (1, .inl (0, [(0, 1)])), (2, .inl (0, [(1, 1)])), (3, .inl (3, [(2, 1)]))], [], [(19969, (0, []), (0, []))]))] [] = true := by decide +kernel
theorem rra {cst : am_K} {strs : List Nat} {Φ : am_Q → Prop} {D : Nat} {M : am_M} {h : am_H} {l : am_L} (c : hp_C cst strs D) (hM : m_P[410]? = some M) (hD : (2 : Int) ≤ (D : Int) + 1) (hy : ly_hy m_tt ly_TH h) (r n i : Int) (b0 : 0 ≤ r) (t0 : r ≤ 2) (b1 : 0 ≤ n) (t1 : n ≤ 30) (b2 : 0 ≤ i) (t2 : i ≤ 29) (f0 : 0 ≤ (n - i - 1)) (k0 : ly_hv cst h 19969 0 = some 0) (l0 : hp_a l 0 94) (l1 : hp_i l 1 (r)) (l2 : hp_i l 2 (n)) (l3 : hp_i l 3 (i)) (e0 : ∀ (l' : am_L) (h' : am_H), ly_hy m_tt ly_TH h' → ly_fr cst [44032] h h' → h.length ≤ h'.length → ly_hv cst h' 19969 0 = some 0 → hp_a l' 0 94 → hp_i l' 1 (r) → hp_i l' 2 (n) → hp_i l' 3 (i + 3) → hp_F cst strs Φ D M 65 l' [] h') : hp_F cst strs Φ D M 65 l [] h := by
  refine hp_arc c hM rra_k hD [r, n, i] rfl hy (hp_Bc (z := r) rfl b0 t0 (hp_Bc (z := n) rfl b1 t1 (hp_Bc (z := i) rfl b2 t2 hp_Bn))) (hp_Fc (z := ((-1) + (1 * n + ((-1) * i + 0)))) rfl (by omega) hp_Fn) (hp_Kc (zi := (0 + 0)) (zv := (0 + 0)) k0 rfl rfl (by omega) (by omega) hp_Kn) (hp_La l0 (hp_Li (z := (0 + (1 * r + 0))) l1 rfl (by omega) (hp_Li (z := (0 + (1 * n + 0))) l2 rfl (by omega) (hp_Li (z := (0 + (1 * i + 0))) l3 rfl (by omega) hp_Ln)))) trivial ?_ ?_
  · intro p hp ys l' st' h' hys a1 a2 a3 gZ gL gS
    rcases List.mem_cons.mp hp with rfl | hp
    · obtain rfl := hp_y0 hys
      cases hp_gSn gS
      exact e0 l' h' a1 a2 a3 (hp_gK (zi := (0 + 0)) (zv := (0 + 0)) gZ.2.2.2 (List.mem_of_getElem? (i := 0) rfl) rfl rfl (by omega) (by omega)) (hp_gLa gL (List.mem_of_getElem? (i := 0) rfl) (by decide)) (hp_gLi (z := (0 + (1 * r + 0))) gL (List.mem_of_getElem? (i := 1) rfl) rfl (by omega)) (hp_gLi (z := (0 + (1 * n + 0))) gL (List.mem_of_getElem? (i := 2) rfl) rfl (by omega)) (hp_gLi (z := (3 + (1 * i + 0))) gL (List.mem_of_getElem? (i := 3) rfl) rfl (by omega))
    cases hp
  · intro p hp ys v h' hys a1 a2 a3 gZ gS
    cases hp
theorem rrb_k : hp_chk 410 65 4 [(0, 0, 2), (1, 0, 30), (2, 0, 32), (3, 0, 10)] [(0, [(1, (-1)), (2, 1)])] [(0, .inr (.inr (.inl (some 94)))), (1, .inl (0, [(0, 1)])), (2, .inl (0, [(1, 1)])), (3, .inl (0, [(2, 1)]))] [] [(19969, (0, []), (0, [])), (62003, (0, [(1, 1)]), (0, [(3, 1)]))] [20103, 44288] 2 [] [([], 4, [(0, 0, 2), (1, 0, 30), (2, 0, 32), (3, 0, 10)], [], [], [.inl (0, [(3, 1)])], [(19969, (0, []), (0, []))])] = true := by decide +kernel
theorem rrb {cst : am_K} {strs : List Nat} {Φ : am_Q → Prop} {D : Nat} {M : am_M} {h : am_H} {l : am_L} (c : hp_C cst strs D) (hM : m_P[410]? = some M) (hD : (2 : Int) ≤ (D : Int) + 1) (hy : ly_hy m_tt ly_TH h) (r n i q : Int) (b0 : 0 ≤ r) (t0 : r ≤ 2) (b1 : 0 ≤ n) (t1 : n ≤ 30) (b2 : 0 ≤ i) (t2 : i ≤ 32) (b3 : 0 ≤ q) (t3 : q ≤ 10) (f0 : 0 ≤ (i - n)) (k0 : ly_hv cst h 19969 0 = some 0) (k1 : ly_hv cst h 62003 (n) = some (q)) (l0 : hp_a l 0 94) (l1 : hp_i l 1 (r)) (l2 : hp_i l 2 (n)) (l3 : hp_i l 3 (i)) (r0 : ∀ (h' : am_H) (y0 : Int32), y0.toInt = (q) → ly_hy m_tt ly_TH h' → ly_fr cst [20103, 44288] h h' → h.length ≤ h'.length → ly_hv cst h' 19969 0 = some 0 → Φ (some (.int y0), h', 0, 0)) : hp_F cst strs Φ D M 65 l [] h := by
  refine hp_arc c hM rrb_k hD [r, n, i, q] rfl hy (hp_Bc (z := r) rfl b0 t0 (hp_Bc (z := n) rfl b1 t1 (hp_Bc (z := i) rfl b2 t2 (hp_Bc (z := q) rfl b3 t3 hp_Bn)))) (hp_Fc (z := (0 + ((-1) * n + (1 * i + 0)))) rfl (by omega) hp_Fn) (hp_Kc (zi := (0 + 0)) (zv := (0 + 0)) k0 rfl rfl (by omega) (by omega) (hp_Kc (zi := (0 + (1 * n + 0))) (zv := (0 + (1 * q + 0))) k1 rfl rfl (by omega) (by omega) hp_Kn)) (hp_La l0 (hp_Li (z := (0 + (1 * r + 0))) l1 rfl (by omega) (hp_Li (z := (0 + (1 * n + 0))) l2 rfl (by omega) (hp_Li (z := (0 + (1 * i + 0))) l3 rfl (by omega) hp_Ln)))) trivial ?_ ?_
  · intro p hp ys l' st' h' hys a1 a2 a3 gZ gL gS
    cases hp
  · intro p hp ys v h' hys a1 a2 a3 gZ gS
    rcases List.mem_cons.mp hp with rfl | hp
    · obtain rfl := hp_y0 hys
      cases v with
      | none => cases gS
      | some w =>
        obtain ⟨y0, t0, s0, q0, -⟩ := hp_gSi (z := (0 + (1 * q + 0))) gS rfl
        cases s0
        exact r0 h' y0 (by omega) a1 a2 a3 (hp_gK (zi := (0 + 0)) (zv := (0 + 0)) gZ.2.2.2 (List.mem_of_getElem? (i := 0) rfl) rfl rfl (by omega) (by omega))
    cases hp
noncomputable def tq_isR (mi pc : Nat) : Bool := match sx_ch 16 mi sx_T with
  | some m => Nat.beq m.1 mi && (match sx_find pc m.2.2.2.2 with
    | some (.irem, _) => true
    | _ => false)
  | none => false
theorem tq_remi {x y : Int32} (hy : 1 ≤ y.toInt) (hx : 0 ≤ x.toInt) : (x - x / y * y).toInt = x.toInt % y.toInt := by
  have t := Int.mul_tdiv_add_tmod x.toInt y.toInt
  have n := Int.tmod_nonneg y.toInt hx
  have tx := ly_top x
  have e1 : sx_min = -2147483648 := rfl
  have e2 : sx_max = 2147483647 := rfl
  have b := ly_tdiv_b (a := x.toInt) hy
  have p := Int.mul_nonneg (show 0 ≤ y.toInt by omega) (b.1 hx).1
  have hm : (x / y * y).toInt = y.toInt * x.toInt.tdiv y.toInt := by
    rw [Int32.toInt_mul, ly_div_i (x := x) hy, Int.mul_comm]
    exact sx_bm (by omega) (by omega)
  rw [Int32.toInt_sub, hm, show x.toInt - y.toInt * x.toInt.tdiv y.toInt = x.toInt.tmod y.toInt by omega, Int.tmod_eq_emod_of_nonneg hx]
  rw [Int.tmod_eq_emod_of_nonneg hx] at t n
  exact sx_bm (by omega) (by omega)
theorem tq_rem {cst : am_K} {strs : List Nat} {Φ : am_Q → Prop} {D mi pc : Nat} {M : am_M} {l : am_L} {st : List Value} {h : am_H} {x y : Int32} (hM : m_P[mi]? = some M) (hI : tq_isR mi pc = true) (hy : 1 ≤ y.toInt) (hx : 0 ≤ x.toInt)
    (k : ∀ z : Int32, z.toInt = x.toInt % y.toInt → hp_F cst strs Φ D M (pc + 1) l (.int z :: st) h) : hp_F cst strs Φ D M pc l (.int y :: .int x :: st) h := by
  unfold tq_isR at hI
  split at hI
  case h_2 => cases hI
  rename_i m hm
  rw [Bool.and_eq_true, sx_beqn] at hI
  obtain ⟨c0, hI⟩ := hI
  split at hI
  case h_2 => cases hI
  rename_i X hX
  obtain ⟨M', hM', hmok, -⟩ := sx_tok_m mi m hm c0
  rw [hM] at hM'
  cases hM'
  have hfind := hmok.2.2 _ _ hX
  have hne : ¬ y = 0 := by
    rintro rfl
    have : (0 : Int32).toInt = 0 := rfl
    omega
  have hs : am_s cst m_cl m_tt .irem X pc l (.int y :: .int x :: st) h = some (pc + 1, l, .int (x - x / y * y) :: st, h) := by
    simp only [am_s, if_neg hne]
  exact sx_Fin_step rfl (fun n r hgo => ⟨_, X, hfind, Or.inl ⟨_, hs, hgo⟩⟩) (k _ (tq_remi hy hx))
theorem th_SZ : ly_ths ly_TH 70 = some (.inl (.int, 3, 0, 10)) := rfl
theorem tq_d3 {n : Int} (n0 : 0 ≤ n) : n.tdiv 3 = n / 3 := Int.tdiv_eq_ediv_of_nonneg n0
/-- lines of a roll: as many figures as there are, three a line -/
def ro_d (f : Int → Option Int) (n : Int) : Prop := n % 3 = 0 ∧ n ≤ 30 ∧ ∀ k, 0 ≤ k → k < n → ∃ b, f k = some b ∧ 48 ≤ b ∧ b ≤ 57
def ro_a (f : Int → Option Int) (n r a : Int) : Prop := (¬ (0 ≤ r ∧ r ≤ 2) → a = -2) ∧ ((0 ≤ r ∧ r ≤ 2) → (¬ ro_d f n → a = -1) ∧ (ro_d f n → a = n / 3))
def ro_Φ (cst : am_K) (h : am_H) (mods : List Nat) (P : Int → Prop) (r : am_Q) : Prop := ∃ a : Int32, r.1 = some (.int a) ∧ r.2.2.1 = 0 ∧ r.2.2.2 = 0 ∧ ly_hy m_tt ly_TH r.2.1 ∧ ly_fr cst mods h r.2.1 ∧ P a.toInt
/-- write -/
theorem rw_run {cst : am_K} {strs : List Nat} {D : Nat} {h : am_H} (c : hp_C cst strs D) (hD : (4 : Int) ≤ (D : Int) + 1) (hy : ly_hy m_tt ly_TH h) {xr xn : Int32} {n : Int} (en : xn.toInt = n) (r0 : 0 ≤ xr.toInt) (r1 : xr.toInt ≤ 2) (n0 : 0 ≤ n) (n1 : n ≤ 1200) :
    ∃ r, am_Run cst m_cl m_tt m_P strs sx_bi (D + 1) 245 [.ref 85, .int xr, .ref 17, .int xn] h r ∧ (ro_Φ cst h [17669, 17920, 18176] (fun a => (¬ ro_d (ly_hv cst h 512) n → a = -1) ∧ (ro_d (ly_hv cst h 512) n → a = n / 3))) r := by
  obtain ⟨M, hM, hl⟩ := hp_M (mi := 245) (k := 4) (by decide +kernel)
  have go : hp_F cst strs (ro_Φ cst h [17669, 17920, 18176] (fun a => (¬ ro_d (ly_hv cst h 512) n → a = -1) ∧ (ro_d (ly_hv cst h 512) n → a = n / 3))) D M 0 (lv_args 0 [.ref 85, .int xr, .ref 17, .int xn]) [] h := by
    have no : ¬ ro_d (ly_hv cst h 512) n → ∀ (h' : am_H) (w : Int32), w.toInt = -1 → ly_hy m_tt ly_TH h' → ly_fr cst [] h h' → (ro_Φ cst h [17669, 17920, 18176] (fun a => (¬ ro_d (ly_hv cst h 512) n → a = -1) ∧ (ro_d (ly_hv cst h 512) n → a = n / 3))) (some (.int w), h', 0, 0) := fun nk h' w hw w1 w2 => ⟨w, rfl, rfl, rfl, w1, (fun r i x _ e => w2 r i x rfl e), fun _ => hw, fun ok => absurd ok nk⟩
    by_cases p1 : 31 ≤ n
    · exact rw0 c hM (by omega) hy xr.toInt n r0 r1 p1 n1 rfl ⟨xr, rfl, rfl⟩ rfl ⟨xn, rfl, en⟩ (fun h2 w hw u1 u2 u3 => no (fun k => by have := k.2.1; omega) h2 w hw u1 u2)
    refine rw1 c hM (by omega) hy xr.toInt n r0 r1 n0 (by omega) rfl ⟨xr, rfl, rfl⟩ rfl ⟨xn, rfl, en⟩ (fun l1 h1 y0 y1 f0 f1 u1 u2 u3 g0 g1 g2 g3 => ?_)
    refine tq_rem hM (by decide +kernel) (by omega) (by omega) (fun z hz => ?_)
    rw [f0, f1] at hz
    by_cases p2 : n % 3 = 0
    rotate_left
    · exact rw2 c hM (by omega) u1 xr.toInt n (n % 3) z hz r0 r1 n0 (by omega) (by omega) (by omega) g0 g1 g2 g3 (fun h2 w hw v1 v2 v3 => no (fun k => p2 k.1) h2 w hw v1 (ly_fr_tr u2 v2))
    rw [p2] at hz
    refine rw3 c hM (by omega) u1 xr.toInt n z hz r0 r1 n0 (by omega) g0 g1 g2 g3 (fun l2 h2 v1 v2 v3 j0 j1 j2 j3 j4 => ?_)
    -- the figures
    have dig : ∀ (N : Nat) (h' : am_H) (l' : am_L) (i : Int), (n - i).toNat < N → 0 ≤ i → i ≤ n → ly_hy m_tt ly_TH h' → ly_fr cst [] h h' → (∀ k, 0 ≤ k → k < i → ∃ b, ly_hv cst h 512 k = some b ∧ 48 ≤ b ∧ b ≤ 57) → hp_a l' 0 85 → hp_i l' 1 xr.toInt → hp_a l' 2 17 → hp_i l' 3 n → hp_i l' 4 i → hp_F cst strs (ro_Φ cst h [17669, 17920, 18176] (fun a => (¬ ro_d (ly_hv cst h 512) n → a = -1) ∧ (ro_d (ly_hv cst h 512) n → a = n / 3))) D M 26 l' [] h' := by
      intro N
      induction N with
      | zero => intro h' l' i hN; omega
      | succ N ih =>
        intro h' l' i hN i0 i1 hy' fr dg k0 k1 k2 k3 k4
        by_cases hi : i = n
        rotate_left
        · obtain ⟨b, kb, b0, b1⟩ := hp_row (cst := cst) (i := i) hy' th_CT i0 (by omega)
          have kb' : ly_hv cst h 512 i = some b := by
            rw [← hp_same th_CT rfl hy hy' fr]
            exact kb
          by_cases q1 : b ≤ 47
          · exact rw5 c hM (by omega) hy' xr.toInt n i b r0 r1 n0 (by omega) i0 (by omega) b0 q1 (by omega) kb k0 k1 k2 k3 k4 (fun h3 w hw t1 t2 t3 => no (fun k => by
              obtain ⟨b', h1, h2, h3⟩ := k.2.2 i i0 (by omega)
              rw [kb'] at h1
              cases h1
              omega) h3 w hw t1 (ly_fr_tr fr t2))
          by_cases q2 : 58 ≤ b
          · exact rw6 c hM (by omega) hy' xr.toInt n i b r0 r1 n0 (by omega) i0 (by omega) q2 b1 (by omega) kb k0 k1 k2 k3 k4 (fun h3 w hw t1 t2 t3 => no (fun k => by
              obtain ⟨b', h1, h2, h3⟩ := k.2.2 i i0 (by omega)
              rw [kb'] at h1
              cases h1
              omega) h3 w hw t1 (ly_fr_tr fr t2))
          exact rw4 c hM (by omega) hy' xr.toInt n i b r0 r1 n0 (by omega) i0 (by omega) (by omega) (by omega) (by omega) kb k0 k1 k2 k3 k4 (fun l3 h3 t1 t2 t3 m0 m1 m2 m3 m4 => ih h3 l3 (i + 1) (by omega) (by omega) (by omega) t1 (ly_fr_tr fr t2) (fun k' e0 e1 => if q : k' = i then by rw [q]; exact ⟨b, kb', by omega, by omega⟩ else dg k' e0 (by omega)) m0 m1 m2 m3 m4)
        · subst hi
          have ok : ro_d (ly_hv cst h 512) i := ⟨p2, by omega, dg⟩
          refine rw7 c hM (by omega) hy' xr.toInt i (i / 3) r0 r1 n0 (by omega) (by omega) (by omega) (by rw [← tq_d3 n0]; exact hp_pure 3 i (by decide)) k0 k1 k2 k3 k4 (fun l3 h3 w0 w1 e0 e1 t1 t2 t3 m0 m1 m2 m3 => ?_)
          refine hp_st (c := 70) hM (by decide +kernel) t1 th_SZ rfl (by omega) (by omega) (by omega) (by omega) (fun h4 s1 s2 s3 => ?_)
          rw [e0, e1] at s3
          have ml : ∀ {a b : am_H}, ly_fr cst [] a b → ly_fr cst [17669, 17920, 18176] a b := fun f r i v _ e => f r i v rfl e
          have fr4 : ly_fr cst [17669, 17920, 18176] h h4 := ly_fr_tr (ml fr) (ly_fr_tr (ml t2) (hp_put_fr (by rfl) s3))
          refine rw8 c hM (by omega) s1 xr.toInt i (i / 3) r0 r1 n0 (by omega) (by omega) (by omega) s3.1 m0 m1 m2 m3 (fun l5 h5 o1 o2 o3 ko5 z0 z1 z2 z3 z4 => ?_)
          -- the lines
          have lines : ∀ (N' : Nat) (h' : am_H) (l' : am_L) (j : Int), (i / 3 - j).toNat < N' → 0 ≤ j → j ≤ i / 3 → ly_hy m_tt ly_TH h' → ly_fr cst [17669, 17920, 18176] h h' → ly_hv cst h' 17920 xr.toInt = some (i / 3) → hp_a l' 0 85 → hp_i l' 1 xr.toInt → hp_a l' 2 17 → hp_i l' 3 i → hp_i l' 4 j → hp_F cst strs (ro_Φ cst h [17669, 17920, 18176] (fun a => (¬ ro_d (ly_hv cst h 512) i → a = -1) ∧ (ro_d (ly_hv cst h 512) i → a = i / 3))) D M 69 l' [] h' := by
            intro N'
            induction N' with
            | zero => intro h' l' j hN; omega
            | succ N' ih' =>
              intro h' l' j hN j0 j1 hy2 fr2 ks a0 a1 a2 a3 a4
              by_cases hj : j = i / 3
              · rw [hj] at a4
                exact rwc c hM (by omega) hy2 xr.toInt i (i / 3) r0 r1 n0 (by omega) (by omega) (by omega) ks a0 a1 a2 a3 a4 (fun h6 w hw t1 t2 t3 => ⟨w, rfl, rfl, rfl, t1, ly_fr_tr fr2 (hp_sub2 rfl t2), fun nk => absurd ok nk, fun _ => hw⟩)
              · refine rw9 c hM (by omega) hy2 xr.toInt i (i / 3) j r0 r1 n0 (by omega) (by omega) (by omega) j0 (by omega) (by omega) ks a0 a1 a2 a3 a4 (fun l6 h6 t1 t2 t3 k6 b0 b1 b2 b3 b4 b5 b6 => ?_)
                have inner : ∀ (n3 f : Nat), f + n3 = 3 → ∀ (h' : am_H) (l' : am_L) (w : Int), -2147483648 ≤ w → w ≤ 2147483647 → ly_hy m_tt ly_TH h' → ly_fr cst [17669, 17920, 18176] h h' → ly_hv cst h' 17920 xr.toInt = some (i / 3) → hp_a l' 0 85 → hp_i l' 1 xr.toInt → hp_a l' 2 17 → hp_i l' 3 i → hp_i l' 4 j → hp_i l' 5 w → hp_i l' 6 (f : Int) → hp_F cst strs (ro_Φ cst h [17669, 17920, 18176] (fun a => (¬ ro_d (ly_hv cst h 512) i → a = -1) ∧ (ro_d (ly_hv cst h 512) i → a = i / 3))) D M 86 l' [] h' := by
                  intro n3
                  induction n3 with
                  | zero =>
                    intro f hf h' l' w w0 w1 hy3 fr3 ks3 d0 d1 d2 d3 d4 d5 d6
                    have e : f = 3 := by omega
                    subst e
                    exact rwb c hM (by omega) hy3 xr.toInt i (i / 3) j w r0 r1 n0 (by omega) (by omega) (by omega) j0 (by omega) w0 w1 (by omega) ks3 d0 d1 d2 d3 d4 d5 d6 (fun l7 h7 x1 x2 x3 k7 e0 e1 e2 e3 e4 => ih' h7 l7 (j + 1) (by omega) (by omega) (by omega) x1 (ly_fr_tr fr3 (hp_sub2 rfl x2)) k7 e0 e1 e2 e3 e4)
                  | succ n3 ih3 =>
                    intro f hf h' l' w w0 w1 hy3 fr3 ks3 d0 d1 d2 d3 d4 d5 d6
                    exact rwa c hM (by omega) hy3 xr.toInt i (i / 3) j w (f : Int) r0 r1 n0 (by omega) (by omega) (by omega) j0 (by omega) w0 w1 (by omega) (by omega) (by omega) ks3 d0 d1 d2 d3 d4 d5 d6 (fun l7 h7 w2 x1 x2 x3 y0 y1 k7 e0 e1 e2 e3 e4 e5 e6 => ih3 (f + 1) (by omega) h7 l7 w2 y0 y1 x1 (ly_fr_tr fr3 (ml x2)) k7 e0 e1 e2 e3 e4 e5 (by rw [show ((f + 1 : Nat) : Int) = (f : Int) + 1 by omega]; exact e6))
                exact inner 3 0 (by omega) h6 l6 0 (by omega) (by omega) t1 (ly_fr_tr fr2 (ml t2)) k6 b0 b1 b2 b3 b4 b5 b6
          exact lines ((i / 3 - 0).toNat + 1) h5 l5 0 (Nat.lt_succ_self _) (by omega) (by omega) o1 (ly_fr_tr fr4 (ml o2)) ko5 z0 z1 z2 z3 z4
    exact dig ((n - 0).toNat + 1) h2 l2 0 (Nat.lt_succ_self _) (by omega) n0 v1 (ly_fr_tr u2 v2) (fun k k0 k1 => by omega) j0 j1 j2 j3 j4
  obtain ⟨n', r, hgo, a, r1', r2, r3, r4⟩ := go
  simp only [Nat.zero_add] at r2 r3
  exact ⟨r, Or.inr ⟨M, n', hM, hl, hgo⟩, a, r1', r2, r3, r4⟩
theorem ro_run {cst : am_K} {strs : List Nat} {D : Nat} {h : am_H} (c1 : hp_C cst strs D) (c : hp_C cst strs (D + 1)) (hD : (4 : Int) ≤ (D : Int) + 1) (hy : ly_hy m_tt ly_TH h) {xr : Int32} {n : Int} (n0 : 0 ≤ n) (n1 : n ≤ 1200) (kn : ly_hv cst h 257 0 = some n) :
    ∃ r, am_Run cst m_cl m_tt m_P strs sx_bi (D + 1 + 1) 244 [.ref 16, .int xr] h r ∧ ro_Φ cst h [257, 17669, 17920, 18176] (fun a => ro_a (ly_hv cst h 512) n xr.toInt a) r ∧ ly_hv cst r.2.1 257 0 = some 0 := by
  obtain ⟨M, hM, hl⟩ := hp_M (mi := 244) (k := 2) (by decide +kernel)
  have go : hp_F cst strs (fun r => (ro_Φ cst h [257, 17669, 17920, 18176] (fun a => ro_a (ly_hv cst h 512) n xr.toInt a)) r ∧ ly_hv cst r.2.1 257 0 = some 0) (D + 1) M 0 (lv_args 0 [.ref 16, .int xr]) [] h := by
    refine ro1 c hM (by omega) hy xr.toInt n xr.le_toInt xr.toInt_le n0 n1 kn rfl ⟨xr, rfl, rfl⟩ (fun l1 h1 u1 u2 u3 k1 g0 g1 => ?_)
    have go2 : ∃ r, am_Run cst m_cl m_tt m_P strs sx_bi (D + 1) 72 [.ref 17] h1 r ∧ (∃ a : Int32, r.1 = some (.int a) ∧ a.toInt = n) ∧ r.2.2.1 = 0 ∧ r.2.2.2 = 0 ∧ ly_hy m_tt ly_TH r.2.1 ∧ ly_fr cst [257] h1 r.2.1 ∧ ly_hv cst r.2.1 257 0 = some 0 := by
      obtain ⟨M2, hM2, hl2⟩ := hp_M (mi := 72) (k := 1) (by decide +kernel)
      obtain ⟨n', r, hgo, ra, r2, r3, r4⟩ := ro0 (Φ := fun r => (∃ a : Int32, r.1 = some (.int a) ∧ a.toInt = n) ∧ r.2.2.1 = 0 ∧ r.2.2.2 = 0 ∧ ly_hy m_tt ly_TH r.2.1 ∧ ly_fr cst [257] h1 r.2.1 ∧ ly_hv cst r.2.1 257 0 = some 0) c1 hM2 (by omega) u1 n n0 n1 k1 (l := lv_args 0 [.ref 17]) rfl (fun h2 a ha w1 w2 w3 k2 => ⟨⟨a, rfl, ha⟩, rfl, rfl, w1, w2, k2⟩)
      simp only [Nat.zero_add] at r2 r3
      exact ⟨r, Or.inr ⟨M2, n', hM2, hl2, hgo⟩, ra, r2, r3, r4⟩
    obtain ⟨r, hrun, ⟨a, ra, ea⟩, r2, r3, rhy, rfr, rk⟩ := go2
    refine hp_call (mi := 244) (pc := 4) (tg := 72) (na := 1) (c := 1) (ci := 1) (st0 := [.ref 17]) (st := []) (av := []) hM (by decide +kernel) u1 rfl rfl rfl (by decide) hrun r2 r3 ?_
    rw [ra]
    have frA : ly_fr cst [257, 17669, 17920, 18176] h r.2.1 := ly_fr_tr (fun r i x _ e => u2 r i x rfl e) (hp_sub2 rfl rfr)
    have ml : ∀ {a b : am_H}, ly_fr cst [] a b → ly_fr cst [257, 17669, 17920, 18176] a b := fun f r i v _ e => f r i v rfl e
    by_cases p1 : xr.toInt ≤ -1
    · exact ro2 c hM (by omega) rhy xr.toInt n a ea xr.le_toInt p1 n0 n1 g0 g1 (fun h2 w hw v1 v2 v3 => ⟨⟨w, rfl, rfl, rfl, v1, ly_fr_tr frA (ml v2), fun _ => hw, fun ok => by omega⟩, v2 _ _ _ rfl rk⟩)
    by_cases p2 : 3 ≤ xr.toInt
    · exact ro3 c hM (by omega) rhy xr.toInt n a ea p2 xr.toInt_le n0 n1 g0 g1 (fun h2 w hw v1 v2 v3 => ⟨⟨w, rfl, rfl, rfl, v1, ly_fr_tr frA (ml v2), fun _ => hw, fun ok => by omega⟩, v2 _ _ _ rfl rk⟩)
    refine ro4 c hM (by omega) rhy xr.toInt n a ea (by omega) (by omega) n0 n1 g0 g1 (fun l3 h3 y0 y2 f0 f2 w1 w2 w3 j0 => ?_)
    obtain ⟨r', hrun', b, s1, s2, s3, shy, sfr, sP⟩ := rw_run (xr := y2) (xn := y0) c1 (by omega) w1 f0 (by omega) (by omega) n0 n1
    refine hp_call (mi := 244) (pc := 27) (tg := 245) (na := 4) (c := 69) (ci := 10) (st0 := [.int y0, .ref 17, .int y2, .ref 85]) (st := []) (av := [.int y2, .ref 17, .int y0]) hM (by decide +kernel) w1 rfl rfl rfl (by decide) hrun' s2 s3 ?_
    rw [s1]
    rw [hp_same th_CT rfl rhy w1 w2, hp_same th_CT rfl u1 rhy rfr, hp_same th_CT rfl hy u1 u2] at sP
    exact ro5 c hM (by omega) shy b.toInt b rfl b.le_toInt b.toInt_le j0 (fun h4 w hw v1 v2 v3 => ⟨⟨w, rfl, rfl, rfl, v1, ly_fr_tr frA (ly_fr_tr (ml w2) (ly_fr_tr (hp_sub2 rfl sfr) (ml v2))), fun nk => absurd ⟨by omega, by omega⟩ nk, fun _ => by rw [hw]; exact sP⟩, v2 _ _ _ rfl (sfr _ _ _ rfl (w2 _ _ _ rfl rk))⟩)
  obtain ⟨n', r, hgo, ⟨a, r1, r2, r3, r4⟩, r5⟩ := go
  simp only [Nat.zero_add] at r2 r3
  exact ⟨r, Or.inr ⟨M, n', hM, hl, hgo⟩, ⟨a, r1, r2, r3, r4⟩, r5⟩
theorem rr_run {cst : am_K} {strs : List Nat} {D : Nat} {h : am_H} (c : hp_C cst strs D) (hD : (4 : Int) ≤ (D : Int) + 1) (hy : ly_hy m_tt ly_TH h) {xr : Int32} {n : Int} (n0 : 0 ≤ n) (n1 : n ≤ 1200) (kn : ly_hv cst h 19969 0 = some n) :
    ∃ r, am_Run cst m_cl m_tt m_P strs sx_bi (D + 1) 410 [.ref 94, .int xr] h r ∧ ro_Φ cst h [19969, 20103, 44032, 44288] (fun a => ro_a (ly_hv cst h 20224) n xr.toInt a) r ∧ ly_hv cst r.2.1 19969 0 = some 0 := by
  obtain ⟨M, hM, hl⟩ := hp_M (mi := 410) (k := 2) (by decide +kernel)
  have go : hp_F cst strs (fun r => (ro_Φ cst h [19969, 20103, 44032, 44288] (fun a => ro_a (ly_hv cst h 20224) n xr.toInt a)) r ∧ ly_hv cst r.2.1 19969 0 = some 0) D M 0 (lv_args 0 [.ref 94, .int xr]) [] h := by
    by_cases p1 : xr.toInt ≤ -1
    · exact rr0 c hM (by omega) hy xr.toInt n xr.le_toInt p1 n0 n1 kn rfl ⟨xr, rfl, rfl⟩ (fun h2 w hw v1 v2 v3 k2 => ⟨⟨w, rfl, rfl, rfl, v1, hp_sub2 rfl v2, fun _ => hw, fun ok => by omega⟩, k2⟩)
    by_cases p2 : 3 ≤ xr.toInt
    · exact rr1 c hM (by omega) hy xr.toInt n p2 xr.toInt_le n0 n1 kn rfl ⟨xr, rfl, rfl⟩ (fun h2 w hw v1 v2 v3 k2 => ⟨⟨w, rfl, rfl, rfl, v1, hp_sub2 rfl v2, fun _ => hw, fun ok => by omega⟩, k2⟩)
    have r0 : 0 ≤ xr.toInt := by omega
    have r1 : xr.toInt ≤ 2 := by omega
    have ml : ∀ {a b : am_H}, ly_fr cst [] a b → ly_fr cst [19969, 20103, 44032, 44288] a b := fun f r i v _ e => f r i v rfl e
    have no : ¬ ro_d (ly_hv cst h 20224) n → ∀ (h' : am_H) (w : Int32), w.toInt = -1 → ly_hy m_tt ly_TH h' → ly_fr cst [19969, 20103, 44032, 44288] h h' → ly_hv cst h' 19969 0 = some 0 → ((ro_Φ cst h [19969, 20103, 44032, 44288] (fun a => ro_a (ly_hv cst h 20224) n xr.toInt a)) (some (.int w), h', 0, 0) ∧ ly_hv cst h' 19969 0 = some 0) := fun nk h' w hw w1 w2 w3 => ⟨⟨w, rfl, rfl, rfl, w1, w2, fun z => absurd ⟨r0, r1⟩ z, fun _ => ⟨fun _ => hw, fun ok => absurd ok nk⟩⟩, w3⟩
    refine rr2 c hM (by omega) hy xr.toInt n r0 r1 n0 n1 kn rfl ⟨xr, rfl, rfl⟩ (fun l1 h1 y0 y1 f0 f1 u1 u2 u3 k1 g0 g1 g2 => ?_)
    have frA : ly_fr cst [19969, 20103, 44032, 44288] h h1 := hp_sub2 rfl u2
    refine tq_rem hM (by decide +kernel) (by omega) (by omega) (fun z hz => ?_)
    rw [f0, f1] at hz
    by_cases p3 : n % 3 = 0
    rotate_left
    · exact rr3 c hM (by omega) u1 xr.toInt n (n % 3) z hz r0 r1 n0 n1 (by omega) (by omega) k1 g0 g1 g2 (fun h2 w hw v1 v2 v3 k2 => no (fun k => p3 k.1) h2 w hw v1 (ly_fr_tr frA (ml v2)) k2)
    rw [p3] at hz
    by_cases p4 : 31 ≤ n
    · exact rr4 c hM (by omega) u1 xr.toInt n z hz r0 r1 p4 n1 k1 g0 g1 g2 (fun h2 w hw v1 v2 v3 k2 => no (fun k => by have := k.2.1; omega) h2 w hw v1 (ly_fr_tr frA (ml v2)) k2)
    refine rr5 c hM (by omega) u1 xr.toInt n z hz r0 r1 n0 (by omega) k1 g0 g1 g2 (fun l2 h2 v1 v2 v3 k2 j0 j1 j2 j3 => ?_)
    have dig : ∀ (N : Nat) (h' : am_H) (l' : am_L) (i : Int), (n - i).toNat < N → 0 ≤ i → i ≤ n → ly_hy m_tt ly_TH h' → ly_fr cst [19969] h h' → ly_hv cst h' 19969 0 = some 0 → (∀ k, 0 ≤ k → k < i → ∃ b, ly_hv cst h 20224 k = some b ∧ 48 ≤ b ∧ b ≤ 57) → hp_a l' 0 94 → hp_i l' 1 xr.toInt → hp_i l' 2 n → hp_i l' 3 i → hp_F cst strs (fun r => (ro_Φ cst h [19969, 20103, 44032, 44288] (fun a => ro_a (ly_hv cst h 20224) n xr.toInt a)) r ∧ ly_hv cst r.2.1 19969 0 = some 0) D M 38 l' [] h' := by
      intro N
      induction N with
      | zero => intro h' l' i hN; omega
      | succ N ih =>
        intro h' l' i hN i0 i1 hy' fr kt dg k0 k1 k2 k3
        by_cases hi : i = n
        rotate_left
        · obtain ⟨b, kb, b0, b1⟩ := hp_rowb (cst := cst) (i := i) hy' th_BT i0 (by omega)
          have kb' : ly_hv cst h 20224 i = some b := by
            rw [← hp_sameb th_BT rfl hy hy' fr]
            exact kb
          by_cases q1 : b ≤ 47
          · exact rr7 c hM (by omega) hy' xr.toInt n i b r0 r1 n0 (by omega) i0 (by omega) b0 q1 (by omega) kt kb k0 k1 k2 k3 (fun h3 w hw t1 t2 t3 k4 => no (fun k => by
              obtain ⟨b', h1, h2, h3⟩ := k.2.2 i i0 (by omega)
              rw [kb'] at h1
              cases h1
              omega) h3 w hw t1 (ly_fr_tr (hp_sub2 rfl fr) (ml t2)) k4)
          by_cases q2 : 58 ≤ b
          · exact rr8 c hM (by omega) hy' xr.toInt n i b r0 r1 n0 (by omega) i0 (by omega) q2 b1 (by omega) kt kb k0 k1 k2 k3 (fun h3 w hw t1 t2 t3 k4 => no (fun k => by
              obtain ⟨b', h1, h2, h3⟩ := k.2.2 i i0 (by omega)
              rw [kb'] at h1
              cases h1
              omega) h3 w hw t1 (ly_fr_tr (hp_sub2 rfl fr) (ml t2)) k4)
          exact rr6 c hM (by omega) hy' xr.toInt n i b r0 r1 n0 (by omega) i0 (by omega) (by omega) (by omega) (by omega) kt kb k0 k1 k2 k3 (fun l3 h3 t1 t2 t3 k4 m0 m1 m2 m3 => ih h3 l3 (i + 1) (by omega) (by omega) (by omega) t1 (ly_fr_tr fr (fun r i v _ e => t2 r i v rfl e)) k4 (fun k' e0 e1 => if q : k' = i then by rw [q]; exact ⟨b, kb', by omega, by omega⟩ else dg k' e0 (by omega)) m0 m1 m2 m3)
        · subst hi
          have ok : ro_d (ly_hv cst h 20224) i := ⟨p3, by omega, dg⟩
          refine rr9 c hM (by omega) hy' xr.toInt i r0 r1 n0 (by omega) kt k0 k1 k2 k3 (fun l3 h3 t1 t2 t3 k4 m0 m1 m2 m3 => ?_)
          have lines : ∀ (N' : Nat) (h' : am_H) (l' : am_L) (j : Int), (i - j).toNat < N' → 0 ≤ j → j ≤ i + 2 → ly_hy m_tt ly_TH h' → ly_fr cst [19969, 20103, 44032, 44288] h h' → ly_hv cst h' 19969 0 = some 0 → hp_a l' 0 94 → hp_i l' 1 xr.toInt → hp_i l' 2 i → hp_i l' 3 j → hp_F cst strs (fun r => (ro_Φ cst h [19969, 20103, 44032, 44288] (fun a => ro_a (ly_hv cst h 20224) i xr.toInt a)) r ∧ ly_hv cst r.2.1 19969 0 = some 0) D M 65 l' [] h' := by
            intro N'
            induction N' with
            | zero => intro h' l' j hN; omega
            | succ N' ih' =>
              intro h' l' j hN j0 j1 hy2 fr2 ks a0 a1 a2 a3
              by_cases hj : i ≤ j
              · exact rrb c hM (by omega) hy2 xr.toInt i j (i / 3) r0 r1 n0 (by omega) j0 (by omega) (by omega) (by omega) (by omega) ks (by rw [← tq_d3 n0]; exact hp_pure 3 i (by decide)) a0 a1 a2 a3 (fun h6 w hw t1 t2 t3 k6 => ⟨⟨w, rfl, rfl, rfl, t1, ly_fr_tr fr2 (hp_sub2 rfl t2), fun z => absurd ⟨r0, r1⟩ z, fun _ => ⟨fun nk => absurd ok nk, fun _ => hw⟩⟩, k6⟩)
              · exact rra c hM (by omega) hy2 xr.toInt i j r0 r1 n0 (by omega) j0 (by omega) (by omega) ks a0 a1 a2 a3 (fun l6 h6 t1 t2 t3 k6 b0 b1 b2 b3 => ih' h6 l6 (j + 3) (by omega) (by omega) (by omega) t1 (ly_fr_tr fr2 (hp_sub2 rfl t2)) k6 b0 b1 b2 b3)
          exact lines ((i - 0).toNat + 1) h3 l3 0 (Nat.lt_succ_self _) (by omega) (by omega) t1 (ly_fr_tr (hp_sub2 rfl fr) (ml t2)) k4 m0 m1 m2 m3
    exact dig ((n - 0).toNat + 1) h2 l2 0 (Nat.lt_succ_self _) (by omega) n0 v1 (ly_fr_tr u2 (fun r i v _ e => v2 r i v rfl e)) k2 (fun k k0 k1 => by omega) j0 j1 j2 j3
  obtain ⟨n', r, hgo, ⟨a, r1, r2, r3, r4⟩, r5⟩ := go
  simp only [Nat.zero_add] at r2 r3
  exact ⟨r, Or.inr ⟨M, n', hM, hl, hgo⟩, ⟨a, r1, r2, r3, r4⟩, r5⟩
theorem ro_dd {cst : am_K} {h1 h2 : am_H} (T : tp_H cst h1 h2) (hy2 : ly_hy m_tt ly_TH h2) {n : Int} (n1 : n ≤ 1200) : ro_d (ly_hv cst h1 512) n ↔ ro_d (ly_hv cst h2 20224) n := by
  constructor
  · rintro ⟨a1, a2, a3⟩
    refine ⟨a1, a2, fun k k0 k1 => ?_⟩
    obtain ⟨b, hb, b0, b1⟩ := a3 k k0 k1
    obtain ⟨x, hx, x0, x1⟩ := hp_rowb (cst := cst) (i := k) hy2 th_BT k0 (by omega)
    have e := T k x hx
    rw [hb] at e
    have e := Option.some.inj e
    exact ⟨x, hx, by omega, by omega⟩
  · rintro ⟨a1, a2, a3⟩
    refine ⟨a1, a2, fun k k0 k1 => ?_⟩
    obtain ⟨x, hx, x0, x1⟩ := a3 k k0 k1
    exact ⟨x % 256, T k x hx, by omega, by omega⟩
theorem ro_uni {cst : am_K} {h1 h2 : am_H} (T : tp_H cst h1 h2) (hy2 : ly_hy m_tt ly_TH h2) {n r a b : Int} (n1 : n ≤ 1200) (A : ro_a (ly_hv cst h1 512) n r a) (B : ro_a (ly_hv cst h2 20224) n r b) : a = b := by
  by_cases ok : 0 ≤ r ∧ r ≤ 2
  · by_cases d : ro_d (ly_hv cst h1 512) n
    · rw [(A.2 ok).2 d, (B.2 ok).2 ((ro_dd T hy2 n1).mp d)]
    · rw [(A.2 ok).1 d, (B.2 ok).1 (fun z => d ((ro_dd T hy2 n1).mpr z))]
  · rw [A.1 ok, B.1 ok]
theorem ro_go {cst : am_K} {strs : List Nat} {D : Nat} {h : am_H} (c1 : hp_C cst strs D) (c : hp_C cst strs (D + 1)) (hD : (4 : Int) ≤ (D : Int) + 1) (hy : ly_hy m_tt ly_TH h) {xr : Int32} {n : Int} (n0 : 0 ≤ n) (n1 : n ≤ 1200) (kn : ly_hv cst h 257 0 = some n) :
    ∃ r, am_Run cst m_cl m_tt m_P strs sx_bi (D + 1 + 1) 244 [.ref 16, .int xr] h r ∧ ∃ a : Int32, r.1 = some (.int a) ∧ r.2.2.1 = 0 ∧ r.2.2.2 = 0 ∧ ly_hy m_tt ly_TH r.2.1 ∧ ly_fr cst [257, 17669, 17920, 18176] h r.2.1 ∧ (ro_a (ly_hv cst h 512) n xr.toInt a.toInt ∧ ly_hv cst r.2.1 257 0 = some 0) := by
  obtain ⟨r, a1, ⟨a, b1, b2, b3, b4, b5, b6⟩, k⟩ := ro_run (xr := xr) c1 c hD hy n0 n1 kn
  exact ⟨r, a1, a, b1, b2, b3, b4, b5, b6, k⟩
theorem rr_go {cst : am_K} {strs : List Nat} {D : Nat} {h : am_H} (c : hp_C cst strs (D)) (hD : (4 : Int) ≤ (D : Int) + 1) (hy : ly_hy m_tt ly_TH h) {xr : Int32} {n : Int} (n0 : 0 ≤ n) (n1 : n ≤ 1200) (kn : ly_hv cst h 19969 0 = some n) :
    ∃ r, am_Run cst m_cl m_tt m_P strs sx_bi (D + 1) 410 [.ref 94, .int xr] h r ∧ ∃ a : Int32, r.1 = some (.int a) ∧ r.2.2.1 = 0 ∧ r.2.2.2 = 0 ∧ ly_hy m_tt ly_TH r.2.1 ∧ ly_fr cst [19969, 20103, 44032, 44288] h r.2.1 ∧ (ro_a (ly_hv cst h 20224) n xr.toInt a.toInt ∧ ly_hv cst r.2.1 19969 0 = some 0) := by
  obtain ⟨r, a1, ⟨a, b1, b2, b3, b4, b5, b6⟩, k⟩ := rr_run (xr := xr) c hD hy n0 n1 kn
  exact ⟨r, a1, a, b1, b2, b3, b4, b5, b6, k⟩
theorem tp_init {cst : am_K} {h : am_H} (hy : ly_hy m_tt ly_TH h) (hb : ∀ i v, ly_hv cst h (256 * 79) i = some v → v = 0 ∧ 0 ≤ i ∧ i < ((1200 : Nat) : Int)) (hz : ∀ i v, ly_hv cst h (256 * 2) i = some v → v = 0) : tp_H cst h h := by
  intro k x hx
  obtain ⟨x0, i0, i1⟩ := hb k x hx
  obtain ⟨v, hv, -, -⟩ := hp_row (cst := cst) (i := k) hy th_CT i0 (by omega)
  have v0 := hz k v hv
  subst x0
  subst v0
  exact hv
