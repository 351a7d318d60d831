/-! PRINTED by wip/p2/hp_rows.py: rows of the class, exactly -/
theorem wl_0_k : hp_chk 247 29 0 [] [] [(0, .inr (.inr (.inl (some 85)))), (1, .inl (0, [])), (2, .inl (0, [])), (3, .inl ((-1), []))] [] [] [] 5 [(105, ([], 0, [], [], [(0, .inr (.inr (.inl (some 85))))], [.inr (.inr (.inl (some 85)))], []))] [] = true := by decide +kernel
theorem wl_0 {cst : am_K} {strs : List Nat} {Φ : am_Q → Prop} {D : Nat} {M : am_M} {h : am_H} {l : am_L} (c : hp_C cst strs D) (hM : m_P[247]? = some M) (hD : (5 : Int) ≤ (D : Int) + 1) (hy : ly_hy m_tt ly_TH h) (l0 : hp_a l 0 85) (l1 : hp_i l 1 0) (l2 : hp_i l 2 0) (l3 : hp_i l 3 (-1)) (e0 : ∀ (l' : am_L) (h' : am_H), ly_hy m_tt ly_TH h' → ly_fr cst [] h h' → h.length ≤ h'.length → hp_a l' 0 85 → hp_F cst strs Φ D M 105 l' [.ref 85] h') : hp_F cst strs Φ D M 29 l [] h := by
  refine hp_arc c hM wl_0_k hD [] rfl hy hp_Bn hp_Fn hp_Kn (hp_La l0 (hp_Li (z := (0 + 0)) l1 rfl (by omega) (hp_Li (z := (0 + 0)) l2 rfl (by omega) (hp_Li (z := ((-1) + 0)) l3 rfl (by omega) hp_Ln)))) trivial ?_ ?_
  · intro p hp ys l' st' h' hys a1 a2 a3 gZ gL gS
    rcases List.mem_cons.mp hp with rfl | hp
    · obtain rfl := hp_y0 hys
      obtain ⟨t0, rfl, g0⟩ := hp_gSa gS (by decide)
      cases hp_gSn g0
      exact e0 l' h' a1 a2 a3 (hp_gLa gL (List.mem_of_getElem? (i := 0) rfl) (by decide))
    cases hp
  · intro p hp ys v h' hys a1 a2 a3 gZ gS
    cases hp
theorem wl_1_k : hp_chk 247 108 1 [(0, (-2147483648), 2147483647)] [] [(0, .inr (.inr (.inl (some 85))))] [] [(18432, (0, []), (0, [(0, 1)]))] [] 2 [] [([], 1, [(0, (-2147483648), 2147483647)], [], [], [.inl (0, [(0, 1)])], [])] = true := by decide +kernel
theorem wl_1 {cst : am_K} {strs : List Nat} {Φ : am_Q → Prop} {D : Nat} {M : am_M} {h : am_H} {l : am_L} (c : hp_C cst strs D) (hM : m_P[247]? = some M) (hD : (2 : Int) ≤ (D : Int) + 1) (hy : ly_hy m_tt ly_TH h) (y : Int) (b0 : (-2147483648) ≤ y) (t0 : y ≤ 2147483647) (k0 : ly_hv cst h 18432 0 = some (y)) (l0 : hp_a l 0 85) (r0 : ∀ (h' : am_H) (y0 : Int32), y0.toInt = (y) → ly_hy m_tt ly_TH h' → ly_fr cst [] h h' → h.length ≤ h'.length → Φ (some (.int y0), h', 0, 0)) : hp_F cst strs Φ D M 108 l [] h := by
  refine hp_arc c hM wl_1_k hD [y] rfl hy (hp_Bc (z := y) rfl b0 t0 hp_Bn) hp_Fn (hp_Kc (zi := (0 + 0)) (zv := (0 + (1 * y + 0))) k0 rfl rfl (by omega) (by omega) hp_Kn) (hp_La l0 hp_Ln) trivial ?_ ?_
  · intro p hp ys l' st' h' hys a1 a2 a3 gZ gL gS
    cases hp
  · intro p hp ys v h' hys a1 a2 a3 gZ gS
    rcases List.mem_cons.mp hp with rfl | hp
    · obtain rfl := hp_y0 hys
      cases v with
      | none => cases gS
      | some w =>
        obtain ⟨y0, t0, s0, q0, -⟩ := hp_gSi (z := (0 + (1 * y + 0))) gS rfl
        cases s0
        exact r0 h' y0 (by omega) a1 a2 a3
    cases hp
theorem wr_0_k : hq_chk [17] 255 0 0 [] [] [(0, .inr (.inr (.inl (some 85))))] [] [] [17669, 18688] 5 [(14, ([], 0, [], [], [(0, .inr (.inr (.inl (some 85))))], [.inr (.inr (.inl (some 85)))], [(18688, (0, []), (0, [])), (18688, (1, []), (0, [])), (18688, (2, []), (0, [])), (17669, (0, []), (0, []))]))] [] = true := by decide +kernel
theorem wr_0 {cst : am_K} {strs : List Nat} {Φ : am_Q → Prop} {D : Nat} {M : am_M} {h : am_H} {l : am_L} (c : hp_C cst strs D) (hM : m_P[255]? = some M) (hD : (5 : Int) ≤ (D : Int) + 1) (hy : ly_hy m_tt ly_TH h) (l0 : hp_a l 0 85) (e0 : ∀ (l' : am_L) (h' : am_H), ly_hy m_tt ly_TH h' → ly_fr cst [17669, 18688] h h' → h.length ≤ h'.length → ly_hv cst h' 18688 0 = some 0 → ly_hv cst h' 18688 1 = some 0 → ly_hv cst h' 18688 2 = some 0 → ly_hv cst h' 17669 0 = some 0 → hp_a l' 0 85 → hp_F cst strs Φ D M 14 l' [.ref 85] h') : hp_F cst strs Φ D M 0 l [] h := by
  refine hq_arc c hM wr_0_k hD [] rfl hy hp_Bn hp_Fn hp_Kn (hp_La l0 hp_Ln) trivial ?_ ?_
  · intro p hp ys l' st' h' hys a1 a2 a3 gZ gL gS
    rcases List.mem_cons.mp hp with rfl | hp
    · obtain rfl := hp_y0 hys
      obtain ⟨t0, rfl, g0⟩ := hp_gSa gS (by decide)
      cases hp_gSn g0
      exact e0 l' h' a1 a2 a3 (hp_gK (zi := (0 + 0)) (zv := (0 + 0)) gZ.2.2.2 (List.mem_of_getElem? (i := 0) rfl) rfl rfl (by omega) (by omega)) (hp_gK (zi := (1 + 0)) (zv := (0 + 0)) gZ.2.2.2 (List.mem_of_getElem? (i := 1) rfl) rfl rfl (by omega) (by omega)) (hp_gK (zi := (2 + 0)) (zv := (0 + 0)) gZ.2.2.2 (List.mem_of_getElem? (i := 2) rfl) rfl rfl (by omega) (by omega)) (hp_gK (zi := (0 + 0)) (zv := (0 + 0)) gZ.2.2.2 (List.mem_of_getElem? (i := 3) rfl) rfl rfl (by omega) (by omega)) (hp_gLa gL (List.mem_of_getElem? (i := 0) rfl) (by decide))
    cases hp
  · intro p hp ys v h' hys a1 a2 a3 gZ gS
    cases hp
theorem wr_1_k : hp_chk 255 17 1 [(0, 0, 7)] [] [(0, .inr (.inr (.inl (some 85))))] [.inl (0, [(0, 1)])] [] [] 2 [(18, ([], 1, [(0, 0, 7)], [], [(0, .inr (.inr (.inl (some 85)))), (1, .inl (0, [(0, 1)]))], [], []))] [] = true := by decide +kernel
theorem wr_1 {cst : am_K} {strs : List Nat} {Φ : am_Q → Prop} {D : Nat} {M : am_M} {h : am_H} {l : am_L} (c : hp_C cst strs D) (hM : m_P[255]? = some M) (hD : (2 : Int) ≤ (D : Int) + 1) (hy : ly_hy m_tt ly_TH h) (t : Int) (x0 : Int32) (hx0 : x0.toInt = (t)) (b0 : 0 ≤ t) (t0 : t ≤ 7) (l0 : hp_a l 0 85) (e0 : ∀ (l' : am_L) (h' : am_H), ly_hy m_tt ly_TH h' → ly_fr cst [] h h' → h.length ≤ h'.length → hp_a l' 0 85 → hp_i l' 1 (t) → hp_F cst strs Φ D M 18 l' [] h') : hp_F cst strs Φ D M 17 l [.int x0] h := by
  refine hp_arc c hM wr_1_k hD [t] rfl hy (hp_Bc (z := t) rfl b0 t0 hp_Bn) hp_Fn hp_Kn (hp_La l0 hp_Ln) (hp_Si (z := (0 + (1 * t + 0))) rfl (by omega) trivial) ?_ ?_
  · intro p hp ys l' st' h' hys a1 a2 a3 gZ gL gS
    rcases List.mem_cons.mp hp with rfl | hp
    · obtain rfl := hp_y0 hys
      cases hp_gSn gS
      exact e0 l' h' a1 a2 a3 (hp_gLa gL (List.mem_of_getElem? (i := 0) rfl) (by decide)) (hp_gLi (z := (0 + (1 * t + 0))) gL (List.mem_of_getElem? (i := 1) rfl) rfl (by omega))
    cases hp
  · intro p hp ys v h' hys a1 a2 a3 gZ gS
    cases hp
theorem wr_2_k : hp_chk 255 118 1 [(0, 0, 7)] [] [(0, .inr (.inr (.inl (some 85))))] [.inl (0, [(0, 1)])] [] [] 2 [(18, ([], 1, [(0, 0, 7)], [], [(0, .inr (.inr (.inl (some 85)))), (1, .inl (0, [(0, 1)]))], [], []))] [] = true := by decide +kernel
theorem wr_2 {cst : am_K} {strs : List Nat} {Φ : am_Q → Prop} {D : Nat} {M : am_M} {h : am_H} {l : am_L} (c : hp_C cst strs D) (hM : m_P[255]? = some M) (hD : (2 : Int) ≤ (D : Int) + 1) (hy : ly_hy m_tt ly_TH h) (t : Int) (x0 : Int32) (hx0 : x0.toInt = (t)) (b0 : 0 ≤ t) (t0 : t ≤ 7) (l0 : hp_a l 0 85) (e0 : ∀ (l' : am_L) (h' : am_H), ly_hy m_tt ly_TH h' → ly_fr cst [] h h' → h.length ≤ h'.length → hp_a l' 0 85 → hp_i l' 1 (t) → hp_F cst strs Φ D M 18 l' [] h') : hp_F cst strs Φ D M 118 l [.int x0] h := by
  refine hp_arc c hM wr_2_k hD [t] rfl hy (hp_Bc (z := t) rfl b0 t0 hp_Bn) hp_Fn hp_Kn (hp_La l0 hp_Ln) (hp_Si (z := (0 + (1 * t + 0))) rfl (by omega) trivial) ?_ ?_
  · intro p hp ys l' st' h' hys a1 a2 a3 gZ gL gS
    rcases List.mem_cons.mp hp with rfl | hp
    · obtain rfl := hp_y0 hys
      cases hp_gSn gS
      exact e0 l' h' a1 a2 a3 (hp_gLa gL (List.mem_of_getElem? (i := 0) rfl) (by decide)) (hp_gLi (z := (0 + (1 * t + 0))) gL (List.mem_of_getElem? (i := 1) rfl) rfl (by omega))
    cases hp
  · intro p hp ys v h' hys a1 a2 a3 gZ gS
    cases hp
theorem wr_e_k : hp_chk 255 18 0 [] [] [(0, .inr (.inr (.inl (some 85)))), (1, .inl (0, []))] [] [] [] 2 [] [([], 0, [], [], [], [], [])] = true := by decide +kernel
theorem wr_e {cst : am_K} {strs : List Nat} {Φ : am_Q → Prop} {D : Nat} {M : am_M} {h : am_H} {l : am_L} (c : hp_C cst strs D) (hM : m_P[255]? = some M) (hD : (2 : Int) ≤ (D : Int) + 1) (hy : ly_hy m_tt ly_TH h) (l0 : hp_a l 0 85) (l1 : hp_i l 1 0) (r0 : ∀ (h' : am_H), ly_hy m_tt ly_TH h' → ly_fr cst [] h h' → h.length ≤ h'.length → Φ (none, h', 0, 0)) : hp_F cst strs Φ D M 18 l [] h := by
  refine hp_arc c hM wr_e_k hD [] rfl hy hp_Bn hp_Fn hp_Kn (hp_La l0 (hp_Li (z := (0 + 0)) l1 rfl (by omega) hp_Ln)) trivial ?_ ?_
  · intro p hp ys l' st' h' hys a1 a2 a3 gZ gL gS
    cases hp
  · intro p hp ys v h' hys a1 a2 a3 gZ gS
    rcases List.mem_cons.mp hp with rfl | hp
    · obtain rfl := hp_y0 hys
      have sv := hp_gSn gS
      cases v with
      | some w => cases sv
      | none =>
        exact r0 h' a1 a2 a3
    cases hp
theorem wr7_0_k : hp_chk 255 18 4 [(0, 0, 9), (1, 0, 9), (2, 0, 9), (3, 0, 29)] [] [(0, .inr (.inr (.inl (some 85)))), (1, .inl (7, []))] [] [(18688, (0, []), (0, [(0, 1)])), (18688, (1, []), (0, [(1, 1)])), (18688, (2, []), (0, [(2, 1)])), (17669, (0, []), (0, [(3, 1)]))] [] 5 [(79, ([], 4, [(0, 0, 9), (1, 0, 9), (2, 0, 9), (3, 0, 29)], [], [(0, .inr (.inr (.inl (some 85)))), (1, .inl (7, [])), (2, .inl (0, [])), (3, .inl (1, []))], [.inl (0, [(0, 1)]), .inl (0, [(3, 3)]), .inr (.inr (.inl (some 90)))], [(18688, (0, []), (0, [(0, 1)])), (18688, (1, []), (0, [(1, 1)])), (18688, (2, []), (0, [(2, 1)])), (17669, (0, []), (0, [(3, 1)]))]))] [] = true := by decide +kernel
theorem wr7_0 {cst : am_K} {strs : List Nat} {Φ : am_Q → Prop} {D : Nat} {M : am_M} {h : am_H} {l : am_L} (c : hp_C cst strs D) (hM : m_P[255]? = some M) (hD : (5 : Int) ≤ (D : Int) + 1) (hy : ly_hy m_tt ly_TH h) (a b d n : Int) (b0 : 0 ≤ a) (t0 : a ≤ 9) (b1 : 0 ≤ b) (t1 : b ≤ 9) (b2 : 0 ≤ d) (t2 : d ≤ 9) (b3 : 0 ≤ n) (t3 : n ≤ 29) (k0 : ly_hv cst h 18688 0 = some (a)) (k1 : ly_hv cst h 18688 1 = some (b)) (k2 : ly_hv cst h 18688 2 = some (d)) (k3 : ly_hv cst h 17669 0 = some (n)) (l0 : hp_a l 0 85) (l1 : hp_i l 1 7) (e0 : ∀ (l' : am_L) (h' : am_H) (y0 : Int32) (y1 : Int32), y0.toInt = (a) → y1.toInt = (3 * n) → ly_hy m_tt ly_TH h' → ly_fr cst [] h h' → h.length ≤ h'.length → ly_hv cst h' 18688 0 = some (a) → ly_hv cst h' 18688 1 = some (b) → ly_hv cst h' 18688 2 = some (d) → ly_hv cst h' 17669 0 = some (n) → hp_a l' 0 85 → hp_i l' 1 7 → hp_i l' 2 0 → hp_i l' 3 1 → hp_F cst strs Φ D M 79 l' [.int y0, .int y1, .ref 90] h') : hp_F cst strs Φ D M 18 l [] h := by
  refine hp_arc c hM wr7_0_k hD [a, b, d, n] rfl hy (hp_Bc (z := a) rfl b0 t0 (hp_Bc (z := b) rfl b1 t1 (hp_Bc (z := d) rfl b2 t2 (hp_Bc (z := n) rfl b3 t3 hp_Bn)))) hp_Fn (hp_Kc (zi := (0 + 0)) (zv := (0 + (1 * a + 0))) k0 rfl rfl (by omega) (by omega) (hp_Kc (zi := (1 + 0)) (zv := (0 + (1 * b + 0))) k1 rfl rfl (by omega) (by omega) (hp_Kc (zi := (2 + 0)) (zv := (0 + (1 * d + 0))) k2 rfl rfl (by omega) (by omega) (hp_Kc (zi := (0 + 0)) (zv := (0 + (1 * n + 0))) k3 rfl rfl (by omega) (by omega) hp_Kn)))) (hp_La l0 (hp_Li (z := (7 + 0)) l1 rfl (by omega) hp_Ln)) trivial ?_ ?_
  · intro p hp ys l' st' h' hys a1 a2 a3 gZ gL gS
    rcases List.mem_cons.mp hp with rfl | hp
    · obtain rfl := hp_y0 hys
      obtain ⟨y0, t0, rfl, q0, g0⟩ := hp_gSi (z := (0 + (1 * a + 0))) gS rfl
      obtain ⟨y1, t1, rfl, q1, g1⟩ := hp_gSi (z := (0 + (3 * n + 0))) g0 rfl
      obtain ⟨t2, rfl, g2⟩ := hp_gSa g1 (by decide)
      cases hp_gSn g2
      exact e0 l' h' y0 y1 (by omega) (by omega) a1 a2 a3 (hp_gK (zi := (0 + 0)) (zv := (0 + (1 * a + 0))) gZ.2.2.2 (List.mem_of_getElem? (i := 0) rfl) rfl rfl (by omega) (by omega)) (hp_gK (zi := (1 + 0)) (zv := (0 + (1 * b + 0))) gZ.2.2.2 (List.mem_of_getElem? (i := 1) rfl) rfl rfl (by omega) (by omega)) (hp_gK (zi := (2 + 0)) (zv := (0 + (1 * d + 0))) gZ.2.2.2 (List.mem_of_getElem? (i := 2) rfl) rfl rfl (by omega) (by omega)) (hp_gK (zi := (0 + 0)) (zv := (0 + (1 * n + 0))) gZ.2.2.2 (List.mem_of_getElem? (i := 3) rfl) rfl rfl (by omega) (by omega)) (hp_gLa gL (List.mem_of_getElem? (i := 0) rfl) (by decide)) (hp_gLi (z := (7 + 0)) gL (List.mem_of_getElem? (i := 1) rfl) rfl (by omega)) (hp_gLi (z := (0 + 0)) gL (List.mem_of_getElem? (i := 2) rfl) rfl (by omega)) (hp_gLi (z := (1 + 0)) gL (List.mem_of_getElem? (i := 3) rfl) rfl (by omega))
    cases hp
  · intro p hp ys v h' hys a1 a2 a3 gZ gS
    cases hp
theorem wr7_1_k : hp_chk 255 80 4 [(0, 0, 9), (1, 0, 9), (2, 0, 9), (3, 0, 29)] [] [(0, .inr (.inr (.inl (some 85)))), (1, .inl (7, [])), (2, .inl (0, [])), (3, .inl (1, []))] [] [(18688, (0, []), (0, [(0, 1)])), (18688, (1, []), (0, [(1, 1)])), (18688, (2, []), (0, [(2, 1)])), (17669, (0, []), (0, [(3, 1)]))] [18688] 5 [(79, ([], 4, [(0, 0, 9), (1, 0, 9), (2, 0, 9), (3, 0, 29)], [], [(0, .inr (.inr (.inl (some 85)))), (1, .inl (7, [])), (2, .inl (1, [])), (3, .inl (1, []))], [.inl (0, [(1, 1)]), .inl (1, [(3, 3)]), .inr (.inr (.inl (some 90)))], [(18688, (0, []), (1, [(0, 1)])), (18688, (1, []), (0, [(1, 1)])), (18688, (2, []), (0, [(2, 1)])), (17669, (0, []), (0, [(3, 1)]))]))] [] = true := by decide +kernel
theorem wr7_1 {cst : am_K} {strs : List Nat} {Φ : am_Q → Prop} {D : Nat} {M : am_M} {h : am_H} {l : am_L} (c : hp_C cst strs D) (hM : m_P[255]? = some M) (hD : (5 : Int) ≤ (D : Int) + 1) (hy : ly_hy m_tt ly_TH h) (a b d n : Int) (b0 : 0 ≤ a) (t0 : a ≤ 9) (b1 : 0 ≤ b) (t1 : b ≤ 9) (b2 : 0 ≤ d) (t2 : d ≤ 9) (b3 : 0 ≤ n) (t3 : n ≤ 29) (k0 : ly_hv cst h 18688 0 = some (a)) (k1 : ly_hv cst h 18688 1 = some (b)) (k2 : ly_hv cst h 18688 2 = some (d)) (k3 : ly_hv cst h 17669 0 = some (n)) (l0 : hp_a l 0 85) (l1 : hp_i l 1 7) (l2 : hp_i l 2 0) (l3 : hp_i l 3 1) (e0 : ∀ (l' : am_L) (h' : am_H) (y0 : Int32) (y1 : Int32), y0.toInt = (b) → y1.toInt = (3 * n + 1) → ly_hy m_tt ly_TH h' → ly_fr cst [18688] h h' → h.length ≤ h'.length → ly_hv cst h' 18688 0 = some (a + 1) → ly_hv cst h' 18688 1 = some (b) → ly_hv cst h' 18688 2 = some (d) → ly_hv cst h' 17669 0 = some (n) → hp_a l' 0 85 → hp_i l' 1 7 → hp_i l' 2 1 → hp_i l' 3 1 → hp_F cst strs Φ D M 79 l' [.int y0, .int y1, .ref 90] h') : hp_F cst strs Φ D M 80 l [] h := by
  refine hp_arc c hM wr7_1_k hD [a, b, d, n] rfl hy (hp_Bc (z := a) rfl b0 t0 (hp_Bc (z := b) rfl b1 t1 (hp_Bc (z := d) rfl b2 t2 (hp_Bc (z := n) rfl b3 t3 hp_Bn)))) hp_Fn (hp_Kc (zi := (0 + 0)) (zv := (0 + (1 * a + 0))) k0 rfl rfl (by omega) (by omega) (hp_Kc (zi := (1 + 0)) (zv := (0 + (1 * b + 0))) k1 rfl rfl (by omega) (by omega) (hp_Kc (zi := (2 + 0)) (zv := (0 + (1 * d + 0))) k2 rfl rfl (by omega) (by omega) (hp_Kc (zi := (0 + 0)) (zv := (0 + (1 * n + 0))) k3 rfl rfl (by omega) (by omega) hp_Kn)))) (hp_La l0 (hp_Li (z := (7 + 0)) l1 rfl (by omega) (hp_Li (z := (0 + 0)) l2 rfl (by omega) (hp_Li (z := (1 + 0)) l3 rfl (by omega) hp_Ln)))) trivial ?_ ?_
  · intro p hp ys l' st' h' hys a1 a2 a3 gZ gL gS
    rcases List.mem_cons.mp hp with rfl | hp
    · obtain rfl := hp_y0 hys
      obtain ⟨y0, t0, rfl, q0, g0⟩ := hp_gSi (z := (0 + (1 * b + 0))) gS rfl
      obtain ⟨y1, t1, rfl, q1, g1⟩ := hp_gSi (z := (1 + (3 * n + 0))) g0 rfl
      obtain ⟨t2, rfl, g2⟩ := hp_gSa g1 (by decide)
      cases hp_gSn g2
      exact e0 l' h' y0 y1 (by omega) (by omega) a1 a2 a3 (hp_gK (zi := (0 + 0)) (zv := (1 + (1 * a + 0))) gZ.2.2.2 (List.mem_of_getElem? (i := 0) rfl) rfl rfl (by omega) (by omega)) (hp_gK (zi := (1 + 0)) (zv := (0 + (1 * b + 0))) gZ.2.2.2 (List.mem_of_getElem? (i := 1) rfl) rfl rfl (by omega) (by omega)) (hp_gK (zi := (2 + 0)) (zv := (0 + (1 * d + 0))) gZ.2.2.2 (List.mem_of_getElem? (i := 2) rfl) rfl rfl (by omega) (by omega)) (hp_gK (zi := (0 + 0)) (zv := (0 + (1 * n + 0))) gZ.2.2.2 (List.mem_of_getElem? (i := 3) rfl) rfl rfl (by omega) (by omega)) (hp_gLa gL (List.mem_of_getElem? (i := 0) rfl) (by decide)) (hp_gLi (z := (7 + 0)) gL (List.mem_of_getElem? (i := 1) rfl) rfl (by omega)) (hp_gLi (z := (1 + 0)) gL (List.mem_of_getElem? (i := 2) rfl) rfl (by omega)) (hp_gLi (z := (1 + 0)) gL (List.mem_of_getElem? (i := 3) rfl) rfl (by omega))
    cases hp
  · intro p hp ys v h' hys a1 a2 a3 gZ gS
    cases hp
theorem wr7_2_k : hp_chk 255 80 4 [(0, 0, 9), (1, 0, 9), (2, 0, 9), (3, 0, 29)] [] [(0, .inr (.inr (.inl (some 85)))), (1, .inl (7, [])), (2, .inl (1, [])), (3, .inl (1, []))] [] [(18688, (0, []), (1, [(0, 1)])), (18688, (1, []), (0, [(1, 1)])), (18688, (2, []), (0, [(2, 1)])), (17669, (0, []), (0, [(3, 1)]))] [18688] 5 [(79, ([], 4, [(0, 0, 9), (1, 0, 9), (2, 0, 9), (3, 0, 29)], [], [(0, .inr (.inr (.inl (some 85)))), (1, .inl (7, [])), (2, .inl (2, [])), (3, .inl (1, []))], [.inl (0, [(2, 1)]), .inl (2, [(3, 3)]), .inr (.inr (.inl (some 90)))], [(18688, (0, []), (1, [(0, 1)])), (18688, (1, []), (1, [(1, 1)])), (18688, (2, []), (0, [(2, 1)])), (17669, (0, []), (0, [(3, 1)]))]))] [] = true := by decide +kernel
theorem wr7_2 {cst : am_K} {strs : List Nat} {Φ : am_Q → Prop} {D : Nat} {M : am_M} {h : am_H} {l : am_L} (c : hp_C cst strs D) (hM : m_P[255]? = some M) (hD : (5 : Int) ≤ (D : Int) + 1) (hy : ly_hy m_tt ly_TH h) (a b d n : Int) (b0 : 0 ≤ a) (t0 : a ≤ 9) (b1 : 0 ≤ b) (t1 : b ≤ 9) (b2 : 0 ≤ d) (t2 : d ≤ 9) (b3 : 0 ≤ n) (t3 : n ≤ 29) (k0 : ly_hv cst h 18688 0 = some (a + 1)) (k1 : ly_hv cst h 18688 1 = some (b)) (k2 : ly_hv cst h 18688 2 = some (d)) (k3 : ly_hv cst h 17669 0 = some (n)) (l0 : hp_a l 0 85) (l1 : hp_i l 1 7) (l2 : hp_i l 2 1) (l3 : hp_i l 3 1) (e0 : ∀ (l' : am_L) (h' : am_H) (y0 : Int32) (y1 : Int32), y0.toInt = (d) → y1.toInt = (3 * n + 2) → ly_hy m_tt ly_TH h' → ly_fr cst [18688] h h' → h.length ≤ h'.length → ly_hv cst h' 18688 0 = some (a + 1) → ly_hv cst h' 18688 1 = some (b + 1) → ly_hv cst h' 18688 2 = some (d) → ly_hv cst h' 17669 0 = some (n) → hp_a l' 0 85 → hp_i l' 1 7 → hp_i l' 2 2 → hp_i l' 3 1 → hp_F cst strs Φ D M 79 l' [.int y0, .int y1, .ref 90] h') : hp_F cst strs Φ D M 80 l [] h := by
  refine hp_arc c hM wr7_2_k hD [a, b, d, n] rfl hy (hp_Bc (z := a) rfl b0 t0 (hp_Bc (z := b) rfl b1 t1 (hp_Bc (z := d) rfl b2 t2 (hp_Bc (z := n) rfl b3 t3 hp_Bn)))) hp_Fn (hp_Kc (zi := (0 + 0)) (zv := (1 + (1 * a + 0))) k0 rfl rfl (by omega) (by omega) (hp_Kc (zi := (1 + 0)) (zv := (0 + (1 * b + 0))) k1 rfl rfl (by omega) (by omega) (hp_Kc (zi := (2 + 0)) (zv := (0 + (1 * d + 0))) k2 rfl rfl (by omega) (by omega) (hp_Kc (zi := (0 + 0)) (zv := (0 + (1 * n + 0))) k3 rfl rfl (by omega) (by omega) hp_Kn)))) (hp_La l0 (hp_Li (z := (7 + 0)) l1 rfl (by omega) (hp_Li (z := (1 + 0)) l2 rfl (by omega) (hp_Li (z := (1 + 0)) l3 rfl (by omega) hp_Ln)))) trivial ?_ ?_
  · intro p hp ys l' st' h' hys a1 a2 a3 gZ gL gS
    rcases List.mem_cons.mp hp with rfl | hp
    · obtain rfl := hp_y0 hys
      obtain ⟨y0, t0, rfl, q0, g0⟩ := hp_gSi (z := (0 + (1 * d + 0))) gS rfl
      obtain ⟨y1, t1, rfl, q1, g1⟩ := hp_gSi (z := (2 + (3 * n + 0))) g0 rfl
      obtain ⟨t2, rfl, g2⟩ := hp_gSa g1 (by decide)
      cases hp_gSn g2
      exact e0 l' h' y0 y1 (by omega) (by omega) a1 a2 a3 (hp_gK (zi := (0 + 0)) (zv := (1 + (1 * a + 0))) gZ.2.2.2 (List.mem_of_getElem? (i := 0) rfl) rfl rfl (by omega) (by omega)) (hp_gK (zi := (1 + 0)) (zv := (1 + (1 * b + 0))) gZ.2.2.2 (List.mem_of_getElem? (i := 1) rfl) rfl rfl (by omega) (by omega)) (hp_gK (zi := (2 + 0)) (zv := (0 + (1 * d + 0))) gZ.2.2.2 (List.mem_of_getElem? (i := 2) rfl) rfl rfl (by omega) (by omega)) (hp_gK (zi := (0 + 0)) (zv := (0 + (1 * n + 0))) gZ.2.2.2 (List.mem_of_getElem? (i := 3) rfl) rfl rfl (by omega) (by omega)) (hp_gLa gL (List.mem_of_getElem? (i := 0) rfl) (by decide)) (hp_gLi (z := (7 + 0)) gL (List.mem_of_getElem? (i := 1) rfl) rfl (by omega)) (hp_gLi (z := (2 + 0)) gL (List.mem_of_getElem? (i := 2) rfl) rfl (by omega)) (hp_gLi (z := (1 + 0)) gL (List.mem_of_getElem? (i := 3) rfl) rfl (by omega))
    cases hp
  · intro p hp ys v h' hys a1 a2 a3 gZ gS
    cases hp
theorem wr7_3_k : hp_chk 255 80 4 [(0, 0, 9), (1, 0, 9), (2, 0, 9), (3, 0, 29)] [] [(0, .inr (.inr (.inl (some 85)))), (1, .inl (7, [])), (2, .inl (2, [])), (3, .inl (1, []))] [] [(18688, (0, []), (1, [(0, 1)])), (18688, (1, []), (1, [(1, 1)])), (18688, (2, []), (0, [(2, 1)])), (17669, (0, []), (0, [(3, 1)]))] [17669, 18688] 5 [(115, ([], 4, [(0, 0, 9), (1, 0, 9), (2, 0, 9), (3, 0, 29)], [], [(0, .inr (.inr (.inl (some 85))))], [.inr (.inr (.inl (some 85)))], [(18688, (0, []), (1, [(0, 1)])), (18688, (1, []), (1, [(1, 1)])), (18688, (2, []), (1, [(2, 1)])), (17669, (0, []), (1, [(3, 1)]))]))] [] = true := by decide +kernel
theorem wr7_3 {cst : am_K} {strs : List Nat} {Φ : am_Q → Prop} {D : Nat} {M : am_M} {h : am_H} {l : am_L} (c : hp_C cst strs D) (hM : m_P[255]? = some M) (hD : (5 : Int) ≤ (D : Int) + 1) (hy : ly_hy m_tt ly_TH h) (a b d n : Int) (b0 : 0 ≤ a) (t0 : a ≤ 9) (b1 : 0 ≤ b) (t1 : b ≤ 9) (b2 : 0 ≤ d) (t2 : d ≤ 9) (b3 : 0 ≤ n) (t3 : n ≤ 29) (k0 : ly_hv cst h 18688 0 = some (a + 1)) (k1 : ly_hv cst h 18688 1 = some (b + 1)) (k2 : ly_hv cst h 18688 2 = some (d)) (k3 : ly_hv cst h 17669 0 = some (n)) (l0 : hp_a l 0 85) (l1 : hp_i l 1 7) (l2 : hp_i l 2 2) (l3 : hp_i l 3 1) (e0 : ∀ (l' : am_L) (h' : am_H), ly_hy m_tt ly_TH h' → ly_fr cst [17669, 18688] h h' → h.length ≤ h'.length → ly_hv cst h' 18688 0 = some (a + 1) → ly_hv cst h' 18688 1 = some (b + 1) → ly_hv cst h' 18688 2 = some (d + 1) → ly_hv cst h' 17669 0 = some (n + 1) → hp_a l' 0 85 → hp_F cst strs Φ D M 115 l' [.ref 85] h') : hp_F cst strs Φ D M 80 l [] h := by
  refine hp_arc c hM wr7_3_k hD [a, b, d, n] rfl hy (hp_Bc (z := a) rfl b0 t0 (hp_Bc (z := b) rfl b1 t1 (hp_Bc (z := d) rfl b2 t2 (hp_Bc (z := n) rfl b3 t3 hp_Bn)))) hp_Fn (hp_Kc (zi := (0 + 0)) (zv := (1 + (1 * a + 0))) k0 rfl rfl (by omega) (by omega) (hp_Kc (zi := (1 + 0)) (zv := (1 + (1 * b + 0))) k1 rfl rfl (by omega) (by omega) (hp_Kc (zi := (2 + 0)) (zv := (0 + (1 * d + 0))) k2 rfl rfl (by omega) (by omega) (hp_Kc (zi := (0 + 0)) (zv := (0 + (1 * n + 0))) k3 rfl rfl (by omega) (by omega) hp_Kn)))) (hp_La l0 (hp_Li (z := (7 + 0)) l1 rfl (by omega) (hp_Li (z := (2 + 0)) l2 rfl (by omega) (hp_Li (z := (1 + 0)) l3 rfl (by omega) hp_Ln)))) trivial ?_ ?_
  · intro p hp ys l' st' h' hys a1 a2 a3 gZ gL gS
    rcases List.mem_cons.mp hp with rfl | hp
    · obtain rfl := hp_y0 hys
      obtain ⟨t0, rfl, g0⟩ := hp_gSa gS (by decide)
      cases hp_gSn g0
      exact e0 l' h' a1 a2 a3 (hp_gK (zi := (0 + 0)) (zv := (1 + (1 * a + 0))) gZ.2.2.2 (List.mem_of_getElem? (i := 0) rfl) rfl rfl (by omega) (by omega)) (hp_gK (zi := (1 + 0)) (zv := (1 + (1 * b + 0))) gZ.2.2.2 (List.mem_of_getElem? (i := 1) rfl) rfl rfl (by omega) (by omega)) (hp_gK (zi := (2 + 0)) (zv := (1 + (1 * d + 0))) gZ.2.2.2 (List.mem_of_getElem? (i := 2) rfl) rfl rfl (by omega) (by omega)) (hp_gK (zi := (0 + 0)) (zv := (1 + (1 * n + 0))) gZ.2.2.2 (List.mem_of_getElem? (i := 3) rfl) rfl rfl (by omega) (by omega)) (hp_gLa gL (List.mem_of_getElem? (i := 0) rfl) (by decide))
    cases hp
  · intro p hp ys v h' hys a1 a2 a3 gZ gS
    cases hp
theorem wr3_0_k : hp_chk 255 18 4 [(0, 0, 9), (1, 0, 9), (2, 0, 10), (3, 0, 29)] [] [(0, .inr (.inr (.inl (some 85)))), (1, .inl (3, []))] [] [(18688, (0, []), (0, [(0, 1)])), (18688, (1, []), (0, [(1, 1)])), (18688, (2, []), (0, [(2, 1)])), (17669, (0, []), (0, [(3, 1)]))] [] 5 [(79, ([], 4, [(0, 0, 9), (1, 0, 9), (2, 0, 10), (3, 0, 29)], [], [(0, .inr (.inr (.inl (some 85)))), (1, .inl (3, [])), (2, .inl (0, [])), (3, .inl (1, []))], [.inl (0, [(0, 1)]), .inl (0, [(3, 3)]), .inr (.inr (.inl (some 90)))], [(18688, (0, []), (0, [(0, 1)])), (18688, (1, []), (0, [(1, 1)])), (18688, (2, []), (0, [(2, 1)])), (17669, (0, []), (0, [(3, 1)]))]))] [] = true := by decide +kernel
theorem wr3_0 {cst : am_K} {strs : List Nat} {Φ : am_Q → Prop} {D : Nat} {M : am_M} {h : am_H} {l : am_L} (c : hp_C cst strs D) (hM : m_P[255]? = some M) (hD : (5 : Int) ≤ (D : Int) + 1) (hy : ly_hy m_tt ly_TH h) (a b d n : Int) (b0 : 0 ≤ a) (t0 : a ≤ 9) (b1 : 0 ≤ b) (t1 : b ≤ 9) (b2 : 0 ≤ d) (t2 : d ≤ 10) (b3 : 0 ≤ n) (t3 : n ≤ 29) (k0 : ly_hv cst h 18688 0 = some (a)) (k1 : ly_hv cst h 18688 1 = some (b)) (k2 : ly_hv cst h 18688 2 = some (d)) (k3 : ly_hv cst h 17669 0 = some (n)) (l0 : hp_a l 0 85) (l1 : hp_i l 1 3) (e0 : ∀ (l' : am_L) (h' : am_H) (y0 : Int32) (y1 : Int32), y0.toInt = (a) → y1.toInt = (3 * n) → ly_hy m_tt ly_TH h' → ly_fr cst [] h h' → h.length ≤ h'.length → ly_hv cst h' 18688 0 = some (a) → ly_hv cst h' 18688 1 = some (b) → ly_hv cst h' 18688 2 = some (d) → ly_hv cst h' 17669 0 = some (n) → hp_a l' 0 85 → hp_i l' 1 3 → hp_i l' 2 0 → hp_i l' 3 1 → hp_F cst strs Φ D M 79 l' [.int y0, .int y1, .ref 90] h') : hp_F cst strs Φ D M 18 l [] h := by
  refine hp_arc c hM wr3_0_k hD [a, b, d, n] rfl hy (hp_Bc (z := a) rfl b0 t0 (hp_Bc (z := b) rfl b1 t1 (hp_Bc (z := d) rfl b2 t2 (hp_Bc (z := n) rfl b3 t3 hp_Bn)))) hp_Fn (hp_Kc (zi := (0 + 0)) (zv := (0 + (1 * a + 0))) k0 rfl rfl (by omega) (by omega) (hp_Kc (zi := (1 + 0)) (zv := (0 + (1 * b + 0))) k1 rfl rfl (by omega) (by omega) (hp_Kc (zi := (2 + 0)) (zv := (0 + (1 * d + 0))) k2 rfl rfl (by omega) (by omega) (hp_Kc (zi := (0 + 0)) (zv := (0 + (1 * n + 0))) k3 rfl rfl (by omega) (by omega) hp_Kn)))) (hp_La l0 (hp_Li (z := (3 + 0)) l1 rfl (by omega) hp_Ln)) trivial ?_ ?_
  · intro p hp ys l' st' h' hys a1 a2 a3 gZ gL gS
    rcases List.mem_cons.mp hp with rfl | hp
    · obtain rfl := hp_y0 hys
      obtain ⟨y0, t0, rfl, q0, g0⟩ := hp_gSi (z := (0 + (1 * a + 0))) gS rfl
      obtain ⟨y1, t1, rfl, q1, g1⟩ := hp_gSi (z := (0 + (3 * n + 0))) g0 rfl
      obtain ⟨t2, rfl, g2⟩ := hp_gSa g1 (by decide)
      cases hp_gSn g2
      exact e0 l' h' y0 y1 (by omega) (by omega) a1 a2 a3 (hp_gK (zi := (0 + 0)) (zv := (0 + (1 * a + 0))) gZ.2.2.2 (List.mem_of_getElem? (i := 0) rfl) rfl rfl (by omega) (by omega)) (hp_gK (zi := (1 + 0)) (zv := (0 + (1 * b + 0))) gZ.2.2.2 (List.mem_of_getElem? (i := 1) rfl) rfl rfl (by omega) (by omega)) (hp_gK (zi := (2 + 0)) (zv := (0 + (1 * d + 0))) gZ.2.2.2 (List.mem_of_getElem? (i := 2) rfl) rfl rfl (by omega) (by omega)) (hp_gK (zi := (0 + 0)) (zv := (0 + (1 * n + 0))) gZ.2.2.2 (List.mem_of_getElem? (i := 3) rfl) rfl rfl (by omega) (by omega)) (hp_gLa gL (List.mem_of_getElem? (i := 0) rfl) (by decide)) (hp_gLi (z := (3 + 0)) gL (List.mem_of_getElem? (i := 1) rfl) rfl (by omega)) (hp_gLi (z := (0 + 0)) gL (List.mem_of_getElem? (i := 2) rfl) rfl (by omega)) (hp_gLi (z := (1 + 0)) gL (List.mem_of_getElem? (i := 3) rfl) rfl (by omega))
    cases hp
  · intro p hp ys v h' hys a1 a2 a3 gZ gS
    cases hp
theorem wr3_1_k : hp_chk 255 80 4 [(0, 0, 9), (1, 0, 9), (2, 0, 10), (3, 0, 29)] [] [(0, .inr (.inr (.inl (some 85)))), (1, .inl (3, [])), (2, .inl (0, [])), (3, .inl (1, []))] [] [(18688, (0, []), (0, [(0, 1)])), (18688, (1, []), (0, [(1, 1)])), (18688, (2, []), (0, [(2, 1)])), (17669, (0, []), (0, [(3, 1)]))] [18688] 5 [(79, ([], 4, [(0, 0, 9), (1, 0, 9), (2, 0, 10), (3, 0, 29)], [], [(0, .inr (.inr (.inl (some 85)))), (1, .inl (3, [])), (2, .inl (1, [])), (3, .inl (1, []))], [.inl (0, [(1, 1)]), .inl (1, [(3, 3)]), .inr (.inr (.inl (some 90)))], [(18688, (0, []), (1, [(0, 1)])), (18688, (1, []), (0, [(1, 1)])), (18688, (2, []), (0, [(2, 1)])), (17669, (0, []), (0, [(3, 1)]))]))] [] = true := by decide +kernel
theorem wr3_1 {cst : am_K} {strs : List Nat} {Φ : am_Q → Prop} {D : Nat} {M : am_M} {h : am_H} {l : am_L} (c : hp_C cst strs D) (hM : m_P[255]? = some M) (hD : (5 : Int) ≤ (D : Int) + 1) (hy : ly_hy m_tt ly_TH h) (a b d n : Int) (b0 : 0 ≤ a) (t0 : a ≤ 9) (b1 : 0 ≤ b) (t1 : b ≤ 9) (b2 : 0 ≤ d) (t2 : d ≤ 10) (b3 : 0 ≤ n) (t3 : n ≤ 29) (k0 : ly_hv cst h 18688 0 = some (a)) (k1 : ly_hv cst h 18688 1 = some (b)) (k2 : ly_hv cst h 18688 2 = some (d)) (k3 : ly_hv cst h 17669 0 = some (n)) (l0 : hp_a l 0 85) (l1 : hp_i l 1 3) (l2 : hp_i l 2 0) (l3 : hp_i l 3 1) (e0 : ∀ (l' : am_L) (h' : am_H) (y0 : Int32) (y1 : Int32), y0.toInt = (b) → y1.toInt = (3 * n + 1) → ly_hy m_tt ly_TH h' → ly_fr cst [18688] h h' → h.length ≤ h'.length → ly_hv cst h' 18688 0 = some (a + 1) → ly_hv cst h' 18688 1 = some (b) → ly_hv cst h' 18688 2 = some (d) → ly_hv cst h' 17669 0 = some (n) → hp_a l' 0 85 → hp_i l' 1 3 → hp_i l' 2 1 → hp_i l' 3 1 → hp_F cst strs Φ D M 79 l' [.int y0, .int y1, .ref 90] h') : hp_F cst strs Φ D M 80 l [] h := by
  refine hp_arc c hM wr3_1_k hD [a, b, d, n] rfl hy (hp_Bc (z := a) rfl b0 t0 (hp_Bc (z := b) rfl b1 t1 (hp_Bc (z := d) rfl b2 t2 (hp_Bc (z := n) rfl b3 t3 hp_Bn)))) hp_Fn (hp_Kc (zi := (0 + 0)) (zv := (0 + (1 * a + 0))) k0 rfl rfl (by omega) (by omega) (hp_Kc (zi := (1 + 0)) (zv := (0 + (1 * b + 0))) k1 rfl rfl (by omega) (by omega) (hp_Kc (zi := (2 + 0)) (zv := (0 + (1 * d + 0))) k2 rfl rfl (by omega) (by omega) (hp_Kc (zi := (0 + 0)) (zv := (0 + (1 * n + 0))) k3 rfl rfl (by omega) (by omega) hp_Kn)))) (hp_La l0 (hp_Li (z := (3 + 0)) l1 rfl (by omega) (hp_Li (z := (0 + 0)) l2 rfl (by omega) (hp_Li (z := (1 + 0)) l3 rfl (by omega) hp_Ln)))) trivial ?_ ?_
  · intro p hp ys l' st' h' hys a1 a2 a3 gZ gL gS
    rcases List.mem_cons.mp hp with rfl | hp
    · obtain rfl := hp_y0 hys
      obtain ⟨y0, t0, rfl, q0, g0⟩ := hp_gSi (z := (0 + (1 * b + 0))) gS rfl
      obtain ⟨y1, t1, rfl, q1, g1⟩ := hp_gSi (z := (1 + (3 * n + 0))) g0 rfl
      obtain ⟨t2, rfl, g2⟩ := hp_gSa g1 (by decide)
      cases hp_gSn g2
      exact e0 l' h' y0 y1 (by omega) (by omega) a1 a2 a3 (hp_gK (zi := (0 + 0)) (zv := (1 + (1 * a + 0))) gZ.2.2.2 (List.mem_of_getElem? (i := 0) rfl) rfl rfl (by omega) (by omega)) (hp_gK (zi := (1 + 0)) (zv := (0 + (1 * b + 0))) gZ.2.2.2 (List.mem_of_getElem? (i := 1) rfl) rfl rfl (by omega) (by omega)) (hp_gK (zi := (2 + 0)) (zv := (0 + (1 * d + 0))) gZ.2.2.2 (List.mem_of_getElem? (i := 2) rfl) rfl rfl (by omega) (by omega)) (hp_gK (zi := (0 + 0)) (zv := (0 + (1 * n + 0))) gZ.2.2.2 (List.mem_of_getElem? (i := 3) rfl) rfl rfl (by omega) (by omega)) (hp_gLa gL (List.mem_of_getElem? (i := 0) rfl) (by decide)) (hp_gLi (z := (3 + 0)) gL (List.mem_of_getElem? (i := 1) rfl) rfl (by omega)) (hp_gLi (z := (1 + 0)) gL (List.mem_of_getElem? (i := 2) rfl) rfl (by omega)) (hp_gLi (z := (1 + 0)) gL (List.mem_of_getElem? (i := 3) rfl) rfl (by omega))
    cases hp
  · intro p hp ys v h' hys a1 a2 a3 gZ gS
    cases hp
theorem wr3_2_k : hp_chk 255 80 4 [(0, 0, 9), (1, 0, 9), (2, 0, 10), (3, 0, 29)] [] [(0, .inr (.inr (.inl (some 85)))), (1, .inl (3, [])), (2, .inl (1, [])), (3, .inl (1, []))] [] [(18688, (0, []), (1, [(0, 1)])), (18688, (1, []), (0, [(1, 1)])), (18688, (2, []), (0, [(2, 1)])), (17669, (0, []), (0, [(3, 1)]))] [18688] 5 [(79, ([], 4, [(0, 0, 9), (1, 0, 9), (2, 0, 10), (3, 0, 29)], [], [(0, .inr (.inr (.inl (some 85)))), (1, .inl (3, [])), (2, .inl (2, [])), (3, .inl (0, []))], [.inl ((-1), []), .inl (2, [(3, 3)]), .inr (.inr (.inl (some 90)))], [(18688, (0, []), (1, [(0, 1)])), (18688, (1, []), (1, [(1, 1)])), (18688, (2, []), (0, [(2, 1)])), (17669, (0, []), (0, [(3, 1)]))]))] [] = true := by decide +kernel
theorem wr3_2 {cst : am_K} {strs : List Nat} {Φ : am_Q → Prop} {D : Nat} {M : am_M} {h : am_H} {l : am_L} (c : hp_C cst strs D) (hM : m_P[255]? = some M) (hD : (5 : Int) ≤ (D : Int) + 1) (hy : ly_hy m_tt ly_TH h) (a b d n : Int) (b0 : 0 ≤ a) (t0 : a ≤ 9) (b1 : 0 ≤ b) (t1 : b ≤ 9) (b2 : 0 ≤ d) (t2 : d ≤ 10) (b3 : 0 ≤ n) (t3 : n ≤ 29) (k0 : ly_hv cst h 18688 0 = some (a + 1)) (k1 : ly_hv cst h 18688 1 = some (b)) (k2 : ly_hv cst h 18688 2 = some (d)) (k3 : ly_hv cst h 17669 0 = some (n)) (l0 : hp_a l 0 85) (l1 : hp_i l 1 3) (l2 : hp_i l 2 1) (l3 : hp_i l 3 1) (e0 : ∀ (l' : am_L) (h' : am_H) (y0 : Int32) (y1 : Int32), y0.toInt = (-1) → y1.toInt = (3 * n + 2) → ly_hy m_tt ly_TH h' → ly_fr cst [18688] h h' → h.length ≤ h'.length → ly_hv cst h' 18688 0 = some (a + 1) → ly_hv cst h' 18688 1 = some (b + 1) → ly_hv cst h' 18688 2 = some (d) → ly_hv cst h' 17669 0 = some (n) → hp_a l' 0 85 → hp_i l' 1 3 → hp_i l' 2 2 → hp_i l' 3 0 → hp_F cst strs Φ D M 79 l' [.int y0, .int y1, .ref 90] h') : hp_F cst strs Φ D M 80 l [] h := by
  refine hp_arc c hM wr3_2_k hD [a, b, d, n] rfl hy (hp_Bc (z := a) rfl b0 t0 (hp_Bc (z := b) rfl b1 t1 (hp_Bc (z := d) rfl b2 t2 (hp_Bc (z := n) rfl b3 t3 hp_Bn)))) hp_Fn (hp_Kc (zi := (0 + 0)) (zv := (1 + (1 * a + 0))) k0 rfl rfl (by omega) (by omega) (hp_Kc (zi := (1 + 0)) (zv := (0 + (1 * b + 0))) k1 rfl rfl (by omega) (by omega) (hp_Kc (zi := (2 + 0)) (zv := (0 + (1 * d + 0))) k2 rfl rfl (by omega) (by omega) (hp_Kc (zi := (0 + 0)) (zv := (0 + (1 * n + 0))) k3 rfl rfl (by omega) (by omega) hp_Kn)))) (hp_La l0 (hp_Li (z := (3 + 0)) l1 rfl (by omega) (hp_Li (z := (1 + 0)) l2 rfl (by omega) (hp_Li (z := (1 + 0)) l3 rfl (by omega) hp_Ln)))) trivial ?_ ?_
  · intro p hp ys l' st' h' hys a1 a2 a3 gZ gL gS
    rcases List.mem_cons.mp hp with rfl | hp
    · obtain rfl := hp_y0 hys
      obtain ⟨y0, t0, rfl, q0, g0⟩ := hp_gSi (z := ((-1) + 0)) gS rfl
      obtain ⟨y1, t1, rfl, q1, g1⟩ := hp_gSi (z := (2 + (3 * n + 0))) g0 rfl
      obtain ⟨t2, rfl, g2⟩ := hp_gSa g1 (by decide)
      cases hp_gSn g2
      exact e0 l' h' y0 y1 (by omega) (by omega) a1 a2 a3 (hp_gK (zi := (0 + 0)) (zv := (1 + (1 * a + 0))) gZ.2.2.2 (List.mem_of_getElem? (i := 0) rfl) rfl rfl (by omega) (by omega)) (hp_gK (zi := (1 + 0)) (zv := (1 + (1 * b + 0))) gZ.2.2.2 (List.mem_of_getElem? (i := 1) rfl) rfl rfl (by omega) (by omega)) (hp_gK (zi := (2 + 0)) (zv := (0 + (1 * d + 0))) gZ.2.2.2 (List.mem_of_getElem? (i := 2) rfl) rfl rfl (by omega) (by omega)) (hp_gK (zi := (0 + 0)) (zv := (0 + (1 * n + 0))) gZ.2.2.2 (List.mem_of_getElem? (i := 3) rfl) rfl rfl (by omega) (by omega)) (hp_gLa gL (List.mem_of_getElem? (i := 0) rfl) (by decide)) (hp_gLi (z := (3 + 0)) gL (List.mem_of_getElem? (i := 1) rfl) rfl (by omega)) (hp_gLi (z := (2 + 0)) gL (List.mem_of_getElem? (i := 2) rfl) rfl (by omega)) (hp_gLi (z := (0 + 0)) gL (List.mem_of_getElem? (i := 3) rfl) rfl (by omega))
    cases hp
  · intro p hp ys v h' hys a1 a2 a3 gZ gS
    cases hp
theorem wr3_3_k : hp_chk 255 80 4 [(0, 0, 9), (1, 0, 9), (2, 0, 10), (3, 0, 29)] [] [(0, .inr (.inr (.inl (some 85)))), (1, .inl (3, [])), (2, .inl (2, [])), (3, .inl (0, []))] [] [(18688, (0, []), (1, [(0, 1)])), (18688, (1, []), (1, [(1, 1)])), (18688, (2, []), (0, [(2, 1)])), (17669, (0, []), (0, [(3, 1)]))] [17669, 18688] 5 [(115, ([], 4, [(0, 0, 9), (1, 0, 9), (2, 0, 10), (3, 0, 29)], [], [(0, .inr (.inr (.inl (some 85))))], [.inr (.inr (.inl (some 85)))], [(18688, (0, []), (1, [(0, 1)])), (18688, (1, []), (1, [(1, 1)])), (18688, (2, []), (0, [(2, 1)])), (17669, (0, []), (1, [(3, 1)]))]))] [] = true := by decide +kernel
theorem wr3_3 {cst : am_K} {strs : List Nat} {Φ : am_Q → Prop} {D : Nat} {M : am_M} {h : am_H} {l : am_L} (c : hp_C cst strs D) (hM : m_P[255]? = some M) (hD : (5 : Int) ≤ (D : Int) + 1) (hy : ly_hy m_tt ly_TH h) (a b d n : Int) (b0 : 0 ≤ a) (t0 : a ≤ 9) (b1 : 0 ≤ b) (t1 : b ≤ 9) (b2 : 0 ≤ d) (t2 : d ≤ 10) (b3 : 0 ≤ n) (t3 : n ≤ 29) (k0 : ly_hv cst h 18688 0 = some (a + 1)) (k1 : ly_hv cst h 18688 1 = some (b + 1)) (k2 : ly_hv cst h 18688 2 = some (d)) (k3 : ly_hv cst h 17669 0 = some (n)) (l0 : hp_a l 0 85) (l1 : hp_i l 1 3) (l2 : hp_i l 2 2) (l3 : hp_i l 3 0) (e0 : ∀ (l' : am_L) (h' : am_H), ly_hy m_tt ly_TH h' → ly_fr cst [17669, 18688] h h' → h.length ≤ h'.length → ly_hv cst h' 18688 0 = some (a + 1) → ly_hv cst h' 18688 1 = some (b + 1) → ly_hv cst h' 18688 2 = some (d) → ly_hv cst h' 17669 0 = some (n + 1) → hp_a l' 0 85 → hp_F cst strs Φ D M 115 l' [.ref 85] h') : hp_F cst strs Φ D M 80 l [] h := by
  refine hp_arc c hM wr3_3_k hD [a, b, d, n] rfl hy (hp_Bc (z := a) rfl b0 t0 (hp_Bc (z := b) rfl b1 t1 (hp_Bc (z := d) rfl b2 t2 (hp_Bc (z := n) rfl b3 t3 hp_Bn)))) hp_Fn (hp_Kc (zi := (0 + 0)) (zv := (1 + (1 * a + 0))) k0 rfl rfl (by omega) (by omega) (hp_Kc (zi := (1 + 0)) (zv := (1 + (1 * b + 0))) k1 rfl rfl (by omega) (by omega) (hp_Kc (zi := (2 + 0)) (zv := (0 + (1 * d + 0))) k2 rfl rfl (by omega) (by omega) (hp_Kc (zi := (0 + 0)) (zv := (0 + (1 * n + 0))) k3 rfl rfl (by omega) (by omega) hp_Kn)))) (hp_La l0 (hp_Li (z := (3 + 0)) l1 rfl (by omega) (hp_Li (z := (2 + 0)) l2 rfl (by omega) (hp_Li (z := (0 + 0)) l3 rfl (by omega) hp_Ln)))) trivial ?_ ?_
  · intro p hp ys l' st' h' hys a1 a2 a3 gZ gL gS
    rcases List.mem_cons.mp hp with rfl | hp
    · obtain rfl := hp_y0 hys
      obtain ⟨t0, rfl, g0⟩ := hp_gSa gS (by decide)
      cases hp_gSn g0
      exact e0 l' h' a1 a2 a3 (hp_gK (zi := (0 + 0)) (zv := (1 + (1 * a + 0))) gZ.2.2.2 (List.mem_of_getElem? (i := 0) rfl) rfl rfl (by omega) (by omega)) (hp_gK (zi := (1 + 0)) (zv := (1 + (1 * b + 0))) gZ.2.2.2 (List.mem_of_getElem? (i := 1) rfl) rfl rfl (by omega) (by omega)) (hp_gK (zi := (2 + 0)) (zv := (0 + (1 * d + 0))) gZ.2.2.2 (List.mem_of_getElem? (i := 2) rfl) rfl rfl (by omega) (by omega)) (hp_gK (zi := (0 + 0)) (zv := (1 + (1 * n + 0))) gZ.2.2.2 (List.mem_of_getElem? (i := 3) rfl) rfl rfl (by omega) (by omega)) (hp_gLa gL (List.mem_of_getElem? (i := 0) rfl) (by decide))
    cases hp
  · intro p hp ys v h' hys a1 a2 a3 gZ gS
    cases hp
theorem wr5_0_k : hp_chk 255 18 4 [(0, 0, 9), (1, 0, 10), (2, 0, 9), (3, 0, 29)] [] [(0, .inr (.inr (.inl (some 85)))), (1, .inl (5, []))] [] [(18688, (0, []), (0, [(0, 1)])), (18688, (1, []), (0, [(1, 1)])), (18688, (2, []), (0, [(2, 1)])), (17669, (0, []), (0, [(3, 1)]))] [] 5 [(79, ([], 4, [(0, 0, 9), (1, 0, 10), (2, 0, 9), (3, 0, 29)], [], [(0, .inr (.inr (.inl (some 85)))), (1, .inl (5, [])), (2, .inl (0, [])), (3, .inl (1, []))], [.inl (0, [(0, 1)]), .inl (0, [(3, 3)]), .inr (.inr (.inl (some 90)))], [(18688, (0, []), (0, [(0, 1)])), (18688, (1, []), (0, [(1, 1)])), (18688, (2, []), (0, [(2, 1)])), (17669, (0, []), (0, [(3, 1)]))]))] [] = true := by decide +kernel
theorem wr5_0 {cst : am_K} {strs : List Nat} {Φ : am_Q → Prop} {D : Nat} {M : am_M} {h : am_H} {l : am_L} (c : hp_C cst strs D) (hM : m_P[255]? = some M) (hD : (5 : Int) ≤ (D : Int) + 1) (hy : ly_hy m_tt ly_TH h) (a b d n : Int) (b0 : 0 ≤ a) (t0 : a ≤ 9) (b1 : 0 ≤ b) (t1 : b ≤ 10) (b2 : 0 ≤ d) (t2 : d ≤ 9) (b3 : 0 ≤ n) (t3 : n ≤ 29) (k0 : ly_hv cst h 18688 0 = some (a)) (k1 : ly_hv cst h 18688 1 = some (b)) (k2 : ly_hv cst h 18688 2 = some (d)) (k3 : ly_hv cst h 17669 0 = some (n)) (l0 : hp_a l 0 85) (l1 : hp_i l 1 5) (e0 : ∀ (l' : am_L) (h' : am_H) (y0 : Int32) (y1 : Int32), y0.toInt = (a) → y1.toInt = (3 * n) → ly_hy m_tt ly_TH h' → ly_fr cst [] h h' → h.length ≤ h'.length → ly_hv cst h' 18688 0 = some (a) → ly_hv cst h' 18688 1 = some (b) → ly_hv cst h' 18688 2 = some (d) → ly_hv cst h' 17669 0 = some (n) → hp_a l' 0 85 → hp_i l' 1 5 → hp_i l' 2 0 → hp_i l' 3 1 → hp_F cst strs Φ D M 79 l' [.int y0, .int y1, .ref 90] h') : hp_F cst strs Φ D M 18 l [] h := by
  refine hp_arc c hM wr5_0_k hD [a, b, d, n] rfl hy (hp_Bc (z := a) rfl b0 t0 (hp_Bc (z := b) rfl b1 t1 (hp_Bc (z := d) rfl b2 t2 (hp_Bc (z := n) rfl b3 t3 hp_Bn)))) hp_Fn (hp_Kc (zi := (0 + 0)) (zv := (0 + (1 * a + 0))) k0 rfl rfl (by omega) (by omega) (hp_Kc (zi := (1 + 0)) (zv := (0 + (1 * b + 0))) k1 rfl rfl (by omega) (by omega) (hp_Kc (zi := (2 + 0)) (zv := (0 + (1 * d + 0))) k2 rfl rfl (by omega) (by omega) (hp_Kc (zi := (0 + 0)) (zv := (0 + (1 * n + 0))) k3 rfl rfl (by omega) (by omega) hp_Kn)))) (hp_La l0 (hp_Li (z := (5 + 0)) l1 rfl (by omega) hp_Ln)) trivial ?_ ?_
  · intro p hp ys l' st' h' hys a1 a2 a3 gZ gL gS
    rcases List.mem_cons.mp hp with rfl | hp
    · obtain rfl := hp_y0 hys
      obtain ⟨y0, t0, rfl, q0, g0⟩ := hp_gSi (z := (0 + (1 * a + 0))) gS rfl
      obtain ⟨y1, t1, rfl, q1, g1⟩ := hp_gSi (z := (0 + (3 * n + 0))) g0 rfl
      obtain ⟨t2, rfl, g2⟩ := hp_gSa g1 (by decide)
      cases hp_gSn g2
      exact e0 l' h' y0 y1 (by omega) (by omega) a1 a2 a3 (hp_gK (zi := (0 + 0)) (zv := (0 + (1 * a + 0))) gZ.2.2.2 (List.mem_of_getElem? (i := 0) rfl) rfl rfl (by omega) (by omega)) (hp_gK (zi := (1 + 0)) (zv := (0 + (1 * b + 0))) gZ.2.2.2 (List.mem_of_getElem? (i := 1) rfl) rfl rfl (by omega) (by omega)) (hp_gK (zi := (2 + 0)) (zv := (0 + (1 * d + 0))) gZ.2.2.2 (List.mem_of_getElem? (i := 2) rfl) rfl rfl (by omega) (by omega)) (hp_gK (zi := (0 + 0)) (zv := (0 + (1 * n + 0))) gZ.2.2.2 (List.mem_of_getElem? (i := 3) rfl) rfl rfl (by omega) (by omega)) (hp_gLa gL (List.mem_of_getElem? (i := 0) rfl) (by decide)) (hp_gLi (z := (5 + 0)) gL (List.mem_of_getElem? (i := 1) rfl) rfl (by omega)) (hp_gLi (z := (0 + 0)) gL (List.mem_of_getElem? (i := 2) rfl) rfl (by omega)) (hp_gLi (z := (1 + 0)) gL (List.mem_of_getElem? (i := 3) rfl) rfl (by omega))
    cases hp
  · intro p hp ys v h' hys a1 a2 a3 gZ gS
    cases hp
theorem wr5_1_k : hp_chk 255 80 4 [(0, 0, 9), (1, 0, 10), (2, 0, 9), (3, 0, 29)] [] [(0, .inr (.inr (.inl (some 85)))), (1, .inl (5, [])), (2, .inl (0, [])), (3, .inl (1, []))] [] [(18688, (0, []), (0, [(0, 1)])), (18688, (1, []), (0, [(1, 1)])), (18688, (2, []), (0, [(2, 1)])), (17669, (0, []), (0, [(3, 1)]))] [18688] 5 [(79, ([], 4, [(0, 0, 9), (1, 0, 10), (2, 0, 9), (3, 0, 29)], [], [(0, .inr (.inr (.inl (some 85)))), (1, .inl (5, [])), (2, .inl (1, [])), (3, .inl (0, []))], [.inl ((-1), []), .inl (1, [(3, 3)]), .inr (.inr (.inl (some 90)))], [(18688, (0, []), (1, [(0, 1)])), (18688, (1, []), (0, [(1, 1)])), (18688, (2, []), (0, [(2, 1)])), (17669, (0, []), (0, [(3, 1)]))]))] [] = true := by decide +kernel
theorem wr5_1 {cst : am_K} {strs : List Nat} {Φ : am_Q → Prop} {D : Nat} {M : am_M} {h : am_H} {l : am_L} (c : hp_C cst strs D) (hM : m_P[255]? = some M) (hD : (5 : Int) ≤ (D : Int) + 1) (hy : ly_hy m_tt ly_TH h) (a b d n : Int) (b0 : 0 ≤ a) (t0 : a ≤ 9) (b1 : 0 ≤ b) (t1 : b ≤ 10) (b2 : 0 ≤ d) (t2 : d ≤ 9) (b3 : 0 ≤ n) (t3 : n ≤ 29) (k0 : ly_hv cst h 18688 0 = some (a)) (k1 : ly_hv cst h 18688 1 = some (b)) (k2 : ly_hv cst h 18688 2 = some (d)) (k3 : ly_hv cst h 17669 0 = some (n)) (l0 : hp_a l 0 85) (l1 : hp_i l 1 5) (l2 : hp_i l 2 0) (l3 : hp_i l 3 1) (e0 : ∀ (l' : am_L) (h' : am_H) (y0 : Int32) (y1 : Int32), y0.toInt = (-1) → y1.toInt = (3 * n + 1) → ly_hy m_tt ly_TH h' → ly_fr cst [18688] h h' → h.length ≤ h'.length → ly_hv cst h' 18688 0 = some (a + 1) → ly_hv cst h' 18688 1 = some (b) → ly_hv cst h' 18688 2 = some (d) → ly_hv cst h' 17669 0 = some (n) → hp_a l' 0 85 → hp_i l' 1 5 → hp_i l' 2 1 → hp_i l' 3 0 → hp_F cst strs Φ D M 79 l' [.int y0, .int y1, .ref 90] h') : hp_F cst strs Φ D M 80 l [] h := by
  refine hp_arc c hM wr5_1_k hD [a, b, d, n] rfl hy (hp_Bc (z := a) rfl b0 t0 (hp_Bc (z := b) rfl b1 t1 (hp_Bc (z := d) rfl b2 t2 (hp_Bc (z := n) rfl b3 t3 hp_Bn)))) hp_Fn (hp_Kc (zi := (0 + 0)) (zv := (0 + (1 * a + 0))) k0 rfl rfl (by omega) (by omega) (hp_Kc (zi := (1 + 0)) (zv := (0 + (1 * b + 0))) k1 rfl rfl (by omega) (by omega) (hp_Kc (zi := (2 + 0)) (zv := (0 + (1 * d + 0))) k2 rfl rfl (by omega) (by omega) (hp_Kc (zi := (0 + 0)) (zv := (0 + (1 * n + 0))) k3 rfl rfl (by omega) (by omega) hp_Kn)))) (hp_La l0 (hp_Li (z := (5 + 0)) l1 rfl (by omega) (hp_Li (z := (0 + 0)) l2 rfl (by omega) (hp_Li (z := (1 + 0)) l3 rfl (by omega) hp_Ln)))) trivial ?_ ?_
  · intro p hp ys l' st' h' hys a1 a2 a3 gZ gL gS
    rcases List.mem_cons.mp hp with rfl | hp
    · obtain rfl := hp_y0 hys
      obtain ⟨y0, t0, rfl, q0, g0⟩ := hp_gSi (z := ((-1) + 0)) gS rfl
      obtain ⟨y1, t1, rfl, q1, g1⟩ := hp_gSi (z := (1 + (3 * n + 0))) g0 rfl
      obtain ⟨t2, rfl, g2⟩ := hp_gSa g1 (by decide)
      cases hp_gSn g2
      exact e0 l' h' y0 y1 (by omega) (by omega) a1 a2 a3 (hp_gK (zi := (0 + 0)) (zv := (1 + (1 * a + 0))) gZ.2.2.2 (List.mem_of_getElem? (i := 0) rfl) rfl rfl (by omega) (by omega)) (hp_gK (zi := (1 + 0)) (zv := (0 + (1 * b + 0))) gZ.2.2.2 (List.mem_of_getElem? (i := 1) rfl) rfl rfl (by omega) (by omega)) (hp_gK (zi := (2 + 0)) (zv := (0 + (1 * d + 0))) gZ.2.2.2 (List.mem_of_getElem? (i := 2) rfl) rfl rfl (by omega) (by omega)) (hp_gK (zi := (0 + 0)) (zv := (0 + (1 * n + 0))) gZ.2.2.2 (List.mem_of_getElem? (i := 3) rfl) rfl rfl (by omega) (by omega)) (hp_gLa gL (List.mem_of_getElem? (i := 0) rfl) (by decide)) (hp_gLi (z := (5 + 0)) gL (List.mem_of_getElem? (i := 1) rfl) rfl (by omega)) (hp_gLi (z := (1 + 0)) gL (List.mem_of_getElem? (i := 2) rfl) rfl (by omega)) (hp_gLi (z := (0 + 0)) gL (List.mem_of_getElem? (i := 3) rfl) rfl (by omega))
    cases hp
  · intro p hp ys v h' hys a1 a2 a3 gZ gS
    cases hp
theorem wr5_2_k : hp_chk 255 80 4 [(0, 0, 9), (1, 0, 10), (2, 0, 9), (3, 0, 29)] [] [(0, .inr (.inr (.inl (some 85)))), (1, .inl (5, [])), (2, .inl (1, [])), (3, .inl (0, []))] [] [(18688, (0, []), (1, [(0, 1)])), (18688, (1, []), (0, [(1, 1)])), (18688, (2, []), (0, [(2, 1)])), (17669, (0, []), (0, [(3, 1)]))] [18688] 5 [(79, ([], 4, [(0, 0, 9), (1, 0, 10), (2, 0, 9), (3, 0, 29)], [], [(0, .inr (.inr (.inl (some 85)))), (1, .inl (5, [])), (2, .inl (2, [])), (3, .inl (1, []))], [.inl (0, [(2, 1)]), .inl (2, [(3, 3)]), .inr (.inr (.inl (some 90)))], [(18688, (0, []), (1, [(0, 1)])), (18688, (1, []), (0, [(1, 1)])), (18688, (2, []), (0, [(2, 1)])), (17669, (0, []), (0, [(3, 1)]))]))] [] = true := by decide +kernel
theorem wr5_2 {cst : am_K} {strs : List Nat} {Φ : am_Q → Prop} {D : Nat} {M : am_M} {h : am_H} {l : am_L} (c : hp_C cst strs D) (hM : m_P[255]? = some M) (hD : (5 : Int) ≤ (D : Int) + 1) (hy : ly_hy m_tt ly_TH h) (a b d n : Int) (b0 : 0 ≤ a) (t0 : a ≤ 9) (b1 : 0 ≤ b) (t1 : b ≤ 10) (b2 : 0 ≤ d) (t2 : d ≤ 9) (b3 : 0 ≤ n) (t3 : n ≤ 29) (k0 : ly_hv cst h 18688 0 = some (a + 1)) (k1 : ly_hv cst h 18688 1 = some (b)) (k2 : ly_hv cst h 18688 2 = some (d)) (k3 : ly_hv cst h 17669 0 = some (n)) (l0 : hp_a l 0 85) (l1 : hp_i l 1 5) (l2 : hp_i l 2 1) (l3 : hp_i l 3 0) (e0 : ∀ (l' : am_L) (h' : am_H) (y0 : Int32) (y1 : Int32), y0.toInt = (d) → y1.toInt = (3 * n + 2) → ly_hy m_tt ly_TH h' → ly_fr cst [18688] h h' → h.length ≤ h'.length → ly_hv cst h' 18688 0 = some (a + 1) → ly_hv cst h' 18688 1 = some (b) → ly_hv cst h' 18688 2 = some (d) → ly_hv cst h' 17669 0 = some (n) → hp_a l' 0 85 → hp_i l' 1 5 → hp_i l' 2 2 → hp_i l' 3 1 → hp_F cst strs Φ D M 79 l' [.int y0, .int y1, .ref 90] h') : hp_F cst strs Φ D M 80 l [] h := by
  refine hp_arc c hM wr5_2_k hD [a, b, d, n] rfl hy (hp_Bc (z := a) rfl b0 t0 (hp_Bc (z := b) rfl b1 t1 (hp_Bc (z := d) rfl b2 t2 (hp_Bc (z := n) rfl b3 t3 hp_Bn)))) hp_Fn (hp_Kc (zi := (0 + 0)) (zv := (1 + (1 * a + 0))) k0 rfl rfl (by omega) (by omega) (hp_Kc (zi := (1 + 0)) (zv := (0 + (1 * b + 0))) k1 rfl rfl (by omega) (by omega) (hp_Kc (zi := (2 + 0)) (zv := (0 + (1 * d + 0))) k2 rfl rfl (by omega) (by omega) (hp_Kc (zi := (0 + 0)) (zv := (0 + (1 * n + 0))) k3 rfl rfl (by omega) (by omega) hp_Kn)))) (hp_La l0 (hp_Li (z := (5 + 0)) l1 rfl (by omega) (hp_Li (z := (1 + 0)) l2 rfl (by omega) (hp_Li (z := (0 + 0)) l3 rfl (by omega) hp_Ln)))) trivial ?_ ?_
  · intro p hp ys l' st' h' hys a1 a2 a3 gZ gL gS
    rcases List.mem_cons.mp hp with rfl | hp
    · obtain rfl := hp_y0 hys
      obtain ⟨y0, t0, rfl, q0, g0⟩ := hp_gSi (z := (0 + (1 * d + 0))) gS rfl
      obtain ⟨y1, t1, rfl, q1, g1⟩ := hp_gSi (z := (2 + (3 * n + 0))) g0 rfl
      obtain ⟨t2, rfl, g2⟩ := hp_gSa g1 (by decide)
      cases hp_gSn g2
      exact e0 l' h' y0 y1 (by omega) (by omega) a1 a2 a3 (hp_gK (zi := (0 + 0)) (zv := (1 + (1 * a + 0))) gZ.2.2.2 (List.mem_of_getElem? (i := 0) rfl) rfl rfl (by omega) (by omega)) (hp_gK (zi := (1 + 0)) (zv := (0 + (1 * b + 0))) gZ.2.2.2 (List.mem_of_getElem? (i := 1) rfl) rfl rfl (by omega) (by omega)) (hp_gK (zi := (2 + 0)) (zv := (0 + (1 * d + 0))) gZ.2.2.2 (List.mem_of_getElem? (i := 2) rfl) rfl rfl (by omega) (by omega)) (hp_gK (zi := (0 + 0)) (zv := (0 + (1 * n + 0))) gZ.2.2.2 (List.mem_of_getElem? (i := 3) rfl) rfl rfl (by omega) (by omega)) (hp_gLa gL (List.mem_of_getElem? (i := 0) rfl) (by decide)) (hp_gLi (z := (5 + 0)) gL (List.mem_of_getElem? (i := 1) rfl) rfl (by omega)) (hp_gLi (z := (2 + 0)) gL (List.mem_of_getElem? (i := 2) rfl) rfl (by omega)) (hp_gLi (z := (1 + 0)) gL (List.mem_of_getElem? (i := 3) rfl) rfl (by omega))
    cases hp
  · intro p hp ys v h' hys a1 a2 a3 gZ gS
    cases hp
theorem wr5_3_k : hp_chk 255 80 4 [(0, 0, 9), (1, 0, 10), (2, 0, 9), (3, 0, 29)] [] [(0, .inr (.inr (.inl (some 85)))), (1, .inl (5, [])), (2, .inl (2, [])), (3, .inl (1, []))] [] [(18688, (0, []), (1, [(0, 1)])), (18688, (1, []), (0, [(1, 1)])), (18688, (2, []), (0, [(2, 1)])), (17669, (0, []), (0, [(3, 1)]))] [17669, 18688] 5 [(115, ([], 4, [(0, 0, 9), (1, 0, 10), (2, 0, 9), (3, 0, 29)], [], [(0, .inr (.inr (.inl (some 85))))], [.inr (.inr (.inl (some 85)))], [(18688, (0, []), (1, [(0, 1)])), (18688, (1, []), (0, [(1, 1)])), (18688, (2, []), (1, [(2, 1)])), (17669, (0, []), (1, [(3, 1)]))]))] [] = true := by decide +kernel
theorem wr5_3 {cst : am_K} {strs : List Nat} {Φ : am_Q → Prop} {D : Nat} {M : am_M} {h : am_H} {l : am_L} (c : hp_C cst strs D) (hM : m_P[255]? = some M) (hD : (5 : Int) ≤ (D : Int) + 1) (hy : ly_hy m_tt ly_TH h) (a b d n : Int) (b0 : 0 ≤ a) (t0 : a ≤ 9) (b1 : 0 ≤ b) (t1 : b ≤ 10) (b2 : 0 ≤ d) (t2 : d ≤ 9) (b3 : 0 ≤ n) (t3 : n ≤ 29) (k0 : ly_hv cst h 18688 0 = some (a + 1)) (k1 : ly_hv cst h 18688 1 = some (b)) (k2 : ly_hv cst h 18688 2 = some (d)) (k3 : ly_hv cst h 17669 0 = some (n)) (l0 : hp_a l 0 85) (l1 : hp_i l 1 5) (l2 : hp_i l 2 2) (l3 : hp_i l 3 1) (e0 : ∀ (l' : am_L) (h' : am_H), ly_hy m_tt ly_TH h' → ly_fr cst [17669, 18688] h h' → h.length ≤ h'.length → ly_hv cst h' 18688 0 = some (a + 1) → ly_hv cst h' 18688 1 = some (b) → ly_hv cst h' 18688 2 = some (d + 1) → ly_hv cst h' 17669 0 = some (n + 1) → hp_a l' 0 85 → hp_F cst strs Φ D M 115 l' [.ref 85] h') : hp_F cst strs Φ D M 80 l [] h := by
  refine hp_arc c hM wr5_3_k hD [a, b, d, n] rfl hy (hp_Bc (z := a) rfl b0 t0 (hp_Bc (z := b) rfl b1 t1 (hp_Bc (z := d) rfl b2 t2 (hp_Bc (z := n) rfl b3 t3 hp_Bn)))) hp_Fn (hp_Kc (zi := (0 + 0)) (zv := (1 + (1 * a + 0))) k0 rfl rfl (by omega) (by omega) (hp_Kc (zi := (1 + 0)) (zv := (0 + (1 * b + 0))) k1 rfl rfl (by omega) (by omega) (hp_Kc (zi := (2 + 0)) (zv := (0 + (1 * d + 0))) k2 rfl rfl (by omega) (by omega) (hp_Kc (zi := (0 + 0)) (zv := (0 + (1 * n + 0))) k3 rfl rfl (by omega) (by omega) hp_Kn)))) (hp_La l0 (hp_Li (z := (5 + 0)) l1 rfl (by omega) (hp_Li (z := (2 + 0)) l2 rfl (by omega) (hp_Li (z := (1 + 0)) l3 rfl (by omega) hp_Ln)))) trivial ?_ ?_
  · intro p hp ys l' st' h' hys a1 a2 a3 gZ gL gS
    rcases List.mem_cons.mp hp with rfl | hp
    · obtain rfl := hp_y0 hys
      obtain ⟨t0, rfl, g0⟩ := hp_gSa gS (by decide)
      cases hp_gSn g0
      exact e0 l' h' a1 a2 a3 (hp_gK (zi := (0 + 0)) (zv := (1 + (1 * a + 0))) gZ.2.2.2 (List.mem_of_getElem? (i := 0) rfl) rfl rfl (by omega) (by omega)) (hp_gK (zi := (1 + 0)) (zv := (0 + (1 * b + 0))) gZ.2.2.2 (List.mem_of_getElem? (i := 1) rfl) rfl rfl (by omega) (by omega)) (hp_gK (zi := (2 + 0)) (zv := (1 + (1 * d + 0))) gZ.2.2.2 (List.mem_of_getElem? (i := 2) rfl) rfl rfl (by omega) (by omega)) (hp_gK (zi := (0 + 0)) (zv := (1 + (1 * n + 0))) gZ.2.2.2 (List.mem_of_getElem? (i := 3) rfl) rfl rfl (by omega) (by omega)) (hp_gLa gL (List.mem_of_getElem? (i := 0) rfl) (by decide))
    cases hp
  · intro p hp ys v h' hys a1 a2 a3 gZ gS
    cases hp
theorem wr6_0_k : hp_chk 255 18 4 [(0, 0, 10), (1, 0, 9), (2, 0, 9), (3, 0, 29)] [] [(0, .inr (.inr (.inl (some 85)))), (1, .inl (6, []))] [] [(18688, (0, []), (0, [(0, 1)])), (18688, (1, []), (0, [(1, 1)])), (18688, (2, []), (0, [(2, 1)])), (17669, (0, []), (0, [(3, 1)]))] [] 5 [(79, ([], 4, [(0, 0, 10), (1, 0, 9), (2, 0, 9), (3, 0, 29)], [], [(0, .inr (.inr (.inl (some 85)))), (1, .inl (6, [])), (2, .inl (0, [])), (3, .inl (0, []))], [.inl ((-1), []), .inl (0, [(3, 3)]), .inr (.inr (.inl (some 90)))], [(18688, (0, []), (0, [(0, 1)])), (18688, (1, []), (0, [(1, 1)])), (18688, (2, []), (0, [(2, 1)])), (17669, (0, []), (0, [(3, 1)]))]))] [] = true := by decide +kernel
theorem wr6_0 {cst : am_K} {strs : List Nat} {Φ : am_Q → Prop} {D : Nat} {M : am_M} {h : am_H} {l : am_L} (c : hp_C cst strs D) (hM : m_P[255]? = some M) (hD : (5 : Int) ≤ (D : Int) + 1) (hy : ly_hy m_tt ly_TH h) (a b d n : Int) (b0 : 0 ≤ a) (t0 : a ≤ 10) (b1 : 0 ≤ b) (t1 : b ≤ 9) (b2 : 0 ≤ d) (t2 : d ≤ 9) (b3 : 0 ≤ n) (t3 : n ≤ 29) (k0 : ly_hv cst h 18688 0 = some (a)) (k1 : ly_hv cst h 18688 1 = some (b)) (k2 : ly_hv cst h 18688 2 = some (d)) (k3 : ly_hv cst h 17669 0 = some (n)) (l0 : hp_a l 0 85) (l1 : hp_i l 1 6) (e0 : ∀ (l' : am_L) (h' : am_H) (y0 : Int32) (y1 : Int32), y0.toInt = (-1) → y1.toInt = (3 * n) → ly_hy m_tt ly_TH h' → ly_fr cst [] h h' → h.length ≤ h'.length → ly_hv cst h' 18688 0 = some (a) → ly_hv cst h' 18688 1 = some (b) → ly_hv cst h' 18688 2 = some (d) → ly_hv cst h' 17669 0 = some (n) → hp_a l' 0 85 → hp_i l' 1 6 → hp_i l' 2 0 → hp_i l' 3 0 → hp_F cst strs Φ D M 79 l' [.int y0, .int y1, .ref 90] h') : hp_F cst strs Φ D M 18 l [] h := by
  refine hp_arc c hM wr6_0_k hD [a, b, d, n] rfl hy (hp_Bc (z := a) rfl b0 t0 (hp_Bc (z := b) rfl b1 t1 (hp_Bc (z := d) rfl b2 t2 (hp_Bc (z := n) rfl b3 t3 hp_Bn)))) hp_Fn (hp_Kc (zi := (0 + 0)) (zv := (0 + (1 * a + 0))) k0 rfl rfl (by omega) (by omega) (hp_Kc (zi := (1 + 0)) (zv := (0 + (1 * b + 0))) k1 rfl rfl (by omega) (by omega) (hp_Kc (zi := (2 + 0)) (zv := (0 + (1 * d + 0))) k2 rfl rfl (by omega) (by omega) (hp_Kc (zi := (0 + 0)) (zv := (0 + (1 * n + 0))) k3 rfl rfl (by omega) (by omega) hp_Kn)))) (hp_La l0 (hp_Li (z := (6 + 0)) l1 rfl (by omega) hp_Ln)) trivial ?_ ?_
  · intro p hp ys l' st' h' hys a1 a2 a3 gZ gL gS
    rcases List.mem_cons.mp hp with rfl | hp
    · obtain rfl := hp_y0 hys
      obtain ⟨y0, t0, rfl, q0, g0⟩ := hp_gSi (z := ((-1) + 0)) gS rfl
      obtain ⟨y1, t1, rfl, q1, g1⟩ := hp_gSi (z := (0 + (3 * n + 0))) g0 rfl
      obtain ⟨t2, rfl, g2⟩ := hp_gSa g1 (by decide)
      cases hp_gSn g2
      exact e0 l' h' y0 y1 (by omega) (by omega) a1 a2 a3 (hp_gK (zi := (0 + 0)) (zv := (0 + (1 * a + 0))) gZ.2.2.2 (List.mem_of_getElem? (i := 0) rfl) rfl rfl (by omega) (by omega)) (hp_gK (zi := (1 + 0)) (zv := (0 + (1 * b + 0))) gZ.2.2.2 (List.mem_of_getElem? (i := 1) rfl) rfl rfl (by omega) (by omega)) (hp_gK (zi := (2 + 0)) (zv := (0 + (1 * d + 0))) gZ.2.2.2 (List.mem_of_getElem? (i := 2) rfl) rfl rfl (by omega) (by omega)) (hp_gK (zi := (0 + 0)) (zv := (0 + (1 * n + 0))) gZ.2.2.2 (List.mem_of_getElem? (i := 3) rfl) rfl rfl (by omega) (by omega)) (hp_gLa gL (List.mem_of_getElem? (i := 0) rfl) (by decide)) (hp_gLi (z := (6 + 0)) gL (List.mem_of_getElem? (i := 1) rfl) rfl (by omega)) (hp_gLi (z := (0 + 0)) gL (List.mem_of_getElem? (i := 2) rfl) rfl (by omega)) (hp_gLi (z := (0 + 0)) gL (List.mem_of_getElem? (i := 3) rfl) rfl (by omega))
    cases hp
  · intro p hp ys v h' hys a1 a2 a3 gZ gS
    cases hp
theorem wr6_1_k : hp_chk 255 80 4 [(0, 0, 10), (1, 0, 9), (2, 0, 9), (3, 0, 29)] [] [(0, .inr (.inr (.inl (some 85)))), (1, .inl (6, [])), (2, .inl (0, [])), (3, .inl (0, []))] [] [(18688, (0, []), (0, [(0, 1)])), (18688, (1, []), (0, [(1, 1)])), (18688, (2, []), (0, [(2, 1)])), (17669, (0, []), (0, [(3, 1)]))] [18688] 5 [(79, ([], 4, [(0, 0, 10), (1, 0, 9), (2, 0, 9), (3, 0, 29)], [], [(0, .inr (.inr (.inl (some 85)))), (1, .inl (6, [])), (2, .inl (1, [])), (3, .inl (1, []))], [.inl (0, [(1, 1)]), .inl (1, [(3, 3)]), .inr (.inr (.inl (some 90)))], [(18688, (0, []), (0, [(0, 1)])), (18688, (1, []), (0, [(1, 1)])), (18688, (2, []), (0, [(2, 1)])), (17669, (0, []), (0, [(3, 1)]))]))] [] = true := by decide +kernel
theorem wr6_1 {cst : am_K} {strs : List Nat} {Φ : am_Q → Prop} {D : Nat} {M : am_M} {h : am_H} {l : am_L} (c : hp_C cst strs D) (hM : m_P[255]? = some M) (hD : (5 : Int) ≤ (D : Int) + 1) (hy : ly_hy m_tt ly_TH h) (a b d n : Int) (b0 : 0 ≤ a) (t0 : a ≤ 10) (b1 : 0 ≤ b) (t1 : b ≤ 9) (b2 : 0 ≤ d) (t2 : d ≤ 9) (b3 : 0 ≤ n) (t3 : n ≤ 29) (k0 : ly_hv cst h 18688 0 = some (a)) (k1 : ly_hv cst h 18688 1 = some (b)) (k2 : ly_hv cst h 18688 2 = some (d)) (k3 : ly_hv cst h 17669 0 = some (n)) (l0 : hp_a l 0 85) (l1 : hp_i l 1 6) (l2 : hp_i l 2 0) (l3 : hp_i l 3 0) (e0 : ∀ (l' : am_L) (h' : am_H) (y0 : Int32) (y1 : Int32), y0.toInt = (b) → y1.toInt = (3 * n + 1) → ly_hy m_tt ly_TH h' → ly_fr cst [18688] h h' → h.length ≤ h'.length → ly_hv cst h' 18688 0 = some (a) → ly_hv cst h' 18688 1 = some (b) → ly_hv cst h' 18688 2 = some (d) → ly_hv cst h' 17669 0 = some (n) → hp_a l' 0 85 → hp_i l' 1 6 → hp_i l' 2 1 → hp_i l' 3 1 → hp_F cst strs Φ D M 79 l' [.int y0, .int y1, .ref 90] h') : hp_F cst strs Φ D M 80 l [] h := by
  refine hp_arc c hM wr6_1_k hD [a, b, d, n] rfl hy (hp_Bc (z := a) rfl b0 t0 (hp_Bc (z := b) rfl b1 t1 (hp_Bc (z := d) rfl b2 t2 (hp_Bc (z := n) rfl b3 t3 hp_Bn)))) hp_Fn (hp_Kc (zi := (0 + 0)) (zv := (0 + (1 * a + 0))) k0 rfl rfl (by omega) (by omega) (hp_Kc (zi := (1 + 0)) (zv := (0 + (1 * b + 0))) k1 rfl rfl (by omega) (by omega) (hp_Kc (zi := (2 + 0)) (zv := (0 + (1 * d + 0))) k2 rfl rfl (by omega) (by omega) (hp_Kc (zi := (0 + 0)) (zv := (0 + (1 * n + 0))) k3 rfl rfl (by omega) (by omega) hp_Kn)))) (hp_La l0 (hp_Li (z := (6 + 0)) l1 rfl (by omega) (hp_Li (z := (0 + 0)) l2 rfl (by omega) (hp_Li (z := (0 + 0)) l3 rfl (by omega) hp_Ln)))) trivial ?_ ?_
  · intro p hp ys l' st' h' hys a1 a2 a3 gZ gL gS
    rcases List.mem_cons.mp hp with rfl | hp
    · obtain rfl := hp_y0 hys
      obtain ⟨y0, t0, rfl, q0, g0⟩ := hp_gSi (z := (0 + (1 * b + 0))) gS rfl
      obtain ⟨y1, t1, rfl, q1, g1⟩ := hp_gSi (z := (1 + (3 * n + 0))) g0 rfl
      obtain ⟨t2, rfl, g2⟩ := hp_gSa g1 (by decide)
      cases hp_gSn g2
      exact e0 l' h' y0 y1 (by omega) (by omega) a1 a2 a3 (hp_gK (zi := (0 + 0)) (zv := (0 + (1 * a + 0))) gZ.2.2.2 (List.mem_of_getElem? (i := 0) rfl) rfl rfl (by omega) (by omega)) (hp_gK (zi := (1 + 0)) (zv := (0 + (1 * b + 0))) gZ.2.2.2 (List.mem_of_getElem? (i := 1) rfl) rfl rfl (by omega) (by omega)) (hp_gK (zi := (2 + 0)) (zv := (0 + (1 * d + 0))) gZ.2.2.2 (List.mem_of_getElem? (i := 2) rfl) rfl rfl (by omega) (by omega)) (hp_gK (zi := (0 + 0)) (zv := (0 + (1 * n + 0))) gZ.2.2.2 (List.mem_of_getElem? (i := 3) rfl) rfl rfl (by omega) (by omega)) (hp_gLa gL (List.mem_of_getElem? (i := 0) rfl) (by decide)) (hp_gLi (z := (6 + 0)) gL (List.mem_of_getElem? (i := 1) rfl) rfl (by omega)) (hp_gLi (z := (1 + 0)) gL (List.mem_of_getElem? (i := 2) rfl) rfl (by omega)) (hp_gLi (z := (1 + 0)) gL (List.mem_of_getElem? (i := 3) rfl) rfl (by omega))
    cases hp
  · intro p hp ys v h' hys a1 a2 a3 gZ gS
    cases hp
theorem wr6_2_k : hp_chk 255 80 4 [(0, 0, 10), (1, 0, 9), (2, 0, 9), (3, 0, 29)] [] [(0, .inr (.inr (.inl (some 85)))), (1, .inl (6, [])), (2, .inl (1, [])), (3, .inl (1, []))] [] [(18688, (0, []), (0, [(0, 1)])), (18688, (1, []), (0, [(1, 1)])), (18688, (2, []), (0, [(2, 1)])), (17669, (0, []), (0, [(3, 1)]))] [18688] 5 [(79, ([], 4, [(0, 0, 10), (1, 0, 9), (2, 0, 9), (3, 0, 29)], [], [(0, .inr (.inr (.inl (some 85)))), (1, .inl (6, [])), (2, .inl (2, [])), (3, .inl (1, []))], [.inl (0, [(2, 1)]), .inl (2, [(3, 3)]), .inr (.inr (.inl (some 90)))], [(18688, (0, []), (0, [(0, 1)])), (18688, (1, []), (1, [(1, 1)])), (18688, (2, []), (0, [(2, 1)])), (17669, (0, []), (0, [(3, 1)]))]))] [] = true := by decide +kernel
theorem wr6_2 {cst : am_K} {strs : List Nat} {Φ : am_Q → Prop} {D : Nat} {M : am_M} {h : am_H} {l : am_L} (c : hp_C cst strs D) (hM : m_P[255]? = some M) (hD : (5 : Int) ≤ (D : Int) + 1) (hy : ly_hy m_tt ly_TH h) (a b d n : Int) (b0 : 0 ≤ a) (t0 : a ≤ 10) (b1 : 0 ≤ b) (t1 : b ≤ 9) (b2 : 0 ≤ d) (t2 : d ≤ 9) (b3 : 0 ≤ n) (t3 : n ≤ 29) (k0 : ly_hv cst h 18688 0 = some (a)) (k1 : ly_hv cst h 18688 1 = some (b)) (k2 : ly_hv cst h 18688 2 = some (d)) (k3 : ly_hv cst h 17669 0 = some (n)) (l0 : hp_a l 0 85) (l1 : hp_i l 1 6) (l2 : hp_i l 2 1) (l3 : hp_i l 3 1) (e0 : ∀ (l' : am_L) (h' : am_H) (y0 : Int32) (y1 : Int32), y0.toInt = (d) → y1.toInt = (3 * n + 2) → ly_hy m_tt ly_TH h' → ly_fr cst [18688] h h' → h.length ≤ h'.length → ly_hv cst h' 18688 0 = some (a) → ly_hv cst h' 18688 1 = some (b + 1) → ly_hv cst h' 18688 2 = some (d) → ly_hv cst h' 17669 0 = some (n) → hp_a l' 0 85 → hp_i l' 1 6 → hp_i l' 2 2 → hp_i l' 3 1 → hp_F cst strs Φ D M 79 l' [.int y0, .int y1, .ref 90] h') : hp_F cst strs Φ D M 80 l [] h := by
  refine hp_arc c hM wr6_2_k hD [a, b, d, n] rfl hy (hp_Bc (z := a) rfl b0 t0 (hp_Bc (z := b) rfl b1 t1 (hp_Bc (z := d) rfl b2 t2 (hp_Bc (z := n) rfl b3 t3 hp_Bn)))) hp_Fn (hp_Kc (zi := (0 + 0)) (zv := (0 + (1 * a + 0))) k0 rfl rfl (by omega) (by omega) (hp_Kc (zi := (1 + 0)) (zv := (0 + (1 * b + 0))) k1 rfl rfl (by omega) (by omega) (hp_Kc (zi := (2 + 0)) (zv := (0 + (1 * d + 0))) k2 rfl rfl (by omega) (by omega) (hp_Kc (zi := (0 + 0)) (zv := (0 + (1 * n + 0))) k3 rfl rfl (by omega) (by omega) hp_Kn)))) (hp_La l0 (hp_Li (z := (6 + 0)) l1 rfl (by omega) (hp_Li (z := (1 + 0)) l2 rfl (by omega) (hp_Li (z := (1 + 0)) l3 rfl (by omega) hp_Ln)))) trivial ?_ ?_
  · intro p hp ys l' st' h' hys a1 a2 a3 gZ gL gS
    rcases List.mem_cons.mp hp with rfl | hp
    · obtain rfl := hp_y0 hys
      obtain ⟨y0, t0, rfl, q0, g0⟩ := hp_gSi (z := (0 + (1 * d + 0))) gS rfl
      obtain ⟨y1, t1, rfl, q1, g1⟩ := hp_gSi (z := (2 + (3 * n + 0))) g0 rfl
      obtain ⟨t2, rfl, g2⟩ := hp_gSa g1 (by decide)
      cases hp_gSn g2
      exact e0 l' h' y0 y1 (by omega) (by omega) a1 a2 a3 (hp_gK (zi := (0 + 0)) (zv := (0 + (1 * a + 0))) gZ.2.2.2 (List.mem_of_getElem? (i := 0) rfl) rfl rfl (by omega) (by omega)) (hp_gK (zi := (1 + 0)) (zv := (1 + (1 * b + 0))) gZ.2.2.2 (List.mem_of_getElem? (i := 1) rfl) rfl rfl (by omega) (by omega)) (hp_gK (zi := (2 + 0)) (zv := (0 + (1 * d + 0))) gZ.2.2.2 (List.mem_of_getElem? (i := 2) rfl) rfl rfl (by omega) (by omega)) (hp_gK (zi := (0 + 0)) (zv := (0 + (1 * n + 0))) gZ.2.2.2 (List.mem_of_getElem? (i := 3) rfl) rfl rfl (by omega) (by omega)) (hp_gLa gL (List.mem_of_getElem? (i := 0) rfl) (by decide)) (hp_gLi (z := (6 + 0)) gL (List.mem_of_getElem? (i := 1) rfl) rfl (by omega)) (hp_gLi (z := (2 + 0)) gL (List.mem_of_getElem? (i := 2) rfl) rfl (by omega)) (hp_gLi (z := (1 + 0)) gL (List.mem_of_getElem? (i := 3) rfl) rfl (by omega))
    cases hp
  · intro p hp ys v h' hys a1 a2 a3 gZ gS
    cases hp
theorem wr6_3_k : hp_chk 255 80 4 [(0, 0, 10), (1, 0, 9), (2, 0, 9), (3, 0, 29)] [] [(0, .inr (.inr (.inl (some 85)))), (1, .inl (6, [])), (2, .inl (2, [])), (3, .inl (1, []))] [] [(18688, (0, []), (0, [(0, 1)])), (18688, (1, []), (1, [(1, 1)])), (18688, (2, []), (0, [(2, 1)])), (17669, (0, []), (0, [(3, 1)]))] [17669, 18688] 5 [(115, ([], 4, [(0, 0, 10), (1, 0, 9), (2, 0, 9), (3, 0, 29)], [], [(0, .inr (.inr (.inl (some 85))))], [.inr (.inr (.inl (some 85)))], [(18688, (0, []), (0, [(0, 1)])), (18688, (1, []), (1, [(1, 1)])), (18688, (2, []), (1, [(2, 1)])), (17669, (0, []), (1, [(3, 1)]))]))] [] = true := by decide +kernel
theorem wr6_3 {cst : am_K} {strs : List Nat} {Φ : am_Q → Prop} {D : Nat} {M : am_M} {h : am_H} {l : am_L} (c : hp_C cst strs D) (hM : m_P[255]? = some M) (hD : (5 : Int) ≤ (D : Int) + 1) (hy : ly_hy m_tt ly_TH h) (a b d n : Int) (b0 : 0 ≤ a) (t0 : a ≤ 10) (b1 : 0 ≤ b) (t1 : b ≤ 9) (b2 : 0 ≤ d) (t2 : d ≤ 9) (b3 : 0 ≤ n) (t3 : n ≤ 29) (k0 : ly_hv cst h 18688 0 = some (a)) (k1 : ly_hv cst h 18688 1 = some (b + 1)) (k2 : ly_hv cst h 18688 2 = some (d)) (k3 : ly_hv cst h 17669 0 = some (n)) (l0 : hp_a l 0 85) (l1 : hp_i l 1 6) (l2 : hp_i l 2 2) (l3 : hp_i l 3 1) (e0 : ∀ (l' : am_L) (h' : am_H), ly_hy m_tt ly_TH h' → ly_fr cst [17669, 18688] h h' → h.length ≤ h'.length → ly_hv cst h' 18688 0 = some (a) → ly_hv cst h' 18688 1 = some (b + 1) → ly_hv cst h' 18688 2 = some (d + 1) → ly_hv cst h' 17669 0 = some (n + 1) → hp_a l' 0 85 → hp_F cst strs Φ D M 115 l' [.ref 85] h') : hp_F cst strs Φ D M 80 l [] h := by
  refine hp_arc c hM wr6_3_k hD [a, b, d, n] rfl hy (hp_Bc (z := a) rfl b0 t0 (hp_Bc (z := b) rfl b1 t1 (hp_Bc (z := d) rfl b2 t2 (hp_Bc (z := n) rfl b3 t3 hp_Bn)))) hp_Fn (hp_Kc (zi := (0 + 0)) (zv := (0 + (1 * a + 0))) k0 rfl rfl (by omega) (by omega) (hp_Kc (zi := (1 + 0)) (zv := (1 + (1 * b + 0))) k1 rfl rfl (by omega) (by omega) (hp_Kc (zi := (2 + 0)) (zv := (0 + (1 * d + 0))) k2 rfl rfl (by omega) (by omega) (hp_Kc (zi := (0 + 0)) (zv := (0 + (1 * n + 0))) k3 rfl rfl (by omega) (by omega) hp_Kn)))) (hp_La l0 (hp_Li (z := (6 + 0)) l1 rfl (by omega) (hp_Li (z := (2 + 0)) l2 rfl (by omega) (hp_Li (z := (1 + 0)) l3 rfl (by omega) hp_Ln)))) trivial ?_ ?_
  · intro p hp ys l' st' h' hys a1 a2 a3 gZ gL gS
    rcases List.mem_cons.mp hp with rfl | hp
    · obtain rfl := hp_y0 hys
      obtain ⟨t0, rfl, g0⟩ := hp_gSa gS (by decide)
      cases hp_gSn g0
      exact e0 l' h' a1 a2 a3 (hp_gK (zi := (0 + 0)) (zv := (0 + (1 * a + 0))) gZ.2.2.2 (List.mem_of_getElem? (i := 0) rfl) rfl rfl (by omega) (by omega)) (hp_gK (zi := (1 + 0)) (zv := (1 + (1 * b + 0))) gZ.2.2.2 (List.mem_of_getElem? (i := 1) rfl) rfl rfl (by omega) (by omega)) (hp_gK (zi := (2 + 0)) (zv := (1 + (1 * d + 0))) gZ.2.2.2 (List.mem_of_getElem? (i := 2) rfl) rfl rfl (by omega) (by omega)) (hp_gK (zi := (0 + 0)) (zv := (1 + (1 * n + 0))) gZ.2.2.2 (List.mem_of_getElem? (i := 3) rfl) rfl rfl (by omega) (by omega)) (hp_gLa gL (List.mem_of_getElem? (i := 0) rfl) (by decide))
    cases hp
  · intro p hp ys v h' hys a1 a2 a3 gZ gS
    cases hp
theorem wr1_0_k : hp_chk 255 18 4 [(0, 0, 9), (1, 0, 10), (2, 0, 10), (3, 0, 29)] [] [(0, .inr (.inr (.inl (some 85)))), (1, .inl (1, []))] [] [(18688, (0, []), (0, [(0, 1)])), (18688, (1, []), (0, [(1, 1)])), (18688, (2, []), (0, [(2, 1)])), (17669, (0, []), (0, [(3, 1)]))] [] 5 [(79, ([], 4, [(0, 0, 9), (1, 0, 10), (2, 0, 10), (3, 0, 29)], [], [(0, .inr (.inr (.inl (some 85)))), (1, .inl (1, [])), (2, .inl (0, [])), (3, .inl (1, []))], [.inl (0, [(0, 1)]), .inl (0, [(3, 3)]), .inr (.inr (.inl (some 90)))], [(18688, (0, []), (0, [(0, 1)])), (18688, (1, []), (0, [(1, 1)])), (18688, (2, []), (0, [(2, 1)])), (17669, (0, []), (0, [(3, 1)]))]))] [] = true := by decide +kernel
theorem wr1_0 {cst : am_K} {strs : List Nat} {Φ : am_Q → Prop} {D : Nat} {M : am_M} {h : am_H} {l : am_L} (c : hp_C cst strs D) (hM : m_P[255]? = some M) (hD : (5 : Int) ≤ (D : Int) + 1) (hy : ly_hy m_tt ly_TH h) (a b d n : Int) (b0 : 0 ≤ a) (t0 : a ≤ 9) (b1 : 0 ≤ b) (t1 : b ≤ 10) (b2 : 0 ≤ d) (t2 : d ≤ 10) (b3 : 0 ≤ n) (t3 : n ≤ 29) (k0 : ly_hv cst h 18688 0 = some (a)) (k1 : ly_hv cst h 18688 1 = some (b)) (k2 : ly_hv cst h 18688 2 = some (d)) (k3 : ly_hv cst h 17669 0 = some (n)) (l0 : hp_a l 0 85) (l1 : hp_i l 1 1) (e0 : ∀ (l' : am_L) (h' : am_H) (y0 : Int32) (y1 : Int32), y0.toInt = (a) → y1.toInt = (3 * n) → ly_hy m_tt ly_TH h' → ly_fr cst [] h h' → h.length ≤ h'.length → ly_hv cst h' 18688 0 = some (a) → ly_hv cst h' 18688 1 = some (b) → ly_hv cst h' 18688 2 = some (d) → ly_hv cst h' 17669 0 = some (n) → hp_a l' 0 85 → hp_i l' 1 1 → hp_i l' 2 0 → hp_i l' 3 1 → hp_F cst strs Φ D M 79 l' [.int y0, .int y1, .ref 90] h') : hp_F cst strs Φ D M 18 l [] h := by
  refine hp_arc c hM wr1_0_k hD [a, b, d, n] rfl hy (hp_Bc (z := a) rfl b0 t0 (hp_Bc (z := b) rfl b1 t1 (hp_Bc (z := d) rfl b2 t2 (hp_Bc (z := n) rfl b3 t3 hp_Bn)))) hp_Fn (hp_Kc (zi := (0 + 0)) (zv := (0 + (1 * a + 0))) k0 rfl rfl (by omega) (by omega) (hp_Kc (zi := (1 + 0)) (zv := (0 + (1 * b + 0))) k1 rfl rfl (by omega) (by omega) (hp_Kc (zi := (2 + 0)) (zv := (0 + (1 * d + 0))) k2 rfl rfl (by omega) (by omega) (hp_Kc (zi := (0 + 0)) (zv := (0 + (1 * n + 0))) k3 rfl rfl (by omega) (by omega) hp_Kn)))) (hp_La l0 (hp_Li (z := (1 + 0)) l1 rfl (by omega) hp_Ln)) trivial ?_ ?_
  · intro p hp ys l' st' h' hys a1 a2 a3 gZ gL gS
    rcases List.mem_cons.mp hp with rfl | hp
    · obtain rfl := hp_y0 hys
      obtain ⟨y0, t0, rfl, q0, g0⟩ := hp_gSi (z := (0 + (1 * a + 0))) gS rfl
      obtain ⟨y1, t1, rfl, q1, g1⟩ := hp_gSi (z := (0 + (3 * n + 0))) g0 rfl
      obtain ⟨t2, rfl, g2⟩ := hp_gSa g1 (by decide)
      cases hp_gSn g2
      exact e0 l' h' y0 y1 (by omega) (by omega) a1 a2 a3 (hp_gK (zi := (0 + 0)) (zv := (0 + (1 * a + 0))) gZ.2.2.2 (List.mem_of_getElem? (i := 0) rfl) rfl rfl (by omega) (by omega)) (hp_gK (zi := (1 + 0)) (zv := (0 + (1 * b + 0))) gZ.2.2.2 (List.mem_of_getElem? (i := 1) rfl) rfl rfl (by omega) (by omega)) (hp_gK (zi := (2 + 0)) (zv := (0 + (1 * d + 0))) gZ.2.2.2 (List.mem_of_getElem? (i := 2) rfl) rfl rfl (by omega) (by omega)) (hp_gK (zi := (0 + 0)) (zv := (0 + (1 * n + 0))) gZ.2.2.2 (List.mem_of_getElem? (i := 3) rfl) rfl rfl (by omega) (by omega)) (hp_gLa gL (List.mem_of_getElem? (i := 0) rfl) (by decide)) (hp_gLi (z := (1 + 0)) gL (List.mem_of_getElem? (i := 1) rfl) rfl (by omega)) (hp_gLi (z := (0 + 0)) gL (List.mem_of_getElem? (i := 2) rfl) rfl (by omega)) (hp_gLi (z := (1 + 0)) gL (List.mem_of_getElem? (i := 3) rfl) rfl (by omega))
    cases hp
  · intro p hp ys v h' hys a1 a2 a3 gZ gS
    cases hp
theorem wr1_1_k : hp_chk 255 80 4 [(0, 0, 9), (1, 0, 10), (2, 0, 10), (3, 0, 29)] [] [(0, .inr (.inr (.inl (some 85)))), (1, .inl (1, [])), (2, .inl (0, [])), (3, .inl (1, []))] [] [(18688, (0, []), (0, [(0, 1)])), (18688, (1, []), (0, [(1, 1)])), (18688, (2, []), (0, [(2, 1)])), (17669, (0, []), (0, [(3, 1)]))] [18688] 5 [(79, ([], 4, [(0, 0, 9), (1, 0, 10), (2, 0, 10), (3, 0, 29)], [], [(0, .inr (.inr (.inl (some 85)))), (1, .inl (1, [])), (2, .inl (1, [])), (3, .inl (0, []))], [.inl ((-1), []), .inl (1, [(3, 3)]), .inr (.inr (.inl (some 90)))], [(18688, (0, []), (1, [(0, 1)])), (18688, (1, []), (0, [(1, 1)])), (18688, (2, []), (0, [(2, 1)])), (17669, (0, []), (0, [(3, 1)]))]))] [] = true := by decide +kernel
theorem wr1_1 {cst : am_K} {strs : List Nat} {Φ : am_Q → Prop} {D : Nat} {M : am_M} {h : am_H} {l : am_L} (c : hp_C cst strs D) (hM : m_P[255]? = some M) (hD : (5 : Int) ≤ (D : Int) + 1) (hy : ly_hy m_tt ly_TH h) (a b d n : Int) (b0 : 0 ≤ a) (t0 : a ≤ 9) (b1 : 0 ≤ b) (t1 : b ≤ 10) (b2 : 0 ≤ d) (t2 : d ≤ 10) (b3 : 0 ≤ n) (t3 : n ≤ 29) (k0 : ly_hv cst h 18688 0 = some (a)) (k1 : ly_hv cst h 18688 1 = some (b)) (k2 : ly_hv cst h 18688 2 = some (d)) (k3 : ly_hv cst h 17669 0 = some (n)) (l0 : hp_a l 0 85) (l1 : hp_i l 1 1) (l2 : hp_i l 2 0) (l3 : hp_i l 3 1) (e0 : ∀ (l' : am_L) (h' : am_H) (y0 : Int32) (y1 : Int32), y0.toInt = (-1) → y1.toInt = (3 * n + 1) → ly_hy m_tt ly_TH h' → ly_fr cst [18688] h h' → h.length ≤ h'.length → ly_hv cst h' 18688 0 = some (a + 1) → ly_hv cst h' 18688 1 = some (b) → ly_hv cst h' 18688 2 = some (d) → ly_hv cst h' 17669 0 = some (n) → hp_a l' 0 85 → hp_i l' 1 1 → hp_i l' 2 1 → hp_i l' 3 0 → hp_F cst strs Φ D M 79 l' [.int y0, .int y1, .ref 90] h') : hp_F cst strs Φ D M 80 l [] h := by
  refine hp_arc c hM wr1_1_k hD [a, b, d, n] rfl hy (hp_Bc (z := a) rfl b0 t0 (hp_Bc (z := b) rfl b1 t1 (hp_Bc (z := d) rfl b2 t2 (hp_Bc (z := n) rfl b3 t3 hp_Bn)))) hp_Fn (hp_Kc (zi := (0 + 0)) (zv := (0 + (1 * a + 0))) k0 rfl rfl (by omega) (by omega) (hp_Kc (zi := (1 + 0)) (zv := (0 + (1 * b + 0))) k1 rfl rfl (by omega) (by omega) (hp_Kc (zi := (2 + 0)) (zv := (0 + (1 * d + 0))) k2 rfl rfl (by omega) (by omega) (hp_Kc (zi := (0 + 0)) (zv := (0 + (1 * n + 0))) k3 rfl rfl (by omega) (by omega) hp_Kn)))) (hp_La l0 (hp_Li (z := (1 + 0)) l1 rfl (by omega) (hp_Li (z := (0 + 0)) l2 rfl (by omega) (hp_Li (z := (1 + 0)) l3 rfl (by omega) hp_Ln)))) trivial ?_ ?_
  · intro p hp ys l' st' h' hys a1 a2 a3 gZ gL gS
    rcases List.mem_cons.mp hp with rfl | hp
    · obtain rfl := hp_y0 hys
      obtain ⟨y0, t0, rfl, q0, g0⟩ := hp_gSi (z := ((-1) + 0)) gS rfl
      obtain ⟨y1, t1, rfl, q1, g1⟩ := hp_gSi (z := (1 + (3 * n + 0))) g0 rfl
      obtain ⟨t2, rfl, g2⟩ := hp_gSa g1 (by decide)
      cases hp_gSn g2
      exact e0 l' h' y0 y1 (by omega) (by omega) a1 a2 a3 (hp_gK (zi := (0 + 0)) (zv := (1 + (1 * a + 0))) gZ.2.2.2 (List.mem_of_getElem? (i := 0) rfl) rfl rfl (by omega) (by omega)) (hp_gK (zi := (1 + 0)) (zv := (0 + (1 * b + 0))) gZ.2.2.2 (List.mem_of_getElem? (i := 1) rfl) rfl rfl (by omega) (by omega)) (hp_gK (zi := (2 + 0)) (zv := (0 + (1 * d + 0))) gZ.2.2.2 (List.mem_of_getElem? (i := 2) rfl) rfl rfl (by omega) (by omega)) (hp_gK (zi := (0 + 0)) (zv := (0 + (1 * n + 0))) gZ.2.2.2 (List.mem_of_getElem? (i := 3) rfl) rfl rfl (by omega) (by omega)) (hp_gLa gL (List.mem_of_getElem? (i := 0) rfl) (by decide)) (hp_gLi (z := (1 + 0)) gL (List.mem_of_getElem? (i := 1) rfl) rfl (by omega)) (hp_gLi (z := (1 + 0)) gL (List.mem_of_getElem? (i := 2) rfl) rfl (by omega)) (hp_gLi (z := (0 + 0)) gL (List.mem_of_getElem? (i := 3) rfl) rfl (by omega))
    cases hp
  · intro p hp ys v h' hys a1 a2 a3 gZ gS
    cases hp
theorem wr1_2_k : hp_chk 255 80 4 [(0, 0, 9), (1, 0, 10), (2, 0, 10), (3, 0, 29)] [] [(0, .inr (.inr (.inl (some 85)))), (1, .inl (1, [])), (2, .inl (1, [])), (3, .inl (0, []))] [] [(18688, (0, []), (1, [(0, 1)])), (18688, (1, []), (0, [(1, 1)])), (18688, (2, []), (0, [(2, 1)])), (17669, (0, []), (0, [(3, 1)]))] [18688] 5 [(79, ([], 4, [(0, 0, 9), (1, 0, 10), (2, 0, 10), (3, 0, 29)], [], [(0, .inr (.inr (.inl (some 85)))), (1, .inl (1, [])), (2, .inl (2, [])), (3, .inl (0, []))], [.inl ((-1), []), .inl (2, [(3, 3)]), .inr (.inr (.inl (some 90)))], [(18688, (0, []), (1, [(0, 1)])), (18688, (1, []), (0, [(1, 1)])), (18688, (2, []), (0, [(2, 1)])), (17669, (0, []), (0, [(3, 1)]))]))] [] = true := by decide +kernel
theorem wr1_2 {cst : am_K} {strs : List Nat} {Φ : am_Q → Prop} {D : Nat} {M : am_M} {h : am_H} {l : am_L} (c : hp_C cst strs D) (hM : m_P[255]? = some M) (hD : (5 : Int) ≤ (D : Int) + 1) (hy : ly_hy m_tt ly_TH h) (a b d n : Int) (b0 : 0 ≤ a) (t0 : a ≤ 9) (b1 : 0 ≤ b) (t1 : b ≤ 10) (b2 : 0 ≤ d) (t2 : d ≤ 10) (b3 : 0 ≤ n) (t3 : n ≤ 29) (k0 : ly_hv cst h 18688 0 = some (a + 1)) (k1 : ly_hv cst h 18688 1 = some (b)) (k2 : ly_hv cst h 18688 2 = some (d)) (k3 : ly_hv cst h 17669 0 = some (n)) (l0 : hp_a l 0 85) (l1 : hp_i l 1 1) (l2 : hp_i l 2 1) (l3 : hp_i l 3 0) (e0 : ∀ (l' : am_L) (h' : am_H) (y0 : Int32) (y1 : Int32), y0.toInt = (-1) → y1.toInt = (3 * n + 2) → ly_hy m_tt ly_TH h' → ly_fr cst [18688] h h' → h.length ≤ h'.length → ly_hv cst h' 18688 0 = some (a + 1) → ly_hv cst h' 18688 1 = some (b) → ly_hv cst h' 18688 2 = some (d) → ly_hv cst h' 17669 0 = some (n) → hp_a l' 0 85 → hp_i l' 1 1 → hp_i l' 2 2 → hp_i l' 3 0 → hp_F cst strs Φ D M 79 l' [.int y0, .int y1, .ref 90] h') : hp_F cst strs Φ D M 80 l [] h := by
  refine hp_arc c hM wr1_2_k hD [a, b, d, n] rfl hy (hp_Bc (z := a) rfl b0 t0 (hp_Bc (z := b) rfl b1 t1 (hp_Bc (z := d) rfl b2 t2 (hp_Bc (z := n) rfl b3 t3 hp_Bn)))) hp_Fn (hp_Kc (zi := (0 + 0)) (zv := (1 + (1 * a + 0))) k0 rfl rfl (by omega) (by omega) (hp_Kc (zi := (1 + 0)) (zv := (0 + (1 * b + 0))) k1 rfl rfl (by omega) (by omega) (hp_Kc (zi := (2 + 0)) (zv := (0 + (1 * d + 0))) k2 rfl rfl (by omega) (by omega) (hp_Kc (zi := (0 + 0)) (zv := (0 + (1 * n + 0))) k3 rfl rfl (by omega) (by omega) hp_Kn)))) (hp_La l0 (hp_Li (z := (1 + 0)) l1 rfl (by omega) (hp_Li (z := (1 + 0)) l2 rfl (by omega) (hp_Li (z := (0 + 0)) l3 rfl (by omega) hp_Ln)))) trivial ?_ ?_
  · intro p hp ys l' st' h' hys a1 a2 a3 gZ gL gS
    rcases List.mem_cons.mp hp with rfl | hp
    · obtain rfl := hp_y0 hys
      obtain ⟨y0, t0, rfl, q0, g0⟩ := hp_gSi (z := ((-1) + 0)) gS rfl
      obtain ⟨y1, t1, rfl, q1, g1⟩ := hp_gSi (z := (2 + (3 * n + 0))) g0 rfl
      obtain ⟨t2, rfl, g2⟩ := hp_gSa g1 (by decide)
      cases hp_gSn g2
      exact e0 l' h' y0 y1 (by omega) (by omega) a1 a2 a3 (hp_gK (zi := (0 + 0)) (zv := (1 + (1 * a + 0))) gZ.2.2.2 (List.mem_of_getElem? (i := 0) rfl) rfl rfl (by omega) (by omega)) (hp_gK (zi := (1 + 0)) (zv := (0 + (1 * b + 0))) gZ.2.2.2 (List.mem_of_getElem? (i := 1) rfl) rfl rfl (by omega) (by omega)) (hp_gK (zi := (2 + 0)) (zv := (0 + (1 * d + 0))) gZ.2.2.2 (List.mem_of_getElem? (i := 2) rfl) rfl rfl (by omega) (by omega)) (hp_gK (zi := (0 + 0)) (zv := (0 + (1 * n + 0))) gZ.2.2.2 (List.mem_of_getElem? (i := 3) rfl) rfl rfl (by omega) (by omega)) (hp_gLa gL (List.mem_of_getElem? (i := 0) rfl) (by decide)) (hp_gLi (z := (1 + 0)) gL (List.mem_of_getElem? (i := 1) rfl) rfl (by omega)) (hp_gLi (z := (2 + 0)) gL (List.mem_of_getElem? (i := 2) rfl) rfl (by omega)) (hp_gLi (z := (0 + 0)) gL (List.mem_of_getElem? (i := 3) rfl) rfl (by omega))
    cases hp
  · intro p hp ys v h' hys a1 a2 a3 gZ gS
    cases hp
theorem wr1_3_k : hp_chk 255 80 4 [(0, 0, 9), (1, 0, 10), (2, 0, 10), (3, 0, 29)] [] [(0, .inr (.inr (.inl (some 85)))), (1, .inl (1, [])), (2, .inl (2, [])), (3, .inl (0, []))] [] [(18688, (0, []), (1, [(0, 1)])), (18688, (1, []), (0, [(1, 1)])), (18688, (2, []), (0, [(2, 1)])), (17669, (0, []), (0, [(3, 1)]))] [17669, 18688] 5 [(115, ([], 4, [(0, 0, 9), (1, 0, 10), (2, 0, 10), (3, 0, 29)], [], [(0, .inr (.inr (.inl (some 85))))], [.inr (.inr (.inl (some 85)))], [(18688, (0, []), (1, [(0, 1)])), (18688, (1, []), (0, [(1, 1)])), (18688, (2, []), (0, [(2, 1)])), (17669, (0, []), (1, [(3, 1)]))]))] [] = true := by decide +kernel
theorem wr1_3 {cst : am_K} {strs : List Nat} {Φ : am_Q → Prop} {D : Nat} {M : am_M} {h : am_H} {l : am_L} (c : hp_C cst strs D) (hM : m_P[255]? = some M) (hD : (5 : Int) ≤ (D : Int) + 1) (hy : ly_hy m_tt ly_TH h) (a b d n : Int) (b0 : 0 ≤ a) (t0 : a ≤ 9) (b1 : 0 ≤ b) (t1 : b ≤ 10) (b2 : 0 ≤ d) (t2 : d ≤ 10) (b3 : 0 ≤ n) (t3 : n ≤ 29) (k0 : ly_hv cst h 18688 0 = some (a + 1)) (k1 : ly_hv cst h 18688 1 = some (b)) (k2 : ly_hv cst h 18688 2 = some (d)) (k3 : ly_hv cst h 17669 0 = some (n)) (l0 : hp_a l 0 85) (l1 : hp_i l 1 1) (l2 : hp_i l 2 2) (l3 : hp_i l 3 0) (e0 : ∀ (l' : am_L) (h' : am_H), ly_hy m_tt ly_TH h' → ly_fr cst [17669, 18688] h h' → h.length ≤ h'.length → ly_hv cst h' 18688 0 = some (a + 1) → ly_hv cst h' 18688 1 = some (b) → ly_hv cst h' 18688 2 = some (d) → ly_hv cst h' 17669 0 = some (n + 1) → hp_a l' 0 85 → hp_F cst strs Φ D M 115 l' [.ref 85] h') : hp_F cst strs Φ D M 80 l [] h := by
  refine hp_arc c hM wr1_3_k hD [a, b, d, n] rfl hy (hp_Bc (z := a) rfl b0 t0 (hp_Bc (z := b) rfl b1 t1 (hp_Bc (z := d) rfl b2 t2 (hp_Bc (z := n) rfl b3 t3 hp_Bn)))) hp_Fn (hp_Kc (zi := (0 + 0)) (zv := (1 + (1 * a + 0))) k0 rfl rfl (by omega) (by omega) (hp_Kc (zi := (1 + 0)) (zv := (0 + (1 * b + 0))) k1 rfl rfl (by omega) (by omega) (hp_Kc (zi := (2 + 0)) (zv := (0 + (1 * d + 0))) k2 rfl rfl (by omega) (by omega) (hp_Kc (zi := (0 + 0)) (zv := (0 + (1 * n + 0))) k3 rfl rfl (by omega) (by omega) hp_Kn)))) (hp_La l0 (hp_Li (z := (1 + 0)) l1 rfl (by omega) (hp_Li (z := (2 + 0)) l2 rfl (by omega) (hp_Li (z := (0 + 0)) l3 rfl (by omega) hp_Ln)))) trivial ?_ ?_
  · intro p hp ys l' st' h' hys a1 a2 a3 gZ gL gS
    rcases List.mem_cons.mp hp with rfl | hp
    · obtain rfl := hp_y0 hys
      obtain ⟨t0, rfl, g0⟩ := hp_gSa gS (by decide)
      cases hp_gSn g0
      exact e0 l' h' a1 a2 a3 (hp_gK (zi := (0 + 0)) (zv := (1 + (1 * a + 0))) gZ.2.2.2 (List.mem_of_getElem? (i := 0) rfl) rfl rfl (by omega) (by omega)) (hp_gK (zi := (1 + 0)) (zv := (0 + (1 * b + 0))) gZ.2.2.2 (List.mem_of_getElem? (i := 1) rfl) rfl rfl (by omega) (by omega)) (hp_gK (zi := (2 + 0)) (zv := (0 + (1 * d + 0))) gZ.2.2.2 (List.mem_of_getElem? (i := 2) rfl) rfl rfl (by omega) (by omega)) (hp_gK (zi := (0 + 0)) (zv := (1 + (1 * n + 0))) gZ.2.2.2 (List.mem_of_getElem? (i := 3) rfl) rfl rfl (by omega) (by omega)) (hp_gLa gL (List.mem_of_getElem? (i := 0) rfl) (by decide))
    cases hp
  · intro p hp ys v h' hys a1 a2 a3 gZ gS
    cases hp
theorem wr2_0_k : hp_chk 255 18 4 [(0, 0, 10), (1, 0, 9), (2, 0, 10), (3, 0, 29)] [] [(0, .inr (.inr (.inl (some 85)))), (1, .inl (2, []))] [] [(18688, (0, []), (0, [(0, 1)])), (18688, (1, []), (0, [(1, 1)])), (18688, (2, []), (0, [(2, 1)])), (17669, (0, []), (0, [(3, 1)]))] [] 5 [(79, ([], 4, [(0, 0, 10), (1, 0, 9), (2, 0, 10), (3, 0, 29)], [], [(0, .inr (.inr (.inl (some 85)))), (1, .inl (2, [])), (2, .inl (0, [])), (3, .inl (0, []))], [.inl ((-1), []), .inl (0, [(3, 3)]), .inr (.inr (.inl (some 90)))], [(18688, (0, []), (0, [(0, 1)])), (18688, (1, []), (0, [(1, 1)])), (18688, (2, []), (0, [(2, 1)])), (17669, (0, []), (0, [(3, 1)]))]))] [] = true := by decide +kernel
theorem wr2_0 {cst : am_K} {strs : List Nat} {Φ : am_Q → Prop} {D : Nat} {M : am_M} {h : am_H} {l : am_L} (c : hp_C cst strs D) (hM : m_P[255]? = some M) (hD : (5 : Int) ≤ (D : Int) + 1) (hy : ly_hy m_tt ly_TH h) (a b d n : Int) (b0 : 0 ≤ a) (t0 : a ≤ 10) (b1 : 0 ≤ b) (t1 : b ≤ 9) (b2 : 0 ≤ d) (t2 : d ≤ 10) (b3 : 0 ≤ n) (t3 : n ≤ 29) (k0 : ly_hv cst h 18688 0 = some (a)) (k1 : ly_hv cst h 18688 1 = some (b)) (k2 : ly_hv cst h 18688 2 = some (d)) (k3 : ly_hv cst h 17669 0 = some (n)) (l0 : hp_a l 0 85) (l1 : hp_i l 1 2) (e0 : ∀ (l' : am_L) (h' : am_H) (y0 : Int32) (y1 : Int32), y0.toInt = (-1) → y1.toInt = (3 * n) → ly_hy m_tt ly_TH h' → ly_fr cst [] h h' → h.length ≤ h'.length → ly_hv cst h' 18688 0 = some (a) → ly_hv cst h' 18688 1 = some (b) → ly_hv cst h' 18688 2 = some (d) → ly_hv cst h' 17669 0 = some (n) → hp_a l' 0 85 → hp_i l' 1 2 → hp_i l' 2 0 → hp_i l' 3 0 → hp_F cst strs Φ D M 79 l' [.int y0, .int y1, .ref 90] h') : hp_F cst strs Φ D M 18 l [] h := by
  refine hp_arc c hM wr2_0_k hD [a, b, d, n] rfl hy (hp_Bc (z := a) rfl b0 t0 (hp_Bc (z := b) rfl b1 t1 (hp_Bc (z := d) rfl b2 t2 (hp_Bc (z := n) rfl b3 t3 hp_Bn)))) hp_Fn (hp_Kc (zi := (0 + 0)) (zv := (0 + (1 * a + 0))) k0 rfl rfl (by omega) (by omega) (hp_Kc (zi := (1 + 0)) (zv := (0 + (1 * b + 0))) k1 rfl rfl (by omega) (by omega) (hp_Kc (zi := (2 + 0)) (zv := (0 + (1 * d + 0))) k2 rfl rfl (by omega) (by omega) (hp_Kc (zi := (0 + 0)) (zv := (0 + (1 * n + 0))) k3 rfl rfl (by omega) (by omega) hp_Kn)))) (hp_La l0 (hp_Li (z := (2 + 0)) l1 rfl (by omega) hp_Ln)) trivial ?_ ?_
  · intro p hp ys l' st' h' hys a1 a2 a3 gZ gL gS
    rcases List.mem_cons.mp hp with rfl | hp
    · obtain rfl := hp_y0 hys
      obtain ⟨y0, t0, rfl, q0, g0⟩ := hp_gSi (z := ((-1) + 0)) gS rfl
      obtain ⟨y1, t1, rfl, q1, g1⟩ := hp_gSi (z := (0 + (3 * n + 0))) g0 rfl
      obtain ⟨t2, rfl, g2⟩ := hp_gSa g1 (by decide)
      cases hp_gSn g2
      exact e0 l' h' y0 y1 (by omega) (by omega) a1 a2 a3 (hp_gK (zi := (0 + 0)) (zv := (0 + (1 * a + 0))) gZ.2.2.2 (List.mem_of_getElem? (i := 0) rfl) rfl rfl (by omega) (by omega)) (hp_gK (zi := (1 + 0)) (zv := (0 + (1 * b + 0))) gZ.2.2.2 (List.mem_of_getElem? (i := 1) rfl) rfl rfl (by omega) (by omega)) (hp_gK (zi := (2 + 0)) (zv := (0 + (1 * d + 0))) gZ.2.2.2 (List.mem_of_getElem? (i := 2) rfl) rfl rfl (by omega) (by omega)) (hp_gK (zi := (0 + 0)) (zv := (0 + (1 * n + 0))) gZ.2.2.2 (List.mem_of_getElem? (i := 3) rfl) rfl rfl (by omega) (by omega)) (hp_gLa gL (List.mem_of_getElem? (i := 0) rfl) (by decide)) (hp_gLi (z := (2 + 0)) gL (List.mem_of_getElem? (i := 1) rfl) rfl (by omega)) (hp_gLi (z := (0 + 0)) gL (List.mem_of_getElem? (i := 2) rfl) rfl (by omega)) (hp_gLi (z := (0 + 0)) gL (List.mem_of_getElem? (i := 3) rfl) rfl (by omega))
    cases hp
  · intro p hp ys v h' hys a1 a2 a3 gZ gS
    cases hp
theorem wr2_1_k : hp_chk 255 80 4 [(0, 0, 10), (1, 0, 9), (2, 0, 10), (3, 0, 29)] [] [(0, .inr (.inr (.inl (some 85)))), (1, .inl (2, [])), (2, .inl (0, [])), (3, .inl (0, []))] [] [(18688, (0, []), (0, [(0, 1)])), (18688, (1, []), (0, [(1, 1)])), (18688, (2, []), (0, [(2, 1)])), (17669, (0, []), (0, [(3, 1)]))] [18688] 5 [(79, ([], 4, [(0, 0, 10), (1, 0, 9), (2, 0, 10), (3, 0, 29)], [], [(0, .inr (.inr (.inl (some 85)))), (1, .inl (2, [])), (2, .inl (1, [])), (3, .inl (1, []))], [.inl (0, [(1, 1)]), .inl (1, [(3, 3)]), .inr (.inr (.inl (some 90)))], [(18688, (0, []), (0, [(0, 1)])), (18688, (1, []), (0, [(1, 1)])), (18688, (2, []), (0, [(2, 1)])), (17669, (0, []), (0, [(3, 1)]))]))] [] = true := by decide +kernel
theorem wr2_1 {cst : am_K} {strs : List Nat} {Φ : am_Q → Prop} {D : Nat} {M : am_M} {h : am_H} {l : am_L} (c : hp_C cst strs D) (hM : m_P[255]? = some M) (hD : (5 : Int) ≤ (D : Int) + 1) (hy : ly_hy m_tt ly_TH h) (a b d n : Int) (b0 : 0 ≤ a) (t0 : a ≤ 10) (b1 : 0 ≤ b) (t1 : b ≤ 9) (b2 : 0 ≤ d) (t2 : d ≤ 10) (b3 : 0 ≤ n) (t3 : n ≤ 29) (k0 : ly_hv cst h 18688 0 = some (a)) (k1 : ly_hv cst h 18688 1 = some (b)) (k2 : ly_hv cst h 18688 2 = some (d)) (k3 : ly_hv cst h 17669 0 = some (n)) (l0 : hp_a l 0 85) (l1 : hp_i l 1 2) (l2 : hp_i l 2 0) (l3 : hp_i l 3 0) (e0 : ∀ (l' : am_L) (h' : am_H) (y0 : Int32) (y1 : Int32), y0.toInt = (b) → y1.toInt = (3 * n + 1) → ly_hy m_tt ly_TH h' → ly_fr cst [18688] h h' → h.length ≤ h'.length → ly_hv cst h' 18688 0 = some (a) → ly_hv cst h' 18688 1 = some (b) → ly_hv cst h' 18688 2 = some (d) → ly_hv cst h' 17669 0 = some (n) → hp_a l' 0 85 → hp_i l' 1 2 → hp_i l' 2 1 → hp_i l' 3 1 → hp_F cst strs Φ D M 79 l' [.int y0, .int y1, .ref 90] h') : hp_F cst strs Φ D M 80 l [] h := by
  refine hp_arc c hM wr2_1_k hD [a, b, d, n] rfl hy (hp_Bc (z := a) rfl b0 t0 (hp_Bc (z := b) rfl b1 t1 (hp_Bc (z := d) rfl b2 t2 (hp_Bc (z := n) rfl b3 t3 hp_Bn)))) hp_Fn (hp_Kc (zi := (0 + 0)) (zv := (0 + (1 * a + 0))) k0 rfl rfl (by omega) (by omega) (hp_Kc (zi := (1 + 0)) (zv := (0 + (1 * b + 0))) k1 rfl rfl (by omega) (by omega) (hp_Kc (zi := (2 + 0)) (zv := (0 + (1 * d + 0))) k2 rfl rfl (by omega) (by omega) (hp_Kc (zi := (0 + 0)) (zv := (0 + (1 * n + 0))) k3 rfl rfl (by omega) (by omega) hp_Kn)))) (hp_La l0 (hp_Li (z := (2 + 0)) l1 rfl (by omega) (hp_Li (z := (0 + 0)) l2 rfl (by omega) (hp_Li (z := (0 + 0)) l3 rfl (by omega) hp_Ln)))) trivial ?_ ?_
  · intro p hp ys l' st' h' hys a1 a2 a3 gZ gL gS
    rcases List.mem_cons.mp hp with rfl | hp
    · obtain rfl := hp_y0 hys
      obtain ⟨y0, t0, rfl, q0, g0⟩ := hp_gSi (z := (0 + (1 * b + 0))) gS rfl
      obtain ⟨y1, t1, rfl, q1, g1⟩ := hp_gSi (z := (1 + (3 * n + 0))) g0 rfl
      obtain ⟨t2, rfl, g2⟩ := hp_gSa g1 (by decide)
      cases hp_gSn g2
      exact e0 l' h' y0 y1 (by omega) (by omega) a1 a2 a3 (hp_gK (zi := (0 + 0)) (zv := (0 + (1 * a + 0))) gZ.2.2.2 (List.mem_of_getElem? (i := 0) rfl) rfl rfl (by omega) (by omega)) (hp_gK (zi := (1 + 0)) (zv := (0 + (1 * b + 0))) gZ.2.2.2 (List.mem_of_getElem? (i := 1) rfl) rfl rfl (by omega) (by omega)) (hp_gK (zi := (2 + 0)) (zv := (0 + (1 * d + 0))) gZ.2.2.2 (List.mem_of_getElem? (i := 2) rfl) rfl rfl (by omega) (by omega)) (hp_gK (zi := (0 + 0)) (zv := (0 + (1 * n + 0))) gZ.2.2.2 (List.mem_of_getElem? (i := 3) rfl) rfl rfl (by omega) (by omega)) (hp_gLa gL (List.mem_of_getElem? (i := 0) rfl) (by decide)) (hp_gLi (z := (2 + 0)) gL (List.mem_of_getElem? (i := 1) rfl) rfl (by omega)) (hp_gLi (z := (1 + 0)) gL (List.mem_of_getElem? (i := 2) rfl) rfl (by omega)) (hp_gLi (z := (1 + 0)) gL (List.mem_of_getElem? (i := 3) rfl) rfl (by omega))
    cases hp
  · intro p hp ys v h' hys a1 a2 a3 gZ gS
    cases hp
theorem wr2_2_k : hp_chk 255 80 4 [(0, 0, 10), (1, 0, 9), (2, 0, 10), (3, 0, 29)] [] [(0, .inr (.inr (.inl (some 85)))), (1, .inl (2, [])), (2, .inl (1, [])), (3, .inl (1, []))] [] [(18688, (0, []), (0, [(0, 1)])), (18688, (1, []), (0, [(1, 1)])), (18688, (2, []), (0, [(2, 1)])), (17669, (0, []), (0, [(3, 1)]))] [18688] 5 [(79, ([], 4, [(0, 0, 10), (1, 0, 9), (2, 0, 10), (3, 0, 29)], [], [(0, .inr (.inr (.inl (some 85)))), (1, .inl (2, [])), (2, .inl (2, [])), (3, .inl (0, []))], [.inl ((-1), []), .inl (2, [(3, 3)]), .inr (.inr (.inl (some 90)))], [(18688, (0, []), (0, [(0, 1)])), (18688, (1, []), (1, [(1, 1)])), (18688, (2, []), (0, [(2, 1)])), (17669, (0, []), (0, [(3, 1)]))]))] [] = true := by decide +kernel
theorem wr2_2 {cst : am_K} {strs : List Nat} {Φ : am_Q → Prop} {D : Nat} {M : am_M} {h : am_H} {l : am_L} (c : hp_C cst strs D) (hM : m_P[255]? = some M) (hD : (5 : Int) ≤ (D : Int) + 1) (hy : ly_hy m_tt ly_TH h) (a b d n : Int) (b0 : 0 ≤ a) (t0 : a ≤ 10) (b1 : 0 ≤ b) (t1 : b ≤ 9) (b2 : 0 ≤ d) (t2 : d ≤ 10) (b3 : 0 ≤ n) (t3 : n ≤ 29) (k0 : ly_hv cst h 18688 0 = some (a)) (k1 : ly_hv cst h 18688 1 = some (b)) (k2 : ly_hv cst h 18688 2 = some (d)) (k3 : ly_hv cst h 17669 0 = some (n)) (l0 : hp_a l 0 85) (l1 : hp_i l 1 2) (l2 : hp_i l 2 1) (l3 : hp_i l 3 1) (e0 : ∀ (l' : am_L) (h' : am_H) (y0 : Int32) (y1 : Int32), y0.toInt = (-1) → y1.toInt = (3 * n + 2) → ly_hy m_tt ly_TH h' → ly_fr cst [18688] h h' → h.length ≤ h'.length → ly_hv cst h' 18688 0 = some (a) → ly_hv cst h' 18688 1 = some (b + 1) → ly_hv cst h' 18688 2 = some (d) → ly_hv cst h' 17669 0 = some (n) → hp_a l' 0 85 → hp_i l' 1 2 → hp_i l' 2 2 → hp_i l' 3 0 → hp_F cst strs Φ D M 79 l' [.int y0, .int y1, .ref 90] h') : hp_F cst strs Φ D M 80 l [] h := by
  refine hp_arc c hM wr2_2_k hD [a, b, d, n] rfl hy (hp_Bc (z := a) rfl b0 t0 (hp_Bc (z := b) rfl b1 t1 (hp_Bc (z := d) rfl b2 t2 (hp_Bc (z := n) rfl b3 t3 hp_Bn)))) hp_Fn (hp_Kc (zi := (0 + 0)) (zv := (0 + (1 * a + 0))) k0 rfl rfl (by omega) (by omega) (hp_Kc (zi := (1 + 0)) (zv := (0 + (1 * b + 0))) k1 rfl rfl (by omega) (by omega) (hp_Kc (zi := (2 + 0)) (zv := (0 + (1 * d + 0))) k2 rfl rfl (by omega) (by omega) (hp_Kc (zi := (0 + 0)) (zv := (0 + (1 * n + 0))) k3 rfl rfl (by omega) (by omega) hp_Kn)))) (hp_La l0 (hp_Li (z := (2 + 0)) l1 rfl (by omega) (hp_Li (z := (1 + 0)) l2 rfl (by omega) (hp_Li (z := (1 + 0)) l3 rfl (by omega) hp_Ln)))) trivial ?_ ?_
  · intro p hp ys l' st' h' hys a1 a2 a3 gZ gL gS
    rcases List.mem_cons.mp hp with rfl | hp
    · obtain rfl := hp_y0 hys
      obtain ⟨y0, t0, rfl, q0, g0⟩ := hp_gSi (z := ((-1) + 0)) gS rfl
      obtain ⟨y1, t1, rfl, q1, g1⟩ := hp_gSi (z := (2 + (3 * n + 0))) g0 rfl
      obtain ⟨t2, rfl, g2⟩ := hp_gSa g1 (by decide)
      cases hp_gSn g2
      exact e0 l' h' y0 y1 (by omega) (by omega) a1 a2 a3 (hp_gK (zi := (0 + 0)) (zv := (0 + (1 * a + 0))) gZ.2.2.2 (List.mem_of_getElem? (i := 0) rfl) rfl rfl (by omega) (by omega)) (hp_gK (zi := (1 + 0)) (zv := (1 + (1 * b + 0))) gZ.2.2.2 (List.mem_of_getElem? (i := 1) rfl) rfl rfl (by omega) (by omega)) (hp_gK (zi := (2 + 0)) (zv := (0 + (1 * d + 0))) gZ.2.2.2 (List.mem_of_getElem? (i := 2) rfl) rfl rfl (by omega) (by omega)) (hp_gK (zi := (0 + 0)) (zv := (0 + (1 * n + 0))) gZ.2.2.2 (List.mem_of_getElem? (i := 3) rfl) rfl rfl (by omega) (by omega)) (hp_gLa gL (List.mem_of_getElem? (i := 0) rfl) (by decide)) (hp_gLi (z := (2 + 0)) gL (List.mem_of_getElem? (i := 1) rfl) rfl (by omega)) (hp_gLi (z := (2 + 0)) gL (List.mem_of_getElem? (i := 2) rfl) rfl (by omega)) (hp_gLi (z := (0 + 0)) gL (List.mem_of_getElem? (i := 3) rfl) rfl (by omega))
    cases hp
  · intro p hp ys v h' hys a1 a2 a3 gZ gS
    cases hp
theorem wr2_3_k : hp_chk 255 80 4 [(0, 0, 10), (1, 0, 9), (2, 0, 10), (3, 0, 29)] [] [(0, .inr (.inr (.inl (some 85)))), (1, .inl (2, [])), (2, .inl (2, [])), (3, .inl (0, []))] [] [(18688, (0, []), (0, [(0, 1)])), (18688, (1, []), (1, [(1, 1)])), (18688, (2, []), (0, [(2, 1)])), (17669, (0, []), (0, [(3, 1)]))] [17669, 18688] 5 [(115, ([], 4, [(0, 0, 10), (1, 0, 9), (2, 0, 10), (3, 0, 29)], [], [(0, .inr (.inr (.inl (some 85))))], [.inr (.inr (.inl (some 85)))], [(18688, (0, []), (0, [(0, 1)])), (18688, (1, []), (1, [(1, 1)])), (18688, (2, []), (0, [(2, 1)])), (17669, (0, []), (1, [(3, 1)]))]))] [] = true := by decide +kernel
theorem wr2_3 {cst : am_K} {strs : List Nat} {Φ : am_Q → Prop} {D : Nat} {M : am_M} {h : am_H} {l : am_L} (c : hp_C cst strs D) (hM : m_P[255]? = some M) (hD : (5 : Int) ≤ (D : Int) + 1) (hy : ly_hy m_tt ly_TH h) (a b d n : Int) (b0 : 0 ≤ a) (t0 : a ≤ 10) (b1 : 0 ≤ b) (t1 : b ≤ 9) (b2 : 0 ≤ d) (t2 : d ≤ 10) (b3 : 0 ≤ n) (t3 : n ≤ 29) (k0 : ly_hv cst h 18688 0 = some (a)) (k1 : ly_hv cst h 18688 1 = some (b + 1)) (k2 : ly_hv cst h 18688 2 = some (d)) (k3 : ly_hv cst h 17669 0 = some (n)) (l0 : hp_a l 0 85) (l1 : hp_i l 1 2) (l2 : hp_i l 2 2) (l3 : hp_i l 3 0) (e0 : ∀ (l' : am_L) (h' : am_H), ly_hy m_tt ly_TH h' → ly_fr cst [17669, 18688] h h' → h.length ≤ h'.length → ly_hv cst h' 18688 0 = some (a) → ly_hv cst h' 18688 1 = some (b + 1) → ly_hv cst h' 18688 2 = some (d) → ly_hv cst h' 17669 0 = some (n + 1) → hp_a l' 0 85 → hp_F cst strs Φ D M 115 l' [.ref 85] h') : hp_F cst strs Φ D M 80 l [] h := by
  refine hp_arc c hM wr2_3_k hD [a, b, d, n] rfl hy (hp_Bc (z := a) rfl b0 t0 (hp_Bc (z := b) rfl b1 t1 (hp_Bc (z := d) rfl b2 t2 (hp_Bc (z := n) rfl b3 t3 hp_Bn)))) hp_Fn (hp_Kc (zi := (0 + 0)) (zv := (0 + (1 * a + 0))) k0 rfl rfl (by omega) (by omega) (hp_Kc (zi := (1 + 0)) (zv := (1 + (1 * b + 0))) k1 rfl rfl (by omega) (by omega) (hp_Kc (zi := (2 + 0)) (zv := (0 + (1 * d + 0))) k2 rfl rfl (by omega) (by omega) (hp_Kc (zi := (0 + 0)) (zv := (0 + (1 * n + 0))) k3 rfl rfl (by omega) (by omega) hp_Kn)))) (hp_La l0 (hp_Li (z := (2 + 0)) l1 rfl (by omega) (hp_Li (z := (2 + 0)) l2 rfl (by omega) (hp_Li (z := (0 + 0)) l3 rfl (by omega) hp_Ln)))) trivial ?_ ?_
  · intro p hp ys l' st' h' hys a1 a2 a3 gZ gL gS
    rcases List.mem_cons.mp hp with rfl | hp
    · obtain rfl := hp_y0 hys
      obtain ⟨t0, rfl, g0⟩ := hp_gSa gS (by decide)
      cases hp_gSn g0
      exact e0 l' h' a1 a2 a3 (hp_gK (zi := (0 + 0)) (zv := (0 + (1 * a + 0))) gZ.2.2.2 (List.mem_of_getElem? (i := 0) rfl) rfl rfl (by omega) (by omega)) (hp_gK (zi := (1 + 0)) (zv := (1 + (1 * b + 0))) gZ.2.2.2 (List.mem_of_getElem? (i := 1) rfl) rfl rfl (by omega) (by omega)) (hp_gK (zi := (2 + 0)) (zv := (0 + (1 * d + 0))) gZ.2.2.2 (List.mem_of_getElem? (i := 2) rfl) rfl rfl (by omega) (by omega)) (hp_gK (zi := (0 + 0)) (zv := (1 + (1 * n + 0))) gZ.2.2.2 (List.mem_of_getElem? (i := 3) rfl) rfl rfl (by omega) (by omega)) (hp_gLa gL (List.mem_of_getElem? (i := 0) rfl) (by decide))
    cases hp
  · intro p hp ys v h' hys a1 a2 a3 gZ gS
    cases hp
theorem wr4_0_k : hp_chk 255 18 4 [(0, 0, 10), (1, 0, 10), (2, 0, 9), (3, 0, 29)] [] [(0, .inr (.inr (.inl (some 85)))), (1, .inl (4, []))] [] [(18688, (0, []), (0, [(0, 1)])), (18688, (1, []), (0, [(1, 1)])), (18688, (2, []), (0, [(2, 1)])), (17669, (0, []), (0, [(3, 1)]))] [] 5 [(79, ([], 4, [(0, 0, 10), (1, 0, 10), (2, 0, 9), (3, 0, 29)], [], [(0, .inr (.inr (.inl (some 85)))), (1, .inl (4, [])), (2, .inl (0, [])), (3, .inl (0, []))], [.inl ((-1), []), .inl (0, [(3, 3)]), .inr (.inr (.inl (some 90)))], [(18688, (0, []), (0, [(0, 1)])), (18688, (1, []), (0, [(1, 1)])), (18688, (2, []), (0, [(2, 1)])), (17669, (0, []), (0, [(3, 1)]))]))] [] = true := by decide +kernel
theorem wr4_0 {cst : am_K} {strs : List Nat} {Φ : am_Q → Prop} {D : Nat} {M : am_M} {h : am_H} {l : am_L} (c : hp_C cst strs D) (hM : m_P[255]? = some M) (hD : (5 : Int) ≤ (D : Int) + 1) (hy : ly_hy m_tt ly_TH h) (a b d n : Int) (b0 : 0 ≤ a) (t0 : a ≤ 10) (b1 : 0 ≤ b) (t1 : b ≤ 10) (b2 : 0 ≤ d) (t2 : d ≤ 9) (b3 : 0 ≤ n) (t3 : n ≤ 29) (k0 : ly_hv cst h 18688 0 = some (a)) (k1 : ly_hv cst h 18688 1 = some (b)) (k2 : ly_hv cst h 18688 2 = some (d)) (k3 : ly_hv cst h 17669 0 = some (n)) (l0 : hp_a l 0 85) (l1 : hp_i l 1 4) (e0 : ∀ (l' : am_L) (h' : am_H) (y0 : Int32) (y1 : Int32), y0.toInt = (-1) → y1.toInt = (3 * n) → ly_hy m_tt ly_TH h' → ly_fr cst [] h h' → h.length ≤ h'.length → ly_hv cst h' 18688 0 = some (a) → ly_hv cst h' 18688 1 = some (b) → ly_hv cst h' 18688 2 = some (d) → ly_hv cst h' 17669 0 = some (n) → hp_a l' 0 85 → hp_i l' 1 4 → hp_i l' 2 0 → hp_i l' 3 0 → hp_F cst strs Φ D M 79 l' [.int y0, .int y1, .ref 90] h') : hp_F cst strs Φ D M 18 l [] h := by
  refine hp_arc c hM wr4_0_k hD [a, b, d, n] rfl hy (hp_Bc (z := a) rfl b0 t0 (hp_Bc (z := b) rfl b1 t1 (hp_Bc (z := d) rfl b2 t2 (hp_Bc (z := n) rfl b3 t3 hp_Bn)))) hp_Fn (hp_Kc (zi := (0 + 0)) (zv := (0 + (1 * a + 0))) k0 rfl rfl (by omega) (by omega) (hp_Kc (zi := (1 + 0)) (zv := (0 + (1 * b + 0))) k1 rfl rfl (by omega) (by omega) (hp_Kc (zi := (2 + 0)) (zv := (0 + (1 * d + 0))) k2 rfl rfl (by omega) (by omega) (hp_Kc (zi := (0 + 0)) (zv := (0 + (1 * n + 0))) k3 rfl rfl (by omega) (by omega) hp_Kn)))) (hp_La l0 (hp_Li (z := (4 + 0)) l1 rfl (by omega) hp_Ln)) trivial ?_ ?_
  · intro p hp ys l' st' h' hys a1 a2 a3 gZ gL gS
    rcases List.mem_cons.mp hp with rfl | hp
    · obtain rfl := hp_y0 hys
      obtain ⟨y0, t0, rfl, q0, g0⟩ := hp_gSi (z := ((-1) + 0)) gS rfl
      obtain ⟨y1, t1, rfl, q1, g1⟩ := hp_gSi (z := (0 + (3 * n + 0))) g0 rfl
      obtain ⟨t2, rfl, g2⟩ := hp_gSa g1 (by decide)
      cases hp_gSn g2
      exact e0 l' h' y0 y1 (by omega) (by omega) a1 a2 a3 (hp_gK (zi := (0 + 0)) (zv := (0 + (1 * a + 0))) gZ.2.2.2 (List.mem_of_getElem? (i := 0) rfl) rfl rfl (by omega) (by omega)) (hp_gK (zi := (1 + 0)) (zv := (0 + (1 * b + 0))) gZ.2.2.2 (List.mem_of_getElem? (i := 1) rfl) rfl rfl (by omega) (by omega)) (hp_gK (zi := (2 + 0)) (zv := (0 + (1 * d + 0))) gZ.2.2.2 (List.mem_of_getElem? (i := 2) rfl) rfl rfl (by omega) (by omega)) (hp_gK (zi := (0 + 0)) (zv := (0 + (1 * n + 0))) gZ.2.2.2 (List.mem_of_getElem? (i := 3) rfl) rfl rfl (by omega) (by omega)) (hp_gLa gL (List.mem_of_getElem? (i := 0) rfl) (by decide)) (hp_gLi (z := (4 + 0)) gL (List.mem_of_getElem? (i := 1) rfl) rfl (by omega)) (hp_gLi (z := (0 + 0)) gL (List.mem_of_getElem? (i := 2) rfl) rfl (by omega)) (hp_gLi (z := (0 + 0)) gL (List.mem_of_getElem? (i := 3) rfl) rfl (by omega))
    cases hp
  · intro p hp ys v h' hys a1 a2 a3 gZ gS
    cases hp
theorem wr4_1_k : hp_chk 255 80 4 [(0, 0, 10), (1, 0, 10), (2, 0, 9), (3, 0, 29)] [] [(0, .inr (.inr (.inl (some 85)))), (1, .inl (4, [])), (2, .inl (0, [])), (3, .inl (0, []))] [] [(18688, (0, []), (0, [(0, 1)])), (18688, (1, []), (0, [(1, 1)])), (18688, (2, []), (0, [(2, 1)])), (17669, (0, []), (0, [(3, 1)]))] [18688] 5 [(79, ([], 4, [(0, 0, 10), (1, 0, 10), (2, 0, 9), (3, 0, 29)], [], [(0, .inr (.inr (.inl (some 85)))), (1, .inl (4, [])), (2, .inl (1, [])), (3, .inl (0, []))], [.inl ((-1), []), .inl (1, [(3, 3)]), .inr (.inr (.inl (some 90)))], [(18688, (0, []), (0, [(0, 1)])), (18688, (1, []), (0, [(1, 1)])), (18688, (2, []), (0, [(2, 1)])), (17669, (0, []), (0, [(3, 1)]))]))] [] = true := by decide +kernel
theorem wr4_1 {cst : am_K} {strs : List Nat} {Φ : am_Q → Prop} {D : Nat} {M : am_M} {h : am_H} {l : am_L} (c : hp_C cst strs D) (hM : m_P[255]? = some M) (hD : (5 : Int) ≤ (D : Int) + 1) (hy : ly_hy m_tt ly_TH h) (a b d n : Int) (b0 : 0 ≤ a) (t0 : a ≤ 10) (b1 : 0 ≤ b) (t1 : b ≤ 10) (b2 : 0 ≤ d) (t2 : d ≤ 9) (b3 : 0 ≤ n) (t3 : n ≤ 29) (k0 : ly_hv cst h 18688 0 = some (a)) (k1 : ly_hv cst h 18688 1 = some (b)) (k2 : ly_hv cst h 18688 2 = some (d)) (k3 : ly_hv cst h 17669 0 = some (n)) (l0 : hp_a l 0 85) (l1 : hp_i l 1 4) (l2 : hp_i l 2 0) (l3 : hp_i l 3 0) (e0 : ∀ (l' : am_L) (h' : am_H) (y0 : Int32) (y1 : Int32), y0.toInt = (-1) → y1.toInt = (3 * n + 1) → ly_hy m_tt ly_TH h' → ly_fr cst [18688] h h' → h.length ≤ h'.length → ly_hv cst h' 18688 0 = some (a) → ly_hv cst h' 18688 1 = some (b) → ly_hv cst h' 18688 2 = some (d) → ly_hv cst h' 17669 0 = some (n) → hp_a l' 0 85 → hp_i l' 1 4 → hp_i l' 2 1 → hp_i l' 3 0 → hp_F cst strs Φ D M 79 l' [.int y0, .int y1, .ref 90] h') : hp_F cst strs Φ D M 80 l [] h := by
  refine hp_arc c hM wr4_1_k hD [a, b, d, n] rfl hy (hp_Bc (z := a) rfl b0 t0 (hp_Bc (z := b) rfl b1 t1 (hp_Bc (z := d) rfl b2 t2 (hp_Bc (z := n) rfl b3 t3 hp_Bn)))) hp_Fn (hp_Kc (zi := (0 + 0)) (zv := (0 + (1 * a + 0))) k0 rfl rfl (by omega) (by omega) (hp_Kc (zi := (1 + 0)) (zv := (0 + (1 * b + 0))) k1 rfl rfl (by omega) (by omega) (hp_Kc (zi := (2 + 0)) (zv := (0 + (1 * d + 0))) k2 rfl rfl (by omega) (by omega) (hp_Kc (zi := (0 + 0)) (zv := (0 + (1 * n + 0))) k3 rfl rfl (by omega) (by omega) hp_Kn)))) (hp_La l0 (hp_Li (z := (4 + 0)) l1 rfl (by omega) (hp_Li (z := (0 + 0)) l2 rfl (by omega) (hp_Li (z := (0 + 0)) l3 rfl (by omega) hp_Ln)))) trivial ?_ ?_
  · intro p hp ys l' st' h' hys a1 a2 a3 gZ gL gS
    rcases List.mem_cons.mp hp with rfl | hp
    · obtain rfl := hp_y0 hys
      obtain ⟨y0, t0, rfl, q0, g0⟩ := hp_gSi (z := ((-1) + 0)) gS rfl
      obtain ⟨y1, t1, rfl, q1, g1⟩ := hp_gSi (z := (1 + (3 * n + 0))) g0 rfl
      obtain ⟨t2, rfl, g2⟩ := hp_gSa g1 (by decide)
      cases hp_gSn g2
      exact e0 l' h' y0 y1 (by omega) (by omega) a1 a2 a3 (hp_gK (zi := (0 + 0)) (zv := (0 + (1 * a + 0))) gZ.2.2.2 (List.mem_of_getElem? (i := 0) rfl) rfl rfl (by omega) (by omega)) (hp_gK (zi := (1 + 0)) (zv := (0 + (1 * b + 0))) gZ.2.2.2 (List.mem_of_getElem? (i := 1) rfl) rfl rfl (by omega) (by omega)) (hp_gK (zi := (2 + 0)) (zv := (0 + (1 * d + 0))) gZ.2.2.2 (List.mem_of_getElem? (i := 2) rfl) rfl rfl (by omega) (by omega)) (hp_gK (zi := (0 + 0)) (zv := (0 + (1 * n + 0))) gZ.2.2.2 (List.mem_of_getElem? (i := 3) rfl) rfl rfl (by omega) (by omega)) (hp_gLa gL (List.mem_of_getElem? (i := 0) rfl) (by decide)) (hp_gLi (z := (4 + 0)) gL (List.mem_of_getElem? (i := 1) rfl) rfl (by omega)) (hp_gLi (z := (1 + 0)) gL (List.mem_of_getElem? (i := 2) rfl) rfl (by omega)) (hp_gLi (z := (0 + 0)) gL (List.mem_of_getElem? (i := 3) rfl) rfl (by omega))
    cases hp
  · intro p hp ys v h' hys a1 a2 a3 gZ gS
    cases hp
theorem wr4_2_k : hp_chk 255 80 4 [(0, 0, 10), (1, 0, 10), (2, 0, 9), (3, 0, 29)] [] [(0, .inr (.inr (.inl (some 85)))), (1, .inl (4, [])), (2, .inl (1, [])), (3, .inl (0, []))] [] [(18688, (0, []), (0, [(0, 1)])), (18688, (1, []), (0, [(1, 1)])), (18688, (2, []), (0, [(2, 1)])), (17669, (0, []), (0, [(3, 1)]))] [18688] 5 [(79, ([], 4, [(0, 0, 10), (1, 0, 10), (2, 0, 9), (3, 0, 29)], [], [(0, .inr (.inr (.inl (some 85)))), (1, .inl (4, [])), (2, .inl (2, [])), (3, .inl (1, []))], [.inl (0, [(2, 1)]), .inl (2, [(3, 3)]), .inr (.inr (.inl (some 90)))], [(18688, (0, []), (0, [(0, 1)])), (18688, (1, []), (0, [(1, 1)])), (18688, (2, []), (0, [(2, 1)])), (17669, (0, []), (0, [(3, 1)]))]))] [] = true := by decide +kernel
theorem wr4_2 {cst : am_K} {strs : List Nat} {Φ : am_Q → Prop} {D : Nat} {M : am_M} {h : am_H} {l : am_L} (c : hp_C cst strs D) (hM : m_P[255]? = some M) (hD : (5 : Int) ≤ (D : Int) + 1) (hy : ly_hy m_tt ly_TH h) (a b d n : Int) (b0 : 0 ≤ a) (t0 : a ≤ 10) (b1 : 0 ≤ b) (t1 : b ≤ 10) (b2 : 0 ≤ d) (t2 : d ≤ 9) (b3 : 0 ≤ n) (t3 : n ≤ 29) (k0 : ly_hv cst h 18688 0 = some (a)) (k1 : ly_hv cst h 18688 1 = some (b)) (k2 : ly_hv cst h 18688 2 = some (d)) (k3 : ly_hv cst h 17669 0 = some (n)) (l0 : hp_a l 0 85) (l1 : hp_i l 1 4) (l2 : hp_i l 2 1) (l3 : hp_i l 3 0) (e0 : ∀ (l' : am_L) (h' : am_H) (y0 : Int32) (y1 : Int32), y0.toInt = (d) → y1.toInt = (3 * n + 2) → ly_hy m_tt ly_TH h' → ly_fr cst [18688] h h' → h.length ≤ h'.length → ly_hv cst h' 18688 0 = some (a) → ly_hv cst h' 18688 1 = some (b) → ly_hv cst h' 18688 2 = some (d) → ly_hv cst h' 17669 0 = some (n) → hp_a l' 0 85 → hp_i l' 1 4 → hp_i l' 2 2 → hp_i l' 3 1 → hp_F cst strs Φ D M 79 l' [.int y0, .int y1, .ref 90] h') : hp_F cst strs Φ D M 80 l [] h := by
  refine hp_arc c hM wr4_2_k hD [a, b, d, n] rfl hy (hp_Bc (z := a) rfl b0 t0 (hp_Bc (z := b) rfl b1 t1 (hp_Bc (z := d) rfl b2 t2 (hp_Bc (z := n) rfl b3 t3 hp_Bn)))) hp_Fn (hp_Kc (zi := (0 + 0)) (zv := (0 + (1 * a + 0))) k0 rfl rfl (by omega) (by omega) (hp_Kc (zi := (1 + 0)) (zv := (0 + (1 * b + 0))) k1 rfl rfl (by omega) (by omega) (hp_Kc (zi := (2 + 0)) (zv := (0 + (1 * d + 0))) k2 rfl rfl (by omega) (by omega) (hp_Kc (zi := (0 + 0)) (zv := (0 + (1 * n + 0))) k3 rfl rfl (by omega) (by omega) hp_Kn)))) (hp_La l0 (hp_Li (z := (4 + 0)) l1 rfl (by omega) (hp_Li (z := (1 + 0)) l2 rfl (by omega) (hp_Li (z := (0 + 0)) l3 rfl (by omega) hp_Ln)))) trivial ?_ ?_
  · intro p hp ys l' st' h' hys a1 a2 a3 gZ gL gS
    rcases List.mem_cons.mp hp with rfl | hp
    · obtain rfl := hp_y0 hys
      obtain ⟨y0, t0, rfl, q0, g0⟩ := hp_gSi (z := (0 + (1 * d + 0))) gS rfl
      obtain ⟨y1, t1, rfl, q1, g1⟩ := hp_gSi (z := (2 + (3 * n + 0))) g0 rfl
      obtain ⟨t2, rfl, g2⟩ := hp_gSa g1 (by decide)
      cases hp_gSn g2
      exact e0 l' h' y0 y1 (by omega) (by omega) a1 a2 a3 (hp_gK (zi := (0 + 0)) (zv := (0 + (1 * a + 0))) gZ.2.2.2 (List.mem_of_getElem? (i := 0) rfl) rfl rfl (by omega) (by omega)) (hp_gK (zi := (1 + 0)) (zv := (0 + (1 * b + 0))) gZ.2.2.2 (List.mem_of_getElem? (i := 1) rfl) rfl rfl (by omega) (by omega)) (hp_gK (zi := (2 + 0)) (zv := (0 + (1 * d + 0))) gZ.2.2.2 (List.mem_of_getElem? (i := 2) rfl) rfl rfl (by omega) (by omega)) (hp_gK (zi := (0 + 0)) (zv := (0 + (1 * n + 0))) gZ.2.2.2 (List.mem_of_getElem? (i := 3) rfl) rfl rfl (by omega) (by omega)) (hp_gLa gL (List.mem_of_getElem? (i := 0) rfl) (by decide)) (hp_gLi (z := (4 + 0)) gL (List.mem_of_getElem? (i := 1) rfl) rfl (by omega)) (hp_gLi (z := (2 + 0)) gL (List.mem_of_getElem? (i := 2) rfl) rfl (by omega)) (hp_gLi (z := (1 + 0)) gL (List.mem_of_getElem? (i := 3) rfl) rfl (by omega))
    cases hp
  · intro p hp ys v h' hys a1 a2 a3 gZ gS
    cases hp
theorem wr4_3_k : hp_chk 255 80 4 [(0, 0, 10), (1, 0, 10), (2, 0, 9), (3, 0, 29)] [] [(0, .inr (.inr (.inl (some 85)))), (1, .inl (4, [])), (2, .inl (2, [])), (3, .inl (1, []))] [] [(18688, (0, []), (0, [(0, 1)])), (18688, (1, []), (0, [(1, 1)])), (18688, (2, []), (0, [(2, 1)])), (17669, (0, []), (0, [(3, 1)]))] [17669, 18688] 5 [(115, ([], 4, [(0, 0, 10), (1, 0, 10), (2, 0, 9), (3, 0, 29)], [], [(0, .inr (.inr (.inl (some 85))))], [.inr (.inr (.inl (some 85)))], [(18688, (0, []), (0, [(0, 1)])), (18688, (1, []), (0, [(1, 1)])), (18688, (2, []), (1, [(2, 1)])), (17669, (0, []), (1, [(3, 1)]))]))] [] = true := by decide +kernel
theorem wr4_3 {cst : am_K} {strs : List Nat} {Φ : am_Q → Prop} {D : Nat} {M : am_M} {h : am_H} {l : am_L} (c : hp_C cst strs D) (hM : m_P[255]? = some M) (hD : (5 : Int) ≤ (D : Int) + 1) (hy : ly_hy m_tt ly_TH h) (a b d n : Int) (b0 : 0 ≤ a) (t0 : a ≤ 10) (b1 : 0 ≤ b) (t1 : b ≤ 10) (b2 : 0 ≤ d) (t2 : d ≤ 9) (b3 : 0 ≤ n) (t3 : n ≤ 29) (k0 : ly_hv cst h 18688 0 = some (a)) (k1 : ly_hv cst h 18688 1 = some (b)) (k2 : ly_hv cst h 18688 2 = some (d)) (k3 : ly_hv cst h 17669 0 = some (n)) (l0 : hp_a l 0 85) (l1 : hp_i l 1 4) (l2 : hp_i l 2 2) (l3 : hp_i l 3 1) (e0 : ∀ (l' : am_L) (h' : am_H), ly_hy m_tt ly_TH h' → ly_fr cst [17669, 18688] h h' → h.length ≤ h'.length → ly_hv cst h' 18688 0 = some (a) → ly_hv cst h' 18688 1 = some (b) → ly_hv cst h' 18688 2 = some (d + 1) → ly_hv cst h' 17669 0 = some (n + 1) → hp_a l' 0 85 → hp_F cst strs Φ D M 115 l' [.ref 85] h') : hp_F cst strs Φ D M 80 l [] h := by
  refine hp_arc c hM wr4_3_k hD [a, b, d, n] rfl hy (hp_Bc (z := a) rfl b0 t0 (hp_Bc (z := b) rfl b1 t1 (hp_Bc (z := d) rfl b2 t2 (hp_Bc (z := n) rfl b3 t3 hp_Bn)))) hp_Fn (hp_Kc (zi := (0 + 0)) (zv := (0 + (1 * a + 0))) k0 rfl rfl (by omega) (by omega) (hp_Kc (zi := (1 + 0)) (zv := (0 + (1 * b + 0))) k1 rfl rfl (by omega) (by omega) (hp_Kc (zi := (2 + 0)) (zv := (0 + (1 * d + 0))) k2 rfl rfl (by omega) (by omega) (hp_Kc (zi := (0 + 0)) (zv := (0 + (1 * n + 0))) k3 rfl rfl (by omega) (by omega) hp_Kn)))) (hp_La l0 (hp_Li (z := (4 + 0)) l1 rfl (by omega) (hp_Li (z := (2 + 0)) l2 rfl (by omega) (hp_Li (z := (1 + 0)) l3 rfl (by omega) hp_Ln)))) trivial ?_ ?_
  · intro p hp ys l' st' h' hys a1 a2 a3 gZ gL gS
    rcases List.mem_cons.mp hp with rfl | hp
    · obtain rfl := hp_y0 hys
      obtain ⟨t0, rfl, g0⟩ := hp_gSa gS (by decide)
      cases hp_gSn g0
      exact e0 l' h' a1 a2 a3 (hp_gK (zi := (0 + 0)) (zv := (0 + (1 * a + 0))) gZ.2.2.2 (List.mem_of_getElem? (i := 0) rfl) rfl rfl (by omega) (by omega)) (hp_gK (zi := (1 + 0)) (zv := (0 + (1 * b + 0))) gZ.2.2.2 (List.mem_of_getElem? (i := 1) rfl) rfl rfl (by omega) (by omega)) (hp_gK (zi := (2 + 0)) (zv := (1 + (1 * d + 0))) gZ.2.2.2 (List.mem_of_getElem? (i := 2) rfl) rfl rfl (by omega) (by omega)) (hp_gK (zi := (0 + 0)) (zv := (1 + (1 * n + 0))) gZ.2.2.2 (List.mem_of_getElem? (i := 3) rfl) rfl rfl (by omega) (by omega)) (hp_gLa gL (List.mem_of_getElem? (i := 0) rfl) (by decide))
    cases hp
  · intro p hp ys v h' hys a1 a2 a3 gZ gS
    cases hp
theorem wj_0_k : hp_chk 256 0 2 [(0, (-2147483648), 2147483647), (1, (-2147483648), 2147483647)] [] [(0, .inr (.inr (.inl (some 16)))), (1, .inl (0, [(0, 1)])), (2, .inl (0, [(1, 1)]))] [] [] [] 2 [(6, ([], 2, [(0, (-2147483648), 2147483647), (1, (-2147483648), 2147483647)], [], [], [.inl (0, [(1, 1)]), .inl (0, [(0, 1)]), .inr (.inr (.inl (some 85)))], []))] [] = true := by decide +kernel
theorem wj_0 {cst : am_K} {strs : List Nat} {Φ : am_Q → Prop} {D : Nat} {M : am_M} {h : am_H} {l : am_L} (c : hp_C cst strs D) (hM : m_P[256]? = some M) (hD : (2 : Int) ≤ (D : Int) + 1) (hy : ly_hy m_tt ly_TH h) (i w : Int) (b0 : (-2147483648) ≤ i) (t0 : i ≤ 2147483647) (b1 : (-2147483648) ≤ w) (t1 : w ≤ 2147483647) (l0 : hp_a l 0 16) (l1 : hp_i l 1 (i)) (l2 : hp_i l 2 (w)) (e0 : ∀ (l' : am_L) (h' : am_H) (y0 : Int32) (y1 : Int32), y0.toInt = (w) → y1.toInt = (i) → ly_hy m_tt ly_TH h' → ly_fr cst [] h h' → h.length ≤ h'.length → hp_F cst strs Φ D M 6 l' [.int y0, .int y1, .ref 85] h') : hp_F cst strs Φ D M 0 l [] h := by
  refine hp_arc c hM wj_0_k hD [i, w] rfl hy (hp_Bc (z := i) rfl b0 t0 (hp_Bc (z := w) rfl b1 t1 hp_Bn)) hp_Fn hp_Kn (hp_La l0 (hp_Li (z := (0 + (1 * i + 0))) l1 rfl (by omega) (hp_Li (z := (0 + (1 * w + 0))) l2 rfl (by omega) hp_Ln))) trivial ?_ ?_
  · intro p hp ys l' st' h' hys a1 a2 a3 gZ gL gS
    rcases List.mem_cons.mp hp with rfl | hp
    · obtain rfl := hp_y0 hys
      obtain ⟨y0, t0, rfl, q0, g0⟩ := hp_gSi (z := (0 + (1 * w + 0))) gS rfl
      obtain ⟨y1, t1, rfl, q1, g1⟩ := hp_gSi (z := (0 + (1 * i + 0))) g0 rfl
      obtain ⟨t2, rfl, g2⟩ := hp_gSa g1 (by decide)
      cases hp_gSn g2
      exact e0 l' h' y0 y1 (by omega) (by omega) a1 a2 a3
    cases hp
  · intro p hp ys v h' hys a1 a2 a3 gZ gS
    cases hp
theorem wj_1_k : hp_chk 256 9 1 [(0, (-2147483648), 2147483647)] [] [] [.inl (0, [(0, 1)])] [] [] 2 [] [([], 1, [(0, (-2147483648), 2147483647)], [], [], [.inl (0, [(0, 1)])], [])] = true := by decide +kernel
theorem wj_1 {cst : am_K} {strs : List Nat} {Φ : am_Q → Prop} {D : Nat} {M : am_M} {h : am_H} {l : am_L} (c : hp_C cst strs D) (hM : m_P[256]? = some M) (hD : (2 : Int) ≤ (D : Int) + 1) (hy : ly_hy m_tt ly_TH h) (y : Int) (x0 : Int32) (hx0 : x0.toInt = (y)) (b0 : (-2147483648) ≤ y) (t0 : y ≤ 2147483647) (r0 : ∀ (h' : am_H) (y0 : Int32), y0.toInt = (y) → ly_hy m_tt ly_TH h' → ly_fr cst [] h h' → h.length ≤ h'.length → Φ (some (.int y0), h', 0, 0)) : hp_F cst strs Φ D M 9 l [.int x0] h := by
  refine hp_arc c hM wj_1_k hD [y] rfl hy (hp_Bc (z := y) rfl b0 t0 hp_Bn) hp_Fn hp_Kn hp_Ln (hp_Si (z := (0 + (1 * y + 0))) rfl (by omega) trivial) ?_ ?_
  · intro p hp ys l' st' h' hys a1 a2 a3 gZ gL gS
    cases hp
  · intro p hp ys v h' hys a1 a2 a3 gZ gS
    rcases List.mem_cons.mp hp with rfl | hp
    · obtain rfl := hp_y0 hys
      cases v with
      | none => cases gS
      | some w =>
        obtain ⟨y0, t0, s0, q0, -⟩ := hp_gSi (z := (0 + (1 * y + 0))) gS rfl
        cases s0
        exact r0 h' y0 (by omega) a1 a2 a3
    cases hp
theorem wt0_k : hp_chk 257 0 3 [(0, (-2147483648), (-1)), (1, (-2147483648), 2147483647), (2, 0, 30)] [] [(0, .inr (.inr (.inl (some 85)))), (1, .inl (0, [(0, 1)])), (2, .inl (0, [(1, 1)]))] [] [(17669, (0, []), (0, [(2, 1)]))] [] 4 [] [([], 3, [(0, (-2147483648), (-1)), (1, (-2147483648), 2147483647), (2, 0, 30)], [], [], [.inl ((-9), [])], [])] = true := by decide +kernel
theorem wt0 {cst : am_K} {strs : List Nat} {Φ : am_Q → Prop} {D : Nat} {M : am_M} {h : am_H} {l : am_L} (c : hp_C cst strs D) (hM : m_P[257]? = some M) (hD : (4 : Int) ≤ (D : Int) + 1) (hy : ly_hy m_tt ly_TH h) (i w n : Int) (b0 : (-2147483648) ≤ i) (t0 : i ≤ (-1)) (b1 : (-2147483648) ≤ w) (t1 : w ≤ 2147483647) (b2 : 0 ≤ n) (t2 : n ≤ 30) (k0 : ly_hv cst h 17669 0 = some (n)) (l0 : hp_a l 0 85) (l1 : hp_i l 1 (i)) (l2 : hp_i l 2 (w)) (r0 : ∀ (h' : am_H) (y0 : Int32), y0.toInt = (-9) → ly_hy m_tt ly_TH h' → ly_fr cst [] h h' → h.length ≤ h'.length → Φ (some (.int y0), h', 0, 0)) : hp_F cst strs Φ D M 0 l [] h := by
  refine hp_arc c hM wt0_k hD [i, w, n] rfl hy (hp_Bc (z := i) rfl b0 t0 (hp_Bc (z := w) rfl b1 t1 (hp_Bc (z := n) rfl b2 t2 hp_Bn))) hp_Fn (hp_Kc (zi := (0 + 0)) (zv := (0 + (1 * n + 0))) k0 rfl rfl (by omega) (by omega) hp_Kn) (hp_La l0 (hp_Li (z := (0 + (1 * i + 0))) l1 rfl (by omega) (hp_Li (z := (0 + (1 * w + 0))) l2 rfl (by omega) hp_Ln))) trivial ?_ ?_
  · intro p hp ys l' st' h' hys a1 a2 a3 gZ gL gS
    cases hp
  · intro p hp ys v h' hys a1 a2 a3 gZ gS
    rcases List.mem_cons.mp hp with rfl | hp
    · obtain rfl := hp_y0 hys
      cases v with
      | none => cases gS
      | some w =>
        obtain ⟨y0, t0, s0, q0, -⟩ := hp_gSi (z := ((-9) + 0)) gS rfl
        cases s0
        exact r0 h' y0 (by omega) a1 a2 a3
    cases hp
theorem wt1_k : hp_chk 257 0 3 [(0, 0, 2147483647), (1, (-2147483648), 2147483647), (2, 0, 30)] [(0, [(0, 1), (2, (-1))])] [(0, .inr (.inr (.inl (some 85)))), (1, .inl (0, [(0, 1)])), (2, .inl (0, [(1, 1)]))] [] [(17669, (0, []), (0, [(2, 1)]))] [] 4 [] [([], 3, [(0, 0, 2147483647), (1, (-2147483648), 2147483647), (2, 0, 30)], [], [], [.inl ((-9), [])], [])] = true := by decide +kernel
theorem wt1 {cst : am_K} {strs : List Nat} {Φ : am_Q → Prop} {D : Nat} {M : am_M} {h : am_H} {l : am_L} (c : hp_C cst strs D) (hM : m_P[257]? = some M) (hD : (4 : Int) ≤ (D : Int) + 1) (hy : ly_hy m_tt ly_TH h) (i w n : Int) (b0 : 0 ≤ i) (t0 : i ≤ 2147483647) (b1 : (-2147483648) ≤ w) (t1 : w ≤ 2147483647) (b2 : 0 ≤ n) (t2 : n ≤ 30) (f0 : 0 ≤ (i - n)) (k0 : ly_hv cst h 17669 0 = some (n)) (l0 : hp_a l 0 85) (l1 : hp_i l 1 (i)) (l2 : hp_i l 2 (w)) (r0 : ∀ (h' : am_H) (y0 : Int32), y0.toInt = (-9) → ly_hy m_tt ly_TH h' → ly_fr cst [] h h' → h.length ≤ h'.length → Φ (some (.int y0), h', 0, 0)) : hp_F cst strs Φ D M 0 l [] h := by
  refine hp_arc c hM wt1_k hD [i, w, n] rfl hy (hp_Bc (z := i) rfl b0 t0 (hp_Bc (z := w) rfl b1 t1 (hp_Bc (z := n) rfl b2 t2 hp_Bn))) (hp_Fc (z := (0 + (1 * i + ((-1) * n + 0)))) rfl (by omega) hp_Fn) (hp_Kc (zi := (0 + 0)) (zv := (0 + (1 * n + 0))) k0 rfl rfl (by omega) (by omega) hp_Kn) (hp_La l0 (hp_Li (z := (0 + (1 * i + 0))) l1 rfl (by omega) (hp_Li (z := (0 + (1 * w + 0))) l2 rfl (by omega) hp_Ln))) trivial ?_ ?_
  · intro p hp ys l' st' h' hys a1 a2 a3 gZ gL gS
    cases hp
  · intro p hp ys v h' hys a1 a2 a3 gZ gS
    rcases List.mem_cons.mp hp with rfl | hp
    · obtain rfl := hp_y0 hys
      cases v with
      | none => cases gS
      | some w =>
        obtain ⟨y0, t0, s0, q0, -⟩ := hp_gSi (z := ((-9) + 0)) gS rfl
        cases s0
        exact r0 h' y0 (by omega) a1 a2 a3
    cases hp
theorem wt2_k : hp_chk 257 0 3 [(0, 0, 29), (1, (-2147483648), (-1)), (2, 0, 30)] [((-1), [(0, (-1)), (2, 1)])] [(0, .inr (.inr (.inl (some 85)))), (1, .inl (0, [(0, 1)])), (2, .inl (0, [(1, 1)]))] [] [(17669, (0, []), (0, [(2, 1)]))] [] 4 [] [([], 3, [(0, 0, 29), (1, (-2147483648), (-1)), (2, 0, 30)], [], [], [.inl ((-9), [])], [])] = true := by decide +kernel
theorem wt2 {cst : am_K} {strs : List Nat} {Φ : am_Q → Prop} {D : Nat} {M : am_M} {h : am_H} {l : am_L} (c : hp_C cst strs D) (hM : m_P[257]? = some M) (hD : (4 : Int) ≤ (D : Int) + 1) (hy : ly_hy m_tt ly_TH h) (i w n : Int) (b0 : 0 ≤ i) (t0 : i ≤ 29) (b1 : (-2147483648) ≤ w) (t1 : w ≤ (-1)) (b2 : 0 ≤ n) (t2 : n ≤ 30) (f0 : 0 ≤ (n - i - 1)) (k0 : ly_hv cst h 17669 0 = some (n)) (l0 : hp_a l 0 85) (l1 : hp_i l 1 (i)) (l2 : hp_i l 2 (w)) (r0 : ∀ (h' : am_H) (y0 : Int32), y0.toInt = (-9) → ly_hy m_tt ly_TH h' → ly_fr cst [] h h' → h.length ≤ h'.length → Φ (some (.int y0), h', 0, 0)) : hp_F cst strs Φ D M 0 l [] h := by
  refine hp_arc c hM wt2_k hD [i, w, n] rfl hy (hp_Bc (z := i) rfl b0 t0 (hp_Bc (z := w) rfl b1 t1 (hp_Bc (z := n) rfl b2 t2 hp_Bn))) (hp_Fc (z := ((-1) + ((-1) * i + (1 * n + 0)))) rfl (by omega) hp_Fn) (hp_Kc (zi := (0 + 0)) (zv := (0 + (1 * n + 0))) k0 rfl rfl (by omega) (by omega) hp_Kn) (hp_La l0 (hp_Li (z := (0 + (1 * i + 0))) l1 rfl (by omega) (hp_Li (z := (0 + (1 * w + 0))) l2 rfl (by omega) hp_Ln))) trivial ?_ ?_
  · intro p hp ys l' st' h' hys a1 a2 a3 gZ gL gS
    cases hp
  · intro p hp ys v h' hys a1 a2 a3 gZ gS
    rcases List.mem_cons.mp hp with rfl | hp
    · obtain rfl := hp_y0 hys
      cases v with
      | none => cases gS
      | some w =>
        obtain ⟨y0, t0, s0, q0, -⟩ := hp_gSi (z := ((-9) + 0)) gS rfl
        cases s0
        exact r0 h' y0 (by omega) a1 a2 a3
    cases hp
theorem wt3_k : hp_chk 257 0 3 [(0, 0, 29), (1, 4, 2147483647), (2, 0, 30)] [((-1), [(0, (-1)), (2, 1)])] [(0, .inr (.inr (.inl (some 85)))), (1, .inl (0, [(0, 1)])), (2, .inl (0, [(1, 1)]))] [] [(17669, (0, []), (0, [(2, 1)]))] [] 4 [] [([], 3, [(0, 0, 29), (1, 4, 2147483647), (2, 0, 30)], [], [], [.inl ((-9), [])], [])] = true := by decide +kernel
theorem wt3 {cst : am_K} {strs : List Nat} {Φ : am_Q → Prop} {D : Nat} {M : am_M} {h : am_H} {l : am_L} (c : hp_C cst strs D) (hM : m_P[257]? = some M) (hD : (4 : Int) ≤ (D : Int) + 1) (hy : ly_hy m_tt ly_TH h) (i w n : Int) (b0 : 0 ≤ i) (t0 : i ≤ 29) (b1 : 4 ≤ w) (t1 : w ≤ 2147483647) (b2 : 0 ≤ n) (t2 : n ≤ 30) (f0 : 0 ≤ (n - i - 1)) (k0 : ly_hv cst h 17669 0 = some (n)) (l0 : hp_a l 0 85) (l1 : hp_i l 1 (i)) (l2 : hp_i l 2 (w)) (r0 : ∀ (h' : am_H) (y0 : Int32), y0.toInt = (-9) → ly_hy m_tt ly_TH h' → ly_fr cst [] h h' → h.length ≤ h'.length → Φ (some (.int y0), h', 0, 0)) : hp_F cst strs Φ D M 0 l [] h := by
  refine hp_arc c hM wt3_k hD [i, w, n] rfl hy (hp_Bc (z := i) rfl b0 t0 (hp_Bc (z := w) rfl b1 t1 (hp_Bc (z := n) rfl b2 t2 hp_Bn))) (hp_Fc (z := ((-1) + ((-1) * i + (1 * n + 0)))) rfl (by omega) hp_Fn) (hp_Kc (zi := (0 + 0)) (zv := (0 + (1 * n + 0))) k0 rfl rfl (by omega) (by omega) hp_Kn) (hp_La l0 (hp_Li (z := (0 + (1 * i + 0))) l1 rfl (by omega) (hp_Li (z := (0 + (1 * w + 0))) l2 rfl (by omega) hp_Ln))) trivial ?_ ?_
  · intro p hp ys l' st' h' hys a1 a2 a3 gZ gL gS
    cases hp
  · intro p hp ys v h' hys a1 a2 a3 gZ gS
    rcases List.mem_cons.mp hp with rfl | hp
    · obtain rfl := hp_y0 hys
      cases v with
      | none => cases gS
      | some w =>
        obtain ⟨y0, t0, s0, q0, -⟩ := hp_gSi (z := ((-9) + 0)) gS rfl
        cases s0
        exact r0 h' y0 (by omega) a1 a2 a3
    cases hp
theorem wt4_k : hp_chk 257 0 4 [(0, 0, 29), (1, 0, 2), (2, 0, 30), (3, (-1), 9)] [((-1), [(0, (-1)), (2, 1)])] [(0, .inr (.inr (.inl (some 85)))), (1, .inl (0, [(0, 1)])), (2, .inl (0, [(1, 1)]))] [] [(17669, (0, []), (0, [(2, 1)])), (18944, (0, [(0, 3), (1, 1)]), (0, [(3, 1)]))] [] 4 [] [([], 4, [(0, 0, 29), (1, 0, 2), (2, 0, 30), (3, (-1), 9)], [], [], [.inl (0, [(3, 1)])], [])] = true := by decide +kernel
theorem wt4 {cst : am_K} {strs : List Nat} {Φ : am_Q → Prop} {D : Nat} {M : am_M} {h : am_H} {l : am_L} (c : hp_C cst strs D) (hM : m_P[257]? = some M) (hD : (4 : Int) ≤ (D : Int) + 1) (hy : ly_hy m_tt ly_TH h) (i w n v : Int) (b0 : 0 ≤ i) (t0 : i ≤ 29) (b1 : 0 ≤ w) (t1 : w ≤ 2) (b2 : 0 ≤ n) (t2 : n ≤ 30) (b3 : (-1) ≤ v) (t3 : v ≤ 9) (f0 : 0 ≤ (n - i - 1)) (k0 : ly_hv cst h 17669 0 = some (n)) (k1 : ly_hv cst h 18944 (3 * i + w) = some (v)) (l0 : hp_a l 0 85) (l1 : hp_i l 1 (i)) (l2 : hp_i l 2 (w)) (r0 : ∀ (h' : am_H) (y0 : Int32), y0.toInt = (v) → ly_hy m_tt ly_TH h' → ly_fr cst [] h h' → h.length ≤ h'.length → Φ (some (.int y0), h', 0, 0)) : hp_F cst strs Φ D M 0 l [] h := by
  refine hp_arc c hM wt4_k hD [i, w, n, v] rfl hy (hp_Bc (z := i) rfl b0 t0 (hp_Bc (z := w) rfl b1 t1 (hp_Bc (z := n) rfl b2 t2 (hp_Bc (z := v) rfl b3 t3 hp_Bn)))) (hp_Fc (z := ((-1) + ((-1) * i + (1 * n + 0)))) rfl (by omega) hp_Fn) (hp_Kc (zi := (0 + 0)) (zv := (0 + (1 * n + 0))) k0 rfl rfl (by omega) (by omega) (hp_Kc (zi := (0 + (3 * i + (1 * w + 0)))) (zv := (0 + (1 * v + 0))) k1 rfl rfl (by omega) (by omega) hp_Kn)) (hp_La l0 (hp_Li (z := (0 + (1 * i + 0))) l1 rfl (by omega) (hp_Li (z := (0 + (1 * w + 0))) l2 rfl (by omega) hp_Ln))) trivial ?_ ?_
  · intro p hp ys l' st' h' hys a1 a2 a3 gZ gL gS
    cases hp
  · intro p hp ys v h' hys a1 a2 a3 gZ gS
    rcases List.mem_cons.mp hp with rfl | hp
    · obtain rfl := hp_y0 hys
      cases v with
      | none => cases gS
      | some w =>
        obtain ⟨y0, t0, s0, q0, -⟩ := hp_gSi (z := (0 + (1 * v + 0))) gS rfl
        cases s0
        exact r0 h' y0 (by omega) a1 a2 a3
    cases hp
theorem wu0_k : hq_chk [258] 257 0 2 [(0, 0, 29), (1, 0, 30)] [((-1), [(0, (-1)), (1, 1)])] [(0, .inr (.inr (.inl (some 85)))), (1, .inl (0, [(0, 1)])), (2, .inl (3, []))] [] [(17669, (0, []), (0, [(1, 1)])), (18944, (0, [(0, 3)]), ((-1), [])), (18944, (1, [(0, 3)]), ((-1), [])), (18944, (2, [(0, 3)]), ((-1), []))] [] 5 [] [([], 2, [(0, 0, 29), (1, 0, 30)], [], [], [.inl (0, [])], [])] = true := by decide +kernel
theorem wu0 {cst : am_K} {strs : List Nat} {Φ : am_Q → Prop} {D : Nat} {M : am_M} {h : am_H} {l : am_L} (c : hp_C cst strs D) (hM : m_P[257]? = some M) (hD : (5 : Int) ≤ (D : Int) + 1) (hy : ly_hy m_tt ly_TH h) (i n : Int) (b0 : 0 ≤ i) (t0 : i ≤ 29) (b1 : 0 ≤ n) (t1 : n ≤ 30) (f0 : 0 ≤ (n - i - 1)) (k0 : ly_hv cst h 17669 0 = some (n)) (k1 : ly_hv cst h 18944 (3 * i) = some (-1)) (k2 : ly_hv cst h 18944 (3 * i + 1) = some (-1)) (k3 : ly_hv cst h 18944 (3 * i + 2) = some (-1)) (l0 : hp_a l 0 85) (l1 : hp_i l 1 (i)) (l2 : hp_i l 2 3) (r0 : ∀ (h' : am_H) (y0 : Int32), y0.toInt = 0 → ly_hy m_tt ly_TH h' → ly_fr cst [] h h' → h.length ≤ h'.length → Φ (some (.int y0), h', 0, 0)) : hp_F cst strs Φ D M 0 l [] h := by
  refine hq_arc c hM wu0_k hD [i, n] rfl hy (hp_Bc (z := i) rfl b0 t0 (hp_Bc (z := n) rfl b1 t1 hp_Bn)) (hp_Fc (z := ((-1) + ((-1) * i + (1 * n + 0)))) rfl (by omega) hp_Fn) (hp_Kc (zi := (0 + 0)) (zv := (0 + (1 * n + 0))) k0 rfl rfl (by omega) (by omega) (hp_Kc (zi := (0 + (3 * i + 0))) (zv := ((-1) + 0)) k1 rfl rfl (by omega) (by omega) (hp_Kc (zi := (1 + (3 * i + 0))) (zv := ((-1) + 0)) k2 rfl rfl (by omega) (by omega) (hp_Kc (zi := (2 + (3 * i + 0))) (zv := ((-1) + 0)) k3 rfl rfl (by omega) (by omega) hp_Kn)))) (hp_La l0 (hp_Li (z := (0 + (1 * i + 0))) l1 rfl (by omega) (hp_Li (z := (3 + 0)) l2 rfl (by omega) hp_Ln))) trivial ?_ ?_
  · intro p hp ys l' st' h' hys a1 a2 a3 gZ gL gS
    cases hp
  · intro p hp ys v h' hys a1 a2 a3 gZ gS
    rcases List.mem_cons.mp hp with rfl | hp
    · obtain rfl := hp_y0 hys
      cases v with
      | none => cases gS
      | some w =>
        obtain ⟨y0, t0, s0, q0, -⟩ := hp_gSi (z := (0 + 0)) gS rfl
        cases s0
        exact r0 h' y0 (by omega) a1 a2 a3
    cases hp
theorem wu1_k : hq_chk [258] 257 0 4 [(0, 0, 29), (1, 0, 30), (2, 0, 9), (3, (-2147483648), 2147483647)] [((-1), [(0, (-1)), (1, 1)])] [(0, .inr (.inr (.inl (some 85)))), (1, .inl (0, [(0, 1)])), (2, .inl (3, []))] [] [(17669, (0, []), (0, [(1, 1)])), (18944, (0, [(0, 3)]), (0, [(2, 1)])), (18944, (1, [(0, 3)]), ((-1), [])), (18944, (2, [(0, 3)]), ((-1), [])), (18176, (0, [(2, 1)]), (0, [(3, 1)]))] [] 5 [] [([], 4, [(0, 0, 29), (1, 0, 30), (2, 0, 9), (3, (-2147483648), 2147483647)], [], [], [.inl (0, [])], [])] = true := by decide +kernel
theorem wu1 {cst : am_K} {strs : List Nat} {Φ : am_Q → Prop} {D : Nat} {M : am_M} {h : am_H} {l : am_L} (c : hp_C cst strs D) (hM : m_P[257]? = some M) (hD : (5 : Int) ≤ (D : Int) + 1) (hy : ly_hy m_tt ly_TH h) (i n x u : Int) (b0 : 0 ≤ i) (t0 : i ≤ 29) (b1 : 0 ≤ n) (t1 : n ≤ 30) (b2 : 0 ≤ x) (t2 : x ≤ 9) (b3 : (-2147483648) ≤ u) (t3 : u ≤ 2147483647) (f0 : 0 ≤ (n - i - 1)) (k0 : ly_hv cst h 17669 0 = some (n)) (k1 : ly_hv cst h 18944 (3 * i) = some (x)) (k2 : ly_hv cst h 18944 (3 * i + 1) = some (-1)) (k3 : ly_hv cst h 18944 (3 * i + 2) = some (-1)) (k4 : ly_hv cst h 18176 (x) = some (u)) (l0 : hp_a l 0 85) (l1 : hp_i l 1 (i)) (l2 : hp_i l 2 3) (r0 : ∀ (h' : am_H) (y0 : Int32), y0.toInt = 0 → ly_hy m_tt ly_TH h' → ly_fr cst [] h h' → h.length ≤ h'.length → Φ (some (.int y0), h', 0, 0)) : hp_F cst strs Φ D M 0 l [] h := by
  refine hq_arc c hM wu1_k hD [i, n, x, u] rfl hy (hp_Bc (z := i) rfl b0 t0 (hp_Bc (z := n) rfl b1 t1 (hp_Bc (z := x) rfl b2 t2 (hp_Bc (z := u) rfl b3 t3 hp_Bn)))) (hp_Fc (z := ((-1) + ((-1) * i + (1 * n + 0)))) rfl (by omega) hp_Fn) (hp_Kc (zi := (0 + 0)) (zv := (0 + (1 * n + 0))) k0 rfl rfl (by omega) (by omega) (hp_Kc (zi := (0 + (3 * i + 0))) (zv := (0 + (1 * x + 0))) k1 rfl rfl (by omega) (by omega) (hp_Kc (zi := (1 + (3 * i + 0))) (zv := ((-1) + 0)) k2 rfl rfl (by omega) (by omega) (hp_Kc (zi := (2 + (3 * i + 0))) (zv := ((-1) + 0)) k3 rfl rfl (by omega) (by omega) (hp_Kc (zi := (0 + (1 * x + 0))) (zv := (0 + (1 * u + 0))) k4 rfl rfl (by omega) (by omega) hp_Kn))))) (hp_La l0 (hp_Li (z := (0 + (1 * i + 0))) l1 rfl (by omega) (hp_Li (z := (3 + 0)) l2 rfl (by omega) hp_Ln))) trivial ?_ ?_
  · intro p hp ys l' st' h' hys a1 a2 a3 gZ gL gS
    cases hp
  · intro p hp ys v h' hys a1 a2 a3 gZ gS
    rcases List.mem_cons.mp hp with rfl | hp
    · obtain rfl := hp_y0 hys
      cases v with
      | none => cases gS
      | some w =>
        obtain ⟨y0, t0, s0, q0, -⟩ := hp_gSi (z := (0 + 0)) gS rfl
        cases s0
        exact r0 h' y0 (by omega) a1 a2 a3
    cases hp
theorem wu2_k : hq_chk [258] 257 0 4 [(0, 0, 29), (1, 0, 30), (2, 0, 9), (3, (-2147483648), 2147483647)] [((-1), [(0, (-1)), (1, 1)])] [(0, .inr (.inr (.inl (some 85)))), (1, .inl (0, [(0, 1)])), (2, .inl (3, []))] [] [(17669, (0, []), (0, [(1, 1)])), (18944, (0, [(0, 3)]), ((-1), [])), (18944, (1, [(0, 3)]), (0, [(2, 1)])), (18944, (2, [(0, 3)]), ((-1), [])), (18176, (10, [(2, 1)]), (0, [(3, 1)]))] [] 5 [] [([], 4, [(0, 0, 29), (1, 0, 30), (2, 0, 9), (3, (-2147483648), 2147483647)], [], [], [.inl (0, [])], [])] = true := by decide +kernel
theorem wu2 {cst : am_K} {strs : List Nat} {Φ : am_Q → Prop} {D : Nat} {M : am_M} {h : am_H} {l : am_L} (c : hp_C cst strs D) (hM : m_P[257]? = some M) (hD : (5 : Int) ≤ (D : Int) + 1) (hy : ly_hy m_tt ly_TH h) (i n y u : Int) (b0 : 0 ≤ i) (t0 : i ≤ 29) (b1 : 0 ≤ n) (t1 : n ≤ 30) (b2 : 0 ≤ y) (t2 : y ≤ 9) (b3 : (-2147483648) ≤ u) (t3 : u ≤ 2147483647) (f0 : 0 ≤ (n - i - 1)) (k0 : ly_hv cst h 17669 0 = some (n)) (k1 : ly_hv cst h 18944 (3 * i) = some (-1)) (k2 : ly_hv cst h 18944 (3 * i + 1) = some (y)) (k3 : ly_hv cst h 18944 (3 * i + 2) = some (-1)) (k4 : ly_hv cst h 18176 (y + 10) = some (u)) (l0 : hp_a l 0 85) (l1 : hp_i l 1 (i)) (l2 : hp_i l 2 3) (r0 : ∀ (h' : am_H) (y0 : Int32), y0.toInt = 0 → ly_hy m_tt ly_TH h' → ly_fr cst [] h h' → h.length ≤ h'.length → Φ (some (.int y0), h', 0, 0)) : hp_F cst strs Φ D M 0 l [] h := by
  refine hq_arc c hM wu2_k hD [i, n, y, u] rfl hy (hp_Bc (z := i) rfl b0 t0 (hp_Bc (z := n) rfl b1 t1 (hp_Bc (z := y) rfl b2 t2 (hp_Bc (z := u) rfl b3 t3 hp_Bn)))) (hp_Fc (z := ((-1) + ((-1) * i + (1 * n + 0)))) rfl (by omega) hp_Fn) (hp_Kc (zi := (0 + 0)) (zv := (0 + (1 * n + 0))) k0 rfl rfl (by omega) (by omega) (hp_Kc (zi := (0 + (3 * i + 0))) (zv := ((-1) + 0)) k1 rfl rfl (by omega) (by omega) (hp_Kc (zi := (1 + (3 * i + 0))) (zv := (0 + (1 * y + 0))) k2 rfl rfl (by omega) (by omega) (hp_Kc (zi := (2 + (3 * i + 0))) (zv := ((-1) + 0)) k3 rfl rfl (by omega) (by omega) (hp_Kc (zi := (10 + (1 * y + 0))) (zv := (0 + (1 * u + 0))) k4 rfl rfl (by omega) (by omega) hp_Kn))))) (hp_La l0 (hp_Li (z := (0 + (1 * i + 0))) l1 rfl (by omega) (hp_Li (z := (3 + 0)) l2 rfl (by omega) hp_Ln))) trivial ?_ ?_
  · intro p hp ys l' st' h' hys a1 a2 a3 gZ gL gS
    cases hp
  · intro p hp ys v h' hys a1 a2 a3 gZ gS
    rcases List.mem_cons.mp hp with rfl | hp
    · obtain rfl := hp_y0 hys
      cases v with
      | none => cases gS
      | some w =>
        obtain ⟨y0, t0, s0, q0, -⟩ := hp_gSi (z := (0 + 0)) gS rfl
        cases s0
        exact r0 h' y0 (by omega) a1 a2 a3
    cases hp
theorem wu3_k : hq_chk [258] 257 0 4 [(0, 0, 29), (1, 0, 30), (2, 0, 9), (3, (-2147483648), 2147483647)] [((-1), [(0, (-1)), (1, 1)])] [(0, .inr (.inr (.inl (some 85)))), (1, .inl (0, [(0, 1)])), (2, .inl (3, []))] [] [(17669, (0, []), (0, [(1, 1)])), (18944, (0, [(0, 3)]), ((-1), [])), (18944, (1, [(0, 3)]), ((-1), [])), (18944, (2, [(0, 3)]), (0, [(2, 1)])), (18176, (20, [(2, 1)]), (0, [(3, 1)]))] [] 5 [] [([], 4, [(0, 0, 29), (1, 0, 30), (2, 0, 9), (3, (-2147483648), 2147483647)], [], [], [.inl (0, [])], [])] = true := by decide +kernel
theorem wu3 {cst : am_K} {strs : List Nat} {Φ : am_Q → Prop} {D : Nat} {M : am_M} {h : am_H} {l : am_L} (c : hp_C cst strs D) (hM : m_P[257]? = some M) (hD : (5 : Int) ≤ (D : Int) + 1) (hy : ly_hy m_tt ly_TH h) (i n z u : Int) (b0 : 0 ≤ i) (t0 : i ≤ 29) (b1 : 0 ≤ n) (t1 : n ≤ 30) (b2 : 0 ≤ z) (t2 : z ≤ 9) (b3 : (-2147483648) ≤ u) (t3 : u ≤ 2147483647) (f0 : 0 ≤ (n - i - 1)) (k0 : ly_hv cst h 17669 0 = some (n)) (k1 : ly_hv cst h 18944 (3 * i) = some (-1)) (k2 : ly_hv cst h 18944 (3 * i + 1) = some (-1)) (k3 : ly_hv cst h 18944 (3 * i + 2) = some (z)) (k4 : ly_hv cst h 18176 (z + 20) = some (u)) (l0 : hp_a l 0 85) (l1 : hp_i l 1 (i)) (l2 : hp_i l 2 3) (r0 : ∀ (h' : am_H) (y0 : Int32), y0.toInt = 0 → ly_hy m_tt ly_TH h' → ly_fr cst [] h h' → h.length ≤ h'.length → Φ (some (.int y0), h', 0, 0)) : hp_F cst strs Φ D M 0 l [] h := by
  refine hq_arc c hM wu3_k hD [i, n, z, u] rfl hy (hp_Bc (z := i) rfl b0 t0 (hp_Bc (z := n) rfl b1 t1 (hp_Bc (z := z) rfl b2 t2 (hp_Bc (z := u) rfl b3 t3 hp_Bn)))) (hp_Fc (z := ((-1) + ((-1) * i + (1 * n + 0)))) rfl (by omega) hp_Fn) (hp_Kc (zi := (0 + 0)) (zv := (0 + (1 * n + 0))) k0 rfl rfl (by omega) (by omega) (hp_Kc (zi := (0 + (3 * i + 0))) (zv := ((-1) + 0)) k1 rfl rfl (by omega) (by omega) (hp_Kc (zi := (1 + (3 * i + 0))) (zv := ((-1) + 0)) k2 rfl rfl (by omega) (by omega) (hp_Kc (zi := (2 + (3 * i + 0))) (zv := (0 + (1 * z + 0))) k3 rfl rfl (by omega) (by omega) (hp_Kc (zi := (20 + (1 * z + 0))) (zv := (0 + (1 * u + 0))) k4 rfl rfl (by omega) (by omega) hp_Kn))))) (hp_La l0 (hp_Li (z := (0 + (1 * i + 0))) l1 rfl (by omega) (hp_Li (z := (3 + 0)) l2 rfl (by omega) hp_Ln))) trivial ?_ ?_
  · intro p hp ys l' st' h' hys a1 a2 a3 gZ gL gS
    cases hp
  · intro p hp ys v h' hys a1 a2 a3 gZ gS
    rcases List.mem_cons.mp hp with rfl | hp
    · obtain rfl := hp_y0 hys
      cases v with
      | none => cases gS
      | some w =>
        obtain ⟨y0, t0, s0, q0, -⟩ := hp_gSi (z := (0 + 0)) gS rfl
        cases s0
        exact r0 h' y0 (by omega) a1 a2 a3
    cases hp
theorem wu4e_k : hq_chk [258] 257 0 5 [(0, 0, 29), (1, 0, 30), (2, 0, 9), (3, 0, 9), (4, (-2147483648), 2147483647)] [((-1), [(0, (-1)), (1, 1)])] [(0, .inr (.inr (.inl (some 85)))), (1, .inl (0, [(0, 1)])), (2, .inl (3, []))] [] [(17669, (0, []), (0, [(1, 1)])), (18944, (0, [(0, 3)]), (0, [(2, 1)])), (18944, (1, [(0, 3)]), (0, [(3, 1)])), (18944, (2, [(0, 3)]), ((-1), [])), (18176, (0, [(2, 1)]), (0, [(4, 1)])), (18176, (10, [(3, 1)]), (0, [(4, 1)]))] [] 5 [] [([], 5, [(0, 0, 29), (1, 0, 30), (2, 0, 9), (3, 0, 9), (4, (-2147483648), 2147483647)], [], [], [.inl (1, [])], [])] = true := by decide +kernel
theorem wu4e {cst : am_K} {strs : List Nat} {Φ : am_Q → Prop} {D : Nat} {M : am_M} {h : am_H} {l : am_L} (c : hp_C cst strs D) (hM : m_P[257]? = some M) (hD : (5 : Int) ≤ (D : Int) + 1) (hy : ly_hy m_tt ly_TH h) (i n x y u : Int) (b0 : 0 ≤ i) (t0 : i ≤ 29) (b1 : 0 ≤ n) (t1 : n ≤ 30) (b2 : 0 ≤ x) (t2 : x ≤ 9) (b3 : 0 ≤ y) (t3 : y ≤ 9) (b4 : (-2147483648) ≤ u) (t4 : u ≤ 2147483647) (f0 : 0 ≤ (n - i - 1)) (k0 : ly_hv cst h 17669 0 = some (n)) (k1 : ly_hv cst h 18944 (3 * i) = some (x)) (k2 : ly_hv cst h 18944 (3 * i + 1) = some (y)) (k3 : ly_hv cst h 18944 (3 * i + 2) = some (-1)) (k4 : ly_hv cst h 18176 (x) = some (u)) (k5 : ly_hv cst h 18176 (y + 10) = some (u)) (l0 : hp_a l 0 85) (l1 : hp_i l 1 (i)) (l2 : hp_i l 2 3) (r0 : ∀ (h' : am_H) (y0 : Int32), y0.toInt = 1 → ly_hy m_tt ly_TH h' → ly_fr cst [] h h' → h.length ≤ h'.length → Φ (some (.int y0), h', 0, 0)) : hp_F cst strs Φ D M 0 l [] h := by
  refine hq_arc c hM wu4e_k hD [i, n, x, y, u] rfl hy (hp_Bc (z := i) rfl b0 t0 (hp_Bc (z := n) rfl b1 t1 (hp_Bc (z := x) rfl b2 t2 (hp_Bc (z := y) rfl b3 t3 (hp_Bc (z := u) rfl b4 t4 hp_Bn))))) (hp_Fc (z := ((-1) + ((-1) * i + (1 * n + 0)))) rfl (by omega) hp_Fn) (hp_Kc (zi := (0 + 0)) (zv := (0 + (1 * n + 0))) k0 rfl rfl (by omega) (by omega) (hp_Kc (zi := (0 + (3 * i + 0))) (zv := (0 + (1 * x + 0))) k1 rfl rfl (by omega) (by omega) (hp_Kc (zi := (1 + (3 * i + 0))) (zv := (0 + (1 * y + 0))) k2 rfl rfl (by omega) (by omega) (hp_Kc (zi := (2 + (3 * i + 0))) (zv := ((-1) + 0)) k3 rfl rfl (by omega) (by omega) (hp_Kc (zi := (0 + (1 * x + 0))) (zv := (0 + (1 * u + 0))) k4 rfl rfl (by omega) (by omega) (hp_Kc (zi := (10 + (1 * y + 0))) (zv := (0 + (1 * u + 0))) k5 rfl rfl (by omega) (by omega) hp_Kn)))))) (hp_La l0 (hp_Li (z := (0 + (1 * i + 0))) l1 rfl (by omega) (hp_Li (z := (3 + 0)) l2 rfl (by omega) hp_Ln))) trivial ?_ ?_
  · intro p hp ys l' st' h' hys a1 a2 a3 gZ gL gS
    cases hp
  · intro p hp ys v h' hys a1 a2 a3 gZ gS
    rcases List.mem_cons.mp hp with rfl | hp
    · obtain rfl := hp_y0 hys
      cases v with
      | none => cases gS
      | some w =>
        obtain ⟨y0, t0, s0, q0, -⟩ := hp_gSi (z := (1 + 0)) gS rfl
        cases s0
        exact r0 h' y0 (by omega) a1 a2 a3
    cases hp
theorem wu4n_k : hq_chk [258] 257 0 6 [(0, 0, 29), (1, 0, 30), (2, 0, 9), (3, 0, 9), (4, (-2147483648), 2147483647), (5, (-2147483648), 2147483647)] [((-1), [(0, (-1)), (1, 1)])] [(0, .inr (.inr (.inl (some 85)))), (1, .inl (0, [(0, 1)])), (2, .inl (3, []))] [] [(17669, (0, []), (0, [(1, 1)])), (18944, (0, [(0, 3)]), (0, [(2, 1)])), (18944, (1, [(0, 3)]), (0, [(3, 1)])), (18944, (2, [(0, 3)]), ((-1), [])), (18176, (0, [(2, 1)]), (0, [(4, 1)])), (18176, (10, [(3, 1)]), (0, [(5, 1)])), (61000, (0, [(4, (-1)), (5, 1)]), (1, []))] [] 5 [] [([], 6, [(0, 0, 29), (1, 0, 30), (2, 0, 9), (3, 0, 9), (4, (-2147483648), 2147483647), (5, (-2147483648), 2147483647)], [], [], [.inl (0, [])], [])] = true := by decide +kernel
theorem wu4n {cst : am_K} {strs : List Nat} {Φ : am_Q → Prop} {D : Nat} {M : am_M} {h : am_H} {l : am_L} (c : hp_C cst strs D) (hM : m_P[257]? = some M) (hD : (5 : Int) ≤ (D : Int) + 1) (hy : ly_hy m_tt ly_TH h) (i n x y u v : Int) (b0 : 0 ≤ i) (t0 : i ≤ 29) (b1 : 0 ≤ n) (t1 : n ≤ 30) (b2 : 0 ≤ x) (t2 : x ≤ 9) (b3 : 0 ≤ y) (t3 : y ≤ 9) (b4 : (-2147483648) ≤ u) (t4 : u ≤ 2147483647) (b5 : (-2147483648) ≤ v) (t5 : v ≤ 2147483647) (f0 : 0 ≤ (n - i - 1)) (k0 : ly_hv cst h 17669 0 = some (n)) (k1 : ly_hv cst h 18944 (3 * i) = some (x)) (k2 : ly_hv cst h 18944 (3 * i + 1) = some (y)) (k3 : ly_hv cst h 18944 (3 * i + 2) = some (-1)) (k4 : ly_hv cst h 18176 (x) = some (u)) (k5 : ly_hv cst h 18176 (y + 10) = some (v)) (k6 : ly_hv cst h 61000 (v - u) = some 1) (l0 : hp_a l 0 85) (l1 : hp_i l 1 (i)) (l2 : hp_i l 2 3) (r0 : ∀ (h' : am_H) (y0 : Int32), y0.toInt = 0 → ly_hy m_tt ly_TH h' → ly_fr cst [] h h' → h.length ≤ h'.length → Φ (some (.int y0), h', 0, 0)) : hp_F cst strs Φ D M 0 l [] h := by
  refine hq_arc c hM wu4n_k hD [i, n, x, y, u, v] rfl hy (hp_Bc (z := i) rfl b0 t0 (hp_Bc (z := n) rfl b1 t1 (hp_Bc (z := x) rfl b2 t2 (hp_Bc (z := y) rfl b3 t3 (hp_Bc (z := u) rfl b4 t4 (hp_Bc (z := v) rfl b5 t5 hp_Bn)))))) (hp_Fc (z := ((-1) + ((-1) * i + (1 * n + 0)))) rfl (by omega) hp_Fn) (hp_Kc (zi := (0 + 0)) (zv := (0 + (1 * n + 0))) k0 rfl rfl (by omega) (by omega) (hp_Kc (zi := (0 + (3 * i + 0))) (zv := (0 + (1 * x + 0))) k1 rfl rfl (by omega) (by omega) (hp_Kc (zi := (1 + (3 * i + 0))) (zv := (0 + (1 * y + 0))) k2 rfl rfl (by omega) (by omega) (hp_Kc (zi := (2 + (3 * i + 0))) (zv := ((-1) + 0)) k3 rfl rfl (by omega) (by omega) (hp_Kc (zi := (0 + (1 * x + 0))) (zv := (0 + (1 * u + 0))) k4 rfl rfl (by omega) (by omega) (hp_Kc (zi := (10 + (1 * y + 0))) (zv := (0 + (1 * v + 0))) k5 rfl rfl (by omega) (by omega) (hp_Kc (zi := (0 + ((-1) * u + (1 * v + 0)))) (zv := (1 + 0)) k6 rfl rfl (by omega) (by omega) hp_Kn))))))) (hp_La l0 (hp_Li (z := (0 + (1 * i + 0))) l1 rfl (by omega) (hp_Li (z := (3 + 0)) l2 rfl (by omega) hp_Ln))) trivial ?_ ?_
  · intro p hp ys l' st' h' hys a1 a2 a3 gZ gL gS
    cases hp
  · intro p hp ys v h' hys a1 a2 a3 gZ gS
    rcases List.mem_cons.mp hp with rfl | hp
    · obtain rfl := hp_y0 hys
      cases v with
      | none => cases gS
      | some w =>
        obtain ⟨y0, t0, s0, q0, -⟩ := hp_gSi (z := (0 + 0)) gS rfl
        cases s0
        exact r0 h' y0 (by omega) a1 a2 a3
    cases hp
theorem wu5e_k : hq_chk [258] 257 0 5 [(0, 0, 29), (1, 0, 30), (2, 0, 9), (3, 0, 9), (4, (-2147483648), 2147483647)] [((-1), [(0, (-1)), (1, 1)])] [(0, .inr (.inr (.inl (some 85)))), (1, .inl (0, [(0, 1)])), (2, .inl (3, []))] [] [(17669, (0, []), (0, [(1, 1)])), (18944, (0, [(0, 3)]), (0, [(2, 1)])), (18944, (1, [(0, 3)]), ((-1), [])), (18944, (2, [(0, 3)]), (0, [(3, 1)])), (18176, (0, [(2, 1)]), (0, [(4, 1)])), (18176, (20, [(3, 1)]), (0, [(4, 1)]))] [] 5 [] [([], 5, [(0, 0, 29), (1, 0, 30), (2, 0, 9), (3, 0, 9), (4, (-2147483648), 2147483647)], [], [], [.inl (1, [])], [])] = true := by decide +kernel
theorem wu5e {cst : am_K} {strs : List Nat} {Φ : am_Q → Prop} {D : Nat} {M : am_M} {h : am_H} {l : am_L} (c : hp_C cst strs D) (hM : m_P[257]? = some M) (hD : (5 : Int) ≤ (D : Int) + 1) (hy : ly_hy m_tt ly_TH h) (i n x z u : Int) (b0 : 0 ≤ i) (t0 : i ≤ 29) (b1 : 0 ≤ n) (t1 : n ≤ 30) (b2 : 0 ≤ x) (t2 : x ≤ 9) (b3 : 0 ≤ z) (t3 : z ≤ 9) (b4 : (-2147483648) ≤ u) (t4 : u ≤ 2147483647) (f0 : 0 ≤ (n - i - 1)) (k0 : ly_hv cst h 17669 0 = some (n)) (k1 : ly_hv cst h 18944 (3 * i) = some (x)) (k2 : ly_hv cst h 18944 (3 * i + 1) = some (-1)) (k3 : ly_hv cst h 18944 (3 * i + 2) = some (z)) (k4 : ly_hv cst h 18176 (x) = some (u)) (k5 : ly_hv cst h 18176 (z + 20) = some (u)) (l0 : hp_a l 0 85) (l1 : hp_i l 1 (i)) (l2 : hp_i l 2 3) (r0 : ∀ (h' : am_H) (y0 : Int32), y0.toInt = 1 → ly_hy m_tt ly_TH h' → ly_fr cst [] h h' → h.length ≤ h'.length → Φ (some (.int y0), h', 0, 0)) : hp_F cst strs Φ D M 0 l [] h := by
  refine hq_arc c hM wu5e_k hD [i, n, x, z, u] rfl hy (hp_Bc (z := i) rfl b0 t0 (hp_Bc (z := n) rfl b1 t1 (hp_Bc (z := x) rfl b2 t2 (hp_Bc (z := z) rfl b3 t3 (hp_Bc (z := u) rfl b4 t4 hp_Bn))))) (hp_Fc (z := ((-1) + ((-1) * i + (1 * n + 0)))) rfl (by omega) hp_Fn) (hp_Kc (zi := (0 + 0)) (zv := (0 + (1 * n + 0))) k0 rfl rfl (by omega) (by omega) (hp_Kc (zi := (0 + (3 * i + 0))) (zv := (0 + (1 * x + 0))) k1 rfl rfl (by omega) (by omega) (hp_Kc (zi := (1 + (3 * i + 0))) (zv := ((-1) + 0)) k2 rfl rfl (by omega) (by omega) (hp_Kc (zi := (2 + (3 * i + 0))) (zv := (0 + (1 * z + 0))) k3 rfl rfl (by omega) (by omega) (hp_Kc (zi := (0 + (1 * x + 0))) (zv := (0 + (1 * u + 0))) k4 rfl rfl (by omega) (by omega) (hp_Kc (zi := (20 + (1 * z + 0))) (zv := (0 + (1 * u + 0))) k5 rfl rfl (by omega) (by omega) hp_Kn)))))) (hp_La l0 (hp_Li (z := (0 + (1 * i + 0))) l1 rfl (by omega) (hp_Li (z := (3 + 0)) l2 rfl (by omega) hp_Ln))) trivial ?_ ?_
  · intro p hp ys l' st' h' hys a1 a2 a3 gZ gL gS
    cases hp
  · intro p hp ys v h' hys a1 a2 a3 gZ gS
    rcases List.mem_cons.mp hp with rfl | hp
    · obtain rfl := hp_y0 hys
      cases v with
      | none => cases gS
      | some w =>
        obtain ⟨y0, t0, s0, q0, -⟩ := hp_gSi (z := (1 + 0)) gS rfl
        cases s0
        exact r0 h' y0 (by omega) a1 a2 a3
    cases hp
theorem wu5n_k : hq_chk [258] 257 0 6 [(0, 0, 29), (1, 0, 30), (2, 0, 9), (3, 0, 9), (4, (-2147483648), 2147483647), (5, (-2147483648), 2147483647)] [((-1), [(0, (-1)), (1, 1)])] [(0, .inr (.inr (.inl (some 85)))), (1, .inl (0, [(0, 1)])), (2, .inl (3, []))] [] [(17669, (0, []), (0, [(1, 1)])), (18944, (0, [(0, 3)]), (0, [(2, 1)])), (18944, (1, [(0, 3)]), ((-1), [])), (18944, (2, [(0, 3)]), (0, [(3, 1)])), (18176, (0, [(2, 1)]), (0, [(4, 1)])), (18176, (20, [(3, 1)]), (0, [(5, 1)])), (61000, (0, [(4, (-1)), (5, 1)]), (1, []))] [] 5 [] [([], 6, [(0, 0, 29), (1, 0, 30), (2, 0, 9), (3, 0, 9), (4, (-2147483648), 2147483647), (5, (-2147483648), 2147483647)], [], [], [.inl (0, [])], [])] = true := by decide +kernel
theorem wu5n {cst : am_K} {strs : List Nat} {Φ : am_Q → Prop} {D : Nat} {M : am_M} {h : am_H} {l : am_L} (c : hp_C cst strs D) (hM : m_P[257]? = some M) (hD : (5 : Int) ≤ (D : Int) + 1) (hy : ly_hy m_tt ly_TH h) (i n x z u v : Int) (b0 : 0 ≤ i) (t0 : i ≤ 29) (b1 : 0 ≤ n) (t1 : n ≤ 30) (b2 : 0 ≤ x) (t2 : x ≤ 9) (b3 : 0 ≤ z) (t3 : z ≤ 9) (b4 : (-2147483648) ≤ u) (t4 : u ≤ 2147483647) (b5 : (-2147483648) ≤ v) (t5 : v ≤ 2147483647) (f0 : 0 ≤ (n - i - 1)) (k0 : ly_hv cst h 17669 0 = some (n)) (k1 : ly_hv cst h 18944 (3 * i) = some (x)) (k2 : ly_hv cst h 18944 (3 * i + 1) = some (-1)) (k3 : ly_hv cst h 18944 (3 * i + 2) = some (z)) (k4 : ly_hv cst h 18176 (x) = some (u)) (k5 : ly_hv cst h 18176 (z + 20) = some (v)) (k6 : ly_hv cst h 61000 (v - u) = some 1) (l0 : hp_a l 0 85) (l1 : hp_i l 1 (i)) (l2 : hp_i l 2 3) (r0 : ∀ (h' : am_H) (y0 : Int32), y0.toInt = 0 → ly_hy m_tt ly_TH h' → ly_fr cst [] h h' → h.length ≤ h'.length → Φ (some (.int y0), h', 0, 0)) : hp_F cst strs Φ D M 0 l [] h := by
  refine hq_arc c hM wu5n_k hD [i, n, x, z, u, v] rfl hy (hp_Bc (z := i) rfl b0 t0 (hp_Bc (z := n) rfl b1 t1 (hp_Bc (z := x) rfl b2 t2 (hp_Bc (z := z) rfl b3 t3 (hp_Bc (z := u) rfl b4 t4 (hp_Bc (z := v) rfl b5 t5 hp_Bn)))))) (hp_Fc (z := ((-1) + ((-1) * i + (1 * n + 0)))) rfl (by omega) hp_Fn) (hp_Kc (zi := (0 + 0)) (zv := (0 + (1 * n + 0))) k0 rfl rfl (by omega) (by omega) (hp_Kc (zi := (0 + (3 * i + 0))) (zv := (0 + (1 * x + 0))) k1 rfl rfl (by omega) (by omega) (hp_Kc (zi := (1 + (3 * i + 0))) (zv := ((-1) + 0)) k2 rfl rfl (by omega) (by omega) (hp_Kc (zi := (2 + (3 * i + 0))) (zv := (0 + (1 * z + 0))) k3 rfl rfl (by omega) (by omega) (hp_Kc (zi := (0 + (1 * x + 0))) (zv := (0 + (1 * u + 0))) k4 rfl rfl (by omega) (by omega) (hp_Kc (zi := (20 + (1 * z + 0))) (zv := (0 + (1 * v + 0))) k5 rfl rfl (by omega) (by omega) (hp_Kc (zi := (0 + ((-1) * u + (1 * v + 0)))) (zv := (1 + 0)) k6 rfl rfl (by omega) (by omega) hp_Kn))))))) (hp_La l0 (hp_Li (z := (0 + (1 * i + 0))) l1 rfl (by omega) (hp_Li (z := (3 + 0)) l2 rfl (by omega) hp_Ln))) trivial ?_ ?_
  · intro p hp ys l' st' h' hys a1 a2 a3 gZ gL gS
    cases hp
  · intro p hp ys v h' hys a1 a2 a3 gZ gS
    rcases List.mem_cons.mp hp with rfl | hp
    · obtain rfl := hp_y0 hys
      cases v with
      | none => cases gS
      | some w =>
        obtain ⟨y0, t0, s0, q0, -⟩ := hp_gSi (z := (0 + 0)) gS rfl
        cases s0
        exact r0 h' y0 (by omega) a1 a2 a3
    cases hp
theorem wu6e_k : hq_chk [258] 257 0 5 [(0, 0, 29), (1, 0, 30), (2, 0, 9), (3, 0, 9), (4, (-2147483648), 2147483647)] [((-1), [(0, (-1)), (1, 1)])] [(0, .inr (.inr (.inl (some 85)))), (1, .inl (0, [(0, 1)])), (2, .inl (3, []))] [] [(17669, (0, []), (0, [(1, 1)])), (18944, (0, [(0, 3)]), ((-1), [])), (18944, (1, [(0, 3)]), (0, [(2, 1)])), (18944, (2, [(0, 3)]), (0, [(3, 1)])), (18176, (10, [(2, 1)]), (0, [(4, 1)])), (18176, (20, [(3, 1)]), (0, [(4, 1)]))] [] 5 [] [([], 5, [(0, 0, 29), (1, 0, 30), (2, 0, 9), (3, 0, 9), (4, (-2147483648), 2147483647)], [], [], [.inl (1, [])], [])] = true := by decide +kernel
theorem wu6e {cst : am_K} {strs : List Nat} {Φ : am_Q → Prop} {D : Nat} {M : am_M} {h : am_H} {l : am_L} (c : hp_C cst strs D) (hM : m_P[257]? = some M) (hD : (5 : Int) ≤ (D : Int) + 1) (hy : ly_hy m_tt ly_TH h) (i n y z u : Int) (b0 : 0 ≤ i) (t0 : i ≤ 29) (b1 : 0 ≤ n) (t1 : n ≤ 30) (b2 : 0 ≤ y) (t2 : y ≤ 9) (b3 : 0 ≤ z) (t3 : z ≤ 9) (b4 : (-2147483648) ≤ u) (t4 : u ≤ 2147483647) (f0 : 0 ≤ (n - i - 1)) (k0 : ly_hv cst h 17669 0 = some (n)) (k1 : ly_hv cst h 18944 (3 * i) = some (-1)) (k2 : ly_hv cst h 18944 (3 * i + 1) = some (y)) (k3 : ly_hv cst h 18944 (3 * i + 2) = some (z)) (k4 : ly_hv cst h 18176 (y + 10) = some (u)) (k5 : ly_hv cst h 18176 (z + 20) = some (u)) (l0 : hp_a l 0 85) (l1 : hp_i l 1 (i)) (l2 : hp_i l 2 3) (r0 : ∀ (h' : am_H) (y0 : Int32), y0.toInt = 1 → ly_hy m_tt ly_TH h' → ly_fr cst [] h h' → h.length ≤ h'.length → Φ (some (.int y0), h', 0, 0)) : hp_F cst strs Φ D M 0 l [] h := by
  refine hq_arc c hM wu6e_k hD [i, n, y, z, u] rfl hy (hp_Bc (z := i) rfl b0 t0 (hp_Bc (z := n) rfl b1 t1 (hp_Bc (z := y) rfl b2 t2 (hp_Bc (z := z) rfl b3 t3 (hp_Bc (z := u) rfl b4 t4 hp_Bn))))) (hp_Fc (z := ((-1) + ((-1) * i + (1 * n + 0)))) rfl (by omega) hp_Fn) (hp_Kc (zi := (0 + 0)) (zv := (0 + (1 * n + 0))) k0 rfl rfl (by omega) (by omega) (hp_Kc (zi := (0 + (3 * i + 0))) (zv := ((-1) + 0)) k1 rfl rfl (by omega) (by omega) (hp_Kc (zi := (1 + (3 * i + 0))) (zv := (0 + (1 * y + 0))) k2 rfl rfl (by omega) (by omega) (hp_Kc (zi := (2 + (3 * i + 0))) (zv := (0 + (1 * z + 0))) k3 rfl rfl (by omega) (by omega) (hp_Kc (zi := (10 + (1 * y + 0))) (zv := (0 + (1 * u + 0))) k4 rfl rfl (by omega) (by omega) (hp_Kc (zi := (20 + (1 * z + 0))) (zv := (0 + (1 * u + 0))) k5 rfl rfl (by omega) (by omega) hp_Kn)))))) (hp_La l0 (hp_Li (z := (0 + (1 * i + 0))) l1 rfl (by omega) (hp_Li (z := (3 + 0)) l2 rfl (by omega) hp_Ln))) trivial ?_ ?_
  · intro p hp ys l' st' h' hys a1 a2 a3 gZ gL gS
    cases hp
  · intro p hp ys v h' hys a1 a2 a3 gZ gS
    rcases List.mem_cons.mp hp with rfl | hp
    · obtain rfl := hp_y0 hys
      cases v with
      | none => cases gS
      | some w =>
        obtain ⟨y0, t0, s0, q0, -⟩ := hp_gSi (z := (1 + 0)) gS rfl
        cases s0
        exact r0 h' y0 (by omega) a1 a2 a3
    cases hp
theorem wu6n_k : hq_chk [258] 257 0 6 [(0, 0, 29), (1, 0, 30), (2, 0, 9), (3, 0, 9), (4, (-2147483648), 2147483647), (5, (-2147483648), 2147483647)] [((-1), [(0, (-1)), (1, 1)])] [(0, .inr (.inr (.inl (some 85)))), (1, .inl (0, [(0, 1)])), (2, .inl (3, []))] [] [(17669, (0, []), (0, [(1, 1)])), (18944, (0, [(0, 3)]), ((-1), [])), (18944, (1, [(0, 3)]), (0, [(2, 1)])), (18944, (2, [(0, 3)]), (0, [(3, 1)])), (18176, (10, [(2, 1)]), (0, [(4, 1)])), (18176, (20, [(3, 1)]), (0, [(5, 1)])), (61000, (0, [(4, (-1)), (5, 1)]), (1, []))] [] 5 [] [([], 6, [(0, 0, 29), (1, 0, 30), (2, 0, 9), (3, 0, 9), (4, (-2147483648), 2147483647), (5, (-2147483648), 2147483647)], [], [], [.inl (0, [])], [])] = true := by decide +kernel
theorem wu6n {cst : am_K} {strs : List Nat} {Φ : am_Q → Prop} {D : Nat} {M : am_M} {h : am_H} {l : am_L} (c : hp_C cst strs D) (hM : m_P[257]? = some M) (hD : (5 : Int) ≤ (D : Int) + 1) (hy : ly_hy m_tt ly_TH h) (i n y z u v : Int) (b0 : 0 ≤ i) (t0 : i ≤ 29) (b1 : 0 ≤ n) (t1 : n ≤ 30) (b2 : 0 ≤ y) (t2 : y ≤ 9) (b3 : 0 ≤ z) (t3 : z ≤ 9) (b4 : (-2147483648) ≤ u) (t4 : u ≤ 2147483647) (b5 : (-2147483648) ≤ v) (t5 : v ≤ 2147483647) (f0 : 0 ≤ (n - i - 1)) (k0 : ly_hv cst h 17669 0 = some (n)) (k1 : ly_hv cst h 18944 (3 * i) = some (-1)) (k2 : ly_hv cst h 18944 (3 * i + 1) = some (y)) (k3 : ly_hv cst h 18944 (3 * i + 2) = some (z)) (k4 : ly_hv cst h 18176 (y + 10) = some (u)) (k5 : ly_hv cst h 18176 (z + 20) = some (v)) (k6 : ly_hv cst h 61000 (v - u) = some 1) (l0 : hp_a l 0 85) (l1 : hp_i l 1 (i)) (l2 : hp_i l 2 3) (r0 : ∀ (h' : am_H) (y0 : Int32), y0.toInt = 0 → ly_hy m_tt ly_TH h' → ly_fr cst [] h h' → h.length ≤ h'.length → Φ (some (.int y0), h', 0, 0)) : hp_F cst strs Φ D M 0 l [] h := by
  refine hq_arc c hM wu6n_k hD [i, n, y, z, u, v] rfl hy (hp_Bc (z := i) rfl b0 t0 (hp_Bc (z := n) rfl b1 t1 (hp_Bc (z := y) rfl b2 t2 (hp_Bc (z := z) rfl b3 t3 (hp_Bc (z := u) rfl b4 t4 (hp_Bc (z := v) rfl b5 t5 hp_Bn)))))) (hp_Fc (z := ((-1) + ((-1) * i + (1 * n + 0)))) rfl (by omega) hp_Fn) (hp_Kc (zi := (0 + 0)) (zv := (0 + (1 * n + 0))) k0 rfl rfl (by omega) (by omega) (hp_Kc (zi := (0 + (3 * i + 0))) (zv := ((-1) + 0)) k1 rfl rfl (by omega) (by omega) (hp_Kc (zi := (1 + (3 * i + 0))) (zv := (0 + (1 * y + 0))) k2 rfl rfl (by omega) (by omega) (hp_Kc (zi := (2 + (3 * i + 0))) (zv := (0 + (1 * z + 0))) k3 rfl rfl (by omega) (by omega) (hp_Kc (zi := (10 + (1 * y + 0))) (zv := (0 + (1 * u + 0))) k4 rfl rfl (by omega) (by omega) (hp_Kc (zi := (20 + (1 * z + 0))) (zv := (0 + (1 * v + 0))) k5 rfl rfl (by omega) (by omega) (hp_Kc (zi := (0 + ((-1) * u + (1 * v + 0)))) (zv := (1 + 0)) k6 rfl rfl (by omega) (by omega) hp_Kn))))))) (hp_La l0 (hp_Li (z := (0 + (1 * i + 0))) l1 rfl (by omega) (hp_Li (z := (3 + 0)) l2 rfl (by omega) hp_Ln))) trivial ?_ ?_
  · intro p hp ys l' st' h' hys a1 a2 a3 gZ gL gS
    cases hp
  · intro p hp ys v h' hys a1 a2 a3 gZ gS
    rcases List.mem_cons.mp hp with rfl | hp
    · obtain rfl := hp_y0 hys
      cases v with
      | none => cases gS
      | some w =>
        obtain ⟨y0, t0, s0, q0, -⟩ := hp_gSi (z := (0 + 0)) gS rfl
        cases s0
        exact r0 h' y0 (by omega) a1 a2 a3
    cases hp
theorem wu7e_k : hq_chk [258] 257 0 7 [(0, 0, 29), (1, 0, 30), (2, 0, 9), (3, 0, 9), (4, 0, 9), (5, (-2147483648), 2147483647), (6, (-2147483648), 2147483647)] [((-1), [(0, (-1)), (1, 1)])] [(0, .inr (.inr (.inl (some 85)))), (1, .inl (0, [(0, 1)])), (2, .inl (3, []))] [] [(17669, (0, []), (0, [(1, 1)])), (18944, (0, [(0, 3)]), (0, [(2, 1)])), (18944, (1, [(0, 3)]), (0, [(3, 1)])), (18944, (2, [(0, 3)]), (0, [(4, 1)])), (18176, (0, [(2, 1)]), (0, [(5, 1)])), (18176, (10, [(3, 1)]), (0, [(5, 1)])), (18176, (20, [(4, 1)]), (0, [(6, 1)]))] [] 5 [] [([], 7, [(0, 0, 29), (1, 0, 30), (2, 0, 9), (3, 0, 9), (4, 0, 9), (5, (-2147483648), 2147483647), (6, (-2147483648), 2147483647)], [], [], [.inl (1, [])], [])] = true := by decide +kernel
theorem wu7e {cst : am_K} {strs : List Nat} {Φ : am_Q → Prop} {D : Nat} {M : am_M} {h : am_H} {l : am_L} (c : hp_C cst strs D) (hM : m_P[257]? = some M) (hD : (5 : Int) ≤ (D : Int) + 1) (hy : ly_hy m_tt ly_TH h) (i n x y z u x3 : Int) (b0 : 0 ≤ i) (t0 : i ≤ 29) (b1 : 0 ≤ n) (t1 : n ≤ 30) (b2 : 0 ≤ x) (t2 : x ≤ 9) (b3 : 0 ≤ y) (t3 : y ≤ 9) (b4 : 0 ≤ z) (t4 : z ≤ 9) (b5 : (-2147483648) ≤ u) (t5 : u ≤ 2147483647) (b6 : (-2147483648) ≤ x3) (t6 : x3 ≤ 2147483647) (f0 : 0 ≤ (n - i - 1)) (k0 : ly_hv cst h 17669 0 = some (n)) (k1 : ly_hv cst h 18944 (3 * i) = some (x)) (k2 : ly_hv cst h 18944 (3 * i + 1) = some (y)) (k3 : ly_hv cst h 18944 (3 * i + 2) = some (z)) (k4 : ly_hv cst h 18176 (x) = some (u)) (k5 : ly_hv cst h 18176 (y + 10) = some (u)) (k6 : ly_hv cst h 18176 (z + 20) = some (x3)) (l0 : hp_a l 0 85) (l1 : hp_i l 1 (i)) (l2 : hp_i l 2 3) (r0 : ∀ (h' : am_H) (y0 : Int32), y0.toInt = 1 → ly_hy m_tt ly_TH h' → ly_fr cst [] h h' → h.length ≤ h'.length → Φ (some (.int y0), h', 0, 0)) : hp_F cst strs Φ D M 0 l [] h := by
  refine hq_arc c hM wu7e_k hD [i, n, x, y, z, u, x3] rfl hy (hp_Bc (z := i) rfl b0 t0 (hp_Bc (z := n) rfl b1 t1 (hp_Bc (z := x) rfl b2 t2 (hp_Bc (z := y) rfl b3 t3 (hp_Bc (z := z) rfl b4 t4 (hp_Bc (z := u) rfl b5 t5 (hp_Bc (z := x3) rfl b6 t6 hp_Bn))))))) (hp_Fc (z := ((-1) + ((-1) * i + (1 * n + 0)))) rfl (by omega) hp_Fn) (hp_Kc (zi := (0 + 0)) (zv := (0 + (1 * n + 0))) k0 rfl rfl (by omega) (by omega) (hp_Kc (zi := (0 + (3 * i + 0))) (zv := (0 + (1 * x + 0))) k1 rfl rfl (by omega) (by omega) (hp_Kc (zi := (1 + (3 * i + 0))) (zv := (0 + (1 * y + 0))) k2 rfl rfl (by omega) (by omega) (hp_Kc (zi := (2 + (3 * i + 0))) (zv := (0 + (1 * z + 0))) k3 rfl rfl (by omega) (by omega) (hp_Kc (zi := (0 + (1 * x + 0))) (zv := (0 + (1 * u + 0))) k4 rfl rfl (by omega) (by omega) (hp_Kc (zi := (10 + (1 * y + 0))) (zv := (0 + (1 * u + 0))) k5 rfl rfl (by omega) (by omega) (hp_Kc (zi := (20 + (1 * z + 0))) (zv := (0 + (1 * x3 + 0))) k6 rfl rfl (by omega) (by omega) hp_Kn))))))) (hp_La l0 (hp_Li (z := (0 + (1 * i + 0))) l1 rfl (by omega) (hp_Li (z := (3 + 0)) l2 rfl (by omega) hp_Ln))) trivial ?_ ?_
  · intro p hp ys l' st' h' hys a1 a2 a3 gZ gL gS
    cases hp
  · intro p hp ys v h' hys a1 a2 a3 gZ gS
    rcases List.mem_cons.mp hp with rfl | hp
    · obtain rfl := hp_y0 hys
      cases v with
      | none => cases gS
      | some w =>
        obtain ⟨y0, t0, s0, q0, -⟩ := hp_gSi (z := (1 + 0)) gS rfl
        cases s0
        exact r0 h' y0 (by omega) a1 a2 a3
    cases hp
theorem wu7f_k : hq_chk [258] 257 0 7 [(0, 0, 29), (1, 0, 30), (2, 0, 9), (3, 0, 9), (4, 0, 9), (5, (-2147483648), 2147483647), (6, (-2147483648), 2147483647)] [((-1), [(0, (-1)), (1, 1)])] [(0, .inr (.inr (.inl (some 85)))), (1, .inl (0, [(0, 1)])), (2, .inl (3, []))] [] [(17669, (0, []), (0, [(1, 1)])), (18944, (0, [(0, 3)]), (0, [(2, 1)])), (18944, (1, [(0, 3)]), (0, [(3, 1)])), (18944, (2, [(0, 3)]), (0, [(4, 1)])), (18176, (0, [(2, 1)]), (0, [(5, 1)])), (18176, (10, [(3, 1)]), (0, [(6, 1)])), (18176, (20, [(4, 1)]), (0, [(5, 1)])), (61000, (0, [(5, (-1)), (6, 1)]), (1, []))] [] 5 [] [([], 7, [(0, 0, 29), (1, 0, 30), (2, 0, 9), (3, 0, 9), (4, 0, 9), (5, (-2147483648), 2147483647), (6, (-2147483648), 2147483647)], [], [], [.inl (1, [])], [])] = true := by decide +kernel
theorem wu7f {cst : am_K} {strs : List Nat} {Φ : am_Q → Prop} {D : Nat} {M : am_M} {h : am_H} {l : am_L} (c : hp_C cst strs D) (hM : m_P[257]? = some M) (hD : (5 : Int) ≤ (D : Int) + 1) (hy : ly_hy m_tt ly_TH h) (i n x y z u v : Int) (b0 : 0 ≤ i) (t0 : i ≤ 29) (b1 : 0 ≤ n) (t1 : n ≤ 30) (b2 : 0 ≤ x) (t2 : x ≤ 9) (b3 : 0 ≤ y) (t3 : y ≤ 9) (b4 : 0 ≤ z) (t4 : z ≤ 9) (b5 : (-2147483648) ≤ u) (t5 : u ≤ 2147483647) (b6 : (-2147483648) ≤ v) (t6 : v ≤ 2147483647) (f0 : 0 ≤ (n - i - 1)) (k0 : ly_hv cst h 17669 0 = some (n)) (k1 : ly_hv cst h 18944 (3 * i) = some (x)) (k2 : ly_hv cst h 18944 (3 * i + 1) = some (y)) (k3 : ly_hv cst h 18944 (3 * i + 2) = some (z)) (k4 : ly_hv cst h 18176 (x) = some (u)) (k5 : ly_hv cst h 18176 (y + 10) = some (v)) (k6 : ly_hv cst h 18176 (z + 20) = some (u)) (k7 : ly_hv cst h 61000 (v - u) = some 1) (l0 : hp_a l 0 85) (l1 : hp_i l 1 (i)) (l2 : hp_i l 2 3) (r0 : ∀ (h' : am_H) (y0 : Int32), y0.toInt = 1 → ly_hy m_tt ly_TH h' → ly_fr cst [] h h' → h.length ≤ h'.length → Φ (some (.int y0), h', 0, 0)) : hp_F cst strs Φ D M 0 l [] h := by
  refine hq_arc c hM wu7f_k hD [i, n, x, y, z, u, v] rfl hy (hp_Bc (z := i) rfl b0 t0 (hp_Bc (z := n) rfl b1 t1 (hp_Bc (z := x) rfl b2 t2 (hp_Bc (z := y) rfl b3 t3 (hp_Bc (z := z) rfl b4 t4 (hp_Bc (z := u) rfl b5 t5 (hp_Bc (z := v) rfl b6 t6 hp_Bn))))))) (hp_Fc (z := ((-1) + ((-1) * i + (1 * n + 0)))) rfl (by omega) hp_Fn) (hp_Kc (zi := (0 + 0)) (zv := (0 + (1 * n + 0))) k0 rfl rfl (by omega) (by omega) (hp_Kc (zi := (0 + (3 * i + 0))) (zv := (0 + (1 * x + 0))) k1 rfl rfl (by omega) (by omega) (hp_Kc (zi := (1 + (3 * i + 0))) (zv := (0 + (1 * y + 0))) k2 rfl rfl (by omega) (by omega) (hp_Kc (zi := (2 + (3 * i + 0))) (zv := (0 + (1 * z + 0))) k3 rfl rfl (by omega) (by omega) (hp_Kc (zi := (0 + (1 * x + 0))) (zv := (0 + (1 * u + 0))) k4 rfl rfl (by omega) (by omega) (hp_Kc (zi := (10 + (1 * y + 0))) (zv := (0 + (1 * v + 0))) k5 rfl rfl (by omega) (by omega) (hp_Kc (zi := (20 + (1 * z + 0))) (zv := (0 + (1 * u + 0))) k6 rfl rfl (by omega) (by omega) (hp_Kc (zi := (0 + ((-1) * u + (1 * v + 0)))) (zv := (1 + 0)) k7 rfl rfl (by omega) (by omega) hp_Kn)))))))) (hp_La l0 (hp_Li (z := (0 + (1 * i + 0))) l1 rfl (by omega) (hp_Li (z := (3 + 0)) l2 rfl (by omega) hp_Ln))) trivial ?_ ?_
  · intro p hp ys l' st' h' hys a1 a2 a3 gZ gL gS
    cases hp
  · intro p hp ys v h' hys a1 a2 a3 gZ gS
    rcases List.mem_cons.mp hp with rfl | hp
    · obtain rfl := hp_y0 hys
      cases v with
      | none => cases gS
      | some w =>
        obtain ⟨y0, t0, s0, q0, -⟩ := hp_gSi (z := (1 + 0)) gS rfl
        cases s0
        exact r0 h' y0 (by omega) a1 a2 a3
    cases hp
theorem wu7g_k : hq_chk [258] 257 0 7 [(0, 0, 29), (1, 0, 30), (2, 0, 9), (3, 0, 9), (4, 0, 9), (5, (-2147483648), 2147483647), (6, (-2147483648), 2147483647)] [((-1), [(0, (-1)), (1, 1)])] [(0, .inr (.inr (.inl (some 85)))), (1, .inl (0, [(0, 1)])), (2, .inl (3, []))] [] [(17669, (0, []), (0, [(1, 1)])), (18944, (0, [(0, 3)]), (0, [(2, 1)])), (18944, (1, [(0, 3)]), (0, [(3, 1)])), (18944, (2, [(0, 3)]), (0, [(4, 1)])), (18176, (0, [(2, 1)]), (0, [(5, 1)])), (18176, (10, [(3, 1)]), (0, [(6, 1)])), (18176, (20, [(4, 1)]), (0, [(6, 1)])), (61000, (0, [(5, (-1)), (6, 1)]), (1, []))] [] 5 [] [([], 7, [(0, 0, 29), (1, 0, 30), (2, 0, 9), (3, 0, 9), (4, 0, 9), (5, (-2147483648), 2147483647), (6, (-2147483648), 2147483647)], [], [], [.inl (1, [])], [])] = true := by decide +kernel
theorem wu7g {cst : am_K} {strs : List Nat} {Φ : am_Q → Prop} {D : Nat} {M : am_M} {h : am_H} {l : am_L} (c : hp_C cst strs D) (hM : m_P[257]? = some M) (hD : (5 : Int) ≤ (D : Int) + 1) (hy : ly_hy m_tt ly_TH h) (i n x y z u v : Int) (b0 : 0 ≤ i) (t0 : i ≤ 29) (b1 : 0 ≤ n) (t1 : n ≤ 30) (b2 : 0 ≤ x) (t2 : x ≤ 9) (b3 : 0 ≤ y) (t3 : y ≤ 9) (b4 : 0 ≤ z) (t4 : z ≤ 9) (b5 : (-2147483648) ≤ u) (t5 : u ≤ 2147483647) (b6 : (-2147483648) ≤ v) (t6 : v ≤ 2147483647) (f0 : 0 ≤ (n - i - 1)) (k0 : ly_hv cst h 17669 0 = some (n)) (k1 : ly_hv cst h 18944 (3 * i) = some (x)) (k2 : ly_hv cst h 18944 (3 * i + 1) = some (y)) (k3 : ly_hv cst h 18944 (3 * i + 2) = some (z)) (k4 : ly_hv cst h 18176 (x) = some (u)) (k5 : ly_hv cst h 18176 (y + 10) = some (v)) (k6 : ly_hv cst h 18176 (z + 20) = some (v)) (k7 : ly_hv cst h 61000 (v - u) = some 1) (l0 : hp_a l 0 85) (l1 : hp_i l 1 (i)) (l2 : hp_i l 2 3) (r0 : ∀ (h' : am_H) (y0 : Int32), y0.toInt = 1 → ly_hy m_tt ly_TH h' → ly_fr cst [] h h' → h.length ≤ h'.length → Φ (some (.int y0), h', 0, 0)) : hp_F cst strs Φ D M 0 l [] h := by
  refine hq_arc c hM wu7g_k hD [i, n, x, y, z, u, v] rfl hy (hp_Bc (z := i) rfl b0 t0 (hp_Bc (z := n) rfl b1 t1 (hp_Bc (z := x) rfl b2 t2 (hp_Bc (z := y) rfl b3 t3 (hp_Bc (z := z) rfl b4 t4 (hp_Bc (z := u) rfl b5 t5 (hp_Bc (z := v) rfl b6 t6 hp_Bn))))))) (hp_Fc (z := ((-1) + ((-1) * i + (1 * n + 0)))) rfl (by omega) hp_Fn) (hp_Kc (zi := (0 + 0)) (zv := (0 + (1 * n + 0))) k0 rfl rfl (by omega) (by omega) (hp_Kc (zi := (0 + (3 * i + 0))) (zv := (0 + (1 * x + 0))) k1 rfl rfl (by omega) (by omega) (hp_Kc (zi := (1 + (3 * i + 0))) (zv := (0 + (1 * y + 0))) k2 rfl rfl (by omega) (by omega) (hp_Kc (zi := (2 + (3 * i + 0))) (zv := (0 + (1 * z + 0))) k3 rfl rfl (by omega) (by omega) (hp_Kc (zi := (0 + (1 * x + 0))) (zv := (0 + (1 * u + 0))) k4 rfl rfl (by omega) (by omega) (hp_Kc (zi := (10 + (1 * y + 0))) (zv := (0 + (1 * v + 0))) k5 rfl rfl (by omega) (by omega) (hp_Kc (zi := (20 + (1 * z + 0))) (zv := (0 + (1 * v + 0))) k6 rfl rfl (by omega) (by omega) (hp_Kc (zi := (0 + ((-1) * u + (1 * v + 0)))) (zv := (1 + 0)) k7 rfl rfl (by omega) (by omega) hp_Kn)))))))) (hp_La l0 (hp_Li (z := (0 + (1 * i + 0))) l1 rfl (by omega) (hp_Li (z := (3 + 0)) l2 rfl (by omega) hp_Ln))) trivial ?_ ?_
  · intro p hp ys l' st' h' hys a1 a2 a3 gZ gL gS
    cases hp
  · intro p hp ys v h' hys a1 a2 a3 gZ gS
    rcases List.mem_cons.mp hp with rfl | hp
    · obtain rfl := hp_y0 hys
      cases v with
      | none => cases gS
      | some w =>
        obtain ⟨y0, t0, s0, q0, -⟩ := hp_gSi (z := (1 + 0)) gS rfl
        cases s0
        exact r0 h' y0 (by omega) a1 a2 a3
    cases hp
theorem wu7n_k : hq_chk [258] 257 0 8 [(0, 0, 29), (1, 0, 30), (2, 0, 9), (3, 0, 9), (4, 0, 9), (5, (-2147483648), 2147483647), (6, (-2147483648), 2147483647), (7, (-2147483648), 2147483647)] [((-1), [(0, (-1)), (1, 1)])] [(0, .inr (.inr (.inl (some 85)))), (1, .inl (0, [(0, 1)])), (2, .inl (3, []))] [] [(17669, (0, []), (0, [(1, 1)])), (18944, (0, [(0, 3)]), (0, [(2, 1)])), (18944, (1, [(0, 3)]), (0, [(3, 1)])), (18944, (2, [(0, 3)]), (0, [(4, 1)])), (18176, (0, [(2, 1)]), (0, [(5, 1)])), (18176, (10, [(3, 1)]), (0, [(6, 1)])), (18176, (20, [(4, 1)]), (0, [(7, 1)])), (61000, (0, [(5, (-1)), (6, 1)]), (1, [])), (61000, (0, [(5, (-1)), (7, 1)]), (1, [])), (61000, (0, [(6, (-1)), (7, 1)]), (1, []))] [] 5 [] [([], 8, [(0, 0, 29), (1, 0, 30), (2, 0, 9), (3, 0, 9), (4, 0, 9), (5, (-2147483648), 2147483647), (6, (-2147483648), 2147483647), (7, (-2147483648), 2147483647)], [], [], [.inl (0, [])], [])] = true := by decide +kernel
theorem wu7n {cst : am_K} {strs : List Nat} {Φ : am_Q → Prop} {D : Nat} {M : am_M} {h : am_H} {l : am_L} (c : hp_C cst strs D) (hM : m_P[257]? = some M) (hD : (5 : Int) ≤ (D : Int) + 1) (hy : ly_hy m_tt ly_TH h) (i n x y z u v x3 : Int) (b0 : 0 ≤ i) (t0 : i ≤ 29) (b1 : 0 ≤ n) (t1 : n ≤ 30) (b2 : 0 ≤ x) (t2 : x ≤ 9) (b3 : 0 ≤ y) (t3 : y ≤ 9) (b4 : 0 ≤ z) (t4 : z ≤ 9) (b5 : (-2147483648) ≤ u) (t5 : u ≤ 2147483647) (b6 : (-2147483648) ≤ v) (t6 : v ≤ 2147483647) (b7 : (-2147483648) ≤ x3) (t7 : x3 ≤ 2147483647) (f0 : 0 ≤ (n - i - 1)) (k0 : ly_hv cst h 17669 0 = some (n)) (k1 : ly_hv cst h 18944 (3 * i) = some (x)) (k2 : ly_hv cst h 18944 (3 * i + 1) = some (y)) (k3 : ly_hv cst h 18944 (3 * i + 2) = some (z)) (k4 : ly_hv cst h 18176 (x) = some (u)) (k5 : ly_hv cst h 18176 (y + 10) = some (v)) (k6 : ly_hv cst h 18176 (z + 20) = some (x3)) (k7 : ly_hv cst h 61000 (v - u) = some 1) (k8 : ly_hv cst h 61000 (x3 - u) = some 1) (k9 : ly_hv cst h 61000 (x3 - v) = some 1) (l0 : hp_a l 0 85) (l1 : hp_i l 1 (i)) (l2 : hp_i l 2 3) (r0 : ∀ (h' : am_H) (y0 : Int32), y0.toInt = 0 → ly_hy m_tt ly_TH h' → ly_fr cst [] h h' → h.length ≤ h'.length → Φ (some (.int y0), h', 0, 0)) : hp_F cst strs Φ D M 0 l [] h := by
  refine hq_arc c hM wu7n_k hD [i, n, x, y, z, u, v, x3] rfl hy (hp_Bc (z := i) rfl b0 t0 (hp_Bc (z := n) rfl b1 t1 (hp_Bc (z := x) rfl b2 t2 (hp_Bc (z := y) rfl b3 t3 (hp_Bc (z := z) rfl b4 t4 (hp_Bc (z := u) rfl b5 t5 (hp_Bc (z := v) rfl b6 t6 (hp_Bc (z := x3) rfl b7 t7 hp_Bn)))))))) (hp_Fc (z := ((-1) + ((-1) * i + (1 * n + 0)))) rfl (by omega) hp_Fn) (hp_Kc (zi := (0 + 0)) (zv := (0 + (1 * n + 0))) k0 rfl rfl (by omega) (by omega) (hp_Kc (zi := (0 + (3 * i + 0))) (zv := (0 + (1 * x + 0))) k1 rfl rfl (by omega) (by omega) (hp_Kc (zi := (1 + (3 * i + 0))) (zv := (0 + (1 * y + 0))) k2 rfl rfl (by omega) (by omega) (hp_Kc (zi := (2 + (3 * i + 0))) (zv := (0 + (1 * z + 0))) k3 rfl rfl (by omega) (by omega) (hp_Kc (zi := (0 + (1 * x + 0))) (zv := (0 + (1 * u + 0))) k4 rfl rfl (by omega) (by omega) (hp_Kc (zi := (10 + (1 * y + 0))) (zv := (0 + (1 * v + 0))) k5 rfl rfl (by omega) (by omega) (hp_Kc (zi := (20 + (1 * z + 0))) (zv := (0 + (1 * x3 + 0))) k6 rfl rfl (by omega) (by omega) (hp_Kc (zi := (0 + ((-1) * u + (1 * v + 0)))) (zv := (1 + 0)) k7 rfl rfl (by omega) (by omega) (hp_Kc (zi := (0 + ((-1) * u + (1 * x3 + 0)))) (zv := (1 + 0)) k8 rfl rfl (by omega) (by omega) (hp_Kc (zi := (0 + ((-1) * v + (1 * x3 + 0)))) (zv := (1 + 0)) k9 rfl rfl (by omega) (by omega) hp_Kn)))))))))) (hp_La l0 (hp_Li (z := (0 + (1 * i + 0))) l1 rfl (by omega) (hp_Li (z := (3 + 0)) l2 rfl (by omega) hp_Ln))) trivial ?_ ?_
  · intro p hp ys l' st' h' hys a1 a2 a3 gZ gL gS
    cases hp
  · intro p hp ys v h' hys a1 a2 a3 gZ gS
    rcases List.mem_cons.mp hp with rfl | hp
    · obtain rfl := hp_y0 hys
      cases v with
      | none => cases gS
      | some w =>
        obtain ⟨y0, t0, s0, q0, -⟩ := hp_gSi (z := (0 + 0)) gS rfl
        cases s0
        exact r0 h' y0 (by omega) a1 a2 a3
    cases hp
theorem th_R4 : ly_ths ly_TH 74 = some (.inl (.int, 90, -1, 9)) := rfl
theorem hR4 {cst : am_K} {h h' : am_H} {ms : List Nat} (hm : ly_has 18944 ms = false) (hy : ly_hy m_tt ly_TH h) (hy' : ly_hy m_tt ly_TH h') (fr : ly_fr cst ms h h') : ly_hv cst h' 18944 = ly_hv cst h 18944 := hp_same th_R4 hm hy hy' fr
theorem ju_min {f g j : Int → Option Int} {a b d y e : Int} (X : jn_x f g j a b d y) (A : ju_A f g j a b d e 7) : e ≤ y := by
  unfold jn_x at X
  rcases X with w | w | w | w | w | w | w
  · obtain ⟨w0, y1, w1, w2⟩ := w
    have := (A.1 (by decide) w0).2 y1 w1
    omega
  · obtain ⟨w0, y1, w1, w2⟩ := w
    have := (A.2.1 (by decide) w0).2 y1 w1
    omega
  · obtain ⟨w0, y1, w1, w2⟩ := w
    have := (A.2.2.1 (by decide) w0).2 y1 w1
    omega
  · obtain ⟨w0, y1, w1, w2⟩ := w
    have := (A.2.2.2.1 (by decide) w0).2 y1 w1
    omega
  · obtain ⟨w0, y1, w1, w2⟩ := w
    have := (A.2.2.2.2.1 (by decide) w0).2 y1 w1
    omega
  · obtain ⟨w0, y1, w1, w2⟩ := w
    have := (A.2.2.2.2.2.1 (by decide) w0).2 y1 w1
    omega
  · obtain ⟨w0, y1, w1, w2⟩ := w
    have := (A.2.2.2.2.2.2 (by decide) w0).2 y1 w1
    omega
abbrev wr_mods : List Nat := [17669, 18688, 18944]
section WR
variable {cst : am_K} {strs : List Nat} {D : Nat} {M : am_M} {h1 : am_H} {ma mb md : Int} {Φ : am_Q → Prop} {W : Int × (Int → Option Int)}
/-- a call of bestTake on the way -/
theorem wr_bt (c0 : hp_C cst strs D) (c1 : hp_C cst strs (D + 1)) (hD : (10 : Int) ≤ (D : Int) + 1) (A0 : 0 ≤ ma) (A1 : ma ≤ 10) (B0 : 0 ≤ mb) (B1 : mb ≤ 10) (D0 : 0 ≤ md) (D1 : md ≤ 10) (hy1 : ly_hy m_tt ly_TH h1) (k0 : ly_hv cst h1 17920 0 = some ma) (k1 : ly_hv cst h1 17920 1 = some mb) (k2 : ly_hv cst h1 17920 2 = some md) (T : ju_T (ly_hv cst h1 18176) (ly_hv cst h1 17920) (ly_hv cst h1 18432) ma mb md (-1)) {h : am_H} {a b d : Int} (a0 : 0 ≤ a) (a1 : a ≤ ma) (b0 : 0 ≤ b) (b1 : b ≤ mb) (d0 : 0 ≤ d) (d1 : d ≤ md) (hy : ly_hy m_tt ly_TH h) (fr : ly_fr cst wr_mods h1 h) (ka : ly_hv cst h 18688 0 = some a) (kb : ly_hv cst h 18688 1 = some b) (kd : ly_hv cst h 18688 2 = some d) :
    ∃ r, am_Run cst m_cl m_tt m_P strs sx_bi (D + 1 + 1) 248 [.ref 85] h r ∧ (∃ x : Int32, r.1 = some (.int x) ∧ ∃ e, bt_Q (ly_hv cst h1 18176) (ly_hv cst h1 17920) (ly_hv cst h1 18432) ma mb md a b d x.toInt e 7) ∧ r.2.2.1 = 0 ∧ r.2.2.2 = 0 ∧ ly_hy m_tt ly_TH r.2.1 ∧ ly_fr cst [] h r.2.1 ∧ h.length ≤ r.2.1.length := by
  obtain ⟨e1, e2, e3⟩ := la_eqs (cst := cst) rfl rfl rfl hy1 hy fr
  have T' : ju_T (ly_hv cst h 18176) (ly_hv cst h 17920) (ly_hv cst h 18432) ma mb md (121 * a + 11 * b + d) := by
    rw [e1, e2, e3]
    exact fun a' b' d' q1 q2 q3 q4 q5 q6 q7 => T a' b' d' q1 q2 q3 q4 q5 q6 (by omega)
  obtain ⟨r, hrun, hx, r2, r3, rhy, rfr, rlen⟩ := bt_run c0 c1 (by omega) A0 A1 B0 B1 D0 D1 a0 a1 b0 b1 d0 d1 hy ka kb kd (fr _ _ _ rfl k0) (fr _ _ _ rfl k1) (fr _ _ _ rfl k2) T'
  rw [e1, e2, e3] at hx
  exact ⟨r, hrun, hx, r2, r3, rhy, rfr, rlen⟩
theorem wr_lp (c0 : hp_C cst strs D) (c1 : hp_C cst strs (D + 1)) (c : hp_C cst strs (D + 1 + 1)) (hM : m_P[255]? = some M) (hD : (10 : Int) ≤ (D : Int) + 1) (A0 : 0 ≤ ma) (A1 : ma ≤ 10) (B0 : 0 ≤ mb) (B1 : mb ≤ 10) (D0 : 0 ≤ md) (D1 : md ≤ 10) (hy1 : ly_hy m_tt ly_TH h1) (k0 : ly_hv cst h1 17920 0 = some ma) (k1 : ly_hv cst h1 17920 1 = some mb) (k2 : ly_hv cst h1 17920 2 = some md) (T : ju_T (ly_hv cst h1 18176) (ly_hv cst h1 17920) (ly_hv cst h1 18432) ma mb md (-1))
    (fin : ∀ h' : am_H, ly_hy m_tt ly_TH h' → ly_fr cst wr_mods h1 h' → h1.length ≤ h'.length → ly_hv cst h' 17669 0 = some W.1 → 0 ≤ W.1 → W.1 ≤ 30 → ly_hv cst h' 18944 = W.2 → Φ (none, h', 0, 0)) :
    ∀ (N : Nat) (h : am_H) (l : am_L) (a b d n t e : Int), (ma + mb + md - (a + b + d)).toNat < N → 0 ≤ a → a ≤ ma → 0 ≤ b → b ≤ mb → 0 ≤ d → d ≤ md → n ≤ a + b + d → 0 ≤ n → ly_hy m_tt ly_TH h → ly_fr cst wr_mods h1 h → h1.length ≤ h.length → ly_hv cst h 18688 0 = some a → ly_hv cst h 18688 1 = some b → ly_hv cst h 18688 2 = some d → ly_hv cst h 17669 0 = some n → bt_Q (ly_hv cst h1 18176) (ly_hv cst h1 17920) (ly_hv cst h1 18432) ma mb md a b d t e 7 → wk (ly_hv cst h1 18176) (ly_hv cst h1 17920) (ly_hv cst h1 18432) N a b d n (ly_hv cst h 18944) = W → hp_a l 0 85 → hp_i l 1 t → hp_F cst strs Φ (D + 1 + 1) M 18 l [] h := by
  intro N
  induction N with
  | zero => intro h l a b d n t e hN; omega
  | succ N ih =>
    intro h l a b d n t e hN a0 a1 b0 b1 d0 d1 n1 n0 hy fr len ka kb kd kn Q hW l0 l1
    rcases Q with ⟨q1, -, q3⟩ | ⟨q1, q2, q3, q4⟩
    · rw [wk_stop (wk_t_none q3)] at hW
      subst hW
      rw [q1] at l1
      exact wr_e c hM (by omega) hy l0 l1 (fun h' u1 u2 u3 => fin h' u1 (ly_fr_tr fr (hp_fr0 u2)) (Nat.le_trans len u3) (u2 _ _ _ rfl kn) n0 (by show n ≤ 30; omega) (hR4 rfl hy u1 u2))
    · unfold bt_x at q3
      obtain ⟨x, hx, -, -, hX, -, hA⟩ := T a b d a0 a1 b0 b1 d0 d1 (by omega)
      rcases q3 with w | w | w | w | w | w | w
      · obtain ⟨et, w, FF⟩ := w
        rcases rcb7 (f := (ly_hv cst h1 18176)) (a := a) (b := b) (d := d) k0 k1 k2 with hk | ⟨-, -, ⟨p0, p1, p2⟩⟩
        · have := w.1
          rw [hk] at this
          exact absurd this (by decide)
        have ex : x = e := by
          have u1 := ju_min (hX.resolve_left (by omega)) q4
          have u2 := w
          obtain ⟨w0, y1, w1, w2⟩ := u2
          have u3 := (hA.1 (by decide) w0).2 y1 w1
          omega
        rw [ex] at hx
        rw [wk_go7 (wk_t_0 hx w FF)] at hW
        rw [et] at l1
        refine wr7_0 c hM (by omega) hy a b d n a0 (by omega) b0 (by omega) d0 (by omega) n0 (by omega) ka kb kd kn l0 l1 (fun la ha y0 y1 f0 f1 a1' a2' a3' aa ab ad an v0 v1 v2 v3 => ?_)
        refine hp_st (c := 74) hM (by decide +kernel) a1' th_R4 rfl (by omega) (by omega) (by omega) (by omega) (fun hb b1' b2' b3' => ?_)
        rw [f0, f1] at b3'
        have Rb := (hp_put_eq b3').trans (hp_upd_c (hR4 rfl hy a1' a2') rfl rfl)
        refine wr7_1 c hM (by omega) b1' a b d n a0 (by omega) b0 (by omega) d0 (by omega) n0 (by omega) (by rw [hp_put_ne (r' := 18688) b3' (by decide)]; exact aa) (by rw [hp_put_ne (r' := 18688) b3' (by decide)]; exact ab) (by rw [hp_put_ne (r' := 18688) b3' (by decide)]; exact ad) (by rw [hp_put_ne (r' := 17669) b3' (by decide)]; exact an) v0 v1 v2 v3 (fun lb hc y2 y3 f2 f3 c1' c2' c3' ca cb cd cn w0 w1 w2 w3 => ?_)
        refine hp_st (c := 74) hM (by decide +kernel) c1' th_R4 rfl (by omega) (by omega) (by omega) (by omega) (fun hd d1' d2' d3' => ?_)
        rw [f2, f3] at d3'
        have Rd := (hp_put_eq d3').trans (hp_upd_c ((hR4 rfl b1' c1' c2').trans Rb) rfl rfl)
        refine wr7_2 c hM (by omega) d1' a b d n a0 (by omega) b0 (by omega) d0 (by omega) n0 (by omega) (by rw [hp_put_ne (r' := 18688) d3' (by decide)]; exact ca) (by rw [hp_put_ne (r' := 18688) d3' (by decide)]; exact cb) (by rw [hp_put_ne (r' := 18688) d3' (by decide)]; exact cd) (by rw [hp_put_ne (r' := 17669) d3' (by decide)]; exact cn) w0 w1 w2 w3 (fun lc he y4 y5 f4 f5 e1' e2' e3' ea eb ed en z0 z1 z2 z3 => ?_)
        refine hp_st (c := 74) hM (by decide +kernel) e1' th_R4 rfl (by omega) (by omega) (by omega) (by omega) (fun hf g1' g2' g3' => ?_)
        rw [f4, f5] at g3'
        have Rf : ly_hv cst hf 18944 = wk_u (ly_hv cst h 18944) n a b d := (hp_put_eq g3').trans (hp_upd_c ((hR4 rfl d1' e1' e2').trans Rd) rfl rfl)
        refine wr7_3 c hM (by omega) g1' a b d n a0 (by omega) b0 (by omega) d0 (by omega) n0 (by omega) (by rw [hp_put_ne (r' := 18688) g3' (by decide)]; exact ea) (by rw [hp_put_ne (r' := 18688) g3' (by decide)]; exact eb) (by rw [hp_put_ne (r' := 18688) g3' (by decide)]; exact ed) (by rw [hp_put_ne (r' := 17669) g3' (by decide)]; exact en) z0 z1 z2 z3 (fun ld hg s1' s2' s3' sa sb sd sn t0 => ?_)
        have fg : ly_fr cst wr_mods h1 hg := ly_fr_tr fr (ly_fr_tr (hp_fr0 a2') (ly_fr_tr (hp_put_fr (by rfl) b3') (ly_fr_tr (hp_sub2 rfl c2') (ly_fr_tr (hp_put_fr (by rfl) d3') (ly_fr_tr (hp_sub2 rfl e2') (ly_fr_tr (hp_put_fr (by rfl) g3') (hp_sub2 rfl s2')))))))
        have Rg : ly_hv cst hg 18944 = wk_u (ly_hv cst h 18944) n a b d := (hR4 rfl g1' s1' s2').trans Rf
        obtain ⟨r, hrun, ⟨x', r1, e', Q'⟩, r2, r3, rhy, rfr, rlen⟩ := wr_bt c0 c1 hD A0 A1 B0 B1 D0 D1 hy1 k0 k1 k2 T (a := a + 1) (b := b + 1) (d := d + 1) (by omega) (by omega) (by omega) (by omega) (by omega) (by omega) s1' fg sa sb sd
        refine hp_call (mi := 255) (pc := 115) (tg := 248) (na := 1) (c := 69) (ci := 10) (st0 := [.ref 85]) (st := []) (av := []) hM (by decide +kernel) s1' rfl rfl rfl (by decide) hrun r2 r3 ?_
        rw [r1]
        have tb := bt_b (show 0 ≤ a + 1 by omega) (show 0 ≤ b + 1 by omega) (show 0 ≤ d + 1 by omega) A1 B1 D1 Q'
        exact wr_2 c hM (by omega) rhy x'.toInt x' rfl tb.1 tb.2.1 t0 (fun le hi i1 i2 i3 o0 o1 => ih hi le (a + 1) (b + 1) (d + 1) (n + 1) x'.toInt e' (by omega) (by omega) (by omega) (by omega) (by omega) (by omega) (by omega) (by omega) (by omega) i1 (ly_fr_tr fg (ly_fr_tr (hp_fr0 rfr) (hp_fr0 i2))) (by omega) (i2 _ _ _ rfl (rfr _ _ _ rfl sa)) (i2 _ _ _ rfl (rfr _ _ _ rfl sb)) (i2 _ _ _ rfl (rfr _ _ _ rfl sd)) (i2 _ _ _ rfl (rfr _ _ _ rfl sn)) Q' (by rw [hR4 rfl rhy i1 i2, hR4 rfl s1' rhy rfr, Rg]; exact hW) o0 o1)
      · obtain ⟨et, w, FF⟩ := w
        rcases rcb3 (f := (ly_hv cst h1 18176)) (a := a) (b := b) (d := d) k0 k1 k2 with hk | ⟨-, -, ⟨p0, p1⟩⟩
        · have := w.1
          rw [hk] at this
          exact absurd this (by decide)
        have ex : x = e := by
          have u1 := ju_min (hX.resolve_left (by omega)) q4
          have u2 := w
          obtain ⟨w0, y1, w1, w2⟩ := u2
          have u3 := (hA.2.1 (by decide) w0).2 y1 w1
          omega
        rw [ex] at hx
        rw [wk_go3 (wk_t_1 hx w FF)] at hW
        rw [et] at l1
        refine wr3_0 c hM (by omega) hy a b d n a0 (by omega) b0 (by omega) d0 (by omega) n0 (by omega) ka kb kd kn l0 l1 (fun la ha y0 y1 f0 f1 a1' a2' a3' aa ab ad an v0 v1 v2 v3 => ?_)
        refine hp_st (c := 74) hM (by decide +kernel) a1' th_R4 rfl (by omega) (by omega) (by omega) (by omega) (fun hb b1' b2' b3' => ?_)
        rw [f0, f1] at b3'
        have Rb := (hp_put_eq b3').trans (hp_upd_c (hR4 rfl hy a1' a2') rfl rfl)
        refine wr3_1 c hM (by omega) b1' a b d n a0 (by omega) b0 (by omega) d0 (by omega) n0 (by omega) (by rw [hp_put_ne (r' := 18688) b3' (by decide)]; exact aa) (by rw [hp_put_ne (r' := 18688) b3' (by decide)]; exact ab) (by rw [hp_put_ne (r' := 18688) b3' (by decide)]; exact ad) (by rw [hp_put_ne (r' := 17669) b3' (by decide)]; exact an) v0 v1 v2 v3 (fun lb hc y2 y3 f2 f3 c1' c2' c3' ca cb cd cn w0 w1 w2 w3 => ?_)
        refine hp_st (c := 74) hM (by decide +kernel) c1' th_R4 rfl (by omega) (by omega) (by omega) (by omega) (fun hd d1' d2' d3' => ?_)
        rw [f2, f3] at d3'
        have Rd := (hp_put_eq d3').trans (hp_upd_c ((hR4 rfl b1' c1' c2').trans Rb) rfl rfl)
        refine wr3_2 c hM (by omega) d1' a b d n a0 (by omega) b0 (by omega) d0 (by omega) n0 (by omega) (by rw [hp_put_ne (r' := 18688) d3' (by decide)]; exact ca) (by rw [hp_put_ne (r' := 18688) d3' (by decide)]; exact cb) (by rw [hp_put_ne (r' := 18688) d3' (by decide)]; exact cd) (by rw [hp_put_ne (r' := 17669) d3' (by decide)]; exact cn) w0 w1 w2 w3 (fun lc he y4 y5 f4 f5 e1' e2' e3' ea eb ed en z0 z1 z2 z3 => ?_)
        refine hp_st (c := 74) hM (by decide +kernel) e1' th_R4 rfl (by omega) (by omega) (by omega) (by omega) (fun hf g1' g2' g3' => ?_)
        rw [f4, f5] at g3'
        have Rf : ly_hv cst hf 18944 = wk_u (ly_hv cst h 18944) n a b (-1) := (hp_put_eq g3').trans (hp_upd_c ((hR4 rfl d1' e1' e2').trans Rd) rfl rfl)
        refine wr3_3 c hM (by omega) g1' a b d n a0 (by omega) b0 (by omega) d0 (by omega) n0 (by omega) (by rw [hp_put_ne (r' := 18688) g3' (by decide)]; exact ea) (by rw [hp_put_ne (r' := 18688) g3' (by decide)]; exact eb) (by rw [hp_put_ne (r' := 18688) g3' (by decide)]; exact ed) (by rw [hp_put_ne (r' := 17669) g3' (by decide)]; exact en) z0 z1 z2 z3 (fun ld hg s1' s2' s3' sa sb sd sn t0 => ?_)
        have fg : ly_fr cst wr_mods h1 hg := ly_fr_tr fr (ly_fr_tr (hp_fr0 a2') (ly_fr_tr (hp_put_fr (by rfl) b3') (ly_fr_tr (hp_sub2 rfl c2') (ly_fr_tr (hp_put_fr (by rfl) d3') (ly_fr_tr (hp_sub2 rfl e2') (ly_fr_tr (hp_put_fr (by rfl) g3') (hp_sub2 rfl s2')))))))
        have Rg : ly_hv cst hg 18944 = wk_u (ly_hv cst h 18944) n a b (-1) := (hR4 rfl g1' s1' s2').trans Rf
        obtain ⟨r, hrun, ⟨x', r1, e', Q'⟩, r2, r3, rhy, rfr, rlen⟩ := wr_bt c0 c1 hD A0 A1 B0 B1 D0 D1 hy1 k0 k1 k2 T (a := a + 1) (b := b + 1) (d := d + 0) (by omega) (by omega) (by omega) (by omega) (by omega) (by omega) s1' fg sa sb (by rw [Int.add_zero]; exact sd)
        refine hp_call (mi := 255) (pc := 115) (tg := 248) (na := 1) (c := 69) (ci := 10) (st0 := [.ref 85]) (st := []) (av := []) hM (by decide +kernel) s1' rfl rfl rfl (by decide) hrun r2 r3 ?_
        rw [r1]
        have tb := bt_b (show 0 ≤ a + 1 by omega) (show 0 ≤ b + 1 by omega) (show 0 ≤ d + 0 by omega) A1 B1 D1 Q'
        exact wr_2 c hM (by omega) rhy x'.toInt x' rfl tb.1 tb.2.1 t0 (fun le hi i1 i2 i3 o0 o1 => ih hi le (a + 1) (b + 1) (d + 0) (n + 1) x'.toInt e' (by omega) (by omega) (by omega) (by omega) (by omega) (by omega) (by omega) (by omega) (by omega) i1 (ly_fr_tr fg (ly_fr_tr (hp_fr0 rfr) (hp_fr0 i2))) (by omega) (i2 _ _ _ rfl (rfr _ _ _ rfl sa)) (i2 _ _ _ rfl (rfr _ _ _ rfl sb)) (i2 _ _ _ rfl (rfr _ _ _ rfl (by rw [Int.add_zero]; exact sd))) (i2 _ _ _ rfl (rfr _ _ _ rfl sn)) Q' (by rw [hR4 rfl rhy i1 i2, hR4 rfl s1' rhy rfr, Rg]; exact hW) o0 o1)
      · obtain ⟨et, w, FF⟩ := w
        rcases rcb5 (f := (ly_hv cst h1 18176)) (a := a) (b := b) (d := d) k0 k1 k2 with hk | ⟨-, -, ⟨p0, p1⟩⟩
        · have := w.1
          rw [hk] at this
          exact absurd this (by decide)
        have ex : x = e := by
          have u1 := ju_min (hX.resolve_left (by omega)) q4
          have u2 := w
          obtain ⟨w0, y1, w1, w2⟩ := u2
          have u3 := (hA.2.2.1 (by decide) w0).2 y1 w1
          omega
        rw [ex] at hx
        rw [wk_go5 (wk_t_2 hx w FF)] at hW
        rw [et] at l1
        refine wr5_0 c hM (by omega) hy a b d n a0 (by omega) b0 (by omega) d0 (by omega) n0 (by omega) ka kb kd kn l0 l1 (fun la ha y0 y1 f0 f1 a1' a2' a3' aa ab ad an v0 v1 v2 v3 => ?_)
        refine hp_st (c := 74) hM (by decide +kernel) a1' th_R4 rfl (by omega) (by omega) (by omega) (by omega) (fun hb b1' b2' b3' => ?_)
        rw [f0, f1] at b3'
        have Rb := (hp_put_eq b3').trans (hp_upd_c (hR4 rfl hy a1' a2') rfl rfl)
        refine wr5_1 c hM (by omega) b1' a b d n a0 (by omega) b0 (by omega) d0 (by omega) n0 (by omega) (by rw [hp_put_ne (r' := 18688) b3' (by decide)]; exact aa) (by rw [hp_put_ne (r' := 18688) b3' (by decide)]; exact ab) (by rw [hp_put_ne (r' := 18688) b3' (by decide)]; exact ad) (by rw [hp_put_ne (r' := 17669) b3' (by decide)]; exact an) v0 v1 v2 v3 (fun lb hc y2 y3 f2 f3 c1' c2' c3' ca cb cd cn w0 w1 w2 w3 => ?_)
        refine hp_st (c := 74) hM (by decide +kernel) c1' th_R4 rfl (by omega) (by omega) (by omega) (by omega) (fun hd d1' d2' d3' => ?_)
        rw [f2, f3] at d3'
        have Rd := (hp_put_eq d3').trans (hp_upd_c ((hR4 rfl b1' c1' c2').trans Rb) rfl rfl)
        refine wr5_2 c hM (by omega) d1' a b d n a0 (by omega) b0 (by omega) d0 (by omega) n0 (by omega) (by rw [hp_put_ne (r' := 18688) d3' (by decide)]; exact ca) (by rw [hp_put_ne (r' := 18688) d3' (by decide)]; exact cb) (by rw [hp_put_ne (r' := 18688) d3' (by decide)]; exact cd) (by rw [hp_put_ne (r' := 17669) d3' (by decide)]; exact cn) w0 w1 w2 w3 (fun lc he y4 y5 f4 f5 e1' e2' e3' ea eb ed en z0 z1 z2 z3 => ?_)
        refine hp_st (c := 74) hM (by decide +kernel) e1' th_R4 rfl (by omega) (by omega) (by omega) (by omega) (fun hf g1' g2' g3' => ?_)
        rw [f4, f5] at g3'
        have Rf : ly_hv cst hf 18944 = wk_u (ly_hv cst h 18944) n a (-1) d := (hp_put_eq g3').trans (hp_upd_c ((hR4 rfl d1' e1' e2').trans Rd) rfl rfl)
        refine wr5_3 c hM (by omega) g1' a b d n a0 (by omega) b0 (by omega) d0 (by omega) n0 (by omega) (by rw [hp_put_ne (r' := 18688) g3' (by decide)]; exact ea) (by rw [hp_put_ne (r' := 18688) g3' (by decide)]; exact eb) (by rw [hp_put_ne (r' := 18688) g3' (by decide)]; exact ed) (by rw [hp_put_ne (r' := 17669) g3' (by decide)]; exact en) z0 z1 z2 z3 (fun ld hg s1' s2' s3' sa sb sd sn t0 => ?_)
        have fg : ly_fr cst wr_mods h1 hg := ly_fr_tr fr (ly_fr_tr (hp_fr0 a2') (ly_fr_tr (hp_put_fr (by rfl) b3') (ly_fr_tr (hp_sub2 rfl c2') (ly_fr_tr (hp_put_fr (by rfl) d3') (ly_fr_tr (hp_sub2 rfl e2') (ly_fr_tr (hp_put_fr (by rfl) g3') (hp_sub2 rfl s2')))))))
        have Rg : ly_hv cst hg 18944 = wk_u (ly_hv cst h 18944) n a (-1) d := (hR4 rfl g1' s1' s2').trans Rf
        obtain ⟨r, hrun, ⟨x', r1, e', Q'⟩, r2, r3, rhy, rfr, rlen⟩ := wr_bt c0 c1 hD A0 A1 B0 B1 D0 D1 hy1 k0 k1 k2 T (a := a + 1) (b := b + 0) (d := d + 1) (by omega) (by omega) (by omega) (by omega) (by omega) (by omega) s1' fg sa (by rw [Int.add_zero]; exact sb) sd
        refine hp_call (mi := 255) (pc := 115) (tg := 248) (na := 1) (c := 69) (ci := 10) (st0 := [.ref 85]) (st := []) (av := []) hM (by decide +kernel) s1' rfl rfl rfl (by decide) hrun r2 r3 ?_
        rw [r1]
        have tb := bt_b (show 0 ≤ a + 1 by omega) (show 0 ≤ b + 0 by omega) (show 0 ≤ d + 1 by omega) A1 B1 D1 Q'
        exact wr_2 c hM (by omega) rhy x'.toInt x' rfl tb.1 tb.2.1 t0 (fun le hi i1 i2 i3 o0 o1 => ih hi le (a + 1) (b + 0) (d + 1) (n + 1) x'.toInt e' (by omega) (by omega) (by omega) (by omega) (by omega) (by omega) (by omega) (by omega) (by omega) i1 (ly_fr_tr fg (ly_fr_tr (hp_fr0 rfr) (hp_fr0 i2))) (by omega) (i2 _ _ _ rfl (rfr _ _ _ rfl sa)) (i2 _ _ _ rfl (rfr _ _ _ rfl (by rw [Int.add_zero]; exact sb))) (i2 _ _ _ rfl (rfr _ _ _ rfl sd)) (i2 _ _ _ rfl (rfr _ _ _ rfl sn)) Q' (by rw [hR4 rfl rhy i1 i2, hR4 rfl s1' rhy rfr, Rg]; exact hW) o0 o1)
      · obtain ⟨et, w, FF⟩ := w
        rcases rcb6 (f := (ly_hv cst h1 18176)) (a := a) (b := b) (d := d) k0 k1 k2 with hk | ⟨-, -, ⟨p0, p1⟩⟩
        · have := w.1
          rw [hk] at this
          exact absurd this (by decide)
        have ex : x = e := by
          have u1 := ju_min (hX.resolve_left (by omega)) q4
          have u2 := w
          obtain ⟨w0, y1, w1, w2⟩ := u2
          have u3 := (hA.2.2.2.1 (by decide) w0).2 y1 w1
          omega
        rw [ex] at hx
        rw [wk_go6 (wk_t_3 hx w FF)] at hW
        rw [et] at l1
        refine wr6_0 c hM (by omega) hy a b d n a0 (by omega) b0 (by omega) d0 (by omega) n0 (by omega) ka kb kd kn l0 l1 (fun la ha y0 y1 f0 f1 a1' a2' a3' aa ab ad an v0 v1 v2 v3 => ?_)
        refine hp_st (c := 74) hM (by decide +kernel) a1' th_R4 rfl (by omega) (by omega) (by omega) (by omega) (fun hb b1' b2' b3' => ?_)
        rw [f0, f1] at b3'
        have Rb := (hp_put_eq b3').trans (hp_upd_c (hR4 rfl hy a1' a2') rfl rfl)
        refine wr6_1 c hM (by omega) b1' a b d n a0 (by omega) b0 (by omega) d0 (by omega) n0 (by omega) (by rw [hp_put_ne (r' := 18688) b3' (by decide)]; exact aa) (by rw [hp_put_ne (r' := 18688) b3' (by decide)]; exact ab) (by rw [hp_put_ne (r' := 18688) b3' (by decide)]; exact ad) (by rw [hp_put_ne (r' := 17669) b3' (by decide)]; exact an) v0 v1 v2 v3 (fun lb hc y2 y3 f2 f3 c1' c2' c3' ca cb cd cn w0 w1 w2 w3 => ?_)
        refine hp_st (c := 74) hM (by decide +kernel) c1' th_R4 rfl (by omega) (by omega) (by omega) (by omega) (fun hd d1' d2' d3' => ?_)
        rw [f2, f3] at d3'
        have Rd := (hp_put_eq d3').trans (hp_upd_c ((hR4 rfl b1' c1' c2').trans Rb) rfl rfl)
        refine wr6_2 c hM (by omega) d1' a b d n a0 (by omega) b0 (by omega) d0 (by omega) n0 (by omega) (by rw [hp_put_ne (r' := 18688) d3' (by decide)]; exact ca) (by rw [hp_put_ne (r' := 18688) d3' (by decide)]; exact cb) (by rw [hp_put_ne (r' := 18688) d3' (by decide)]; exact cd) (by rw [hp_put_ne (r' := 17669) d3' (by decide)]; exact cn) w0 w1 w2 w3 (fun lc he y4 y5 f4 f5 e1' e2' e3' ea eb ed en z0 z1 z2 z3 => ?_)
        refine hp_st (c := 74) hM (by decide +kernel) e1' th_R4 rfl (by omega) (by omega) (by omega) (by omega) (fun hf g1' g2' g3' => ?_)
        rw [f4, f5] at g3'
        have Rf : ly_hv cst hf 18944 = wk_u (ly_hv cst h 18944) n (-1) b d := (hp_put_eq g3').trans (hp_upd_c ((hR4 rfl d1' e1' e2').trans Rd) rfl rfl)
        refine wr6_3 c hM (by omega) g1' a b d n a0 (by omega) b0 (by omega) d0 (by omega) n0 (by omega) (by rw [hp_put_ne (r' := 18688) g3' (by decide)]; exact ea) (by rw [hp_put_ne (r' := 18688) g3' (by decide)]; exact eb) (by rw [hp_put_ne (r' := 18688) g3' (by decide)]; exact ed) (by rw [hp_put_ne (r' := 17669) g3' (by decide)]; exact en) z0 z1 z2 z3 (fun ld hg s1' s2' s3' sa sb sd sn t0 => ?_)
        have fg : ly_fr cst wr_mods h1 hg := ly_fr_tr fr (ly_fr_tr (hp_fr0 a2') (ly_fr_tr (hp_put_fr (by rfl) b3') (ly_fr_tr (hp_sub2 rfl c2') (ly_fr_tr (hp_put_fr (by rfl) d3') (ly_fr_tr (hp_sub2 rfl e2') (ly_fr_tr (hp_put_fr (by rfl) g3') (hp_sub2 rfl s2')))))))
        have Rg : ly_hv cst hg 18944 = wk_u (ly_hv cst h 18944) n (-1) b d := (hR4 rfl g1' s1' s2').trans Rf
        obtain ⟨r, hrun, ⟨x', r1, e', Q'⟩, r2, r3, rhy, rfr, rlen⟩ := wr_bt c0 c1 hD A0 A1 B0 B1 D0 D1 hy1 k0 k1 k2 T (a := a + 0) (b := b + 1) (d := d + 1) (by omega) (by omega) (by omega) (by omega) (by omega) (by omega) s1' fg (by rw [Int.add_zero]; exact sa) sb sd
        refine hp_call (mi := 255) (pc := 115) (tg := 248) (na := 1) (c := 69) (ci := 10) (st0 := [.ref 85]) (st := []) (av := []) hM (by decide +kernel) s1' rfl rfl rfl (by decide) hrun r2 r3 ?_
        rw [r1]
        have tb := bt_b (show 0 ≤ a + 0 by omega) (show 0 ≤ b + 1 by omega) (show 0 ≤ d + 1 by omega) A1 B1 D1 Q'
        exact wr_2 c hM (by omega) rhy x'.toInt x' rfl tb.1 tb.2.1 t0 (fun le hi i1 i2 i3 o0 o1 => ih hi le (a + 0) (b + 1) (d + 1) (n + 1) x'.toInt e' (by omega) (by omega) (by omega) (by omega) (by omega) (by omega) (by omega) (by omega) (by omega) i1 (ly_fr_tr fg (ly_fr_tr (hp_fr0 rfr) (hp_fr0 i2))) (by omega) (i2 _ _ _ rfl (rfr _ _ _ rfl (by rw [Int.add_zero]; exact sa))) (i2 _ _ _ rfl (rfr _ _ _ rfl sb)) (i2 _ _ _ rfl (rfr _ _ _ rfl sd)) (i2 _ _ _ rfl (rfr _ _ _ rfl sn)) Q' (by rw [hR4 rfl rhy i1 i2, hR4 rfl s1' rhy rfr, Rg]; exact hW) o0 o1)
      · obtain ⟨et, w, FF⟩ := w
        rcases rcb1 (f := (ly_hv cst h1 18176)) (a := a) (b := b) (d := d) k0 k1 k2 with hk | ⟨-, -, p0⟩
        · have := w.1
          rw [hk] at this
          exact absurd this (by decide)
        have ex : x = e := by
          have u1 := ju_min (hX.resolve_left (by omega)) q4
          have u2 := w
          obtain ⟨w0, y1, w1, w2⟩ := u2
          have u3 := (hA.2.2.2.2.1 (by decide) w0).2 y1 w1
          omega
        rw [ex] at hx
        rw [wk_go1 (wk_t_4 hx w FF)] at hW
        rw [et] at l1
        refine wr1_0 c hM (by omega) hy a b d n a0 (by omega) b0 (by omega) d0 (by omega) n0 (by omega) ka kb kd kn l0 l1 (fun la ha y0 y1 f0 f1 a1' a2' a3' aa ab ad an v0 v1 v2 v3 => ?_)
        refine hp_st (c := 74) hM (by decide +kernel) a1' th_R4 rfl (by omega) (by omega) (by omega) (by omega) (fun hb b1' b2' b3' => ?_)
        rw [f0, f1] at b3'
        have Rb := (hp_put_eq b3').trans (hp_upd_c (hR4 rfl hy a1' a2') rfl rfl)
        refine wr1_1 c hM (by omega) b1' a b d n a0 (by omega) b0 (by omega) d0 (by omega) n0 (by omega) (by rw [hp_put_ne (r' := 18688) b3' (by decide)]; exact aa) (by rw [hp_put_ne (r' := 18688) b3' (by decide)]; exact ab) (by rw [hp_put_ne (r' := 18688) b3' (by decide)]; exact ad) (by rw [hp_put_ne (r' := 17669) b3' (by decide)]; exact an) v0 v1 v2 v3 (fun lb hc y2 y3 f2 f3 c1' c2' c3' ca cb cd cn w0 w1 w2 w3 => ?_)
        refine hp_st (c := 74) hM (by decide +kernel) c1' th_R4 rfl (by omega) (by omega) (by omega) (by omega) (fun hd d1' d2' d3' => ?_)
        rw [f2, f3] at d3'
        have Rd := (hp_put_eq d3').trans (hp_upd_c ((hR4 rfl b1' c1' c2').trans Rb) rfl rfl)
        refine wr1_2 c hM (by omega) d1' a b d n a0 (by omega) b0 (by omega) d0 (by omega) n0 (by omega) (by rw [hp_put_ne (r' := 18688) d3' (by decide)]; exact ca) (by rw [hp_put_ne (r' := 18688) d3' (by decide)]; exact cb) (by rw [hp_put_ne (r' := 18688) d3' (by decide)]; exact cd) (by rw [hp_put_ne (r' := 17669) d3' (by decide)]; exact cn) w0 w1 w2 w3 (fun lc he y4 y5 f4 f5 e1' e2' e3' ea eb ed en z0 z1 z2 z3 => ?_)
        refine hp_st (c := 74) hM (by decide +kernel) e1' th_R4 rfl (by omega) (by omega) (by omega) (by omega) (fun hf g1' g2' g3' => ?_)
        rw [f4, f5] at g3'
        have Rf : ly_hv cst hf 18944 = wk_u (ly_hv cst h 18944) n a (-1) (-1) := (hp_put_eq g3').trans (hp_upd_c ((hR4 rfl d1' e1' e2').trans Rd) rfl rfl)
        refine wr1_3 c hM (by omega) g1' a b d n a0 (by omega) b0 (by omega) d0 (by omega) n0 (by omega) (by rw [hp_put_ne (r' := 18688) g3' (by decide)]; exact ea) (by rw [hp_put_ne (r' := 18688) g3' (by decide)]; exact eb) (by rw [hp_put_ne (r' := 18688) g3' (by decide)]; exact ed) (by rw [hp_put_ne (r' := 17669) g3' (by decide)]; exact en) z0 z1 z2 z3 (fun ld hg s1' s2' s3' sa sb sd sn t0 => ?_)
        have fg : ly_fr cst wr_mods h1 hg := ly_fr_tr fr (ly_fr_tr (hp_fr0 a2') (ly_fr_tr (hp_put_fr (by rfl) b3') (ly_fr_tr (hp_sub2 rfl c2') (ly_fr_tr (hp_put_fr (by rfl) d3') (ly_fr_tr (hp_sub2 rfl e2') (ly_fr_tr (hp_put_fr (by rfl) g3') (hp_sub2 rfl s2')))))))
        have Rg : ly_hv cst hg 18944 = wk_u (ly_hv cst h 18944) n a (-1) (-1) := (hR4 rfl g1' s1' s2').trans Rf
        obtain ⟨r, hrun, ⟨x', r1, e', Q'⟩, r2, r3, rhy, rfr, rlen⟩ := wr_bt c0 c1 hD A0 A1 B0 B1 D0 D1 hy1 k0 k1 k2 T (a := a + 1) (b := b + 0) (d := d + 0) (by omega) (by omega) (by omega) (by omega) (by omega) (by omega) s1' fg sa (by rw [Int.add_zero]; exact sb) (by rw [Int.add_zero]; exact sd)
        refine hp_call (mi := 255) (pc := 115) (tg := 248) (na := 1) (c := 69) (ci := 10) (st0 := [.ref 85]) (st := []) (av := []) hM (by decide +kernel) s1' rfl rfl rfl (by decide) hrun r2 r3 ?_
        rw [r1]
        have tb := bt_b (show 0 ≤ a + 1 by omega) (show 0 ≤ b + 0 by omega) (show 0 ≤ d + 0 by omega) A1 B1 D1 Q'
        exact wr_2 c hM (by omega) rhy x'.toInt x' rfl tb.1 tb.2.1 t0 (fun le hi i1 i2 i3 o0 o1 => ih hi le (a + 1) (b + 0) (d + 0) (n + 1) x'.toInt e' (by omega) (by omega) (by omega) (by omega) (by omega) (by omega) (by omega) (by omega) (by omega) i1 (ly_fr_tr fg (ly_fr_tr (hp_fr0 rfr) (hp_fr0 i2))) (by omega) (i2 _ _ _ rfl (rfr _ _ _ rfl sa)) (i2 _ _ _ rfl (rfr _ _ _ rfl (by rw [Int.add_zero]; exact sb))) (i2 _ _ _ rfl (rfr _ _ _ rfl (by rw [Int.add_zero]; exact sd))) (i2 _ _ _ rfl (rfr _ _ _ rfl sn)) Q' (by rw [hR4 rfl rhy i1 i2, hR4 rfl s1' rhy rfr, Rg]; exact hW) o0 o1)
      · obtain ⟨et, w, FF⟩ := w
        rcases rcb2 (f := (ly_hv cst h1 18176)) (a := a) (b := b) (d := d) k0 k1 k2 with hk | ⟨-, -, p0⟩
        · have := w.1
          rw [hk] at this
          exact absurd this (by decide)
        have ex : x = e := by
          have u1 := ju_min (hX.resolve_left (by omega)) q4
          have u2 := w
          obtain ⟨w0, y1, w1, w2⟩ := u2
          have u3 := (hA.2.2.2.2.2.1 (by decide) w0).2 y1 w1
          omega
        rw [ex] at hx
        rw [wk_go2 (wk_t_5 hx w FF)] at hW
        rw [et] at l1
        refine wr2_0 c hM (by omega) hy a b d n a0 (by omega) b0 (by omega) d0 (by omega) n0 (by omega) ka kb kd kn l0 l1 (fun la ha y0 y1 f0 f1 a1' a2' a3' aa ab ad an v0 v1 v2 v3 => ?_)
        refine hp_st (c := 74) hM (by decide +kernel) a1' th_R4 rfl (by omega) (by omega) (by omega) (by omega) (fun hb b1' b2' b3' => ?_)
        rw [f0, f1] at b3'
        have Rb := (hp_put_eq b3').trans (hp_upd_c (hR4 rfl hy a1' a2') rfl rfl)
        refine wr2_1 c hM (by omega) b1' a b d n a0 (by omega) b0 (by omega) d0 (by omega) n0 (by omega) (by rw [hp_put_ne (r' := 18688) b3' (by decide)]; exact aa) (by rw [hp_put_ne (r' := 18688) b3' (by decide)]; exact ab) (by rw [hp_put_ne (r' := 18688) b3' (by decide)]; exact ad) (by rw [hp_put_ne (r' := 17669) b3' (by decide)]; exact an) v0 v1 v2 v3 (fun lb hc y2 y3 f2 f3 c1' c2' c3' ca cb cd cn w0 w1 w2 w3 => ?_)
        refine hp_st (c := 74) hM (by decide +kernel) c1' th_R4 rfl (by omega) (by omega) (by omega) (by omega) (fun hd d1' d2' d3' => ?_)
        rw [f2, f3] at d3'
        have Rd := (hp_put_eq d3').trans (hp_upd_c ((hR4 rfl b1' c1' c2').trans Rb) rfl rfl)
        refine wr2_2 c hM (by omega) d1' a b d n a0 (by omega) b0 (by omega) d0 (by omega) n0 (by omega) (by rw [hp_put_ne (r' := 18688) d3' (by decide)]; exact ca) (by rw [hp_put_ne (r' := 18688) d3' (by decide)]; exact cb) (by rw [hp_put_ne (r' := 18688) d3' (by decide)]; exact cd) (by rw [hp_put_ne (r' := 17669) d3' (by decide)]; exact cn) w0 w1 w2 w3 (fun lc he y4 y5 f4 f5 e1' e2' e3' ea eb ed en z0 z1 z2 z3 => ?_)
        refine hp_st (c := 74) hM (by decide +kernel) e1' th_R4 rfl (by omega) (by omega) (by omega) (by omega) (fun hf g1' g2' g3' => ?_)
        rw [f4, f5] at g3'
        have Rf : ly_hv cst hf 18944 = wk_u (ly_hv cst h 18944) n (-1) b (-1) := (hp_put_eq g3').trans (hp_upd_c ((hR4 rfl d1' e1' e2').trans Rd) rfl rfl)
        refine wr2_3 c hM (by omega) g1' a b d n a0 (by omega) b0 (by omega) d0 (by omega) n0 (by omega) (by rw [hp_put_ne (r' := 18688) g3' (by decide)]; exact ea) (by rw [hp_put_ne (r' := 18688) g3' (by decide)]; exact eb) (by rw [hp_put_ne (r' := 18688) g3' (by decide)]; exact ed) (by rw [hp_put_ne (r' := 17669) g3' (by decide)]; exact en) z0 z1 z2 z3 (fun ld hg s1' s2' s3' sa sb sd sn t0 => ?_)
        have fg : ly_fr cst wr_mods h1 hg := ly_fr_tr fr (ly_fr_tr (hp_fr0 a2') (ly_fr_tr (hp_put_fr (by rfl) b3') (ly_fr_tr (hp_sub2 rfl c2') (ly_fr_tr (hp_put_fr (by rfl) d3') (ly_fr_tr (hp_sub2 rfl e2') (ly_fr_tr (hp_put_fr (by rfl) g3') (hp_sub2 rfl s2')))))))
        have Rg : ly_hv cst hg 18944 = wk_u (ly_hv cst h 18944) n (-1) b (-1) := (hR4 rfl g1' s1' s2').trans Rf
        obtain ⟨r, hrun, ⟨x', r1, e', Q'⟩, r2, r3, rhy, rfr, rlen⟩ := wr_bt c0 c1 hD A0 A1 B0 B1 D0 D1 hy1 k0 k1 k2 T (a := a + 0) (b := b + 1) (d := d + 0) (by omega) (by omega) (by omega) (by omega) (by omega) (by omega) s1' fg (by rw [Int.add_zero]; exact sa) sb (by rw [Int.add_zero]; exact sd)
        refine hp_call (mi := 255) (pc := 115) (tg := 248) (na := 1) (c := 69) (ci := 10) (st0 := [.ref 85]) (st := []) (av := []) hM (by decide +kernel) s1' rfl rfl rfl (by decide) hrun r2 r3 ?_
        rw [r1]
        have tb := bt_b (show 0 ≤ a + 0 by omega) (show 0 ≤ b + 1 by omega) (show 0 ≤ d + 0 by omega) A1 B1 D1 Q'
        exact wr_2 c hM (by omega) rhy x'.toInt x' rfl tb.1 tb.2.1 t0 (fun le hi i1 i2 i3 o0 o1 => ih hi le (a + 0) (b + 1) (d + 0) (n + 1) x'.toInt e' (by omega) (by omega) (by omega) (by omega) (by omega) (by omega) (by omega) (by omega) (by omega) i1 (ly_fr_tr fg (ly_fr_tr (hp_fr0 rfr) (hp_fr0 i2))) (by omega) (i2 _ _ _ rfl (rfr _ _ _ rfl (by rw [Int.add_zero]; exact sa))) (i2 _ _ _ rfl (rfr _ _ _ rfl sb)) (i2 _ _ _ rfl (rfr _ _ _ rfl (by rw [Int.add_zero]; exact sd))) (i2 _ _ _ rfl (rfr _ _ _ rfl sn)) Q' (by rw [hR4 rfl rhy i1 i2, hR4 rfl s1' rhy rfr, Rg]; exact hW) o0 o1)
      · obtain ⟨et, w, FF⟩ := w
        rcases rcb4 (f := (ly_hv cst h1 18176)) (a := a) (b := b) (d := d) k0 k1 k2 with hk | ⟨-, -, p0⟩
        · have := w.1
          rw [hk] at this
          exact absurd this (by decide)
        have ex : x = e := by
          have u1 := ju_min (hX.resolve_left (by omega)) q4
          have u2 := w
          obtain ⟨w0, y1, w1, w2⟩ := u2
          have u3 := (hA.2.2.2.2.2.2 (by decide) w0).2 y1 w1
          omega
        rw [ex] at hx
        rw [wk_go4 (wk_t_6 hx w FF)] at hW
        rw [et] at l1
        refine wr4_0 c hM (by omega) hy a b d n a0 (by omega) b0 (by omega) d0 (by omega) n0 (by omega) ka kb kd kn l0 l1 (fun la ha y0 y1 f0 f1 a1' a2' a3' aa ab ad an v0 v1 v2 v3 => ?_)
        refine hp_st (c := 74) hM (by decide +kernel) a1' th_R4 rfl (by omega) (by omega) (by omega) (by omega) (fun hb b1' b2' b3' => ?_)
        rw [f0, f1] at b3'
        have Rb := (hp_put_eq b3').trans (hp_upd_c (hR4 rfl hy a1' a2') rfl rfl)
        refine wr4_1 c hM (by omega) b1' a b d n a0 (by omega) b0 (by omega) d0 (by omega) n0 (by omega) (by rw [hp_put_ne (r' := 18688) b3' (by decide)]; exact aa) (by rw [hp_put_ne (r' := 18688) b3' (by decide)]; exact ab) (by rw [hp_put_ne (r' := 18688) b3' (by decide)]; exact ad) (by rw [hp_put_ne (r' := 17669) b3' (by decide)]; exact an) v0 v1 v2 v3 (fun lb hc y2 y3 f2 f3 c1' c2' c3' ca cb cd cn w0 w1 w2 w3 => ?_)
        refine hp_st (c := 74) hM (by decide +kernel) c1' th_R4 rfl (by omega) (by omega) (by omega) (by omega) (fun hd d1' d2' d3' => ?_)
        rw [f2, f3] at d3'
        have Rd := (hp_put_eq d3').trans (hp_upd_c ((hR4 rfl b1' c1' c2').trans Rb) rfl rfl)
        refine wr4_2 c hM (by omega) d1' a b d n a0 (by omega) b0 (by omega) d0 (by omega) n0 (by omega) (by rw [hp_put_ne (r' := 18688) d3' (by decide)]; exact ca) (by rw [hp_put_ne (r' := 18688) d3' (by decide)]; exact cb) (by rw [hp_put_ne (r' := 18688) d3' (by decide)]; exact cd) (by rw [hp_put_ne (r' := 17669) d3' (by decide)]; exact cn) w0 w1 w2 w3 (fun lc he y4 y5 f4 f5 e1' e2' e3' ea eb ed en z0 z1 z2 z3 => ?_)
        refine hp_st (c := 74) hM (by decide +kernel) e1' th_R4 rfl (by omega) (by omega) (by omega) (by omega) (fun hf g1' g2' g3' => ?_)
        rw [f4, f5] at g3'
        have Rf : ly_hv cst hf 18944 = wk_u (ly_hv cst h 18944) n (-1) (-1) d := (hp_put_eq g3').trans (hp_upd_c ((hR4 rfl d1' e1' e2').trans Rd) rfl rfl)
        refine wr4_3 c hM (by omega) g1' a b d n a0 (by omega) b0 (by omega) d0 (by omega) n0 (by omega) (by rw [hp_put_ne (r' := 18688) g3' (by decide)]; exact ea) (by rw [hp_put_ne (r' := 18688) g3' (by decide)]; exact eb) (by rw [hp_put_ne (r' := 18688) g3' (by decide)]; exact ed) (by rw [hp_put_ne (r' := 17669) g3' (by decide)]; exact en) z0 z1 z2 z3 (fun ld hg s1' s2' s3' sa sb sd sn t0 => ?_)
        have fg : ly_fr cst wr_mods h1 hg := ly_fr_tr fr (ly_fr_tr (hp_fr0 a2') (ly_fr_tr (hp_put_fr (by rfl) b3') (ly_fr_tr (hp_sub2 rfl c2') (ly_fr_tr (hp_put_fr (by rfl) d3') (ly_fr_tr (hp_sub2 rfl e2') (ly_fr_tr (hp_put_fr (by rfl) g3') (hp_sub2 rfl s2')))))))
        have Rg : ly_hv cst hg 18944 = wk_u (ly_hv cst h 18944) n (-1) (-1) d := (hR4 rfl g1' s1' s2').trans Rf
        obtain ⟨r, hrun, ⟨x', r1, e', Q'⟩, r2, r3, rhy, rfr, rlen⟩ := wr_bt c0 c1 hD A0 A1 B0 B1 D0 D1 hy1 k0 k1 k2 T (a := a + 0) (b := b + 0) (d := d + 1) (by omega) (by omega) (by omega) (by omega) (by omega) (by omega) s1' fg (by rw [Int.add_zero]; exact sa) (by rw [Int.add_zero]; exact sb) sd
        refine hp_call (mi := 255) (pc := 115) (tg := 248) (na := 1) (c := 69) (ci := 10) (st0 := [.ref 85]) (st := []) (av := []) hM (by decide +kernel) s1' rfl rfl rfl (by decide) hrun r2 r3 ?_
        rw [r1]
        have tb := bt_b (show 0 ≤ a + 0 by omega) (show 0 ≤ b + 0 by omega) (show 0 ≤ d + 1 by omega) A1 B1 D1 Q'
        exact wr_2 c hM (by omega) rhy x'.toInt x' rfl tb.1 tb.2.1 t0 (fun le hi i1 i2 i3 o0 o1 => ih hi le (a + 0) (b + 0) (d + 1) (n + 1) x'.toInt e' (by omega) (by omega) (by omega) (by omega) (by omega) (by omega) (by omega) (by omega) (by omega) i1 (ly_fr_tr fg (ly_fr_tr (hp_fr0 rfr) (hp_fr0 i2))) (by omega) (i2 _ _ _ rfl (rfr _ _ _ rfl (by rw [Int.add_zero]; exact sa))) (i2 _ _ _ rfl (rfr _ _ _ rfl (by rw [Int.add_zero]; exact sb))) (i2 _ _ _ rfl (rfr _ _ _ rfl sd)) (i2 _ _ _ rfl (rfr _ _ _ rfl sn)) Q' (by rw [hR4 rfl rhy i1 i2, hR4 rfl s1' rhy rfr, Rg]; exact hW) o0 o1)
end WR
theorem wr_run {cst : am_K} {strs : List Nat} {D : Nat} {h1 : am_H} {ma mb md : Int} (c0 : hp_C cst strs D) (c1 : hp_C cst strs (D + 1)) (c : hp_C cst strs (D + 1 + 1)) (hD : (10 : Int) ≤ (D : Int) + 1) (A0 : 0 ≤ ma) (A1 : ma ≤ 10) (B0 : 0 ≤ mb) (B1 : mb ≤ 10) (D0 : 0 ≤ md) (D1 : md ≤ 10) (hy1 : ly_hy m_tt ly_TH h1) (k0 : ly_hv cst h1 17920 0 = some ma) (k1 : ly_hv cst h1 17920 1 = some mb) (k2 : ly_hv cst h1 17920 2 = some md) (T : ju_T (ly_hv cst h1 18176) (ly_hv cst h1 17920) (ly_hv cst h1 18432) ma mb md (-1)) :
    ∃ r, am_Run cst m_cl m_tt m_P strs sx_bi (D + 1 + 1 + 1) 255 [.ref 85] h1 r ∧ r.1 = none ∧ r.2.2.1 = 0 ∧ r.2.2.2 = 0 ∧ ly_hy m_tt ly_TH r.2.1 ∧ ly_fr cst wr_mods h1 r.2.1 ∧ h1.length ≤ r.2.1.length ∧ ∃ R X Y, wk (ly_hv cst h1 18176) (ly_hv cst h1 17920) (ly_hv cst h1 18432) 31 0 0 0 0 R = (X, Y) ∧ ly_hv cst r.2.1 17669 0 = some X ∧ 0 ≤ X ∧ X ≤ 30 ∧ ly_hv cst r.2.1 18944 = Y := by
  obtain ⟨M, hM, hsl⟩ := hp_M (mi := 255) (k := 1) (by decide +kernel)
  have fin : hp_F cst strs (fun r : am_Q => r.1 = none ∧ r.2.2.1 = 0 ∧ r.2.2.2 = 0 ∧ ly_hy m_tt ly_TH r.2.1 ∧ ly_fr cst wr_mods h1 r.2.1 ∧ h1.length ≤ r.2.1.length ∧ ∃ R X Y, wk (ly_hv cst h1 18176) (ly_hv cst h1 17920) (ly_hv cst h1 18432) 31 0 0 0 0 R = (X, Y) ∧ ly_hv cst r.2.1 17669 0 = some X ∧ 0 ≤ X ∧ X ≤ 30 ∧ ly_hv cst r.2.1 18944 = Y) (D + 1 + 1) M 0 (lv_args 0 [.ref 85]) [] h1 := by
    refine wr_0 c hM (by omega) hy1 rfl (fun l' h' u1 u2 u3 ka kb kd kn v0 => ?_)
    obtain ⟨r, hrun, ⟨x, r1, e, Q⟩, r2, r3, rhy, rfr, rlen⟩ := wr_bt c0 c1 hD A0 A1 B0 B1 D0 D1 hy1 k0 k1 k2 T (Int.le_refl 0) A0 (Int.le_refl 0) B0 (Int.le_refl 0) D0 u1 (hp_sub2 rfl u2) ka kb kd
    refine hp_call (mi := 255) (pc := 14) (tg := 248) (na := 1) (c := 69) (ci := 10) (st0 := [.ref 85]) (st := []) (av := []) hM (by decide +kernel) u1 rfl rfl rfl (by decide) hrun r2 r3 ?_
    rw [r1]
    have tb := bt_b (Int.le_refl 0) (Int.le_refl 0) (Int.le_refl 0) A1 B1 D1 Q
    refine wr_1 c hM (by omega) rhy x.toInt x rfl tb.1 tb.2.1 v0 (fun l2 h2 w1 w2 w3 o0 o1 => ?_)
    exact wr_lp (W := wk (ly_hv cst h1 18176) (ly_hv cst h1 17920) (ly_hv cst h1 18432) 31 0 0 0 0 (ly_hv cst h2 18944)) c0 c1 c hM hD A0 A1 B0 B1 D0 D1 hy1 k0 k1 k2 T (fun h3 g1 g2 g3 g4 g5 g6 g7 => ⟨rfl, rfl, rfl, g1, g2, g3, ly_hv cst h2 18944, _, _, rfl, g4, g5, g6, g7⟩) 31 h2 l2 0 0 0 0 x.toInt e (by omega) (Int.le_refl 0) A0 (Int.le_refl 0) B0 (Int.le_refl 0) D0 (by omega) (by omega) w1 (ly_fr_tr (hp_sub2 rfl u2) (ly_fr_tr (hp_fr0 rfr) (hp_fr0 w2))) (by omega) (w2 _ _ _ rfl (rfr _ _ _ rfl ka)) (w2 _ _ _ rfl (rfr _ _ _ rfl kb)) (w2 _ _ _ rfl (rfr _ _ _ rfl kd)) (w2 _ _ _ rfl (rfr _ _ _ rfl kn)) Q rfl o0 o1
  obtain ⟨n, r, hgo, hx, r2, r3, r4⟩ := fin
  simp only [Nat.zero_add] at r2 r3
  exact ⟨r, Or.inr ⟨M, n, hM, hsl, hgo⟩, hx, r2, r3, r4⟩
def wl_P (cst : am_K) (h h' : am_H) : Prop := ∃ ma mb md, (ly_hv cst h 17920 0 = some ma ∧ ly_hv cst h 17920 1 = some mb ∧ ly_hv cst h 17920 2 = some md ∧ 0 ≤ ma ∧ 0 ≤ mb ∧ 0 ≤ md) ∧ ∃ j R X Y, ju_T (ly_hv cst h 18176) (ly_hv cst h 17920) j ma mb md (-1) ∧ wk (ly_hv cst h 18176) (ly_hv cst h 17920) j 31 0 0 0 0 R = (X, Y) ∧ ly_hv cst h' 17669 0 = some X ∧ 0 ≤ X ∧ X ≤ 30 ∧ ly_hv cst h' 18944 = Y
theorem wl_run {cst : am_K} {strs : List Nat} {D : Nat} {h : am_H} (c0 : hp_C cst strs D) (c1 : hp_C cst strs (D + 1)) (c2 : hp_C cst strs (D + 1 + 1)) (c : hp_C cst strs (D + 1 + 1 + 1)) (hD : (10 : Int) ≤ (D : Int) + 1) (hy : ly_hy m_tt ly_TH h) : ∃ r, am_Run cst m_cl m_tt m_P strs sx_bi (D + 1 + 1 + 1 + 1) 247 [.ref 85] h r ∧ (∃ a : Int32, r.1 = some (.int a)) ∧ r.2.2.1 = 0 ∧ r.2.2.2 = 0 ∧ ly_hy m_tt ly_TH r.2.1 ∧ ly_fr cst [17669, 18432, 18688, 18944] h r.2.1 ∧ wl_P cst h r.2.1 := by
  obtain ⟨M, hM, hsl⟩ := hp_M (mi := 247) (k := 1) (by decide +kernel)
  obtain ⟨ma, k0, A0, A1⟩ := hp_row (cst := cst) (i := 0) hy th_L0 (by omega) (by omega)
  obtain ⟨mb, k1, B0, B1⟩ := hp_row (cst := cst) (i := 1) hy th_L0 (by omega) (by omega)
  obtain ⟨md, k2, D0, D1⟩ := hp_row (cst := cst) (i := 2) hy th_L0 (by omega) (by omega)
  have fin : hp_F cst strs (fun r : am_Q => (∃ a : Int32, r.1 = some (.int a)) ∧ r.2.2.1 = 0 ∧ r.2.2.2 = 0 ∧ ly_hy m_tt ly_TH r.2.1 ∧ ly_fr cst [17669, 18432, 18688, 18944] h r.2.1 ∧ wl_P cst h r.2.1) (D + 1 + 1 + 1) M 0 (lv_args 0 [.ref 85]) [] h := by
    refine la0 c hM (by omega) hy ma mb md A0 A1 B0 B1 D0 D1 k0 k1 k2 rfl (fun l' h' u1 u2 u3 v0 v1 v2 v3 => ?_)
    have I : la_I cst h ma mb md h' (121 * ma + 11 * mb + md) := la_I_0 (h := h) ⟨hy, ly_fr_rf h, Nat.le_refl _, k0, k1, k2, fun a' b' d' q1 q2 q3 q4 q5 q6 q7 => absurd q7 (by omega)⟩ u1 u2 u3
    refine la_one c1 c2 c hM (by omega) A0 A1 B0 B1 D0 D1 (fun h2 l2 I2 w0 w1 w2 w3 => ?_) ((200 * ma + 15 * mb + (md + 1)).toNat + 1) h' l' ma mb md (Nat.lt_succ_self _) A0 (by omega) B0 (by omega) (by omega) (by omega) I v0 v1 v2 v3
    refine wl_0 c hM (by omega) I2.1 w0 w1 w2 w3 (fun l3 h3 i1 i2 i3 o0 => ?_)
    have I3 := la_I_0 I2 i1 i2 i3
    obtain ⟨x1, x2, x3, x4, x5, x6, x7⟩ := I3
    obtain ⟨r, hrun, r1, r2, r3, rhy, rfr, rlen, R, X, Y, eW, g1, g2, g3, g4⟩ := wr_run c0 c1 c2 hD A0 A1 B0 B1 D0 D1 x1 x4 x5 x6 x7
    refine hp_call (mi := 247) (pc := 105) (tg := 255) (na := 1) (c := 69) (ci := 10) (st0 := [.ref 85]) (st := []) (av := []) hM (by decide +kernel) x1 rfl rfl rfl (by decide) hrun r2 r3 ?_
    rw [r1]
    obtain ⟨y, hyv, y0, y1⟩ := hp_row (cst := cst) (i := 0) rhy th_L2 (by omega) (by omega)
    rw [hL1 rfl hy x1 x2, hL0 rfl hy x1 x2] at x7 eW
    exact wl_1 c hM (by omega) rhy y y0 y1 hyv o0 (fun h5 z hz t1 t2 t3 => ⟨⟨z, rfl⟩, rfl, rfl, t1, ly_fr_tr x2 (ly_fr_tr (hp_sub2 rfl rfr) (hp_fr0 t2)), ma, mb, md, ⟨k0, k1, k2, A0, B0, D0⟩, ly_hv cst h3 18432, R, X, Y, x7, eW, t2 _ _ _ rfl g1, g2, g3, (hR4 rfl rhy t1 t2).trans g4⟩)
  obtain ⟨n, r, hgo, hx, r2, r3, r4⟩ := fin
  simp only [Nat.zero_add] at r2 r3
  exact ⟨r, Or.inr ⟨M, n, hM, hsl, hgo⟩, hx, r2, r3, r4⟩
theorem wm_run {cst : am_K} {strs : List Nat} {D : Nat} {h : am_H} (c0 : hp_C cst strs D) (c1 : hp_C cst strs (D + 1)) (c2 : hp_C cst strs (D + 1 + 1)) (c3 : hp_C cst strs (D + 1 + 1 + 1)) (c : hp_C cst strs (D + 1 + 1 + 1 + 1)) (hD : (10 : Int) ≤ (D : Int) + 1) (hy : ly_hy m_tt ly_TH h) : ∃ r, am_Run cst m_cl m_tt m_P strs sx_bi (D + 1 + 1 + 1 + 1 + 1) 246 [.ref 16] h r ∧ (∃ a : Int32, r.1 = some (.int a)) ∧ r.2.2.1 = 0 ∧ r.2.2.2 = 0 ∧ ly_hy m_tt ly_TH r.2.1 ∧ ly_fr cst [17669, 18432, 18688, 18944] h r.2.1 ∧ wl_P cst h r.2.1 := by
  obtain ⟨M, hM, hsl⟩ := hp_M (mi := 246) (k := 1) (by decide +kernel)
  have fin : hp_F cst strs (fun r : am_Q => (∃ a : Int32, r.1 = some (.int a)) ∧ r.2.2.1 = 0 ∧ r.2.2.2 = 0 ∧ ly_hy m_tt ly_TH r.2.1 ∧ ly_fr cst [17669, 18432, 18688, 18944] h r.2.1 ∧ wl_P cst h r.2.1) (D + 1 + 1 + 1 + 1) M 0 (lv_args 0 [.ref 16]) [] h := by
    refine lj0 c hM (by omega) hy rfl (fun l' h' u1 u2 u3 => ?_)
    obtain ⟨r, hrun, ⟨x, r1⟩, r2, r3, rhy, rfr, rP⟩ := wl_run c0 c1 c2 c3 hD u1
    refine hp_call (mi := 246) (pc := 4) (tg := 247) (na := 1) (c := 69) (ci := 10) (st0 := [.ref 85]) (st := []) (av := []) hM (by decide +kernel) u1 rfl rfl rfl (by decide) hrun r2 r3 ?_
    rw [r1]
    refine lj1 c hM (by omega) rhy x.toInt x rfl x.le_toInt x.toInt_le (fun h2 z hz w1 w2 w3 => ⟨⟨z, rfl⟩, rfl, rfl, w1, ly_fr_tr (hp_fr0 u2) (ly_fr_tr rfr (hp_fr0 w2)), ?_⟩)
    obtain ⟨ma, mb, md, K, j, R, X, Y, p1, p2, p3, p4, p5, p6⟩ := rP
    rw [hL0 rfl hy u1 u2] at K p1 p2
    rw [hL1 rfl hy u1 u2] at p1 p2
    exact ⟨ma, mb, md, K, j, R, X, Y, p1, p2, w2 _ _ _ rfl p3, p4, p5, (hR4 rfl rhy w1 w2).trans p6⟩
  obtain ⟨n, r, hgo, hx, r2, r3, r4⟩ := fin
  simp only [Nat.zero_add] at r2 r3
  exact ⟨r, Or.inr ⟨M, n, hM, hsl, hgo⟩, hx, r2, r3, r4⟩
/-- what joined answers of a row -/
def jd_A (R S : Int → Option Int) (n i w a : Int) : Prop := (¬ (0 ≤ i ∧ i < n ∧ 0 ≤ w ∧ w ≤ 3) → a = -9) ∧ ((0 ≤ i ∧ i < n ∧ 0 ≤ w ∧ w ≤ 3) → (w ≠ 3 → R (3 * i + w) = some a) ∧ (w = 3 → S i = some a))
def sr_S (R F : Int → Option Int) (i : Int) : Option Int := match R (3 * i), R (3 * i + 1), R (3 * i + 2) with
  | some x, some y, some z => some (sr F x y z)
  | _, _, _ => none
theorem sr_Sof {R F : Int → Option Int} {i x y z : Int} (h0 : R (3 * i) = some x) (h1 : R (3 * i + 1) = some y) (h2 : R (3 * i + 2) = some z) : sr_S R F i = some (sr F x y z) := by
  unfold sr_S
  rw [h0, h1, h2]
theorem wt_run {cst : am_K} {strs : List Nat} {D : Nat} {h : am_H} (c : hp_C cst strs D) (hD : (5 : Int) ≤ (D : Int) + 1) (hy : ly_hy m_tt ly_TH h) {xi xw : Int32} {n : Int} (n0 : 0 ≤ n) (n1 : n ≤ 30) (kn : ly_hv cst h 17669 0 = some n) :
    ∃ r, am_Run cst m_cl m_tt m_P strs sx_bi (D + 1) 257 [.ref 85, .int xi, .int xw] h r ∧ (fun r : am_Q => ∃ a : Int32, r.1 = some (.int a) ∧ r.2.2.1 = 0 ∧ r.2.2.2 = 0 ∧ ly_hy m_tt ly_TH r.2.1 ∧ ly_fr cst [] h r.2.1 ∧ jd_A (ly_hv cst h 18944) (sr_S (ly_hv cst h 18944) (ly_hv cst h 18176)) n xi.toInt xw.toInt a.toInt) r := by
  obtain ⟨M, hM, hl⟩ := hp_M (mi := 257) (k := 3) (by decide +kernel)
  have i0 := xi.le_toInt
  have i1 := xi.toInt_le
  have j0 := xw.le_toInt
  have j1 := xw.toInt_le
  have go : hp_F cst strs (fun r : am_Q => ∃ a : Int32, r.1 = some (.int a) ∧ r.2.2.1 = 0 ∧ r.2.2.2 = 0 ∧ ly_hy m_tt ly_TH r.2.1 ∧ ly_fr cst [] h r.2.1 ∧ jd_A (ly_hv cst h 18944) (sr_S (ly_hv cst h 18944) (ly_hv cst h 18176)) n xi.toInt xw.toInt a.toInt) D M 0 (lv_args 0 [.ref 85, .int xi, .int xw]) [] h := by
    have no : ¬ (0 ≤ xi.toInt ∧ xi.toInt < n ∧ 0 ≤ xw.toInt ∧ xw.toInt ≤ 3) → ∀ (h' : am_H) (w : Int32), w.toInt = -9 → ly_hy m_tt ly_TH h' → ly_fr cst [] h h' → h.length ≤ h'.length → (fun r : am_Q => ∃ a : Int32, r.1 = some (.int a) ∧ r.2.2.1 = 0 ∧ r.2.2.2 = 0 ∧ ly_hy m_tt ly_TH r.2.1 ∧ ly_fr cst [] h r.2.1 ∧ jd_A (ly_hv cst h 18944) (sr_S (ly_hv cst h 18944) (ly_hv cst h 18176)) n xi.toInt xw.toInt a.toInt) (some (.int w), h', 0, 0) := fun nk h' w hw w1 w2 w3 => ⟨w, rfl, rfl, rfl, w1, w2, fun _ => hw, fun ok => absurd ok nk⟩
    by_cases q1 : xi.toInt ≤ -1
    · exact wt0 c hM (by omega) hy xi.toInt xw.toInt n i0 q1 j0 j1 n0 n1 kn rfl ⟨xi, rfl, rfl⟩ ⟨xw, rfl, rfl⟩ (no (fun k => by have := k.1; omega))
    by_cases q2 : n ≤ xi.toInt
    · exact wt1 c hM (by omega) hy xi.toInt xw.toInt n (by omega) i1 j0 j1 n0 n1 (by omega) kn rfl ⟨xi, rfl, rfl⟩ ⟨xw, rfl, rfl⟩ (no (fun k => by have := k.2.1; omega))
    by_cases q3 : xw.toInt ≤ -1
    · exact wt2 c hM (by omega) hy xi.toInt xw.toInt n (by omega) (by omega) j0 q3 n0 n1 (by omega) kn rfl ⟨xi, rfl, rfl⟩ ⟨xw, rfl, rfl⟩ (no (fun k => by have := k.2.2.1; omega))
    by_cases q4 : 4 ≤ xw.toInt
    · exact wt3 c hM (by omega) hy xi.toInt xw.toInt n (by omega) (by omega) q4 j1 n0 n1 (by omega) kn rfl ⟨xi, rfl, rfl⟩ ⟨xw, rfl, rfl⟩ (no (fun k => by have := k.2.2.2; omega))
    have ok : (0 ≤ xi.toInt ∧ xi.toInt < n ∧ 0 ≤ xw.toInt ∧ xw.toInt ≤ 3) := ⟨by omega, by omega, by omega, by omega⟩
    by_cases q5 : xw.toInt = 3
    rotate_left
    · obtain ⟨v, hv, v0, v1⟩ := hp_row (cst := cst) (i := 3 * xi.toInt + xw.toInt) hy th_R4 (by omega) (by omega)
      exact wt4 c hM (by omega) hy xi.toInt xw.toInt n v (by omega) (by omega) (by omega) (by omega) n0 n1 v0 v1 (by omega) kn hv rfl ⟨xi, rfl, rfl⟩ ⟨xw, rfl, rfl⟩ (fun h' a ha w1 w2 w3 => ⟨a, rfl, rfl, rfl, w1, w2, fun nk => absurd ok nk, fun _ => ⟨fun _ => by rw [ha]; exact hv, fun z => absurd z q5⟩⟩)
    obtain ⟨x, hx, x0, x1⟩ := hp_row (cst := cst) (i := 3 * xi.toInt) hy th_R4 (by omega) (by omega)
    obtain ⟨y, hy', y0, y1⟩ := hp_row (cst := cst) (i := 3 * xi.toInt + 1) hy th_R4 (by omega) (by omega)
    obtain ⟨z, hz, z0, z1⟩ := hp_row (cst := cst) (i := 3 * xi.toInt + 2) hy th_R4 (by omega) (by omega)
    have yes : ∀ v : Int, v = sr (ly_hv cst h 18176) x y z → ∀ (h' : am_H) (w : Int32), w.toInt = v → ly_hy m_tt ly_TH h' → ly_fr cst [] h h' → h.length ≤ h'.length → (fun r : am_Q => ∃ a : Int32, r.1 = some (.int a) ∧ r.2.2.1 = 0 ∧ r.2.2.2 = 0 ∧ ly_hy m_tt ly_TH r.2.1 ∧ ly_fr cst [] h r.2.1 ∧ jd_A (ly_hv cst h 18944) (sr_S (ly_hv cst h 18944) (ly_hv cst h 18176)) n xi.toInt xw.toInt a.toInt) (some (.int w), h', 0, 0) := fun v ev h' w hw w1 w2 w3 => ⟨w, rfl, rfl, rfl, w1, w2, fun nk => absurd ok nk, fun _ => ⟨fun z => absurd q5 z, fun _ => by rw [sr_Sof hx hy' hz, hw, ev]⟩⟩
    have lw : hp_i (lv_args 0 [.ref 85, .int xi, .int xw]) 2 3 := ⟨xw, rfl, q5⟩
    by_cases nx : x = -1
    · rw [nx] at hx
      by_cases ny : y = -1
      · rw [ny] at hy'
        by_cases nz : z = -1
        · rw [nz] at hz
          exact wu0 c hM (by omega) hy xi.toInt n  (by omega) (by omega) n0 n1  (by omega) kn hx hy' hz   rfl ⟨xi, rfl, rfl⟩ lw (yes 0 (by unfold sr; rw [if_neg (by exact fun k => by rcases k with k | k | k <;> omega)]))
        · obtain ⟨w, hw, w_0, w_1⟩ := hp_row (cst := cst) (i := z + 20) hy th_L1 (by omega) (by omega)
          exact wu3 c hM (by omega) hy xi.toInt n z w (by omega) (by omega) n0 n1 (by omega) (by omega) w_0 w_1 (by omega) kn hx hy' hz hw  rfl ⟨xi, rfl, rfl⟩ lw (yes 0 (by unfold sr; rw [if_neg (by exact fun k => by rcases k with k | k | k <;> omega)]))
      · obtain ⟨v, hv, v_0, v_1⟩ := hp_row (cst := cst) (i := y + 10) hy th_L1 (by omega) (by omega)
        by_cases nz : z = -1
        · rw [nz] at hz
          exact wu2 c hM (by omega) hy xi.toInt n y v (by omega) (by omega) n0 n1 (by omega) (by omega) v_0 v_1 (by omega) kn hx hy' hz hv  rfl ⟨xi, rfl, rfl⟩ lw (yes 0 (by unfold sr; rw [if_neg (by exact fun k => by rcases k with k | k | k <;> omega)]))
        · obtain ⟨w, hw, w_0, w_1⟩ := hp_row (cst := cst) (i := z + 20) hy th_L1 (by omega) (by omega)
          by_cases e : v = w
          · exact wu6e c hM (by omega) hy xi.toInt n y z v (by omega) (by omega) n0 n1 (by omega) (by omega) (by omega) (by omega) v_0 v_1 (by omega) kn hx hy' hz hv (by rw [e]; exact hw)  rfl ⟨xi, rfl, rfl⟩ lw (yes 1 (by unfold sr; rw [if_pos (Or.inr (Or.inr ⟨by omega, by omega, by rw [show ly_hv cst h 18176 (y + 10) = some v from hv, show ly_hv cst h 18176 (z + 20) = some w from hw, e]⟩))]))
          · exact wu6n c hM (by omega) hy xi.toInt n y z v w (by omega) (by omega) n0 n1 (by omega) (by omega) (by omega) (by omega) v_0 v_1 w_0 w_1 (by omega) kn hx hy' hz hv hw (hp_ne (by omega)) rfl ⟨xi, rfl, rfl⟩ lw (yes 0 (by unfold sr; rw [if_neg (by exact fun k => by rcases k with k | k | k <;> first | omega | exact e (Option.some.inj ((show ly_hv cst h 18176 (y + 10) = some v from hv).symm.trans (k.2.2.trans hw))))]))
    · obtain ⟨u, hu, u_0, u_1⟩ := hp_row (cst := cst) (i := x) hy th_L1 (by omega) (by omega)
      by_cases ny : y = -1
      · rw [ny] at hy'
        by_cases nz : z = -1
        · rw [nz] at hz
          exact wu1 c hM (by omega) hy xi.toInt n x u (by omega) (by omega) n0 n1 (by omega) (by omega) u_0 u_1 (by omega) kn hx hy' hz hu  rfl ⟨xi, rfl, rfl⟩ lw (yes 0 (by unfold sr; rw [if_neg (by exact fun k => by rcases k with k | k | k <;> omega)]))
        · obtain ⟨w, hw, w_0, w_1⟩ := hp_row (cst := cst) (i := z + 20) hy th_L1 (by omega) (by omega)
          by_cases e : u = w
          · exact wu5e c hM (by omega) hy xi.toInt n x z u (by omega) (by omega) n0 n1 (by omega) (by omega) (by omega) (by omega) u_0 u_1 (by omega) kn hx hy' hz hu (by rw [e]; exact hw)  rfl ⟨xi, rfl, rfl⟩ lw (yes 1 (by unfold sr; rw [if_pos (Or.inr (Or.inl ⟨by omega, by omega, by rw [show ly_hv cst h 18176 (x) = some u from hu, show ly_hv cst h 18176 (z + 20) = some w from hw, e]⟩))]))
          · exact wu5n c hM (by omega) hy xi.toInt n x z u w (by omega) (by omega) n0 n1 (by omega) (by omega) (by omega) (by omega) u_0 u_1 w_0 w_1 (by omega) kn hx hy' hz hu hw (hp_ne (by omega)) rfl ⟨xi, rfl, rfl⟩ lw (yes 0 (by unfold sr; rw [if_neg (by exact fun k => by rcases k with k | k | k <;> first | omega | exact e (Option.some.inj ((show ly_hv cst h 18176 (x) = some u from hu).symm.trans (k.2.2.trans hw))))]))
      · obtain ⟨v, hv, v_0, v_1⟩ := hp_row (cst := cst) (i := y + 10) hy th_L1 (by omega) (by omega)
        by_cases nz : z = -1
        · rw [nz] at hz
          by_cases e : u = v
          · exact wu4e c hM (by omega) hy xi.toInt n x y u (by omega) (by omega) n0 n1 (by omega) (by omega) (by omega) (by omega) u_0 u_1 (by omega) kn hx hy' hz hu (by rw [e]; exact hv)  rfl ⟨xi, rfl, rfl⟩ lw (yes 1 (by unfold sr; rw [if_pos (Or.inl ⟨by omega, by omega, by rw [show ly_hv cst h 18176 (x) = some u from hu, show ly_hv cst h 18176 (y + 10) = some v from hv, e]⟩)]))
          · exact wu4n c hM (by omega) hy xi.toInt n x y u v (by omega) (by omega) n0 n1 (by omega) (by omega) (by omega) (by omega) u_0 u_1 v_0 v_1 (by omega) kn hx hy' hz hu hv (hp_ne (by omega)) rfl ⟨xi, rfl, rfl⟩ lw (yes 0 (by unfold sr; rw [if_neg (by exact fun k => by rcases k with k | k | k <;> first | omega | exact e (Option.some.inj ((show ly_hv cst h 18176 (x) = some u from hu).symm.trans (k.2.2.trans hv))))]))
        · obtain ⟨w, hw, w_0, w_1⟩ := hp_row (cst := cst) (i := z + 20) hy th_L1 (by omega) (by omega)
          by_cases e : u = v
          · exact wu7e c hM (by omega) hy xi.toInt n x y z u w (by omega) (by omega) n0 n1 (by omega) (by omega) (by omega) (by omega) (by omega) (by omega) u_0 u_1 w_0 w_1 (by omega) kn hx hy' hz hu (by rw [e]; exact hv) hw  rfl ⟨xi, rfl, rfl⟩ lw (yes 1 (by unfold sr; rw [if_pos (Or.inl ⟨by omega, by omega, by rw [show ly_hv cst h 18176 (x) = some u from hu, show ly_hv cst h 18176 (y + 10) = some v from hv, e]⟩)]))
          by_cases e2 : u = w
          · exact wu7f c hM (by omega) hy xi.toInt n x y z u v (by omega) (by omega) n0 n1 (by omega) (by omega) (by omega) (by omega) (by omega) (by omega) u_0 u_1 v_0 v_1 (by omega) kn hx hy' hz hu hv (by rw [e2]; exact hw) (hp_ne (by omega)) rfl ⟨xi, rfl, rfl⟩ lw (yes 1 (by unfold sr; rw [if_pos (Or.inr (Or.inl ⟨by omega, by omega, by rw [show ly_hv cst h 18176 (x) = some u from hu, show ly_hv cst h 18176 (z + 20) = some w from hw, e2]⟩))]))
          by_cases e3 : v = w
          · exact wu7g c hM (by omega) hy xi.toInt n x y z u v (by omega) (by omega) n0 n1 (by omega) (by omega) (by omega) (by omega) (by omega) (by omega) u_0 u_1 v_0 v_1 (by omega) kn hx hy' hz hu hv (by rw [e3]; exact hw) (hp_ne (by omega)) rfl ⟨xi, rfl, rfl⟩ lw (yes 1 (by unfold sr; rw [if_pos (Or.inr (Or.inr ⟨by omega, by omega, by rw [show ly_hv cst h 18176 (y + 10) = some v from hv, show ly_hv cst h 18176 (z + 20) = some w from hw, e3]⟩))]))
          exact wu7n c hM (by omega) hy xi.toInt n x y z u v w (by omega) (by omega) n0 n1 (by omega) (by omega) (by omega) (by omega) (by omega) (by omega) u_0 u_1 v_0 v_1 w_0 w_1 (by omega) kn hx hy' hz hu hv hw (hp_ne (by omega)) (hp_ne (by omega)) (hp_ne (by omega)) rfl ⟨xi, rfl, rfl⟩ lw (yes 0 (by unfold sr; rw [if_neg (by exact fun k => by rcases k with k | k | k; exact e (Option.some.inj ((show ly_hv cst h 18176 (x) = some u from hu).symm.trans (k.2.2.trans hv))); exact e2 (Option.some.inj ((show ly_hv cst h 18176 (x) = some u from hu).symm.trans (k.2.2.trans hw))); exact e3 (Option.some.inj ((show ly_hv cst h 18176 (y + 10) = some v from hv).symm.trans (k.2.2.trans hw))))]))
  obtain ⟨n', r, hgo, a, r1, r2, r3, r4⟩ := go
  simp only [Nat.zero_add] at r2 r3
  exact ⟨r, Or.inr ⟨M, n', hM, hl, hgo⟩, a, r1, r2, r3, r4⟩
theorem wj_run {cst : am_K} {strs : List Nat} {D : Nat} {h : am_H} (c1 : hp_C cst strs D) (c : hp_C cst strs (D + 1)) (hD : (5 : Int) ≤ (D : Int) + 1) (hy : ly_hy m_tt ly_TH h) {xi xw : Int32} {n : Int} (n0 : 0 ≤ n) (n1 : n ≤ 30) (kn : ly_hv cst h 17669 0 = some n) :
    ∃ r, am_Run cst m_cl m_tt m_P strs sx_bi (D + 1 + 1) 256 [.ref 16, .int xi, .int xw] h r ∧ (fun r : am_Q => ∃ a : Int32, r.1 = some (.int a) ∧ r.2.2.1 = 0 ∧ r.2.2.2 = 0 ∧ ly_hy m_tt ly_TH r.2.1 ∧ ly_fr cst [] h r.2.1 ∧ jd_A (ly_hv cst h 18944) (sr_S (ly_hv cst h 18944) (ly_hv cst h 18176)) n xi.toInt xw.toInt a.toInt) r := by
  obtain ⟨M, hM, hl⟩ := hp_M (mi := 256) (k := 3) (by decide +kernel)
  have go : hp_F cst strs (fun r : am_Q => ∃ a : Int32, r.1 = some (.int a) ∧ r.2.2.1 = 0 ∧ r.2.2.2 = 0 ∧ ly_hy m_tt ly_TH r.2.1 ∧ ly_fr cst [] h r.2.1 ∧ jd_A (ly_hv cst h 18944) (sr_S (ly_hv cst h 18944) (ly_hv cst h 18176)) n xi.toInt xw.toInt a.toInt) (D + 1) M 0 (lv_args 0 [.ref 16, .int xi, .int xw]) [] h := by
    refine wj_0 c hM (by omega) hy xi.toInt xw.toInt xi.le_toInt xi.toInt_le xw.le_toInt xw.toInt_le rfl ⟨xi, rfl, rfl⟩ ⟨xw, rfl, rfl⟩ (fun l1 h1 y0 y1 f0 f1 u1 u2 u3 => ?_)
    obtain ⟨r, hrun, a, r1, r2, r3, rhy, rfr, rA⟩ := wt_run (xi := y1) (xw := y0) c1 hD u1 n0 n1 (u2 _ _ _ rfl kn)
    refine hp_call (mi := 256) (pc := 6) (tg := 257) (na := 3) (c := 69) (ci := 10) (st0 := [.int y0, .int y1, .ref 85]) (st := []) (av := [.int y1, .int y0]) hM (by decide +kernel) u1 rfl rfl rfl (by decide) hrun r2 r3 ?_
    rw [r1]
    rw [f0, f1, hR4 rfl hy u1 u2, hL1 rfl hy u1 u2] at rA
    exact wj_1 c hM (by omega) rhy a.toInt a rfl a.le_toInt a.toInt_le (fun h2 z hz w1 w2 w3 => ⟨z, rfl, rfl, rfl, w1, ly_fr_tr u2 (ly_fr_tr rfr w2), by rw [hz]; exact rA⟩)
  obtain ⟨n', r, hgo, a, r1, r2, r3, r4⟩ := go
  simp only [Nat.zero_add] at r2 r3
  exact ⟨r, Or.inr ⟨M, n', hM, hl, hgo⟩, a, r1, r2, r3, r4⟩
theorem jy_run {cst : am_K} {strs : List Nat} {D : Nat} {h : am_H} (c : hp_C cst strs D) (hD : (5 : Int) ≤ (D : Int) + 1) (hy : ly_hy m_tt ly_TH h) {xi xw : Int32} {n v : Int} (n0 : 0 ≤ n) (n1 : n ≤ 30) (kv : ly_hv cst h 20103 0 = some v) (v01 : v = 0 ∨ (v = 1 ∧ ly_hv cst h 20104 0 = some n ∧ (∀ k, 0 ≤ k → k < 3 * n → ∃ x, ly_hv cst h 44544 k = some x ∧ -1 ≤ x ∧ x ≤ 9) ∧ ∀ i, 0 ≤ i → i < n → ly_hv cst h 44800 i = some 0 ∨ ly_hv cst h 44800 i = some 1)) :
    ∃ r, am_Run cst m_cl m_tt m_P strs sx_bi (D + 1) 414 [.ref 94, .int xi, .int xw] h r ∧ (fun r : am_Q => ∃ a : Int32, r.1 = some (.int a) ∧ r.2.2.1 = 0 ∧ r.2.2.2 = 0 ∧ ly_hy m_tt ly_TH r.2.1 ∧ ly_fr cst [] h r.2.1 ∧ ((v = 0 → a.toInt = -9) ∧ (v = 1 → jd_A (ly_hv cst h 44544) (ly_hv cst h 44800) n xi.toInt xw.toInt a.toInt))) r := by
  obtain ⟨M, hM, hl⟩ := hp_M (mi := 414) (k := 3) (by decide +kernel)
  have i0 := xi.le_toInt
  have i1 := xi.toInt_le
  have j0 := xw.le_toInt
  have j1 := xw.toInt_le
  have go : hp_F cst strs (fun r : am_Q => ∃ a : Int32, r.1 = some (.int a) ∧ r.2.2.1 = 0 ∧ r.2.2.2 = 0 ∧ ly_hy m_tt ly_TH r.2.1 ∧ ly_fr cst [] h r.2.1 ∧ ((v = 0 → a.toInt = -9) ∧ (v = 1 → jd_A (ly_hv cst h 44544) (ly_hv cst h 44800) n xi.toInt xw.toInt a.toInt))) D M 0 (lv_args 0 [.ref 94, .int xi, .int xw]) [] h := by
    rcases v01 with ev | ⟨ev, kn, kr, ks⟩
    · rw [ev] at kv
      exact jy0 c hM (by omega) hy xi.toInt xw.toInt i0 i1 j0 j1 kv rfl ⟨xi, rfl, rfl⟩ ⟨xw, rfl, rfl⟩ (fun h' w hw w1 w2 w3 => ⟨w, rfl, rfl, rfl, w1, w2, fun _ => hw, fun e => by omega⟩)
    rw [ev] at kv
    have no : ¬ (0 ≤ xi.toInt ∧ xi.toInt < n ∧ 0 ≤ xw.toInt ∧ xw.toInt ≤ 3) → ∀ (h' : am_H) (w : Int32), w.toInt = -9 → ly_hy m_tt ly_TH h' → ly_fr cst [] h h' → h.length ≤ h'.length → (fun r : am_Q => ∃ a : Int32, r.1 = some (.int a) ∧ r.2.2.1 = 0 ∧ r.2.2.2 = 0 ∧ ly_hy m_tt ly_TH r.2.1 ∧ ly_fr cst [] h r.2.1 ∧ ((v = 0 → a.toInt = -9) ∧ (v = 1 → jd_A (ly_hv cst h 44544) (ly_hv cst h 44800) n xi.toInt xw.toInt a.toInt))) (some (.int w), h', 0, 0) := fun nk h' w hw w1 w2 w3 => ⟨w, rfl, rfl, rfl, w1, w2, fun e => by omega, fun _ => ⟨fun _ => hw, fun ok => absurd ok nk⟩⟩
    by_cases q1 : xi.toInt ≤ -1
    · exact jy1 c hM (by omega) hy xi.toInt xw.toInt n i0 q1 j0 j1 n0 n1 kv kn rfl ⟨xi, rfl, rfl⟩ ⟨xw, rfl, rfl⟩ (no (fun k => by have := k.1; omega))
    by_cases q2 : n ≤ xi.toInt
    · exact jy2 c hM (by omega) hy xi.toInt xw.toInt n (by omega) i1 j0 j1 n0 n1 (by omega) kv kn rfl ⟨xi, rfl, rfl⟩ ⟨xw, rfl, rfl⟩ (no (fun k => by have := k.2.1; omega))
    by_cases q3 : xw.toInt ≤ -1
    · exact jy3 c hM (by omega) hy xi.toInt xw.toInt n (by omega) (by omega) j0 q3 n0 n1 (by omega) kv kn rfl ⟨xi, rfl, rfl⟩ ⟨xw, rfl, rfl⟩ (no (fun k => by have := k.2.2.1; omega))
    by_cases q4 : 4 ≤ xw.toInt
    · exact jy4 c hM (by omega) hy xi.toInt xw.toInt n (by omega) (by omega) q4 j1 n0 n1 (by omega) kv kn rfl ⟨xi, rfl, rfl⟩ ⟨xw, rfl, rfl⟩ (no (fun k => by have := k.2.2.2; omega))
    have ok : (0 ≤ xi.toInt ∧ xi.toInt < n ∧ 0 ≤ xw.toInt ∧ xw.toInt ≤ 3) := ⟨by omega, by omega, by omega, by omega⟩
    by_cases q5 : xw.toInt = 3
    · rcases ks xi.toInt (by omega) (by omega) with k | k
      · exact jy60 c hM (by omega) hy xi.toInt n (by omega) (by omega) n0 n1 (by omega) kv kn k rfl ⟨xi, rfl, rfl⟩ ⟨xw, rfl, q5⟩ (fun h' w hw w1 w2 w3 => ⟨w, rfl, rfl, rfl, w1, w2, fun e => by omega, fun _ => ⟨fun nk => absurd ok nk, fun _ => ⟨fun z => absurd q5 z, fun _ => by rw [hw]; exact k⟩⟩⟩)
      · exact jy61 c hM (by omega) hy xi.toInt n (by omega) (by omega) n0 n1 (by omega) kv kn k rfl ⟨xi, rfl, rfl⟩ ⟨xw, rfl, q5⟩ (fun h' w hw w1 w2 w3 => ⟨w, rfl, rfl, rfl, w1, w2, fun e => by omega, fun _ => ⟨fun nk => absurd ok nk, fun _ => ⟨fun z => absurd q5 z, fun _ => by rw [hw]; exact k⟩⟩⟩)
    · obtain ⟨x, kx, x0, x1⟩ := kr (3 * xi.toInt + xw.toInt) (by omega) (by omega)
      exact jy5 c hM (by omega) hy xi.toInt xw.toInt n x (by omega) (by omega) (by omega) (by omega) n0 n1 x0 x1 (by omega) kv kn kx rfl ⟨xi, rfl, rfl⟩ ⟨xw, rfl, rfl⟩ (fun h' w hw w1 w2 w3 => ⟨w, rfl, rfl, rfl, w1, w2, fun e => by omega, fun _ => ⟨fun nk => absurd ok nk, fun _ => ⟨fun _ => by rw [hw]; exact kx, fun z => absurd z q5⟩⟩⟩)
  obtain ⟨n', r, hgo, a, r1, r2, r3, r4⟩ := go
  simp only [Nat.zero_add] at r2 r3
  exact ⟨r, Or.inr ⟨M, n', hM, hl, hgo⟩, a, r1, r2, r3, r4⟩
/-- rows of class and reference are even -/
def jo_R (R R' S F : Int → Option Int) (n : Int) : Prop := ∀ i, 0 ≤ i → i < n → ∃ x y z, (R (3 * i) = some x ∧ R (3 * i + 1) = some y ∧ R (3 * i + 2) = some z) ∧ (R' (3 * i) = some x ∧ R' (3 * i + 1) = some y ∧ R' (3 * i + 2) = some z) ∧ (-1 ≤ x ∧ x ≤ 9 ∧ -1 ≤ y ∧ y ≤ 9 ∧ -1 ≤ z ∧ z ≤ 9) ∧ S i = some (sr F x y z)
def jo_H (cst : am_K) (h1 h2 : am_H) : Prop := ∃ v n, ly_hv cst h2 20103 0 = some v ∧ ly_hv cst h1 17669 0 = some n ∧ 0 ≤ n ∧ n ≤ 30 ∧ ((v = 0 ∧ n = 0) ∨ (v = 1 ∧ ly_hv cst h2 20104 0 = some n ∧ jo_R (ly_hv cst h1 18944) (ly_hv cst h2 44544) (ly_hv cst h2 44800) (ly_hv cst h1 18176) n))
theorem sr_01 (F : Int → Option Int) (x y z : Int) : sr F x y z = 0 ∨ sr F x y z = 1 := by
  unfold sr
  split
  · exact Or.inr rfl
  · exact Or.inl rfl
theorem jo_mv {cst : am_K} {mc mm : List Nat} {h1 h2 r1 r2 : am_H} (I : jo_H cst h1 h2) (u1 : ly_hy m_tt ly_TH h1) (u2 : ly_hy m_tt ly_TH r1) (fc : ly_fr cst mc h1 r1) (fm : ly_fr cst mm h2 r2) (qc : [17669, 18944, 18176].all (fun x => !ly_has x mc) = true) (qm : [20103, 20104, 44544, 44800].all (fun x => !ly_has x mm) = true) : jo_H cst r1 r2 := by
  simp only [List.all_cons, List.all_nil, Bool.and_true, Bool.and_eq_true, Bool.not_eq_true'] at qc qm
  obtain ⟨v, n, k1, k2, n0, n1, k3⟩ := I
  refine ⟨v, n, fm _ _ _ qm.1 k1, fc _ _ _ qc.1 k2, n0, n1, ?_⟩
  rcases k3 with k3 | ⟨ev, k4, k5⟩
  · exact Or.inl k3
  · refine Or.inr ⟨ev, fm _ _ _ qm.2.1 k4, fun i i0 i1 => ?_⟩
    obtain ⟨x, y, z, ⟨a1, a2, a3⟩, ⟨b1, b2, b3⟩, bd, s⟩ := k5 i i0 i1
    refine ⟨x, y, z, ⟨fc _ _ _ qc.2.1 a1, fc _ _ _ qc.2.1 a2, fc _ _ _ qc.2.1 a3⟩, ⟨fm _ _ _ qm.2.2.1 b1, fm _ _ _ qm.2.2.1 b2, fm _ _ _ qm.2.2.1 b3⟩, bd, ?_⟩
    rw [hL1 qc.2.2 u1 u2 fc]
    exact fm _ _ _ qm.2.2.2 s
theorem jo_roll {cst : am_K} {h1 h2 q1 q2 : am_H} (I : jo_H cst h1 h2) (T : tp_H cst h1 h2) (hy2 : ly_hy m_tt ly_TH h2) {n r : Int} (n1 : n ≤ 1200) (C : ro_z cst h1 q1 512 18176 17920 17669 n r) (M : ro_z cst h2 q2 20224 44032 44288 20103 n r) (f1 : ∀ i v, ly_hv cst h1 18944 i = some v → ly_hv cst q1 18944 i = some v) (f2 : ∀ r i v, r = 20104 ∨ r = 44544 ∨ r = 44800 → ly_hv cst h2 r i = some v → ly_hv cst q2 r i = some v) : jo_H cst q1 q2 := by
  by_cases ok : (0 ≤ r ∧ r ≤ 2) ∧ ro_d (ly_hv cst h1 512) n
  · have ok' : (0 ≤ r ∧ r ≤ 2) ∧ ro_d (ly_hv cst h2 20224) n := ⟨ok.1, (ro_dd T hy2 n1).mp ok.2⟩
    exact ⟨0, 0, (M.1 ok').2.2, (C.1 ok).2.2, Int.le_refl _, by omega, Or.inl ⟨rfl, rfl⟩⟩
  · have nk : ¬ ((0 ≤ r ∧ r ≤ 2) ∧ ro_d (ly_hv cst h2 20224) n) := fun k => ok ⟨k.1, (ro_dd T hy2 n1).mpr k.2⟩
    obtain ⟨c1, c2, c3⟩ := C.2 ok
    obtain ⟨m1, m2, m3⟩ := M.2 nk
    obtain ⟨v, k, k1, k2, n0, n1', k3⟩ := I
    refine ⟨v, k, m3 _ k1, c3 _ k2, n0, n1', ?_⟩
    rcases k3 with k3 | ⟨ev, k4, k5⟩
    · exact Or.inl k3
    · refine Or.inr ⟨ev, f2 _ _ _ (Or.inl rfl) k4, fun i i0 i1 => ?_⟩
      obtain ⟨x, y, z, ⟨a1, a2, a3⟩, ⟨b1, b2, b3⟩, bd, s⟩ := k5 i i0 i1
      refine ⟨x, y, z, ⟨f1 _ _ a1, f1 _ _ a2, f1 _ _ a3⟩, ⟨f2 _ _ _ (Or.inr (Or.inl rfl)) b1, f2 _ _ _ (Or.inr (Or.inl rfl)) b2, f2 _ _ _ (Or.inr (Or.inl rfl)) b3⟩, bd, ?_⟩
      rw [c1]
      exact f2 _ _ _ (Or.inr (Or.inr rfl)) s
/-- no line is below nought -/
def jl_H (cst : am_K) (h : am_H) : Prop := ∀ k v, ly_hv cst h 18176 k = some v → 0 ≤ v
theorem jl_mv {cst : am_K} {ms : List Nat} {h h' : am_H} (I : jl_H cst h) (u : ly_hy m_tt ly_TH h) (u' : ly_hy m_tt ly_TH h') (f : ly_fr cst ms h h') (q : ly_has 18176 ms = false) : jl_H cst h' := by
  unfold jl_H
  rw [hL1 q u u' f]
  exact I
theorem jl_roll {cst : am_K} {h q : am_H} {n r : Int} (I : jl_H cst h) (C : ro_z cst h q 512 18176 17920 17669 n r) : jl_H cst q := by
  by_cases ok : (0 ≤ r ∧ r ≤ 2) ∧ ro_d (ly_hv cst h 512) n
  · obtain ⟨c1, -, -⟩ := C.1 ok
    obtain ⟨m3, m30, dg⟩ := ok.2
    have w : ∀ k : Nat, 3 * (k : Int) ≤ n → ∀ i v, rl_w (ly_hv cst h 512) r (ly_hv cst h 18176) k i = some v → 0 ≤ v := by
      intro k
      induction k with
      | zero => exact fun _ => I
      | succ k ih =>
        intro hk i v e
        have e' : hp_upd (rl_w (ly_hv cst h 512) r (ly_hv cst h 18176) k) (10 * r + (k : Int)) (100 * tq_v (ly_hv cst h 512) (3 * (k : Int)) + 10 * tq_v (ly_hv cst h 512) (3 * (k : Int) + 1) + tq_v (ly_hv cst h 512) (3 * (k : Int) + 2) - 5328) i = some v := e
        unfold hp_upd at e'
        by_cases q : i = 10 * r + (k : Int)
        · rw [if_pos q] at e'
          obtain ⟨x0, q0, q00, q01⟩ := dg (3 * (k : Int)) (by omega) (by omega)
          obtain ⟨x1, q1, q10, q11⟩ := dg (3 * (k : Int) + 1) (by omega) (by omega)
          obtain ⟨x2, q2, q20, q21⟩ := dg (3 * (k : Int) + 2) (by omega) (by omega)
          rw [tq_vs q0, tq_vs q1, tq_vs q2] at e'
          have := Option.some.inj e'
          omega
        · rw [if_neg q] at e'
          exact ih (by omega) i v e'
    intro k v e
    rw [c1] at e
    by_cases n0 : 0 ≤ n
    · exact w (n / 3).toNat (by omega) k v e
    · rw [show (n / 3).toNat = 0 by omega] at e
      exact I k v e
  · obtain ⟨c1, -, -⟩ := C.2 ok
    intro k v e
    rw [c1] at e
    exact I k v e
theorem jo_join {cst : am_K} {h1 h2 q1 q2 : am_H} (hq1 : ly_hy m_tt ly_TH q1) (eF : ly_hv cst h1 18176 = ly_hv cst h2 44032) (eG : ly_hv cst h1 17920 = ly_hv cst h2 44288) (eL : ly_hv cst q1 18176 = ly_hv cst h1 18176) (C : wl_P cst h1 q1) (M : jr_P cst h2 q2) : jo_H cst q1 q2 := by
  obtain ⟨ma, mb, md, ⟨k0, k1, k2, A0, B0, D0⟩, j, R, X, Y, T, eW, c1, c2, c3, c4⟩ := C
  obtain ⟨ma', mb', md', ⟨p0, p1, p2, -, -, -⟩, j', R', X', Y', T', eW', m0, m1, m2, m3, m4, m5⟩ := M
  rw [← eG] at p0 p1 p2 T' eW'
  rw [← eF] at T' eW' m5
  have e0 := Option.some.inj (k0.symm.trans p0)
  have e1 := Option.some.inj (k1.symm.trans p1)
  have e2 := Option.some.inj (k2.symm.trans p2)
  subst e0
  subst e1
  subst e2
  have u := wk_eq (f := ly_hv cst h1 18176) k0 k1 k2 (fun a b d a0 a1 b0 b1 d0 d1 => ju_uni k0 k1 k2 T T' ((ma + mb + md - (a + b + d)).toNat + 1) a b d (Nat.lt_succ_self _) a0 a1 b0 b1 d0 d1) 31 0 0 0 0 R R' (Int.le_refl _) A0 (Int.le_refl _) B0 (Int.le_refl _) D0 (fun k x0 x1 => by omega)
  rw [eW, eW'] at u
  obtain ⟨ux, uy⟩ := u
  have ux : X = X' := ux
  subst ux
  refine ⟨1, X, m0, c1, c2, c3, Or.inr ⟨rfl, m1, fun i i0 i1 => ?_⟩⟩
  obtain ⟨x, y, z, a1, a2, a3, s⟩ := m5 i i0 i1
  rw [m4] at a1 a2 a3
  have b1 := (uy (3 * i) (by omega) (by show 3 * i < 3 * X; omega)).trans a1
  have b2 := (uy (3 * i + 1) (by omega) (by show 3 * i + 1 < 3 * X; omega)).trans a2
  have b3 := (uy (3 * i + 2) (by omega) (by show 3 * i + 2 < 3 * X; omega)).trans a3
  have b1' : ly_hv cst q1 18944 (3 * i) = some x := by rw [c4]; exact b1
  have b2' : ly_hv cst q1 18944 (3 * i + 1) = some y := by rw [c4]; exact b2
  have b3' : ly_hv cst q1 18944 (3 * i + 2) = some z := by rw [c4]; exact b3
  have r1 := hp_row (cst := cst) (i := 3 * i) hq1 th_R4 (by omega) (by omega)
  have r2 := hp_row (cst := cst) (i := 3 * i + 1) hq1 th_R4 (by omega) (by omega)
  have r3 := hp_row (cst := cst) (i := 3 * i + 2) hq1 th_R4 (by omega) (by omega)
  obtain ⟨x', g1, x0, x1⟩ := r1
  obtain ⟨y', g2, y0, y1⟩ := r2
  obtain ⟨z', g3, z0, z1⟩ := r3
  have ex := Option.some.inj (b1'.symm.trans g1)
  have ey := Option.some.inj (b2'.symm.trans g2)
  have ez := Option.some.inj (b3'.symm.trans g3)
  refine ⟨x, y, z, ⟨b1', b2', b3'⟩, ⟨by rw [m4]; exact a1, by rw [m4]; exact a2, by rw [m4]; exact a3⟩, ⟨by omega, by omega, by omega, by omega, by omega, by omega⟩, ?_⟩
  rw [eL]
  exact s
theorem jo_of {cst : am_K} {h1 h2 : am_H} (I : jo_H cst h1 h2) : ∃ v n, ly_hv cst h2 20103 0 = some v ∧ ly_hv cst h1 17669 0 = some n ∧ 0 ≤ n ∧ n ≤ 30 ∧ (v = 0 ∨ (v = 1 ∧ ly_hv cst h2 20104 0 = some n ∧ (∀ k, 0 ≤ k → k < 3 * n → ∃ x, ly_hv cst h2 44544 k = some x ∧ -1 ≤ x ∧ x ≤ 9) ∧ ∀ i, 0 ≤ i → i < n → ly_hv cst h2 44800 i = some 0 ∨ ly_hv cst h2 44800 i = some 1)) ∧ ((v = 0 ∧ n = 0) ∨ (v = 1 ∧ jo_R (ly_hv cst h1 18944) (ly_hv cst h2 44544) (ly_hv cst h2 44800) (ly_hv cst h1 18176) n)) := by
  obtain ⟨v, n, k1, k2, n0, n1, k3⟩ := I
  refine ⟨v, n, k1, k2, n0, n1, ?_, ?_⟩
  · rcases k3 with k3 | ⟨ev, k4, k5⟩
    · exact Or.inl k3.1
    · refine Or.inr ⟨ev, k4, fun k k0 k1 => ?_, fun i i0 i1 => ?_⟩
      · obtain ⟨x, y, z, -, ⟨b1, b2, b3⟩, bd, -⟩ := k5 (k / 3) (by omega) (by omega)
        by_cases q0 : k % 3 = 0
        · rw [show 3 * (k / 3) = k by omega] at b1
          exact ⟨x, b1, bd.1, bd.2.1⟩
        by_cases q1 : k % 3 = 1
        · rw [show 3 * (k / 3) + 1 = k by omega] at b2
          exact ⟨y, b2, bd.2.2.1, bd.2.2.2.1⟩
        · rw [show 3 * (k / 3) + 2 = k by omega] at b3
          exact ⟨z, b3, bd.2.2.2.2.1, bd.2.2.2.2.2⟩
      · obtain ⟨x, y, z, -, -, -, s⟩ := k5 i i0 i1
        rw [s]
        rcases sr_01 (ly_hv cst h1 18176) x y z with e | e
        · exact Or.inl (by rw [e])
        · exact Or.inr (by rw [e])
  · rcases k3 with k3 | ⟨ev, k4, k5⟩
    · exact Or.inl k3
    · exact Or.inr ⟨ev, k5⟩
theorem jo_both {R R' S F : Int → Option Int} {v n i w a b : Int} (K : (v = 0 ∧ n = 0) ∨ (v = 1 ∧ jo_R R R' S F n)) (A : jd_A R (sr_S R F) n i w a) (B : (v = 0 → b = -9) ∧ (v = 1 → jd_A R' S n i w b)) : b = a := by
  rcases K with ⟨ev, en⟩ | ⟨ev, k⟩
  · rw [B.1 ev, A.1 (fun z => by have := z.1; have := z.2.1; omega)]
  · have B := B.2 ev
    by_cases ok : 0 ≤ i ∧ i < n ∧ 0 ≤ w ∧ w ≤ 3
    · obtain ⟨x, y, z, ⟨a1, a2, a3⟩, ⟨b1, b2, b3⟩, -, s⟩ := k i ok.1 ok.2.1
      by_cases w3 : w = 3
      · have p := (A.2 ok).2 w3
        have q := (B.2 ok).2 w3
        rw [sr_Sof a1 a2 a3] at p
        rw [s] at q
        exact (Option.some.inj q).symm.trans (Option.some.inj p)
      · have p := (A.2 ok).1 w3
        have q := (B.2 ok).1 w3
        by_cases w0 : w = 0
        · subst w0
          rw [Int.add_zero] at p q
          rw [a1] at p
          rw [b1] at q
          exact (Option.some.inj q).symm.trans (Option.some.inj p)
        by_cases w1 : w = 1
        · subst w1
          rw [a2] at p
          rw [b2] at q
          exact (Option.some.inj q).symm.trans (Option.some.inj p)
        · have w2 : w = 2 := by omega
          subst w2
          rw [a3] at p
          rw [b3] at q
          exact (Option.some.inj q).symm.trans (Option.some.inj p)
    · rw [A.1 ok, B.1 ok]
