/-! PRINTED by wip/p2/hp_act.py: act of the class, exactly -/
theorem ea0_k : hq_chk [106] 107 0 4 [(0, (-2147483648), 2147483647), (1, (-2147483648), 2147483647), (2, 0, 1240), (3, 0, 10240)] [] [(0, .inr (.inr (.inl (some 30)))), (1, .inl (0, [(0, 1)])), (2, .inl (0, [(1, 1)]))] [] [(3584, (0, []), (30, [])), (4352, (30, []), (0, [(2, 1)])), (5632, (0, [(2, 1)]), (0, [(3, 1)]))] [3588, 3594, 3596, 60010, 60011, 60012] 3 [] [([], 4, [(0, (-2147483648), 2147483647), (1, (-2147483648), 2147483647), (2, 0, 1240), (3, 0, 10240)], [], [], [.inl ((-3), [])], [(3588, (0, []), (0, [(2, 1)])), (3594, (0, []), (0, [(3, 1)])), (3596, (0, []), (0, []))])] = true := by decide +kernel
theorem ea0 {cst : am_K} {strs : List Nat} {Φ : am_Q → Prop} {D : Nat} {M : am_M} {h : am_H} {l : am_L} (c : hp_C cst strs D) (hM : m_P[107]? = some M) (hD : (3 : Int) ≤ (D : Int) + 1) (hy : ly_hy m_tt ly_TH h) (d s f i : Int) (b0 : (-2147483648) ≤ d) (t0 : d ≤ 2147483647) (b1 : (-2147483648) ≤ s) (t1 : s ≤ 2147483647) (b2 : 0 ≤ f) (t2 : f ≤ 1240) (b3 : 0 ≤ i) (t3 : i ≤ 10240) (k0 : ly_hv cst h 3584 0 = some 30) (k1 : ly_hv cst h 4352 30 = some (f)) (k2 : ly_hv cst h 5632 (f) = some (i)) (l0 : hp_a l 0 30) (l1 : hp_i l 1 (d)) (l2 : hp_i l 2 (s)) (r0 : ∀ (h' : am_H) (y0 : Int32), y0.toInt = (-3) → ly_hy m_tt ly_TH h' → ly_fr cst [3588, 3594, 3596, 60010, 60011, 60012] h h' → h.length ≤ h'.length → ly_hv cst h' 3588 0 = some (f) → ly_hv cst h' 3594 0 = some (i) → ly_hv cst h' 3596 0 = some 0 → Φ (some (.int y0), h', 0, 0)) : hp_F cst strs Φ D M 0 l [] h := by
  refine hq_arc c hM ea0_k hD [d, s, f, i] rfl hy (hp_Bc (z := d) rfl b0 t0 (hp_Bc (z := s) rfl b1 t1 (hp_Bc (z := f) rfl b2 t2 (hp_Bc (z := i) rfl b3 t3 hp_Bn)))) hp_Fn (hp_Kc (zi := (0 + 0)) (zv := (30 + 0)) k0 rfl rfl (by omega) (by omega) (hp_Kc (zi := (30 + 0)) (zv := (0 + (1 * f + 0))) k1 rfl rfl (by omega) (by omega) (hp_Kc (zi := (0 + (1 * f + 0))) (zv := (0 + (1 * i + 0))) k2 rfl rfl (by omega) (by omega) hp_Kn))) (hp_La l0 (hp_Li (z := (0 + (1 * d + 0))) l1 rfl (by omega) (hp_Li (z := (0 + (1 * s + 0))) l2 rfl (by omega) hp_Ln))) trivial ?_ ?_
  · intro p hp ys l' st' h' hys a1 a2 a3 gZ gL gS
    cases hp
  · intro p hp ys v h' hys a1 a2 a3 gZ gS
    rcases List.mem_cons.mp hp with rfl | hp
    · obtain rfl := hp_y0 hys
      cases v with
      | none => cases gS
      | some w =>
        obtain ⟨y0, t0, s0, q0, -⟩ := hp_gSi (z := ((-3) + 0)) gS rfl
        cases s0
        exact r0 h' y0 (by omega) a1 a2 a3 (hp_gK (zi := (0 + 0)) (zv := (0 + (1 * f + 0))) gZ.2.2.2 (List.mem_of_getElem? (i := 0) rfl) rfl rfl (by omega) (by omega)) (hp_gK (zi := (0 + 0)) (zv := (0 + (1 * i + 0))) gZ.2.2.2 (List.mem_of_getElem? (i := 1) rfl) rfl rfl (by omega) (by omega)) (hp_gK (zi := (0 + 0)) (zv := (0 + 0)) gZ.2.2.2 (List.mem_of_getElem? (i := 2) rfl) rfl rfl (by omega) (by omega))
    cases hp
theorem ea1_k : hp_chk 107 0 3 [(0, (-2147483648), 2147483647), (1, (-2147483648), 2147483647), (2, 0, 29)] [] [(0, .inr (.inr (.inl (some 30)))), (1, .inl (0, [(0, 1)])), (2, .inl (0, [(1, 1)]))] [] [(3584, (0, []), (0, [(2, 1)])), (3596, (0, []), (0, []))] [] 2 [(32, ([], 3, [(0, (-2147483648), 2147483647), (1, (-2147483648), 2147483647), (2, 0, 29)], [], [(0, .inr (.inr (.inl (some 30)))), (1, .inl (0, [(0, 1)])), (2, .inl (0, [(1, 1)]))], [.inl (0, [(0, 1)]), .inl (0, [(2, 1)]), .inr (.inr (.inl (some 31)))], []))] [] = true := by decide +kernel
theorem ea1 {cst : am_K} {strs : List Nat} {Φ : am_Q → Prop} {D : Nat} {M : am_M} {h : am_H} {l : am_L} (c : hp_C cst strs D) (hM : m_P[107]? = some M) (hD : (2 : Int) ≤ (D : Int) + 1) (hy : ly_hy m_tt ly_TH h) (d s ac : Int) (b0 : (-2147483648) ≤ d) (t0 : d ≤ 2147483647) (b1 : (-2147483648) ≤ s) (t1 : s ≤ 2147483647) (b2 : 0 ≤ ac) (t2 : ac ≤ 29) (k0 : ly_hv cst h 3584 0 = some (ac)) (k1 : ly_hv cst h 3596 0 = some 0) (l0 : hp_a l 0 30) (l1 : hp_i l 1 (d)) (l2 : hp_i l 2 (s)) (e0 : ∀ (l' : am_L) (h' : am_H) (y0 : Int32) (y1 : Int32), y0.toInt = (d) → y1.toInt = (ac) → ly_hy m_tt ly_TH h' → ly_fr cst [] h h' → h.length ≤ h'.length → hp_a l' 0 30 → hp_i l' 1 (d) → hp_i l' 2 (s) → hp_F cst strs Φ D M 32 l' [.int y0, .int y1, .ref 31] h') : hp_F cst strs Φ D M 0 l [] h := by
  refine hp_arc c hM ea1_k hD [d, s, ac] rfl hy (hp_Bc (z := d) rfl b0 t0 (hp_Bc (z := s) rfl b1 t1 (hp_Bc (z := ac) rfl b2 t2 hp_Bn))) hp_Fn (hp_Kc (zi := (0 + 0)) (zv := (0 + (1 * ac + 0))) k0 rfl rfl (by omega) (by omega) (hp_Kc (zi := (0 + 0)) (zv := (0 + 0)) k1 rfl rfl (by omega) (by omega) hp_Kn)) (hp_La l0 (hp_Li (z := (0 + (1 * d + 0))) l1 rfl (by omega) (hp_Li (z := (0 + (1 * s + 0))) l2 rfl (by omega) hp_Ln))) trivial ?_ ?_
  · intro p hp ys l' st' h' hys a1 a2 a3 gZ gL gS
    rcases List.mem_cons.mp hp with rfl | hp
    · obtain rfl := hp_y0 hys
      obtain ⟨y0, t0, rfl, q0, g0⟩ := hp_gSi (z := (0 + (1 * d + 0))) gS rfl
      obtain ⟨y1, t1, rfl, q1, g1⟩ := hp_gSi (z := (0 + (1 * ac + 0))) g0 rfl
      obtain ⟨t2, rfl, g2⟩ := hp_gSa g1 (by decide)
      cases hp_gSn g2
      exact e0 l' h' y0 y1 (by omega) (by omega) a1 a2 a3 (hp_gLa gL (List.mem_of_getElem? (i := 0) rfl) (by decide)) (hp_gLi (z := (0 + (1 * d + 0))) gL (List.mem_of_getElem? (i := 1) rfl) rfl (by omega)) (hp_gLi (z := (0 + (1 * s + 0))) gL (List.mem_of_getElem? (i := 2) rfl) rfl (by omega))
    cases hp
  · intro p hp ys v h' hys a1 a2 a3 gZ gS
    cases hp
theorem ea2_k : hp_chk 107 33 3 [(0, (-2147483648), 2147483647), (1, (-2147483648), 2147483647), (2, 0, 29)] [] [(0, .inr (.inr (.inl (some 30)))), (1, .inl (0, [(0, 1)])), (2, .inl (0, [(1, 1)]))] [] [(3584, (0, []), (0, [(2, 1)]))] [] 2 [(42, ([], 3, [(0, (-2147483648), 2147483647), (1, (-2147483648), 2147483647), (2, 0, 29)], [], [(0, .inr (.inr (.inl (some 30))))], [.inl (0, [(1, 1)]), .inl (0, [(2, 1)]), .inr (.inr (.inl (some 32)))], []))] [] = true := by decide +kernel
theorem ea2 {cst : am_K} {strs : List Nat} {Φ : am_Q → Prop} {D : Nat} {M : am_M} {h : am_H} {l : am_L} (c : hp_C cst strs D) (hM : m_P[107]? = some M) (hD : (2 : Int) ≤ (D : Int) + 1) (hy : ly_hy m_tt ly_TH h) (d s ac : Int) (b0 : (-2147483648) ≤ d) (t0 : d ≤ 2147483647) (b1 : (-2147483648) ≤ s) (t1 : s ≤ 2147483647) (b2 : 0 ≤ ac) (t2 : ac ≤ 29) (k0 : ly_hv cst h 3584 0 = some (ac)) (l0 : hp_a l 0 30) (l1 : hp_i l 1 (d)) (l2 : hp_i l 2 (s)) (e0 : ∀ (l' : am_L) (h' : am_H) (y0 : Int32) (y1 : Int32), y0.toInt = (s) → y1.toInt = (ac) → ly_hy m_tt ly_TH h' → ly_fr cst [] h h' → h.length ≤ h'.length → hp_a l' 0 30 → hp_F cst strs Φ D M 42 l' [.int y0, .int y1, .ref 32] h') : hp_F cst strs Φ D M 33 l [] h := by
  refine hp_arc c hM ea2_k hD [d, s, ac] rfl hy (hp_Bc (z := d) rfl b0 t0 (hp_Bc (z := s) rfl b1 t1 (hp_Bc (z := ac) rfl b2 t2 hp_Bn))) hp_Fn (hp_Kc (zi := (0 + 0)) (zv := (0 + (1 * ac + 0))) k0 rfl rfl (by omega) (by omega) hp_Kn) (hp_La l0 (hp_Li (z := (0 + (1 * d + 0))) l1 rfl (by omega) (hp_Li (z := (0 + (1 * s + 0))) l2 rfl (by omega) hp_Ln))) trivial ?_ ?_
  · intro p hp ys l' st' h' hys a1 a2 a3 gZ gL gS
    rcases List.mem_cons.mp hp with rfl | hp
    · obtain rfl := hp_y0 hys
      obtain ⟨y0, t0, rfl, q0, g0⟩ := hp_gSi (z := (0 + (1 * s + 0))) gS rfl
      obtain ⟨y1, t1, rfl, q1, g1⟩ := hp_gSi (z := (0 + (1 * ac + 0))) g0 rfl
      obtain ⟨t2, rfl, g2⟩ := hp_gSa g1 (by decide)
      cases hp_gSn g2
      exact e0 l' h' y0 y1 (by omega) (by omega) a1 a2 a3 (hp_gLa gL (List.mem_of_getElem? (i := 0) rfl) (by decide))
    cases hp
  · intro p hp ys v h' hys a1 a2 a3 gZ gS
    cases hp
theorem ea3_k : hp_chk 107 43 2 [(0, 0, 29), (1, 0, 1240)] [] [(0, .inr (.inr (.inl (some 30))))] [] [(3584, (0, []), (0, [(0, 1)])), (3588, (0, []), (0, [(1, 1)]))] [3584, 60010, 60011, 60012] 2 [(65, ([], 2, [(0, 0, 29), (1, 0, 1240)], [], [(0, .inr (.inr (.inl (some 30))))], [.inl (0, [(1, 1)]), .inl (1, [(0, 1)]), .inr (.inr (.inl (some 33)))], [(3584, (0, []), (1, [(0, 1)])), (3588, (0, []), (0, [(1, 1)]))]))] [] = true := by decide +kernel
theorem ea3 {cst : am_K} {strs : List Nat} {Φ : am_Q → Prop} {D : Nat} {M : am_M} {h : am_H} {l : am_L} (c : hp_C cst strs D) (hM : m_P[107]? = some M) (hD : (2 : Int) ≤ (D : Int) + 1) (hy : ly_hy m_tt ly_TH h) (ac g : Int) (b0 : 0 ≤ ac) (t0 : ac ≤ 29) (b1 : 0 ≤ g) (t1 : g ≤ 1240) (k0 : ly_hv cst h 3584 0 = some (ac)) (k1 : ly_hv cst h 3588 0 = some (g)) (l0 : hp_a l 0 30) (e0 : ∀ (l' : am_L) (h' : am_H) (y0 : Int32) (y1 : Int32), y0.toInt = (g) → y1.toInt = (ac + 1) → ly_hy m_tt ly_TH h' → ly_fr cst [3584, 60010, 60011, 60012] h h' → h.length ≤ h'.length → ly_hv cst h' 3584 0 = some (ac + 1) → ly_hv cst h' 3588 0 = some (g) → hp_a l' 0 30 → hp_F cst strs Φ D M 65 l' [.int y0, .int y1, .ref 33] h') : hp_F cst strs Φ D M 43 l [] h := by
  refine hp_arc c hM ea3_k hD [ac, g] rfl hy (hp_Bc (z := ac) rfl b0 t0 (hp_Bc (z := g) rfl b1 t1 hp_Bn)) hp_Fn (hp_Kc (zi := (0 + 0)) (zv := (0 + (1 * ac + 0))) k0 rfl rfl (by omega) (by omega) (hp_Kc (zi := (0 + 0)) (zv := (0 + (1 * g + 0))) k1 rfl rfl (by omega) (by omega) hp_Kn)) (hp_La l0 hp_Ln) trivial ?_ ?_
  · intro p hp ys l' st' h' hys a1 a2 a3 gZ gL gS
    rcases List.mem_cons.mp hp with rfl | hp
    · obtain rfl := hp_y0 hys
      obtain ⟨y0, t0, rfl, q0, g0⟩ := hp_gSi (z := (0 + (1 * g + 0))) gS rfl
      obtain ⟨y1, t1, rfl, q1, g1⟩ := hp_gSi (z := (1 + (1 * ac + 0))) g0 rfl
      obtain ⟨t2, rfl, g2⟩ := hp_gSa g1 (by decide)
      cases hp_gSn g2
      exact e0 l' h' y0 y1 (by omega) (by omega) a1 a2 a3 (hp_gK (zi := (0 + 0)) (zv := (1 + (1 * ac + 0))) gZ.2.2.2 (List.mem_of_getElem? (i := 0) rfl) rfl rfl (by omega) (by omega)) (hp_gK (zi := (0 + 0)) (zv := (0 + (1 * g + 0))) gZ.2.2.2 (List.mem_of_getElem? (i := 1) rfl) rfl rfl (by omega) (by omega)) (hp_gLa gL (List.mem_of_getElem? (i := 0) rfl) (by decide))
    cases hp
  · intro p hp ys v h' hys a1 a2 a3 gZ gS
    cases hp
theorem ea4_k : hp_chk 107 66 1 [(0, 0, 29)] [] [(0, .inr (.inr (.inl (some 30))))] [] [(3584, (0, []), (1, [(0, 1)]))] [] 2 [] [([], 1, [(0, 0, 29)], [], [], [.inl (0, [(0, 1)])], [])] = true := by decide +kernel
theorem ea4 {cst : am_K} {strs : List Nat} {Φ : am_Q → Prop} {D : Nat} {M : am_M} {h : am_H} {l : am_L} (c : hp_C cst strs D) (hM : m_P[107]? = some M) (hD : (2 : Int) ≤ (D : Int) + 1) (hy : ly_hy m_tt ly_TH h) (ac : Int) (b0 : 0 ≤ ac) (t0 : ac ≤ 29) (k0 : ly_hv cst h 3584 0 = some (ac + 1)) (l0 : hp_a l 0 30) (r0 : ∀ (h' : am_H) (y0 : Int32), y0.toInt = (ac) → ly_hy m_tt ly_TH h' → ly_fr cst [] h h' → h.length ≤ h'.length → Φ (some (.int y0), h', 0, 0)) : hp_F cst strs Φ D M 66 l [] h := by
  refine hp_arc c hM ea4_k hD [ac] rfl hy (hp_Bc (z := ac) rfl b0 t0 hp_Bn) hp_Fn (hp_Kc (zi := (0 + 0)) (zv := (1 + (1 * ac + 0))) k0 rfl rfl (by omega) (by omega) hp_Kn) (hp_La l0 hp_Ln) trivial ?_ ?_
  · intro p hp ys l' st' h' hys a1 a2 a3 gZ gL gS
    cases hp
  · intro p hp ys v h' hys a1 a2 a3 gZ gS
    rcases List.mem_cons.mp hp with rfl | hp
    · obtain rfl := hp_y0 hys
      cases v with
      | none => cases gS
      | some w =>
        obtain ⟨y0, t0, s0, q0, -⟩ := hp_gSi (z := (0 + (1 * ac + 0))) gS rfl
        cases s0
        exact r0 h' y0 (by omega) a1 a2 a3
    cases hp
theorem at0_k : hp_chk 70 0 2 [(0, (-2147483648), 2147483647), (1, (-2147483648), 2147483647)] [] [(0, .inr (.inr (.inl (some 16)))), (1, .inl (0, [(0, 1)])), (2, .inl (0, [(1, 1)]))] [] [] [] 2 [(4, ([], 2, [(0, (-2147483648), 2147483647), (1, (-2147483648), 2147483647)], [], [(0, .inr (.inr (.inl (some 16)))), (1, .inl (0, [(0, 1)])), (2, .inl (0, [(1, 1)]))], [.inr (.inr (.inl (some 17)))], []))] [] = true := by decide +kernel
theorem at0 {cst : am_K} {strs : List Nat} {Φ : am_Q → Prop} {D : Nat} {M : am_M} {h : am_H} {l : am_L} (c : hp_C cst strs D) (hM : m_P[70]? = some M) (hD : (2 : Int) ≤ (D : Int) + 1) (hy : ly_hy m_tt ly_TH h) (d s : Int) (b0 : (-2147483648) ≤ d) (t0 : d ≤ 2147483647) (b1 : (-2147483648) ≤ s) (t1 : s ≤ 2147483647) (l0 : hp_a l 0 16) (l1 : hp_i l 1 (d)) (l2 : hp_i l 2 (s)) (e0 : ∀ (l' : am_L) (h' : am_H), ly_hy m_tt ly_TH h' → ly_fr cst [] h h' → h.length ≤ h'.length → hp_a l' 0 16 → hp_i l' 1 (d) → hp_i l' 2 (s) → hp_F cst strs Φ D M 4 l' [.ref 17] h') : hp_F cst strs Φ D M 0 l [] h := by
  refine hp_arc c hM at0_k hD [d, s] rfl hy (hp_Bc (z := d) rfl b0 t0 (hp_Bc (z := s) rfl b1 t1 hp_Bn)) hp_Fn hp_Kn (hp_La l0 (hp_Li (z := (0 + (1 * d + 0))) l1 rfl (by omega) (hp_Li (z := (0 + (1 * s + 0))) l2 rfl (by omega) hp_Ln))) trivial ?_ ?_
  · intro p hp ys l' st' h' hys a1 a2 a3 gZ gL gS
    rcases List.mem_cons.mp hp with rfl | hp
    · obtain rfl := hp_y0 hys
      obtain ⟨t0, rfl, g0⟩ := hp_gSa gS (by decide)
      cases hp_gSn g0
      exact e0 l' h' a1 a2 a3 (hp_gLa gL (List.mem_of_getElem? (i := 0) rfl) (by decide)) (hp_gLi (z := (0 + (1 * d + 0))) gL (List.mem_of_getElem? (i := 1) rfl) rfl (by omega)) (hp_gLi (z := (0 + (1 * s + 0))) gL (List.mem_of_getElem? (i := 2) rfl) rfl (by omega))
    cases hp
  · intro p hp ys v h' hys a1 a2 a3 gZ gS
    cases hp
theorem atA_k : hq_chk [39, 25, 76] 70 7 2 [(0, (-2147483648), (-1)), (1, (-2147483648), 2147483647)] [] [(0, .inr (.inr (.inl (some 16)))), (1, .inl (0, [(0, 1)])), (2, .inl (0, [(1, 1)]))] [] [] [] 4 [] [([], 2, [(0, (-2147483648), (-1)), (1, (-2147483648), 2147483647)], [], [], [.inl ((-2), [])], [])] = true := by decide +kernel
theorem atA {cst : am_K} {strs : List Nat} {Φ : am_Q → Prop} {D : Nat} {M : am_M} {h : am_H} {l : am_L} (c : hp_C cst strs D) (hM : m_P[70]? = some M) (hD : (4 : Int) ≤ (D : Int) + 1) (hy : ly_hy m_tt ly_TH h) (d s : Int) (b0 : (-2147483648) ≤ d) (t0 : d ≤ (-1)) (b1 : (-2147483648) ≤ s) (t1 : s ≤ 2147483647) (l0 : hp_a l 0 16) (l1 : hp_i l 1 (d)) (l2 : hp_i l 2 (s)) (r0 : ∀ (h' : am_H) (y0 : Int32), y0.toInt = (-2) → ly_hy m_tt ly_TH h' → ly_fr cst [] h h' → h.length ≤ h'.length → Φ (some (.int y0), h', 0, 0)) : hp_F cst strs Φ D M 7 l [] h := by
  refine hq_arc c hM atA_k hD [d, s] rfl hy (hp_Bc (z := d) rfl b0 t0 (hp_Bc (z := s) rfl b1 t1 hp_Bn)) hp_Fn hp_Kn (hp_La l0 (hp_Li (z := (0 + (1 * d + 0))) l1 rfl (by omega) (hp_Li (z := (0 + (1 * s + 0))) l2 rfl (by omega) hp_Ln))) trivial ?_ ?_
  · intro p hp ys l' st' h' hys a1 a2 a3 gZ gL gS
    cases hp
  · intro p hp ys v h' hys a1 a2 a3 gZ gS
    rcases List.mem_cons.mp hp with rfl | hp
    · obtain rfl := hp_y0 hys
      cases v with
      | none => cases gS
      | some w =>
        obtain ⟨y0, t0, s0, q0, -⟩ := hp_gSi (z := ((-2) + 0)) gS rfl
        cases s0
        exact r0 h' y0 (by omega) a1 a2 a3
    cases hp
theorem atB_k : hq_chk [39, 25, 76] 70 7 2 [(0, 400, 2147483647), (1, (-2147483648), 2147483647)] [] [(0, .inr (.inr (.inl (some 16)))), (1, .inl (0, [(0, 1)])), (2, .inl (0, [(1, 1)]))] [] [] [] 4 [] [([], 2, [(0, 400, 2147483647), (1, (-2147483648), 2147483647)], [], [], [.inl ((-2), [])], [])] = true := by decide +kernel
theorem atB {cst : am_K} {strs : List Nat} {Φ : am_Q → Prop} {D : Nat} {M : am_M} {h : am_H} {l : am_L} (c : hp_C cst strs D) (hM : m_P[70]? = some M) (hD : (4 : Int) ≤ (D : Int) + 1) (hy : ly_hy m_tt ly_TH h) (d s : Int) (b0 : 400 ≤ d) (t0 : d ≤ 2147483647) (b1 : (-2147483648) ≤ s) (t1 : s ≤ 2147483647) (l0 : hp_a l 0 16) (l1 : hp_i l 1 (d)) (l2 : hp_i l 2 (s)) (r0 : ∀ (h' : am_H) (y0 : Int32), y0.toInt = (-2) → ly_hy m_tt ly_TH h' → ly_fr cst [] h h' → h.length ≤ h'.length → Φ (some (.int y0), h', 0, 0)) : hp_F cst strs Φ D M 7 l [] h := by
  refine hq_arc c hM atB_k hD [d, s] rfl hy (hp_Bc (z := d) rfl b0 t0 (hp_Bc (z := s) rfl b1 t1 hp_Bn)) hp_Fn hp_Kn (hp_La l0 (hp_Li (z := (0 + (1 * d + 0))) l1 rfl (by omega) (hp_Li (z := (0 + (1 * s + 0))) l2 rfl (by omega) hp_Ln))) trivial ?_ ?_
  · intro p hp ys l' st' h' hys a1 a2 a3 gZ gL gS
    cases hp
  · intro p hp ys v h' hys a1 a2 a3 gZ gS
    rcases List.mem_cons.mp hp with rfl | hp
    · obtain rfl := hp_y0 hys
      cases v with
      | none => cases gS
      | some w =>
        obtain ⟨y0, t0, s0, q0, -⟩ := hp_gSi (z := ((-2) + 0)) gS rfl
        cases s0
        exact r0 h' y0 (by omega) a1 a2 a3
    cases hp
theorem atC_k : hq_chk [39, 25, 76] 70 7 2 [(0, 0, 399), (1, (-2147483648), 0)] [] [(0, .inr (.inr (.inl (some 16)))), (1, .inl (0, [(0, 1)])), (2, .inl (0, [(1, 1)]))] [] [] [] 4 [] [([], 2, [(0, 0, 399), (1, (-2147483648), 0)], [], [], [.inl ((-2), [])], [])] = true := by decide +kernel
theorem atC {cst : am_K} {strs : List Nat} {Φ : am_Q → Prop} {D : Nat} {M : am_M} {h : am_H} {l : am_L} (c : hp_C cst strs D) (hM : m_P[70]? = some M) (hD : (4 : Int) ≤ (D : Int) + 1) (hy : ly_hy m_tt ly_TH h) (d s : Int) (b0 : 0 ≤ d) (t0 : d ≤ 399) (b1 : (-2147483648) ≤ s) (t1 : s ≤ 0) (l0 : hp_a l 0 16) (l1 : hp_i l 1 (d)) (l2 : hp_i l 2 (s)) (r0 : ∀ (h' : am_H) (y0 : Int32), y0.toInt = (-2) → ly_hy m_tt ly_TH h' → ly_fr cst [] h h' → h.length ≤ h'.length → Φ (some (.int y0), h', 0, 0)) : hp_F cst strs Φ D M 7 l [] h := by
  refine hq_arc c hM atC_k hD [d, s] rfl hy (hp_Bc (z := d) rfl b0 t0 (hp_Bc (z := s) rfl b1 t1 hp_Bn)) hp_Fn hp_Kn (hp_La l0 (hp_Li (z := (0 + (1 * d + 0))) l1 rfl (by omega) (hp_Li (z := (0 + (1 * s + 0))) l2 rfl (by omega) hp_Ln))) trivial ?_ ?_
  · intro p hp ys l' st' h' hys a1 a2 a3 gZ gL gS
    cases hp
  · intro p hp ys v h' hys a1 a2 a3 gZ gS
    rcases List.mem_cons.mp hp with rfl | hp
    · obtain rfl := hp_y0 hys
      cases v with
      | none => cases gS
      | some w =>
        obtain ⟨y0, t0, s0, q0, -⟩ := hp_gSi (z := ((-2) + 0)) gS rfl
        cases s0
        exact r0 h' y0 (by omega) a1 a2 a3
    cases hp
theorem atD_k : hq_chk [39, 25, 76] 70 7 2 [(0, 0, 399), (1, 64, 2147483647)] [] [(0, .inr (.inr (.inl (some 16)))), (1, .inl (0, [(0, 1)])), (2, .inl (0, [(1, 1)]))] [] [] [] 4 [] [([], 2, [(0, 0, 399), (1, 64, 2147483647)], [], [], [.inl ((-2), [])], [])] = true := by decide +kernel
theorem atD {cst : am_K} {strs : List Nat} {Φ : am_Q → Prop} {D : Nat} {M : am_M} {h : am_H} {l : am_L} (c : hp_C cst strs D) (hM : m_P[70]? = some M) (hD : (4 : Int) ≤ (D : Int) + 1) (hy : ly_hy m_tt ly_TH h) (d s : Int) (b0 : 0 ≤ d) (t0 : d ≤ 399) (b1 : 64 ≤ s) (t1 : s ≤ 2147483647) (l0 : hp_a l 0 16) (l1 : hp_i l 1 (d)) (l2 : hp_i l 2 (s)) (r0 : ∀ (h' : am_H) (y0 : Int32), y0.toInt = (-2) → ly_hy m_tt ly_TH h' → ly_fr cst [] h h' → h.length ≤ h'.length → Φ (some (.int y0), h', 0, 0)) : hp_F cst strs Φ D M 7 l [] h := by
  refine hq_arc c hM atD_k hD [d, s] rfl hy (hp_Bc (z := d) rfl b0 t0 (hp_Bc (z := s) rfl b1 t1 hp_Bn)) hp_Fn hp_Kn (hp_La l0 (hp_Li (z := (0 + (1 * d + 0))) l1 rfl (by omega) (hp_Li (z := (0 + (1 * s + 0))) l2 rfl (by omega) hp_Ln))) trivial ?_ ?_
  · intro p hp ys l' st' h' hys a1 a2 a3 gZ gL gS
    cases hp
  · intro p hp ys v h' hys a1 a2 a3 gZ gS
    rcases List.mem_cons.mp hp with rfl | hp
    · obtain rfl := hp_y0 hys
      cases v with
      | none => cases gS
      | some w =>
        obtain ⟨y0, t0, s0, q0, -⟩ := hp_gSi (z := ((-2) + 0)) gS rfl
        cases s0
        exact r0 h' y0 (by omega) a1 a2 a3
    cases hp
theorem atE_k : hq_chk [39, 25, 76] 70 7 2 [(0, 0, 399), (1, 1, 63)] [] [(0, .inr (.inr (.inl (some 16)))), (1, .inl (0, [(0, 1)])), (2, .inl (0, [(1, 1)]))] [] [(3584, (0, []), (0, []))] [] 4 [(42, ([], 2, [(0, 0, 399), (1, 1, 63)], [], [(0, .inr (.inr (.inl (some 16)))), (1, .inl (0, [(0, 1)])), (2, .inl (0, [(1, 1)]))], [.inr (.inr (.inl (some 40)))], []))] [] = true := by decide +kernel
theorem atE {cst : am_K} {strs : List Nat} {Φ : am_Q → Prop} {D : Nat} {M : am_M} {h : am_H} {l : am_L} (c : hp_C cst strs D) (hM : m_P[70]? = some M) (hD : (4 : Int) ≤ (D : Int) + 1) (hy : ly_hy m_tt ly_TH h) (d s : Int) (b0 : 0 ≤ d) (t0 : d ≤ 399) (b1 : 1 ≤ s) (t1 : s ≤ 63) (k0 : ly_hv cst h 3584 0 = some 0) (l0 : hp_a l 0 16) (l1 : hp_i l 1 (d)) (l2 : hp_i l 2 (s)) (e0 : ∀ (l' : am_L) (h' : am_H), ly_hy m_tt ly_TH h' → ly_fr cst [] h h' → h.length ≤ h'.length → hp_a l' 0 16 → hp_i l' 1 (d) → hp_i l' 2 (s) → hp_F cst strs Φ D M 42 l' [.ref 40] h') : hp_F cst strs Φ D M 7 l [] h := by
  refine hq_arc c hM atE_k hD [d, s] rfl hy (hp_Bc (z := d) rfl b0 t0 (hp_Bc (z := s) rfl b1 t1 hp_Bn)) hp_Fn (hp_Kc (zi := (0 + 0)) (zv := (0 + 0)) k0 rfl rfl (by omega) (by omega) hp_Kn) (hp_La l0 (hp_Li (z := (0 + (1 * d + 0))) l1 rfl (by omega) (hp_Li (z := (0 + (1 * s + 0))) l2 rfl (by omega) hp_Ln))) trivial ?_ ?_
  · intro p hp ys l' st' h' hys a1 a2 a3 gZ gL gS
    rcases List.mem_cons.mp hp with rfl | hp
    · obtain rfl := hp_y0 hys
      obtain ⟨t0, rfl, g0⟩ := hp_gSa gS (by decide)
      cases hp_gSn g0
      exact e0 l' h' a1 a2 a3 (hp_gLa gL (List.mem_of_getElem? (i := 0) rfl) (by decide)) (hp_gLi (z := (0 + (1 * d + 0))) gL (List.mem_of_getElem? (i := 1) rfl) rfl (by omega)) (hp_gLi (z := (0 + (1 * s + 0))) gL (List.mem_of_getElem? (i := 2) rfl) rfl (by omega))
    cases hp
  · intro p hp ys v h' hys a1 a2 a3 gZ gS
    cases hp
theorem atF_k : hq_chk [39, 25, 76] 70 7 4 [(0, 0, 399), (1, 1, 63), (2, 1, 30), (3, (-2147483648), 2147483647)] [((-1), [(0, (-1)), (3, 1)])] [(0, .inr (.inr (.inl (some 16)))), (1, .inl (0, [(0, 1)])), (2, .inl (0, [(1, 1)]))] [] [(3584, (0, []), (0, [(2, 1)])), (3840, ((-1), [(2, 1)]), (0, [(3, 1)]))] [] 4 [] [([], 4, [(0, 0, 399), (1, 1, 63), (2, 1, 30), (3, (-2147483648), 2147483647)], [], [], [.inl ((-2), [])], [])] = true := by decide +kernel
theorem atF {cst : am_K} {strs : List Nat} {Φ : am_Q → Prop} {D : Nat} {M : am_M} {h : am_H} {l : am_L} (c : hp_C cst strs D) (hM : m_P[70]? = some M) (hD : (4 : Int) ≤ (D : Int) + 1) (hy : ly_hy m_tt ly_TH h) (d s ac e : Int) (b0 : 0 ≤ d) (t0 : d ≤ 399) (b1 : 1 ≤ s) (t1 : s ≤ 63) (b2 : 1 ≤ ac) (t2 : ac ≤ 30) (b3 : (-2147483648) ≤ e) (t3 : e ≤ 2147483647) (f0 : 0 ≤ (e - d - 1)) (k0 : ly_hv cst h 3584 0 = some (ac)) (k1 : ly_hv cst h 3840 (ac - 1) = some (e)) (l0 : hp_a l 0 16) (l1 : hp_i l 1 (d)) (l2 : hp_i l 2 (s)) (r0 : ∀ (h' : am_H) (y0 : Int32), y0.toInt = (-2) → ly_hy m_tt ly_TH h' → ly_fr cst [] h h' → h.length ≤ h'.length → Φ (some (.int y0), h', 0, 0)) : hp_F cst strs Φ D M 7 l [] h := by
  refine hq_arc c hM atF_k hD [d, s, ac, e] rfl hy (hp_Bc (z := d) rfl b0 t0 (hp_Bc (z := s) rfl b1 t1 (hp_Bc (z := ac) rfl b2 t2 (hp_Bc (z := e) rfl b3 t3 hp_Bn)))) (hp_Fc (z := ((-1) + ((-1) * d + (1 * e + 0)))) rfl (by omega) hp_Fn) (hp_Kc (zi := (0 + 0)) (zv := (0 + (1 * ac + 0))) k0 rfl rfl (by omega) (by omega) (hp_Kc (zi := ((-1) + (1 * ac + 0))) (zv := (0 + (1 * e + 0))) k1 rfl rfl (by omega) (by omega) hp_Kn)) (hp_La l0 (hp_Li (z := (0 + (1 * d + 0))) l1 rfl (by omega) (hp_Li (z := (0 + (1 * s + 0))) l2 rfl (by omega) hp_Ln))) trivial ?_ ?_
  · intro p hp ys l' st' h' hys a1 a2 a3 gZ gL gS
    cases hp
  · intro p hp ys v h' hys a1 a2 a3 gZ gS
    rcases List.mem_cons.mp hp with rfl | hp
    · obtain rfl := hp_y0 hys
      cases v with
      | none => cases gS
      | some w =>
        obtain ⟨y0, t0, s0, q0, -⟩ := hp_gSi (z := ((-2) + 0)) gS rfl
        cases s0
        exact r0 h' y0 (by omega) a1 a2 a3
    cases hp
theorem atG_k : hq_chk [39, 25, 76] 70 7 4 [(0, 0, 399), (1, 1, 63), (2, 1, 30), (3, (-2147483648), 2147483647)] [(0, [(0, 1), (3, (-1))])] [(0, .inr (.inr (.inl (some 16)))), (1, .inl (0, [(0, 1)])), (2, .inl (0, [(1, 1)]))] [] [(3584, (0, []), (0, [(2, 1)])), (3840, ((-1), [(2, 1)]), (0, [(3, 1)]))] [] 4 [(42, ([], 4, [(0, 0, 399), (1, 1, 63), (2, 1, 30), (3, (-2147483648), 2147483647)], [], [(0, .inr (.inr (.inl (some 16)))), (1, .inl (0, [(0, 1)])), (2, .inl (0, [(1, 1)]))], [.inr (.inr (.inl (some 40)))], []))] [] = true := by decide +kernel
theorem atG {cst : am_K} {strs : List Nat} {Φ : am_Q → Prop} {D : Nat} {M : am_M} {h : am_H} {l : am_L} (c : hp_C cst strs D) (hM : m_P[70]? = some M) (hD : (4 : Int) ≤ (D : Int) + 1) (hy : ly_hy m_tt ly_TH h) (d s ac e : Int) (b0 : 0 ≤ d) (t0 : d ≤ 399) (b1 : 1 ≤ s) (t1 : s ≤ 63) (b2 : 1 ≤ ac) (t2 : ac ≤ 30) (b3 : (-2147483648) ≤ e) (t3 : e ≤ 2147483647) (f0 : 0 ≤ (d - e)) (k0 : ly_hv cst h 3584 0 = some (ac)) (k1 : ly_hv cst h 3840 (ac - 1) = some (e)) (l0 : hp_a l 0 16) (l1 : hp_i l 1 (d)) (l2 : hp_i l 2 (s)) (e0 : ∀ (l' : am_L) (h' : am_H), ly_hy m_tt ly_TH h' → ly_fr cst [] h h' → h.length ≤ h'.length → hp_a l' 0 16 → hp_i l' 1 (d) → hp_i l' 2 (s) → hp_F cst strs Φ D M 42 l' [.ref 40] h') : hp_F cst strs Φ D M 7 l [] h := by
  refine hq_arc c hM atG_k hD [d, s, ac, e] rfl hy (hp_Bc (z := d) rfl b0 t0 (hp_Bc (z := s) rfl b1 t1 (hp_Bc (z := ac) rfl b2 t2 (hp_Bc (z := e) rfl b3 t3 hp_Bn)))) (hp_Fc (z := (0 + (1 * d + ((-1) * e + 0)))) rfl (by omega) hp_Fn) (hp_Kc (zi := (0 + 0)) (zv := (0 + (1 * ac + 0))) k0 rfl rfl (by omega) (by omega) (hp_Kc (zi := ((-1) + (1 * ac + 0))) (zv := (0 + (1 * e + 0))) k1 rfl rfl (by omega) (by omega) hp_Kn)) (hp_La l0 (hp_Li (z := (0 + (1 * d + 0))) l1 rfl (by omega) (hp_Li (z := (0 + (1 * s + 0))) l2 rfl (by omega) hp_Ln))) trivial ?_ ?_
  · intro p hp ys l' st' h' hys a1 a2 a3 gZ gL gS
    rcases List.mem_cons.mp hp with rfl | hp
    · obtain rfl := hp_y0 hys
      obtain ⟨t0, rfl, g0⟩ := hp_gSa gS (by decide)
      cases hp_gSn g0
      exact e0 l' h' a1 a2 a3 (hp_gLa gL (List.mem_of_getElem? (i := 0) rfl) (by decide)) (hp_gLi (z := (0 + (1 * d + 0))) gL (List.mem_of_getElem? (i := 1) rfl) rfl (by omega)) (hp_gLi (z := (0 + (1 * s + 0))) gL (List.mem_of_getElem? (i := 2) rfl) rfl (by omega))
    cases hp
  · intro p hp ys v h' hys a1 a2 a3 gZ gS
    cases hp
theorem atH_k : hq_chk [106] 70 45 5 [(0, (-2147483648), 2147483647), (1, (-2147483648), 2147483647), (2, 0, 30), (3, 0, 1240), (4, 0, 10240)] [] [(0, .inr (.inr (.inl (some 16)))), (1, .inl (0, [(0, 1)])), (2, .inl (0, [(1, 1)]))] [.inl (0, [])] [(3584, (0, []), (0, [(2, 1)])), (4352, (0, [(2, 1)]), (0, [(3, 1)])), (5632, (0, [(3, 1)]), (0, [(4, 1)]))] [3588, 3594, 3596, 60010, 60011, 60012] 3 [] [([], 5, [(0, (-2147483648), 2147483647), (1, (-2147483648), 2147483647), (2, 0, 30), (3, 0, 1240), (4, 0, 10240)], [], [], [.inl ((-1), [])], [(3588, (0, []), (0, [(3, 1)])), (3594, (0, []), (0, [(4, 1)])), (3596, (0, []), (0, []))])] = true := by decide +kernel
theorem atH {cst : am_K} {strs : List Nat} {Φ : am_Q → Prop} {D : Nat} {M : am_M} {h : am_H} {l : am_L} (c : hp_C cst strs D) (hM : m_P[70]? = some M) (hD : (3 : Int) ≤ (D : Int) + 1) (hy : ly_hy m_tt ly_TH h) (d s ac f i : Int) (x0 : Int32) (hx0 : x0.toInt = 0) (b0 : (-2147483648) ≤ d) (t0 : d ≤ 2147483647) (b1 : (-2147483648) ≤ s) (t1 : s ≤ 2147483647) (b2 : 0 ≤ ac) (t2 : ac ≤ 30) (b3 : 0 ≤ f) (t3 : f ≤ 1240) (b4 : 0 ≤ i) (t4 : i ≤ 10240) (k0 : ly_hv cst h 3584 0 = some (ac)) (k1 : ly_hv cst h 4352 (ac) = some (f)) (k2 : ly_hv cst h 5632 (f) = some (i)) (l0 : hp_a l 0 16) (l1 : hp_i l 1 (d)) (l2 : hp_i l 2 (s)) (r0 : ∀ (h' : am_H) (y0 : Int32), y0.toInt = (-1) → ly_hy m_tt ly_TH h' → ly_fr cst [3588, 3594, 3596, 60010, 60011, 60012] h h' → h.length ≤ h'.length → ly_hv cst h' 3588 0 = some (f) → ly_hv cst h' 3594 0 = some (i) → ly_hv cst h' 3596 0 = some 0 → Φ (some (.int y0), h', 0, 0)) : hp_F cst strs Φ D M 45 l [.int x0] h := by
  refine hq_arc c hM atH_k hD [d, s, ac, f, i] rfl hy (hp_Bc (z := d) rfl b0 t0 (hp_Bc (z := s) rfl b1 t1 (hp_Bc (z := ac) rfl b2 t2 (hp_Bc (z := f) rfl b3 t3 (hp_Bc (z := i) rfl b4 t4 hp_Bn))))) hp_Fn (hp_Kc (zi := (0 + 0)) (zv := (0 + (1 * ac + 0))) k0 rfl rfl (by omega) (by omega) (hp_Kc (zi := (0 + (1 * ac + 0))) (zv := (0 + (1 * f + 0))) k1 rfl rfl (by omega) (by omega) (hp_Kc (zi := (0 + (1 * f + 0))) (zv := (0 + (1 * i + 0))) k2 rfl rfl (by omega) (by omega) hp_Kn))) (hp_La l0 (hp_Li (z := (0 + (1 * d + 0))) l1 rfl (by omega) (hp_Li (z := (0 + (1 * s + 0))) l2 rfl (by omega) hp_Ln))) (hp_Si (z := (0 + 0)) rfl (by omega) trivial) ?_ ?_
  · intro p hp ys l' st' h' hys a1 a2 a3 gZ gL gS
    cases hp
  · intro p hp ys v h' hys a1 a2 a3 gZ gS
    rcases List.mem_cons.mp hp with rfl | hp
    · obtain rfl := hp_y0 hys
      cases v with
      | none => cases gS
      | some w =>
        obtain ⟨y0, t0, s0, q0, -⟩ := hp_gSi (z := ((-1) + 0)) gS rfl
        cases s0
        exact r0 h' y0 (by omega) a1 a2 a3 (hp_gK (zi := (0 + 0)) (zv := (0 + (1 * f + 0))) gZ.2.2.2 (List.mem_of_getElem? (i := 0) rfl) rfl rfl (by omega) (by omega)) (hp_gK (zi := (0 + 0)) (zv := (0 + (1 * i + 0))) gZ.2.2.2 (List.mem_of_getElem? (i := 1) rfl) rfl rfl (by omega) (by omega)) (hp_gK (zi := (0 + 0)) (zv := (0 + 0)) gZ.2.2.2 (List.mem_of_getElem? (i := 2) rfl) rfl rfl (by omega) (by omega))
    cases hp
theorem atI_k : hp_chk 70 45 2 [(0, (-2147483648), 2147483647), (1, (-2147483648), 2147483647)] [] [(0, .inr (.inr (.inl (some 16)))), (1, .inl (0, [(0, 1)])), (2, .inl (0, [(1, 1)]))] [.inl (1, [])] [] [] 2 [(63, ([], 2, [(0, (-2147483648), 2147483647), (1, (-2147483648), 2147483647)], [], [(0, .inr (.inr (.inl (some 16)))), (1, .inl (0, [(0, 1)])), (2, .inl (0, [(1, 1)]))], [.inl (0, [(1, 1)]), .inl (0, [(0, 1)]), .inr (.inr (.inl (some 30)))], []))] [] = true := by decide +kernel
theorem atI {cst : am_K} {strs : List Nat} {Φ : am_Q → Prop} {D : Nat} {M : am_M} {h : am_H} {l : am_L} (c : hp_C cst strs D) (hM : m_P[70]? = some M) (hD : (2 : Int) ≤ (D : Int) + 1) (hy : ly_hy m_tt ly_TH h) (d s : Int) (x0 : Int32) (hx0 : x0.toInt = 1) (b0 : (-2147483648) ≤ d) (t0 : d ≤ 2147483647) (b1 : (-2147483648) ≤ s) (t1 : s ≤ 2147483647) (l0 : hp_a l 0 16) (l1 : hp_i l 1 (d)) (l2 : hp_i l 2 (s)) (e0 : ∀ (l' : am_L) (h' : am_H) (y0 : Int32) (y1 : Int32), y0.toInt = (s) → y1.toInt = (d) → ly_hy m_tt ly_TH h' → ly_fr cst [] h h' → h.length ≤ h'.length → hp_a l' 0 16 → hp_i l' 1 (d) → hp_i l' 2 (s) → hp_F cst strs Φ D M 63 l' [.int y0, .int y1, .ref 30] h') : hp_F cst strs Φ D M 45 l [.int x0] h := by
  refine hp_arc c hM atI_k hD [d, s] rfl hy (hp_Bc (z := d) rfl b0 t0 (hp_Bc (z := s) rfl b1 t1 hp_Bn)) hp_Fn hp_Kn (hp_La l0 (hp_Li (z := (0 + (1 * d + 0))) l1 rfl (by omega) (hp_Li (z := (0 + (1 * s + 0))) l2 rfl (by omega) hp_Ln))) (hp_Si (z := (1 + 0)) rfl (by omega) trivial) ?_ ?_
  · intro p hp ys l' st' h' hys a1 a2 a3 gZ gL gS
    rcases List.mem_cons.mp hp with rfl | hp
    · obtain rfl := hp_y0 hys
      obtain ⟨y0, t0, rfl, q0, g0⟩ := hp_gSi (z := (0 + (1 * s + 0))) gS rfl
      obtain ⟨y1, t1, rfl, q1, g1⟩ := hp_gSi (z := (0 + (1 * d + 0))) g0 rfl
      obtain ⟨t2, rfl, g2⟩ := hp_gSa g1 (by decide)
      cases hp_gSn g2
      exact e0 l' h' y0 y1 (by omega) (by omega) a1 a2 a3 (hp_gLa gL (List.mem_of_getElem? (i := 0) rfl) (by decide)) (hp_gLi (z := (0 + (1 * d + 0))) gL (List.mem_of_getElem? (i := 1) rfl) rfl (by omega)) (hp_gLi (z := (0 + (1 * s + 0))) gL (List.mem_of_getElem? (i := 2) rfl) rfl (by omega))
    cases hp
  · intro p hp ys v h' hys a1 a2 a3 gZ gS
    cases hp
theorem atJ_k : hp_chk 70 66 3 [(0, (-2147483648), 2147483647), (1, (-2147483648), 2147483647), (2, (-2147483648), 2147483647)] [] [(0, .inr (.inr (.inl (some 16)))), (1, .inl (0, [(0, 1)])), (2, .inl (0, [(1, 1)]))] [.inl (0, [(2, 1)])] [] [] 2 [] [([], 3, [(0, (-2147483648), 2147483647), (1, (-2147483648), 2147483647), (2, (-2147483648), 2147483647)], [], [], [.inl (0, [(2, 1)])], [])] = true := by decide +kernel
theorem atJ {cst : am_K} {strs : List Nat} {Φ : am_Q → Prop} {D : Nat} {M : am_M} {h : am_H} {l : am_L} (c : hp_C cst strs D) (hM : m_P[70]? = some M) (hD : (2 : Int) ≤ (D : Int) + 1) (hy : ly_hy m_tt ly_TH h) (d s y : Int) (x0 : Int32) (hx0 : x0.toInt = (y)) (b0 : (-2147483648) ≤ d) (t0 : d ≤ 2147483647) (b1 : (-2147483648) ≤ s) (t1 : s ≤ 2147483647) (b2 : (-2147483648) ≤ y) (t2 : y ≤ 2147483647) (l0 : hp_a l 0 16) (l1 : hp_i l 1 (d)) (l2 : hp_i l 2 (s)) (r0 : ∀ (h' : am_H) (y0 : Int32), y0.toInt = (y) → ly_hy m_tt ly_TH h' → ly_fr cst [] h h' → h.length ≤ h'.length → Φ (some (.int y0), h', 0, 0)) : hp_F cst strs Φ D M 66 l [.int x0] h := by
  refine hp_arc c hM atJ_k hD [d, s, y] rfl hy (hp_Bc (z := d) rfl b0 t0 (hp_Bc (z := s) rfl b1 t1 (hp_Bc (z := y) rfl b2 t2 hp_Bn))) hp_Fn hp_Kn (hp_La l0 (hp_Li (z := (0 + (1 * d + 0))) l1 rfl (by omega) (hp_Li (z := (0 + (1 * s + 0))) l2 rfl (by omega) hp_Ln))) (hp_Si (z := (0 + (1 * y + 0))) rfl (by omega) trivial) ?_ ?_
  · intro p hp ys l' st' h' hys a1 a2 a3 gZ gL gS
    cases hp
  · intro p hp ys v h' hys a1 a2 a3 gZ gS
    rcases List.mem_cons.mp hp with rfl | hp
    · obtain rfl := hp_y0 hys
      cases v with
      | none => cases gS
      | some w =>
        obtain ⟨y0, t0, s0, q0, -⟩ := hp_gSi (z := (0 + (1 * y + 0))) gS rfl
        cases s0
        exact r0 h' y0 (by omega) a1 a2 a3
    cases hp
/-- the law at rest: A acts, c0 clauses, i0 items -/
def la (cst : am_K) (h : am_H) (A : Int) (c0 i0 : Nat) : Prop := ly_hv cst h 3584 0 = some A ∧ ly_hv cst h 4352 A = some (c0 : Int) ∧ ly_hv cst h 3588 0 = some (c0 : Int) ∧ ly_hv cst h 3594 0 = some (i0 : Int) ∧ ly_hv cst h 5632 (c0 : Int) = some (i0 : Int) ∧ ly_hv cst h 3596 0 = some 0
theorem la_mv {cst : am_K} {h h' : am_H} {A : Int} {c0 i0 : Nat} {ms : List Nat} (X : la cst h A c0 i0) (fr : ly_fr cst ms h h') (q : [3584, 4352, 3588, 3594, 5632, 3596].all (fun x => !ly_has x ms) = true) : la cst h' A c0 i0 := by
  simp only [List.all_cons, List.all_nil, Bool.and_true, Bool.and_eq_true, Bool.not_eq_true'] at q
  obtain ⟨q1, q2, q3, q4, q5, q6⟩ := q
  obtain ⟨a1, a2, a3, a4, a5, a6⟩ := X
  exact ⟨fr _ _ _ q1 a1, fr _ _ _ q2 a2, fr _ _ _ q3 a3, fr _ _ _ q4 a4, fr _ _ _ q5 a5, fr _ _ _ q6 a6⟩
/-- a row with one place told anew: what is above it is free -/
def sto (cst : am_K) (r : Nat) (i v : Int) (h h' : am_H) : Prop := ly_hv cst h' r i = some v ∧ ∀ j u, j ≠ i → ly_hv cst h r j = some u → ly_hv cst h' r j = some u
/-- enact: full, or one act more, its clauses up to c9, its items up to i9 -/
def en_P (cst : am_K) (h h' : am_H) (A : Int) (c0 i0 c9 i9 : Nat) (day sh w : Int) : Prop := (A = 30 → w = -3 ∧ la cst h' A c0 i0 ∧ (∀ j u, ly_hv cst h 3840 j = some u → ly_hv cst h' 3840 j = some u) ∧ (∀ j u, ly_hv cst h 4096 j = some u → ly_hv cst h' 4096 j = some u) ∧ (∀ j u, ly_hv cst h 4352 j = some u → ly_hv cst h' 4352 j = some u)) ∧ (A ≠ 30 → w = A ∧ la cst h' (A + 1) c9 i9 ∧ sto cst 3840 A day h h' ∧ sto cst 4096 A sh h h' ∧ sto cst 4352 (A + 1) (c9 : Int) h h')
theorem ea_run {cst : am_K} {strs : List Nat} {D : Nat} {h : am_H} (c : hp_C cst strs D) (hD : 3 ≤ D) (hy : ly_hy m_tt ly_TH h) {A : Int} {c0 i0 c9 i9 : Nat} (A0 : 0 ≤ A) (A1 : A ≤ 30) (cb : (c9 : Int) ≤ 1240) (cb0 : (c0 : Int) ≤ 1240) (ib0 : (i0 : Int) ≤ 10240) (kA : ly_hv cst h 3584 0 = some A) (kF : ly_hv cst h 4352 A = some (c0 : Int)) (kI : ly_hv cst h 5632 (c0 : Int) = some (i0 : Int)) (kC : ly_hv cst h 3588 0 = some (c9 : Int)) (kI9 : ly_hv cst h 5632 (c9 : Int) = some (i9 : Int)) (kT : ly_hv cst h 3594 0 = some (i9 : Int)) (kO : ly_hv cst h 3596 0 = some 0) {xd xs : Int32} :
    ∃ r, am_Run cst m_cl m_tt m_P strs sx_bi (D + 1) 107 [.ref 30, .int xd, .int xs] h r ∧ (fun r : am_Q => ∃ w : Int32, r.1 = some (.int w) ∧ r.2.2.1 = 0 ∧ r.2.2.2 = 0 ∧ ly_hy m_tt ly_TH r.2.1 ∧ ly_fr cst [3584, 3588, 3594, 3596, 3840, 4096, 4352, 60010, 60011, 60012] h r.2.1 ∧ en_P cst h r.2.1 A c0 i0 c9 i9 xd.toInt xs.toInt w.toInt) r := by
  obtain ⟨M, hM, hl⟩ := hp_M (mi := 107) (k := 3) (by decide +kernel)
  have bd : -2147483648 ≤ xd.toInt := xd.le_toInt
  have bd' : xd.toInt ≤ 2147483647 := xd.toInt_le
  have bs : -2147483648 ≤ xs.toInt := xs.le_toInt
  have bs' : xs.toInt ≤ 2147483647 := xs.toInt_le
  have start : hp_F cst strs (fun r : am_Q => ∃ w : Int32, r.1 = some (.int w) ∧ r.2.2.1 = 0 ∧ r.2.2.2 = 0 ∧ ly_hy m_tt ly_TH r.2.1 ∧ ly_fr cst [3584, 3588, 3594, 3596, 3840, 4096, 4352, 60010, 60011, 60012] h r.2.1 ∧ en_P cst h r.2.1 A c0 i0 c9 i9 xd.toInt xs.toInt w.toInt) D M 0 (lv_args 0 [.ref 30, .int xd, .int xs]) [] h := by
    by_cases q30 : A = 30
    · subst q30
      exact ea0 c hM (by omega) hy xd.toInt xs.toInt (c0 : Int) (i0 : Int) bd bd' bs bs' (by omega) cb0 (by omega) ib0 kA kF kI rfl ⟨xd, rfl, rfl⟩ ⟨xs, rfl, rfl⟩ (fun h2 w hw u1 u2 u3 k1 k2 k3 => ⟨w, rfl, rfl, rfl, u1, hp_sub2 rfl u2, fun _ => ⟨hw, ⟨u2 _ _ _ rfl kA, u2 _ _ _ rfl kF, k1, k2, u2 _ _ _ rfl kI, k3⟩, fun j u e => u2 _ _ _ rfl e, fun j u e => u2 _ _ _ rfl e, fun j u e => u2 _ _ _ rfl e⟩, fun z => absurd rfl z⟩)
    refine ea1 c hM (by omega) hy xd.toInt xs.toInt A bd bd' bs bs' A0 (by omega) kA kO rfl ⟨xd, rfl, rfl⟩ ⟨xs, rfl, rfl⟩ (fun l1 h1 y0 y1 f0 f1 u1 u2 u3 g0 g1 g2 => ?_)
    refine hp_st (c := 15) hM (by decide +kernel) u1 (show ly_ths ly_TH 15 = some (.inl (.int, 30, -2147483648, 2147483647)) from rfl) rfl (by omega) (by omega) (by omega) (by omega) (fun h2 q1 q2 q3 => ?_)
    rw [f0, f1] at q3
    have q3 : hp_put cst 3840 A xd.toInt h1 h2 := q3
    have F2 : ly_fr cst [3840] h h2 := ly_fr_tr (hp_sub2 rfl u2) (hp_put_fr (by rfl) q3)
    refine ea2 c hM (by omega) q1 xd.toInt xs.toInt A bd bd' bs bs' A0 (by omega) (F2 _ _ _ rfl kA) g0 g1 g2 (fun l3 h3 y2 y3 f2 f3 v1 v2 v3 o0 => ?_)
    refine hp_st (c := 16) hM (by decide +kernel) v1 (show ly_ths ly_TH 16 = some (.inl (.int, 30, -2147483648, 2147483647)) from rfl) rfl (by omega) (by omega) (by omega) (by omega) (fun h4 s1 s2 s3 => ?_)
    rw [f2, f3] at s3
    have s3 : hp_put cst 4096 A xs.toInt h3 h4 := s3
    have F4 : ly_fr cst [3840, 4096] h h4 := ly_fr_tr (hp_sub2 rfl F2) (ly_fr_tr (hp_sub2 rfl v2) (hp_put_fr (by rfl) s3))
    refine ea3 c hM (by omega) s1 A (c9 : Int) A0 (by omega) (by omega) cb (F4 _ _ _ rfl kA) (F4 _ _ _ rfl kC) o0 (fun l5 h5 y4 y5 f4 f5 w1 w2 w3 k5 k6 p0 => ?_)
    refine hp_st0 (c := 17) hM (by decide +kernel) w1 (show ly_ths ly_TH 17 = some (.inl (.int, 31, 0, 1240)) from rfl) (by omega) (by omega) (by omega) (by omega) (fun h6 z1 z2 z3 => ?_)
    rw [f4, f5] at z3
    have z3 : hp_p0 cst 4352 (A + 1) (c9 : Int) h5 h6 := z3
    have F6 : ly_fr cst [4352, 60010, 60011, 60012] h5 h6 := hp_p0_fr z3 (by decide) rfl rfl
    have F56 : ly_fr cst [3584, 60010, 60011, 60012] h4 h5 := w2
    have put4 : ly_hv cst h6 4352 (A + 1) = some (c9 : Int) := by
      rw [ly_hv0 (by decide)]
      exact z3.1
    have oth4 : ∀ j u, j ≠ A + 1 → ly_hv cst h 4352 j = some u → ly_hv cst h6 4352 j = some u := fun j u hj e => by
      rw [ly_hv0 (by decide), z3.2 _ _ (Or.inr hj), ← ly_hv0 (by decide)]
      exact w2 _ _ _ rfl (F4 _ _ _ rfl e)
    have old3 : ∀ j u, j ≠ A → ly_hv cst h 3840 j = some u → ly_hv cst h4 3840 j = some u := fun j u hj e => by
      rw [s3.2 _ _ (Or.inl (by decide))]
      refine v2 _ _ _ rfl ?_
      rw [q3.2 _ _ (Or.inr hj)]
      exact u2 _ _ _ rfl e
    have new3 : ly_hv cst h4 3840 A = some xd.toInt := by
      rw [s3.2 _ _ (Or.inl (by decide))]
      exact v2 _ _ _ rfl q3.1
    have old4 : ∀ j u, j ≠ A → ly_hv cst h 4096 j = some u → ly_hv cst h4 4096 j = some u := fun j u hj e => by
      rw [s3.2 _ _ (Or.inr hj)]
      exact v2 _ _ _ rfl (F2 _ _ _ rfl e)
    refine ea4 c hM (by omega) z1 A A0 (by omega) (F6 _ _ _ rfl k5) p0 (fun h7 w hw r1 r2 r3 => ⟨w, rfl, rfl, rfl, r1, ly_fr_tr (hp_sub2 rfl F4) (ly_fr_tr (hp_sub2 rfl w2) (ly_fr_tr (hp_sub2 rfl F6) (hp_sub2 rfl r2))), fun z => absurd z q30, fun _ => ⟨hw, ⟨?_, ?_, ?_, ?_, ?_, ?_⟩, ⟨?_, ?_⟩, ⟨?_, ?_⟩, ⟨?_, ?_⟩⟩⟩)
    · exact r2 _ _ _ rfl (F6 _ _ _ rfl k5)
    · exact r2 _ _ _ rfl put4
    · exact r2 _ _ _ rfl (F6 _ _ _ rfl k6)
    · exact r2 _ _ _ rfl (F6 _ _ _ rfl (w2 _ _ _ rfl (F4 _ _ _ rfl kT)))
    · exact r2 _ _ _ rfl (F6 _ _ _ rfl (w2 _ _ _ rfl (F4 _ _ _ rfl kI9)))
    · exact r2 _ _ _ rfl (F6 _ _ _ rfl (w2 _ _ _ rfl (F4 _ _ _ rfl kO)))
    · exact r2 _ _ _ rfl (F6 _ _ _ rfl (w2 _ _ _ rfl new3))
    · exact fun j u hj e => r2 _ _ _ rfl (F6 _ _ _ rfl (w2 _ _ _ rfl (old3 j u hj e)))
    · exact r2 _ _ _ rfl (F6 _ _ _ rfl (w2 _ _ _ rfl s3.1))
    · exact fun j u hj e => r2 _ _ _ rfl (F6 _ _ _ rfl (w2 _ _ _ rfl (old4 j u hj e)))
    · exact r2 _ _ _ rfl put4
    · exact fun j u hj e => r2 _ _ _ rfl (oth4 j u hj e)
  obtain ⟨n', r, hgo, w, r1, r2, r3, r4⟩ := start
  simp only [Nat.zero_add] at r2 r3
  exact ⟨r, Or.inr ⟨M, n', hM, hl, hgo⟩, w, r1, r2, r3, r4⟩
abbrev ac_mods : List Nat := [257, 261, 262, 768, 1024, 1280, 3584, 3588, 3594, 3596, 3840, 4096, 4352, 4608, 4864, 5120, 5376, 5632, 5888, 6144, 6145, 6151, 6152, 6153, 6154, 6155, 6156, 6157, 6158, 6159, 6160, 6400, 60010, 60011, 60012, 60080, 60081, 60082]
theorem fi_last : ∀ (C : List cl) (i : Int), (fi i C)[C.length]'(by rw [fi_len]; omega) = i + ((cit C).length : Int)
  | [], i => by simp [fi, cit]
  | x :: C, i => by
    have ih := fi_last C (i + (x.2.2.2.length : Int))
    simp only [fi, List.length_cons, List.getElem_cons_succ]
    rw [ih]
    simp only [cit, List.flatMap_cons, List.length_append]
    omega
/-- the law in force: A acts, clauses c0, items i0 -/
def laS (cst : am_K) (h : am_H) (A : Int) (i0 : List Int) (c0 : List cl) : Prop := ly_hv cst h 3584 0 = some A ∧ ly_hv cst h 4352 A = some (c0.length : Int) ∧ dr cst h i0 c0 [] ∧ it cst h i0 []
theorem laS_mv {cst : am_K} {h h' : am_H} {A : Int} {i0 : List Int} {c0 : List cl} {ms : List Nat} (X : laS cst h A i0 c0) (fr : ly_fr cst ms h h') (q1 : ly_has 3584 ms = false) (q2 : ly_has 4352 ms = false) (q3 : [3588, 4608, 4864, 5120, 5632, 3584, 4352, 5376].all (fun x => !ly_has x ms) = true) (q4 : [3594, 3596, 5888].all (fun x => !ly_has x ms) = true) : laS cst h' A i0 c0 := ⟨fr _ _ _ q1 X.1, fr _ _ _ q2 X.2.1, dr_mv X.2.2.1 fr q3, it_mv X.2.2.2 fr q4⟩
theorem laS_of {cst : am_K} {h : am_H} {A : Int} {i0 : List Int} {c0 : List cl} (O : ox cst h i0 c0) (W : ow cst h c0.length c0.length) (ei : i0 = cit c0) (L : la cst h A c0.length i0.length) : laS cst h A i0 c0 := by
  obtain ⟨l1, l2, l3, l4, -, l6⟩ := L
  obtain ⟨o1, o2, o3, o4, o5⟩ := O
  refine ⟨l1, l2, ⟨?_, ?_, ?_, ?_, ?_, ei, W⟩, ?_, l6, ?_⟩
  · rw [l3]
    simp
  · rw [List.append_nil]
    exact o1
  · rw [List.append_nil]
    exact o2
  · rw [List.append_nil]
    exact o3
  · rw [List.append_nil]
    exact o4
  · rw [l4]
    simp
  · rw [List.append_nil]
    exact o5
theorem od_fi {cst : am_K} {h : am_H} {i0 : List Int} {c0 : List cl} (O : ox cst h i0 c0) (ei : i0 = cit c0) : ly_hv cst h 5632 (c0.length : Int) = some (i0.length : Int) := by
  have z := O.2.2.2.1 c0.length (by rw [fi_len]; omega)
  rw [fi_last, Int.zero_add, Int.zero_add, ← ei] at z
  exact z
/-- rows of the acts as they were -/
def arw (cst : am_K) (h h' : am_H) : Prop := (∀ j u, ly_hv cst h 3840 j = some u → ly_hv cst h' 3840 j = some u) ∧ (∀ j u, ly_hv cst h 4096 j = some u → ly_hv cst h' 4096 j = some u) ∧ (∀ j u, ly_hv cst h 4352 j = some u → ly_hv cst h' 4352 j = some u)
def ac_ok (A d s e : Int) : Prop := 0 ≤ d ∧ d ≤ 399 ∧ 1 ≤ s ∧ s ≤ 63 ∧ (A ≠ 0 → e ≤ d)
def ac_P (cst : am_K) (h h' : am_H) (A : Int) (i0 : List Int) (c0 : List cl) (pl : Int → Int) (t : Nat) (n : Int) (res : (Int × Nat) ⊕ List cl) (d s e w : Int) : Prop := (¬ ac_ok A d s e → w = -2 ∧ laS cst h' A i0 c0 ∧ arw cst h h' ∧ (∀ v, ly_hv cst h 6144 0 = some v → ly_hv cst h' 6144 0 = some v) ∧ ∀ v, ly_hv cst h 6145 0 = some v → ly_hv cst h' 6145 0 = some v) ∧ (ac_ok A d s e → (∀ k b, res = .inl (k, b) → w = -1 ∧ laS cst h' A i0 c0 ∧ arw cst h h' ∧ ly_hv cst h' 6144 0 = some k ∧ ly_hv cst h' 6145 0 = some (pa pl t n b)) ∧ ∀ C, res = .inr C → ly_hv cst h' 6144 0 = some 0 ∧ ly_hv cst h' 6145 0 = some (-1) ∧ C.length ≤ 40 ∧ ((cit C).length : Int) ≤ n ∧ wC C ∧ (A = 30 → w = -3 ∧ laS cst h' A i0 c0 ∧ arw cst h h') ∧ (A ≠ 30 → w = A ∧ laS cst h' (A + 1) (i0 ++ cit C) (c0 ++ C) ∧ sto cst 3840 A d h h' ∧ sto cst 4096 A s h h' ∧ sto cst 4352 (A + 1) ((c0 ++ C).length : Int) h h'))
set_option maxHeartbeats 8000000 in
/-- act of the class -/
theorem ac_run {cst : am_K} {strs : List Nat} {D : Nat} {h : am_H} (cc : ∀ d, hp_C cst strs d) (hD : 6 ≤ D) (hy : ly_hy m_tt ly_TH h) {N : Nat} (n1 : (N : Int) ≤ 1200) (kn : ly_hv cst h 257 0 = some (N : Int)) {A e : Int} (A0 : 0 ≤ A) (A1 : A ≤ 30) {i0 : List Int} {c0 : List cl} (ri : (i0.length : Int) + (N : Int) ≤ 10220) (rc : (c0.length : Int) ≤ 1200) (S : laS cst h A i0 c0) (jw : fn_N cst h 6912 0 jwl) (cw : fn_N cst h 6656 0 cwl) (ke : A ≠ 0 → ly_hv cst h 3840 (A - 1) = some e ∧ -2147483648 ≤ e ∧ e ≤ 2147483647) {xd xs : Int32} :
    ∃ r, am_Run cst m_cl m_tt m_P strs sx_bi (D + 7) 70 [.ref 16, .int xd, .int xs] h r ∧ (fun r : am_Q => ∃ w : Int32, r.1 = some (.int w) ∧ r.2.2.1 = 0 ∧ r.2.2.2 = 0 ∧ ly_hy m_tt ly_TH r.2.1 ∧ ly_fr cst ac_mods h r.2.1 ∧ (ly_hv cst r.2.1 257 0 = some 0 ∧ ∃ (t : Nat) (en : Nat → Int) (kd pl vl : Int → Int), tkT (gt_g cst h 512) (N : Int) t kd pl vl en ∧ ac_P cst h r.2.1 A i0 c0 pl t (N : Int) (tx kd vl t A (t + 1) 0 []) xd.toInt xs.toInt e w.toInt)) r := by
  obtain ⟨M, hM, hl⟩ := hp_M (mi := 70) (k := 3) (by decide +kernel)
  have c : hp_C cst strs (D + 6) := cc _
  have bd : -2147483648 ≤ xd.toInt := xd.le_toInt
  have bd' : xd.toInt ≤ 2147483647 := xd.toInt_le
  have bs : -2147483648 ≤ xs.toInt := xs.le_toInt
  have bs' : xs.toInt ≤ 2147483647 := xs.toInt_le
  have start : hp_F cst strs (fun r : am_Q => ∃ w : Int32, r.1 = some (.int w) ∧ r.2.2.1 = 0 ∧ r.2.2.2 = 0 ∧ ly_hy m_tt ly_TH r.2.1 ∧ ly_fr cst ac_mods h r.2.1 ∧ (ly_hv cst r.2.1 257 0 = some 0 ∧ ∃ (t : Nat) (en : Nat → Int) (kd pl vl : Int → Int), tkT (gt_g cst h 512) (N : Int) t kd pl vl en ∧ ac_P cst h r.2.1 A i0 c0 pl t (N : Int) (tx kd vl t A (t + 1) 0 []) xd.toInt xs.toInt e w.toInt)) (D + 6) M 0 (lv_args 0 [.ref 16, .int xd, .int xs]) [] h := by
    refine at0 c hM (by omega) hy xd.toInt xs.toInt bd bd' bs bs' rfl ⟨xd, rfl, rfl⟩ ⟨xs, rfl, rfl⟩ (fun l1 h1 u1 u2 u3 g0 g1 g2 => ?_)
    obtain ⟨r, hrun, r1, r2, r3, rhy, rfr, rk, rN, t, en, kt, tN, T⟩ := gt_run (D := D + 4) (cc _) (cc _) (by omega) u1 n1 (u2 _ _ _ rfl kn)
    refine hp_call (mi := 70) (pc := 4) (tg := 71) (na := 1) (c := 1) (ci := 1) (st0 := [.ref 17]) (st := []) (av := []) hM (by decide +kernel) u1 rfl rfl rfl (by decide) hrun r2 r3 ?_
    rw [r1]
    have et : gt_g cst h1 512 = gt_g cst h 512 := by
      unfold gt_g
      rw [show ly_hv cst h1 512 = ly_hv cst h 512 from hp_same th_CT rfl hy u1 u2]
    rw [et] at T
    have frA : ly_fr cst gt_mods h r.2.1 := ly_fr_tr (hp_sub2 rfl u2) rfr
    have S2 : laS cst r.2.1 A i0 c0 := laS_mv S frA rfl rfl rfl rfl
    have ei : i0 = cit c0 := S.2.2.1.2.2.2.2.2.1
    -- refused
    have bad : ¬ ac_ok A xd.toInt xs.toInt e → ∀ (h5 : am_H) (w : Int32), w.toInt = -2 → ly_hy m_tt ly_TH h5 → ly_fr cst [] r.2.1 h5 → (fun r : am_Q => ∃ w : Int32, r.1 = some (.int w) ∧ r.2.2.1 = 0 ∧ r.2.2.2 = 0 ∧ ly_hy m_tt ly_TH r.2.1 ∧ ly_fr cst ac_mods h r.2.1 ∧ (ly_hv cst r.2.1 257 0 = some 0 ∧ ∃ (t : Nat) (en : Nat → Int) (kd pl vl : Int → Int), tkT (gt_g cst h 512) (N : Int) t kd pl vl en ∧ ac_P cst h r.2.1 A i0 c0 pl t (N : Int) (tx kd vl t A (t + 1) 0 []) xd.toInt xs.toInt e w.toInt)) (some (.int w), h5, 0, 0) := fun no h5 w hw v1 v2 => ⟨w, rfl, rfl, rfl, v1, ly_fr_tr (hp_sub2 rfl frA) (hp_sub2 rfl v2), v2 _ _ _ rfl rk, t, en, _, _, _, T, fun _ => ⟨hw, laS_mv S2 v2 rfl rfl rfl rfl, ⟨fun j u q => v2 _ _ _ rfl (frA _ _ _ rfl q), fun j u q => v2 _ _ _ rfl (frA _ _ _ rfl q), fun j u q => v2 _ _ _ rfl (frA _ _ _ rfl q)⟩, fun v q => v2 _ _ _ rfl (frA _ _ _ rfl q), fun v q => v2 _ _ _ rfl (frA _ _ _ rfl q)⟩, fun z => absurd z no⟩
    by_cases q1 : xd.toInt ≤ -1
    · exact atA c hM (by omega) rhy xd.toInt xs.toInt bd q1 bs bs' g0 g1 g2 (fun h5 w hw v1 v2 v3 => bad (fun z => by have := z.1; omega) h5 w hw v1 v2)
    by_cases q2 : 400 ≤ xd.toInt
    · exact atB c hM (by omega) rhy xd.toInt xs.toInt q2 bd' bs bs' g0 g1 g2 (fun h5 w hw v1 v2 v3 => bad (fun z => by have := z.2.1; omega) h5 w hw v1 v2)
    by_cases q3 : xs.toInt ≤ 0
    · exact atC c hM (by omega) rhy xd.toInt xs.toInt (by omega) (by omega) bs q3 g0 g1 g2 (fun h5 w hw v1 v2 v3 => bad (fun z => by have := z.2.2.1; omega) h5 w hw v1 v2)
    by_cases q4 : 64 ≤ xs.toInt
    · exact atD c hM (by omega) rhy xd.toInt xs.toInt (by omega) (by omega) q4 bs' g0 g1 g2 (fun h5 w hw v1 v2 v3 => bad (fun z => by have := z.2.2.2.1; omega) h5 w hw v1 v2)
    -- the text
    have good : ac_ok A xd.toInt xs.toInt e → ∀ (l2 : am_L) (h2 : am_H), ly_hy m_tt ly_TH h2 → ly_fr cst [] r.2.1 h2 → hp_a l2 0 16 → hp_i l2 1 xd.toInt → hp_i l2 2 xs.toInt → hp_F cst strs (fun r : am_Q => ∃ w : Int32, r.1 = some (.int w) ∧ r.2.2.1 = 0 ∧ r.2.2.2 = 0 ∧ ly_hy m_tt ly_TH r.2.1 ∧ ly_fr cst ac_mods h r.2.1 ∧ (ly_hv cst r.2.1 257 0 = some 0 ∧ ∃ (t : Nat) (en : Nat → Int) (kd pl vl : Int → Int), tkT (gt_g cst h 512) (N : Int) t kd pl vl en ∧ ac_P cst h r.2.1 A i0 c0 pl t (N : Int) (tx kd vl t A (t + 1) 0 []) xd.toInt xs.toInt e w.toInt)) (D + 6) M 42 l2 [.ref 40] h2 := by
      intro ok l2 h2 v1 v2 m0 m1 m2
      have T2 := gt_mv (f := gt_g cst h 512) (n := (N : Int)) (t := t) (en := en) T rhy v1 v2 rfl rfl rfl
      unfold gt_T at T2
      have S3 : laS cst h2 A i0 c0 := laS_mv S2 v2 rfl rfl rfl rfl
      have f2 : ly_fr cst gt_mods h h2 := ly_fr_tr frA (hp_sub2 rfl v2)
      have X2 : ct cst h2 (gt_g cst h2 768) (gt_g cst h2 1024) (gt_g cst h2 1280) t (N : Int) := ⟨v2 _ _ _ rfl kt, v2 _ _ _ rfl rN, fun j hj => gt_kk v1 (by omega) j hj, fn_mv jw f2 rfl, fn_mv cw f2 rfl⟩
      obtain ⟨q, hrunq, v, p1, p2, p3, phy, pfr, pF, pS⟩ := rt_run (D := D) (A := A) (i0 := i0) (c0 := c0) (cc _) (cc _) (cc _) (cc _) (cc _) (cc _) (by omega) v1 T2 (by omega) (by omega) n1 (tkT_kb T2) (tkT_vB T2) X2 ri rc A0 A1 S3.1 S3.2.1 S3.2.2.1 S3.2.2.2
      refine hp_call (mi := 70) (pc := 42) (tg := 77) (na := 1) (c := 24) (ci := 4) (st0 := [.ref 40]) (st := []) (av := []) hM (by decide +kernel) v1 rfl rfl rfl (by decide) hrunq p2 p3 ?_
      rw [p1]
      have frQ : ly_fr cst ac_mods h q.2.1 := ly_fr_tr (hp_sub2 rfl f2) (hp_sub2 rfl pfr)
      have kAq := pfr _ _ _ rfl S3.1
      have kFq := pfr _ _ _ rfl S3.2.1
      have rkq := pfr _ _ _ rfl (v2 _ _ _ rfl rk)
      have rows : ∀ rg j u, (rg = 3840 ∨ rg = 4096 ∨ rg = 4352) → ly_hv cst h rg j = some u → ly_hv cst q.2.1 rg j = some u := fun rg j u hr z => by
        rcases hr with rfl | rfl | rfl <;> exact pfr _ _ _ rfl (f2 _ _ _ rfl z)
      cases er : tx (gt_g cst h2 768) (gt_g cst h2 1280) t A (t + 1) 0 [] with
      | inl ff =>
        obtain ⟨k, b⟩ := ff
        obtain ⟨z0, zo, z1, z2⟩ := pF k b er
        have ib : (i0.length : Int) ≤ 10240 := by omega
        refine atH c hM (by omega) phy xd.toInt xs.toInt A (c0.length : Int) (i0.length : Int) v z0 bd bd' bs bs' A0 A1 (by omega) (by omega) (by omega) ib kAq kFq (od_fi zo.1 ei) m0 m1 m2 (fun h5 w hw s1 s2 s3 k1 k2 k3 => ⟨w, rfl, rfl, rfl, s1, ly_fr_tr frQ (hp_sub2 rfl s2), s2 _ _ _ rfl rkq, t, en, _, _, _, T2, fun z => absurd ok z, fun _ => ⟨fun k' b' e' => ?_, fun C e' => by rw [er] at e'; cases e'⟩⟩)
        rw [er] at e'
        cases e'
        exact ⟨hw, laS_of (ox_mv zo.1 s2 rfl) (ow_mv zo.2 s2 rfl rfl rfl) ei ⟨s2 _ _ _ rfl kAq, s2 _ _ _ rfl kFq, k1, k2, s2 _ _ _ rfl (od_fi zo.1 ei), k3⟩, ⟨fun j u y => s2 _ _ _ rfl (rows _ j u (Or.inl rfl) y), fun j u y => s2 _ _ _ rfl (rows _ j u (Or.inr (Or.inl rfl)) y), fun j u y => s2 _ _ _ rfl (rows _ j u (Or.inr (Or.inr rfl)) y)⟩, s2 _ _ _ rfl z1, s2 _ _ _ rfl z2⟩
      | inr C =>
        obtain ⟨z0, z1, z2, Dq, Iq, ci, c40, wc⟩ := pS C er
        have lc : (c0 ++ C).length = c0.length + C.length := List.length_append
        have lI : (i0 ++ cit C).length = i0.length + (cit C).length := List.length_append
        refine atI c hM (by omega) phy xd.toInt xs.toInt v z0 bd bd' bs bs' m0 m1 m2 (fun l4 h4 y0 y1 e0 e1 s1 s2 s3 o0 o1 o2 => ?_)
        have D4 := dr_mv Dq s2 rfl
        have I4 := it_mv Iq s2 rfl
        have O4 : ox cst h4 i0 c0 := (dr_o D4 (it_o I4)).1
        have W4 : ow cst h4 c0.length (c0.length + C.length) := D4.2.2.2.2.2.2
        have eC : i0 ++ cit C = cit (c0 ++ C) := by rw [cit_ap, ← ei]
        have O9 : ox cst h4 (i0 ++ cit C) (c0 ++ C) := by
          obtain ⟨-, d2, d3, d4, d5, -⟩ := D4
          exact ⟨d2, d3, d4, d5, I4.2.2⟩
        obtain ⟨r', hrun', v', n1', n2', n3', nhy, nfr, nP⟩ := ea_run (D := D + 5) (A := A) (c0 := c0.length) (i0 := i0.length) (c9 := (c0 ++ C).length) (i9 := (i0 ++ cit C).length) (xd := y1) (xs := y0) (cc _) (by omega) s1 A0 A1 (by omega) (by omega) (by omega) (s2 _ _ _ rfl kAq) (s2 _ _ _ rfl kFq) (od_fi O4 ei) (by rw [lc]; have z := D4.1; rw [z]; congr 1 <;> omega) (od_fi O9 eC) (by rw [lI]; have z := I4.1; rw [z]; congr 1 <;> omega) I4.2.1
        refine hp_call (mi := 70) (pc := 63) (tg := 107) (na := 3) (c := 14) (ci := 3) (st0 := [.int y0, .int y1, .ref 30]) (st := []) (av := [.int y1, .int y0]) hM (by decide +kernel) s1 rfl rfl rfl (by decide) hrun' n2' n3' ?_
        rw [n1']
        rw [e0, e1] at nP
        have bw : -2147483648 ≤ v'.toInt := v'.le_toInt
        have bw' : v'.toInt ≤ 2147483647 := v'.toInt_le
        refine atJ c hM (by omega) nhy xd.toInt xs.toInt v'.toInt v' rfl bd bd' bs bs' bw bw' o0 o1 o2 (fun h6 w hw j1 j2 j3 => ⟨w, rfl, rfl, rfl, j1, ly_fr_tr frQ (ly_fr_tr (hp_sub2 rfl s2) (ly_fr_tr (hp_sub2 rfl nfr) (hp_sub2 rfl j2))), j2 _ _ _ rfl (nfr _ _ _ rfl (s2 _ _ _ rfl rkq)), t, en, _, _, _, T2, fun z => absurd ok z, fun _ => ⟨fun k' b' e' => (by rw [er] at e'; cases e'), fun C' e' => ?_⟩⟩)
        rw [er] at e'
        cases e'
        have mv1 : ∀ {i1 : List Int} {c1 : List cl}, ox cst h4 i1 c1 → ox cst h6 i1 c1 := fun O => ox_mv (ox_mv O nfr rfl) j2 rfl
        refine ⟨j2 _ _ _ rfl (nfr _ _ _ rfl (s2 _ _ _ rfl z1)), j2 _ _ _ rfl (nfr _ _ _ rfl (s2 _ _ _ rfl z2)), c40, ci, wc, fun z30 => ?_, fun z30 => ?_⟩
        · obtain ⟨x1, x2, x3, x4, x5⟩ := nP.1 z30
          exact ⟨by omega, laS_of (mv1 O4) (ow_mv (ow_m2 (ow_le W4 (by omega)) (fun u y => by rw [show u = A from Option.some.inj (y.symm.trans (s2 _ _ _ rfl kAq))]; exact x2.1) x5 (fun _ _ y => nfr _ _ _ rfl y)) j2 rfl rfl rfl) ei (la_mv x2 j2 rfl), ⟨fun j u y => j2 _ _ _ rfl (x3 j u (s2 _ _ _ rfl (rows _ j u (Or.inl rfl) y))), fun j u y => j2 _ _ _ rfl (x4 j u (s2 _ _ _ rfl (rows _ j u (Or.inr (Or.inl rfl)) y))), fun j u y => j2 _ _ _ rfl (x5 j u (s2 _ _ _ rfl (rows _ j u (Or.inr (Or.inr rfl)) y)))⟩⟩
        · obtain ⟨x1, x2, x3, x4, x5⟩ := nP.2 z30
          exact ⟨by omega, laS_of (mv1 O9) (ow_mv (ow_en (by rw [lc]; exact W4) (s2 _ _ _ rfl kAq) x2.1 x5.1 x5.2 (fun _ _ y => nfr _ _ _ rfl y)) j2 rfl rfl rfl) eC (la_mv x2 j2 rfl), ⟨j2 _ _ _ rfl x3.1, fun j u hj y => j2 _ _ _ rfl (x3.2 j u hj (s2 _ _ _ rfl (rows _ j u (Or.inl rfl) y)))⟩, ⟨j2 _ _ _ rfl x4.1, fun j u hj y => j2 _ _ _ rfl (x4.2 j u hj (s2 _ _ _ rfl (rows _ j u (Or.inr (Or.inl rfl)) y)))⟩, ⟨j2 _ _ _ rfl x5.1, fun j u hj y => j2 _ _ _ rfl (x5.2 j u hj (s2 _ _ _ rfl (rows _ j u (Or.inr (Or.inr rfl)) y)))⟩⟩
    by_cases q0 : A = 0
    · have kA := S2.1
      rw [q0] at kA
      exact atE c hM (by omega) rhy xd.toInt xs.toInt (by omega) (by omega) (by omega) (by omega) kA g0 g1 g2 (fun l2 h2 v1 v2 v3 m0 m1 m2 => good ⟨by omega, by omega, by omega, by omega, fun z => absurd q0 z⟩ l2 h2 v1 v2 m0 m1 m2)
    obtain ⟨ke1, ke2, ke3⟩ := ke q0
    have ke1 := frA _ _ _ rfl ke1
    by_cases q5 : xd.toInt < e
    · exact atF c hM (by omega) rhy xd.toInt xs.toInt A e (by omega) (by omega) (by omega) (by omega) (by omega) A1 ke2 ke3 (by omega) S2.1 ke1 g0 g1 g2 (fun h5 w hw v1 v2 v3 => bad (fun z => by have := z.2.2.2.2 q0; omega) h5 w hw v1 v2)
    · exact atG c hM (by omega) rhy xd.toInt xs.toInt A e (by omega) (by omega) (by omega) (by omega) (by omega) A1 ke2 ke3 (by omega) S2.1 ke1 g0 g1 g2 (fun l2 h2 v1 v2 v3 m0 m1 m2 => good ⟨by omega, by omega, by omega, by omega, fun _ => by omega⟩ l2 h2 v1 v2 m0 m1 m2)
  obtain ⟨n', r, hgo, w, r1, r2, r3, r4⟩ := start
  simp only [Nat.zero_add] at r2 r3
  exact ⟨r, Or.inr ⟨M, n', hM, hl, hgo⟩, w, r1, r2, r3, r4⟩
