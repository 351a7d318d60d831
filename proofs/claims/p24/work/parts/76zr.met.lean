/-! PRINTED by wip/p2/hp_met.py: valueOf, testsMet of the class over facts -/
theorem vf0_k : hp_chk 49 0 1 [(0, 1, 9223372036854775807)] [] [(0, .inr (.inr (.inl (some 91)))), (1, .inr (.inl (0, [(0, 1)])))] [] [] [] 2 [(2, ([], 1, [(0, 1, 9223372036854775807)], [], [(0, .inr (.inr (.inl (some 91)))), (1, .inr (.inl (0, [(0, 1)]))), (3, .inl (0, []))], [], []))] [] = true := by decide +kernel
theorem vf0 {cst : am_K} {strs : List Nat} {Φ : am_Q → Prop} {D : Nat} {M : am_M} {h : am_H} {l : am_L} (c : hp_C cst strs D) (hM : m_P[49]? = some M) (hD : (2 : Int) ≤ (D : Int) + 1) (hy : ly_hy m_tt ly_TH h) (v : Int) (b0 : 1 ≤ v) (t0 : v ≤ 9223372036854775807) (l0 : hp_a l 0 91) (l1 : hp_j l 1 (v)) (e0 : ∀ (l' : am_L) (h' : am_H), ly_hy m_tt ly_TH h' → ly_fr cst [] h h' → h.length ≤ h'.length → hp_a l' 0 91 → hp_j l' 1 (v) → hp_i l' 3 0 → hp_F cst strs Φ D M 2 l' [] h') : hp_F cst strs Φ D M 0 l [] h := by
  refine hp_arc c hM vf0_k hD [v] rfl hy (hp_Bc (z := v) rfl b0 t0 hp_Bn) hp_Fn hp_Kn (hp_La l0 (hp_Lj (z := (0 + (1 * v + 0))) l1 rfl (by omega) hp_Ln)) trivial ?_ ?_
  · intro p_9 hp ys l' st' h' hys a1_9 a2 a3 gZ gL gS
    rcases List.mem_cons.mp hp with rfl | hp
    · obtain rfl := hp_y0 hys
      cases hp_gSn gS
      exact e0 l' h' a1_9 a2 a3 (hp_gLa gL (List.mem_of_getElem? (i := 0) rfl) (by decide)) (hp_gLj (z := (0 + (1 * v + 0))) gL (List.mem_of_getElem? (i := 1) rfl) rfl (by omega)) (hp_gLi (z := (0 + 0)) gL (List.mem_of_getElem? (i := 2) rfl) rfl (by omega))
    cases hp
  · intro p_9 hp ys v h' hys a1_9 a2 a3 gZ gS
    cases hp
theorem vf1_k : hp_chk 49 2 4 [(0, 1, 9223372036854775807), (1, 0, 20), (2, 0, 19), (3, (-9223372036854775808), 9223372036854775807)] [((-1), [(1, 1), (2, (-1))])] [(0, .inr (.inr (.inl (some 91)))), (1, .inr (.inl (0, [(0, 1)]))), (3, .inl (0, [(2, 1)]))] [] [(19202, (0, []), (0, [(1, 1)])), (19456, (0, [(2, 1)]), (0, [(3, 1)])), (61000, (0, [(0, (-1)), (3, 1)]), (1, []))] [] 2 [(2, ([], 4, [(0, 1, 9223372036854775807), (1, 0, 20), (2, 0, 19), (3, (-9223372036854775808), 9223372036854775807)], [], [(0, .inr (.inr (.inl (some 91)))), (1, .inr (.inl (0, [(0, 1)]))), (3, .inl (1, [(2, 1)]))], [], []))] [] = true := by decide +kernel
theorem vf1 {cst : am_K} {strs : List Nat} {Φ : am_Q → Prop} {D : Nat} {M : am_M} {h : am_H} {l : am_L} (c : hp_C cst strs D) (hM : m_P[49]? = some M) (hD : (2 : Int) ≤ (D : Int) + 1) (hy : ly_hy m_tt ly_TH h) (v m i x : Int) (b0 : 1 ≤ v) (t0 : v ≤ 9223372036854775807) (b1 : 0 ≤ m) (t1 : m ≤ 20) (b2 : 0 ≤ i) (t2 : i ≤ 19) (b3 : (-9223372036854775808) ≤ x) (t3 : x ≤ 9223372036854775807) (f0 : 0 ≤ (m - i - 1)) (k0 : ly_hv cst h 19202 0 = some (m)) (k1 : ly_hv cst h 19456 (i) = some (x)) (k2 : ly_hv cst h 61000 (x - v) = some 1) (l0 : hp_a l 0 91) (l1 : hp_j l 1 (v)) (l3 : hp_i l 3 (i)) (e0 : ∀ (l' : am_L) (h' : am_H), ly_hy m_tt ly_TH h' → ly_fr cst [] h h' → h.length ≤ h'.length → hp_a l' 0 91 → hp_j l' 1 (v) → hp_i l' 3 (i + 1) → hp_F cst strs Φ D M 2 l' [] h') : hp_F cst strs Φ D M 2 l [] h := by
  refine hp_arc c hM vf1_k hD [v, m, i, x] rfl hy (hp_Bc (z := v) rfl b0 t0 (hp_Bc (z := m) rfl b1 t1 (hp_Bc (z := i) rfl b2 t2 (hp_Bc (z := x) rfl b3 t3 hp_Bn)))) (hp_Fc (z := ((-1) + (1 * m + ((-1) * i + 0)))) rfl (by omega) hp_Fn) (hp_Kc (zi := (0 + 0)) (zv := (0 + (1 * m + 0))) k0 rfl rfl (by omega) (by omega) (hp_Kc (zi := (0 + (1 * i + 0))) (zv := (0 + (1 * x + 0))) k1 rfl rfl (by omega) (by omega) (hp_Kc (zi := (0 + ((-1) * v + (1 * x + 0)))) (zv := (1 + 0)) k2 rfl rfl (by omega) (by omega) hp_Kn))) (hp_La l0 (hp_Lj (z := (0 + (1 * v + 0))) l1 rfl (by omega) (hp_Li (z := (0 + (1 * i + 0))) l3 rfl (by omega) hp_Ln))) trivial ?_ ?_
  · intro p_9 hp ys l' st' h' hys a1_9 a2 a3 gZ gL gS
    rcases List.mem_cons.mp hp with rfl | hp
    · obtain rfl := hp_y0 hys
      cases hp_gSn gS
      exact e0 l' h' a1_9 a2 a3 (hp_gLa gL (List.mem_of_getElem? (i := 0) rfl) (by decide)) (hp_gLj (z := (0 + (1 * v + 0))) gL (List.mem_of_getElem? (i := 1) rfl) rfl (by omega)) (hp_gLi (z := (1 + (1 * i + 0))) gL (List.mem_of_getElem? (i := 2) rfl) rfl (by omega))
    cases hp
  · intro p_9 hp ys v h' hys a1_9 a2 a3 gZ gS
    cases hp
theorem vf2_k : hp_chk 49 2 3 [(0, 1, 9223372036854775807), (1, 0, 20), (2, 0, 19)] [((-1), [(1, 1), (2, (-1))])] [(0, .inr (.inr (.inl (some 91)))), (1, .inr (.inl (0, [(0, 1)]))), (3, .inl (0, [(2, 1)]))] [] [(19202, (0, []), (0, [(1, 1)])), (19456, (0, [(2, 1)]), (0, [(0, 1)]))] [] 2 [] [([], 3, [(0, 1, 9223372036854775807), (1, 0, 20), (2, 0, 19)], [], [], [.inl (0, [(2, 1)])], [])] = true := by decide +kernel
theorem vf2 {cst : am_K} {strs : List Nat} {Φ : am_Q → Prop} {D : Nat} {M : am_M} {h : am_H} {l : am_L} (c : hp_C cst strs D) (hM : m_P[49]? = some M) (hD : (2 : Int) ≤ (D : Int) + 1) (hy : ly_hy m_tt ly_TH h) (v m i : Int) (b0 : 1 ≤ v) (t0 : v ≤ 9223372036854775807) (b1 : 0 ≤ m) (t1 : m ≤ 20) (b2 : 0 ≤ i) (t2 : i ≤ 19) (f0 : 0 ≤ (m - i - 1)) (k0 : ly_hv cst h 19202 0 = some (m)) (k1 : ly_hv cst h 19456 (i) = some (v)) (l0 : hp_a l 0 91) (l1 : hp_j l 1 (v)) (l3 : hp_i l 3 (i)) (r0 : ∀ (h' : am_H) (y0 : Int32), y0.toInt = (i) → ly_hy m_tt ly_TH h' → ly_fr cst [] h h' → h.length ≤ h'.length → Φ (some (.int y0), h', 0, 0)) : hp_F cst strs Φ D M 2 l [] h := by
  refine hp_arc c hM vf2_k hD [v, m, i] rfl hy (hp_Bc (z := v) rfl b0 t0 (hp_Bc (z := m) rfl b1 t1 (hp_Bc (z := i) rfl b2 t2 hp_Bn))) (hp_Fc (z := ((-1) + (1 * m + ((-1) * i + 0)))) rfl (by omega) hp_Fn) (hp_Kc (zi := (0 + 0)) (zv := (0 + (1 * m + 0))) k0 rfl rfl (by omega) (by omega) (hp_Kc (zi := (0 + (1 * i + 0))) (zv := (0 + (1 * v + 0))) k1 rfl rfl (by omega) (by omega) hp_Kn)) (hp_La l0 (hp_Lj (z := (0 + (1 * v + 0))) l1 rfl (by omega) (hp_Li (z := (0 + (1 * i + 0))) l3 rfl (by omega) hp_Ln))) trivial ?_ ?_
  · intro p_9 hp ys l' st' h' hys a1_9 a2 a3 gZ gL gS
    cases hp
  · intro p_9 hp ys v h' hys a1_9 a2 a3 gZ gS
    rcases List.mem_cons.mp hp with rfl | hp
    · obtain rfl := hp_y0 hys
      cases v with
      | none => cases gS
      | some wz =>
        obtain ⟨y0, t0, s0_9, q0, -⟩ := hp_gSi (z := (0 + (1 * i + 0))) gS rfl
        cases s0_9
        exact r0 h' y0 (by omega) a1_9 a2 a3
    cases hp
theorem vf3_k : hp_chk 49 2 2 [(0, 1, 9223372036854775807), (1, 0, 20)] [] [(0, .inr (.inr (.inl (some 91)))), (1, .inr (.inl (0, [(0, 1)]))), (3, .inl (0, [(1, 1)]))] [] [(19202, (0, []), (0, [(1, 1)]))] [] 2 [] [([], 2, [(0, 1, 9223372036854775807), (1, 0, 20)], [], [], [.inl ((-1), [])], [])] = true := by decide +kernel
theorem vf3 {cst : am_K} {strs : List Nat} {Φ : am_Q → Prop} {D : Nat} {M : am_M} {h : am_H} {l : am_L} (c : hp_C cst strs D) (hM : m_P[49]? = some M) (hD : (2 : Int) ≤ (D : Int) + 1) (hy : ly_hy m_tt ly_TH h) (v m : Int) (b0 : 1 ≤ v) (t0 : v ≤ 9223372036854775807) (b1 : 0 ≤ m) (t1 : m ≤ 20) (k0 : ly_hv cst h 19202 0 = some (m)) (l0 : hp_a l 0 91) (l1 : hp_j l 1 (v)) (l3 : hp_i l 3 (m)) (r0 : ∀ (h' : am_H) (y0 : Int32), y0.toInt = (-1) → ly_hy m_tt ly_TH h' → ly_fr cst [] h h' → h.length ≤ h'.length → Φ (some (.int y0), h', 0, 0)) : hp_F cst strs Φ D M 2 l [] h := by
  refine hp_arc c hM vf3_k hD [v, m] rfl hy (hp_Bc (z := v) rfl b0 t0 (hp_Bc (z := m) rfl b1 t1 hp_Bn)) hp_Fn (hp_Kc (zi := (0 + 0)) (zv := (0 + (1 * m + 0))) k0 rfl rfl (by omega) (by omega) hp_Kn) (hp_La l0 (hp_Lj (z := (0 + (1 * v + 0))) l1 rfl (by omega) (hp_Li (z := (0 + (1 * m + 0))) l3 rfl (by omega) hp_Ln))) trivial ?_ ?_
  · intro p_9 hp ys l' st' h' hys a1_9 a2 a3 gZ gL gS
    cases hp
  · intro p_9 hp ys v h' hys a1_9 a2 a3 gZ gS
    rcases List.mem_cons.mp hp with rfl | hp
    · obtain rfl := hp_y0 hys
      cases v with
      | none => cases gS
      | some wz =>
        obtain ⟨y0, t0, s0_9, q0, -⟩ := hp_gSi (z := ((-1) + 0)) gS rfl
        cases s0_9
        exact r0 h' y0 (by omega) a1_9 a2 a3
    cases hp
theorem vo0_k : hp_chk 126 0 1 [(0, 1, 9223372036854775807)] [] [(0, .inr (.inr (.inl (some 91)))), (1, .inr (.inl (0, [(0, 1)])))] [] [] [] 2 [(2, ([], 1, [(0, 1, 9223372036854775807)], [], [(0, .inr (.inr (.inl (some 91)))), (1, .inr (.inl (0, [(0, 1)])))], [.inr (.inl (0, [(0, 1)])), .inr (.inr (.inl (some 91)))], []))] [] = true := by decide +kernel
theorem vo0 {cst : am_K} {strs : List Nat} {Φ : am_Q → Prop} {D : Nat} {M : am_M} {h : am_H} {l : am_L} (c : hp_C cst strs D) (hM : m_P[126]? = some M) (hD : (2 : Int) ≤ (D : Int) + 1) (hy : ly_hy m_tt ly_TH h) (v : Int) (b0 : 1 ≤ v) (t0 : v ≤ 9223372036854775807) (l0 : hp_a l 0 91) (l1 : hp_j l 1 (v)) (e0 : ∀ (l' : am_L) (h' : am_H) (y0 : Int64), y0.toInt = (v) → ly_hy m_tt ly_TH h' → ly_fr cst [] h h' → h.length ≤ h'.length → hp_a l' 0 91 → hp_j l' 1 (v) → hp_F cst strs Φ D M 2 l' [.long y0, .ref 91] h') : hp_F cst strs Φ D M 0 l [] h := by
  refine hp_arc c hM vo0_k hD [v] rfl hy (hp_Bc (z := v) rfl b0 t0 hp_Bn) hp_Fn hp_Kn (hp_La l0 (hp_Lj (z := (0 + (1 * v + 0))) l1 rfl (by omega) hp_Ln)) trivial ?_ ?_
  · intro p_9 hp ys l' st' h' hys a1_9 a2 a3 gZ gL gS
    rcases List.mem_cons.mp hp with rfl | hp
    · obtain rfl := hp_y0 hys
      obtain ⟨y0, t0, rfl, q0, g0⟩ := hp_gSj (z := (0 + (1 * v + 0))) gS rfl
      obtain ⟨t1_9, rfl, g1⟩ := hp_gSa g0 (by decide)
      cases hp_gSn g1
      exact e0 l' h' y0 (by omega) a1_9 a2 a3 (hp_gLa gL (List.mem_of_getElem? (i := 0) rfl) (by decide)) (hp_gLj (z := (0 + (1 * v + 0))) gL (List.mem_of_getElem? (i := 1) rfl) rfl (by omega))
    cases hp
  · intro p_9 hp ys v h' hys a1_9 a2 a3 gZ gS
    cases hp
theorem vo1_k : hp_chk 126 5 1 [(0, 1, 9223372036854775807)] [] [(0, .inr (.inr (.inl (some 91)))), (1, .inr (.inl (0, [(0, 1)])))] [.inl ((-1), [])] [] [] 2 [] [([], 1, [(0, 1, 9223372036854775807)], [], [], [.inl (0, [])], [])] = true := by decide +kernel
theorem vo1 {cst : am_K} {strs : List Nat} {Φ : am_Q → Prop} {D : Nat} {M : am_M} {h : am_H} {l : am_L} (c : hp_C cst strs D) (hM : m_P[126]? = some M) (hD : (2 : Int) ≤ (D : Int) + 1) (hy : ly_hy m_tt ly_TH h) (v : Int) (x0 : Int32) (hx0 : x0.toInt = (-1)) (b0 : 1 ≤ v) (t0 : v ≤ 9223372036854775807) (l0 : hp_a l 0 91) (l1 : hp_j l 1 (v)) (r0 : ∀ (h' : am_H) (y0 : Int32), y0.toInt = 0 → ly_hy m_tt ly_TH h' → ly_fr cst [] h h' → h.length ≤ h'.length → Φ (some (.int y0), h', 0, 0)) : hp_F cst strs Φ D M 5 l [.int x0] h := by
  refine hp_arc c hM vo1_k hD [v] rfl hy (hp_Bc (z := v) rfl b0 t0 hp_Bn) hp_Fn hp_Kn (hp_La l0 (hp_Lj (z := (0 + (1 * v + 0))) l1 rfl (by omega) hp_Ln)) (hp_Si (z := ((-1) + 0)) rfl (by omega) trivial) ?_ ?_
  · intro p_9 hp ys l' st' h' hys a1_9 a2 a3 gZ gL gS
    cases hp
  · intro p_9 hp ys v h' hys a1_9 a2 a3 gZ gS
    rcases List.mem_cons.mp hp with rfl | hp
    · obtain rfl := hp_y0 hys
      cases v with
      | none => cases gS
      | some wz =>
        obtain ⟨y0, t0, s0_9, q0, -⟩ := hp_gSi (z := (0 + 0)) gS rfl
        cases s0_9
        exact r0 h' y0 (by omega) a1_9 a2 a3
    cases hp
theorem vo2_k : hp_chk 126 5 3 [(0, 1, 9223372036854775807), (1, 0, 19), (2, (-2147483648), 2147483647)] [] [(0, .inr (.inr (.inl (some 91)))), (1, .inr (.inl (0, [(0, 1)])))] [.inl (0, [(1, 1)])] [(19712, (0, [(1, 1)]), (0, [(2, 1)]))] [] 2 [] [([], 3, [(0, 1, 9223372036854775807), (1, 0, 19), (2, (-2147483648), 2147483647)], [], [], [.inl (0, [(2, 1)])], [])] = true := by decide +kernel
theorem vo2 {cst : am_K} {strs : List Nat} {Φ : am_Q → Prop} {D : Nat} {M : am_M} {h : am_H} {l : am_L} (c : hp_C cst strs D) (hM : m_P[126]? = some M) (hD : (2 : Int) ≤ (D : Int) + 1) (hy : ly_hy m_tt ly_TH h) (v i u : Int) (x0 : Int32) (hx0 : x0.toInt = (i)) (b0 : 1 ≤ v) (t0 : v ≤ 9223372036854775807) (b1 : 0 ≤ i) (t1 : i ≤ 19) (b2 : (-2147483648) ≤ u) (t2 : u ≤ 2147483647) (k0 : ly_hv cst h 19712 (i) = some (u)) (l0 : hp_a l 0 91) (l1 : hp_j l 1 (v)) (r0 : ∀ (h' : am_H) (y0 : Int32), y0.toInt = (u) → ly_hy m_tt ly_TH h' → ly_fr cst [] h h' → h.length ≤ h'.length → Φ (some (.int y0), h', 0, 0)) : hp_F cst strs Φ D M 5 l [.int x0] h := by
  refine hp_arc c hM vo2_k hD [v, i, u] rfl hy (hp_Bc (z := v) rfl b0 t0 (hp_Bc (z := i) rfl b1 t1 (hp_Bc (z := u) rfl b2 t2 hp_Bn))) hp_Fn (hp_Kc (zi := (0 + (1 * i + 0))) (zv := (0 + (1 * u + 0))) k0 rfl rfl (by omega) (by omega) hp_Kn) (hp_La l0 (hp_Lj (z := (0 + (1 * v + 0))) l1 rfl (by omega) hp_Ln)) (hp_Si (z := (0 + (1 * i + 0))) rfl (by omega) trivial) ?_ ?_
  · intro p_9 hp ys l' st' h' hys a1_9 a2 a3 gZ gL gS
    cases hp
  · intro p_9 hp ys v h' hys a1_9 a2 a3 gZ gS
    rcases List.mem_cons.mp hp with rfl | hp
    · obtain rfl := hp_y0 hys
      cases v with
      | none => cases gS
      | some wz =>
        obtain ⟨y0, t0, s0_9, q0, -⟩ := hp_gSi (z := (0 + (1 * u + 0))) gS rfl
        cases s0_9
        exact r0 h' y0 (by omega) a1_9 a2 a3
    cases hp
theorem tm0_k : hp_chk 123 0 1 [(0, 0, 1239)] [] [(0, .inr (.inr (.inl (some 30)))), (1, .inl (0, [(0, 1)])), (2, .inr (.inr (.inl (some 91))))] [] [] [] 2 [(19, ([], 1, [(0, 0, 1239)], [], [(0, .inr (.inr (.inl (some 30)))), (1, .inl (0, [(0, 1)])), (2, .inr (.inr (.inl (some 91)))), (3, .inl (0, [])), (4, .inl (0, [])), (5, .inl (0, [])), (6, .inl (0, [])), (7, .inr (.inl ((-20004), []))), (9, .inl (0, []))], [], []))] [] = true := by decide +kernel
theorem tm0 {cst : am_K} {strs : List Nat} {Φ : am_Q → Prop} {D : Nat} {M : am_M} {h : am_H} {l : am_L} (c : hp_C cst strs D) (hM : m_P[123]? = some M) (hD : (2 : Int) ≤ (D : Int) + 1) (hy : ly_hy m_tt ly_TH h) (cq : Int) (b0 : 0 ≤ cq) (t0 : cq ≤ 1239) (l0 : hp_a l 0 30) (l1 : hp_i l 1 (cq)) (l2 : hp_a l 2 91) (e0 : ∀ (l' : am_L) (h' : am_H), ly_hy m_tt ly_TH h' → ly_fr cst [] h h' → h.length ≤ h'.length → hp_a l' 0 30 → hp_i l' 1 (cq) → hp_a l' 2 91 → hp_i l' 3 0 → hp_i l' 4 0 → hp_i l' 5 0 → hp_i l' 6 0 → hp_j l' 7 (-20004) → hp_i l' 9 0 → hp_F cst strs Φ D M 19 l' [] h') : hp_F cst strs Φ D M 0 l [] h := by
  refine hp_arc c hM tm0_k hD [cq] rfl hy (hp_Bc (z := cq) rfl b0 t0 hp_Bn) hp_Fn hp_Kn (hp_La l0 (hp_Li (z := (0 + (1 * cq + 0))) l1 rfl (by omega) (hp_La l2 hp_Ln))) trivial ?_ ?_
  · intro p_9 hp ys l' st' h' hys a1_9 a2 a3 gZ gL gS
    rcases List.mem_cons.mp hp with rfl | hp
    · obtain rfl := hp_y0 hys
      cases hp_gSn gS
      exact e0 l' h' a1_9 a2 a3 (hp_gLa gL (List.mem_of_getElem? (i := 0) rfl) (by decide)) (hp_gLi (z := (0 + (1 * cq + 0))) gL (List.mem_of_getElem? (i := 1) rfl) rfl (by omega)) (hp_gLa gL (List.mem_of_getElem? (i := 2) rfl) (by decide)) (hp_gLi (z := (0 + 0)) gL (List.mem_of_getElem? (i := 3) rfl) rfl (by omega)) (hp_gLi (z := (0 + 0)) gL (List.mem_of_getElem? (i := 4) rfl) rfl (by omega)) (hp_gLi (z := (0 + 0)) gL (List.mem_of_getElem? (i := 5) rfl) rfl (by omega)) (hp_gLi (z := (0 + 0)) gL (List.mem_of_getElem? (i := 6) rfl) rfl (by omega)) (hp_gLj (z := ((-20004) + 0)) gL (List.mem_of_getElem? (i := 7) rfl) rfl (by omega)) (hp_gLi (z := (0 + 0)) gL (List.mem_of_getElem? (i := 8) rfl) rfl (by omega))
    cases hp
  · intro p_9 hp ys v_9 h' hys a1_9 a2 a3 gZ gS
    cases hp
theorem tmE_k : hq_chk [124, 125, 127] 123 19 9 [(0, 0, 1239), (1, (-2147483648), 2147483647), (2, 0, 31), (3, (-210000000), 210000000), (4, (-210000000), 210000000), (5, (-20004), (-20001)), (6, 0, 1240), (7, 0, 10240), (8, 0, 10240)] [((-1), [(0, (-1)), (6, 1)]), (0, [(7, (-1)), (8, 1)])] [(0, .inr (.inr (.inl (some 30)))), (1, .inl (0, [(0, 1)])), (2, .inr (.inr (.inl (some 91)))), (3, .inl (0, [(1, 1)])), (4, .inl (0, [(2, 1)])), (5, .inl (0, [(3, 1)])), (6, .inl (0, [(4, 1)])), (7, .inr (.inl (0, [(5, 1)]))), (9, .inl (0, [(7, (-1)), (8, 1)]))] [] [(3588, (0, []), (0, [(6, 1)])), (5632, (0, [(0, 1)]), (0, [(7, 1)])), (5632, (1, [(0, 1)]), (0, [(8, 1)]))] [] 4 [] [([], 9, [(0, 0, 1239), (1, (-2147483648), 2147483647), (2, 0, 31), (3, (-210000000), 210000000), (4, (-210000000), 210000000), (5, (-20004), (-20001)), (6, 0, 1240), (7, 0, 10240), (8, 0, 10240)], [], [], [.inl (0, [(1, 1)])], [])] = true := by decide +kernel
theorem tmE {cst : am_K} {strs : List Nat} {Φ : am_Q → Prop} {D : Nat} {M : am_M} {h : am_H} {l : am_L} (c : hp_C cst strs D) (hM : m_P[123]? = some M) (hD : (4 : Int) ≤ (D : Int) + 1) (hy : ly_hy m_tt ly_TH h) (cq b n ah su re cl f g : Int) (b0 : 0 ≤ cq) (t0 : cq ≤ 1239) (b1 : (-2147483648) ≤ b) (t1 : b ≤ 2147483647) (b2 : 0 ≤ n) (t2 : n ≤ 31) (b3 : (-210000000) ≤ ah) (t3 : ah ≤ 210000000) (b4 : (-210000000) ≤ su) (t4 : su ≤ 210000000) (b5 : (-20004) ≤ re) (t5 : re ≤ (-20001)) (b6 : 0 ≤ cl) (t6 : cl ≤ 1240) (b7 : 0 ≤ f) (t7 : f ≤ 10240) (b8 : 0 ≤ g) (t8 : g ≤ 10240) (f0 : 0 ≤ (cl - cq - 1)) (f1 : 0 ≤ (g - f)) (k0 : ly_hv cst h 3588 0 = some (cl)) (k1 : ly_hv cst h 5632 (cq) = some (f)) (k2 : ly_hv cst h 5632 (cq + 1) = some (g)) (l0 : hp_a l 0 30) (l1 : hp_i l 1 (cq)) (l2 : hp_a l 2 91) (l3 : hp_i l 3 (b)) (l4 : hp_i l 4 (n)) (l5 : hp_i l 5 (ah)) (l6 : hp_i l 6 (su)) (l7 : hp_j l 7 (re)) (l9 : hp_i l 9 (g - f)) (r0 : ∀ (h' : am_H) (y0 : Int32), y0.toInt = (b) → ly_hy m_tt ly_TH h' → ly_fr cst [] h h' → h.length ≤ h'.length → Φ (some (.int y0), h', 0, 0)) : hp_F cst strs Φ D M 19 l [] h := by
  refine hq_arc c hM tmE_k hD [cq, b, n, ah, su, re, cl, f, g] rfl hy (hp_Bc (z := cq) rfl b0 t0 (hp_Bc (z := b) rfl b1 t1 (hp_Bc (z := n) rfl b2 t2 (hp_Bc (z := ah) rfl b3 t3 (hp_Bc (z := su) rfl b4 t4 (hp_Bc (z := re) rfl b5 t5 (hp_Bc (z := cl) rfl b6 t6 (hp_Bc (z := f) rfl b7 t7 (hp_Bc (z := g) rfl b8 t8 hp_Bn))))))))) (hp_Fc (z := ((-1) + ((-1) * cq + (1 * cl + 0)))) rfl (by omega) (hp_Fc (z := (0 + ((-1) * f + (1 * g + 0)))) rfl (by omega) hp_Fn)) (hp_Kc (zi := (0 + 0)) (zv := (0 + (1 * cl + 0))) k0 rfl rfl (by omega) (by omega) (hp_Kc (zi := (0 + (1 * cq + 0))) (zv := (0 + (1 * f + 0))) k1 rfl rfl (by omega) (by omega) (hp_Kc (zi := (1 + (1 * cq + 0))) (zv := (0 + (1 * g + 0))) k2 rfl rfl (by omega) (by omega) hp_Kn))) (hp_La l0 (hp_Li (z := (0 + (1 * cq + 0))) l1 rfl (by omega) (hp_La l2 (hp_Li (z := (0 + (1 * b + 0))) l3 rfl (by omega) (hp_Li (z := (0 + (1 * n + 0))) l4 rfl (by omega) (hp_Li (z := (0 + (1 * ah + 0))) l5 rfl (by omega) (hp_Li (z := (0 + (1 * su + 0))) l6 rfl (by omega) (hp_Lj (z := (0 + (1 * re + 0))) l7 rfl (by omega) (hp_Li (z := (0 + ((-1) * f + (1 * g + 0)))) l9 rfl (by omega) hp_Ln))))))))) trivial ?_ ?_
  · intro p_9 hp ys l' st' h' hys a1_9 a2 a3 gZ gL gS
    cases hp
  · intro p_9 hp ys v_9 h' hys a1_9 a2 a3 gZ gS
    rcases List.mem_cons.mp hp with rfl | hp
    · obtain rfl := hp_y0 hys
      cases v_9 with
      | none => cases gS
      | some wz =>
        obtain ⟨y0, t0, s0_9, q0, -⟩ := hp_gSi (z := (0 + (1 * b + 0))) gS rfl
        cases s0_9
        exact r0 h' y0 (by omega) a1_9 a2 a3
    cases hp
theorem tmW_k : hq_chk [124, 125, 127] 123 19 11 [(0, 0, 1239), (1, (-2147483648), 2147483647), (2, 0, 31), (3, (-210000000), 210000000), (4, (-210000000), 210000000), (5, (-20004), (-20001)), (6, 0, 10240), (7, 0, 1240), (8, 0, 10240), (9, 0, 10240), (10, 1, 9223372036854775807)] [((-1), [(0, (-1)), (7, 1)]), ((-1), [(6, (-1)), (8, (-1)), (9, 1)])] [(0, .inr (.inr (.inl (some 30)))), (1, .inl (0, [(0, 1)])), (2, .inr (.inr (.inl (some 91)))), (3, .inl (0, [(1, 1)])), (4, .inl (0, [(2, 1)])), (5, .inl (0, [(3, 1)])), (6, .inl (0, [(4, 1)])), (7, .inr (.inl (0, [(5, 1)]))), (9, .inl (0, [(6, 1)]))] [] [(3588, (0, []), (0, [(7, 1)])), (5632, (0, [(0, 1)]), (0, [(8, 1)])), (5632, (1, [(0, 1)]), (0, [(9, 1)])), (5888, (0, [(6, 1), (8, 1)]), (0, [(10, 1)]))] [] 4 [(50, ([], 11, [(0, 0, 1239), (1, (-2147483648), 2147483647), (2, 0, 31), (3, (-210000000), 210000000), (4, (-210000000), 210000000), (5, (-20004), (-20001)), (6, 0, 10240), (7, 0, 1240), (8, 0, 10240), (9, 0, 10240), (10, 1, 9223372036854775807)], [], [(0, .inr (.inr (.inl (some 30)))), (1, .inl (0, [(0, 1)])), (2, .inr (.inr (.inl (some 91)))), (3, .inl (0, [(1, 1)])), (4, .inl (0, [(2, 1)])), (5, .inl (0, [(3, 1)])), (6, .inl (0, [(4, 1)])), (7, .inr (.inl (0, [(5, 1)]))), (9, .inl (0, [(6, 1)]))], [.inr (.inl (0, [(10, 1)])), .inr (.inr (.inl (some 91))), .inl (0, [(4, 1)])], []))] [] = true := by decide +kernel
theorem tmW {cst : am_K} {strs : List Nat} {Φ : am_Q → Prop} {D : Nat} {M : am_M} {h : am_H} {l : am_L} (c : hp_C cst strs D) (hM : m_P[123]? = some M) (hD : (4 : Int) ≤ (D : Int) + 1) (hy : ly_hy m_tt ly_TH h) (cq b n ah su re i cl f g x : Int) (b0 : 0 ≤ cq) (t0 : cq ≤ 1239) (b1 : (-2147483648) ≤ b) (t1 : b ≤ 2147483647) (b2 : 0 ≤ n) (t2 : n ≤ 31) (b3 : (-210000000) ≤ ah) (t3 : ah ≤ 210000000) (b4 : (-210000000) ≤ su) (t4 : su ≤ 210000000) (b5 : (-20004) ≤ re) (t5 : re ≤ (-20001)) (b6 : 0 ≤ i) (t6 : i ≤ 10240) (b7 : 0 ≤ cl) (t7 : cl ≤ 1240) (b8 : 0 ≤ f) (t8 : f ≤ 10240) (b9 : 0 ≤ g) (t9 : g ≤ 10240) (b10 : 1 ≤ x) (t10 : x ≤ 9223372036854775807) (f0 : 0 ≤ (cl - cq - 1)) (f1 : 0 ≤ (g - f - i - 1)) (k0 : ly_hv cst h 3588 0 = some (cl)) (k1 : ly_hv cst h 5632 (cq) = some (f)) (k2 : ly_hv cst h 5632 (cq + 1) = some (g)) (k3 : ly_hv cst h 5888 (f + i) = some (x)) (l0 : hp_a l 0 30) (l1 : hp_i l 1 (cq)) (l2 : hp_a l 2 91) (l3 : hp_i l 3 (b)) (l4 : hp_i l 4 (n)) (l5 : hp_i l 5 (ah)) (l6 : hp_i l 6 (su)) (l7 : hp_j l 7 (re)) (l9 : hp_i l 9 (i)) (e0 : ∀ (l' : am_L) (h' : am_H) (y0 : Int64) (y2 : Int32), y0.toInt = (x) → y2.toInt = (su) → ly_hy m_tt ly_TH h' → ly_fr cst [] h h' → h.length ≤ h'.length → hp_a l' 0 30 → hp_i l' 1 (cq) → hp_a l' 2 91 → hp_i l' 3 (b) → hp_i l' 4 (n) → hp_i l' 5 (ah) → hp_i l' 6 (su) → hp_j l' 7 (re) → hp_i l' 9 (i) → hp_F cst strs Φ D M 50 l' [.long y0, .ref 91, .int y2] h') : hp_F cst strs Φ D M 19 l [] h := by
  refine hq_arc c hM tmW_k hD [cq, b, n, ah, su, re, i, cl, f, g, x] rfl hy (hp_Bc (z := cq) rfl b0 t0 (hp_Bc (z := b) rfl b1 t1 (hp_Bc (z := n) rfl b2 t2 (hp_Bc (z := ah) rfl b3 t3 (hp_Bc (z := su) rfl b4 t4 (hp_Bc (z := re) rfl b5 t5 (hp_Bc (z := i) rfl b6 t6 (hp_Bc (z := cl) rfl b7 t7 (hp_Bc (z := f) rfl b8 t8 (hp_Bc (z := g) rfl b9 t9 (hp_Bc (z := x) rfl b10 t10 hp_Bn))))))))))) (hp_Fc (z := ((-1) + ((-1) * cq + (1 * cl + 0)))) rfl (by omega) (hp_Fc (z := ((-1) + ((-1) * i + ((-1) * f + (1 * g + 0))))) rfl (by omega) hp_Fn)) (hp_Kc (zi := (0 + 0)) (zv := (0 + (1 * cl + 0))) k0 rfl rfl (by omega) (by omega) (hp_Kc (zi := (0 + (1 * cq + 0))) (zv := (0 + (1 * f + 0))) k1 rfl rfl (by omega) (by omega) (hp_Kc (zi := (1 + (1 * cq + 0))) (zv := (0 + (1 * g + 0))) k2 rfl rfl (by omega) (by omega) (hp_Kc (zi := (0 + (1 * i + (1 * f + 0)))) (zv := (0 + (1 * x + 0))) k3 rfl rfl (by omega) (by omega) hp_Kn)))) (hp_La l0 (hp_Li (z := (0 + (1 * cq + 0))) l1 rfl (by omega) (hp_La l2 (hp_Li (z := (0 + (1 * b + 0))) l3 rfl (by omega) (hp_Li (z := (0 + (1 * n + 0))) l4 rfl (by omega) (hp_Li (z := (0 + (1 * ah + 0))) l5 rfl (by omega) (hp_Li (z := (0 + (1 * su + 0))) l6 rfl (by omega) (hp_Lj (z := (0 + (1 * re + 0))) l7 rfl (by omega) (hp_Li (z := (0 + (1 * i + 0))) l9 rfl (by omega) hp_Ln))))))))) trivial ?_ ?_
  · intro p_9 hp ys l' st' h' hys a1_9 a2 a3 gZ gL gS
    rcases List.mem_cons.mp hp with rfl | hp
    · obtain rfl := hp_y0 hys
      obtain ⟨y0, t0, rfl, q0, g0⟩ := hp_gSj (z := (0 + (1 * x + 0))) gS rfl
      obtain ⟨t1, rfl, g1⟩ := hp_gSa g0 (by decide)
      obtain ⟨y2, t2, rfl, q2_9, g2⟩ := hp_gSi (z := (0 + (1 * su + 0))) g1 rfl
      cases hp_gSn g2
      exact e0 l' h' y0 y2 (by omega) (by omega) a1_9 a2 a3 (hp_gLa gL (List.mem_of_getElem? (i := 0) rfl) (by decide)) (hp_gLi (z := (0 + (1 * cq + 0))) gL (List.mem_of_getElem? (i := 1) rfl) rfl (by omega)) (hp_gLa gL (List.mem_of_getElem? (i := 2) rfl) (by decide)) (hp_gLi (z := (0 + (1 * b + 0))) gL (List.mem_of_getElem? (i := 3) rfl) rfl (by omega)) (hp_gLi (z := (0 + (1 * n + 0))) gL (List.mem_of_getElem? (i := 4) rfl) rfl (by omega)) (hp_gLi (z := (0 + (1 * ah + 0))) gL (List.mem_of_getElem? (i := 5) rfl) rfl (by omega)) (hp_gLi (z := (0 + (1 * su + 0))) gL (List.mem_of_getElem? (i := 6) rfl) rfl (by omega)) (hp_gLj (z := (0 + (1 * re + 0))) gL (List.mem_of_getElem? (i := 7) rfl) rfl (by omega)) (hp_gLi (z := (0 + (1 * i + 0))) gL (List.mem_of_getElem? (i := 8) rfl) rfl (by omega))
    cases hp
  · intro p_9 hp ys v_9 h' hys a1_9 a2 a3 gZ gS
    cases hp
theorem tmV_k : hp_chk 123 53 8 [(0, 0, 1239), (1, (-2147483648), 2147483647), (2, 0, 31), (3, (-210000000), 210000000), (4, (-210000000), 210000000), (5, (-20004), (-20001)), (6, 0, 10240), (7, 0, 20000)] [] [(0, .inr (.inr (.inl (some 30)))), (1, .inl (0, [(0, 1)])), (2, .inr (.inr (.inl (some 91)))), (3, .inl (0, [(1, 1)])), (4, .inl (0, [(2, 1)])), (5, .inl (0, [(3, 1)])), (6, .inl (0, [(4, 1)])), (7, .inr (.inl (0, [(5, 1)]))), (9, .inl (0, [(6, 1)]))] [.inl (0, [(7, 1)]), .inl (0, [(4, 1)])] [] [] 2 [(19, ([], 8, [(0, 0, 1239), (1, (-2147483648), 2147483647), (2, 0, 31), (3, (-210000000), 210000000), (4, (-210000000), 210000000), (5, (-20004), (-20001)), (6, 0, 10240), (7, 0, 20000)], [], [(0, .inr (.inr (.inl (some 30)))), (1, .inl (0, [(0, 1)])), (2, .inr (.inr (.inl (some 91)))), (3, .inl (0, [(1, 1)])), (4, .inl (0, [(2, 1)])), (5, .inl (0, [(3, 1)])), (6, .inl (0, [(4, 1), (7, 1)])), (7, .inr (.inl (0, [(5, 1)]))), (9, .inl (1, [(6, 1)]))], [], []))] [] = true := by decide +kernel
theorem tmV {cst : am_K} {strs : List Nat} {Φ : am_Q → Prop} {D : Nat} {M : am_M} {h : am_H} {l : am_L} (c : hp_C cst strs D) (hM : m_P[123]? = some M) (hD : (2 : Int) ≤ (D : Int) + 1) (hy : ly_hy m_tt ly_TH h) (cq b n ah su re i v : Int) (x0 : Int32) (x1 : Int32) (hx0 : x0.toInt = (v)) (hx1 : x1.toInt = (su)) (b0 : 0 ≤ cq) (t0 : cq ≤ 1239) (b1 : (-2147483648) ≤ b) (t1 : b ≤ 2147483647) (b2 : 0 ≤ n) (t2 : n ≤ 31) (b3 : (-210000000) ≤ ah) (t3 : ah ≤ 210000000) (b4 : (-210000000) ≤ su) (t4 : su ≤ 210000000) (b5 : (-20004) ≤ re) (t5 : re ≤ (-20001)) (b6 : 0 ≤ i) (t6 : i ≤ 10240) (b7 : 0 ≤ v) (t7 : v ≤ 20000) (l0 : hp_a l 0 30) (l1 : hp_i l 1 (cq)) (l2 : hp_a l 2 91) (l3 : hp_i l 3 (b)) (l4 : hp_i l 4 (n)) (l5 : hp_i l 5 (ah)) (l6 : hp_i l 6 (su)) (l7 : hp_j l 7 (re)) (l9 : hp_i l 9 (i)) (e0 : ∀ (l' : am_L) (h' : am_H), ly_hy m_tt ly_TH h' → ly_fr cst [] h h' → h.length ≤ h'.length → hp_a l' 0 30 → hp_i l' 1 (cq) → hp_a l' 2 91 → hp_i l' 3 (b) → hp_i l' 4 (n) → hp_i l' 5 (ah) → hp_i l' 6 (su + v) → hp_j l' 7 (re) → hp_i l' 9 (i + 1) → hp_F cst strs Φ D M 19 l' [] h') : hp_F cst strs Φ D M 53 l [.int x0, .int x1] h := by
  refine hp_arc c hM tmV_k hD [cq, b, n, ah, su, re, i, v] rfl hy (hp_Bc (z := cq) rfl b0 t0 (hp_Bc (z := b) rfl b1 t1 (hp_Bc (z := n) rfl b2 t2 (hp_Bc (z := ah) rfl b3 t3 (hp_Bc (z := su) rfl b4 t4 (hp_Bc (z := re) rfl b5 t5 (hp_Bc (z := i) rfl b6 t6 (hp_Bc (z := v) rfl b7 t7 hp_Bn)))))))) hp_Fn hp_Kn (hp_La l0 (hp_Li (z := (0 + (1 * cq + 0))) l1 rfl (by omega) (hp_La l2 (hp_Li (z := (0 + (1 * b + 0))) l3 rfl (by omega) (hp_Li (z := (0 + (1 * n + 0))) l4 rfl (by omega) (hp_Li (z := (0 + (1 * ah + 0))) l5 rfl (by omega) (hp_Li (z := (0 + (1 * su + 0))) l6 rfl (by omega) (hp_Lj (z := (0 + (1 * re + 0))) l7 rfl (by omega) (hp_Li (z := (0 + (1 * i + 0))) l9 rfl (by omega) hp_Ln))))))))) (hp_Si (z := (0 + (1 * v + 0))) rfl (by omega) (hp_Si (z := (0 + (1 * su + 0))) rfl (by omega) trivial)) ?_ ?_
  · intro p_9 hp ys l' st' h' hys a1_9 a2 a3 gZ gL gS
    rcases List.mem_cons.mp hp with rfl | hp
    · obtain rfl := hp_y0 hys
      cases hp_gSn gS
      exact e0 l' h' a1_9 a2 a3 (hp_gLa gL (List.mem_of_getElem? (i := 0) rfl) (by decide)) (hp_gLi (z := (0 + (1 * cq + 0))) gL (List.mem_of_getElem? (i := 1) rfl) rfl (by omega)) (hp_gLa gL (List.mem_of_getElem? (i := 2) rfl) (by decide)) (hp_gLi (z := (0 + (1 * b + 0))) gL (List.mem_of_getElem? (i := 3) rfl) rfl (by omega)) (hp_gLi (z := (0 + (1 * n + 0))) gL (List.mem_of_getElem? (i := 4) rfl) rfl (by omega)) (hp_gLi (z := (0 + (1 * ah + 0))) gL (List.mem_of_getElem? (i := 5) rfl) rfl (by omega)) (hp_gLi (z := (0 + (1 * su + (1 * v + 0)))) gL (List.mem_of_getElem? (i := 6) rfl) rfl (by omega)) (hp_gLj (z := (0 + (1 * re + 0))) gL (List.mem_of_getElem? (i := 7) rfl) rfl (by omega)) (hp_gLi (z := (1 + (1 * i + 0))) gL (List.mem_of_getElem? (i := 8) rfl) rfl (by omega))
    cases hp
  · intro p_9 hp ys v h' hys a1_9 a2 a3 gZ gS
    cases hp
theorem tmN_k : hq_chk [124, 125, 127] 123 19 11 [(0, 0, 1239), (1, (-2147483648), 2147483647), (2, 0, 31), (3, (-210000000), 210000000), (4, (-210000000), 210000000), (5, (-20004), (-20001)), (6, 0, 10240), (7, 0, 1240), (8, 0, 10240), (9, 0, 10240), (10, (-19999), 0)] [((-1), [(0, (-1)), (7, 1)]), ((-1), [(6, (-1)), (8, (-1)), (9, 1)])] [(0, .inr (.inr (.inl (some 30)))), (1, .inl (0, [(0, 1)])), (2, .inr (.inr (.inl (some 91)))), (3, .inl (0, [(1, 1)])), (4, .inl (0, [(2, 1)])), (5, .inl (0, [(3, 1)])), (6, .inl (0, [(4, 1)])), (7, .inr (.inl (0, [(5, 1)]))), (9, .inl (0, [(6, 1)]))] [] [(3588, (0, []), (0, [(7, 1)])), (5632, (0, [(0, 1)]), (0, [(8, 1)])), (5632, (1, [(0, 1)]), (0, [(9, 1)])), (5888, (0, [(6, 1), (8, 1)]), (0, [(10, 1)]))] [] 4 [(19, ([], 11, [(0, 0, 1239), (1, (-2147483648), 2147483647), (2, 0, 31), (3, (-210000000), 210000000), (4, (-210000000), 210000000), (5, (-20004), (-20001)), (6, 0, 10240), (7, 0, 1240), (8, 0, 10240), (9, 0, 10240), (10, (-19999), 0)], [], [(0, .inr (.inr (.inl (some 30)))), (1, .inl (0, [(0, 1)])), (2, .inr (.inr (.inl (some 91)))), (3, .inl (0, [(1, 1)])), (4, .inl (0, [(2, 1)])), (5, .inl (0, [(3, 1)])), (6, .inl ((-1), [(4, 1), (10, (-1))])), (7, .inr (.inl (0, [(5, 1)]))), (9, .inl (1, [(6, 1)]))], [], []))] [] = true := by decide +kernel
theorem tmN {cst : am_K} {strs : List Nat} {Φ : am_Q → Prop} {D : Nat} {M : am_M} {h : am_H} {l : am_L} (c : hp_C cst strs D) (hM : m_P[123]? = some M) (hD : (4 : Int) ≤ (D : Int) + 1) (hy : ly_hy m_tt ly_TH h) (cq b n ah su re i cl f g x : Int) (b0 : 0 ≤ cq) (t0 : cq ≤ 1239) (b1 : (-2147483648) ≤ b) (t1 : b ≤ 2147483647) (b2 : 0 ≤ n) (t2 : n ≤ 31) (b3 : (-210000000) ≤ ah) (t3 : ah ≤ 210000000) (b4 : (-210000000) ≤ su) (t4 : su ≤ 210000000) (b5 : (-20004) ≤ re) (t5 : re ≤ (-20001)) (b6 : 0 ≤ i) (t6 : i ≤ 10240) (b7 : 0 ≤ cl) (t7 : cl ≤ 1240) (b8 : 0 ≤ f) (t8 : f ≤ 10240) (b9 : 0 ≤ g) (t9 : g ≤ 10240) (b10 : (-19999) ≤ x) (t10 : x ≤ 0) (f0 : 0 ≤ (cl - cq - 1)) (f1 : 0 ≤ (g - f - i - 1)) (k0 : ly_hv cst h 3588 0 = some (cl)) (k1 : ly_hv cst h 5632 (cq) = some (f)) (k2 : ly_hv cst h 5632 (cq + 1) = some (g)) (k3 : ly_hv cst h 5888 (f + i) = some (x)) (l0 : hp_a l 0 30) (l1 : hp_i l 1 (cq)) (l2 : hp_a l 2 91) (l3 : hp_i l 3 (b)) (l4 : hp_i l 4 (n)) (l5 : hp_i l 5 (ah)) (l6 : hp_i l 6 (su)) (l7 : hp_j l 7 (re)) (l9 : hp_i l 9 (i)) (e0 : ∀ (l' : am_L) (h' : am_H), ly_hy m_tt ly_TH h' → ly_fr cst [] h h' → h.length ≤ h'.length → hp_a l' 0 30 → hp_i l' 1 (cq) → hp_a l' 2 91 → hp_i l' 3 (b) → hp_i l' 4 (n) → hp_i l' 5 (ah) → hp_i l' 6 (su - x - 1) → hp_j l' 7 (re) → hp_i l' 9 (i + 1) → hp_F cst strs Φ D M 19 l' [] h') : hp_F cst strs Φ D M 19 l [] h := by
  refine hq_arc c hM tmN_k hD [cq, b, n, ah, su, re, i, cl, f, g, x] rfl hy (hp_Bc (z := cq) rfl b0 t0 (hp_Bc (z := b) rfl b1 t1 (hp_Bc (z := n) rfl b2 t2 (hp_Bc (z := ah) rfl b3 t3 (hp_Bc (z := su) rfl b4 t4 (hp_Bc (z := re) rfl b5 t5 (hp_Bc (z := i) rfl b6 t6 (hp_Bc (z := cl) rfl b7 t7 (hp_Bc (z := f) rfl b8 t8 (hp_Bc (z := g) rfl b9 t9 (hp_Bc (z := x) rfl b10 t10 hp_Bn))))))))))) (hp_Fc (z := ((-1) + ((-1) * cq + (1 * cl + 0)))) rfl (by omega) (hp_Fc (z := ((-1) + ((-1) * i + ((-1) * f + (1 * g + 0))))) rfl (by omega) hp_Fn)) (hp_Kc (zi := (0 + 0)) (zv := (0 + (1 * cl + 0))) k0 rfl rfl (by omega) (by omega) (hp_Kc (zi := (0 + (1 * cq + 0))) (zv := (0 + (1 * f + 0))) k1 rfl rfl (by omega) (by omega) (hp_Kc (zi := (1 + (1 * cq + 0))) (zv := (0 + (1 * g + 0))) k2 rfl rfl (by omega) (by omega) (hp_Kc (zi := (0 + (1 * i + (1 * f + 0)))) (zv := (0 + (1 * x + 0))) k3 rfl rfl (by omega) (by omega) hp_Kn)))) (hp_La l0 (hp_Li (z := (0 + (1 * cq + 0))) l1 rfl (by omega) (hp_La l2 (hp_Li (z := (0 + (1 * b + 0))) l3 rfl (by omega) (hp_Li (z := (0 + (1 * n + 0))) l4 rfl (by omega) (hp_Li (z := (0 + (1 * ah + 0))) l5 rfl (by omega) (hp_Li (z := (0 + (1 * su + 0))) l6 rfl (by omega) (hp_Lj (z := (0 + (1 * re + 0))) l7 rfl (by omega) (hp_Li (z := (0 + (1 * i + 0))) l9 rfl (by omega) hp_Ln))))))))) trivial ?_ ?_
  · intro p_9 hp ys l' st' h' hys a1_9 a2 a3 gZ gL gS
    rcases List.mem_cons.mp hp with rfl | hp
    · obtain rfl := hp_y0 hys
      cases hp_gSn gS
      exact e0 l' h' a1_9 a2 a3 (hp_gLa gL (List.mem_of_getElem? (i := 0) rfl) (by decide)) (hp_gLi (z := (0 + (1 * cq + 0))) gL (List.mem_of_getElem? (i := 1) rfl) rfl (by omega)) (hp_gLa gL (List.mem_of_getElem? (i := 2) rfl) (by decide)) (hp_gLi (z := (0 + (1 * b + 0))) gL (List.mem_of_getElem? (i := 3) rfl) rfl (by omega)) (hp_gLi (z := (0 + (1 * n + 0))) gL (List.mem_of_getElem? (i := 4) rfl) rfl (by omega)) (hp_gLi (z := (0 + (1 * ah + 0))) gL (List.mem_of_getElem? (i := 5) rfl) rfl (by omega)) (hp_gLi (z := ((-1) + (1 * su + ((-1) * x + 0)))) gL (List.mem_of_getElem? (i := 6) rfl) rfl (by omega)) (hp_gLj (z := (0 + (1 * re + 0))) gL (List.mem_of_getElem? (i := 7) rfl) rfl (by omega)) (hp_gLi (z := (1 + (1 * i + 0))) gL (List.mem_of_getElem? (i := 8) rfl) rfl (by omega))
    cases hp
  · intro p_9 hp ys v_9 h' hys a1_9 a2 a3 gZ gS
    cases hp
theorem tmR_k : hq_chk [124, 125, 127] 123 19 11 [(0, 0, 1239), (1, (-2147483648), 2147483647), (2, 0, 31), (3, (-210000000), 210000000), (4, (-210000000), 210000000), (5, (-20004), (-20001)), (6, 0, 10240), (7, 0, 1240), (8, 0, 10240), (9, 0, 10240), (10, (-20003), (-20000))] [((-1), [(0, (-1)), (7, 1)]), ((-1), [(6, (-1)), (8, (-1)), (9, 1)])] [(0, .inr (.inr (.inl (some 30)))), (1, .inl (0, [(0, 1)])), (2, .inr (.inr (.inl (some 91)))), (3, .inl (0, [(1, 1)])), (4, .inl (0, [(2, 1)])), (5, .inl (0, [(3, 1)])), (6, .inl (0, [(4, 1)])), (7, .inr (.inl (0, [(5, 1)]))), (9, .inl (0, [(6, 1)]))] [] [(3588, (0, []), (0, [(7, 1)])), (5632, (0, [(0, 1)]), (0, [(8, 1)])), (5632, (1, [(0, 1)]), (0, [(9, 1)])), (5888, (0, [(6, 1), (8, 1)]), (0, [(10, 1)]))] [] 4 [(19, ([], 11, [(0, 0, 1239), (1, (-2147483648), 2147483647), (2, 0, 31), (3, (-210000000), 210000000), (4, (-210000000), 210000000), (5, (-20004), (-20001)), (6, 0, 10240), (7, 0, 1240), (8, 0, 10240), (9, 0, 10240), (10, (-20003), (-20000))], [], [(0, .inr (.inr (.inl (some 30)))), (1, .inl (0, [(0, 1)])), (2, .inr (.inr (.inl (some 91)))), (3, .inl (0, [(1, 1)])), (4, .inl (0, [(2, 1)])), (5, .inl (0, [(4, 1)])), (6, .inl (0, [])), (7, .inr (.inl (0, [(10, 1)]))), (9, .inl (1, [(6, 1)]))], [], []))] [] = true := by decide +kernel
theorem tmR {cst : am_K} {strs : List Nat} {Φ : am_Q → Prop} {D : Nat} {M : am_M} {h : am_H} {l : am_L} (c : hp_C cst strs D) (hM : m_P[123]? = some M) (hD : (4 : Int) ≤ (D : Int) + 1) (hy : ly_hy m_tt ly_TH h) (cq b n ah su re i cl f g x : Int) (b0 : 0 ≤ cq) (t0 : cq ≤ 1239) (b1 : (-2147483648) ≤ b) (t1 : b ≤ 2147483647) (b2 : 0 ≤ n) (t2 : n ≤ 31) (b3 : (-210000000) ≤ ah) (t3 : ah ≤ 210000000) (b4 : (-210000000) ≤ su) (t4 : su ≤ 210000000) (b5 : (-20004) ≤ re) (t5 : re ≤ (-20001)) (b6 : 0 ≤ i) (t6 : i ≤ 10240) (b7 : 0 ≤ cl) (t7 : cl ≤ 1240) (b8 : 0 ≤ f) (t8 : f ≤ 10240) (b9 : 0 ≤ g) (t9 : g ≤ 10240) (b10 : (-20003) ≤ x) (t10 : x ≤ (-20000)) (f0 : 0 ≤ (cl - cq - 1)) (f1 : 0 ≤ (g - f - i - 1)) (k0 : ly_hv cst h 3588 0 = some (cl)) (k1 : ly_hv cst h 5632 (cq) = some (f)) (k2 : ly_hv cst h 5632 (cq + 1) = some (g)) (k3 : ly_hv cst h 5888 (f + i) = some (x)) (l0 : hp_a l 0 30) (l1 : hp_i l 1 (cq)) (l2 : hp_a l 2 91) (l3 : hp_i l 3 (b)) (l4 : hp_i l 4 (n)) (l5 : hp_i l 5 (ah)) (l6 : hp_i l 6 (su)) (l7 : hp_j l 7 (re)) (l9 : hp_i l 9 (i)) (e0 : ∀ (l' : am_L) (h' : am_H), ly_hy m_tt ly_TH h' → ly_fr cst [] h h' → h.length ≤ h'.length → hp_a l' 0 30 → hp_i l' 1 (cq) → hp_a l' 2 91 → hp_i l' 3 (b) → hp_i l' 4 (n) → hp_i l' 5 (su) → hp_i l' 6 0 → hp_j l' 7 (x) → hp_i l' 9 (i + 1) → hp_F cst strs Φ D M 19 l' [] h') : hp_F cst strs Φ D M 19 l [] h := by
  refine hq_arc c hM tmR_k hD [cq, b, n, ah, su, re, i, cl, f, g, x] rfl hy (hp_Bc (z := cq) rfl b0 t0 (hp_Bc (z := b) rfl b1 t1 (hp_Bc (z := n) rfl b2 t2 (hp_Bc (z := ah) rfl b3 t3 (hp_Bc (z := su) rfl b4 t4 (hp_Bc (z := re) rfl b5 t5 (hp_Bc (z := i) rfl b6 t6 (hp_Bc (z := cl) rfl b7 t7 (hp_Bc (z := f) rfl b8 t8 (hp_Bc (z := g) rfl b9 t9 (hp_Bc (z := x) rfl b10 t10 hp_Bn))))))))))) (hp_Fc (z := ((-1) + ((-1) * cq + (1 * cl + 0)))) rfl (by omega) (hp_Fc (z := ((-1) + ((-1) * i + ((-1) * f + (1 * g + 0))))) rfl (by omega) hp_Fn)) (hp_Kc (zi := (0 + 0)) (zv := (0 + (1 * cl + 0))) k0 rfl rfl (by omega) (by omega) (hp_Kc (zi := (0 + (1 * cq + 0))) (zv := (0 + (1 * f + 0))) k1 rfl rfl (by omega) (by omega) (hp_Kc (zi := (1 + (1 * cq + 0))) (zv := (0 + (1 * g + 0))) k2 rfl rfl (by omega) (by omega) (hp_Kc (zi := (0 + (1 * i + (1 * f + 0)))) (zv := (0 + (1 * x + 0))) k3 rfl rfl (by omega) (by omega) hp_Kn)))) (hp_La l0 (hp_Li (z := (0 + (1 * cq + 0))) l1 rfl (by omega) (hp_La l2 (hp_Li (z := (0 + (1 * b + 0))) l3 rfl (by omega) (hp_Li (z := (0 + (1 * n + 0))) l4 rfl (by omega) (hp_Li (z := (0 + (1 * ah + 0))) l5 rfl (by omega) (hp_Li (z := (0 + (1 * su + 0))) l6 rfl (by omega) (hp_Lj (z := (0 + (1 * re + 0))) l7 rfl (by omega) (hp_Li (z := (0 + (1 * i + 0))) l9 rfl (by omega) hp_Ln))))))))) trivial ?_ ?_
  · intro p_9 hp ys l' st' h' hys a1_9 a2 a3 gZ gL gS
    rcases List.mem_cons.mp hp with rfl | hp
    · obtain rfl := hp_y0 hys
      cases hp_gSn gS
      exact e0 l' h' a1_9 a2 a3 (hp_gLa gL (List.mem_of_getElem? (i := 0) rfl) (by decide)) (hp_gLi (z := (0 + (1 * cq + 0))) gL (List.mem_of_getElem? (i := 1) rfl) rfl (by omega)) (hp_gLa gL (List.mem_of_getElem? (i := 2) rfl) (by decide)) (hp_gLi (z := (0 + (1 * b + 0))) gL (List.mem_of_getElem? (i := 3) rfl) rfl (by omega)) (hp_gLi (z := (0 + (1 * n + 0))) gL (List.mem_of_getElem? (i := 4) rfl) rfl (by omega)) (hp_gLi (z := (0 + (1 * su + 0))) gL (List.mem_of_getElem? (i := 5) rfl) rfl (by omega)) (hp_gLi (z := (0 + 0)) gL (List.mem_of_getElem? (i := 6) rfl) rfl (by omega)) (hp_gLj (z := (0 + (1 * x + 0))) gL (List.mem_of_getElem? (i := 7) rfl) rfl (by omega)) (hp_gLi (z := (1 + (1 * i + 0))) gL (List.mem_of_getElem? (i := 8) rfl) rfl (by omega))
    cases hp
  · intro p_9 hp ys v_9 h' hys a1_9 a2 a3 gZ gS
    cases hp
theorem tmJ_k : hq_chk [124, 125, 127] 123 19 11 [(0, 0, 1239), (1, (-2147483648), 2147483647), (2, 0, 31), (3, (-210000000), 210000000), (4, (-210000000), 210000000), (5, (-20004), (-20001)), (6, 0, 10240), (7, 0, 1240), (8, 0, 10240), (9, 0, 10240), (10, (-9223372036854775808), (-20005))] [((-1), [(0, (-1)), (7, 1)]), ((-1), [(6, (-1)), (8, (-1)), (9, 1)])] [(0, .inr (.inr (.inl (some 30)))), (1, .inl (0, [(0, 1)])), (2, .inr (.inr (.inl (some 91)))), (3, .inl (0, [(1, 1)])), (4, .inl (0, [(2, 1)])), (5, .inl (0, [(3, 1)])), (6, .inl (0, [(4, 1)])), (7, .inr (.inl (0, [(5, 1)]))), (9, .inl (0, [(6, 1)]))] [] [(3588, (0, []), (0, [(7, 1)])), (5632, (0, [(0, 1)]), (0, [(8, 1)])), (5632, (1, [(0, 1)]), (0, [(9, 1)])), (5888, (0, [(6, 1), (8, 1)]), (0, [(10, 1)]))] [] 4 [(19, ([], 11, [(0, 0, 1239), (1, (-2147483648), 2147483647), (2, 0, 31), (3, (-210000000), 210000000), (4, (-210000000), 210000000), (5, (-20004), (-20001)), (6, 0, 10240), (7, 0, 1240), (8, 0, 10240), (9, 0, 10240), (10, (-9223372036854775808), (-20005))], [], [(0, .inr (.inr (.inl (some 30)))), (1, .inl (0, [(0, 1)])), (2, .inr (.inr (.inl (some 91)))), (3, .inl (0, [(1, 1)])), (4, .inl (0, [(2, 1)])), (5, .inl (0, [(3, 1)])), (6, .inl (0, [(4, 1)])), (7, .inr (.inl (0, [(5, 1)]))), (9, .inl (1, [(6, 1)]))], [], []))] [] = true := by decide +kernel
theorem tmJ {cst : am_K} {strs : List Nat} {Φ : am_Q → Prop} {D : Nat} {M : am_M} {h : am_H} {l : am_L} (c : hp_C cst strs D) (hM : m_P[123]? = some M) (hD : (4 : Int) ≤ (D : Int) + 1) (hy : ly_hy m_tt ly_TH h) (cq b n ah su re i cl f g x : Int) (b0 : 0 ≤ cq) (t0 : cq ≤ 1239) (b1 : (-2147483648) ≤ b) (t1 : b ≤ 2147483647) (b2 : 0 ≤ n) (t2 : n ≤ 31) (b3 : (-210000000) ≤ ah) (t3 : ah ≤ 210000000) (b4 : (-210000000) ≤ su) (t4 : su ≤ 210000000) (b5 : (-20004) ≤ re) (t5 : re ≤ (-20001)) (b6 : 0 ≤ i) (t6 : i ≤ 10240) (b7 : 0 ≤ cl) (t7 : cl ≤ 1240) (b8 : 0 ≤ f) (t8 : f ≤ 10240) (b9 : 0 ≤ g) (t9 : g ≤ 10240) (b10 : (-9223372036854775808) ≤ x) (t10 : x ≤ (-20005)) (f0 : 0 ≤ (cl - cq - 1)) (f1 : 0 ≤ (g - f - i - 1)) (k0 : ly_hv cst h 3588 0 = some (cl)) (k1 : ly_hv cst h 5632 (cq) = some (f)) (k2 : ly_hv cst h 5632 (cq + 1) = some (g)) (k3 : ly_hv cst h 5888 (f + i) = some (x)) (l0 : hp_a l 0 30) (l1 : hp_i l 1 (cq)) (l2 : hp_a l 2 91) (l3 : hp_i l 3 (b)) (l4 : hp_i l 4 (n)) (l5 : hp_i l 5 (ah)) (l6 : hp_i l 6 (su)) (l7 : hp_j l 7 (re)) (l9 : hp_i l 9 (i)) (e0 : ∀ (l' : am_L) (h' : am_H), ly_hy m_tt ly_TH h' → ly_fr cst [] h h' → h.length ≤ h'.length → hp_a l' 0 30 → hp_i l' 1 (cq) → hp_a l' 2 91 → hp_i l' 3 (b) → hp_i l' 4 (n) → hp_i l' 5 (ah) → hp_i l' 6 (su) → hp_j l' 7 (re) → hp_i l' 9 (i + 1) → hp_F cst strs Φ D M 19 l' [] h') : hp_F cst strs Φ D M 19 l [] h := by
  refine hq_arc c hM tmJ_k hD [cq, b, n, ah, su, re, i, cl, f, g, x] rfl hy (hp_Bc (z := cq) rfl b0 t0 (hp_Bc (z := b) rfl b1 t1 (hp_Bc (z := n) rfl b2 t2 (hp_Bc (z := ah) rfl b3 t3 (hp_Bc (z := su) rfl b4 t4 (hp_Bc (z := re) rfl b5 t5 (hp_Bc (z := i) rfl b6 t6 (hp_Bc (z := cl) rfl b7 t7 (hp_Bc (z := f) rfl b8 t8 (hp_Bc (z := g) rfl b9 t9 (hp_Bc (z := x) rfl b10 t10 hp_Bn))))))))))) (hp_Fc (z := ((-1) + ((-1) * cq + (1 * cl + 0)))) rfl (by omega) (hp_Fc (z := ((-1) + ((-1) * i + ((-1) * f + (1 * g + 0))))) rfl (by omega) hp_Fn)) (hp_Kc (zi := (0 + 0)) (zv := (0 + (1 * cl + 0))) k0 rfl rfl (by omega) (by omega) (hp_Kc (zi := (0 + (1 * cq + 0))) (zv := (0 + (1 * f + 0))) k1 rfl rfl (by omega) (by omega) (hp_Kc (zi := (1 + (1 * cq + 0))) (zv := (0 + (1 * g + 0))) k2 rfl rfl (by omega) (by omega) (hp_Kc (zi := (0 + (1 * i + (1 * f + 0)))) (zv := (0 + (1 * x + 0))) k3 rfl rfl (by omega) (by omega) hp_Kn)))) (hp_La l0 (hp_Li (z := (0 + (1 * cq + 0))) l1 rfl (by omega) (hp_La l2 (hp_Li (z := (0 + (1 * b + 0))) l3 rfl (by omega) (hp_Li (z := (0 + (1 * n + 0))) l4 rfl (by omega) (hp_Li (z := (0 + (1 * ah + 0))) l5 rfl (by omega) (hp_Li (z := (0 + (1 * su + 0))) l6 rfl (by omega) (hp_Lj (z := (0 + (1 * re + 0))) l7 rfl (by omega) (hp_Li (z := (0 + (1 * i + 0))) l9 rfl (by omega) hp_Ln))))))))) trivial ?_ ?_
  · intro p_9 hp ys l' st' h' hys a1_9 a2 a3 gZ gL gS
    rcases List.mem_cons.mp hp with rfl | hp
    · obtain rfl := hp_y0 hys
      cases hp_gSn gS
      exact e0 l' h' a1_9 a2 a3 (hp_gLa gL (List.mem_of_getElem? (i := 0) rfl) (by decide)) (hp_gLi (z := (0 + (1 * cq + 0))) gL (List.mem_of_getElem? (i := 1) rfl) rfl (by omega)) (hp_gLa gL (List.mem_of_getElem? (i := 2) rfl) (by decide)) (hp_gLi (z := (0 + (1 * b + 0))) gL (List.mem_of_getElem? (i := 3) rfl) rfl (by omega)) (hp_gLi (z := (0 + (1 * n + 0))) gL (List.mem_of_getElem? (i := 4) rfl) rfl (by omega)) (hp_gLi (z := (0 + (1 * ah + 0))) gL (List.mem_of_getElem? (i := 5) rfl) rfl (by omega)) (hp_gLi (z := (0 + (1 * su + 0))) gL (List.mem_of_getElem? (i := 6) rfl) rfl (by omega)) (hp_gLj (z := (0 + (1 * re + 0))) gL (List.mem_of_getElem? (i := 7) rfl) rfl (by omega)) (hp_gLi (z := (1 + (1 * i + 0))) gL (List.mem_of_getElem? (i := 8) rfl) rfl (by omega))
    cases hp
  · intro p_9 hp ys v_9 h' hys a1_9 a2 a3 gZ gS
    cases hp
theorem tm1y_k : hq_chk [124, 125, 127] 123 19 9 [(0, 0, 1239), (1, (-2147483648), 2147483647), (2, 0, 31), (3, (-210000000), 210000000), (4, (-210000000), 210000000), (5, 0, 10240), (6, 0, 1240), (7, 0, 10240), (8, 0, 10240)] [((-1), [(0, (-1)), (6, 1)]), ((-1), [(5, (-1)), (7, (-1)), (8, 1)]), ((-1), [(3, 1), (4, (-1))])] [(0, .inr (.inr (.inl (some 30)))), (1, .inl (0, [(0, 1)])), (2, .inr (.inr (.inl (some 91)))), (3, .inl (0, [(1, 1)])), (4, .inl (0, [(2, 1)])), (5, .inl (0, [(3, 1)])), (6, .inl (0, [(4, 1)])), (7, .inr (.inl ((-20001), []))), (9, .inl (0, [(5, 1)]))] [] [(3588, (0, []), (0, [(6, 1)])), (5632, (0, [(0, 1)]), (0, [(7, 1)])), (5632, (1, [(0, 1)]), (0, [(8, 1)])), (5888, (0, [(5, 1), (7, 1)]), ((-20004), []))] [] 4 [(131, ([], 9, [(0, 0, 1239), (1, (-2147483648), 2147483647), (2, 0, 31), (3, (-210000000), 210000000), (4, (-210000000), 210000000), (5, 0, 10240), (6, 0, 1240), (7, 0, 10240), (8, 0, 10240)], [], [(0, .inr (.inr (.inl (some 30)))), (1, .inl (0, [(0, 1)])), (2, .inr (.inr (.inl (some 91)))), (3, .inl (0, [(1, 1)])), (4, .inl (0, [(2, 1)])), (5, .inl (0, [(3, 1)])), (6, .inl (0, [(4, 1)])), (7, .inr (.inl ((-20001), []))), (9, .inl (0, [(5, 1)]))], [.inl (0, [(2, 1)]), .inl (1, []), .inl (0, [(1, 1)])], []))] [] = true := by decide +kernel
theorem tm1y {cst : am_K} {strs : List Nat} {Φ : am_Q → Prop} {D : Nat} {M : am_M} {h : am_H} {l : am_L} (c : hp_C cst strs D) (hM : m_P[123]? = some M) (hD : (4 : Int) ≤ (D : Int) + 1) (hy : ly_hy m_tt ly_TH h) (cq b n ah su i cl f g : Int) (b0 : 0 ≤ cq) (t0 : cq ≤ 1239) (b1 : (-2147483648) ≤ b) (t1 : b ≤ 2147483647) (b2 : 0 ≤ n) (t2 : n ≤ 31) (b3 : (-210000000) ≤ ah) (t3 : ah ≤ 210000000) (b4 : (-210000000) ≤ su) (t4 : su ≤ 210000000) (b5 : 0 ≤ i) (t5 : i ≤ 10240) (b6 : 0 ≤ cl) (t6 : cl ≤ 1240) (b7 : 0 ≤ f) (t7 : f ≤ 10240) (b8 : 0 ≤ g) (t8 : g ≤ 10240) (f0 : 0 ≤ (cl - cq - 1)) (f1 : 0 ≤ (g - f - i - 1)) (f2 : 0 ≤ (ah - su - 1)) (k0 : ly_hv cst h 3588 0 = some (cl)) (k1 : ly_hv cst h 5632 (cq) = some (f)) (k2 : ly_hv cst h 5632 (cq + 1) = some (g)) (k3 : ly_hv cst h 5888 (f + i) = some (-20004)) (l0 : hp_a l 0 30) (l1 : hp_i l 1 (cq)) (l2 : hp_a l 2 91) (l3 : hp_i l 3 (b)) (l4 : hp_i l 4 (n)) (l5 : hp_i l 5 (ah)) (l6 : hp_i l 6 (su)) (l7 : hp_j l 7 (-20001)) (l9 : hp_i l 9 (i)) (e0 : ∀ (l' : am_L) (h' : am_H) (y0 : Int32) (y1 : Int32) (y2 : Int32), y0.toInt = (n) → y1.toInt = 1 → y2.toInt = (b) → ly_hy m_tt ly_TH h' → ly_fr cst [] h h' → h.length ≤ h'.length → hp_a l' 0 30 → hp_i l' 1 (cq) → hp_a l' 2 91 → hp_i l' 3 (b) → hp_i l' 4 (n) → hp_i l' 5 (ah) → hp_i l' 6 (su) → hp_j l' 7 (-20001) → hp_i l' 9 (i) → hp_F cst strs Φ D M 131 l' [.int y0, .int y1, .int y2] h') : hp_F cst strs Φ D M 19 l [] h := by
  refine hq_arc c hM tm1y_k hD [cq, b, n, ah, su, i, cl, f, g] rfl hy (hp_Bc (z := cq) rfl b0 t0 (hp_Bc (z := b) rfl b1 t1 (hp_Bc (z := n) rfl b2 t2 (hp_Bc (z := ah) rfl b3 t3 (hp_Bc (z := su) rfl b4 t4 (hp_Bc (z := i) rfl b5 t5 (hp_Bc (z := cl) rfl b6 t6 (hp_Bc (z := f) rfl b7 t7 (hp_Bc (z := g) rfl b8 t8 hp_Bn))))))))) (hp_Fc (z := ((-1) + ((-1) * cq + (1 * cl + 0)))) rfl (by omega) (hp_Fc (z := ((-1) + ((-1) * i + ((-1) * f + (1 * g + 0))))) rfl (by omega) (hp_Fc (z := ((-1) + (1 * ah + ((-1) * su + 0)))) rfl (by omega) hp_Fn))) (hp_Kc (zi := (0 + 0)) (zv := (0 + (1 * cl + 0))) k0 rfl rfl (by omega) (by omega) (hp_Kc (zi := (0 + (1 * cq + 0))) (zv := (0 + (1 * f + 0))) k1 rfl rfl (by omega) (by omega) (hp_Kc (zi := (1 + (1 * cq + 0))) (zv := (0 + (1 * g + 0))) k2 rfl rfl (by omega) (by omega) (hp_Kc (zi := (0 + (1 * i + (1 * f + 0)))) (zv := ((-20004) + 0)) k3 rfl rfl (by omega) (by omega) hp_Kn)))) (hp_La l0 (hp_Li (z := (0 + (1 * cq + 0))) l1 rfl (by omega) (hp_La l2 (hp_Li (z := (0 + (1 * b + 0))) l3 rfl (by omega) (hp_Li (z := (0 + (1 * n + 0))) l4 rfl (by omega) (hp_Li (z := (0 + (1 * ah + 0))) l5 rfl (by omega) (hp_Li (z := (0 + (1 * su + 0))) l6 rfl (by omega) (hp_Lj (z := ((-20001) + 0)) l7 rfl (by omega) (hp_Li (z := (0 + (1 * i + 0))) l9 rfl (by omega) hp_Ln))))))))) trivial ?_ ?_
  · intro p_9 hp ys l' st' h' hys a1_9 a2 a3 gZ gL gS
    rcases List.mem_cons.mp hp with rfl | hp
    · obtain rfl := hp_y0 hys
      obtain ⟨y0, t0, rfl, q0, g0⟩ := hp_gSi (z := (0 + (1 * n + 0))) gS rfl
      obtain ⟨y1, t1, rfl, q1_9, g1⟩ := hp_gSi (z := (1 + 0)) g0 rfl
      obtain ⟨y2, t2, rfl, q2_9, g2⟩ := hp_gSi (z := (0 + (1 * b + 0))) g1 rfl
      cases hp_gSn g2
      exact e0 l' h' y0 y1 y2 (by omega) (by omega) (by omega) a1_9 a2 a3 (hp_gLa gL (List.mem_of_getElem? (i := 0) rfl) (by decide)) (hp_gLi (z := (0 + (1 * cq + 0))) gL (List.mem_of_getElem? (i := 1) rfl) rfl (by omega)) (hp_gLa gL (List.mem_of_getElem? (i := 2) rfl) (by decide)) (hp_gLi (z := (0 + (1 * b + 0))) gL (List.mem_of_getElem? (i := 3) rfl) rfl (by omega)) (hp_gLi (z := (0 + (1 * n + 0))) gL (List.mem_of_getElem? (i := 4) rfl) rfl (by omega)) (hp_gLi (z := (0 + (1 * ah + 0))) gL (List.mem_of_getElem? (i := 5) rfl) rfl (by omega)) (hp_gLi (z := (0 + (1 * su + 0))) gL (List.mem_of_getElem? (i := 6) rfl) rfl (by omega)) (hp_gLj (z := ((-20001) + 0)) gL (List.mem_of_getElem? (i := 7) rfl) rfl (by omega)) (hp_gLi (z := (0 + (1 * i + 0))) gL (List.mem_of_getElem? (i := 8) rfl) rfl (by omega))
    cases hp
  · intro p_9 hp ys v_9 h' hys a1_9 a2 a3 gZ gS
    cases hp
theorem tm1n_k : hq_chk [124, 125, 127] 123 19 9 [(0, 0, 1239), (1, (-2147483648), 2147483647), (2, 0, 31), (3, (-210000000), 210000000), (4, (-210000000), 210000000), (5, 0, 10240), (6, 0, 1240), (7, 0, 10240), (8, 0, 10240)] [((-1), [(0, (-1)), (6, 1)]), ((-1), [(5, (-1)), (7, (-1)), (8, 1)]), (0, [(3, (-1)), (4, 1)])] [(0, .inr (.inr (.inl (some 30)))), (1, .inl (0, [(0, 1)])), (2, .inr (.inr (.inl (some 91)))), (3, .inl (0, [(1, 1)])), (4, .inl (0, [(2, 1)])), (5, .inl (0, [(3, 1)])), (6, .inl (0, [(4, 1)])), (7, .inr (.inl ((-20001), []))), (9, .inl (0, [(5, 1)]))] [] [(3588, (0, []), (0, [(6, 1)])), (5632, (0, [(0, 1)]), (0, [(7, 1)])), (5632, (1, [(0, 1)]), (0, [(8, 1)])), (5888, (0, [(5, 1), (7, 1)]), ((-20004), []))] [] 4 [(136, ([], 9, [(0, 0, 1239), (1, (-2147483648), 2147483647), (2, 0, 31), (3, (-210000000), 210000000), (4, (-210000000), 210000000), (5, 0, 10240), (6, 0, 1240), (7, 0, 10240), (8, 0, 10240)], [], [(0, .inr (.inr (.inl (some 30)))), (1, .inl (0, [(0, 1)])), (2, .inr (.inr (.inl (some 91)))), (3, .inl (0, [(1, 1)])), (4, .inl (0, [(2, 1)])), (5, .inl (0, [(3, 1)])), (6, .inl (0, [(4, 1)])), (7, .inr (.inl ((-20001), []))), (9, .inl (0, [(5, 1)]))], [.inl (0, []), .inl (0, [(1, 1)])], []))] [] = true := by decide +kernel
theorem tm1n {cst : am_K} {strs : List Nat} {Φ : am_Q → Prop} {D : Nat} {M : am_M} {h : am_H} {l : am_L} (c : hp_C cst strs D) (hM : m_P[123]? = some M) (hD : (4 : Int) ≤ (D : Int) + 1) (hy : ly_hy m_tt ly_TH h) (cq b n ah su i cl f g : Int) (b0 : 0 ≤ cq) (t0 : cq ≤ 1239) (b1 : (-2147483648) ≤ b) (t1 : b ≤ 2147483647) (b2 : 0 ≤ n) (t2 : n ≤ 31) (b3 : (-210000000) ≤ ah) (t3 : ah ≤ 210000000) (b4 : (-210000000) ≤ su) (t4 : su ≤ 210000000) (b5 : 0 ≤ i) (t5 : i ≤ 10240) (b6 : 0 ≤ cl) (t6 : cl ≤ 1240) (b7 : 0 ≤ f) (t7 : f ≤ 10240) (b8 : 0 ≤ g) (t8 : g ≤ 10240) (f0 : 0 ≤ (cl - cq - 1)) (f1 : 0 ≤ (g - f - i - 1)) (f2 : 0 ≤ (su - ah)) (k0 : ly_hv cst h 3588 0 = some (cl)) (k1 : ly_hv cst h 5632 (cq) = some (f)) (k2 : ly_hv cst h 5632 (cq + 1) = some (g)) (k3 : ly_hv cst h 5888 (f + i) = some (-20004)) (l0 : hp_a l 0 30) (l1 : hp_i l 1 (cq)) (l2 : hp_a l 2 91) (l3 : hp_i l 3 (b)) (l4 : hp_i l 4 (n)) (l5 : hp_i l 5 (ah)) (l6 : hp_i l 6 (su)) (l7 : hp_j l 7 (-20001)) (l9 : hp_i l 9 (i)) (e0 : ∀ (l' : am_L) (h' : am_H) (y0 : Int32) (y1 : Int32), y0.toInt = 0 → y1.toInt = (b) → ly_hy m_tt ly_TH h' → ly_fr cst [] h h' → h.length ≤ h'.length → hp_a l' 0 30 → hp_i l' 1 (cq) → hp_a l' 2 91 → hp_i l' 3 (b) → hp_i l' 4 (n) → hp_i l' 5 (ah) → hp_i l' 6 (su) → hp_j l' 7 (-20001) → hp_i l' 9 (i) → hp_F cst strs Φ D M 136 l' [.int y0, .int y1] h') : hp_F cst strs Φ D M 19 l [] h := by
  refine hq_arc c hM tm1n_k hD [cq, b, n, ah, su, i, cl, f, g] rfl hy (hp_Bc (z := cq) rfl b0 t0 (hp_Bc (z := b) rfl b1 t1 (hp_Bc (z := n) rfl b2 t2 (hp_Bc (z := ah) rfl b3 t3 (hp_Bc (z := su) rfl b4 t4 (hp_Bc (z := i) rfl b5 t5 (hp_Bc (z := cl) rfl b6 t6 (hp_Bc (z := f) rfl b7 t7 (hp_Bc (z := g) rfl b8 t8 hp_Bn))))))))) (hp_Fc (z := ((-1) + ((-1) * cq + (1 * cl + 0)))) rfl (by omega) (hp_Fc (z := ((-1) + ((-1) * i + ((-1) * f + (1 * g + 0))))) rfl (by omega) (hp_Fc (z := (0 + ((-1) * ah + (1 * su + 0)))) rfl (by omega) hp_Fn))) (hp_Kc (zi := (0 + 0)) (zv := (0 + (1 * cl + 0))) k0 rfl rfl (by omega) (by omega) (hp_Kc (zi := (0 + (1 * cq + 0))) (zv := (0 + (1 * f + 0))) k1 rfl rfl (by omega) (by omega) (hp_Kc (zi := (1 + (1 * cq + 0))) (zv := (0 + (1 * g + 0))) k2 rfl rfl (by omega) (by omega) (hp_Kc (zi := (0 + (1 * i + (1 * f + 0)))) (zv := ((-20004) + 0)) k3 rfl rfl (by omega) (by omega) hp_Kn)))) (hp_La l0 (hp_Li (z := (0 + (1 * cq + 0))) l1 rfl (by omega) (hp_La l2 (hp_Li (z := (0 + (1 * b + 0))) l3 rfl (by omega) (hp_Li (z := (0 + (1 * n + 0))) l4 rfl (by omega) (hp_Li (z := (0 + (1 * ah + 0))) l5 rfl (by omega) (hp_Li (z := (0 + (1 * su + 0))) l6 rfl (by omega) (hp_Lj (z := ((-20001) + 0)) l7 rfl (by omega) (hp_Li (z := (0 + (1 * i + 0))) l9 rfl (by omega) hp_Ln))))))))) trivial ?_ ?_
  · intro p_9 hp ys l' st' h' hys a1_9 a2 a3 gZ gL gS
    rcases List.mem_cons.mp hp with rfl | hp
    · obtain rfl := hp_y0 hys
      obtain ⟨y0, t0, rfl, q0, g0⟩ := hp_gSi (z := (0 + 0)) gS rfl
      obtain ⟨y1, t1, rfl, q1_9, g1⟩ := hp_gSi (z := (0 + (1 * b + 0))) g0 rfl
      cases hp_gSn g1
      exact e0 l' h' y0 y1 (by omega) (by omega) a1_9 a2 a3 (hp_gLa gL (List.mem_of_getElem? (i := 0) rfl) (by decide)) (hp_gLi (z := (0 + (1 * cq + 0))) gL (List.mem_of_getElem? (i := 1) rfl) rfl (by omega)) (hp_gLa gL (List.mem_of_getElem? (i := 2) rfl) (by decide)) (hp_gLi (z := (0 + (1 * b + 0))) gL (List.mem_of_getElem? (i := 3) rfl) rfl (by omega)) (hp_gLi (z := (0 + (1 * n + 0))) gL (List.mem_of_getElem? (i := 4) rfl) rfl (by omega)) (hp_gLi (z := (0 + (1 * ah + 0))) gL (List.mem_of_getElem? (i := 5) rfl) rfl (by omega)) (hp_gLi (z := (0 + (1 * su + 0))) gL (List.mem_of_getElem? (i := 6) rfl) rfl (by omega)) (hp_gLj (z := ((-20001) + 0)) gL (List.mem_of_getElem? (i := 7) rfl) rfl (by omega)) (hp_gLi (z := (0 + (1 * i + 0))) gL (List.mem_of_getElem? (i := 8) rfl) rfl (by omega))
    cases hp
  · intro p_9 hp ys v_9 h' hys a1_9 a2 a3 gZ gS
    cases hp
theorem tm2y_k : hq_chk [124, 125, 127] 123 19 9 [(0, 0, 1239), (1, (-2147483648), 2147483647), (2, 0, 31), (3, (-210000000), 210000000), (4, (-210000000), 210000000), (5, 0, 10240), (6, 0, 1240), (7, 0, 10240), (8, 0, 10240)] [((-1), [(0, (-1)), (6, 1)]), ((-1), [(5, (-1)), (7, (-1)), (8, 1)]), ((-1), [(3, (-1)), (4, 1)])] [(0, .inr (.inr (.inl (some 30)))), (1, .inl (0, [(0, 1)])), (2, .inr (.inr (.inl (some 91)))), (3, .inl (0, [(1, 1)])), (4, .inl (0, [(2, 1)])), (5, .inl (0, [(3, 1)])), (6, .inl (0, [(4, 1)])), (7, .inr (.inl ((-20002), []))), (9, .inl (0, [(5, 1)]))] [] [(3588, (0, []), (0, [(6, 1)])), (5632, (0, [(0, 1)]), (0, [(7, 1)])), (5632, (1, [(0, 1)]), (0, [(8, 1)])), (5888, (0, [(5, 1), (7, 1)]), ((-20004), []))] [] 4 [(131, ([], 9, [(0, 0, 1239), (1, (-2147483648), 2147483647), (2, 0, 31), (3, (-210000000), 210000000), (4, (-210000000), 210000000), (5, 0, 10240), (6, 0, 1240), (7, 0, 10240), (8, 0, 10240)], [], [(0, .inr (.inr (.inl (some 30)))), (1, .inl (0, [(0, 1)])), (2, .inr (.inr (.inl (some 91)))), (3, .inl (0, [(1, 1)])), (4, .inl (0, [(2, 1)])), (5, .inl (0, [(3, 1)])), (6, .inl (0, [(4, 1)])), (7, .inr (.inl ((-20002), []))), (9, .inl (0, [(5, 1)]))], [.inl (0, [(2, 1)]), .inl (1, []), .inl (0, [(1, 1)])], []))] [] = true := by decide +kernel
theorem tm2y {cst : am_K} {strs : List Nat} {Φ : am_Q → Prop} {D : Nat} {M : am_M} {h : am_H} {l : am_L} (c : hp_C cst strs D) (hM : m_P[123]? = some M) (hD : (4 : Int) ≤ (D : Int) + 1) (hy : ly_hy m_tt ly_TH h) (cq b n ah su i cl f g : Int) (b0 : 0 ≤ cq) (t0 : cq ≤ 1239) (b1 : (-2147483648) ≤ b) (t1 : b ≤ 2147483647) (b2 : 0 ≤ n) (t2 : n ≤ 31) (b3 : (-210000000) ≤ ah) (t3 : ah ≤ 210000000) (b4 : (-210000000) ≤ su) (t4 : su ≤ 210000000) (b5 : 0 ≤ i) (t5 : i ≤ 10240) (b6 : 0 ≤ cl) (t6 : cl ≤ 1240) (b7 : 0 ≤ f) (t7 : f ≤ 10240) (b8 : 0 ≤ g) (t8 : g ≤ 10240) (f0 : 0 ≤ (cl - cq - 1)) (f1 : 0 ≤ (g - f - i - 1)) (f2 : 0 ≤ (su - ah - 1)) (k0 : ly_hv cst h 3588 0 = some (cl)) (k1 : ly_hv cst h 5632 (cq) = some (f)) (k2 : ly_hv cst h 5632 (cq + 1) = some (g)) (k3 : ly_hv cst h 5888 (f + i) = some (-20004)) (l0 : hp_a l 0 30) (l1 : hp_i l 1 (cq)) (l2 : hp_a l 2 91) (l3 : hp_i l 3 (b)) (l4 : hp_i l 4 (n)) (l5 : hp_i l 5 (ah)) (l6 : hp_i l 6 (su)) (l7 : hp_j l 7 (-20002)) (l9 : hp_i l 9 (i)) (e0 : ∀ (l' : am_L) (h' : am_H) (y0 : Int32) (y1 : Int32) (y2 : Int32), y0.toInt = (n) → y1.toInt = 1 → y2.toInt = (b) → ly_hy m_tt ly_TH h' → ly_fr cst [] h h' → h.length ≤ h'.length → hp_a l' 0 30 → hp_i l' 1 (cq) → hp_a l' 2 91 → hp_i l' 3 (b) → hp_i l' 4 (n) → hp_i l' 5 (ah) → hp_i l' 6 (su) → hp_j l' 7 (-20002) → hp_i l' 9 (i) → hp_F cst strs Φ D M 131 l' [.int y0, .int y1, .int y2] h') : hp_F cst strs Φ D M 19 l [] h := by
  refine hq_arc c hM tm2y_k hD [cq, b, n, ah, su, i, cl, f, g] rfl hy (hp_Bc (z := cq) rfl b0 t0 (hp_Bc (z := b) rfl b1 t1 (hp_Bc (z := n) rfl b2 t2 (hp_Bc (z := ah) rfl b3 t3 (hp_Bc (z := su) rfl b4 t4 (hp_Bc (z := i) rfl b5 t5 (hp_Bc (z := cl) rfl b6 t6 (hp_Bc (z := f) rfl b7 t7 (hp_Bc (z := g) rfl b8 t8 hp_Bn))))))))) (hp_Fc (z := ((-1) + ((-1) * cq + (1 * cl + 0)))) rfl (by omega) (hp_Fc (z := ((-1) + ((-1) * i + ((-1) * f + (1 * g + 0))))) rfl (by omega) (hp_Fc (z := ((-1) + ((-1) * ah + (1 * su + 0)))) rfl (by omega) hp_Fn))) (hp_Kc (zi := (0 + 0)) (zv := (0 + (1 * cl + 0))) k0 rfl rfl (by omega) (by omega) (hp_Kc (zi := (0 + (1 * cq + 0))) (zv := (0 + (1 * f + 0))) k1 rfl rfl (by omega) (by omega) (hp_Kc (zi := (1 + (1 * cq + 0))) (zv := (0 + (1 * g + 0))) k2 rfl rfl (by omega) (by omega) (hp_Kc (zi := (0 + (1 * i + (1 * f + 0)))) (zv := ((-20004) + 0)) k3 rfl rfl (by omega) (by omega) hp_Kn)))) (hp_La l0 (hp_Li (z := (0 + (1 * cq + 0))) l1 rfl (by omega) (hp_La l2 (hp_Li (z := (0 + (1 * b + 0))) l3 rfl (by omega) (hp_Li (z := (0 + (1 * n + 0))) l4 rfl (by omega) (hp_Li (z := (0 + (1 * ah + 0))) l5 rfl (by omega) (hp_Li (z := (0 + (1 * su + 0))) l6 rfl (by omega) (hp_Lj (z := ((-20002) + 0)) l7 rfl (by omega) (hp_Li (z := (0 + (1 * i + 0))) l9 rfl (by omega) hp_Ln))))))))) trivial ?_ ?_
  · intro p_9 hp ys l' st' h' hys a1_9 a2 a3 gZ gL gS
    rcases List.mem_cons.mp hp with rfl | hp
    · obtain rfl := hp_y0 hys
      obtain ⟨y0, t0, rfl, q0, g0⟩ := hp_gSi (z := (0 + (1 * n + 0))) gS rfl
      obtain ⟨y1, t1, rfl, q1_9, g1⟩ := hp_gSi (z := (1 + 0)) g0 rfl
      obtain ⟨y2, t2, rfl, q2_9, g2⟩ := hp_gSi (z := (0 + (1 * b + 0))) g1 rfl
      cases hp_gSn g2
      exact e0 l' h' y0 y1 y2 (by omega) (by omega) (by omega) a1_9 a2 a3 (hp_gLa gL (List.mem_of_getElem? (i := 0) rfl) (by decide)) (hp_gLi (z := (0 + (1 * cq + 0))) gL (List.mem_of_getElem? (i := 1) rfl) rfl (by omega)) (hp_gLa gL (List.mem_of_getElem? (i := 2) rfl) (by decide)) (hp_gLi (z := (0 + (1 * b + 0))) gL (List.mem_of_getElem? (i := 3) rfl) rfl (by omega)) (hp_gLi (z := (0 + (1 * n + 0))) gL (List.mem_of_getElem? (i := 4) rfl) rfl (by omega)) (hp_gLi (z := (0 + (1 * ah + 0))) gL (List.mem_of_getElem? (i := 5) rfl) rfl (by omega)) (hp_gLi (z := (0 + (1 * su + 0))) gL (List.mem_of_getElem? (i := 6) rfl) rfl (by omega)) (hp_gLj (z := ((-20002) + 0)) gL (List.mem_of_getElem? (i := 7) rfl) rfl (by omega)) (hp_gLi (z := (0 + (1 * i + 0))) gL (List.mem_of_getElem? (i := 8) rfl) rfl (by omega))
    cases hp
  · intro p_9 hp ys v_9 h' hys a1_9 a2 a3 gZ gS
    cases hp
theorem tm2n_k : hq_chk [124, 125, 127] 123 19 9 [(0, 0, 1239), (1, (-2147483648), 2147483647), (2, 0, 31), (3, (-210000000), 210000000), (4, (-210000000), 210000000), (5, 0, 10240), (6, 0, 1240), (7, 0, 10240), (8, 0, 10240)] [((-1), [(0, (-1)), (6, 1)]), ((-1), [(5, (-1)), (7, (-1)), (8, 1)]), (0, [(3, 1), (4, (-1))])] [(0, .inr (.inr (.inl (some 30)))), (1, .inl (0, [(0, 1)])), (2, .inr (.inr (.inl (some 91)))), (3, .inl (0, [(1, 1)])), (4, .inl (0, [(2, 1)])), (5, .inl (0, [(3, 1)])), (6, .inl (0, [(4, 1)])), (7, .inr (.inl ((-20002), []))), (9, .inl (0, [(5, 1)]))] [] [(3588, (0, []), (0, [(6, 1)])), (5632, (0, [(0, 1)]), (0, [(7, 1)])), (5632, (1, [(0, 1)]), (0, [(8, 1)])), (5888, (0, [(5, 1), (7, 1)]), ((-20004), []))] [] 4 [(136, ([], 9, [(0, 0, 1239), (1, (-2147483648), 2147483647), (2, 0, 31), (3, (-210000000), 210000000), (4, (-210000000), 210000000), (5, 0, 10240), (6, 0, 1240), (7, 0, 10240), (8, 0, 10240)], [], [(0, .inr (.inr (.inl (some 30)))), (1, .inl (0, [(0, 1)])), (2, .inr (.inr (.inl (some 91)))), (3, .inl (0, [(1, 1)])), (4, .inl (0, [(2, 1)])), (5, .inl (0, [(3, 1)])), (6, .inl (0, [(4, 1)])), (7, .inr (.inl ((-20002), []))), (9, .inl (0, [(5, 1)]))], [.inl (0, []), .inl (0, [(1, 1)])], []))] [] = true := by decide +kernel
theorem tm2n {cst : am_K} {strs : List Nat} {Φ : am_Q → Prop} {D : Nat} {M : am_M} {h : am_H} {l : am_L} (c : hp_C cst strs D) (hM : m_P[123]? = some M) (hD : (4 : Int) ≤ (D : Int) + 1) (hy : ly_hy m_tt ly_TH h) (cq b n ah su i cl f g : Int) (b0 : 0 ≤ cq) (t0 : cq ≤ 1239) (b1 : (-2147483648) ≤ b) (t1 : b ≤ 2147483647) (b2 : 0 ≤ n) (t2 : n ≤ 31) (b3 : (-210000000) ≤ ah) (t3 : ah ≤ 210000000) (b4 : (-210000000) ≤ su) (t4 : su ≤ 210000000) (b5 : 0 ≤ i) (t5 : i ≤ 10240) (b6 : 0 ≤ cl) (t6 : cl ≤ 1240) (b7 : 0 ≤ f) (t7 : f ≤ 10240) (b8 : 0 ≤ g) (t8 : g ≤ 10240) (f0 : 0 ≤ (cl - cq - 1)) (f1 : 0 ≤ (g - f - i - 1)) (f2 : 0 ≤ (ah - su)) (k0 : ly_hv cst h 3588 0 = some (cl)) (k1 : ly_hv cst h 5632 (cq) = some (f)) (k2 : ly_hv cst h 5632 (cq + 1) = some (g)) (k3 : ly_hv cst h 5888 (f + i) = some (-20004)) (l0 : hp_a l 0 30) (l1 : hp_i l 1 (cq)) (l2 : hp_a l 2 91) (l3 : hp_i l 3 (b)) (l4 : hp_i l 4 (n)) (l5 : hp_i l 5 (ah)) (l6 : hp_i l 6 (su)) (l7 : hp_j l 7 (-20002)) (l9 : hp_i l 9 (i)) (e0 : ∀ (l' : am_L) (h' : am_H) (y0 : Int32) (y1 : Int32), y0.toInt = 0 → y1.toInt = (b) → ly_hy m_tt ly_TH h' → ly_fr cst [] h h' → h.length ≤ h'.length → hp_a l' 0 30 → hp_i l' 1 (cq) → hp_a l' 2 91 → hp_i l' 3 (b) → hp_i l' 4 (n) → hp_i l' 5 (ah) → hp_i l' 6 (su) → hp_j l' 7 (-20002) → hp_i l' 9 (i) → hp_F cst strs Φ D M 136 l' [.int y0, .int y1] h') : hp_F cst strs Φ D M 19 l [] h := by
  refine hq_arc c hM tm2n_k hD [cq, b, n, ah, su, i, cl, f, g] rfl hy (hp_Bc (z := cq) rfl b0 t0 (hp_Bc (z := b) rfl b1 t1 (hp_Bc (z := n) rfl b2 t2 (hp_Bc (z := ah) rfl b3 t3 (hp_Bc (z := su) rfl b4 t4 (hp_Bc (z := i) rfl b5 t5 (hp_Bc (z := cl) rfl b6 t6 (hp_Bc (z := f) rfl b7 t7 (hp_Bc (z := g) rfl b8 t8 hp_Bn))))))))) (hp_Fc (z := ((-1) + ((-1) * cq + (1 * cl + 0)))) rfl (by omega) (hp_Fc (z := ((-1) + ((-1) * i + ((-1) * f + (1 * g + 0))))) rfl (by omega) (hp_Fc (z := (0 + (1 * ah + ((-1) * su + 0)))) rfl (by omega) hp_Fn))) (hp_Kc (zi := (0 + 0)) (zv := (0 + (1 * cl + 0))) k0 rfl rfl (by omega) (by omega) (hp_Kc (zi := (0 + (1 * cq + 0))) (zv := (0 + (1 * f + 0))) k1 rfl rfl (by omega) (by omega) (hp_Kc (zi := (1 + (1 * cq + 0))) (zv := (0 + (1 * g + 0))) k2 rfl rfl (by omega) (by omega) (hp_Kc (zi := (0 + (1 * i + (1 * f + 0)))) (zv := ((-20004) + 0)) k3 rfl rfl (by omega) (by omega) hp_Kn)))) (hp_La l0 (hp_Li (z := (0 + (1 * cq + 0))) l1 rfl (by omega) (hp_La l2 (hp_Li (z := (0 + (1 * b + 0))) l3 rfl (by omega) (hp_Li (z := (0 + (1 * n + 0))) l4 rfl (by omega) (hp_Li (z := (0 + (1 * ah + 0))) l5 rfl (by omega) (hp_Li (z := (0 + (1 * su + 0))) l6 rfl (by omega) (hp_Lj (z := ((-20002) + 0)) l7 rfl (by omega) (hp_Li (z := (0 + (1 * i + 0))) l9 rfl (by omega) hp_Ln))))))))) trivial ?_ ?_
  · intro p_9 hp ys l' st' h' hys a1_9 a2 a3 gZ gL gS
    rcases List.mem_cons.mp hp with rfl | hp
    · obtain rfl := hp_y0 hys
      obtain ⟨y0, t0, rfl, q0, g0⟩ := hp_gSi (z := (0 + 0)) gS rfl
      obtain ⟨y1, t1, rfl, q1_9, g1⟩ := hp_gSi (z := (0 + (1 * b + 0))) g0 rfl
      cases hp_gSn g1
      exact e0 l' h' y0 y1 (by omega) (by omega) a1_9 a2 a3 (hp_gLa gL (List.mem_of_getElem? (i := 0) rfl) (by decide)) (hp_gLi (z := (0 + (1 * cq + 0))) gL (List.mem_of_getElem? (i := 1) rfl) rfl (by omega)) (hp_gLa gL (List.mem_of_getElem? (i := 2) rfl) (by decide)) (hp_gLi (z := (0 + (1 * b + 0))) gL (List.mem_of_getElem? (i := 3) rfl) rfl (by omega)) (hp_gLi (z := (0 + (1 * n + 0))) gL (List.mem_of_getElem? (i := 4) rfl) rfl (by omega)) (hp_gLi (z := (0 + (1 * ah + 0))) gL (List.mem_of_getElem? (i := 5) rfl) rfl (by omega)) (hp_gLi (z := (0 + (1 * su + 0))) gL (List.mem_of_getElem? (i := 6) rfl) rfl (by omega)) (hp_gLj (z := ((-20002) + 0)) gL (List.mem_of_getElem? (i := 7) rfl) rfl (by omega)) (hp_gLi (z := (0 + (1 * i + 0))) gL (List.mem_of_getElem? (i := 8) rfl) rfl (by omega))
    cases hp
  · intro p_9 hp ys v_9 h' hys a1_9 a2 a3 gZ gS
    cases hp
theorem tm3y_k : hq_chk [124, 125, 127] 123 19 9 [(0, 0, 1239), (1, (-2147483648), 2147483647), (2, 0, 31), (3, (-210000000), 210000000), (4, (-210000000), 210000000), (5, 0, 10240), (6, 0, 1240), (7, 0, 10240), (8, 0, 10240)] [((-1), [(0, (-1)), (6, 1)]), ((-1), [(5, (-1)), (7, (-1)), (8, 1)])] [(0, .inr (.inr (.inl (some 30)))), (1, .inl (0, [(0, 1)])), (2, .inr (.inr (.inl (some 91)))), (3, .inl (0, [(1, 1)])), (4, .inl (0, [(2, 1)])), (5, .inl (0, [(4, 1)])), (6, .inl (0, [(4, 1)])), (7, .inr (.inl ((-20003), []))), (9, .inl (0, [(5, 1)]))] [] [(3588, (0, []), (0, [(6, 1)])), (5632, (0, [(0, 1)]), (0, [(7, 1)])), (5632, (1, [(0, 1)]), (0, [(8, 1)])), (5888, (0, [(5, 1), (7, 1)]), ((-20004), []))] [] 4 [(131, ([], 9, [(0, 0, 1239), (1, (-2147483648), 2147483647), (2, 0, 31), (3, (-210000000), 210000000), (4, (-210000000), 210000000), (5, 0, 10240), (6, 0, 1240), (7, 0, 10240), (8, 0, 10240)], [], [(0, .inr (.inr (.inl (some 30)))), (1, .inl (0, [(0, 1)])), (2, .inr (.inr (.inl (some 91)))), (3, .inl (0, [(1, 1)])), (4, .inl (0, [(2, 1)])), (5, .inl (0, [(4, 1)])), (6, .inl (0, [(4, 1)])), (7, .inr (.inl ((-20003), []))), (9, .inl (0, [(5, 1)]))], [.inl (0, [(2, 1)]), .inl (1, []), .inl (0, [(1, 1)])], []))] [] = true := by decide +kernel
theorem tm3y {cst : am_K} {strs : List Nat} {Φ : am_Q → Prop} {D : Nat} {M : am_M} {h : am_H} {l : am_L} (c : hp_C cst strs D) (hM : m_P[123]? = some M) (hD : (4 : Int) ≤ (D : Int) + 1) (hy : ly_hy m_tt ly_TH h) (cq b n ah su i cl f g : Int) (b0 : 0 ≤ cq) (t0 : cq ≤ 1239) (b1 : (-2147483648) ≤ b) (t1 : b ≤ 2147483647) (b2 : 0 ≤ n) (t2 : n ≤ 31) (b3 : (-210000000) ≤ ah) (t3 : ah ≤ 210000000) (b4 : (-210000000) ≤ su) (t4 : su ≤ 210000000) (b5 : 0 ≤ i) (t5 : i ≤ 10240) (b6 : 0 ≤ cl) (t6 : cl ≤ 1240) (b7 : 0 ≤ f) (t7 : f ≤ 10240) (b8 : 0 ≤ g) (t8 : g ≤ 10240) (f0 : 0 ≤ (cl - cq - 1)) (f1 : 0 ≤ (g - f - i - 1)) (k0 : ly_hv cst h 3588 0 = some (cl)) (k1 : ly_hv cst h 5632 (cq) = some (f)) (k2 : ly_hv cst h 5632 (cq + 1) = some (g)) (k3 : ly_hv cst h 5888 (f + i) = some (-20004)) (l0 : hp_a l 0 30) (l1 : hp_i l 1 (cq)) (l2 : hp_a l 2 91) (l3 : hp_i l 3 (b)) (l4 : hp_i l 4 (n)) (l5 : hp_i l 5 (su)) (l6 : hp_i l 6 (su)) (l7 : hp_j l 7 (-20003)) (l9 : hp_i l 9 (i)) (e0 : ∀ (l' : am_L) (h' : am_H) (y0 : Int32) (y1 : Int32) (y2 : Int32), y0.toInt = (n) → y1.toInt = 1 → y2.toInt = (b) → ly_hy m_tt ly_TH h' → ly_fr cst [] h h' → h.length ≤ h'.length → hp_a l' 0 30 → hp_i l' 1 (cq) → hp_a l' 2 91 → hp_i l' 3 (b) → hp_i l' 4 (n) → hp_i l' 5 (su) → hp_i l' 6 (su) → hp_j l' 7 (-20003) → hp_i l' 9 (i) → hp_F cst strs Φ D M 131 l' [.int y0, .int y1, .int y2] h') : hp_F cst strs Φ D M 19 l [] h := by
  refine hq_arc c hM tm3y_k hD [cq, b, n, ah, su, i, cl, f, g] rfl hy (hp_Bc (z := cq) rfl b0 t0 (hp_Bc (z := b) rfl b1 t1 (hp_Bc (z := n) rfl b2 t2 (hp_Bc (z := ah) rfl b3 t3 (hp_Bc (z := su) rfl b4 t4 (hp_Bc (z := i) rfl b5 t5 (hp_Bc (z := cl) rfl b6 t6 (hp_Bc (z := f) rfl b7 t7 (hp_Bc (z := g) rfl b8 t8 hp_Bn))))))))) (hp_Fc (z := ((-1) + ((-1) * cq + (1 * cl + 0)))) rfl (by omega) (hp_Fc (z := ((-1) + ((-1) * i + ((-1) * f + (1 * g + 0))))) rfl (by omega) hp_Fn)) (hp_Kc (zi := (0 + 0)) (zv := (0 + (1 * cl + 0))) k0 rfl rfl (by omega) (by omega) (hp_Kc (zi := (0 + (1 * cq + 0))) (zv := (0 + (1 * f + 0))) k1 rfl rfl (by omega) (by omega) (hp_Kc (zi := (1 + (1 * cq + 0))) (zv := (0 + (1 * g + 0))) k2 rfl rfl (by omega) (by omega) (hp_Kc (zi := (0 + (1 * i + (1 * f + 0)))) (zv := ((-20004) + 0)) k3 rfl rfl (by omega) (by omega) hp_Kn)))) (hp_La l0 (hp_Li (z := (0 + (1 * cq + 0))) l1 rfl (by omega) (hp_La l2 (hp_Li (z := (0 + (1 * b + 0))) l3 rfl (by omega) (hp_Li (z := (0 + (1 * n + 0))) l4 rfl (by omega) (hp_Li (z := (0 + (1 * su + 0))) l5 rfl (by omega) (hp_Li (z := (0 + (1 * su + 0))) l6 rfl (by omega) (hp_Lj (z := ((-20003) + 0)) l7 rfl (by omega) (hp_Li (z := (0 + (1 * i + 0))) l9 rfl (by omega) hp_Ln))))))))) trivial ?_ ?_
  · intro p_9 hp ys l' st' h' hys a1_9 a2 a3 gZ gL gS
    rcases List.mem_cons.mp hp with rfl | hp
    · obtain rfl := hp_y0 hys
      obtain ⟨y0, t0, rfl, q0, g0⟩ := hp_gSi (z := (0 + (1 * n + 0))) gS rfl
      obtain ⟨y1, t1, rfl, q1_9, g1⟩ := hp_gSi (z := (1 + 0)) g0 rfl
      obtain ⟨y2, t2, rfl, q2_9, g2⟩ := hp_gSi (z := (0 + (1 * b + 0))) g1 rfl
      cases hp_gSn g2
      exact e0 l' h' y0 y1 y2 (by omega) (by omega) (by omega) a1_9 a2 a3 (hp_gLa gL (List.mem_of_getElem? (i := 0) rfl) (by decide)) (hp_gLi (z := (0 + (1 * cq + 0))) gL (List.mem_of_getElem? (i := 1) rfl) rfl (by omega)) (hp_gLa gL (List.mem_of_getElem? (i := 2) rfl) (by decide)) (hp_gLi (z := (0 + (1 * b + 0))) gL (List.mem_of_getElem? (i := 3) rfl) rfl (by omega)) (hp_gLi (z := (0 + (1 * n + 0))) gL (List.mem_of_getElem? (i := 4) rfl) rfl (by omega)) (hp_gLi (z := (0 + (1 * su + 0))) gL (List.mem_of_getElem? (i := 5) rfl) rfl (by omega)) (hp_gLi (z := (0 + (1 * su + 0))) gL (List.mem_of_getElem? (i := 6) rfl) rfl (by omega)) (hp_gLj (z := ((-20003) + 0)) gL (List.mem_of_getElem? (i := 7) rfl) rfl (by omega)) (hp_gLi (z := (0 + (1 * i + 0))) gL (List.mem_of_getElem? (i := 8) rfl) rfl (by omega))
    cases hp
  · intro p_9 hp ys v_9 h' hys a1_9 a2 a3 gZ gS
    cases hp
theorem tm3n_k : hq_chk [124, 125, 127] 123 19 9 [(0, 0, 1239), (1, (-2147483648), 2147483647), (2, 0, 31), (3, (-210000000), 210000000), (4, (-210000000), 210000000), (5, 0, 10240), (6, 0, 1240), (7, 0, 10240), (8, 0, 10240)] [((-1), [(0, (-1)), (6, 1)]), ((-1), [(5, (-1)), (7, (-1)), (8, 1)])] [(0, .inr (.inr (.inl (some 30)))), (1, .inl (0, [(0, 1)])), (2, .inr (.inr (.inl (some 91)))), (3, .inl (0, [(1, 1)])), (4, .inl (0, [(2, 1)])), (5, .inl (0, [(3, 1)])), (6, .inl (0, [(4, 1)])), (7, .inr (.inl ((-20003), []))), (9, .inl (0, [(5, 1)]))] [] [(3588, (0, []), (0, [(6, 1)])), (5632, (0, [(0, 1)]), (0, [(7, 1)])), (5632, (1, [(0, 1)]), (0, [(8, 1)])), (5888, (0, [(5, 1), (7, 1)]), ((-20004), [])), (61000, (0, [(3, 1), (4, (-1))]), (1, []))] [] 4 [(136, ([], 9, [(0, 0, 1239), (1, (-2147483648), 2147483647), (2, 0, 31), (3, (-210000000), 210000000), (4, (-210000000), 210000000), (5, 0, 10240), (6, 0, 1240), (7, 0, 10240), (8, 0, 10240)], [], [(0, .inr (.inr (.inl (some 30)))), (1, .inl (0, [(0, 1)])), (2, .inr (.inr (.inl (some 91)))), (3, .inl (0, [(1, 1)])), (4, .inl (0, [(2, 1)])), (5, .inl (0, [(3, 1)])), (6, .inl (0, [(4, 1)])), (7, .inr (.inl ((-20003), []))), (9, .inl (0, [(5, 1)]))], [.inl (0, []), .inl (0, [(1, 1)])], []))] [] = true := by decide +kernel
theorem tm3n {cst : am_K} {strs : List Nat} {Φ : am_Q → Prop} {D : Nat} {M : am_M} {h : am_H} {l : am_L} (c : hp_C cst strs D) (hM : m_P[123]? = some M) (hD : (4 : Int) ≤ (D : Int) + 1) (hy : ly_hy m_tt ly_TH h) (cq b n ah su i cl f g : Int) (b0 : 0 ≤ cq) (t0 : cq ≤ 1239) (b1 : (-2147483648) ≤ b) (t1 : b ≤ 2147483647) (b2 : 0 ≤ n) (t2 : n ≤ 31) (b3 : (-210000000) ≤ ah) (t3 : ah ≤ 210000000) (b4 : (-210000000) ≤ su) (t4 : su ≤ 210000000) (b5 : 0 ≤ i) (t5 : i ≤ 10240) (b6 : 0 ≤ cl) (t6 : cl ≤ 1240) (b7 : 0 ≤ f) (t7 : f ≤ 10240) (b8 : 0 ≤ g) (t8 : g ≤ 10240) (f0 : 0 ≤ (cl - cq - 1)) (f1 : 0 ≤ (g - f - i - 1)) (k0 : ly_hv cst h 3588 0 = some (cl)) (k1 : ly_hv cst h 5632 (cq) = some (f)) (k2 : ly_hv cst h 5632 (cq + 1) = some (g)) (k3 : ly_hv cst h 5888 (f + i) = some (-20004)) (k4 : ly_hv cst h 61000 (ah - su) = some 1) (l0 : hp_a l 0 30) (l1 : hp_i l 1 (cq)) (l2 : hp_a l 2 91) (l3 : hp_i l 3 (b)) (l4 : hp_i l 4 (n)) (l5 : hp_i l 5 (ah)) (l6 : hp_i l 6 (su)) (l7 : hp_j l 7 (-20003)) (l9 : hp_i l 9 (i)) (e0 : ∀ (l' : am_L) (h' : am_H) (y0 : Int32) (y1 : Int32), y0.toInt = 0 → y1.toInt = (b) → ly_hy m_tt ly_TH h' → ly_fr cst [] h h' → h.length ≤ h'.length → hp_a l' 0 30 → hp_i l' 1 (cq) → hp_a l' 2 91 → hp_i l' 3 (b) → hp_i l' 4 (n) → hp_i l' 5 (ah) → hp_i l' 6 (su) → hp_j l' 7 (-20003) → hp_i l' 9 (i) → hp_F cst strs Φ D M 136 l' [.int y0, .int y1] h') : hp_F cst strs Φ D M 19 l [] h := by
  refine hq_arc c hM tm3n_k hD [cq, b, n, ah, su, i, cl, f, g] rfl hy (hp_Bc (z := cq) rfl b0 t0 (hp_Bc (z := b) rfl b1 t1 (hp_Bc (z := n) rfl b2 t2 (hp_Bc (z := ah) rfl b3 t3 (hp_Bc (z := su) rfl b4 t4 (hp_Bc (z := i) rfl b5 t5 (hp_Bc (z := cl) rfl b6 t6 (hp_Bc (z := f) rfl b7 t7 (hp_Bc (z := g) rfl b8 t8 hp_Bn))))))))) (hp_Fc (z := ((-1) + ((-1) * cq + (1 * cl + 0)))) rfl (by omega) (hp_Fc (z := ((-1) + ((-1) * i + ((-1) * f + (1 * g + 0))))) rfl (by omega) hp_Fn)) (hp_Kc (zi := (0 + 0)) (zv := (0 + (1 * cl + 0))) k0 rfl rfl (by omega) (by omega) (hp_Kc (zi := (0 + (1 * cq + 0))) (zv := (0 + (1 * f + 0))) k1 rfl rfl (by omega) (by omega) (hp_Kc (zi := (1 + (1 * cq + 0))) (zv := (0 + (1 * g + 0))) k2 rfl rfl (by omega) (by omega) (hp_Kc (zi := (0 + (1 * i + (1 * f + 0)))) (zv := ((-20004) + 0)) k3 rfl rfl (by omega) (by omega) (hp_Kc (zi := (0 + (1 * ah + ((-1) * su + 0)))) (zv := (1 + 0)) k4 rfl rfl (by omega) (by omega) hp_Kn))))) (hp_La l0 (hp_Li (z := (0 + (1 * cq + 0))) l1 rfl (by omega) (hp_La l2 (hp_Li (z := (0 + (1 * b + 0))) l3 rfl (by omega) (hp_Li (z := (0 + (1 * n + 0))) l4 rfl (by omega) (hp_Li (z := (0 + (1 * ah + 0))) l5 rfl (by omega) (hp_Li (z := (0 + (1 * su + 0))) l6 rfl (by omega) (hp_Lj (z := ((-20003) + 0)) l7 rfl (by omega) (hp_Li (z := (0 + (1 * i + 0))) l9 rfl (by omega) hp_Ln))))))))) trivial ?_ ?_
  · intro p_9 hp ys l' st' h' hys a1_9 a2 a3 gZ gL gS
    rcases List.mem_cons.mp hp with rfl | hp
    · obtain rfl := hp_y0 hys
      obtain ⟨y0, t0, rfl, q0, g0⟩ := hp_gSi (z := (0 + 0)) gS rfl
      obtain ⟨y1, t1, rfl, q1_9, g1⟩ := hp_gSi (z := (0 + (1 * b + 0))) g0 rfl
      cases hp_gSn g1
      exact e0 l' h' y0 y1 (by omega) (by omega) a1_9 a2 a3 (hp_gLa gL (List.mem_of_getElem? (i := 0) rfl) (by decide)) (hp_gLi (z := (0 + (1 * cq + 0))) gL (List.mem_of_getElem? (i := 1) rfl) rfl (by omega)) (hp_gLa gL (List.mem_of_getElem? (i := 2) rfl) (by decide)) (hp_gLi (z := (0 + (1 * b + 0))) gL (List.mem_of_getElem? (i := 3) rfl) rfl (by omega)) (hp_gLi (z := (0 + (1 * n + 0))) gL (List.mem_of_getElem? (i := 4) rfl) rfl (by omega)) (hp_gLi (z := (0 + (1 * ah + 0))) gL (List.mem_of_getElem? (i := 5) rfl) rfl (by omega)) (hp_gLi (z := (0 + (1 * su + 0))) gL (List.mem_of_getElem? (i := 6) rfl) rfl (by omega)) (hp_gLj (z := ((-20003) + 0)) gL (List.mem_of_getElem? (i := 7) rfl) rfl (by omega)) (hp_gLi (z := (0 + (1 * i + 0))) gL (List.mem_of_getElem? (i := 8) rfl) rfl (by omega))
    cases hp
  · intro p_9 hp ys v_9 h' hys a1_9 a2 a3 gZ gS
    cases hp
theorem tm4y_k : hq_chk [124, 125, 127] 123 19 9 [(0, 0, 1239), (1, (-2147483648), 2147483647), (2, 0, 31), (3, (-210000000), 210000000), (4, 1, 210000000), (5, 0, 10240), (6, 0, 1240), (7, 0, 10240), (8, 0, 10240)] [((-1), [(0, (-1)), (6, 1)]), ((-1), [(5, (-1)), (7, (-1)), (8, 1)])] [(0, .inr (.inr (.inl (some 30)))), (1, .inl (0, [(0, 1)])), (2, .inr (.inr (.inl (some 91)))), (3, .inl (0, [(1, 1)])), (4, .inl (0, [(2, 1)])), (5, .inl (0, [(3, 1)])), (6, .inl (0, [(4, 1)])), (7, .inr (.inl ((-20004), []))), (9, .inl (0, [(5, 1)]))] [] [(3588, (0, []), (0, [(6, 1)])), (5632, (0, [(0, 1)]), (0, [(7, 1)])), (5632, (1, [(0, 1)]), (0, [(8, 1)])), (5888, (0, [(5, 1), (7, 1)]), ((-20004), []))] [] 4 [(131, ([], 9, [(0, 0, 1239), (1, (-2147483648), 2147483647), (2, 0, 31), (3, (-210000000), 210000000), (4, 1, 210000000), (5, 0, 10240), (6, 0, 1240), (7, 0, 10240), (8, 0, 10240)], [], [(0, .inr (.inr (.inl (some 30)))), (1, .inl (0, [(0, 1)])), (2, .inr (.inr (.inl (some 91)))), (3, .inl (0, [(1, 1)])), (4, .inl (0, [(2, 1)])), (5, .inl (0, [(3, 1)])), (6, .inl (0, [(4, 1)])), (7, .inr (.inl ((-20004), []))), (9, .inl (0, [(5, 1)]))], [.inl (0, [(2, 1)]), .inl (1, []), .inl (0, [(1, 1)])], []))] [] = true := by decide +kernel
theorem tm4y {cst : am_K} {strs : List Nat} {Φ : am_Q → Prop} {D : Nat} {M : am_M} {h : am_H} {l : am_L} (c : hp_C cst strs D) (hM : m_P[123]? = some M) (hD : (4 : Int) ≤ (D : Int) + 1) (hy : ly_hy m_tt ly_TH h) (cq b n ah su i cl f g : Int) (b0 : 0 ≤ cq) (t0 : cq ≤ 1239) (b1 : (-2147483648) ≤ b) (t1 : b ≤ 2147483647) (b2 : 0 ≤ n) (t2 : n ≤ 31) (b3 : (-210000000) ≤ ah) (t3 : ah ≤ 210000000) (b4 : 1 ≤ su) (t4 : su ≤ 210000000) (b5 : 0 ≤ i) (t5 : i ≤ 10240) (b6 : 0 ≤ cl) (t6 : cl ≤ 1240) (b7 : 0 ≤ f) (t7 : f ≤ 10240) (b8 : 0 ≤ g) (t8 : g ≤ 10240) (f0 : 0 ≤ (cl - cq - 1)) (f1 : 0 ≤ (g - f - i - 1)) (k0 : ly_hv cst h 3588 0 = some (cl)) (k1 : ly_hv cst h 5632 (cq) = some (f)) (k2 : ly_hv cst h 5632 (cq + 1) = some (g)) (k3 : ly_hv cst h 5888 (f + i) = some (-20004)) (l0 : hp_a l 0 30) (l1 : hp_i l 1 (cq)) (l2 : hp_a l 2 91) (l3 : hp_i l 3 (b)) (l4 : hp_i l 4 (n)) (l5 : hp_i l 5 (ah)) (l6 : hp_i l 6 (su)) (l7 : hp_j l 7 (-20004)) (l9 : hp_i l 9 (i)) (e0 : ∀ (l' : am_L) (h' : am_H) (y0 : Int32) (y1 : Int32) (y2 : Int32), y0.toInt = (n) → y1.toInt = 1 → y2.toInt = (b) → ly_hy m_tt ly_TH h' → ly_fr cst [] h h' → h.length ≤ h'.length → hp_a l' 0 30 → hp_i l' 1 (cq) → hp_a l' 2 91 → hp_i l' 3 (b) → hp_i l' 4 (n) → hp_i l' 5 (ah) → hp_i l' 6 (su) → hp_j l' 7 (-20004) → hp_i l' 9 (i) → hp_F cst strs Φ D M 131 l' [.int y0, .int y1, .int y2] h') : hp_F cst strs Φ D M 19 l [] h := by
  refine hq_arc c hM tm4y_k hD [cq, b, n, ah, su, i, cl, f, g] rfl hy (hp_Bc (z := cq) rfl b0 t0 (hp_Bc (z := b) rfl b1 t1 (hp_Bc (z := n) rfl b2 t2 (hp_Bc (z := ah) rfl b3 t3 (hp_Bc (z := su) rfl b4 t4 (hp_Bc (z := i) rfl b5 t5 (hp_Bc (z := cl) rfl b6 t6 (hp_Bc (z := f) rfl b7 t7 (hp_Bc (z := g) rfl b8 t8 hp_Bn))))))))) (hp_Fc (z := ((-1) + ((-1) * cq + (1 * cl + 0)))) rfl (by omega) (hp_Fc (z := ((-1) + ((-1) * i + ((-1) * f + (1 * g + 0))))) rfl (by omega) hp_Fn)) (hp_Kc (zi := (0 + 0)) (zv := (0 + (1 * cl + 0))) k0 rfl rfl (by omega) (by omega) (hp_Kc (zi := (0 + (1 * cq + 0))) (zv := (0 + (1 * f + 0))) k1 rfl rfl (by omega) (by omega) (hp_Kc (zi := (1 + (1 * cq + 0))) (zv := (0 + (1 * g + 0))) k2 rfl rfl (by omega) (by omega) (hp_Kc (zi := (0 + (1 * i + (1 * f + 0)))) (zv := ((-20004) + 0)) k3 rfl rfl (by omega) (by omega) hp_Kn)))) (hp_La l0 (hp_Li (z := (0 + (1 * cq + 0))) l1 rfl (by omega) (hp_La l2 (hp_Li (z := (0 + (1 * b + 0))) l3 rfl (by omega) (hp_Li (z := (0 + (1 * n + 0))) l4 rfl (by omega) (hp_Li (z := (0 + (1 * ah + 0))) l5 rfl (by omega) (hp_Li (z := (0 + (1 * su + 0))) l6 rfl (by omega) (hp_Lj (z := ((-20004) + 0)) l7 rfl (by omega) (hp_Li (z := (0 + (1 * i + 0))) l9 rfl (by omega) hp_Ln))))))))) trivial ?_ ?_
  · intro p_9 hp ys l' st' h' hys a1_9 a2 a3 gZ gL gS
    rcases List.mem_cons.mp hp with rfl | hp
    · obtain rfl := hp_y0 hys
      obtain ⟨y0, t0, rfl, q0, g0⟩ := hp_gSi (z := (0 + (1 * n + 0))) gS rfl
      obtain ⟨y1, t1, rfl, q1_9, g1⟩ := hp_gSi (z := (1 + 0)) g0 rfl
      obtain ⟨y2, t2, rfl, q2_9, g2⟩ := hp_gSi (z := (0 + (1 * b + 0))) g1 rfl
      cases hp_gSn g2
      exact e0 l' h' y0 y1 y2 (by omega) (by omega) (by omega) a1_9 a2 a3 (hp_gLa gL (List.mem_of_getElem? (i := 0) rfl) (by decide)) (hp_gLi (z := (0 + (1 * cq + 0))) gL (List.mem_of_getElem? (i := 1) rfl) rfl (by omega)) (hp_gLa gL (List.mem_of_getElem? (i := 2) rfl) (by decide)) (hp_gLi (z := (0 + (1 * b + 0))) gL (List.mem_of_getElem? (i := 3) rfl) rfl (by omega)) (hp_gLi (z := (0 + (1 * n + 0))) gL (List.mem_of_getElem? (i := 4) rfl) rfl (by omega)) (hp_gLi (z := (0 + (1 * ah + 0))) gL (List.mem_of_getElem? (i := 5) rfl) rfl (by omega)) (hp_gLi (z := (0 + (1 * su + 0))) gL (List.mem_of_getElem? (i := 6) rfl) rfl (by omega)) (hp_gLj (z := ((-20004) + 0)) gL (List.mem_of_getElem? (i := 7) rfl) rfl (by omega)) (hp_gLi (z := (0 + (1 * i + 0))) gL (List.mem_of_getElem? (i := 8) rfl) rfl (by omega))
    cases hp
  · intro p_9 hp ys v_9 h' hys a1_9 a2 a3 gZ gS
    cases hp
theorem tm4n_k : hq_chk [124, 125, 127] 123 19 9 [(0, 0, 1239), (1, (-2147483648), 2147483647), (2, 0, 31), (3, (-210000000), 210000000), (4, (-210000000), 0), (5, 0, 10240), (6, 0, 1240), (7, 0, 10240), (8, 0, 10240)] [((-1), [(0, (-1)), (6, 1)]), ((-1), [(5, (-1)), (7, (-1)), (8, 1)])] [(0, .inr (.inr (.inl (some 30)))), (1, .inl (0, [(0, 1)])), (2, .inr (.inr (.inl (some 91)))), (3, .inl (0, [(1, 1)])), (4, .inl (0, [(2, 1)])), (5, .inl (0, [(3, 1)])), (6, .inl (0, [(4, 1)])), (7, .inr (.inl ((-20004), []))), (9, .inl (0, [(5, 1)]))] [] [(3588, (0, []), (0, [(6, 1)])), (5632, (0, [(0, 1)]), (0, [(7, 1)])), (5632, (1, [(0, 1)]), (0, [(8, 1)])), (5888, (0, [(5, 1), (7, 1)]), ((-20004), []))] [] 4 [(136, ([], 9, [(0, 0, 1239), (1, (-2147483648), 2147483647), (2, 0, 31), (3, (-210000000), 210000000), (4, (-210000000), 0), (5, 0, 10240), (6, 0, 1240), (7, 0, 10240), (8, 0, 10240)], [], [(0, .inr (.inr (.inl (some 30)))), (1, .inl (0, [(0, 1)])), (2, .inr (.inr (.inl (some 91)))), (3, .inl (0, [(1, 1)])), (4, .inl (0, [(2, 1)])), (5, .inl (0, [(3, 1)])), (6, .inl (0, [(4, 1)])), (7, .inr (.inl ((-20004), []))), (9, .inl (0, [(5, 1)]))], [.inl (0, []), .inl (0, [(1, 1)])], []))] [] = true := by decide +kernel
theorem tm4n {cst : am_K} {strs : List Nat} {Φ : am_Q → Prop} {D : Nat} {M : am_M} {h : am_H} {l : am_L} (c : hp_C cst strs D) (hM : m_P[123]? = some M) (hD : (4 : Int) ≤ (D : Int) + 1) (hy : ly_hy m_tt ly_TH h) (cq b n ah su i cl f g : Int) (b0 : 0 ≤ cq) (t0 : cq ≤ 1239) (b1 : (-2147483648) ≤ b) (t1 : b ≤ 2147483647) (b2 : 0 ≤ n) (t2 : n ≤ 31) (b3 : (-210000000) ≤ ah) (t3 : ah ≤ 210000000) (b4 : (-210000000) ≤ su) (t4 : su ≤ 0) (b5 : 0 ≤ i) (t5 : i ≤ 10240) (b6 : 0 ≤ cl) (t6 : cl ≤ 1240) (b7 : 0 ≤ f) (t7 : f ≤ 10240) (b8 : 0 ≤ g) (t8 : g ≤ 10240) (f0 : 0 ≤ (cl - cq - 1)) (f1 : 0 ≤ (g - f - i - 1)) (k0 : ly_hv cst h 3588 0 = some (cl)) (k1 : ly_hv cst h 5632 (cq) = some (f)) (k2 : ly_hv cst h 5632 (cq + 1) = some (g)) (k3 : ly_hv cst h 5888 (f + i) = some (-20004)) (l0 : hp_a l 0 30) (l1 : hp_i l 1 (cq)) (l2 : hp_a l 2 91) (l3 : hp_i l 3 (b)) (l4 : hp_i l 4 (n)) (l5 : hp_i l 5 (ah)) (l6 : hp_i l 6 (su)) (l7 : hp_j l 7 (-20004)) (l9 : hp_i l 9 (i)) (e0 : ∀ (l' : am_L) (h' : am_H) (y0 : Int32) (y1 : Int32), y0.toInt = 0 → y1.toInt = (b) → ly_hy m_tt ly_TH h' → ly_fr cst [] h h' → h.length ≤ h'.length → hp_a l' 0 30 → hp_i l' 1 (cq) → hp_a l' 2 91 → hp_i l' 3 (b) → hp_i l' 4 (n) → hp_i l' 5 (ah) → hp_i l' 6 (su) → hp_j l' 7 (-20004) → hp_i l' 9 (i) → hp_F cst strs Φ D M 136 l' [.int y0, .int y1] h') : hp_F cst strs Φ D M 19 l [] h := by
  refine hq_arc c hM tm4n_k hD [cq, b, n, ah, su, i, cl, f, g] rfl hy (hp_Bc (z := cq) rfl b0 t0 (hp_Bc (z := b) rfl b1 t1 (hp_Bc (z := n) rfl b2 t2 (hp_Bc (z := ah) rfl b3 t3 (hp_Bc (z := su) rfl b4 t4 (hp_Bc (z := i) rfl b5 t5 (hp_Bc (z := cl) rfl b6 t6 (hp_Bc (z := f) rfl b7 t7 (hp_Bc (z := g) rfl b8 t8 hp_Bn))))))))) (hp_Fc (z := ((-1) + ((-1) * cq + (1 * cl + 0)))) rfl (by omega) (hp_Fc (z := ((-1) + ((-1) * i + ((-1) * f + (1 * g + 0))))) rfl (by omega) hp_Fn)) (hp_Kc (zi := (0 + 0)) (zv := (0 + (1 * cl + 0))) k0 rfl rfl (by omega) (by omega) (hp_Kc (zi := (0 + (1 * cq + 0))) (zv := (0 + (1 * f + 0))) k1 rfl rfl (by omega) (by omega) (hp_Kc (zi := (1 + (1 * cq + 0))) (zv := (0 + (1 * g + 0))) k2 rfl rfl (by omega) (by omega) (hp_Kc (zi := (0 + (1 * i + (1 * f + 0)))) (zv := ((-20004) + 0)) k3 rfl rfl (by omega) (by omega) hp_Kn)))) (hp_La l0 (hp_Li (z := (0 + (1 * cq + 0))) l1 rfl (by omega) (hp_La l2 (hp_Li (z := (0 + (1 * b + 0))) l3 rfl (by omega) (hp_Li (z := (0 + (1 * n + 0))) l4 rfl (by omega) (hp_Li (z := (0 + (1 * ah + 0))) l5 rfl (by omega) (hp_Li (z := (0 + (1 * su + 0))) l6 rfl (by omega) (hp_Lj (z := ((-20004) + 0)) l7 rfl (by omega) (hp_Li (z := (0 + (1 * i + 0))) l9 rfl (by omega) hp_Ln))))))))) trivial ?_ ?_
  · intro p_9 hp ys l' st' h' hys a1_9 a2 a3 gZ gL gS
    rcases List.mem_cons.mp hp with rfl | hp
    · obtain rfl := hp_y0 hys
      obtain ⟨y0, t0, rfl, q0, g0⟩ := hp_gSi (z := (0 + 0)) gS rfl
      obtain ⟨y1, t1, rfl, q1_9, g1⟩ := hp_gSi (z := (0 + (1 * b + 0))) g0 rfl
      cases hp_gSn g1
      exact e0 l' h' y0 y1 (by omega) (by omega) a1_9 a2 a3 (hp_gLa gL (List.mem_of_getElem? (i := 0) rfl) (by decide)) (hp_gLi (z := (0 + (1 * cq + 0))) gL (List.mem_of_getElem? (i := 1) rfl) rfl (by omega)) (hp_gLa gL (List.mem_of_getElem? (i := 2) rfl) (by decide)) (hp_gLi (z := (0 + (1 * b + 0))) gL (List.mem_of_getElem? (i := 3) rfl) rfl (by omega)) (hp_gLi (z := (0 + (1 * n + 0))) gL (List.mem_of_getElem? (i := 4) rfl) rfl (by omega)) (hp_gLi (z := (0 + (1 * ah + 0))) gL (List.mem_of_getElem? (i := 5) rfl) rfl (by omega)) (hp_gLi (z := (0 + (1 * su + 0))) gL (List.mem_of_getElem? (i := 6) rfl) rfl (by omega)) (hp_gLj (z := ((-20004) + 0)) gL (List.mem_of_getElem? (i := 7) rfl) rfl (by omega)) (hp_gLi (z := (0 + (1 * i + 0))) gL (List.mem_of_getElem? (i := 8) rfl) rfl (by omega))
    cases hp
  · intro p_9 hp ys v_9 h' hys a1_9 a2 a3 gZ gS
    cases hp
theorem tmG_k : hp_chk 123 132 8 [(0, 0, 1239), (1, (-2147483648), 2147483647), (2, 0, 31), (3, (-210000000), 210000000), (4, (-210000000), 210000000), (5, (-20004), (-20001)), (6, 0, 10240), (7, (-2147483648), 2147483647)] [] [(0, .inr (.inr (.inl (some 30)))), (1, .inl (0, [(0, 1)])), (2, .inr (.inr (.inl (some 91)))), (3, .inl (0, [(1, 1)])), (4, .inl (0, [(2, 1)])), (5, .inl (0, [(3, 1)])), (6, .inl (0, [(4, 1)])), (7, .inr (.inl (0, [(5, 1)]))), (9, .inl (0, [(6, 1)]))] [.inl (0, [(7, 1)]), .inl (0, [(1, 1)])] [] [] 2 [(136, ([], 8, [(0, 0, 1239), (1, (-2147483648), 2147483647), (2, 0, 31), (3, (-210000000), 210000000), (4, (-210000000), 210000000), (5, (-20004), (-20001)), (6, 0, 10240), (7, (-2147483648), 2147483647)], [], [(0, .inr (.inr (.inl (some 30)))), (1, .inl (0, [(0, 1)])), (2, .inr (.inr (.inl (some 91)))), (3, .inl (0, [(1, 1)])), (4, .inl (0, [(2, 1)])), (5, .inl (0, [(3, 1)])), (6, .inl (0, [(4, 1)])), (7, .inr (.inl (0, [(5, 1)]))), (9, .inl (0, [(6, 1)]))], [.inl (0, [(7, 1)]), .inl (0, [(1, 1)])], []))] [] = true := by decide +kernel
theorem tmG {cst : am_K} {strs : List Nat} {Φ : am_Q → Prop} {D : Nat} {M : am_M} {h : am_H} {l : am_L} (c : hp_C cst strs D) (hM : m_P[123]? = some M) (hD : (2 : Int) ≤ (D : Int) + 1) (hy : ly_hy m_tt ly_TH h) (cq b n ah su re i u : Int) (x0 : Int32) (x1 : Int32) (hx0 : x0.toInt = (u)) (hx1 : x1.toInt = (b)) (b0 : 0 ≤ cq) (t0 : cq ≤ 1239) (b1 : (-2147483648) ≤ b) (t1 : b ≤ 2147483647) (b2 : 0 ≤ n) (t2 : n ≤ 31) (b3 : (-210000000) ≤ ah) (t3 : ah ≤ 210000000) (b4 : (-210000000) ≤ su) (t4 : su ≤ 210000000) (b5 : (-20004) ≤ re) (t5 : re ≤ (-20001)) (b6 : 0 ≤ i) (t6 : i ≤ 10240) (b7 : (-2147483648) ≤ u) (t7 : u ≤ 2147483647) (l0 : hp_a l 0 30) (l1 : hp_i l 1 (cq)) (l2 : hp_a l 2 91) (l3 : hp_i l 3 (b)) (l4 : hp_i l 4 (n)) (l5 : hp_i l 5 (ah)) (l6 : hp_i l 6 (su)) (l7 : hp_j l 7 (re)) (l9 : hp_i l 9 (i)) (e0 : ∀ (l' : am_L) (h' : am_H) (y0 : Int32) (y1 : Int32), y0.toInt = (u) → y1.toInt = (b) → ly_hy m_tt ly_TH h' → ly_fr cst [] h h' → h.length ≤ h'.length → hp_a l' 0 30 → hp_i l' 1 (cq) → hp_a l' 2 91 → hp_i l' 3 (b) → hp_i l' 4 (n) → hp_i l' 5 (ah) → hp_i l' 6 (su) → hp_j l' 7 (re) → hp_i l' 9 (i) → hp_F cst strs Φ D M 136 l' [.int y0, .int y1] h') : hp_F cst strs Φ D M 132 l [.int x0, .int x1] h := by
  refine hp_arc c hM tmG_k hD [cq, b, n, ah, su, re, i, u] rfl hy (hp_Bc (z := cq) rfl b0 t0 (hp_Bc (z := b) rfl b1 t1 (hp_Bc (z := n) rfl b2 t2 (hp_Bc (z := ah) rfl b3 t3 (hp_Bc (z := su) rfl b4 t4 (hp_Bc (z := re) rfl b5 t5 (hp_Bc (z := i) rfl b6 t6 (hp_Bc (z := u) rfl b7 t7 hp_Bn)))))))) hp_Fn hp_Kn (hp_La l0 (hp_Li (z := (0 + (1 * cq + 0))) l1 rfl (by omega) (hp_La l2 (hp_Li (z := (0 + (1 * b + 0))) l3 rfl (by omega) (hp_Li (z := (0 + (1 * n + 0))) l4 rfl (by omega) (hp_Li (z := (0 + (1 * ah + 0))) l5 rfl (by omega) (hp_Li (z := (0 + (1 * su + 0))) l6 rfl (by omega) (hp_Lj (z := (0 + (1 * re + 0))) l7 rfl (by omega) (hp_Li (z := (0 + (1 * i + 0))) l9 rfl (by omega) hp_Ln))))))))) (hp_Si (z := (0 + (1 * u + 0))) rfl (by omega) (hp_Si (z := (0 + (1 * b + 0))) rfl (by omega) trivial)) ?_ ?_
  · intro p_9 hp ys l' st' h' hys a1_9 a2 a3 gZ gL gS
    rcases List.mem_cons.mp hp with rfl | hp
    · obtain rfl := hp_y0 hys
      obtain ⟨y0, t0, rfl, q0, g0⟩ := hp_gSi (z := (0 + (1 * u + 0))) gS rfl
      obtain ⟨y1, t1, rfl, q1_9, g1⟩ := hp_gSi (z := (0 + (1 * b + 0))) g0 rfl
      cases hp_gSn g1
      exact e0 l' h' y0 y1 (by omega) (by omega) a1_9 a2 a3 (hp_gLa gL (List.mem_of_getElem? (i := 0) rfl) (by decide)) (hp_gLi (z := (0 + (1 * cq + 0))) gL (List.mem_of_getElem? (i := 1) rfl) rfl (by omega)) (hp_gLa gL (List.mem_of_getElem? (i := 2) rfl) (by decide)) (hp_gLi (z := (0 + (1 * b + 0))) gL (List.mem_of_getElem? (i := 3) rfl) rfl (by omega)) (hp_gLi (z := (0 + (1 * n + 0))) gL (List.mem_of_getElem? (i := 4) rfl) rfl (by omega)) (hp_gLi (z := (0 + (1 * ah + 0))) gL (List.mem_of_getElem? (i := 5) rfl) rfl (by omega)) (hp_gLi (z := (0 + (1 * su + 0))) gL (List.mem_of_getElem? (i := 6) rfl) rfl (by omega)) (hp_gLj (z := (0 + (1 * re + 0))) gL (List.mem_of_getElem? (i := 7) rfl) rfl (by omega)) (hp_gLi (z := (0 + (1 * i + 0))) gL (List.mem_of_getElem? (i := 8) rfl) rfl (by omega))
    cases hp
  · intro p_9 hp ys v_9 h' hys a1_9 a2 a3 gZ gS
    cases hp
theorem tmH_k : hp_chk 123 137 8 [(0, 0, 1239), (1, (-2147483648), 2147483647), (2, 0, 31), (3, (-210000000), 210000000), (4, (-210000000), 210000000), (5, (-20004), (-20001)), (6, 0, 10240), (7, (-2147483648), 2147483647)] [] [(0, .inr (.inr (.inl (some 30)))), (1, .inl (0, [(0, 1)])), (2, .inr (.inr (.inl (some 91)))), (3, .inl (0, [(1, 1)])), (4, .inl (0, [(2, 1)])), (5, .inl (0, [(3, 1)])), (6, .inl (0, [(4, 1)])), (7, .inr (.inl (0, [(5, 1)]))), (9, .inl (0, [(6, 1)]))] [.inl (0, [(7, 1)])] [] [] 2 [(19, ([], 8, [(0, 0, 1239), (1, (-2147483648), 2147483647), (2, 0, 31), (3, (-210000000), 210000000), (4, (-210000000), 210000000), (5, (-20004), (-20001)), (6, 0, 10240), (7, (-2147483648), 2147483647)], [], [(0, .inr (.inr (.inl (some 30)))), (1, .inl (0, [(0, 1)])), (2, .inr (.inr (.inl (some 91)))), (3, .inl (0, [(7, 1)])), (4, .inl (1, [(2, 1)])), (5, .inl (0, [(3, 1)])), (6, .inl (0, [])), (7, .inr (.inl ((-20004), []))), (9, .inl (1, [(6, 1)]))], [], []))] [] = true := by decide +kernel
theorem tmH {cst : am_K} {strs : List Nat} {Φ : am_Q → Prop} {D : Nat} {M : am_M} {h : am_H} {l : am_L} (c : hp_C cst strs D) (hM : m_P[123]? = some M) (hD : (2 : Int) ≤ (D : Int) + 1) (hy : ly_hy m_tt ly_TH h) (cq b n ah su re i d : Int) (x0 : Int32) (hx0 : x0.toInt = (d)) (b0 : 0 ≤ cq) (t0 : cq ≤ 1239) (b1 : (-2147483648) ≤ b) (t1 : b ≤ 2147483647) (b2 : 0 ≤ n) (t2 : n ≤ 31) (b3 : (-210000000) ≤ ah) (t3 : ah ≤ 210000000) (b4 : (-210000000) ≤ su) (t4 : su ≤ 210000000) (b5 : (-20004) ≤ re) (t5 : re ≤ (-20001)) (b6 : 0 ≤ i) (t6 : i ≤ 10240) (b7 : (-2147483648) ≤ d) (t7 : d ≤ 2147483647) (l0 : hp_a l 0 30) (l1 : hp_i l 1 (cq)) (l2 : hp_a l 2 91) (l3 : hp_i l 3 (b)) (l4 : hp_i l 4 (n)) (l5 : hp_i l 5 (ah)) (l6 : hp_i l 6 (su)) (l7 : hp_j l 7 (re)) (l9 : hp_i l 9 (i)) (e0 : ∀ (l' : am_L) (h' : am_H), ly_hy m_tt ly_TH h' → ly_fr cst [] h h' → h.length ≤ h'.length → hp_a l' 0 30 → hp_i l' 1 (cq) → hp_a l' 2 91 → hp_i l' 3 (d) → hp_i l' 4 (n + 1) → hp_i l' 5 (ah) → hp_i l' 6 0 → hp_j l' 7 (-20004) → hp_i l' 9 (i + 1) → hp_F cst strs Φ D M 19 l' [] h') : hp_F cst strs Φ D M 137 l [.int x0] h := by
  refine hp_arc c hM tmH_k hD [cq, b, n, ah, su, re, i, d] rfl hy (hp_Bc (z := cq) rfl b0 t0 (hp_Bc (z := b) rfl b1 t1 (hp_Bc (z := n) rfl b2 t2 (hp_Bc (z := ah) rfl b3 t3 (hp_Bc (z := su) rfl b4 t4 (hp_Bc (z := re) rfl b5 t5 (hp_Bc (z := i) rfl b6 t6 (hp_Bc (z := d) rfl b7 t7 hp_Bn)))))))) hp_Fn hp_Kn (hp_La l0 (hp_Li (z := (0 + (1 * cq + 0))) l1 rfl (by omega) (hp_La l2 (hp_Li (z := (0 + (1 * b + 0))) l3 rfl (by omega) (hp_Li (z := (0 + (1 * n + 0))) l4 rfl (by omega) (hp_Li (z := (0 + (1 * ah + 0))) l5 rfl (by omega) (hp_Li (z := (0 + (1 * su + 0))) l6 rfl (by omega) (hp_Lj (z := (0 + (1 * re + 0))) l7 rfl (by omega) (hp_Li (z := (0 + (1 * i + 0))) l9 rfl (by omega) hp_Ln))))))))) (hp_Si (z := (0 + (1 * d + 0))) rfl (by omega) trivial) ?_ ?_
  · intro p_9 hp ys l' st' h' hys a1_9 a2 a3 gZ gL gS
    rcases List.mem_cons.mp hp with rfl | hp
    · obtain rfl := hp_y0 hys
      cases hp_gSn gS
      exact e0 l' h' a1_9 a2 a3 (hp_gLa gL (List.mem_of_getElem? (i := 0) rfl) (by decide)) (hp_gLi (z := (0 + (1 * cq + 0))) gL (List.mem_of_getElem? (i := 1) rfl) rfl (by omega)) (hp_gLa gL (List.mem_of_getElem? (i := 2) rfl) (by decide)) (hp_gLi (z := (0 + (1 * d + 0))) gL (List.mem_of_getElem? (i := 3) rfl) rfl (by omega)) (hp_gLi (z := (1 + (1 * n + 0))) gL (List.mem_of_getElem? (i := 4) rfl) rfl (by omega)) (hp_gLi (z := (0 + (1 * ah + 0))) gL (List.mem_of_getElem? (i := 5) rfl) rfl (by omega)) (hp_gLi (z := (0 + 0)) gL (List.mem_of_getElem? (i := 6) rfl) rfl (by omega)) (hp_gLj (z := ((-20004) + 0)) gL (List.mem_of_getElem? (i := 7) rfl) rfl (by omega)) (hp_gLi (z := (1 + (1 * i + 0))) gL (List.mem_of_getElem? (i := 8) rfl) rfl (by omega))
    cases hp
  · intro p_9 hp ys v_9 h' hys a1_9 a2 a3 gZ gS
    cases hp
theorem fld_b {cst : am_K} {h : am_H} {c ci k : Nat} {fs : List (List ly_F)} {lo hi : Int} (hy : ly_hy m_tt ly_TH h) (ht : ly_ths ly_TH c = some (.inr (ci, fs))) (hf : sx_ch 8 k fs = some (.inl (lo, hi))) (hk : k < 256) : ∃ v, ly_hv cst h (256 * c + k) 0 = some v ∧ lo ≤ v ∧ v ≤ hi := by
  have hc_9 := ly_ths_lt ht
  obtain ⟨x_9, hx, vs, rfl, -, hvs⟩ := hy.2.1 _ _ ht
  obtain ⟨w_9, hw, n_9, rfl, n0_9, n1_9⟩ := hvs _ _ hf
  refine ⟨n_9.toInt, ?_, n0_9, n1_9⟩
  rw [ly_hv0 (by omega), ly_h0_of1 hc_9 hk, hx]
  simp only [ly_hs]
  rw [if_pos trivial, hw]
set_option maxRecDepth 8000 in
theorem lkv_no : ∀ (ns vs : List Int) (x : Int), (∀ j (hj : j < ns.length), ns[j] ≠ x) → lkv ns vs x = 0
  | [], vs, x, _ => by cases vs <;> rfl
  | n :: ns, [], x, _ => rfl
  | n :: ns, v :: vs, x, h => by
    have h0 : n ≠ x := h 0 (Nat.zero_lt_succ _)
    show (if n = x then v else lkv ns vs x) = 0
    rw [if_neg h0]
    exact lkv_no ns vs x (fun j hj => h (j + 1) (Nat.succ_lt_succ hj))
set_option maxRecDepth 8000 in
theorem lkv_at : ∀ (ns vs : List Int) (x : Int) (i : Nat) (hi : i < ns.length) (hv : i < vs.length), ns[i] = x → (∀ j (hj : j < ns.length), j < i → ns[j] ≠ x) → lkv ns vs x = vs[i]
  | [], vs, x, i, hi, _, _, _ => absurd hi (Nat.not_lt_zero _)
  | n :: ns, [], x, i, _, hv, _, _ => absurd hv (Nat.not_lt_zero _)
  | n :: ns, v :: vs, x, 0, hi, hv, e, _ => by
    have e : n = x := e
    show (if n = x then v else lkv ns vs x) = v
    rw [if_pos e]
  | n :: ns, v :: vs, x, i + 1, hi, hv, e, h => by
    have h0 : n ≠ x := h 0 (Nat.zero_lt_succ _) (Nat.zero_lt_succ _)
    show (if n = x then v else lkv ns vs x) = vs[i]' (Nat.lt_of_succ_lt_succ hv)
    rw [if_neg h0]
    exact lkv_at ns vs x i (Nat.lt_of_succ_lt_succ hi) (Nat.lt_of_succ_lt_succ hv) e (fun j hj hl => h (j + 1) (Nat.succ_lt_succ hj) (Nat.succ_lt_succ hl))
set_option maxRecDepth 8000 in
theorem lkv_b : ∀ (ns vs : List Int) (x : Int), (∀ v ∈ vs, 0 ≤ v ∧ v ≤ 9999) → 0 ≤ lkv ns vs x ∧ lkv ns vs x ≤ 9999
  | [], vs, x, _ => by
    have e : lkv [] vs x = 0 := by cases vs <;> rfl
    omega
  | n :: ns, [], x, _ => by
    have e : lkv (n :: ns) [] x = 0 := rfl
    omega
  | n :: ns, v :: vs, x, h => by
    show 0 ≤ (if n = x then v else lkv ns vs x) ∧ (if n = x then v else lkv ns vs x) ≤ 9999
    by_cases z : n = x
    · rw [if_pos z]
      exact h v List.mem_cons_self
    · rw [if_neg z]
      exact lkv_b ns vs x (fun w hw => h w (List.mem_cons_of_mem _ hw))
/-- a row of FACTS in force: names and values -/
def rF (cst : am_K) (h : am_H) (ns vs : List Int) : Prop := ly_hv cst h 19202 0 = some (ns.length : Int) ∧ fn_N cst h 19456 0 ns ∧ fn_N cst h 19712 0 vs ∧ vs.length = ns.length ∧ ns.length ≤ 20 ∧ ∀ v ∈ vs, 0 ≤ v ∧ v ≤ 9999
theorem rF_mv {cst : am_K} {h h' : am_H} {ns vs : List Int} {ms : List Nat} (R : rF cst h ns vs) (fr : ly_fr cst ms h h') (q1 : ly_has 19202 ms = false) (q2 : ly_has 19456 ms = false) (q3 : ly_has 19712 ms = false) : rF cst h' ns vs := ⟨fr _ _ _ q1 R.1, fn_mv R.2.1 fr q2, fn_mv R.2.2.1 fr q3, R.2.2.2⟩
set_option maxRecDepth 8000 in
theorem vf_lp {cst : am_K} {strs : List Nat} {D : Nat} {M : am_M} {h0 : am_H} (c : hp_C cst strs D) (hM : m_P[49]? = some M) (hD : 1 ≤ D) {v : Int} (v0 : 1 ≤ v) (v1 : v ≤ 9223372036854775807) {ns vs : List Int} (R : rF cst h0 ns vs) : ∀ (Q : Nat) (h : am_H) (l : am_L) (i : Nat), ns.length - i < Q → i ≤ ns.length → ly_hy m_tt ly_TH h → ly_fr cst [] h0 h → (∀ j (hj : j < ns.length), j < i → ns[j] ≠ v) → hp_a l 0 91 → hp_j l 1 v → hp_i l 3 (i : Int) → hp_F cst strs (fun r : am_Q => ∃ w : Int32, r.1 = some (.int w) ∧ r.2.2.1 = 0 ∧ r.2.2.2 = 0 ∧ ly_hy m_tt ly_TH r.2.1 ∧ ly_fr cst [] h0 r.2.1 ∧ ((∃ (i : Nat) (hi : i < ns.length), ns[i] = v ∧ (∀ j (hj : j < ns.length), j < i → ns[j] ≠ v) ∧ w.toInt = (i : Int)) ∨ ((∀ j (hj : j < ns.length), ns[j] ≠ v) ∧ w.toInt = -1))) D M 2 l [] h := by
  obtain ⟨k1_9, k2_9, k3_9, -, n20, -⟩ := R
  intro Q
  induction Q with
  | zero => intro h l i hN_9; omega
  | succ Q ih_9 =>
    intro h l i hN_9 hi hy fr_9 ne_9 l0 l1 l3
    have kS := fr_9 _ _ _ rfl k1_9
    by_cases z_9 : i = ns.length
    · rw [z_9] at l3
      exact vf3 c hM (by omega) hy v (ns.length : Int) v0 v1 (by omega) (by omega) kS l0 l1 l3 (fun h2 w hw u1_9 u2_9 u3 => ⟨w, rfl, rfl, rfl, u1_9, ly_fr_tr fr_9 u2_9, Or.inr ⟨fun j hj => ne_9 j hj (by omega), hw⟩⟩)
    have hl : i < ns.length := by omega
    have kN_9 := k2_9 i hl
    rw [Int.zero_add] at kN_9
    have kN_9 := fr_9 _ _ _ rfl kN_9
    by_cases e_9 : ns[i] = v
    · rw [e_9] at kN_9
      exact vf2 c hM (by omega) hy v (ns.length : Int) (i : Int) v0 v1 (by omega) (by omega) (by omega) (by omega) (by omega) kS kN_9 l0 l1 l3 (fun h2 w hw u1_9 u2_9 u3 => ⟨w, rfl, rfl, rfl, u1_9, ly_fr_tr fr_9 u2_9, Or.inl ⟨i, hl, e_9, ne_9, hw⟩⟩)
    · obtain ⟨w, kw', w0_9, w1_9⟩ := hp_rowj (cst := cst) (i := (i : Int)) hy (show ly_ths ly_TH 76 = some (.inl (.long, 20, 0, 0)) from rfl) (by omega) (by omega)
      have kw' : ly_hv cst h 19456 (i : Int) = some w := kw'
      have ew := Option.some.inj (kN_9.symm.trans kw')
      have w0_9 : -9223372036854775808 ≤ w := w0_9
      have w1_9 : w ≤ 9223372036854775807 := w1_9
      exact vf1 c hM (by omega) hy v (ns.length : Int) (i : Int) ns[i] v0 v1 (by omega) (by omega) (by omega) (by omega) (by omega) (by omega) (by omega) kS kN_9 (hp_ne (by omega)) l0 l1 l3 (fun l3' h3 u1_9 u2_9 u3 m0_9 m1_9 m3_9 => ih_9 h3 l3' (i + 1) (by omega) (by omega) u1_9 (ly_fr_tr fr_9 u2_9) (fun j hj h9 => if w : j = i then by subst w; exact e_9 else ne_9 j hj (by omega)) m0_9 m1_9 (by rw [show (((i + 1 : Nat)) : Int) = (i : Int) + 1 by omega]; exact m3_9))
/-- valueOf -/
theorem vo_run {cst : am_K} {strs : List Nat} {D : Nat} {h0 : am_H} (cc : ∀ d, hp_C cst strs d) (hD : 1 ≤ D) (hy : ly_hy m_tt ly_TH h0) {ns vs : List Int} (R : rF cst h0 ns vs) {xv : Int64} {v : Int} (ev : xv.toInt = v) (v0 : 1 ≤ v) :
    ∃ r, am_Run cst m_cl m_tt m_P strs sx_bi (D + 2) 126 [.ref 91, .long xv] h0 r ∧ (fun r : am_Q => ∃ w : Int32, r.1 = some (.int w) ∧ r.2.2.1 = 0 ∧ r.2.2.2 = 0 ∧ ly_hy m_tt ly_TH r.2.1 ∧ ly_fr cst [] h0 r.2.1 ∧ w.toInt = lkv ns vs v) r := by
  obtain ⟨M_9, hM_9, hl⟩ := hp_M (mi := 126) (k := 3) (by decide +kernel)
  obtain ⟨M', hM', hl'⟩ := hp_M (mi := 49) (k := 3) (by decide +kernel)
  have c : hp_C cst strs (D + 1) := cc _
  have v1_9 : v ≤ 9223372036854775807 := by rw [← ev]; exact xv.toInt_le
  have go_9 : hp_F cst strs (fun r : am_Q => ∃ w : Int32, r.1 = some (.int w) ∧ r.2.2.1 = 0 ∧ r.2.2.2 = 0 ∧ ly_hy m_tt ly_TH r.2.1 ∧ ly_fr cst [] h0 r.2.1 ∧ w.toInt = lkv ns vs v) (D + 1) M_9 0 (lv_args 0 [.ref 91, .long xv]) [] h0 := by
    refine vo0 c hM_9 (by omega) hy v v0 v1_9 rfl ⟨xv, rfl, ev⟩ (fun l1 h1 z0 e0_9 u1_9 u2_9 u3 m0_9 m1_9 => ?_)
    have R1 := rF_mv R u2_9 rfl rfl rfl
    have goF : hp_F cst strs (fun r : am_Q => ∃ w : Int32, r.1 = some (.int w) ∧ r.2.2.1 = 0 ∧ r.2.2.2 = 0 ∧ ly_hy m_tt ly_TH r.2.1 ∧ ly_fr cst [] h1 r.2.1 ∧ ((∃ (i_9 : Nat) (hi_9 : i_9 < ns.length), ns[i_9] = v ∧ (∀ j_9 (hj : j_9 < ns.length), j_9 < i_9 → ns[j_9] ≠ v) ∧ w.toInt = (i_9 : Int)) ∨ ((∀ j_9 (hj : j_9 < ns.length), ns[j_9] ≠ v) ∧ w.toInt = -1))) D M' 0 (lv_args 0 [.ref 91, .long z0]) [] h1 := vf0 (cc D) hM' (by omega) u1_9 v v0 v1_9 rfl ⟨z0, rfl, e0_9⟩ (fun l2 h2 w1_9 w2_9 w3_9 n0_9 n1_9 n3_9 => vf_lp (cc D) hM' hD v0 v1_9 R1 (ns.length + 1) h2 l2 0 (by omega) (by omega) w1_9 w2_9 (fun j_9 hj t_9 => absurd t_9 (Nat.not_lt_zero _)) n0_9 n1_9 n3_9)
    obtain ⟨n', r, hgo, w, r1_9, r2, r3, rhy, rfr, rres⟩ := goF
    simp only [Nat.zero_add] at r2 r3
    refine hp_call (mi := 126) (pc := 2) (tg := 49) (na := 2) (c := 75) (ci := 6) (st0 := [.long z0, .ref 91]) (st := []) (av := [.long z0]) hM_9 (by decide +kernel) u1_9 rfl rfl rfl (by decide) (Or.inr ⟨M', n', hM', hl', hgo⟩) r2 r3 ?_
    rw [r1_9]
    have F2 : ly_fr cst [] h0 r.2.1 := ly_fr_tr u2_9 rfr
    rcases rres with ⟨i_9, hi_9, e1_9, e2_9, ew⟩ | ⟨ne_9, ew⟩
    · have hv : i_9 < vs.length := by rw [R.2.2.2.1]; exact hi_9
      have kV := R.2.2.1 i_9 hv
      rw [Int.zero_add] at kV
      have kV := F2 _ _ _ rfl kV
      have bv_9 := R.2.2.2.2.2 vs[i_9] (List.getElem_mem hv)
      have n20 := R.2.2.2.2.1
      exact vo2 c hM_9 (by omega) rhy v (i_9 : Int) vs[i_9] w ew v0 v1_9 (by omega) (by omega) (by omega) (by omega) kV m0_9 m1_9 (fun h3 w3_9 hw3 y1 y2 y3 => ⟨w3_9, rfl, rfl, rfl, y1, ly_fr_tr F2 y2, by rw [hw3, lkv_at ns vs v i_9 hi_9 hv e1_9 e2_9]⟩)
    · exact vo1 c hM_9 (by omega) rhy v w ew v0 v1_9 m0_9 m1_9 (fun h3 w3_9 hw3 y1 y2 y3 => ⟨w3_9, rfl, rfl, rfl, y1, ly_fr_tr F2 y2, by rw [hw3, lkv_no ns vs v ne_9]⟩)
  obtain ⟨n', r, hgo, w, r1_9, r2, r3, r4⟩ := go_9
  simp only [Nat.zero_add] at r2 r3
  exact ⟨r, Or.inr ⟨M_9, n', hM_9, hl, hgo⟩, w, r1_9, r2, r3, r4⟩
/-- the items of the clause c -/
def cI (cst : am_K) (h : am_H) (c : Int) (E : List Int) : Prop := ∃ cl f : Int, ly_hv cst h 3588 0 = some cl ∧ 0 ≤ c ∧ c < cl ∧ cl ≤ 1240 ∧ ly_hv cst h 5632 c = some f ∧ ly_hv cst h 5632 (c + 1) = some (f + (E.length : Int)) ∧ 0 ≤ f ∧ f + (E.length : Int) ≤ 10240 ∧ fn_N cst h 5888 f E
theorem cI_mv {cst : am_K} {h h' : am_H} {c : Int} {E : List Int} {ms : List Nat} (I : cI cst h c E) (fr : ly_fr cst ms h h') (q1 : ly_has 3588 ms = false) (q2 : ly_has 5632 ms = false) (q3 : ly_has 5888 ms = false) : cI cst h' c E := by
  obtain ⟨cl_9, f_9, a1_9, a2, a3, a4, a5, a6, a7, a8, a9⟩ := I
  exact ⟨cl_9, f_9, fr _ _ _ q1 a1_9, a2, a3, a4, fr _ _ _ q2 a5, fr _ _ _ q2 a6, a7, a8, fn_mv a9 fr q3⟩
set_option maxRecDepth 8000 in
theorem fi_at : ∀ (C : List cl) (i : Int) (k : Nat) (hk : k ≤ C.length), (fi i C)[k]' (by rw [fi_len]; omega) = i + ((cit (C.take k)).length : Int)
  | [], i, k, hk => by
    have e : k = 0 := Nat.le_zero.mp hk
    subst e
    simp [fi, cit]
  | x :: C, i, 0, hk => by simp [fi, cit]
  | x :: C, i, k + 1, hk => by
    have ih := fi_at C (i + (x.2.2.2.length : Int)) k (Nat.le_of_succ_le_succ hk)
    simp only [fi, List.getElem_cons_succ]
    rw [ih]
    show i + (x.2.2.2.length : Int) + ((cit (C.take k)).length : Int) = i + ((x.2.2.2 ++ cit (C.take k)).length : Int)
    rw [List.length_append]
    omega
set_option maxRecDepth 8000 in
theorem cit_at : ∀ (C : List cl) (k : Nat) (hk : k < C.length) (q : Nat) (hq : q < (C[k]).2.2.2.length), (cit C)[(cit (C.take k)).length + q]? = some ((C[k]).2.2.2[q])
  | [], k, hk, _, _ => absurd hk (Nat.not_lt_zero _)
  | x :: C, 0, hk, q, hq => by
    show (x.2.2.2 ++ cit C)[0 + q]? = some (x.2.2.2[q])
    have hq : q < x.2.2.2.length := hq
    rw [Nat.zero_add, List.getElem?_append_left hq, List.getElem?_eq_getElem hq]
  | x :: C, k + 1, hk, q, hq => by
    show (x.2.2.2 ++ cit C)[(x.2.2.2 ++ cit (C.take k)).length + q]? = some ((C[k]' (Nat.lt_of_succ_lt_succ hk)).2.2.2[q])
    rw [List.length_append, Nat.add_assoc, List.getElem?_append_right (Nat.le_add_right _ _), Nat.add_sub_cancel_left]
    exact cit_at C k (Nat.lt_of_succ_lt_succ hk) q hq
set_option maxRecDepth 8000 in
theorem cit_ts : ∀ (C : List cl) (k : Nat) (hk : k < C.length), (cit (C.take (k + 1))).length = (cit (C.take k)).length + (C[k]).2.2.2.length
  | [], k, hk => absurd hk (Nat.not_lt_zero _)
  | x :: C, 0, hk => by
    show (x.2.2.2 ++ cit (C.take 0)).length = (cit []).length + x.2.2.2.length
    rw [show C.take 0 = [] from rfl, List.length_append]
    show x.2.2.2.length + (cit []).length = (cit []).length + x.2.2.2.length
    omega
  | x :: C, k + 1, hk => by
    show (x.2.2.2 ++ cit (C.take (k + 1))).length = (x.2.2.2 ++ cit (C.take k)).length + (C[k]' (Nat.lt_of_succ_lt_succ hk)).2.2.2.length
    rw [List.length_append, List.length_append, cit_ts C k (Nat.lt_of_succ_lt_succ hk)]
    omega
set_option maxRecDepth 8000 in
theorem cit_le : ∀ (C : List cl) (k : Nat), (cit (C.take k)).length ≤ (cit C).length
  | [], k => by cases k <;> exact Nat.le_refl _
  | x :: C, 0 => Nat.zero_le _
  | x :: C, k + 1 => by
    show (x.2.2.2 ++ cit (C.take k)).length ≤ (x.2.2.2 ++ cit C).length
    rw [List.length_append, List.length_append]
    have := cit_le C k
    omega
/-- the items of the clause j of the act a -/
theorem cI_of {cst : am_K} {h : am_H} {X : List rX} {i0 : List Int} (hy : ly_hy m_tt ly_TH h) (I : LC cst h X i0) (g12 : (fX X).length ≤ 1240) {a j : Nat} (ha : a < X.length) (hj : j < (X[a]).2.2.1.length) : cI cst h (((fX (X.take a)).length : Int) + (j : Int)) ((X[a]).2.2.1[j]).2.2.2 := by
  obtain ⟨⟨-, -, ⟨d1_9, -, -, -, d5_9, d6_9, -⟩, ⟨e1_9, -, e3_9⟩⟩, -⟩ := I
  rw [List.append_nil] at d5_9 e3_9
  have le_9 := fX_le X a ha
  have hk : (fX (X.take a)).length + j < (fX X).length := by omega
  have eG : (fX X)[(fX (X.take a)).length + j] = (X[a]).2.2.1[j] := by
    have z_9 := fX_at X a ha j hj
    rw [List.getElem?_eq_getElem hk] at z_9
    exact Option.some.inj z_9
  have z1 := d5_9 ((fX (X.take a)).length + j) (by rw [fi_len]; omega)
  have z2 := d5_9 ((fX (X.take a)).length + j + 1) (by rw [fi_len]; omega)
  rw [fi_at (fX X) 0 _ (by omega), Int.zero_add, Int.zero_add] at z1
  rw [fi_at (fX X) 0 _ (by omega), cit_ts (fX X) _ hk, eG, Int.zero_add, Int.zero_add] at z2
  have le2 := cit_le (fX X) ((fX (X.take a)).length + j + 1)
  rw [cit_ts (fX X) _ hk, eG] at le2
  have bi : ((i0.length : Int) + (([] : List Int).length : Int)) ≤ 10240 := by
    have ht : ∃ fs, ly_ths ly_TH 14 = some (.inr (3, fs)) ∧ sx_ch 8 10 fs = some (.inl (0, 10240)) := ⟨_, rfl, rfl⟩
    obtain ⟨fs, h1, h2⟩ := ht
    obtain ⟨v_9, kv, v0_9, v1_9⟩ := fld_b (cst := cst) hy h1 h2 (by decide)
    have kv : ly_hv cst h 3594 0 = some v_9 := kv
    have ev_9 := Option.some.inj (e1_9.symm.trans kv)
    omega
  rw [d6_9] at bi
  have bi : ((cit (fX X)).length : Int) + 0 ≤ 10240 := bi
  refine ⟨((fX X).length : Int), ((cit ((fX X).take ((fX (X.take a)).length + j))).length : Int), ?_, by omega, by omega, by omega, ?_, ?_, by omega, by omega, fun q_9 hq => ?_⟩
  · have z_9 : ((fX X).length : Int) + (([] : List cl).length : Int) = ((fX X).length : Int) := Int.add_zero _
    rw [z_9] at d1_9
    exact d1_9
  · rw [Int.natCast_add] at z1
    exact z1
  · rw [Int.natCast_add, Int.natCast_add] at z2
    exact z2
  · have z_9 := cit_at (fX X) _ hk q_9 (by rw [eG]; exact hq)
    have hq2 : (cit ((fX X).take ((fX (X.take a)).length + j))).length + q_9 < i0.length := by
      rw [d6_9]
      omega
    have y_9 := e3_9 _ hq2
    have ei : i0[(cit ((fX X).take ((fX (X.take a)).length + j))).length + q_9]' hq2 = ((X[a]).2.2.1[j]).2.2.2[q_9] := by
      have z3 : i0[(cit ((fX X).take ((fX (X.take a)).length + j))).length + q_9]? = some (((fX X)[(fX (X.take a)).length + j]).2.2.2[q_9]' (by rw [eG]; exact hq)) := by
        rw [d6_9]
        exact z_9
      rw [List.getElem?_eq_getElem hq2] at z3
      have z4 := Option.some.inj z3
      rw [z4]
      congr 1
      rw [eG]
    rw [ei, Int.zero_add, Int.natCast_add] at y_9
    exact y_9
set_option maxRecDepth 8000 in
theorem tm_lp {cst : am_K} {strs : List Nat} {D : Nat} {M : am_M} {h0 : am_H} (cc : ∀ d, hp_C cst strs d) (hM : m_P[123]? = some M) (hD : 1 ≤ D) {ns vs : List Int} (R : rF cst h0 ns vs) {c cl f g : Int} {N : Nat} (k1 : ly_hv cst h0 3588 0 = some cl) (c0 : 0 ≤ c) (c1 : c < cl) (c2 : cl ≤ 1240) (k2 : ly_hv cst h0 5632 c = some f) (k3 : ly_hv cst h0 5632 (c + 1) = some g) (f0 : 0 ≤ f) (eg : g = f + (N : Int)) (g1 : g ≤ 10240) {P : List Bool} : ∀ (E : List Int) (h : am_H) (l : am_L) (i : Nat) (ps : List Bool) (ah su re : Int) (b : Int32), i + E.length = N → (∀ k (hk : k < E.length), ly_hv cst h0 5888 (f + ((i + k : Nat) : Int)) = some (E[k])) → (∀ x ∈ E, x ≠ -20000) → (mq ns vs E (ps, ah, su, re)).1 = P → ly_hy m_tt ly_TH h → ly_fr cst [] h0 h → mbs ps b → ps.length + cnt4 E ≤ 31 → (-20000 * (i : Int) ≤ ah ∧ ah ≤ 20000 * (i : Int)) → (-20000 * (i : Int) ≤ su ∧ su ≤ 20000 * (i : Int)) → (-20004 ≤ re ∧ re ≤ -20001) → hp_a l 0 30 → hp_i l 1 c → hp_a l 2 91 → hp_i l 3 b.toInt → hp_i l 4 (ps.length : Int) → hp_i l 5 ah → hp_i l 6 su → hp_j l 7 re → hp_i l 9 (i : Int) → hp_F cst strs (fun r : am_Q => ∃ w : Int32, r.1 = some (.int w) ∧ r.2.2.1 = 0 ∧ r.2.2.2 = 0 ∧ ly_hy m_tt ly_TH r.2.1 ∧ ly_fr cst [] h0 r.2.1 ∧ mbs P w) (D + 2) M 19 l [] h := by
  have c' : hp_C cst strs (D + 2) := cc _
  intro E
  induction E with
  | nil =>
    intro h l i ps ah su re b eN_9 row_9 nz eP hy fr_9 B_9 len_9 ba_9 bs br l0 l1 l2 l3 l4 l5 l6 l7 l9
    have eN_9 : i = N := eN_9
    subst eN_9
    have eP : ps = P := eP
    subst eP
    rw [show (i : Int) = g - f by omega] at l9
    have lb : ps.length ≤ 31 := by
      have : cnt4 [] = 0 := rfl
      omega
    exact tmE c' hM (by omega) hy c b.toInt (ps.length : Int) ah su re cl f g c0 (by omega) b.le_toInt b.toInt_le (by omega) (by omega) (by omega) (by omega) (by omega) (by omega) br.1 br.2 (by omega) c2 f0 (by omega) (by omega) g1 (by omega) (by omega) (fr_9 _ _ _ rfl k1) (fr_9 _ _ _ rfl k2) (fr_9 _ _ _ rfl k3) l0 l1 l2 l3 l4 l5 l6 l7 l9 (fun h2 w hw u1_9 u2_9 u3 => ⟨w, rfl, rfl, rfl, u1_9, ly_fr_tr fr_9 u2_9, by rw [Int32.toInt_inj.mp hw]; exact B_9⟩)
  | cons x E ih_9 =>
    intro h l i ps ah su re b eN_9 row_9 nz eP hy fr_9 B_9 len_9 ba_9 bs br l0 l1 l2 l3 l4 l5 l6 l7 l9
    have eN_9 : i + (E.length + 1) = N := eN_9
    have kx : ly_hv cst h 5888 (f + (i : Int)) = some x := by
      have z_9 := row_9 0 (Nat.zero_lt_succ _)
      rw [Nat.add_zero] at z_9
      exact fr_9 _ _ _ rfl z_9
    have row' : ∀ k (hk : k < E.length), ly_hv cst h0 5888 (f + ((i + 1 + k : Nat) : Int)) = some (E[k]) := fun k hk => by
      have z_9 := row_9 (k + 1) (Nat.succ_lt_succ hk)
      rw [show i + (k + 1) = i + 1 + k by omega] at z_9
      exact z_9
    have nx := nz x List.mem_cons_self
    have nz' : ∀ y_9 ∈ E, y_9 ≠ -20000 := fun y_9 hy => nz y_9 (List.mem_cons_of_mem _ hy)
    have len_9 : ps.length + ((if x = -20004 then 1 else 0) + cnt4 E) ≤ 31 := len_9
    have eP : (mq ns vs E (mq1 ns vs (ps, ah, su, re) x)).1 = P := eP
    have ni : (((i + 1 : Nat)) : Int) = (i : Int) + 1 := by omega
    obtain ⟨w, kw', w0_9, w1_9⟩ := hp_rowj (cst := cst) (i := f + (i : Int)) hy (show ly_ths ly_TH 23 = some (.inl (.long, 10240, 0, 0)) from rfl) (by omega) (by omega)
    have kw' : ly_hv cst h 5888 (f + (i : Int)) = some w := kw'
    have ew := Option.some.inj (kx.symm.trans kw')
    have w0_9 : -9223372036854775808 ≤ w := w0_9
    have w1_9 : w ≤ 9223372036854775807 := w1_9
    have q1_9 := fr_9 _ _ _ rfl k1
    have q2_9 := fr_9 _ _ _ rfl k2
    have q3_9 := fr_9 _ _ _ rfl k3
    have lb : ps.length ≤ 31 := by omega
    by_cases z1 : 0 < x
    · have e1_9 : mq1 ns vs (ps, ah, su, re) x = (ps, ah, su + lkv ns vs x, re) := if_pos z1
      rw [e1_9] at eP
      have bl := lkv_b ns vs x R.2.2.2.2.2
      refine tmW c' hM (by omega) hy c b.toInt (ps.length : Int) ah su re (i : Int) cl f g x c0 (by omega) b.le_toInt b.toInt_le (by omega) (by omega) (by omega) (by omega) (by omega) (by omega) br.1 br.2 (by omega) (by omega) (by omega) c2 f0 (by omega) (by omega) g1 (by omega) (by omega) (by omega) (by omega) q1_9 q2_9 q3_9 kx l0 l1 l2 l3 l4 l5 l6 l7 l9 (fun l3' h3 z0 z1' e0_9 e1' u1_9 u2_9 u3 m0_9 m1_9 m2_9 m3_9 m4_9 m5_9 m6_9 m7_9 m9_9 => ?_)
      have F3 : ly_fr cst [] h0 h3 := ly_fr_tr fr_9 u2_9
      obtain ⟨r, hrun, w2_9, r1_9, r2, r3, rhy, rfr, ew2⟩ := vo_run (D := D) cc hD u1_9 (rF_mv R F3 rfl rfl rfl) (xv := z0) e0_9 (by omega)
      refine hp_call (mi := 123) (pc := 50) (tg := 126) (na := 2) (c := 75) (ci := 6) (st0 := [.long z0, .ref 91]) (st := [.int z1']) (av := [.long z0]) hM (by decide +kernel) u1_9 rfl rfl rfl (Nat.le_of_ble_eq_true rfl) hrun r2 r3 ?_
      rw [r1_9]
      refine tmV c' hM (by omega) rhy c b.toInt (ps.length : Int) ah su re (i : Int) (lkv ns vs x) w2_9 z1' ew2 e1' c0 (by omega) b.le_toInt b.toInt_le (by omega) (by omega) (by omega) (by omega) (by omega) (by omega) br.1 br.2 (by omega) (by omega) bl.1 (by omega) m0_9 m1_9 m2_9 m3_9 m4_9 m5_9 m6_9 m7_9 m9_9 (fun l4' h4 v1_9 v2 v3 o0_9 o1 o2 o3_9 o4_9 o5_9 o6 o7 o9 => ?_)
      exact ih_9 h4 l4' (i + 1) ps ah (su + lkv ns vs x) re b (by omega) row' nz' eP v1_9 (ly_fr_tr F3 (ly_fr_tr rfr v2)) B_9 (by omega) (by omega) (by omega) br o0_9 o1 o2 o3_9 o4_9 o5_9 o6 o7 (by rw [ni]; exact o9)
    by_cases z2 : -20000 < x
    · have e1_9 : mq1 ns vs (ps, ah, su, re) x = (ps, ah, su + (-1 - x), re) := by
        unfold mq1
        rw [if_neg z1, if_pos z2]
      rw [e1_9] at eP
      exact tmN c' hM (by omega) hy c b.toInt (ps.length : Int) ah su re (i : Int) cl f g x c0 (by omega) b.le_toInt b.toInt_le (by omega) (by omega) (by omega) (by omega) (by omega) (by omega) br.1 br.2 (by omega) (by omega) (by omega) c2 f0 (by omega) (by omega) g1 (by omega) (by omega) (by omega) (by omega) q1_9 q2_9 q3_9 kx l0 l1 l2 l3 l4 l5 l6 l7 l9 (fun l4' h4 v1_9 v2 v3 o0_9 o1 o2 o3_9 o4_9 o5_9 o6 o7 o9 => ih_9 h4 l4' (i + 1) ps ah (su + (-1 - x)) re b (by omega) row' nz' eP v1_9 (ly_fr_tr fr_9 v2) B_9 (by omega) (by omega) (by omega) br o0_9 o1 o2 o3_9 o4_9 o5_9 (by rw [show su + (-1 - x) = su - x - 1 by omega]; exact o6) o7 (by rw [ni]; exact o9))
    by_cases z3 : -20003 ≤ x
    · have e1_9 : mq1 ns vs (ps, ah, su, re) x = (ps, su, 0, x) := by
        unfold mq1
        rw [if_neg z1, if_neg z2, if_pos z3]
      rw [e1_9] at eP
      exact tmR c' hM (by omega) hy c b.toInt (ps.length : Int) ah su re (i : Int) cl f g x c0 (by omega) b.le_toInt b.toInt_le (by omega) (by omega) (by omega) (by omega) (by omega) (by omega) br.1 br.2 (by omega) (by omega) (by omega) c2 f0 (by omega) (by omega) g1 (by omega) (by omega) (by omega) (by omega) q1_9 q2_9 q3_9 kx l0 l1 l2 l3 l4 l5 l6 l7 l9 (fun l4' h4 v1_9 v2 v3 o0_9 o1 o2 o3_9 o4_9 o5_9 o6 o7 o9 => ih_9 h4 l4' (i + 1) ps su 0 x b (by omega) row' nz' eP v1_9 (ly_fr_tr fr_9 v2) B_9 (by omega) (by omega) (by omega) (by omega) o0_9 o1 o2 o3_9 o4_9 o5_9 o6 o7 (by rw [ni]; exact o9))
    by_cases z4 : x = -20004
    rotate_left
    · have e1_9 : mq1 ns vs (ps, ah, su, re) x = (ps, ah, su, re) := by
        unfold mq1
        rw [if_neg z1, if_neg z2, if_neg z3, if_neg z4]
      rw [e1_9] at eP
      exact tmJ c' hM (by omega) hy c b.toInt (ps.length : Int) ah su re (i : Int) cl f g x c0 (by omega) b.le_toInt b.toInt_le (by omega) (by omega) (by omega) (by omega) (by omega) (by omega) br.1 br.2 (by omega) (by omega) (by omega) c2 f0 (by omega) (by omega) g1 (by omega) (by omega) (by omega) (by omega) q1_9 q2_9 q3_9 kx l0 l1 l2 l3 l4 l5 l6 l7 l9 (fun l4' h4 v1_9 v2 v3 o0_9 o1 o2 o3_9 o4_9 o5_9 o6 o7 o9 => ih_9 h4 l4' (i + 1) ps ah su re b (by omega) row' nz' eP v1_9 (ly_fr_tr fr_9 v2) B_9 (by omega) (by omega) (by omega) br o0_9 o1 o2 o3_9 o4_9 o5_9 o6 o7 (by rw [ni]; exact o9))
    have e1_9 : mq1 ns vs (ps, ah, su, re) x = (ps ++ [hld re ah su], ah, 0, -20004) := by
      unfold mq1
      rw [if_neg z1, if_neg z2, if_neg z3, if_pos z4]
    rw [e1_9] at eP
    rw [if_pos z4] at len_9
    rw [z4] at kx
    have nl : ((ps.length : Int) + 1) = ((ps ++ [hld re ah su]).length : Int) := by
      rw [List.length_append, List.length_singleton]
      omega
    -- behind the bit
    have fin_9 : ∀ (l3' : am_L) (h3 : am_H) (d : Int32), mbs (ps ++ [hld re ah su]) d → ly_hy m_tt ly_TH h3 → ly_fr cst [] h0 h3 → hp_a l3' 0 30 → hp_i l3' 1 c → hp_a l3' 2 91 → hp_i l3' 3 b.toInt → hp_i l3' 4 (ps.length : Int) → hp_i l3' 5 ah → hp_i l3' 6 su → hp_j l3' 7 re → hp_i l3' 9 (i : Int) → hp_F cst strs (fun r : am_Q => ∃ w : Int32, r.1 = some (.int w) ∧ r.2.2.1 = 0 ∧ r.2.2.2 = 0 ∧ ly_hy m_tt ly_TH r.2.1 ∧ ly_fr cst [] h0 r.2.1 ∧ mbs P w) (D + 2) M 137 l3' [.int d] h3 := fun l3' h3 d Bd_9 u1_9 u2_9 m0_9 m1_9 m2_9 m3_9 m4_9 m5_9 m6_9 m7_9 m9_9 => tmH c' hM (by omega) u1_9 c b.toInt (ps.length : Int) ah su re (i : Int) d.toInt d rfl c0 (by omega) b.le_toInt b.toInt_le (by omega) (by omega) (by omega) (by omega) (by omega) (by omega) br.1 br.2 (by omega) (by omega) d.le_toInt d.toInt_le m0_9 m1_9 m2_9 m3_9 m4_9 m5_9 m6_9 m7_9 m9_9 (fun l4' h4 v1_9 v2 v3 o0_9 o1 o2 o3_9 o4_9 o5_9 o6 o7 o9 => ih_9 h4 l4' (i + 1) (ps ++ [hld re ah su]) ah 0 (-20004) d (by omega) row' nz' eP v1_9 (ly_fr_tr u2_9 v2) Bd_9 (by omega) (by omega) (by omega) (by omega) o0_9 o1 o2 o3_9 (by rw [← nl]; exact o4_9) o5_9 o6 o7 (by rw [ni]; exact o9))
    have yes_9 : hld re ah su = true → ∀ (l3' : am_L) (h3 : am_H) (z0 z1 z2 : Int32), z0.toInt = (ps.length : Int) → z1.toInt = 1 → z2.toInt = b.toInt → ly_hy m_tt ly_TH h3 → ly_fr cst [] h h3 → h.length ≤ h3.length → hp_a l3' 0 30 → hp_i l3' 1 c → hp_a l3' 2 91 → hp_i l3' 3 b.toInt → hp_i l3' 4 (ps.length : Int) → hp_i l3' 5 ah → hp_i l3' 6 su → hp_j l3' 7 re → hp_i l3' 9 (i : Int) → hp_F cst strs (fun r : am_Q => ∃ w : Int32, r.1 = some (.int w) ∧ r.2.2.1 = 0 ∧ r.2.2.2 = 0 ∧ ly_hy m_tt ly_TH r.2.1 ∧ ly_fr cst [] h0 r.2.1 ∧ mbs P w) (D + 2) M 131 l3' [.int z0, .int z1, .int z2] h3 := by
      intro eh l3' h3 z0 z1 z2 f0' f1' f2' u1_9 u2_9 u3 m0_9 m1_9 m2_9 m3_9 m4_9 m5_9 m6_9 m7_9 m9_9
      refine btq_ishl hM (by decide +kernel) ?_
      refine tmG c' hM (by omega) u1_9 c b.toInt (ps.length : Int) ah su re (i : Int) (z1 <<< (z0 &&& 31)).toInt (z1 <<< (z0 &&& 31)) z2 rfl f2' c0 (by omega) b.le_toInt b.toInt_le (by omega) (by omega) (by omega) (by omega) (by omega) (by omega) br.1 br.2 (by omega) (by omega) (Int32.le_toInt _) (Int32.toInt_le _) m0_9 m1_9 m2_9 m3_9 m4_9 m5_9 m6_9 m7_9 m9_9 (fun l4' h4 y0 y1 g0' g1' v1_9 v2 v3 o0_9 o1 o2 o3_9 o4_9 o5_9 o6 o7 o9 => ?_)
      refine btq_ior hM (by decide +kernel) ?_
      have ey : y1 ||| y0 = b ||| ((1 : Int32) <<< (z0 &&& 31)) := by
        rw [Int32.toInt_inj.mp g0', Int32.toInt_inj.mp g1', Int32.toInt_inj.mp (show z1.toInt = (1 : Int32).toInt from f1')]
      rw [ey]
      exact fin_9 l4' h4 _ (by rw [eh]; exact mbs_t B_9 f0' (by omega)) v1_9 (ly_fr_tr fr_9 (ly_fr_tr u2_9 v2)) o0_9 o1 o2 o3_9 o4_9 o5_9 o6 o7 o9
    have no_9 : hld re ah su = false → ∀ (l3' : am_L) (h3 : am_H) (z0 z1 : Int32), z0.toInt = 0 → z1.toInt = b.toInt → ly_hy m_tt ly_TH h3 → ly_fr cst [] h h3 → h.length ≤ h3.length → hp_a l3' 0 30 → hp_i l3' 1 c → hp_a l3' 2 91 → hp_i l3' 3 b.toInt → hp_i l3' 4 (ps.length : Int) → hp_i l3' 5 ah → hp_i l3' 6 su → hp_j l3' 7 re → hp_i l3' 9 (i : Int) → hp_F cst strs (fun r : am_Q => ∃ w : Int32, r.1 = some (.int w) ∧ r.2.2.1 = 0 ∧ r.2.2.2 = 0 ∧ ly_hy m_tt ly_TH r.2.1 ∧ ly_fr cst [] h0 r.2.1 ∧ mbs P w) (D + 2) M 136 l3' [.int z0, .int z1] h3 := by
      intro eh l3' h3 z0 z1 f0' f1' u1_9 u2_9 u3 m0_9 m1_9 m2_9 m3_9 m4_9 m5_9 m6_9 m7_9 m9_9
      refine btq_ior hM (by decide +kernel) ?_
      have ey : z1 ||| z0 = b := by
        rw [Int32.toInt_inj.mp f1', Int32.toInt_inj.mp (show z0.toInt = (0 : Int32).toInt from f0')]
        exact btq_ext (fun i hi_9 => by rw [btq_bor, btq_0, Bool.or_false])
      rw [ey]
      exact fin_9 l3' h3 _ (by rw [eh]; exact mbs_f B_9) u1_9 (ly_fr_tr fr_9 u2_9) m0_9 m1_9 m2_9 m3_9 m4_9 m5_9 m6_9 m7_9 m9_9
    by_cases r1_9 : re = -20001
    · rw [r1_9] at l7
      have hd_9 : hld re ah su = decide (su < ah) := by rw [r1_9]; unfold hld; rw [if_pos rfl]
      have eb : ∀ (l9 : am_L), hp_j l9 7 (-20001) → hp_j l9 7 re := fun l9 q_9 => by rw [r1_9]; exact q_9
      by_cases s_9 : su < ah
      · exact tm1y c' hM (by omega) hy c b.toInt (ps.length : Int) ah su (i : Int) cl f g c0 (by omega) b.le_toInt b.toInt_le (by omega) (by omega) (by omega) (by omega) (by omega) (by omega) (by omega) (by omega) (by omega) c2 f0 (by omega) (by omega) g1 (by omega) (by omega) (by omega) q1_9 q2_9 q3_9 kx l0 l1 l2 l3 l4 l5 l6 l7 l9 (fun l3' h3 z0 z1 z2 e0_9 e1_9 e2_9 u1_9 u2_9 u3 m0_9 m1_9 m2_9 m3_9 m4_9 m5_9 m6_9 m7_9 m9_9 => yes_9 (by rw [hd_9]; exact decide_eq_true s_9) l3' h3 z0 z1 z2 e0_9 e1_9 e2_9 u1_9 u2_9 u3 m0_9 m1_9 m2_9 m3_9 m4_9 m5_9 m6_9 (eb _ m7_9) m9_9)
      · exact tm1n c' hM (by omega) hy c b.toInt (ps.length : Int) ah su (i : Int) cl f g c0 (by omega) b.le_toInt b.toInt_le (by omega) (by omega) (by omega) (by omega) (by omega) (by omega) (by omega) (by omega) (by omega) c2 f0 (by omega) (by omega) g1 (by omega) (by omega) (by omega) q1_9 q2_9 q3_9 kx l0 l1 l2 l3 l4 l5 l6 l7 l9 (fun l3' h3 z0 z1 e0_9 e1_9 u1_9 u2_9 u3 m0_9 m1_9 m2_9 m3_9 m4_9 m5_9 m6_9 m7_9 m9_9 => no_9 (by rw [hd_9]; exact decide_eq_false s_9) l3' h3 z0 z1 e0_9 e1_9 u1_9 u2_9 u3 m0_9 m1_9 m2_9 m3_9 m4_9 m5_9 m6_9 (eb _ m7_9) m9_9)
    by_cases r2 : re = -20002
    · rw [r2] at l7
      have hd_9 : hld re ah su = decide (ah < su) := by rw [r2]; unfold hld; rw [if_neg (by decide), if_pos rfl]
      have eb : ∀ (l9 : am_L), hp_j l9 7 (-20002) → hp_j l9 7 re := fun l9 q_9 => by rw [r2]; exact q_9
      by_cases s_9 : ah < su
      · exact tm2y c' hM (by omega) hy c b.toInt (ps.length : Int) ah su (i : Int) cl f g c0 (by omega) b.le_toInt b.toInt_le (by omega) (by omega) (by omega) (by omega) (by omega) (by omega) (by omega) (by omega) (by omega) c2 f0 (by omega) (by omega) g1 (by omega) (by omega) (by omega) q1_9 q2_9 q3_9 kx l0 l1 l2 l3 l4 l5 l6 l7 l9 (fun l3' h3 z0 z1 z2 e0_9 e1_9 e2_9 u1_9 u2_9 u3 m0_9 m1_9 m2_9 m3_9 m4_9 m5_9 m6_9 m7_9 m9_9 => yes_9 (by rw [hd_9]; exact decide_eq_true s_9) l3' h3 z0 z1 z2 e0_9 e1_9 e2_9 u1_9 u2_9 u3 m0_9 m1_9 m2_9 m3_9 m4_9 m5_9 m6_9 (eb _ m7_9) m9_9)
      · exact tm2n c' hM (by omega) hy c b.toInt (ps.length : Int) ah su (i : Int) cl f g c0 (by omega) b.le_toInt b.toInt_le (by omega) (by omega) (by omega) (by omega) (by omega) (by omega) (by omega) (by omega) (by omega) c2 f0 (by omega) (by omega) g1 (by omega) (by omega) (by omega) q1_9 q2_9 q3_9 kx l0 l1 l2 l3 l4 l5 l6 l7 l9 (fun l3' h3 z0 z1 e0_9 e1_9 u1_9 u2_9 u3 m0_9 m1_9 m2_9 m3_9 m4_9 m5_9 m6_9 m7_9 m9_9 => no_9 (by rw [hd_9]; exact decide_eq_false s_9) l3' h3 z0 z1 e0_9 e1_9 u1_9 u2_9 u3 m0_9 m1_9 m2_9 m3_9 m4_9 m5_9 m6_9 (eb _ m7_9) m9_9)
    by_cases r3 : re = -20003
    · rw [r3] at l7
      have hd_9 : hld re ah su = decide (ah = su) := by rw [r3]; unfold hld; rw [if_neg (by decide), if_neg (by decide), if_pos rfl]
      have eb : ∀ (l9 : am_L), hp_j l9 7 (-20003) → hp_j l9 7 re := fun l9 q_9 => by rw [r3]; exact q_9
      by_cases s_9 : ah = su
      · rw [s_9] at l5
        exact tm3y c' hM (by omega) hy c b.toInt (ps.length : Int) ah su (i : Int) cl f g c0 (by omega) b.le_toInt b.toInt_le (by omega) (by omega) (by omega) (by omega) (by omega) (by omega) (by omega) (by omega) (by omega) c2 f0 (by omega) (by omega) g1 (by omega) (by omega) q1_9 q2_9 q3_9 kx l0 l1 l2 l3 l4 l5 l6 l7 l9 (fun l3' h3 z0 z1 z2 e0_9 e1_9 e2_9 u1_9 u2_9 u3 m0_9 m1_9 m2_9 m3_9 m4_9 m5_9 m6_9 m7_9 m9_9 => yes_9 (by rw [hd_9]; exact decide_eq_true s_9) l3' h3 z0 z1 z2 e0_9 e1_9 e2_9 u1_9 u2_9 u3 m0_9 m1_9 m2_9 m3_9 m4_9 (by rw [s_9]; exact m5_9) m6_9 (eb _ m7_9) m9_9)
      · exact tm3n c' hM (by omega) hy c b.toInt (ps.length : Int) ah su (i : Int) cl f g c0 (by omega) b.le_toInt b.toInt_le (by omega) (by omega) (by omega) (by omega) (by omega) (by omega) (by omega) (by omega) (by omega) c2 f0 (by omega) (by omega) g1 (by omega) (by omega) q1_9 q2_9 q3_9 kx (hp_ne (by omega)) l0 l1 l2 l3 l4 l5 l6 l7 l9 (fun l3' h3 z0 z1 e0_9 e1_9 u1_9 u2_9 u3 m0_9 m1_9 m2_9 m3_9 m4_9 m5_9 m6_9 m7_9 m9_9 => no_9 (by rw [hd_9]; exact decide_eq_false s_9) l3' h3 z0 z1 e0_9 e1_9 u1_9 u2_9 u3 m0_9 m1_9 m2_9 m3_9 m4_9 m5_9 m6_9 (eb _ m7_9) m9_9)
    by_cases r4 : re = -20004
    · rw [r4] at l7
      have hd_9 : hld re ah su = decide (0 < su) := by rw [r4]; unfold hld; rw [if_neg (by decide), if_neg (by decide), if_neg (by decide)]
      have eb : ∀ (l9 : am_L), hp_j l9 7 (-20004) → hp_j l9 7 re := fun l9 q_9 => by rw [r4]; exact q_9
      by_cases s_9 : 0 < su
      · exact tm4y c' hM (by omega) hy c b.toInt (ps.length : Int) ah su (i : Int) cl f g c0 (by omega) b.le_toInt b.toInt_le (by omega) (by omega) (by omega) (by omega) (by omega) (by omega) (by omega) (by omega) (by omega) c2 f0 (by omega) (by omega) g1 (by omega) (by omega) q1_9 q2_9 q3_9 kx l0 l1 l2 l3 l4 l5 l6 l7 l9 (fun l3' h3 z0 z1 z2 e0_9 e1_9 e2_9 u1_9 u2_9 u3 m0_9 m1_9 m2_9 m3_9 m4_9 m5_9 m6_9 m7_9 m9_9 => yes_9 (by rw [hd_9]; exact decide_eq_true s_9) l3' h3 z0 z1 z2 e0_9 e1_9 e2_9 u1_9 u2_9 u3 m0_9 m1_9 m2_9 m3_9 m4_9 m5_9 m6_9 (eb _ m7_9) m9_9)
      · exact tm4n c' hM (by omega) hy c b.toInt (ps.length : Int) ah su (i : Int) cl f g c0 (by omega) b.le_toInt b.toInt_le (by omega) (by omega) (by omega) (by omega) (by omega) (by omega) (by omega) (by omega) (by omega) c2 f0 (by omega) (by omega) g1 (by omega) (by omega) q1_9 q2_9 q3_9 kx l0 l1 l2 l3 l4 l5 l6 l7 l9 (fun l3' h3 z0 z1 e0_9 e1_9 u1_9 u2_9 u3 m0_9 m1_9 m2_9 m3_9 m4_9 m5_9 m6_9 m7_9 m9_9 => no_9 (by rw [hd_9]; exact decide_eq_false s_9) l3' h3 z0 z1 e0_9 e1_9 u1_9 u2_9 u3 m0_9 m1_9 m2_9 m3_9 m4_9 m5_9 m6_9 (eb _ m7_9) m9_9)
    omega
/-- testsMet over facts -/
theorem tm_run {cst : am_K} {strs : List Nat} {D : Nat} {h0 : am_H} (cc : ∀ d, hp_C cst strs d) (hD : 1 ≤ D) (hy : ly_hy m_tt ly_TH h0) {ns vs : List Int} (R : rF cst h0 ns vs) {c : Int} {E : List Int} (I : cI cst h0 c E) (nz : ∀ x ∈ E, x ≠ -20000) (ct : cnt4 E ≤ 31) {P : List Bool} (eP : (mq ns vs E ([], 0, 0, -20004)).1 = P) {xc : Int32} (ec : xc.toInt = c) :
    ∃ r, am_Run cst m_cl m_tt m_P strs sx_bi (D + 3) 123 [.ref 30, .int xc, .ref 91] h0 r ∧ (fun r : am_Q => ∃ w : Int32, r.1 = some (.int w) ∧ r.2.2.1 = 0 ∧ r.2.2.2 = 0 ∧ ly_hy m_tt ly_TH r.2.1 ∧ ly_fr cst [] h0 r.2.1 ∧ mbs P w) r := by
  obtain ⟨M_9, hM_9, hl⟩ := hp_M (mi := 123) (k := 3) (by decide +kernel)
  have c' : hp_C cst strs (D + 2) := cc _
  obtain ⟨cl_9, f_9, a1_9, a2, a3, a4, a5, a6, a7, a8, a9⟩ := I
  have go_9 : hp_F cst strs (fun r : am_Q => ∃ w : Int32, r.1 = some (.int w) ∧ r.2.2.1 = 0 ∧ r.2.2.2 = 0 ∧ ly_hy m_tt ly_TH r.2.1 ∧ ly_fr cst [] h0 r.2.1 ∧ mbs P w) (D + 2) M_9 0 (lv_args 0 [.ref 30, .int xc, .ref 91]) [] h0 := tm0 c' hM_9 (by omega) hy c a2 (by omega) rfl ⟨xc, rfl, ec⟩ rfl (fun l1 h1 u1_9 u2_9 u3 m0_9 m1_9 m2_9 m3_9 m4_9 m5_9 m6_9 m7_9 m9_9 => tm_lp cc hM_9 hD R (N := E.length) a1_9 a2 a3 a4 a5 a6 a7 rfl a8 E h1 l1 0 [] 0 0 (-20004) 0 (by omega) (fun k hk => by rw [Nat.zero_add]; exact a9 k hk) nz eP u1_9 u2_9 mbs_0 (by show 0 + cnt4 E ≤ 31; omega) (by omega) (by omega) (by omega) m0_9 m1_9 m2_9 m3_9 m4_9 m5_9 m6_9 m7_9 m9_9)
  obtain ⟨n', r, hgo, w, r1_9, r2, r3, r4⟩ := go_9
  simp only [Nat.zero_add] at r2 r3
  exact ⟨r, Or.inr ⟨M_9, n', hM_9, hl, hgo⟩, w, r1_9, r2, r3, r4⟩
