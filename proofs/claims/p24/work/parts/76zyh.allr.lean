/-! PRINTED by wip/p2/hp_allr.py: keepFacts, allege of the reference, exactly -/
theorem kf0_k : hp_chk 341 0 2 [(0, 0, 99), (1, 0, 20)] [] [(0, .inr (.inr (.inl (some 94)))), (1, .inl (0, [(0, 2)]))] [] [(27904, (200, []), (0, [(1, 1)]))] [] 2 [(13, ([], 2, [(0, 0, 99), (1, 0, 20)], [], [(0, .inr (.inr (.inl (some 94)))), (1, .inl (0, [(0, 2)]))], [.inl (0, [(1, 1)]), .inl (0, [(0, 2)]), .inr (.inr (.inl (some 125)))], []))] [] = true := by decide +kernel
theorem kf0 {cst : am_K} {strs : List Nat} {Φ : am_Q → Prop} {D : Nat} {M : am_M} {h : am_H} {l : am_L} (c : hp_C cst strs D) (hM : m_P[341]? = some M) (hD : (2 : Int) ≤ (D : Int) + 1) (hy : ly_hy m_tt ly_TH h) (m z : Int) (b0 : 0 ≤ m) (t0 : m ≤ 99) (b1 : 0 ≤ z) (t1 : z ≤ 20) (k0 : ly_hv cst h 27904 200 = some (z)) (l0 : hp_a l 0 94) (l1 : hp_i l 1 (2 * m)) (e0 : ∀ (l' : am_L) (h_9' : am_H) (y0 : Int32) (y1 : Int32), y0.toInt = (z) → y1.toInt = (2 * m) → ly_hy m_tt ly_TH h_9' → ly_fr cst [] h h_9' → h.length ≤ h_9'.length → hp_a l' 0 94 → hp_i l' 1 (2 * m) → hp_F cst strs Φ D M 13 l' [.int y0, .int y1, .ref 125] h_9') : hp_F cst strs Φ D M 0 l [] h := by
  refine hp_arc c hM kf0_k hD [m, z] rfl hy (hp_Bc (z := m) rfl b0 t0 (hp_Bc (z := z) rfl b1 t1 hp_Bn)) hp_Fn (hp_Kc (zi := (200 + 0)) (zv := (0 + (1 * z + 0))) k0 rfl rfl (by omega) (by omega) hp_Kn) (hp_La l0 (hp_Li (z := (0 + (2 * m + 0))) l1 rfl (by omega) hp_Ln)) trivial ?_ ?_
  · intro p_9 hp ys l' st_9' h_9' hys a1_9 a2 a3 gZ gL gS
    rcases List.mem_cons.mp hp with rfl | hp
    · obtain rfl := hp_y0 hys
      obtain ⟨y0, t0, rfl, q0, g0⟩ := hp_gSi (z := (0 + (1 * z + 0))) gS rfl
      obtain ⟨y1, t1, rfl, q1_9, g1⟩ := hp_gSi (z := (0 + (2 * m + 0))) g0 rfl
      obtain ⟨t2_9, rfl, g2⟩ := hp_gSa g1 (by decide)
      cases hp_gSn g2
      exact e0 l' h_9' y0 y1 (by omega) (by omega) a1_9 a2 a3 (hp_gLa gL (List.mem_of_getElem? (i := 0) rfl) (by decide)) (hp_gLi (z := (0 + (2 * m + 0))) gL (List.mem_of_getElem? (i := 1) rfl) rfl (by omega))
    cases hp
  · intro p_9 hp ys v_9 h_9' hys a1_9 a2 a3 gZ gS
    cases hp
theorem kf1_k : hp_chk 341 14 1 [(0, 0, 99)] [] [(0, .inr (.inr (.inl (some 94)))), (1, .inl (0, [(0, 2)]))] [] [] [] 2 [(16, ([], 1, [(0, 0, 99)], [], [(0, .inr (.inr (.inl (some 94)))), (1, .inl (0, [(0, 2)])), (2, .inl (0, []))], [], []))] [] = true := by decide +kernel
theorem kf1 {cst : am_K} {strs : List Nat} {Φ : am_Q → Prop} {D : Nat} {M : am_M} {h : am_H} {l : am_L} (c : hp_C cst strs D) (hM : m_P[341]? = some M) (hD : (2 : Int) ≤ (D : Int) + 1) (hy : ly_hy m_tt ly_TH h) (m : Int) (b0 : 0 ≤ m) (t0 : m ≤ 99) (l0 : hp_a l 0 94) (l1 : hp_i l 1 (2 * m)) (e0 : ∀ (l' : am_L) (h_9' : am_H), ly_hy m_tt ly_TH h_9' → ly_fr cst [] h h_9' → h.length ≤ h_9'.length → hp_a l' 0 94 → hp_i l' 1 (2 * m) → hp_i l' 2 0 → hp_F cst strs Φ D M 16 l' [] h_9') : hp_F cst strs Φ D M 14 l [] h := by
  refine hp_arc c hM kf1_k hD [m] rfl hy (hp_Bc (z := m) rfl b0 t0 hp_Bn) hp_Fn hp_Kn (hp_La l0 (hp_Li (z := (0 + (2 * m + 0))) l1 rfl (by omega) hp_Ln)) trivial ?_ ?_
  · intro p_9 hp ys l' st_9' h_9' hys a1_9 a2 a3 gZ gL gS
    rcases List.mem_cons.mp hp with rfl | hp
    · obtain rfl := hp_y0 hys
      cases hp_gSn gS
      exact e0 l' h_9' a1_9 a2 a3 (hp_gLa gL (List.mem_of_getElem? (i := 0) rfl) (by decide)) (hp_gLi (z := (0 + (2 * m + 0))) gL (List.mem_of_getElem? (i := 1) rfl) rfl (by omega)) (hp_gLi (z := (0 + 0)) gL (List.mem_of_getElem? (i := 2) rfl) rfl (by omega))
    cases hp
  · intro p_9 hp ys v_9 h_9' hys a1_9 a2 a3 gZ gS
    cases hp
theorem kf2_k : hp_chk 341 16 3 [(0, 0, 99), (1, 0, 19), (2, (-9223372036854775808), 9223372036854775807)] [] [(0, .inr (.inr (.inl (some 94)))), (1, .inl (0, [(0, 2)])), (2, .inl (0, [(1, 1)]))] [] [(27392, (4000, [(1, 1)]), (0, [(2, 1)]))] [] 2 [(42, ([], 3, [(0, 0, 99), (1, 0, 19), (2, (-9223372036854775808), 9223372036854775807)], [], [(0, .inr (.inr (.inl (some 94)))), (1, .inl (0, [(0, 2)])), (2, .inl (0, [(1, 1)]))], [.inr (.inl (0, [(2, 1)])), .inl (0, [(0, 40), (1, 1)]), .inr (.inr (.inl (some 123)))], []))] [] = true := by decide +kernel
theorem kf2 {cst : am_K} {strs : List Nat} {Φ : am_Q → Prop} {D : Nat} {M : am_M} {h : am_H} {l : am_L} (c : hp_C cst strs D) (hM : m_P[341]? = some M) (hD : (2 : Int) ≤ (D : Int) + 1) (hy : ly_hy m_tt ly_TH h) (m k v : Int) (b0 : 0 ≤ m) (t0 : m ≤ 99) (b1 : 0 ≤ k) (t1 : k ≤ 19) (b2 : (-9223372036854775808) ≤ v) (t2 : v ≤ 9223372036854775807) (k0 : ly_hv cst h 27392 (k + 4000) = some (v)) (l0 : hp_a l 0 94) (l1 : hp_i l 1 (2 * m)) (l2 : hp_i l 2 (k)) (e0 : ∀ (l' : am_L) (h_9' : am_H) (y0 : Int64) (y1 : Int32), y0.toInt = (v) → y1.toInt = (40 * m + k) → ly_hy m_tt ly_TH h_9' → ly_fr cst [] h h_9' → h.length ≤ h_9'.length → hp_a l' 0 94 → hp_i l' 1 (2 * m) → hp_i l' 2 (k) → hp_F cst strs Φ D M 42 l' [.long y0, .int y1, .ref 123] h_9') : hp_F cst strs Φ D M 16 l [] h := by
  refine hp_arc c hM kf2_k hD [m, k, v] rfl hy (hp_Bc (z := m) rfl b0 t0 (hp_Bc (z := k) rfl b1 t1 (hp_Bc (z := v) rfl b2 t2 hp_Bn))) hp_Fn (hp_Kc (zi := (4000 + (1 * k + 0))) (zv := (0 + (1 * v + 0))) k0 rfl rfl (by omega) (by omega) hp_Kn) (hp_La l0 (hp_Li (z := (0 + (2 * m + 0))) l1 rfl (by omega) (hp_Li (z := (0 + (1 * k + 0))) l2 rfl (by omega) hp_Ln))) trivial ?_ ?_
  · intro p_9 hp ys l' st_9' h_9' hys a1_9 a2 a3 gZ gL gS
    rcases List.mem_cons.mp hp with rfl | hp
    · obtain rfl := hp_y0 hys
      obtain ⟨y0, t0, rfl, q0, g0⟩ := hp_gSj (z := (0 + (1 * v + 0))) gS rfl
      obtain ⟨y1, t1, rfl, q1_9, g1⟩ := hp_gSi (z := (0 + (40 * m + (1 * k + 0)))) g0 rfl
      obtain ⟨t2, rfl, g2⟩ := hp_gSa g1 (by decide)
      cases hp_gSn g2
      exact e0 l' h_9' y0 y1 (by omega) (by omega) a1_9 a2 a3 (hp_gLa gL (List.mem_of_getElem? (i := 0) rfl) (by decide)) (hp_gLi (z := (0 + (2 * m + 0))) gL (List.mem_of_getElem? (i := 1) rfl) rfl (by omega)) (hp_gLi (z := (0 + (1 * k + 0))) gL (List.mem_of_getElem? (i := 2) rfl) rfl (by omega))
    cases hp
  · intro p_9 hp ys v h_9' hys a1_9 a2 a3 gZ gS
    cases hp
theorem kf3_k : hp_chk 341 43 3 [(0, 0, 99), (1, 0, 19), (2, (-2147483648), 2147483647)] [] [(0, .inr (.inr (.inl (some 94)))), (1, .inl (0, [(0, 2)])), (2, .inl (0, [(1, 1)]))] [] [(27648, (4000, [(1, 1)]), (0, [(2, 1)]))] [] 2 [(63, ([], 3, [(0, 0, 99), (1, 0, 19), (2, (-2147483648), 2147483647)], [], [(0, .inr (.inr (.inl (some 94)))), (1, .inl (0, [(0, 2)])), (2, .inl (0, [(1, 1)]))], [.inl (0, [(2, 1)]), .inl (0, [(0, 40), (1, 1)]), .inr (.inr (.inl (some 124)))], []))] [] = true := by decide +kernel
theorem kf3 {cst : am_K} {strs : List Nat} {Φ : am_Q → Prop} {D : Nat} {M : am_M} {h : am_H} {l : am_L} (c : hp_C cst strs D) (hM : m_P[341]? = some M) (hD : (2 : Int) ≤ (D : Int) + 1) (hy : ly_hy m_tt ly_TH h) (m k u : Int) (b0 : 0 ≤ m) (t0 : m ≤ 99) (b1 : 0 ≤ k) (t1 : k ≤ 19) (b2 : (-2147483648) ≤ u) (t2 : u ≤ 2147483647) (k0 : ly_hv cst h 27648 (k + 4000) = some (u)) (l0 : hp_a l 0 94) (l1 : hp_i l 1 (2 * m)) (l2 : hp_i l 2 (k)) (e0 : ∀ (l' : am_L) (h_9' : am_H) (y0 : Int32) (y1 : Int32), y0.toInt = (u) → y1.toInt = (40 * m + k) → ly_hy m_tt ly_TH h_9' → ly_fr cst [] h h_9' → h.length ≤ h_9'.length → hp_a l' 0 94 → hp_i l' 1 (2 * m) → hp_i l' 2 (k) → hp_F cst strs Φ D M 63 l' [.int y0, .int y1, .ref 124] h_9') : hp_F cst strs Φ D M 43 l [] h := by
  refine hp_arc c hM kf3_k hD [m, k, u] rfl hy (hp_Bc (z := m) rfl b0 t0 (hp_Bc (z := k) rfl b1 t1 (hp_Bc (z := u) rfl b2 t2 hp_Bn))) hp_Fn (hp_Kc (zi := (4000 + (1 * k + 0))) (zv := (0 + (1 * u + 0))) k0 rfl rfl (by omega) (by omega) hp_Kn) (hp_La l0 (hp_Li (z := (0 + (2 * m + 0))) l1 rfl (by omega) (hp_Li (z := (0 + (1 * k + 0))) l2 rfl (by omega) hp_Ln))) trivial ?_ ?_
  · intro p_9 hp ys l' st_9' h_9' hys a1_9 a2 a3 gZ gL gS
    rcases List.mem_cons.mp hp with rfl | hp
    · obtain rfl := hp_y0 hys
      obtain ⟨y0, t0, rfl, q0, g0⟩ := hp_gSi (z := (0 + (1 * u + 0))) gS rfl
      obtain ⟨y1, t1, rfl, q1_9, g1⟩ := hp_gSi (z := (0 + (40 * m + (1 * k + 0)))) g0 rfl
      obtain ⟨t2, rfl, g2⟩ := hp_gSa g1 (by decide)
      cases hp_gSn g2
      exact e0 l' h_9' y0 y1 (by omega) (by omega) a1_9 a2 a3 (hp_gLa gL (List.mem_of_getElem? (i := 0) rfl) (by decide)) (hp_gLi (z := (0 + (2 * m + 0))) gL (List.mem_of_getElem? (i := 1) rfl) rfl (by omega)) (hp_gLi (z := (0 + (1 * k + 0))) gL (List.mem_of_getElem? (i := 2) rfl) rfl (by omega))
    cases hp
  · intro p_9 hp ys v_9 h_9' hys a1_9 a2 a3 gZ gS
    cases hp
theorem kf4_k : hp_chk 341 64 2 [(0, 0, 99), (1, 0, 19)] [] [(0, .inr (.inr (.inl (some 94)))), (1, .inl (0, [(0, 2)])), (2, .inl (0, [(1, 1)]))] [] [] [] 2 [(16, ([], 2, [(0, 0, 99), (1, 0, 19)], [], [(0, .inr (.inr (.inl (some 94)))), (1, .inl (0, [(0, 2)])), (2, .inl (1, [(1, 1)]))], [], []))] [] = true := by decide +kernel
theorem kf4 {cst : am_K} {strs : List Nat} {Φ : am_Q → Prop} {D : Nat} {M : am_M} {h : am_H} {l : am_L} (c : hp_C cst strs D) (hM : m_P[341]? = some M) (hD : (2 : Int) ≤ (D : Int) + 1) (hy : ly_hy m_tt ly_TH h) (m k : Int) (b0 : 0 ≤ m) (t0 : m ≤ 99) (b1 : 0 ≤ k) (t1 : k ≤ 19) (l0 : hp_a l 0 94) (l1 : hp_i l 1 (2 * m)) (l2 : hp_i l 2 (k)) (e0 : ∀ (l' : am_L) (h_9' : am_H), ly_hy m_tt ly_TH h_9' → ly_fr cst [] h h_9' → h.length ≤ h_9'.length → hp_a l' 0 94 → hp_i l' 1 (2 * m) → hp_i l' 2 (k + 1) → hp_F cst strs Φ D M 16 l' [] h_9') : hp_F cst strs Φ D M 64 l [] h := by
  refine hp_arc c hM kf4_k hD [m, k] rfl hy (hp_Bc (z := m) rfl b0 t0 (hp_Bc (z := k) rfl b1 t1 hp_Bn)) hp_Fn hp_Kn (hp_La l0 (hp_Li (z := (0 + (2 * m + 0))) l1 rfl (by omega) (hp_Li (z := (0 + (1 * k + 0))) l2 rfl (by omega) hp_Ln))) trivial ?_ ?_
  · intro p_9 hp ys l' st_9' h_9' hys a1_9 a2 a3 gZ gL gS
    rcases List.mem_cons.mp hp with rfl | hp
    · obtain rfl := hp_y0 hys
      cases hp_gSn gS
      exact e0 l' h_9' a1_9 a2 a3 (hp_gLa gL (List.mem_of_getElem? (i := 0) rfl) (by decide)) (hp_gLi (z := (0 + (2 * m + 0))) gL (List.mem_of_getElem? (i := 1) rfl) rfl (by omega)) (hp_gLi (z := (1 + (1 * k + 0))) gL (List.mem_of_getElem? (i := 2) rfl) rfl (by omega))
    cases hp
  · intro p_9 hp ys v_9 h_9' hys a1_9 a2 a3 gZ gS
    cases hp
theorem kf5_k : hp_chk 341 16 1 [(0, 0, 99)] [] [(0, .inr (.inr (.inl (some 94)))), (1, .inl (0, [(0, 2)])), (2, .inl (20, []))] [] [] [] 2 [] [([], 1, [(0, 0, 99)], [], [], [], [])] = true := by decide +kernel
theorem kf5 {cst : am_K} {strs : List Nat} {Φ : am_Q → Prop} {D : Nat} {M : am_M} {h : am_H} {l : am_L} (c : hp_C cst strs D) (hM : m_P[341]? = some M) (hD : (2 : Int) ≤ (D : Int) + 1) (hy : ly_hy m_tt ly_TH h) (m : Int) (b0 : 0 ≤ m) (t0 : m ≤ 99) (l0 : hp_a l 0 94) (l1 : hp_i l 1 (2 * m)) (l2 : hp_i l 2 20) (r0 : ∀ (h_9' : am_H), ly_hy m_tt ly_TH h_9' → ly_fr cst [] h h_9' → h.length ≤ h_9'.length → Φ (none, h_9', 0, 0)) : hp_F cst strs Φ D M 16 l [] h := by
  refine hp_arc c hM kf5_k hD [m] rfl hy (hp_Bc (z := m) rfl b0 t0 hp_Bn) hp_Fn hp_Kn (hp_La l0 (hp_Li (z := (0 + (2 * m + 0))) l1 rfl (by omega) (hp_Li (z := (20 + 0)) l2 rfl (by omega) hp_Ln))) trivial ?_ ?_
  · intro p_9 hp ys l' st_9' h_9' hys a1_9 a2 a3 gZ gL gS
    cases hp
  · intro p_9 hp ys v_9 h_9' hys a1_9 a2 a3 gZ gS
    rcases List.mem_cons.mp hp with rfl | hp
    · obtain rfl := hp_y0 hys
      have sv := hp_gSn gS
      cases v_9 with
      | some wz => cases sv
      | none =>
        exact r0 h_9' a1_9 a2 a3
    cases hp
theorem ar0_k : hp_chk 340 0 1 [(0, (-2147483648), 2147483647)] [] [(0, .inr (.inr (.inl (some 94)))), (1, .inl (0, [(0, 1)]))] [] [] [] 2 [(1, ([], 1, [(0, (-2147483648), 2147483647)], [], [(0, .inr (.inr (.inl (some 94)))), (1, .inl (0, [(0, 1)]))], [.inr (.inr (.inl (some 94)))], []))] [] = true := by decide +kernel
theorem ar0 {cst : am_K} {strs : List Nat} {Φ : am_Q → Prop} {D : Nat} {M : am_M} {h : am_H} {l : am_L} (c : hp_C cst strs D) (hM : m_P[340]? = some M) (hD : (2 : Int) ≤ (D : Int) + 1) (hy : ly_hy m_tt ly_TH h) (m : Int) (b0 : (-2147483648) ≤ m) (t0 : m ≤ 2147483647) (l0 : hp_a l 0 94) (l1 : hp_i l 1 (m)) (e0 : ∀ (l' : am_L) (h_9' : am_H), ly_hy m_tt ly_TH h_9' → ly_fr cst [] h h_9' → h.length ≤ h_9'.length → hp_a l' 0 94 → hp_i l' 1 (m) → hp_F cst strs Φ D M 1 l' [.ref 94] h_9') : hp_F cst strs Φ D M 0 l [] h := by
  refine hp_arc c hM ar0_k hD [m] rfl hy (hp_Bc (z := m) rfl b0 t0 hp_Bn) hp_Fn hp_Kn (hp_La l0 (hp_Li (z := (0 + (1 * m + 0))) l1 rfl (by omega) hp_Ln)) trivial ?_ ?_
  · intro p_9 hp ys l' st_9' h_9' hys a1_9 a2 a3 gZ gL gS
    rcases List.mem_cons.mp hp with rfl | hp
    · obtain rfl := hp_y0 hys
      obtain ⟨t0, rfl, g0⟩ := hp_gSa gS (by decide)
      cases hp_gSn g0
      exact e0 l' h_9' a1_9 a2 a3 (hp_gLa gL (List.mem_of_getElem? (i := 0) rfl) (by decide)) (hp_gLi (z := (0 + (1 * m + 0))) gL (List.mem_of_getElem? (i := 1) rfl) rfl (by omega))
    cases hp
  · intro p_9 hp ys v_9 h_9' hys a1_9 a2 a3 gZ gS
    cases hp
theorem ar1_k : hp_chk 340 4 2 [(0, (-2147483648), (-1)), (1, 0, 100)] [] [(0, .inr (.inr (.inl (some 94)))), (1, .inl (0, [(0, 1)]))] [] [(20024, (0, []), (0, [(1, 1)]))] [] 5 [] [([], 2, [(0, (-2147483648), (-1)), (1, 0, 100)], [], [], [.inl ((-2), [])], [])] = true := by decide +kernel
theorem ar1 {cst : am_K} {strs : List Nat} {Φ : am_Q → Prop} {D : Nat} {M : am_M} {h : am_H} {l : am_L} (c : hp_C cst strs D) (hM : m_P[340]? = some M) (hD : (5 : Int) ≤ (D : Int) + 1) (hy : ly_hy m_tt ly_TH h) (m s : Int) (b0 : (-2147483648) ≤ m) (t0 : m ≤ (-1)) (b1 : 0 ≤ s) (t1 : s ≤ 100) (k0 : ly_hv cst h 20024 0 = some (s)) (l0 : hp_a l 0 94) (l1 : hp_i l 1 (m)) (r0 : ∀ (h_9' : am_H) (y0 : Int32), y0.toInt = (-2) → ly_hy m_tt ly_TH h_9' → ly_fr cst [] h h_9' → h.length ≤ h_9'.length → Φ (some (.int y0), h_9', 0, 0)) : hp_F cst strs Φ D M 4 l [] h := by
  refine hp_arc c hM ar1_k hD [m, s] rfl hy (hp_Bc (z := m) rfl b0 t0 (hp_Bc (z := s) rfl b1 t1 hp_Bn)) hp_Fn (hp_Kc (zi := (0 + 0)) (zv := (0 + (1 * s + 0))) k0 rfl rfl (by omega) (by omega) hp_Kn) (hp_La l0 (hp_Li (z := (0 + (1 * m + 0))) l1 rfl (by omega) hp_Ln)) trivial ?_ ?_
  · intro p_9 hp ys l' st_9' h_9' hys a1_9 a2 a3 gZ gL gS
    cases hp
  · intro p_9 hp ys v_9 h_9' hys a1_9 a2 a3 gZ gS
    rcases List.mem_cons.mp hp with rfl | hp
    · obtain rfl := hp_y0 hys
      cases v_9 with
      | none => cases gS
      | some wz =>
        obtain ⟨y0, t0, s0_9, q0, -⟩ := hp_gSi (z := ((-2) + 0)) gS rfl
        cases s0_9
        exact r0 h_9' y0 (by omega) a1_9 a2 a3
    cases hp
theorem ar2_k : hp_chk 340 4 2 [(0, 0, 2147483647), (1, 0, 100)] [(0, [(0, 1), (1, (-1))])] [(0, .inr (.inr (.inl (some 94)))), (1, .inl (0, [(0, 1)]))] [] [(20024, (0, []), (0, [(1, 1)]))] [] 5 [] [([], 2, [(0, 0, 2147483647), (1, 0, 100)], [], [], [.inl ((-2), [])], [])] = true := by decide +kernel
theorem ar2 {cst : am_K} {strs : List Nat} {Φ : am_Q → Prop} {D : Nat} {M : am_M} {h : am_H} {l : am_L} (c : hp_C cst strs D) (hM : m_P[340]? = some M) (hD : (5 : Int) ≤ (D : Int) + 1) (hy : ly_hy m_tt ly_TH h) (m s : Int) (b0 : 0 ≤ m) (t0 : m ≤ 2147483647) (b1 : 0 ≤ s) (t1 : s ≤ 100) (f0 : 0 ≤ (m - s)) (k0 : ly_hv cst h 20024 0 = some (s)) (l0 : hp_a l 0 94) (l1 : hp_i l 1 (m)) (r0 : ∀ (h_9' : am_H) (y0 : Int32), y0.toInt = (-2) → ly_hy m_tt ly_TH h_9' → ly_fr cst [] h h_9' → h.length ≤ h_9'.length → Φ (some (.int y0), h_9', 0, 0)) : hp_F cst strs Φ D M 4 l [] h := by
  refine hp_arc c hM ar2_k hD [m, s] rfl hy (hp_Bc (z := m) rfl b0 t0 (hp_Bc (z := s) rfl b1 t1 hp_Bn)) (hp_Fc (z := (0 + (1 * m + ((-1) * s + 0)))) rfl (by omega) hp_Fn) (hp_Kc (zi := (0 + 0)) (zv := (0 + (1 * s + 0))) k0 rfl rfl (by omega) (by omega) hp_Kn) (hp_La l0 (hp_Li (z := (0 + (1 * m + 0))) l1 rfl (by omega) hp_Ln)) trivial ?_ ?_
  · intro p_9 hp ys l' st_9' h_9' hys a1_9 a2 a3 gZ gL gS
    cases hp
  · intro p_9 hp ys v_9 h_9' hys a1_9 a2 a3 gZ gS
    rcases List.mem_cons.mp hp with rfl | hp
    · obtain rfl := hp_y0 hys
      cases v_9 with
      | none => cases gS
      | some wz =>
        obtain ⟨y0, t0, s0_9, q0, -⟩ := hp_gSi (z := ((-2) + 0)) gS rfl
        cases s0_9
        exact r0 h_9' y0 (by omega) a1_9 a2 a3
    cases hp
theorem ar3_k : hp_chk 340 4 2 [(0, 0, 99), (1, 0, 100)] [((-1), [(0, (-1)), (1, 1)])] [(0, .inr (.inr (.inl (some 94)))), (1, .inl (0, [(0, 1)]))] [] [(20024, (0, []), (0, [(1, 1)])), (28416, (0, [(0, 1)]), (1, []))] [] 5 [] [([], 2, [(0, 0, 99), (1, 0, 100)], [], [], [.inl ((-2), [])], [])] = true := by decide +kernel
theorem ar3 {cst : am_K} {strs : List Nat} {Φ : am_Q → Prop} {D : Nat} {M : am_M} {h : am_H} {l : am_L} (c : hp_C cst strs D) (hM : m_P[340]? = some M) (hD : (5 : Int) ≤ (D : Int) + 1) (hy : ly_hy m_tt ly_TH h) (m s : Int) (b0 : 0 ≤ m) (t0 : m ≤ 99) (b1 : 0 ≤ s) (t1 : s ≤ 100) (f0 : 0 ≤ (s - m - 1)) (k0 : ly_hv cst h 20024 0 = some (s)) (k1 : ly_hv cst h 28416 (m) = some 1) (l0 : hp_a l 0 94) (l1 : hp_i l 1 (m)) (r0 : ∀ (h_9' : am_H) (y0 : Int32), y0.toInt = (-2) → ly_hy m_tt ly_TH h_9' → ly_fr cst [] h h_9' → h.length ≤ h_9'.length → Φ (some (.int y0), h_9', 0, 0)) : hp_F cst strs Φ D M 4 l [] h := by
  refine hp_arc c hM ar3_k hD [m, s] rfl hy (hp_Bc (z := m) rfl b0 t0 (hp_Bc (z := s) rfl b1 t1 hp_Bn)) (hp_Fc (z := ((-1) + ((-1) * m + (1 * s + 0)))) rfl (by omega) hp_Fn) (hp_Kc (zi := (0 + 0)) (zv := (0 + (1 * s + 0))) k0 rfl rfl (by omega) (by omega) (hp_Kc (zi := (0 + (1 * m + 0))) (zv := (1 + 0)) k1 rfl rfl (by omega) (by omega) hp_Kn)) (hp_La l0 (hp_Li (z := (0 + (1 * m + 0))) l1 rfl (by omega) hp_Ln)) trivial ?_ ?_
  · intro p_9 hp ys l' st_9' h_9' hys a1_9 a2 a3 gZ gL gS
    cases hp
  · intro p_9 hp ys v_9 h_9' hys a1_9 a2 a3 gZ gS
    rcases List.mem_cons.mp hp with rfl | hp
    · obtain rfl := hp_y0 hys
      cases v_9 with
      | none => cases gS
      | some wz =>
        obtain ⟨y0, t0, s0_9, q0, -⟩ := hp_gSi (z := ((-2) + 0)) gS rfl
        cases s0_9
        exact r0 h_9' y0 (by omega) a1_9 a2 a3
    cases hp
theorem ar40_k : hp_chk 340 4 3 [(0, 0, 99), (1, 0, 100), (2, (-2147483648), (-1))] [((-1), [(0, (-1)), (1, 1)])] [(0, .inr (.inr (.inl (some 94)))), (1, .inl (0, [(0, 1)]))] [] [(20024, (0, []), (0, [(1, 1)])), (28416, (0, [(0, 1)]), (0, [])), (30464, (0, [(0, 1)]), (0, [(2, 1)]))] [] 5 [] [([], 3, [(0, 0, 99), (1, 0, 100), (2, (-2147483648), (-1))], [], [], [.inl ((-4), [])], [])] = true := by decide +kernel
theorem ar40 {cst : am_K} {strs : List Nat} {Φ : am_Q → Prop} {D : Nat} {M : am_M} {h : am_H} {l : am_L} (c : hp_C cst strs D) (hM : m_P[340]? = some M) (hD : (5 : Int) ≤ (D : Int) + 1) (hy : ly_hy m_tt ly_TH h) (m s v : Int) (b0 : 0 ≤ m) (t0 : m ≤ 99) (b1 : 0 ≤ s) (t1 : s ≤ 100) (b2 : (-2147483648) ≤ v) (t2 : v ≤ (-1)) (f0 : 0 ≤ (s - m - 1)) (k0 : ly_hv cst h 20024 0 = some (s)) (k1 : ly_hv cst h 28416 (m) = some 0) (k2 : ly_hv cst h 30464 (m) = some (v)) (l0 : hp_a l 0 94) (l1 : hp_i l 1 (m)) (r0 : ∀ (h_9' : am_H) (y0 : Int32), y0.toInt = (-4) → ly_hy m_tt ly_TH h_9' → ly_fr cst [] h h_9' → h.length ≤ h_9'.length → Φ (some (.int y0), h_9', 0, 0)) : hp_F cst strs Φ D M 4 l [] h := by
  refine hp_arc c hM ar40_k hD [m, s, v] rfl hy (hp_Bc (z := m) rfl b0 t0 (hp_Bc (z := s) rfl b1 t1 (hp_Bc (z := v) rfl b2 t2 hp_Bn))) (hp_Fc (z := ((-1) + ((-1) * m + (1 * s + 0)))) rfl (by omega) hp_Fn) (hp_Kc (zi := (0 + 0)) (zv := (0 + (1 * s + 0))) k0 rfl rfl (by omega) (by omega) (hp_Kc (zi := (0 + (1 * m + 0))) (zv := (0 + 0)) k1 rfl rfl (by omega) (by omega) (hp_Kc (zi := (0 + (1 * m + 0))) (zv := (0 + (1 * v + 0))) k2 rfl rfl (by omega) (by omega) hp_Kn))) (hp_La l0 (hp_Li (z := (0 + (1 * m + 0))) l1 rfl (by omega) hp_Ln)) trivial ?_ ?_
  · intro p_9 hp ys l' st_9' h_9' hys a1_9 a2 a3 gZ gL gS
    cases hp
  · intro p_9 hp ys v h_9' hys a1_9 a2 a3 gZ gS
    rcases List.mem_cons.mp hp with rfl | hp
    · obtain rfl := hp_y0 hys
      cases v with
      | none => cases gS
      | some wz =>
        obtain ⟨y0, t0, s0_9, q0, -⟩ := hp_gSi (z := ((-4) + 0)) gS rfl
        cases s0_9
        exact r0 h_9' y0 (by omega) a1_9 a2 a3
    cases hp
theorem ar41_k : hp_chk 340 4 3 [(0, 0, 99), (1, 0, 100), (2, 1, 2147483647)] [((-1), [(0, (-1)), (1, 1)])] [(0, .inr (.inr (.inl (some 94)))), (1, .inl (0, [(0, 1)]))] [] [(20024, (0, []), (0, [(1, 1)])), (28416, (0, [(0, 1)]), (0, [])), (30464, (0, [(0, 1)]), (0, [(2, 1)]))] [] 5 [] [([], 3, [(0, 0, 99), (1, 0, 100), (2, 1, 2147483647)], [], [], [.inl ((-4), [])], [])] = true := by decide +kernel
theorem ar41 {cst : am_K} {strs : List Nat} {Φ : am_Q → Prop} {D : Nat} {M : am_M} {h : am_H} {l : am_L} (c : hp_C cst strs D) (hM : m_P[340]? = some M) (hD : (5 : Int) ≤ (D : Int) + 1) (hy : ly_hy m_tt ly_TH h) (m s v : Int) (b0 : 0 ≤ m) (t0 : m ≤ 99) (b1 : 0 ≤ s) (t1 : s ≤ 100) (b2 : 1 ≤ v) (t2 : v ≤ 2147483647) (f0 : 0 ≤ (s - m - 1)) (k0 : ly_hv cst h 20024 0 = some (s)) (k1 : ly_hv cst h 28416 (m) = some 0) (k2 : ly_hv cst h 30464 (m) = some (v)) (l0 : hp_a l 0 94) (l1 : hp_i l 1 (m)) (r0 : ∀ (h_9' : am_H) (y0 : Int32), y0.toInt = (-4) → ly_hy m_tt ly_TH h_9' → ly_fr cst [] h h_9' → h.length ≤ h_9'.length → Φ (some (.int y0), h_9', 0, 0)) : hp_F cst strs Φ D M 4 l [] h := by
  refine hp_arc c hM ar41_k hD [m, s, v] rfl hy (hp_Bc (z := m) rfl b0 t0 (hp_Bc (z := s) rfl b1 t1 (hp_Bc (z := v) rfl b2 t2 hp_Bn))) (hp_Fc (z := ((-1) + ((-1) * m + (1 * s + 0)))) rfl (by omega) hp_Fn) (hp_Kc (zi := (0 + 0)) (zv := (0 + (1 * s + 0))) k0 rfl rfl (by omega) (by omega) (hp_Kc (zi := (0 + (1 * m + 0))) (zv := (0 + 0)) k1 rfl rfl (by omega) (by omega) (hp_Kc (zi := (0 + (1 * m + 0))) (zv := (0 + (1 * v + 0))) k2 rfl rfl (by omega) (by omega) hp_Kn))) (hp_La l0 (hp_Li (z := (0 + (1 * m + 0))) l1 rfl (by omega) hp_Ln)) trivial ?_ ?_
  · intro p_9 hp ys l' st_9' h_9' hys a1_9 a2 a3 gZ gL gS
    cases hp
  · intro p_9 hp ys v h_9' hys a1_9 a2 a3 gZ gS
    rcases List.mem_cons.mp hp with rfl | hp
    · obtain rfl := hp_y0 hys
      cases v with
      | none => cases gS
      | some wz =>
        obtain ⟨y0, t0, s0_9, q0, -⟩ := hp_gSi (z := ((-4) + 0)) gS rfl
        cases s0_9
        exact r0 h_9' y0 (by omega) a1_9 a2 a3
    cases hp
theorem ar5_k : hp_chk 340 4 2 [(0, 0, 99), (1, 0, 100)] [((-1), [(0, (-1)), (1, 1)])] [(0, .inr (.inr (.inl (some 94)))), (1, .inl (0, [(0, 1)]))] [] [(20024, (0, []), (0, [(1, 1)])), (28416, (0, [(0, 1)]), (0, [])), (30464, (0, [(0, 1)]), (0, []))] [] 5 [(28, ([], 2, [(0, 0, 99), (1, 0, 100)], [], [(0, .inr (.inr (.inl (some 94)))), (1, .inl (0, [(0, 1)]))], [.inr (.inr (.inl (some 94)))], []))] [] = true := by decide +kernel
theorem ar5 {cst : am_K} {strs : List Nat} {Φ : am_Q → Prop} {D : Nat} {M : am_M} {h : am_H} {l : am_L} (c : hp_C cst strs D) (hM : m_P[340]? = some M) (hD : (5 : Int) ≤ (D : Int) + 1) (hy : ly_hy m_tt ly_TH h) (m s : Int) (b0 : 0 ≤ m) (t0 : m ≤ 99) (b1 : 0 ≤ s) (t1 : s ≤ 100) (f0 : 0 ≤ (s - m - 1)) (k0 : ly_hv cst h 20024 0 = some (s)) (k1 : ly_hv cst h 28416 (m) = some 0) (k2 : ly_hv cst h 30464 (m) = some 0) (l0 : hp_a l 0 94) (l1 : hp_i l 1 (m)) (e0 : ∀ (l' : am_L) (h_9' : am_H), ly_hy m_tt ly_TH h_9' → ly_fr cst [] h h_9' → h.length ≤ h_9'.length → hp_a l' 0 94 → hp_i l' 1 (m) → hp_F cst strs Φ D M 28 l' [.ref 94] h_9') : hp_F cst strs Φ D M 4 l [] h := by
  refine hp_arc c hM ar5_k hD [m, s] rfl hy (hp_Bc (z := m) rfl b0 t0 (hp_Bc (z := s) rfl b1 t1 hp_Bn)) (hp_Fc (z := ((-1) + ((-1) * m + (1 * s + 0)))) rfl (by omega) hp_Fn) (hp_Kc (zi := (0 + 0)) (zv := (0 + (1 * s + 0))) k0 rfl rfl (by omega) (by omega) (hp_Kc (zi := (0 + (1 * m + 0))) (zv := (0 + 0)) k1 rfl rfl (by omega) (by omega) (hp_Kc (zi := (0 + (1 * m + 0))) (zv := (0 + 0)) k2 rfl rfl (by omega) (by omega) hp_Kn))) (hp_La l0 (hp_Li (z := (0 + (1 * m + 0))) l1 rfl (by omega) hp_Ln)) trivial ?_ ?_
  · intro p_9 hp ys l' st_9' h_9' hys a1_9 a2 a3 gZ gL gS
    rcases List.mem_cons.mp hp with rfl | hp
    · obtain rfl := hp_y0 hys
      obtain ⟨t0, rfl, g0⟩ := hp_gSa gS (by decide)
      cases hp_gSn g0
      exact e0 l' h_9' a1_9 a2 a3 (hp_gLa gL (List.mem_of_getElem? (i := 0) rfl) (by decide)) (hp_gLi (z := (0 + (1 * m + 0))) gL (List.mem_of_getElem? (i := 1) rfl) rfl (by omega))
    cases hp
  · intro p_9 hp ys v_9 h_9' hys a1_9 a2 a3 gZ gS
    cases hp
theorem ar6_k : hp_chk 340 31 1 [(0, 0, 99)] [] [(0, .inr (.inr (.inl (some 94)))), (1, .inl (0, [(0, 1)]))] [.inl (0, [])] [] [] 2 [] [([], 1, [(0, 0, 99)], [], [], [.inl ((-1), [])], [])] = true := by decide +kernel
theorem ar6 {cst : am_K} {strs : List Nat} {Φ : am_Q → Prop} {D : Nat} {M : am_M} {h : am_H} {l : am_L} (c : hp_C cst strs D) (hM : m_P[340]? = some M) (hD : (2 : Int) ≤ (D : Int) + 1) (hy : ly_hy m_tt ly_TH h) (m : Int) (x0 : Int32) (hx0 : x0.toInt = 0) (b0 : 0 ≤ m) (t0 : m ≤ 99) (l0 : hp_a l 0 94) (l1 : hp_i l 1 (m)) (r0 : ∀ (h_9' : am_H) (y0 : Int32), y0.toInt = (-1) → ly_hy m_tt ly_TH h_9' → ly_fr cst [] h h_9' → h.length ≤ h_9'.length → Φ (some (.int y0), h_9', 0, 0)) : hp_F cst strs Φ D M 31 l [.int x0] h := by
  refine hp_arc c hM ar6_k hD [m] rfl hy (hp_Bc (z := m) rfl b0 t0 hp_Bn) hp_Fn hp_Kn (hp_La l0 (hp_Li (z := (0 + (1 * m + 0))) l1 rfl (by omega) hp_Ln)) (hp_Si (z := (0 + 0)) rfl (by omega) trivial) ?_ ?_
  · intro p_9 hp ys l' st_9' h_9' hys a1_9 a2 a3 gZ gL gS
    cases hp
  · intro p_9 hp ys v_9 h_9' hys a1_9 a2 a3 gZ gS
    rcases List.mem_cons.mp hp with rfl | hp
    · obtain rfl := hp_y0 hys
      cases v_9 with
      | none => cases gS
      | some wz =>
        obtain ⟨y0, t0, s0_9, q0, -⟩ := hp_gSi (z := ((-1) + 0)) gS rfl
        cases s0_9
        exact r0 h_9' y0 (by omega) a1_9 a2 a3
    cases hp
theorem ar7_k : hp_chk 340 31 1 [(0, 0, 99)] [] [(0, .inr (.inr (.inl (some 94)))), (1, .inl (0, [(0, 1)]))] [.inl (1, [])] [] [] 2 [(40, ([], 1, [(0, 0, 99)], [], [(0, .inr (.inr (.inl (some 94)))), (1, .inl (0, [(0, 1)]))], [.inl (0, [(0, 2)]), .inr (.inr (.inl (some 94)))], []))] [] = true := by decide +kernel
theorem ar7 {cst : am_K} {strs : List Nat} {Φ : am_Q → Prop} {D : Nat} {M : am_M} {h : am_H} {l : am_L} (c : hp_C cst strs D) (hM : m_P[340]? = some M) (hD : (2 : Int) ≤ (D : Int) + 1) (hy : ly_hy m_tt ly_TH h) (m : Int) (x0 : Int32) (hx0 : x0.toInt = 1) (b0 : 0 ≤ m) (t0 : m ≤ 99) (l0 : hp_a l 0 94) (l1 : hp_i l 1 (m)) (e0 : ∀ (l' : am_L) (h_9' : am_H) (y0 : Int32), y0.toInt = (2 * m) → ly_hy m_tt ly_TH h_9' → ly_fr cst [] h h_9' → h.length ≤ h_9'.length → hp_a l' 0 94 → hp_i l' 1 (m) → hp_F cst strs Φ D M 40 l' [.int y0, .ref 94] h_9') : hp_F cst strs Φ D M 31 l [.int x0] h := by
  refine hp_arc c hM ar7_k hD [m] rfl hy (hp_Bc (z := m) rfl b0 t0 hp_Bn) hp_Fn hp_Kn (hp_La l0 (hp_Li (z := (0 + (1 * m + 0))) l1 rfl (by omega) hp_Ln)) (hp_Si (z := (1 + 0)) rfl (by omega) trivial) ?_ ?_
  · intro p_9 hp ys l' st_9' h_9' hys a1_9 a2 a3 gZ gL gS
    rcases List.mem_cons.mp hp with rfl | hp
    · obtain rfl := hp_y0 hys
      obtain ⟨y0, t0, rfl, q0, g0⟩ := hp_gSi (z := (0 + (2 * m + 0))) gS rfl
      obtain ⟨t1_9, rfl, g1⟩ := hp_gSa g0 (by decide)
      cases hp_gSn g1
      exact e0 l' h_9' y0 (by omega) a1_9 a2 a3 (hp_gLa gL (List.mem_of_getElem? (i := 0) rfl) (by decide)) (hp_gLi (z := (0 + (1 * m + 0))) gL (List.mem_of_getElem? (i := 1) rfl) rfl (by omega))
    cases hp
  · intro p_9 hp ys v_9 h_9' hys a1_9 a2 a3 gZ gS
    cases hp
theorem ar8_k : hp_chk 340 43 1 [(0, 0, 99)] [] [(0, .inr (.inr (.inl (some 94)))), (1, .inl (0, [(0, 1)]))] [] [] [] 2 [(49, ([], 1, [(0, 0, 99)], [], [(0, .inr (.inr (.inl (some 94)))), (1, .inl (0, [(0, 1)]))], [.inl (1, []), .inl (0, [(0, 1)]), .inr (.inr (.inl (some 148)))], []))] [] = true := by decide +kernel
theorem ar8 {cst : am_K} {strs : List Nat} {Φ : am_Q → Prop} {D : Nat} {M : am_M} {h : am_H} {l : am_L} (c : hp_C cst strs D) (hM : m_P[340]? = some M) (hD : (2 : Int) ≤ (D : Int) + 1) (hy : ly_hy m_tt ly_TH h) (m : Int) (b0 : 0 ≤ m) (t0 : m ≤ 99) (l0 : hp_a l 0 94) (l1 : hp_i l 1 (m)) (e0 : ∀ (l' : am_L) (h_9' : am_H) (y0 : Int32) (y1 : Int32), y0.toInt = 1 → y1.toInt = (m) → ly_hy m_tt ly_TH h_9' → ly_fr cst [] h h_9' → h.length ≤ h_9'.length → hp_a l' 0 94 → hp_i l' 1 (m) → hp_F cst strs Φ D M 49 l' [.int y0, .int y1, .ref 148] h_9') : hp_F cst strs Φ D M 43 l [] h := by
  refine hp_arc c hM ar8_k hD [m] rfl hy (hp_Bc (z := m) rfl b0 t0 hp_Bn) hp_Fn hp_Kn (hp_La l0 (hp_Li (z := (0 + (1 * m + 0))) l1 rfl (by omega) hp_Ln)) trivial ?_ ?_
  · intro p_9 hp ys l' st_9' h_9' hys a1_9 a2 a3 gZ gL gS
    rcases List.mem_cons.mp hp with rfl | hp
    · obtain rfl := hp_y0 hys
      obtain ⟨y0, t0, rfl, q0, g0⟩ := hp_gSi (z := (1 + 0)) gS rfl
      obtain ⟨y1, t1_9, rfl, q1_9, g1⟩ := hp_gSi (z := (0 + (1 * m + 0))) g0 rfl
      obtain ⟨t2_9, rfl, g2⟩ := hp_gSa g1 (by decide)
      cases hp_gSn g2
      exact e0 l' h_9' y0 y1 (by omega) (by omega) a1_9 a2 a3 (hp_gLa gL (List.mem_of_getElem? (i := 0) rfl) (by decide)) (hp_gLi (z := (0 + (1 * m + 0))) gL (List.mem_of_getElem? (i := 1) rfl) rfl (by omega))
    cases hp
  · intro p_9 hp ys v_9 h_9' hys a1_9 a2 a3 gZ gS
    cases hp
theorem ar9_k : hp_chk 340 50 2 [(0, 0, 99), (1, 0, 20)] [] [(0, .inr (.inr (.inl (some 94)))), (1, .inl (0, [(0, 1)]))] [] [(27904, (0, [(0, 2)]), (0, [(1, 1)]))] [] 2 [] [([], 2, [(0, 0, 99), (1, 0, 20)], [], [], [.inl (0, [(1, 1)])], [])] = true := by decide +kernel
theorem ar9 {cst : am_K} {strs : List Nat} {Φ : am_Q → Prop} {D : Nat} {M : am_M} {h : am_H} {l : am_L} (c : hp_C cst strs D) (hM : m_P[340]? = some M) (hD : (2 : Int) ≤ (D : Int) + 1) (hy : ly_hy m_tt ly_TH h) (m z : Int) (b0 : 0 ≤ m) (t0 : m ≤ 99) (b1 : 0 ≤ z) (t1 : z ≤ 20) (k0 : ly_hv cst h 27904 (2 * m) = some (z)) (l0 : hp_a l 0 94) (l1 : hp_i l 1 (m)) (r0 : ∀ (h_9' : am_H) (y0 : Int32), y0.toInt = (z) → ly_hy m_tt ly_TH h_9' → ly_fr cst [] h h_9' → h.length ≤ h_9'.length → Φ (some (.int y0), h_9', 0, 0)) : hp_F cst strs Φ D M 50 l [] h := by
  refine hp_arc c hM ar9_k hD [m, z] rfl hy (hp_Bc (z := m) rfl b0 t0 (hp_Bc (z := z) rfl b1 t1 hp_Bn)) hp_Fn (hp_Kc (zi := (0 + (2 * m + 0))) (zv := (0 + (1 * z + 0))) k0 rfl rfl (by omega) (by omega) hp_Kn) (hp_La l0 (hp_Li (z := (0 + (1 * m + 0))) l1 rfl (by omega) hp_Ln)) trivial ?_ ?_
  · intro p_9 hp ys l' st_9' h_9' hys a1_9 a2 a3 gZ gL gS
    cases hp
  · intro p_9 hp ys v_9 h_9' hys a1_9 a2 a3 gZ gS
    rcases List.mem_cons.mp hp with rfl | hp
    · obtain rfl := hp_y0 hys
      cases v_9 with
      | none => cases gS
      | some wz =>
        obtain ⟨y0, t0, s0_9, q0, -⟩ := hp_gSi (z := (0 + (1 * z + 0))) gS rfl
        cases s0_9
        exact r0 h_9' y0 (by omega) a1_9 a2 a3
    cases hp
abbrev ar_mods : List Nat := [19969, 19970, 19971, 19972, 19973, 19974, 19975, 19976, 27392, 27648, 27904]
/-- all stands but L and the facts alleged of the matter m -/
def afr (cst : am_K) (m : Int) (L : List Nat) (h h' : am_H) : Prop := ∀ (r : Nat) (i v : Int), ly_has r L = false → (r = 60092 → i ≠ 2 * m) → (r = 60093 ∨ r = 60094 → ¬ (40 * m ≤ i ∧ i < 40 * m + 20)) → (r = 33792 → i ≠ m) → ly_hv cst h r i = some v → ly_hv cst h' r i = some v
theorem afr_tr {cst : am_K} {m : Int} {L : List Nat} {h h1 h2 : am_H} (a : afr cst m L h h1) (b : afr cst m L h1 h2) : afr cst m L h h2 := fun r_9 i_9 v_9 q_9 x_9 y_9 z_9 e_9 => b r_9 i_9 v_9 q_9 x_9 y_9 z_9 (a r_9 i_9 v_9 q_9 x_9 y_9 z_9 e_9)
theorem afr_L {cst : am_K} {m : Int} {L : List Nat} {h h' : am_H} (f : ly_fr cst L h h') : afr cst m L h h' := fun r_9 i_9 v_9 q_9 _ _ _ e_9 => f r_9 i_9 v_9 q_9 e_9
theorem afr_sub {cst : am_K} {m : Int} {L L' : List Nat} {h h' : am_H} (q : L.all (fun r_9 => ly_has r_9 L') = true) (a : afr cst m L h h') : afr cst m L' h h' := fun r_9 i_9 v_9 hr x_9 y_9 z_9 e_9 => a r_9 i_9 v_9 (by
  cases hh : ly_has r_9 L with
  | false => rfl
  | true =>
    unfold ly_has at hh
    obtain ⟨w_9, hw, hwe⟩ := List.any_eq_true.mp hh
    have := List.all_eq_true.mp q w_9 hw
    rw [Nat.eq_of_beq_eq_true hwe] at this
    rw [this] at hr
    cases hr) x_9 y_9 z_9 e_9
theorem afr_ne {r q : Nat} {L : List Nat} (h : ly_has r L = false) (hq : ly_has q L = true) : r ≠ q := fun e_9 => by
  rw [e_9, hq] at h
  cases h
/-- the facts alleged of a matter, in the reference (ghosts) -/
def rGg (cst : am_K) (h : am_H) (m : Int) (ns vs : List Int) : Prop := ly_hv cst h 60092 (2 * m) = some (ns.length : Int) ∧ fn_N cst h 60093 (40 * m) ns ∧ fn_N cst h 60094 (40 * m) vs
theorem rGg_mv {cst : am_K} {h h' : am_H} {m : Int} {ns vs : List Int} {ms : List Nat} (G : rGg cst h m ns vs) (fr : ly_fr cst ms h h') (q1 : ly_has 60092 ms = false) (q2 : ly_has 60093 ms = false) (q3 : ly_has 60094 ms = false) : rGg cst h' m ns vs := ⟨fr _ _ _ q1 G.1, fn_mv G.2.1 fr q2, fn_mv G.2.2 fr q3⟩
theorem rG_gh {cst : am_K} {h : am_H} {m : Int} {ns vs : List Int} (G : rGg cst h m ns vs) (l2 : vs.length = ns.length) (l1 : ns.length ≤ 20) (vb : ∀ v_9 ∈ vs, 0 ≤ v_9 ∧ v_9 ≤ 9999) (nd : ndl ns) : rG cst h (2 * m) ns vs := ⟨gR_M G.1, fun k_9 hk => by
  have z_9 := gR_W (G.2.1 k_9 hk)
  rw [show 20 * (2 * m) = 40 * m by omega]
  exact z_9, fun k_9 hk => by
  have z_9 := gR_V (G.2.2 k_9 hk)
  rw [show 20 * (2 * m) = 40 * m by omega]
  exact z_9, l2, l1, vb, nd⟩
/-- keepFacts -/
theorem kf_run {cst : am_K} {strs : List Nat} {D : Nat} {h0 : am_H} (cc : ∀ d_9, hp_C cst strs d_9) (hD : 1 ≤ D) (hy0 : ly_hy m_tt ly_TH h0) {m : Int} (m0 : 0 ≤ m) (m1 : m ≤ 99) {ns vs : List Int} (ln1 : ns.length ≤ 20) (ln2 : vs.length = ns.length) (kz : ly_hv cst h0 27904 200 = some (ns.length : Int)) (A : fn_N cst h0 27392 4000 ns) (A' : fn_N cst h0 27648 4000 vs) {xq : Int32} (eq : xq.toInt = 2 * m) :
    ∃ r_9, am_Run cst m_cl m_tt m_P strs sx_bi (D + 1) 341 [.ref 94, .int xq] h0 r_9 ∧ (fun r_9 : am_Q => r_9.1 = none ∧ r_9.2.2.1 = 0 ∧ r_9.2.2.2 = 0 ∧ ly_hy m_tt ly_TH r_9.2.1 ∧ afr cst m [27392, 27648, 27904] h0 r_9.2.1 ∧ rGg cst r_9.2.1 m ns vs) r_9 := by
  obtain ⟨M_9, hM_9, hl⟩ := hp_M (mi := 341) (k := 2) (by decide +kernel)
  have c_9 : hp_C cst strs D := cc _
  have lp : ∀ (Q_9 : Nat) (h_9 : am_H) (l : am_L) (k_9 : Nat), k_9 + Q_9 = 20 → ly_hy m_tt ly_TH h_9 → afr cst m [27392, 27648, 27904] h0 h_9 → ly_hv cst h_9 60092 (2 * m) = some (ns.length : Int) → fn_N cst h_9 27392 4000 ns → fn_N cst h_9 27648 4000 vs → (∀ i_9 (hi_9 : i_9 < ns.length), i_9 < k_9 → ly_hv cst h_9 60093 (40 * m + (i_9 : Int)) = some (ns[i_9])) → (∀ i_9 (hi_9 : i_9 < vs.length), i_9 < k_9 → ly_hv cst h_9 60094 (40 * m + (i_9 : Int)) = some (vs[i_9])) → hp_a l 0 94 → hp_i l 1 (2 * m) → hp_i l 2 (k_9 : Int) → hp_F cst strs (fun r_9 : am_Q => r_9.1 = none ∧ r_9.2.2.1 = 0 ∧ r_9.2.2.2 = 0 ∧ ly_hy m_tt ly_TH r_9.2.1 ∧ afr cst m [27392, 27648, 27904] h0 r_9.2.1 ∧ rGg cst r_9.2.1 m ns vs) D M_9 16 l [] h_9 := by
    intro Q_9
    induction Q_9 with
    | zero =>
      intro h_9 l k_9 e_9 hy fr_9 kg B_9 B_9' C_9 C_9' l0 l1 l2
      have ek : k_9 = 20 := by omega
      subst ek
      exact kf5 c_9 hM_9 (by omega) hy m m0 m1 l0 l1 l2 (fun h2 u1_9 u2_9 u3 => ⟨rfl, rfl, rfl, u1_9, afr_tr fr_9 (afr_L (hp_sub2 rfl u2_9)), u2_9 _ _ _ rfl kg, fun i_9 hi_9 => u2_9 _ _ _ rfl (C_9 i_9 hi_9 (by omega)), fun i_9 hi_9 => u2_9 _ _ _ rfl (C_9' i_9 hi_9 (by omega))⟩)
    | succ Q_9 ih_9 =>
      intro h_9 l k_9 e_9 hy fr_9 kg B_9 B_9' C_9 C_9' l0 l1 l2
      obtain ⟨v_9, kv, v0_9, v1_9⟩ := hp_rowj (cst := cst) (i := 4000 + (k_9 : Int)) hy (show ly_ths ly_TH 107 = some (.inl (.long, 4020, 0, 0)) from rfl) (by omega) (by omega)
      have kv : ly_hv cst h_9 27392 (4000 + (k_9 : Int)) = some v_9 := kv
      have v0_9 : -9223372036854775808 ≤ v_9 := v0_9
      have v1_9 : v_9 ≤ 9223372036854775807 := v1_9
      refine kf2 c_9 hM_9 (by omega) hy m (k_9 : Int) v_9 m0 m1 (by omega) (by omega) v0_9 v1_9 (by rw [show (k_9 : Int) + 4000 = 4000 + (k_9 : Int) by omega]; exact kv) l0 l1 l2 (fun l3 h3 z0 z1 e0_9 e1_9 u1_9 u2_9 u3 g0 g1 g2 => ?_)
      refine hp_stj0 (c := 107) hM_9 (by decide +kernel) u1_9 (show ly_ths ly_TH 107 = some (.inl (.long, 4020, 0, 0)) from rfl) (by omega) (by omega) (fun h4 x1_9 x2_9 x3 => ?_)
      rw [e0_9, e1_9] at x3
      have x3 : hp_p0 cst 27392 (40 * m + (k_9 : Int)) v_9 h3 h4 := x3
      obtain ⟨p1_9, p2_9, p3_9⟩ := hp_pg_W x3
      obtain ⟨u_9, ku, w0_9, w1_9⟩ := hp_row (cst := cst) (i := 4000 + (k_9 : Int)) x1_9 (show ly_ths ly_TH 108 = some (.inl (.int, 4020, -2147483648, 2147483647)) from rfl) (by omega) (by omega)
      have ku : ly_hv cst h4 27648 (4000 + (k_9 : Int)) = some u_9 := ku
      refine kf3 c_9 hM_9 (by omega) x1_9 m (k_9 : Int) u_9 m0 m1 (by omega) (by omega) w0_9 w1_9 (by rw [show (k_9 : Int) + 4000 = 4000 + (k_9 : Int) by omega]; exact ku) g0 g1 g2 (fun l5 h5 z2 z3 e2_9 e3_9 t1_9 t2_9 t3_9 o0_9 o1 o2 => ?_)
      refine hp_st0 (c := 108) hM_9 (by decide +kernel) t1_9 (show ly_ths ly_TH 108 = some (.inl (.int, 4020, -2147483648, 2147483647)) from rfl) (by omega) (by omega) z2.le_toInt z2.toInt_le (fun h6 y1 y2 y3 => ?_)
      rw [e2_9, e3_9] at y3
      have y3 : hp_p0 cst 27648 (40 * m + (k_9 : Int)) u_9 h5 h6 := y3
      obtain ⟨q1_9, q2_9, q3_9⟩ := hp_pg_V y3
      have up_9 : ∀ r_9' i_9' w_9' h7, ly_fr cst [] h6 h7 → ((r_9' ≠ 27392 ∧ r_9' ≠ 60093) ∨ i_9' ≠ 40 * m + (k_9 : Int)) → ((r_9' ≠ 27648 ∧ r_9' ≠ 60094) ∨ i_9' ≠ 40 * m + (k_9 : Int)) → ly_hv cst h_9 r_9' i_9' = some w_9' → ly_hv cst h7 r_9' i_9' = some w_9' := fun r_9' i_9' w_9' h7 f_9 n1_9 n2_9 e_9 => by
        refine f_9 _ _ _ rfl ?_
        rw [q3_9 r_9' i_9' n2_9]
        refine t2_9 _ _ _ rfl ?_
        rw [p3_9 r_9' i_9' n1_9]
        exact u2_9 _ _ _ rfl e_9
      refine kf4 c_9 hM_9 (by omega) y1 m (k_9 : Int) m0 m1 (by omega) (by omega) o0_9 o1 o2 (fun l7 h7 a1_9 a2 a3 d0_9 d1_9 d2_9 => ih_9 h7 l7 (k_9 + 1) (by omega) a1_9 (afr_tr fr_9 (fun r_9 i_9 w_9 hr x_9 y_9 z_9 e_9 => ?_)) (up_9 _ _ _ h7 a2 (Or.inl ⟨by decide, by decide⟩) (Or.inl ⟨by decide, by decide⟩) kg) (fun i_9 hi_9 => up_9 _ _ _ h7 a2 (Or.inr (by omega)) (Or.inl ⟨by decide, by decide⟩) (B_9 i_9 hi_9)) (fun i_9 hi_9 => up_9 _ _ _ h7 a2 (Or.inl ⟨by decide, by decide⟩) (Or.inr (by omega)) (B_9' i_9 hi_9)) (fun i_9 hi_9 hk => ?_) (fun i_9 hi_9 hk => ?_) d0_9 d1_9 (by rw [show (((k_9 + 1 : Nat)) : Int) = (k_9 : Int) + 1 by omega]; exact d2_9))
      · exact up_9 r_9 i_9 w_9 h7 a2 (if e9 : r_9 = 60093 then Or.inr (fun w9 => y_9 (Or.inl e9) ⟨by omega, by omega⟩) else Or.inl ⟨afr_ne hr rfl, e9⟩) (if e9 : r_9 = 60094 then Or.inr (fun w9 => y_9 (Or.inr e9) ⟨by omega, by omega⟩) else Or.inl ⟨afr_ne hr rfl, e9⟩) e_9
      · by_cases z_9 : i_9 = k_9
        · subst z_9
          have ev_9 := Option.some.inj (kv.symm.trans (B_9 i_9 hi_9))
          refine a2 _ _ _ rfl ?_
          rw [q3_9 _ _ (Or.inl ⟨by decide, by decide⟩), ← ev_9]
          exact t2_9 _ _ _ rfl (p2_9 (by omega) (by omega) (by omega))
        · exact up_9 _ _ _ h7 a2 (Or.inr (by omega)) (Or.inl ⟨by decide, by decide⟩) (C_9 i_9 hi_9 (by omega))
      · by_cases z_9 : i_9 = k_9
        · subst z_9
          have ku0 : ly_hv cst h4 27648 (4000 + (i_9 : Int)) = some (vs[i_9]) := by
            rw [p3_9 _ _ (Or.inl ⟨by decide, by decide⟩)]
            exact u2_9 _ _ _ rfl (B_9' i_9 hi_9)
          have ev_9 := Option.some.inj (ku.symm.trans ku0)
          rw [← ev_9]
          exact a2 _ _ _ rfl (q2_9 (by omega) (by omega) (by omega))
        · exact up_9 _ _ _ h7 a2 (Or.inl ⟨by decide, by decide⟩) (Or.inr (by omega)) (C_9' i_9 hi_9 (by omega))
  have go_9 : hp_F cst strs (fun r_9 : am_Q => r_9.1 = none ∧ r_9.2.2.1 = 0 ∧ r_9.2.2.2 = 0 ∧ ly_hy m_tt ly_TH r_9.2.1 ∧ afr cst m [27392, 27648, 27904] h0 r_9.2.1 ∧ rGg cst r_9.2.1 m ns vs) D M_9 0 (lv_args 0 [.ref 94, .int xq]) [] h0 := by
    refine kf0 c_9 hM_9 (by omega) hy0 m (ns.length : Int) m0 m1 (by omega) (by omega) kz rfl ⟨xq, rfl, eq⟩ (fun l1 h1 z0 z1 e0_9 e1_9 u1_9 u2_9 u3 g0 g1 => ?_)
    refine hp_st0 (c := 109) hM_9 (by decide +kernel) u1_9 (show ly_ths ly_TH 109 = some (.inl (.int, 201, 0, 20)) from rfl) (by omega) (by omega) (by omega) (by omega) (fun h2 x1_9 x2_9 x3 => ?_)
    rw [e0_9, e1_9] at x3
    have x3 : hp_p0 cst 27904 (2 * m) (ns.length : Int) h1 h2 := x3
    obtain ⟨p1_9, p2_9, p3_9⟩ := hp_pg_M x3
    refine kf1 c_9 hM_9 (by omega) x1_9 m m0 m1 g0 g1 (fun l3 h3 v1_9 v2 v3 o0_9 o1 o2 => lp 20 h3 l3 0 (by omega) v1_9 (fun r_9 i_9 w_9 hr x_9 y_9 z_9 e_9 => ?_) (v2 _ _ _ rfl (p2_9 (by omega) (by omega) (by omega))) (fun i_9 hi_9 => ?_) (fun i_9 hi_9 => ?_) (fun i_9 hi_9 hk => absurd hk (Nat.not_lt_zero _)) (fun i_9 hi_9 hk => absurd hk (Nat.not_lt_zero _)) o0_9 o1 o2)
    · refine v2 _ _ _ rfl ?_
      rw [p3_9 r_9 i_9 (if e9 : r_9 = 60092 then Or.inr (x_9 e9) else Or.inl ⟨afr_ne hr rfl, e9⟩)]
      exact u2_9 _ _ _ rfl e_9
    · refine v2 _ _ _ rfl ?_
      rw [p3_9 _ _ (Or.inl ⟨by decide, by decide⟩)]
      exact u2_9 _ _ _ rfl (A i_9 hi_9)
    · refine v2 _ _ _ rfl ?_
      rw [p3_9 _ _ (Or.inl ⟨by decide, by decide⟩)]
      exact u2_9 _ _ _ rfl (A' i_9 hi_9)
  obtain ⟨n_9', r_9, hgo, r1_9, r2, r3, r4⟩ := go_9
  simp only [Nat.zero_add] at r2 r3
  exact ⟨r_9, Or.inr ⟨M_9, n_9', hM_9, hl, hgo⟩, r1_9, r2, r3, r4⟩
/-- allege of the reference -/
theorem ar_run {cst : am_K} {strs : List Nat} {D : Nat} {h0 : am_H} (cc : ∀ d_9, hp_C cst strs d_9) (hD : 10 ≤ D) (hy : ly_hy m_tt ly_TH h0) {f : Int → Int} {n : Int} {t : Nat} {kd pl vl : Int → Int} {en : Nat → Int} (TT : tkT f n t kd pl vl en) (n0 : 0 ≤ n) (n1 : n ≤ 1200) (ff : ∀ x_9, 0 ≤ x_9 → x_9 < n → gs_f cst h0 x_9 = f x_9) (kn : ly_hv cst h0 19969 0 = some n) {xm : Int32} {s : Int} (s0 : 0 ≤ s) (s1 : s ≤ 100) (ks : ly_hv cst h0 20024 0 = some s) (kc : ∀ j_9, 0 ≤ j_9 → j_9 < s → ∃ su st, ly_hv cst h0 28416 j_9 = some su ∧ ly_hv cst h0 30464 j_9 = some st ∧ (su = 0 ∨ su = 1) ∧ -2147483648 ≤ st ∧ st ≤ 2147483647) :
    ∃ r_9, am_Run cst m_cl m_tt m_P strs sx_bi (D + 1) 340 [.ref 94, .int xm] h0 r_9 ∧ (fun r_9 : am_Q => ∃ w_9 : Int32, r_9.1 = some (.int w_9) ∧ r_9.2.2.1 = 0 ∧ r_9.2.2.2 = 0 ∧ ly_hy m_tt ly_TH r_9.2.1 ∧ afr cst xm.toInt ar_mods h0 r_9.2.1 ∧ (ly_hv cst r_9.2.1 19969 0 = some 0 ∧ alP (fa kd vl t 21 0 [] []) s xm.toInt (ly_hv cst h0 28416 xm.toInt) (ly_hv cst h0 30464 xm.toInt) 0 w_9.toInt (ly_fr cst ar_mods h0 r_9.2.1) (fun ns vs => rGg cst r_9.2.1 xm.toInt ns vs ∧ ly_hv cst r_9.2.1 33792 xm.toInt = some 1))) r_9 := by
  obtain ⟨M_9, hM_9, hl⟩ := hp_M (mi := 340) (k := 2) (by decide +kernel)
  have c_9 : hp_C cst strs D := cc _
  have b0 := xm.le_toInt
  have b1 := xm.toInt_le
  have go_9 : hp_F cst strs (fun r_9 : am_Q => ∃ w_9 : Int32, r_9.1 = some (.int w_9) ∧ r_9.2.2.1 = 0 ∧ r_9.2.2.2 = 0 ∧ ly_hy m_tt ly_TH r_9.2.1 ∧ afr cst xm.toInt ar_mods h0 r_9.2.1 ∧ (ly_hv cst r_9.2.1 19969 0 = some 0 ∧ alP (fa kd vl t 21 0 [] []) s xm.toInt (ly_hv cst h0 28416 xm.toInt) (ly_hv cst h0 30464 xm.toInt) 0 w_9.toInt (ly_fr cst ar_mods h0 r_9.2.1) (fun ns vs => rGg cst r_9.2.1 xm.toInt ns vs ∧ ly_hv cst r_9.2.1 33792 xm.toInt = some 1))) D M_9 0 (lv_args 0 [.ref 94, .int xm]) [] h0 := by
    refine ar0 c_9 hM_9 (by omega) hy xm.toInt b0 b1 rfl ⟨xm, rfl, rfl⟩ (fun l1 h1 u1_9 u2_9 u3 g0 g1 => ?_)
    obtain ⟨r_9, hrun, r1_9, r2, r3, rhy, rfr, rk9, rn, rE_9⟩ := zo_take (D := D - 2) (cc _) (cc _) (by omega) u1_9 n0 n1 (u2_9 _ _ _ rfl kn)
    rw [show D - 2 + 1 + 1 = D by omega] at hrun
    refine hp_call (mi := 340) (pc := 1) (tg := 298) (na := 1) (c := 78) (ci := 12) (st0 := [.ref 94]) (st := []) (av := []) hM_9 (by decide +kernel) u1_9 rfl rfl rfl (by decide) hrun r2 r3 ?_
    rw [r1_9]
    have F1_9 : ly_fr cst ar_mods h0 r_9.2.1 := ly_fr_tr (hp_sub2 rfl u2_9) (hp_sub2 rfl rfr)
    have f1_9 : ∀ x_9, 0 ≤ x_9 → x_9 < n → gs_f cst r_9.2.1 x_9 = f x_9 := fun x_9 x0_9 x1_9 => by
      rw [gs_same hy rhy F1_9 rfl]
      exact ff x_9 x0_9 x1_9
    have E1_9 : gs_E f cst r_9.2.1 (en 0) n := by
      rw [TT.1]
      refine gs_ev (Int.le_refl 0) ?_ rE_9
      intro x_9 x0_9 x1_9
      rw [gs_same hy u1_9 u2_9 rfl]
      exact ff x_9 x0_9 x1_9
    have R1 : rs cst r_9.2.1 kd vl en t n 0 := rs_at TT (Nat.zero_le _) E1_9
    have vB9 := tkT_vB TT
    have ks_9' := F1_9 _ _ _ rfl ks
    have same_9 : ∀ h5, ly_fr cst [] r_9.2.1 h5 → ly_fr cst ar_mods h0 h5 := fun h5 t2_9 => ly_fr_tr F1_9 (hp_sub2 rfl t2_9)
    by_cases q1_9 : xm.toInt ≤ -1
    · exact ar1 c_9 hM_9 (by omega) rhy xm.toInt s b0 q1_9 s0 s1 ks_9' g0 g1 (fun h5 a_9 ha_9 t1_9 t2_9 t3_9 => ⟨a_9, rfl, rfl, rfl, t1_9, afr_L (same_9 h5 t2_9), t2_9 _ _ _ rfl rk9, fun _ => ⟨ha_9, same_9 h5 t2_9⟩, fun z_9 => by have := z_9.1; omega⟩)
    by_cases q2_9 : s ≤ xm.toInt
    · exact ar2 c_9 hM_9 (by omega) rhy xm.toInt s (by omega) b1 s0 s1 (by omega) ks_9' g0 g1 (fun h5 a_9 ha_9 t1_9 t2_9 t3_9 => ⟨a_9, rfl, rfl, rfl, t1_9, afr_L (same_9 h5 t2_9), t2_9 _ _ _ rfl rk9, fun _ => ⟨ha_9, same_9 h5 t2_9⟩, fun z_9 => by have := z_9.2.1; omega⟩)
    obtain ⟨su, st, k1_9, k2_9, e1_9, e3_9, e4_9⟩ := kc xm.toInt (by omega) (by omega)
    have k1_9' := F1_9 _ _ _ rfl k1_9
    have k2_9' := F1_9 _ _ _ rfl k2_9
    rcases e1_9 with e1_9 | e1_9
    rotate_left
    · rw [e1_9] at k1_9 k1_9'
      have no_9 : ¬ (0 ≤ xm.toInt ∧ xm.toInt < s ∧ ly_hv cst h0 28416 xm.toInt = some 0) := fun z_9 => by
        have := z_9.2.2
        rw [k1_9] at this
        exact absurd (Option.some.inj this) (by decide)
      exact ar3 c_9 hM_9 (by omega) rhy xm.toInt s (by omega) (by omega) s0 s1 (by omega) ks_9' k1_9' g0 g1 (fun h5 a_9 ha_9 t1_9 t2_9 t3_9 => ⟨a_9, rfl, rfl, rfl, t1_9, afr_L (same_9 h5 t2_9), t2_9 _ _ _ rfl rk9, fun _ => ⟨ha_9, same_9 h5 t2_9⟩, fun z_9 => absurd z_9 no_9⟩)
    rw [e1_9] at k1_9 k1_9'
    have ok_9 : 0 ≤ xm.toInt ∧ xm.toInt < s ∧ ly_hv cst h0 28416 xm.toInt = some 0 := ⟨by omega, by omega, k1_9⟩
    by_cases q5_9 : st = 0
    rotate_left
    · have ns : ly_hv cst h0 30464 xm.toInt ≠ some 0 := fun z_9 => by
        rw [k2_9] at z_9
        exact q5_9 (Option.some.inj z_9)
      by_cases q6_9 : st ≤ -1
      · exact ar40 c_9 hM_9 (by omega) rhy xm.toInt s st (by omega) (by omega) s0 s1 e3_9 q6_9 (by omega) ks_9' k1_9' k2_9' g0 g1 (fun h5 a_9 ha_9 t1_9 t2_9 t3_9 => ⟨a_9, rfl, rfl, rfl, t1_9, afr_L (same_9 h5 t2_9), t2_9 _ _ _ rfl rk9, fun z_9 => absurd ok_9 z_9, fun _ => ⟨fun _ => ⟨ha_9, same_9 h5 t2_9⟩, fun z_9 => absurd z_9 ns⟩⟩)
      · exact ar41 c_9 hM_9 (by omega) rhy xm.toInt s st (by omega) (by omega) s0 s1 (by omega) e4_9 (by omega) ks_9' k1_9' k2_9' g0 g1 (fun h5 a_9 ha_9 t1_9 t2_9 t3_9 => ⟨a_9, rfl, rfl, rfl, t1_9, afr_L (same_9 h5 t2_9), t2_9 _ _ _ rfl rk9, fun z_9 => absurd ok_9 z_9, fun _ => ⟨fun _ => ⟨ha_9, same_9 h5 t2_9⟩, fun z_9 => absurd z_9 ns⟩⟩)
    rw [q5_9] at k2_9 k2_9'
    refine ar5 c_9 hM_9 (by omega) rhy xm.toInt s (by omega) (by omega) s0 s1 (by omega) ks_9' k1_9' k2_9' g0 g1 (fun l3 h3 v1_9 v2 v3 p0_9 p1_9 => ?_)
    have F3 := same_9 h3 v2
    obtain ⟨q_9, hrunq, w_9, d1_9, d2_9, d3_9, dhy, dfr, dY, dN⟩ := gf_run (D := D - 2) (cc _) (cc _) (by omega) v1_9 TT n0 n1 (fun x_9 x0_9 x1_9 => by
      rw [gs_same hy v1_9 F3 rfl]
      exact ff x_9 x0_9 x1_9) (v2 _ _ _ rfl rn) (tkT_kb TT) (fun j_9 hj => ⟨fun e_9 => by have := (vB9 j_9 hj).1 e_9; omega, fun e_9 => (vB9 j_9 hj).2 e_9⟩) (rs_mv R1 v2 rfl)
    rw [show D - 2 + 1 + 1 = D by omega] at hrunq
    refine hp_call (mi := 340) (pc := 28) (tg := 327) (na := 1) (c := 78) (ci := 12) (st0 := [.ref 94]) (st := []) (av := []) hM_9 (by decide +kernel) v1_9 rfl rfl rfl (by decide) hrunq d2_9 d3_9 ?_
    rw [d1_9]
    have F4 : ly_fr cst ar_mods h0 q_9.2.1 := ly_fr_tr F3 (hp_sub2 rfl dfr)
    have rkQ : ly_hv cst q_9.2.1 19969 0 = some 0 := dfr _ _ _ rfl (v2 _ _ _ rfl rk9)
    cases hres : fa kd vl t 21 0 [] [] with
    | none =>
      exact ar6 c_9 hM_9 (by omega) dhy xm.toInt w_9 (dN hres) (by omega) (by omega) p0_9 p1_9 (fun h5 a_9 ha_9 t1_9 t2_9 t3_9 => ⟨a_9, rfl, rfl, rfl, t1_9, afr_L (ly_fr_tr F4 (hp_sub2 rfl t2_9)), t2_9 _ _ _ rfl rkQ, fun z_9 => absurd ok_9 z_9, fun _ => ⟨fun z_9 => absurd k2_9 z_9, fun _ => ⟨fun _ => ⟨ha_9, ly_fr_tr F4 (hp_sub2 rfl t2_9)⟩, fun ns vs e_9 => by cases e_9⟩⟩⟩)
    | some nv =>
      obtain ⟨ns, vs⟩ := nv
      obtain ⟨ew, kz, A4, A4'⟩ := dY ns vs hres
      obtain ⟨ln1, ln2⟩ := fa_len 21 0 [] [] rfl rfl ns vs hres
      refine ar7 c_9 hM_9 (by omega) dhy xm.toInt w_9 ew (by omega) (by omega) p0_9 p1_9 (fun l5 h5 z0 e0_9 t1_9 t2_9 t3_9 o0_9 o1 => ?_)
      obtain ⟨r6, hrun6, s1_9', s2_9', s3_9', shy, sfr, sG⟩ := kf_run (D := D - 1) cc (by omega) t1_9 (m := xm.toInt) (by omega) (by omega) ln1 ln2 (t2_9 _ _ _ rfl kz) (fn_mv A4 t2_9 rfl) (fn_mv A4' t2_9 rfl) (xq := z0) e0_9
      rw [show D - 1 + 1 = D by omega] at hrun6
      refine hp_call (mi := 340) (pc := 40) (tg := 341) (na := 2) (c := 78) (ci := 12) (st0 := [.int z0, .ref 94]) (st := []) (av := [.int z0]) hM_9 (by decide +kernel) t1_9 rfl rfl rfl (by decide) hrun6 s2_9' s3_9' ?_
      rw [s1_9']
      refine ar8 c_9 hM_9 (by omega) shy xm.toInt (by omega) (by omega) o0_9 o1 (fun l7 h7 z2 z3 e2_9 e3_9 y1 y2 y3 i0_9 i1_9 => ?_)
      have ez : z2 = 1 := Int32.toInt_inj.mp (show z2.toInt = (1 : Int32).toInt from e2_9)
      rw [ez]
      refine hp_sbo (c := 132) hM_9 (by decide +kernel) y1 (show ly_ths ly_TH 132 = some (.inl (.boolean, 100, 0, 1)) from rfl) rfl (by omega) (by omega) (by decide) (by decide) (fun h8 x1_9 x2_9 x3 => ?_)
      rw [e3_9] at x3
      have x3 : hp_put cst 33792 xm.toInt 1 h7 h8 := x3
      have G7 := rGg_mv sG y2 rfl rfl rfl
      have G8 : rGg cst h8 xm.toInt ns vs := ⟨by rw [x3.2 _ _ (Or.inl (by decide))]; exact G7.1, fun k_9 hk => by rw [x3.2 _ _ (Or.inl (by decide))]; exact G7.2.1 k_9 hk, fun k_9 hk => by rw [x3.2 _ _ (Or.inl (by decide))]; exact G7.2.2 k_9 hk⟩
      have P3 : afr cst xm.toInt ar_mods h7 h8 := fun r_9 i_9 v_9 _ _ _ z_9 e_9 => by
        rw [x3.2 r_9 i_9 (if e9 : r_9 = 33792 then Or.inr (z_9 e9) else Or.inl e9)]
        exact e_9
      refine ar9 c_9 hM_9 (by omega) x1_9 xm.toInt (ns.length : Int) (by omega) (by omega) (by omega) (by omega) (gR_M G8.1) i0_9 i1_9 (fun h9 a_9 ha_9 j1 j2_9 j3_9 => ⟨a_9, rfl, rfl, rfl, j1, ?_, ?_, fun z_9 => absurd ok_9 z_9, fun _ => ⟨fun z_9 => absurd k2_9 z_9, fun _ => ⟨fun e_9 => (by cases e_9), fun ns' vs' e_9 => ?_⟩⟩⟩)
      · exact afr_tr (afr_L (ly_fr_tr F4 (hp_sub2 rfl t2_9))) (afr_tr (afr_sub rfl sfr) (afr_tr (afr_L (hp_sub2 rfl y2)) (afr_tr P3 (afr_L (hp_sub2 rfl j2_9)))))
      · refine j2_9 _ _ _ rfl ?_
        rw [x3.2 _ _ (Or.inl (by decide))]
        exact y2 _ _ _ rfl (sfr _ _ _ rfl (fun z_9 => by omega) (fun z_9 => by omega) (fun z_9 => by omega) (t2_9 _ _ _ rfl rkQ))
      · cases e_9
        exact ⟨ha_9, rGg_mv G8 j2_9 rfl rfl rfl, j2_9 _ _ _ rfl x3.1⟩
  obtain ⟨n_9', r_9, hgo, w_9, r1_9, r2, r3, r4⟩ := go_9
  simp only [Nat.zero_add] at r2 r3
  exact ⟨r_9, Or.inr ⟨M_9, n_9', hM_9, hl, hgo⟩, w_9, r1_9, r2, r3, r4⟩
