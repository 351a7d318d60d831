/-! PRINTED by wip/p2/hp_facts2.py: readFacts of the reference, exactly -/
theorem gf0_k : hp_chk 327 0 0 [] [] [(0, .inr (.inr (.inl (some 94))))] [] [] [27904] 8 [(9, ([], 0, [], [], [(0, .inr (.inr (.inl (some 94))))], [], [(27904, (200, []), (0, []))]))] [] = true := by decide +kernel
theorem gf0 {cst : am_K} {strs : List Nat} {Φ : am_Q → Prop} {D : Nat} {M : am_M} {h : am_H} {l : am_L} (c : hp_C cst strs D) (hM : m_P[327]? = some M) (hD : (8 : Int) ≤ (D : Int) + 1) (hy : ly_hy m_tt ly_TH h) (l0 : hp_a l 0 94) (e0 : ∀ (l' : am_L) (h' : am_H), ly_hy m_tt ly_TH h' → ly_fr cst [27904] h h' → h.length ≤ h'.length → ly_hv cst h' 27904 200 = some 0 → hp_a l' 0 94 → hp_F cst strs Φ D M 9 l' [] h') : hp_F cst strs Φ D M 0 l [] h := by
  refine hp_arc c hM gf0_k hD [] rfl hy hp_Bn hp_Fn hp_Kn (hp_La l0 hp_Ln) trivial ?_ ?_
  · intro p_9 hp ys l' st' h' hys a1_9 a2 a3 gZ gL gS
    rcases List.mem_cons.mp hp with rfl | hp
    · obtain rfl := hp_y0 hys
      cases hp_gSn gS
      exact e0 l' h' a1_9 a2 a3 (hp_gK (zi := (200 + 0)) (zv := (0 + 0)) gZ.2.2.2 (List.mem_of_getElem? (i := 0) rfl) rfl rfl (by omega) (by omega)) (hp_gLa gL (List.mem_of_getElem? (i := 0) rfl) (by decide))
    cases hp
  · intro p_9 hp ys v_9 h' hys a1_9 a2 a3 gZ gS
    cases hp
theorem gfE_k : hp_chk 327 9 1 [(0, 0, 20)] [] [(0, .inr (.inr (.inl (some 94))))] [] [(19971, (0, []), (8, [])), (27904, (200, []), (0, [(0, 1)]))] [] 8 [] [([], 1, [(0, 0, 20)], [], [], [.inl (1, [])], [(27904, (200, []), (0, [(0, 1)]))])] = true := by decide +kernel
theorem gfE {cst : am_K} {strs : List Nat} {Φ : am_Q → Prop} {D : Nat} {M : am_M} {h : am_H} {l : am_L} (c : hp_C cst strs D) (hM : m_P[327]? = some M) (hD : (8 : Int) ≤ (D : Int) + 1) (hy : ly_hy m_tt ly_TH h) (m : Int) (b0 : 0 ≤ m) (t0 : m ≤ 20) (k0 : ly_hv cst h 19971 0 = some 8) (k1 : ly_hv cst h 27904 200 = some (m)) (l0 : hp_a l 0 94) (r0 : ∀ (h' : am_H) (y0 : Int32), y0.toInt = 1 → ly_hy m_tt ly_TH h' → ly_fr cst [] h h' → h.length ≤ h'.length → ly_hv cst h' 27904 200 = some (m) → Φ (some (.int y0), h', 0, 0)) : hp_F cst strs Φ D M 9 l [] h := by
  refine hp_arc c hM gfE_k hD [m] rfl hy (hp_Bc (z := m) rfl b0 t0 hp_Bn) hp_Fn (hp_Kc (zi := (0 + 0)) (zv := (8 + 0)) k0 rfl rfl (by omega) (by omega) (hp_Kc (zi := (200 + 0)) (zv := (0 + (1 * m + 0))) k1 rfl rfl (by omega) (by omega) hp_Kn)) (hp_La l0 hp_Ln) trivial ?_ ?_
  · intro p_9 hp ys l' st' h' hys a1_9 a2 a3 gZ gL gS
    cases hp
  · intro p_9 hp ys v_9 h' hys a1_9 a2 a3 gZ gS
    rcases List.mem_cons.mp hp with rfl | hp
    · obtain rfl := hp_y0 hys
      cases v_9 with
      | none => cases gS
      | some wz =>
        obtain ⟨y0, t0, s0_9, q0, -⟩ := hp_gSi (z := (1 + 0)) gS rfl
        cases s0_9
        exact r0 h' y0 (by omega) a1_9 a2 a3 (hp_gK (zi := (200 + 0)) (zv := (0 + (1 * m + 0))) gZ.2.2.2 (List.mem_of_getElem? (i := 0) rfl) rfl rfl (by omega) (by omega))
    cases hp
theorem gfA_k : hp_chk 327 9 0 [] [] [(0, .inr (.inr (.inl (some 94))))] [] [(19971, (0, []), (1, [])), (27904, (200, []), (20, []))] [] 8 [] [([], 0, [], [], [], [.inl (0, [])], [])] = true := by decide +kernel
theorem gfA {cst : am_K} {strs : List Nat} {Φ : am_Q → Prop} {D : Nat} {M : am_M} {h : am_H} {l : am_L} (c : hp_C cst strs D) (hM : m_P[327]? = some M) (hD : (8 : Int) ≤ (D : Int) + 1) (hy : ly_hy m_tt ly_TH h) (k0 : ly_hv cst h 19971 0 = some 1) (k1 : ly_hv cst h 27904 200 = some 20) (l0 : hp_a l 0 94) (r0 : ∀ (h' : am_H) (y0 : Int32), y0.toInt = 0 → ly_hy m_tt ly_TH h' → ly_fr cst [] h h' → h.length ≤ h'.length → Φ (some (.int y0), h', 0, 0)) : hp_F cst strs Φ D M 9 l [] h := by
  refine hp_arc c hM gfA_k hD [] rfl hy hp_Bn hp_Fn (hp_Kc (zi := (0 + 0)) (zv := (1 + 0)) k0 rfl rfl (by omega) (by omega) (hp_Kc (zi := (200 + 0)) (zv := (20 + 0)) k1 rfl rfl (by omega) (by omega) hp_Kn)) (hp_La l0 hp_Ln) trivial ?_ ?_
  · intro p_9 hp ys l' st' h' hys a1_9 a2 a3 gZ gL gS
    cases hp
  · intro p_9 hp ys v_9 h' hys a1_9 a2 a3 gZ gS
    rcases List.mem_cons.mp hp with rfl | hp
    · obtain rfl := hp_y0 hys
      cases v_9 with
      | none => cases gS
      | some wz =>
        obtain ⟨y0, t0_9, s0_9, q0, -⟩ := hp_gSi (z := (0 + 0)) gS rfl
        cases s0_9
        exact r0 h' y0 (by omega) a1_9 a2 a3
    cases hp
theorem gfB0_k : hp_chk 327 9 2 [(0, 0, 20), (1, 0, 0)] [] [(0, .inr (.inr (.inl (some 94))))] [] [(19971, (0, []), (0, [(1, 1)])), (27904, (200, []), (0, [(0, 1)]))] [] 8 [] [([], 2, [(0, 0, 20), (1, 0, 0)], [], [], [.inl (0, [])], [])] = true := by decide +kernel
theorem gfB0 {cst : am_K} {strs : List Nat} {Φ : am_Q → Prop} {D : Nat} {M : am_M} {h : am_H} {l : am_L} (c : hp_C cst strs D) (hM : m_P[327]? = some M) (hD : (8 : Int) ≤ (D : Int) + 1) (hy : ly_hy m_tt ly_TH h) (m q : Int) (b0 : 0 ≤ m) (t0 : m ≤ 20) (b1 : 0 ≤ q) (t1 : q ≤ 0) (k0 : ly_hv cst h 19971 0 = some (q)) (k1 : ly_hv cst h 27904 200 = some (m)) (l0 : hp_a l 0 94) (r0 : ∀ (h' : am_H) (y0 : Int32), y0.toInt = 0 → ly_hy m_tt ly_TH h' → ly_fr cst [] h h' → h.length ≤ h'.length → Φ (some (.int y0), h', 0, 0)) : hp_F cst strs Φ D M 9 l [] h := by
  refine hp_arc c hM gfB0_k hD [m, q] rfl hy (hp_Bc (z := m) rfl b0 t0 (hp_Bc (z := q) rfl b1 t1 hp_Bn)) hp_Fn (hp_Kc (zi := (0 + 0)) (zv := (0 + (1 * q + 0))) k0 rfl rfl (by omega) (by omega) (hp_Kc (zi := (200 + 0)) (zv := (0 + (1 * m + 0))) k1 rfl rfl (by omega) (by omega) hp_Kn)) (hp_La l0 hp_Ln) trivial ?_ ?_
  · intro p_9 hp ys l' st' h' hys a1_9 a2 a3 gZ gL gS
    cases hp
  · intro p_9 hp ys v_9 h' hys a1_9 a2 a3 gZ gS
    rcases List.mem_cons.mp hp with rfl | hp
    · obtain rfl := hp_y0 hys
      cases v_9 with
      | none => cases gS
      | some wz =>
        obtain ⟨y0, t0, s0_9, q0, -⟩ := hp_gSi (z := (0 + 0)) gS rfl
        cases s0_9
        exact r0 h' y0 (by omega) a1_9 a2 a3
    cases hp
theorem gfB1_k : hp_chk 327 9 2 [(0, 0, 20), (1, 2, 7)] [] [(0, .inr (.inr (.inl (some 94))))] [] [(19971, (0, []), (0, [(1, 1)])), (27904, (200, []), (0, [(0, 1)]))] [] 8 [] [([], 2, [(0, 0, 20), (1, 2, 7)], [], [], [.inl (0, [])], [])] = true := by decide +kernel
theorem gfB1 {cst : am_K} {strs : List Nat} {Φ : am_Q → Prop} {D : Nat} {M : am_M} {h : am_H} {l : am_L} (c : hp_C cst strs D) (hM : m_P[327]? = some M) (hD : (8 : Int) ≤ (D : Int) + 1) (hy : ly_hy m_tt ly_TH h) (m q : Int) (b0 : 0 ≤ m) (t0 : m ≤ 20) (b1 : 2 ≤ q) (t1 : q ≤ 7) (k0 : ly_hv cst h 19971 0 = some (q)) (k1 : ly_hv cst h 27904 200 = some (m)) (l0 : hp_a l 0 94) (r0 : ∀ (h' : am_H) (y0 : Int32), y0.toInt = 0 → ly_hy m_tt ly_TH h' → ly_fr cst [] h h' → h.length ≤ h'.length → Φ (some (.int y0), h', 0, 0)) : hp_F cst strs Φ D M 9 l [] h := by
  refine hp_arc c hM gfB1_k hD [m, q] rfl hy (hp_Bc (z := m) rfl b0 t0 (hp_Bc (z := q) rfl b1 t1 hp_Bn)) hp_Fn (hp_Kc (zi := (0 + 0)) (zv := (0 + (1 * q + 0))) k0 rfl rfl (by omega) (by omega) (hp_Kc (zi := (200 + 0)) (zv := (0 + (1 * m + 0))) k1 rfl rfl (by omega) (by omega) hp_Kn)) (hp_La l0 hp_Ln) trivial ?_ ?_
  · intro p_9 hp ys l' st' h' hys a1_9 a2 a3 gZ gL gS
    cases hp
  · intro p_9 hp ys v_9 h' hys a1_9 a2 a3 gZ gS
    rcases List.mem_cons.mp hp with rfl | hp
    · obtain rfl := hp_y0 hys
      cases v_9 with
      | none => cases gS
      | some wz =>
        obtain ⟨y0, t0, s0_9, q0, -⟩ := hp_gSi (z := (0 + 0)) gS rfl
        cases s0_9
        exact r0 h' y0 (by omega) a1_9 a2 a3
    cases hp
theorem gfC_k : hp_chk 327 9 1 [(0, 0, 19)] [] [(0, .inr (.inr (.inl (some 94))))] [] [(19971, (0, []), (1, [])), (27904, (200, []), (0, [(0, 1)]))] [] 8 [(45, ([], 1, [(0, 0, 19)], [], [(0, .inr (.inr (.inl (some 94)))), (1, .inl (0, [(0, 1)])), (2, .inl (0, []))], [], []))] [] = true := by decide +kernel
theorem gfC {cst : am_K} {strs : List Nat} {Φ : am_Q → Prop} {D : Nat} {M : am_M} {h : am_H} {l : am_L} (c : hp_C cst strs D) (hM : m_P[327]? = some M) (hD : (8 : Int) ≤ (D : Int) + 1) (hy : ly_hy m_tt ly_TH h) (m : Int) (b0 : 0 ≤ m) (t0 : m ≤ 19) (k0 : ly_hv cst h 19971 0 = some 1) (k1 : ly_hv cst h 27904 200 = some (m)) (l0 : hp_a l 0 94) (e0 : ∀ (l' : am_L) (h' : am_H), ly_hy m_tt ly_TH h' → ly_fr cst [] h h' → h.length ≤ h'.length → hp_a l' 0 94 → hp_i l' 1 (m) → hp_i l' 2 0 → hp_F cst strs Φ D M 45 l' [] h') : hp_F cst strs Φ D M 9 l [] h := by
  refine hp_arc c hM gfC_k hD [m] rfl hy (hp_Bc (z := m) rfl b0 t0 hp_Bn) hp_Fn (hp_Kc (zi := (0 + 0)) (zv := (1 + 0)) k0 rfl rfl (by omega) (by omega) (hp_Kc (zi := (200 + 0)) (zv := (0 + (1 * m + 0))) k1 rfl rfl (by omega) (by omega) hp_Kn)) (hp_La l0 hp_Ln) trivial ?_ ?_
  · intro p_9 hp ys l' st' h' hys a1_9 a2 a3 gZ gL gS
    rcases List.mem_cons.mp hp with rfl | hp
    · obtain rfl := hp_y0 hys
      cases hp_gSn gS
      exact e0 l' h' a1_9 a2 a3 (hp_gLa gL (List.mem_of_getElem? (i := 0) rfl) (by decide)) (hp_gLi (z := (0 + (1 * m + 0))) gL (List.mem_of_getElem? (i := 1) rfl) rfl (by omega)) (hp_gLi (z := (0 + 0)) gL (List.mem_of_getElem? (i := 2) rfl) rfl (by omega))
    cases hp
  · intro p_9 hp ys v_9 h' hys a1_9 a2 a3 gZ gS
    cases hp
theorem gfD_k : hp_chk 327 45 4 [(0, 0, 19), (1, 0, 18), (2, 0, 1152921504606846976), (3, 0, 1152921504606846976)] [((-1), [(0, 1), (1, (-1))])] [(0, .inr (.inr (.inl (some 94)))), (1, .inl (0, [(0, 1)])), (2, .inl (0, [(1, 1)]))] [] [(19976, (0, []), (0, [(2, 1)])), (27392, (4000, [(1, 1)]), (0, [(3, 1)])), (61000, (0, [(2, (-1)), (3, 1)]), (1, []))] [] 8 [(45, ([], 4, [(0, 0, 19), (1, 0, 18), (2, 0, 1152921504606846976), (3, 0, 1152921504606846976)], [], [(0, .inr (.inr (.inl (some 94)))), (1, .inl (0, [(0, 1)])), (2, .inl (1, [(1, 1)]))], [], []))] [] = true := by decide +kernel
theorem gfD {cst : am_K} {strs : List Nat} {Φ : am_Q → Prop} {D : Nat} {M : am_M} {h : am_H} {l : am_L} (c : hp_C cst strs D) (hM : m_P[327]? = some M) (hD : (8 : Int) ≤ (D : Int) + 1) (hy : ly_hy m_tt ly_TH h) (m i v x : Int) (b0 : 0 ≤ m) (t0 : m ≤ 19) (b1 : 0 ≤ i) (t1 : i ≤ 18) (b2 : 0 ≤ v) (t2 : v ≤ 1152921504606846976) (b3 : 0 ≤ x) (t3 : x ≤ 1152921504606846976) (f0 : 0 ≤ (m - i - 1)) (k0 : ly_hv cst h 19976 0 = some (v)) (k1 : ly_hv cst h 27392 (i + 4000) = some (x)) (k2 : ly_hv cst h 61000 (x - v) = some 1) (l0 : hp_a l 0 94) (l1 : hp_i l 1 (m)) (l2 : hp_i l 2 (i)) (e0 : ∀ (l' : am_L) (h' : am_H), ly_hy m_tt ly_TH h' → ly_fr cst [] h h' → h.length ≤ h'.length → hp_a l' 0 94 → hp_i l' 1 (m) → hp_i l' 2 (i + 1) → hp_F cst strs Φ D M 45 l' [] h') : hp_F cst strs Φ D M 45 l [] h := by
  refine hp_arc c hM gfD_k hD [m, i, v, x] rfl hy (hp_Bc (z := m) rfl b0 t0 (hp_Bc (z := i) rfl b1 t1 (hp_Bc (z := v) rfl b2 t2 (hp_Bc (z := x) rfl b3 t3 hp_Bn)))) (hp_Fc (z := ((-1) + (1 * m + ((-1) * i + 0)))) rfl (by omega) hp_Fn) (hp_Kc (zi := (0 + 0)) (zv := (0 + (1 * v + 0))) k0 rfl rfl (by omega) (by omega) (hp_Kc (zi := (4000 + (1 * i + 0))) (zv := (0 + (1 * x + 0))) k1 rfl rfl (by omega) (by omega) (hp_Kc (zi := (0 + ((-1) * v + (1 * x + 0)))) (zv := (1 + 0)) k2 rfl rfl (by omega) (by omega) hp_Kn))) (hp_La l0 (hp_Li (z := (0 + (1 * m + 0))) l1 rfl (by omega) (hp_Li (z := (0 + (1 * i + 0))) l2 rfl (by omega) hp_Ln))) trivial ?_ ?_
  · intro p_9 hp ys l' st' h' hys a1_9 a2 a3 gZ gL gS
    rcases List.mem_cons.mp hp with rfl | hp
    · obtain rfl := hp_y0 hys
      cases hp_gSn gS
      exact e0 l' h' a1_9 a2 a3 (hp_gLa gL (List.mem_of_getElem? (i := 0) rfl) (by decide)) (hp_gLi (z := (0 + (1 * m + 0))) gL (List.mem_of_getElem? (i := 1) rfl) rfl (by omega)) (hp_gLi (z := (1 + (1 * i + 0))) gL (List.mem_of_getElem? (i := 2) rfl) rfl (by omega))
    cases hp
  · intro p_9 hp ys v h' hys a1_9 a2 a3 gZ gS
    cases hp
theorem gfF_k : hp_chk 327 45 3 [(0, 0, 19), (1, 0, 18), (2, 0, 1152921504606846976)] [((-1), [(0, 1), (1, (-1))])] [(0, .inr (.inr (.inl (some 94)))), (1, .inl (0, [(0, 1)])), (2, .inl (0, [(1, 1)]))] [] [(19976, (0, []), (0, [(2, 1)])), (27392, (4000, [(1, 1)]), (0, [(2, 1)]))] [] 8 [] [([], 3, [(0, 0, 19), (1, 0, 18), (2, 0, 1152921504606846976)], [], [], [.inl (0, [])], [])] = true := by decide +kernel
theorem gfF {cst : am_K} {strs : List Nat} {Φ : am_Q → Prop} {D : Nat} {M : am_M} {h : am_H} {l : am_L} (c : hp_C cst strs D) (hM : m_P[327]? = some M) (hD : (8 : Int) ≤ (D : Int) + 1) (hy : ly_hy m_tt ly_TH h) (m i v : Int) (b0 : 0 ≤ m) (t0 : m ≤ 19) (b1 : 0 ≤ i) (t1 : i ≤ 18) (b2 : 0 ≤ v) (t2 : v ≤ 1152921504606846976) (f0 : 0 ≤ (m - i - 1)) (k0 : ly_hv cst h 19976 0 = some (v)) (k1 : ly_hv cst h 27392 (i + 4000) = some (v)) (l0 : hp_a l 0 94) (l1 : hp_i l 1 (m)) (l2 : hp_i l 2 (i)) (r0 : ∀ (h' : am_H) (y0 : Int32), y0.toInt = 0 → ly_hy m_tt ly_TH h' → ly_fr cst [] h h' → h.length ≤ h'.length → Φ (some (.int y0), h', 0, 0)) : hp_F cst strs Φ D M 45 l [] h := by
  refine hp_arc c hM gfF_k hD [m, i, v] rfl hy (hp_Bc (z := m) rfl b0 t0 (hp_Bc (z := i) rfl b1 t1 (hp_Bc (z := v) rfl b2 t2 hp_Bn))) (hp_Fc (z := ((-1) + (1 * m + ((-1) * i + 0)))) rfl (by omega) hp_Fn) (hp_Kc (zi := (0 + 0)) (zv := (0 + (1 * v + 0))) k0 rfl rfl (by omega) (by omega) (hp_Kc (zi := (4000 + (1 * i + 0))) (zv := (0 + (1 * v + 0))) k1 rfl rfl (by omega) (by omega) hp_Kn)) (hp_La l0 (hp_Li (z := (0 + (1 * m + 0))) l1 rfl (by omega) (hp_Li (z := (0 + (1 * i + 0))) l2 rfl (by omega) hp_Ln))) trivial ?_ ?_
  · intro p_9 hp ys l' st' h' hys a1_9 a2 a3 gZ gL gS
    cases hp
  · intro p_9 hp ys v h' hys a1_9 a2 a3 gZ gS
    rcases List.mem_cons.mp hp with rfl | hp
    · obtain rfl := hp_y0 hys
      cases v with
      | none => cases gS
      | some wz =>
        obtain ⟨y0, t0, s0_9, q0, -⟩ := hp_gSi (z := (0 + 0)) gS rfl
        cases s0_9
        exact r0 h' y0 (by omega) a1_9 a2 a3
    cases hp
theorem gfG_k : hp_chk 327 45 2 [(0, 0, 19), (1, 0, 1152921504606846976)] [] [(0, .inr (.inr (.inl (some 94)))), (1, .inl (0, [(0, 1)])), (2, .inl (0, [(0, 1)]))] [] [(19976, (0, []), (0, [(1, 1)]))] [] 8 [(89, ([], 2, [(0, 0, 19), (1, 0, 1152921504606846976)], [], [(0, .inr (.inr (.inl (some 94)))), (1, .inl (0, [(0, 1)]))], [.inr (.inl (0, [(1, 1)])), .inl (4000, [(0, 1)]), .inr (.inr (.inl (some 123)))], []))] [] = true := by decide +kernel
theorem gfG {cst : am_K} {strs : List Nat} {Φ : am_Q → Prop} {D : Nat} {M : am_M} {h : am_H} {l : am_L} (c : hp_C cst strs D) (hM : m_P[327]? = some M) (hD : (8 : Int) ≤ (D : Int) + 1) (hy : ly_hy m_tt ly_TH h) (m v : Int) (b0 : 0 ≤ m) (t0 : m ≤ 19) (b1 : 0 ≤ v) (t1 : v ≤ 1152921504606846976) (k0 : ly_hv cst h 19976 0 = some (v)) (l0 : hp_a l 0 94) (l1 : hp_i l 1 (m)) (l2 : hp_i l 2 (m)) (e0 : ∀ (l' : am_L) (h' : am_H) (y0 : Int64) (y1 : Int32), y0.toInt = (v) → y1.toInt = (m + 4000) → ly_hy m_tt ly_TH h' → ly_fr cst [] h h' → h.length ≤ h'.length → hp_a l' 0 94 → hp_i l' 1 (m) → hp_F cst strs Φ D M 89 l' [.long y0, .int y1, .ref 123] h') : hp_F cst strs Φ D M 45 l [] h := by
  refine hp_arc c hM gfG_k hD [m, v] rfl hy (hp_Bc (z := m) rfl b0 t0 (hp_Bc (z := v) rfl b1 t1 hp_Bn)) hp_Fn (hp_Kc (zi := (0 + 0)) (zv := (0 + (1 * v + 0))) k0 rfl rfl (by omega) (by omega) hp_Kn) (hp_La l0 (hp_Li (z := (0 + (1 * m + 0))) l1 rfl (by omega) (hp_Li (z := (0 + (1 * m + 0))) l2 rfl (by omega) hp_Ln))) trivial ?_ ?_
  · intro p_9 hp ys l' st' h' hys a1_9 a2 a3 gZ gL gS
    rcases List.mem_cons.mp hp with rfl | hp
    · obtain rfl := hp_y0 hys
      obtain ⟨y0, t0, rfl, q0, g0⟩ := hp_gSj (z := (0 + (1 * v + 0))) gS rfl
      obtain ⟨y1, t1, rfl, q1_9, g1⟩ := hp_gSi (z := (4000 + (1 * m + 0))) g0 rfl
      obtain ⟨t2_9, rfl, g2⟩ := hp_gSa g1 (by decide)
      cases hp_gSn g2
      exact e0 l' h' y0 y1 (by omega) (by omega) a1_9 a2 a3 (hp_gLa gL (List.mem_of_getElem? (i := 0) rfl) (by decide)) (hp_gLi (z := (0 + (1 * m + 0))) gL (List.mem_of_getElem? (i := 1) rfl) rfl (by omega))
    cases hp
  · intro p_9 hp ys v h' hys a1_9 a2 a3 gZ gS
    cases hp
theorem gfH_k : hp_chk 327 90 1 [(0, 0, 19)] [] [(0, .inr (.inr (.inl (some 94)))), (1, .inl (0, [(0, 1)]))] [] [] [] 8 [(100, ([], 1, [(0, 0, 19)], [], [(0, .inr (.inr (.inl (some 94)))), (1, .inl (0, [(0, 1)]))], [.inl (1, []), .inl (4000, [(0, 1)]), .inr (.inr (.inl (some 124)))], []))] [] = true := by decide +kernel
theorem gfH {cst : am_K} {strs : List Nat} {Φ : am_Q → Prop} {D : Nat} {M : am_M} {h : am_H} {l : am_L} (c : hp_C cst strs D) (hM : m_P[327]? = some M) (hD : (8 : Int) ≤ (D : Int) + 1) (hy : ly_hy m_tt ly_TH h) (m : Int) (b0 : 0 ≤ m) (t0 : m ≤ 19) (l0 : hp_a l 0 94) (l1 : hp_i l 1 (m)) (e0 : ∀ (l' : am_L) (h' : am_H) (y0 : Int32) (y1 : Int32), y0.toInt = 1 → y1.toInt = (m + 4000) → ly_hy m_tt ly_TH h' → ly_fr cst [] h h' → h.length ≤ h'.length → hp_a l' 0 94 → hp_i l' 1 (m) → hp_F cst strs Φ D M 100 l' [.int y0, .int y1, .ref 124] h') : hp_F cst strs Φ D M 90 l [] h := by
  refine hp_arc c hM gfH_k hD [m] rfl hy (hp_Bc (z := m) rfl b0 t0 hp_Bn) hp_Fn hp_Kn (hp_La l0 (hp_Li (z := (0 + (1 * m + 0))) l1 rfl (by omega) hp_Ln)) trivial ?_ ?_
  · intro p_9 hp ys l' st' h' hys a1_9 a2 a3 gZ gL gS
    rcases List.mem_cons.mp hp with rfl | hp
    · obtain rfl := hp_y0 hys
      obtain ⟨y0, t0, rfl, q0, g0⟩ := hp_gSi (z := (1 + 0)) gS rfl
      obtain ⟨y1, t1_9, rfl, q1_9, g1⟩ := hp_gSi (z := (4000 + (1 * m + 0))) g0 rfl
      obtain ⟨t2_9, rfl, g2⟩ := hp_gSa g1 (by decide)
      cases hp_gSn g2
      exact e0 l' h' y0 y1 (by omega) (by omega) a1_9 a2 a3 (hp_gLa gL (List.mem_of_getElem? (i := 0) rfl) (by decide)) (hp_gLi (z := (0 + (1 * m + 0))) gL (List.mem_of_getElem? (i := 1) rfl) rfl (by omega))
    cases hp
  · intro p_9 hp ys v_9 h' hys a1_9 a2 a3 gZ gS
    cases hp
theorem gfH2_k : hp_chk 327 101 1 [(0, 0, 19)] [] [(0, .inr (.inr (.inl (some 94)))), (1, .inl (0, [(0, 1)]))] [] [] [] 8 [(102, ([], 1, [(0, 0, 19)], [], [(0, .inr (.inr (.inl (some 94)))), (1, .inl (0, [(0, 1)]))], [.inr (.inr (.inl (some 94)))], []))] [] = true := by decide +kernel
theorem gfH2 {cst : am_K} {strs : List Nat} {Φ : am_Q → Prop} {D : Nat} {M : am_M} {h : am_H} {l : am_L} (c : hp_C cst strs D) (hM : m_P[327]? = some M) (hD : (8 : Int) ≤ (D : Int) + 1) (hy : ly_hy m_tt ly_TH h) (m : Int) (b0 : 0 ≤ m) (t0 : m ≤ 19) (l0 : hp_a l 0 94) (l1 : hp_i l 1 (m)) (e0 : ∀ (l' : am_L) (h' : am_H), ly_hy m_tt ly_TH h' → ly_fr cst [] h h' → h.length ≤ h'.length → hp_a l' 0 94 → hp_i l' 1 (m) → hp_F cst strs Φ D M 102 l' [.ref 94] h') : hp_F cst strs Φ D M 101 l [] h := by
  refine hp_arc c hM gfH2_k hD [m] rfl hy (hp_Bc (z := m) rfl b0 t0 hp_Bn) hp_Fn hp_Kn (hp_La l0 (hp_Li (z := (0 + (1 * m + 0))) l1 rfl (by omega) hp_Ln)) trivial ?_ ?_
  · intro p_9 hp ys l' st' h' hys a1_9 a2 a3 gZ gL gS
    rcases List.mem_cons.mp hp with rfl | hp
    · obtain rfl := hp_y0 hys
      obtain ⟨t0, rfl, g0⟩ := hp_gSa gS (by decide)
      cases hp_gSn g0
      exact e0 l' h' a1_9 a2 a3 (hp_gLa gL (List.mem_of_getElem? (i := 0) rfl) (by decide)) (hp_gLi (z := (0 + (1 * m + 0))) gL (List.mem_of_getElem? (i := 1) rfl) rfl (by omega))
    cases hp
  · intro p_9 hp ys v_9 h' hys a1_9 a2 a3 gZ gS
    cases hp
theorem gfI_k : hp_chk 327 105 1 [(0, 0, 19)] [] [(0, .inr (.inr (.inl (some 94)))), (1, .inl (0, [(0, 1)]))] [] [(19971, (0, []), (4, []))] [] 8 [(114, ([], 1, [(0, 0, 19)], [], [(0, .inr (.inr (.inl (some 94)))), (1, .inl (0, [(0, 1)]))], [.inr (.inr (.inl (some 94)))], []))] [] = true := by decide +kernel
theorem gfI {cst : am_K} {strs : List Nat} {Φ : am_Q → Prop} {D : Nat} {M : am_M} {h : am_H} {l : am_L} (c : hp_C cst strs D) (hM : m_P[327]? = some M) (hD : (8 : Int) ≤ (D : Int) + 1) (hy : ly_hy m_tt ly_TH h) (m : Int) (b0 : 0 ≤ m) (t0 : m ≤ 19) (k0 : ly_hv cst h 19971 0 = some 4) (l0 : hp_a l 0 94) (l1 : hp_i l 1 (m)) (e0 : ∀ (l' : am_L) (h' : am_H), ly_hy m_tt ly_TH h' → ly_fr cst [] h h' → h.length ≤ h'.length → hp_a l' 0 94 → hp_i l' 1 (m) → hp_F cst strs Φ D M 114 l' [.ref 94] h') : hp_F cst strs Φ D M 105 l [] h := by
  refine hp_arc c hM gfI_k hD [m] rfl hy (hp_Bc (z := m) rfl b0 t0 hp_Bn) hp_Fn (hp_Kc (zi := (0 + 0)) (zv := (4 + 0)) k0 rfl rfl (by omega) (by omega) hp_Kn) (hp_La l0 (hp_Li (z := (0 + (1 * m + 0))) l1 rfl (by omega) hp_Ln)) trivial ?_ ?_
  · intro p_9 hp ys l' st' h' hys a1_9 a2 a3 gZ gL gS
    rcases List.mem_cons.mp hp with rfl | hp
    · obtain rfl := hp_y0 hys
      obtain ⟨t0, rfl, g0⟩ := hp_gSa gS (by decide)
      cases hp_gSn g0
      exact e0 l' h' a1_9 a2 a3 (hp_gLa gL (List.mem_of_getElem? (i := 0) rfl) (by decide)) (hp_gLi (z := (0 + (1 * m + 0))) gL (List.mem_of_getElem? (i := 1) rfl) rfl (by omega))
    cases hp
  · intro p_9 hp ys v_9 h' hys a1_9 a2 a3 gZ gS
    cases hp
theorem gfJ_k : hp_chk 327 105 1 [(0, 0, 19)] [] [(0, .inr (.inr (.inl (some 94)))), (1, .inl (0, [(0, 1)]))] [] [(19971, (0, []), (3, []))] [] 8 [(156, ([], 1, [(0, 0, 19)], [], [(0, .inr (.inr (.inl (some 94)))), (1, .inl (0, [(0, 1)]))], [.inr (.inr (.inl (some 94)))], []))] [] = true := by decide +kernel
theorem gfJ {cst : am_K} {strs : List Nat} {Φ : am_Q → Prop} {D : Nat} {M : am_M} {h : am_H} {l : am_L} (c : hp_C cst strs D) (hM : m_P[327]? = some M) (hD : (8 : Int) ≤ (D : Int) + 1) (hy : ly_hy m_tt ly_TH h) (m : Int) (b0 : 0 ≤ m) (t0 : m ≤ 19) (k0 : ly_hv cst h 19971 0 = some 3) (l0 : hp_a l 0 94) (l1 : hp_i l 1 (m)) (e0 : ∀ (l' : am_L) (h' : am_H), ly_hy m_tt ly_TH h' → ly_fr cst [] h h' → h.length ≤ h'.length → hp_a l' 0 94 → hp_i l' 1 (m) → hp_F cst strs Φ D M 156 l' [.ref 94] h') : hp_F cst strs Φ D M 105 l [] h := by
  refine hp_arc c hM gfJ_k hD [m] rfl hy (hp_Bc (z := m) rfl b0 t0 hp_Bn) hp_Fn (hp_Kc (zi := (0 + 0)) (zv := (3 + 0)) k0 rfl rfl (by omega) (by omega) hp_Kn) (hp_La l0 (hp_Li (z := (0 + (1 * m + 0))) l1 rfl (by omega) hp_Ln)) trivial ?_ ?_
  · intro p_9 hp ys l' st' h' hys a1_9 a2 a3 gZ gL gS
    rcases List.mem_cons.mp hp with rfl | hp
    · obtain rfl := hp_y0 hys
      obtain ⟨t0, rfl, g0⟩ := hp_gSa gS (by decide)
      cases hp_gSn g0
      exact e0 l' h' a1_9 a2 a3 (hp_gLa gL (List.mem_of_getElem? (i := 0) rfl) (by decide)) (hp_gLi (z := (0 + (1 * m + 0))) gL (List.mem_of_getElem? (i := 1) rfl) rfl (by omega))
    cases hp
  · intro p_9 hp ys v_9 h' hys a1_9 a2 a3 gZ gS
    cases hp
theorem gfK0_k : hp_chk 327 105 2 [(0, 0, 19), (1, 0, 2)] [] [(0, .inr (.inr (.inl (some 94)))), (1, .inl (0, [(0, 1)]))] [] [(19971, (0, []), (0, [(1, 1)]))] [] 8 [] [([], 2, [(0, 0, 19), (1, 0, 2)], [], [], [.inl (0, [])], [])] = true := by decide +kernel
theorem gfK0 {cst : am_K} {strs : List Nat} {Φ : am_Q → Prop} {D : Nat} {M : am_M} {h : am_H} {l : am_L} (c : hp_C cst strs D) (hM : m_P[327]? = some M) (hD : (8 : Int) ≤ (D : Int) + 1) (hy : ly_hy m_tt ly_TH h) (m q : Int) (b0 : 0 ≤ m) (t0 : m ≤ 19) (b1 : 0 ≤ q) (t1 : q ≤ 2) (k0 : ly_hv cst h 19971 0 = some (q)) (l0 : hp_a l 0 94) (l1 : hp_i l 1 (m)) (r0 : ∀ (h' : am_H) (y0 : Int32), y0.toInt = 0 → ly_hy m_tt ly_TH h' → ly_fr cst [] h h' → h.length ≤ h'.length → Φ (some (.int y0), h', 0, 0)) : hp_F cst strs Φ D M 105 l [] h := by
  refine hp_arc c hM gfK0_k hD [m, q] rfl hy (hp_Bc (z := m) rfl b0 t0 (hp_Bc (z := q) rfl b1 t1 hp_Bn)) hp_Fn (hp_Kc (zi := (0 + 0)) (zv := (0 + (1 * q + 0))) k0 rfl rfl (by omega) (by omega) hp_Kn) (hp_La l0 (hp_Li (z := (0 + (1 * m + 0))) l1 rfl (by omega) hp_Ln)) trivial ?_ ?_
  · intro p_9 hp ys l' st' h' hys a1_9 a2 a3 gZ gL gS
    cases hp
  · intro p_9 hp ys v_9 h' hys a1_9 a2 a3 gZ gS
    rcases List.mem_cons.mp hp with rfl | hp
    · obtain rfl := hp_y0 hys
      cases v_9 with
      | none => cases gS
      | some wz =>
        obtain ⟨y0, t0, s0_9, q0, -⟩ := hp_gSi (z := (0 + 0)) gS rfl
        cases s0_9
        exact r0 h' y0 (by omega) a1_9 a2 a3
    cases hp
theorem gfK1_k : hp_chk 327 105 2 [(0, 0, 19), (1, 5, 8)] [] [(0, .inr (.inr (.inl (some 94)))), (1, .inl (0, [(0, 1)]))] [] [(19971, (0, []), (0, [(1, 1)]))] [] 8 [] [([], 2, [(0, 0, 19), (1, 5, 8)], [], [], [.inl (0, [])], [])] = true := by decide +kernel
theorem gfK1 {cst : am_K} {strs : List Nat} {Φ : am_Q → Prop} {D : Nat} {M : am_M} {h : am_H} {l : am_L} (c : hp_C cst strs D) (hM : m_P[327]? = some M) (hD : (8 : Int) ≤ (D : Int) + 1) (hy : ly_hy m_tt ly_TH h) (m q : Int) (b0 : 0 ≤ m) (t0 : m ≤ 19) (b1 : 5 ≤ q) (t1 : q ≤ 8) (k0 : ly_hv cst h 19971 0 = some (q)) (l0 : hp_a l 0 94) (l1 : hp_i l 1 (m)) (r0 : ∀ (h' : am_H) (y0 : Int32), y0.toInt = 0 → ly_hy m_tt ly_TH h' → ly_fr cst [] h h' → h.length ≤ h'.length → Φ (some (.int y0), h', 0, 0)) : hp_F cst strs Φ D M 105 l [] h := by
  refine hp_arc c hM gfK1_k hD [m, q] rfl hy (hp_Bc (z := m) rfl b0 t0 (hp_Bc (z := q) rfl b1 t1 hp_Bn)) hp_Fn (hp_Kc (zi := (0 + 0)) (zv := (0 + (1 * q + 0))) k0 rfl rfl (by omega) (by omega) hp_Kn) (hp_La l0 (hp_Li (z := (0 + (1 * m + 0))) l1 rfl (by omega) hp_Ln)) trivial ?_ ?_
  · intro p_9 hp ys l' st' h' hys a1_9 a2 a3 gZ gL gS
    cases hp
  · intro p_9 hp ys v_9 h' hys a1_9 a2 a3 gZ gS
    rcases List.mem_cons.mp hp with rfl | hp
    · obtain rfl := hp_y0 hys
      cases v_9 with
      | none => cases gS
      | some wz =>
        obtain ⟨y0, t0, s0_9, q0, -⟩ := hp_gSi (z := (0 + 0)) gS rfl
        cases s0_9
        exact r0 h' y0 (by omega) a1_9 a2 a3
    cases hp
theorem gfL_k : hp_chk 327 117 2 [(0, 0, 19), (1, 0, 9999)] [] [(0, .inr (.inr (.inl (some 94)))), (1, .inl (0, [(0, 1)]))] [] [(19971, (0, []), (2, [])), (19975, (0, []), (0, [(1, 1)]))] [] 8 [(140, ([], 2, [(0, 0, 19), (1, 0, 9999)], [], [(0, .inr (.inr (.inl (some 94)))), (1, .inl (0, [(0, 1)]))], [.inl (0, [(1, 1)]), .inl (4000, [(0, 1)]), .inr (.inr (.inl (some 124)))], []))] [] = true := by decide +kernel
theorem gfL {cst : am_K} {strs : List Nat} {Φ : am_Q → Prop} {D : Nat} {M : am_M} {h : am_H} {l : am_L} (c : hp_C cst strs D) (hM : m_P[327]? = some M) (hD : (8 : Int) ≤ (D : Int) + 1) (hy : ly_hy m_tt ly_TH h) (m x : Int) (b0 : 0 ≤ m) (t0 : m ≤ 19) (b1 : 0 ≤ x) (t1 : x ≤ 9999) (k0 : ly_hv cst h 19971 0 = some 2) (k1 : ly_hv cst h 19975 0 = some (x)) (l0 : hp_a l 0 94) (l1 : hp_i l 1 (m)) (e0 : ∀ (l' : am_L) (h' : am_H) (y0 : Int32) (y1 : Int32), y0.toInt = (x) → y1.toInt = (m + 4000) → ly_hy m_tt ly_TH h' → ly_fr cst [] h h' → h.length ≤ h'.length → hp_a l' 0 94 → hp_i l' 1 (m) → hp_F cst strs Φ D M 140 l' [.int y0, .int y1, .ref 124] h') : hp_F cst strs Φ D M 117 l [] h := by
  refine hp_arc c hM gfL_k hD [m, x] rfl hy (hp_Bc (z := m) rfl b0 t0 (hp_Bc (z := x) rfl b1 t1 hp_Bn)) hp_Fn (hp_Kc (zi := (0 + 0)) (zv := (2 + 0)) k0 rfl rfl (by omega) (by omega) (hp_Kc (zi := (0 + 0)) (zv := (0 + (1 * x + 0))) k1 rfl rfl (by omega) (by omega) hp_Kn)) (hp_La l0 (hp_Li (z := (0 + (1 * m + 0))) l1 rfl (by omega) hp_Ln)) trivial ?_ ?_
  · intro p_9 hp ys l' st' h' hys a1_9 a2 a3 gZ gL gS
    rcases List.mem_cons.mp hp with rfl | hp
    · obtain rfl := hp_y0 hys
      obtain ⟨y0, t0, rfl, q0, g0⟩ := hp_gSi (z := (0 + (1 * x + 0))) gS rfl
      obtain ⟨y1, t1, rfl, q1_9, g1⟩ := hp_gSi (z := (4000 + (1 * m + 0))) g0 rfl
      obtain ⟨t2_9, rfl, g2⟩ := hp_gSa g1 (by decide)
      cases hp_gSn g2
      exact e0 l' h' y0 y1 (by omega) (by omega) a1_9 a2 a3 (hp_gLa gL (List.mem_of_getElem? (i := 0) rfl) (by decide)) (hp_gLi (z := (0 + (1 * m + 0))) gL (List.mem_of_getElem? (i := 1) rfl) rfl (by omega))
    cases hp
  · intro p_9 hp ys v_9 h' hys a1_9 a2 a3 gZ gS
    cases hp
theorem gfL2_k : hp_chk 327 141 1 [(0, 0, 19)] [] [(0, .inr (.inr (.inl (some 94)))), (1, .inl (0, [(0, 1)]))] [] [] [] 8 [(142, ([], 1, [(0, 0, 19)], [], [(0, .inr (.inr (.inl (some 94)))), (1, .inl (0, [(0, 1)]))], [.inr (.inr (.inl (some 94)))], []))] [] = true := by decide +kernel
theorem gfL2 {cst : am_K} {strs : List Nat} {Φ : am_Q → Prop} {D : Nat} {M : am_M} {h : am_H} {l : am_L} (c : hp_C cst strs D) (hM : m_P[327]? = some M) (hD : (8 : Int) ≤ (D : Int) + 1) (hy : ly_hy m_tt ly_TH h) (m : Int) (b0 : 0 ≤ m) (t0 : m ≤ 19) (l0 : hp_a l 0 94) (l1 : hp_i l 1 (m)) (e0 : ∀ (l' : am_L) (h' : am_H), ly_hy m_tt ly_TH h' → ly_fr cst [] h h' → h.length ≤ h'.length → hp_a l' 0 94 → hp_i l' 1 (m) → hp_F cst strs Φ D M 142 l' [.ref 94] h') : hp_F cst strs Φ D M 141 l [] h := by
  refine hp_arc c hM gfL2_k hD [m] rfl hy (hp_Bc (z := m) rfl b0 t0 hp_Bn) hp_Fn hp_Kn (hp_La l0 (hp_Li (z := (0 + (1 * m + 0))) l1 rfl (by omega) hp_Ln)) trivial ?_ ?_
  · intro p_9 hp ys l' st' h' hys a1_9 a2 a3 gZ gL gS
    rcases List.mem_cons.mp hp with rfl | hp
    · obtain rfl := hp_y0 hys
      obtain ⟨t0, rfl, g0⟩ := hp_gSa gS (by decide)
      cases hp_gSn g0
      exact e0 l' h' a1_9 a2 a3 (hp_gLa gL (List.mem_of_getElem? (i := 0) rfl) (by decide)) (hp_gLi (z := (0 + (1 * m + 0))) gL (List.mem_of_getElem? (i := 1) rfl) rfl (by omega))
    cases hp
  · intro p_9 hp ys v_9 h' hys a1_9 a2 a3 gZ gS
    cases hp
theorem gfM0_k : hp_chk 327 117 2 [(0, 0, 19), (1, 0, 1)] [] [(0, .inr (.inr (.inl (some 94)))), (1, .inl (0, [(0, 1)]))] [] [(19971, (0, []), (0, [(1, 1)]))] [] 8 [] [([], 2, [(0, 0, 19), (1, 0, 1)], [], [], [.inl (0, [])], [])] = true := by decide +kernel
theorem gfM0 {cst : am_K} {strs : List Nat} {Φ : am_Q → Prop} {D : Nat} {M : am_M} {h : am_H} {l : am_L} (c : hp_C cst strs D) (hM : m_P[327]? = some M) (hD : (8 : Int) ≤ (D : Int) + 1) (hy : ly_hy m_tt ly_TH h) (m q : Int) (b0 : 0 ≤ m) (t0 : m ≤ 19) (b1 : 0 ≤ q) (t1 : q ≤ 1) (k0 : ly_hv cst h 19971 0 = some (q)) (l0 : hp_a l 0 94) (l1 : hp_i l 1 (m)) (r0 : ∀ (h' : am_H) (y0 : Int32), y0.toInt = 0 → ly_hy m_tt ly_TH h' → ly_fr cst [] h h' → h.length ≤ h'.length → Φ (some (.int y0), h', 0, 0)) : hp_F cst strs Φ D M 117 l [] h := by
  refine hp_arc c hM gfM0_k hD [m, q] rfl hy (hp_Bc (z := m) rfl b0 t0 (hp_Bc (z := q) rfl b1 t1 hp_Bn)) hp_Fn (hp_Kc (zi := (0 + 0)) (zv := (0 + (1 * q + 0))) k0 rfl rfl (by omega) (by omega) hp_Kn) (hp_La l0 (hp_Li (z := (0 + (1 * m + 0))) l1 rfl (by omega) hp_Ln)) trivial ?_ ?_
  · intro p_9 hp ys l' st' h' hys a1_9 a2 a3 gZ gL gS
    cases hp
  · intro p_9 hp ys v_9 h' hys a1_9 a2 a3 gZ gS
    rcases List.mem_cons.mp hp with rfl | hp
    · obtain rfl := hp_y0 hys
      cases v_9 with
      | none => cases gS
      | some wz =>
        obtain ⟨y0, t0, s0_9, q0, -⟩ := hp_gSi (z := (0 + 0)) gS rfl
        cases s0_9
        exact r0 h' y0 (by omega) a1_9 a2 a3
    cases hp
theorem gfM1_k : hp_chk 327 117 2 [(0, 0, 19), (1, 3, 8)] [] [(0, .inr (.inr (.inl (some 94)))), (1, .inl (0, [(0, 1)]))] [] [(19971, (0, []), (0, [(1, 1)]))] [] 8 [] [([], 2, [(0, 0, 19), (1, 3, 8)], [], [], [.inl (0, [])], [])] = true := by decide +kernel
theorem gfM1 {cst : am_K} {strs : List Nat} {Φ : am_Q → Prop} {D : Nat} {M : am_M} {h : am_H} {l : am_L} (c : hp_C cst strs D) (hM : m_P[327]? = some M) (hD : (8 : Int) ≤ (D : Int) + 1) (hy : ly_hy m_tt ly_TH h) (m q : Int) (b0 : 0 ≤ m) (t0 : m ≤ 19) (b1 : 3 ≤ q) (t1 : q ≤ 8) (k0 : ly_hv cst h 19971 0 = some (q)) (l0 : hp_a l 0 94) (l1 : hp_i l 1 (m)) (r0 : ∀ (h' : am_H) (y0 : Int32), y0.toInt = 0 → ly_hy m_tt ly_TH h' → ly_fr cst [] h h' → h.length ≤ h'.length → Φ (some (.int y0), h', 0, 0)) : hp_F cst strs Φ D M 117 l [] h := by
  refine hp_arc c hM gfM1_k hD [m, q] rfl hy (hp_Bc (z := m) rfl b0 t0 (hp_Bc (z := q) rfl b1 t1 hp_Bn)) hp_Fn (hp_Kc (zi := (0 + 0)) (zv := (0 + (1 * q + 0))) k0 rfl rfl (by omega) (by omega) hp_Kn) (hp_La l0 (hp_Li (z := (0 + (1 * m + 0))) l1 rfl (by omega) hp_Ln)) trivial ?_ ?_
  · intro p_9 hp ys l' st' h' hys a1_9 a2 a3 gZ gL gS
    cases hp
  · intro p_9 hp ys v_9 h' hys a1_9 a2 a3 gZ gS
    rcases List.mem_cons.mp hp with rfl | hp
    · obtain rfl := hp_y0 hys
      cases v_9 with
      | none => cases gS
      | some wz =>
        obtain ⟨y0, t0, s0_9, q0, -⟩ := hp_gSi (z := (0 + 0)) gS rfl
        cases s0_9
        exact r0 h' y0 (by omega) a1_9 a2 a3
    cases hp
theorem gfN_k : hp_chk 327 145 1 [(0, 0, 19)] [] [(0, .inr (.inr (.inl (some 94)))), (1, .inl (0, [(0, 1)]))] [] [(19971, (0, []), (3, []))] [] 8 [(156, ([], 1, [(0, 0, 19)], [], [(0, .inr (.inr (.inl (some 94)))), (1, .inl (0, [(0, 1)]))], [.inr (.inr (.inl (some 94)))], []))] [] = true := by decide +kernel
theorem gfN {cst : am_K} {strs : List Nat} {Φ : am_Q → Prop} {D : Nat} {M : am_M} {h : am_H} {l : am_L} (c : hp_C cst strs D) (hM : m_P[327]? = some M) (hD : (8 : Int) ≤ (D : Int) + 1) (hy : ly_hy m_tt ly_TH h) (m : Int) (b0 : 0 ≤ m) (t0 : m ≤ 19) (k0 : ly_hv cst h 19971 0 = some 3) (l0 : hp_a l 0 94) (l1 : hp_i l 1 (m)) (e0 : ∀ (l' : am_L) (h' : am_H), ly_hy m_tt ly_TH h' → ly_fr cst [] h h' → h.length ≤ h'.length → hp_a l' 0 94 → hp_i l' 1 (m) → hp_F cst strs Φ D M 156 l' [.ref 94] h') : hp_F cst strs Φ D M 145 l [] h := by
  refine hp_arc c hM gfN_k hD [m] rfl hy (hp_Bc (z := m) rfl b0 t0 hp_Bn) hp_Fn (hp_Kc (zi := (0 + 0)) (zv := (3 + 0)) k0 rfl rfl (by omega) (by omega) hp_Kn) (hp_La l0 (hp_Li (z := (0 + (1 * m + 0))) l1 rfl (by omega) hp_Ln)) trivial ?_ ?_
  · intro p_9 hp ys l' st' h' hys a1_9 a2 a3 gZ gL gS
    rcases List.mem_cons.mp hp with rfl | hp
    · obtain rfl := hp_y0 hys
      obtain ⟨t0, rfl, g0⟩ := hp_gSa gS (by decide)
      cases hp_gSn g0
      exact e0 l' h' a1_9 a2 a3 (hp_gLa gL (List.mem_of_getElem? (i := 0) rfl) (by decide)) (hp_gLi (z := (0 + (1 * m + 0))) gL (List.mem_of_getElem? (i := 1) rfl) rfl (by omega))
    cases hp
  · intro p_9 hp ys v_9 h' hys a1_9 a2 a3 gZ gS
    cases hp
theorem gfO0_k : hp_chk 327 145 2 [(0, 0, 19), (1, 0, 2)] [] [(0, .inr (.inr (.inl (some 94)))), (1, .inl (0, [(0, 1)]))] [] [(19971, (0, []), (0, [(1, 1)]))] [] 8 [] [([], 2, [(0, 0, 19), (1, 0, 2)], [], [], [.inl (0, [])], [])] = true := by decide +kernel
theorem gfO0 {cst : am_K} {strs : List Nat} {Φ : am_Q → Prop} {D : Nat} {M : am_M} {h : am_H} {l : am_L} (c : hp_C cst strs D) (hM : m_P[327]? = some M) (hD : (8 : Int) ≤ (D : Int) + 1) (hy : ly_hy m_tt ly_TH h) (m q : Int) (b0 : 0 ≤ m) (t0 : m ≤ 19) (b1 : 0 ≤ q) (t1 : q ≤ 2) (k0 : ly_hv cst h 19971 0 = some (q)) (l0 : hp_a l 0 94) (l1 : hp_i l 1 (m)) (r0 : ∀ (h' : am_H) (y0 : Int32), y0.toInt = 0 → ly_hy m_tt ly_TH h' → ly_fr cst [] h h' → h.length ≤ h'.length → Φ (some (.int y0), h', 0, 0)) : hp_F cst strs Φ D M 145 l [] h := by
  refine hp_arc c hM gfO0_k hD [m, q] rfl hy (hp_Bc (z := m) rfl b0 t0 (hp_Bc (z := q) rfl b1 t1 hp_Bn)) hp_Fn (hp_Kc (zi := (0 + 0)) (zv := (0 + (1 * q + 0))) k0 rfl rfl (by omega) (by omega) hp_Kn) (hp_La l0 (hp_Li (z := (0 + (1 * m + 0))) l1 rfl (by omega) hp_Ln)) trivial ?_ ?_
  · intro p_9 hp ys l' st' h' hys a1_9 a2 a3 gZ gL gS
    cases hp
  · intro p_9 hp ys v_9 h' hys a1_9 a2 a3 gZ gS
    rcases List.mem_cons.mp hp with rfl | hp
    · obtain rfl := hp_y0 hys
      cases v_9 with
      | none => cases gS
      | some wz =>
        obtain ⟨y0, t0, s0_9, q0, -⟩ := hp_gSi (z := (0 + 0)) gS rfl
        cases s0_9
        exact r0 h' y0 (by omega) a1_9 a2 a3
    cases hp
theorem gfO1_k : hp_chk 327 145 2 [(0, 0, 19), (1, 4, 8)] [] [(0, .inr (.inr (.inl (some 94)))), (1, .inl (0, [(0, 1)]))] [] [(19971, (0, []), (0, [(1, 1)]))] [] 8 [] [([], 2, [(0, 0, 19), (1, 4, 8)], [], [], [.inl (0, [])], [])] = true := by decide +kernel
theorem gfO1 {cst : am_K} {strs : List Nat} {Φ : am_Q → Prop} {D : Nat} {M : am_M} {h : am_H} {l : am_L} (c : hp_C cst strs D) (hM : m_P[327]? = some M) (hD : (8 : Int) ≤ (D : Int) + 1) (hy : ly_hy m_tt ly_TH h) (m q : Int) (b0 : 0 ≤ m) (t0 : m ≤ 19) (b1 : 4 ≤ q) (t1 : q ≤ 8) (k0 : ly_hv cst h 19971 0 = some (q)) (l0 : hp_a l 0 94) (l1 : hp_i l 1 (m)) (r0 : ∀ (h' : am_H) (y0 : Int32), y0.toInt = 0 → ly_hy m_tt ly_TH h' → ly_fr cst [] h h' → h.length ≤ h'.length → Φ (some (.int y0), h', 0, 0)) : hp_F cst strs Φ D M 145 l [] h := by
  refine hp_arc c hM gfO1_k hD [m, q] rfl hy (hp_Bc (z := m) rfl b0 t0 (hp_Bc (z := q) rfl b1 t1 hp_Bn)) hp_Fn (hp_Kc (zi := (0 + 0)) (zv := (0 + (1 * q + 0))) k0 rfl rfl (by omega) (by omega) hp_Kn) (hp_La l0 (hp_Li (z := (0 + (1 * m + 0))) l1 rfl (by omega) hp_Ln)) trivial ?_ ?_
  · intro p_9 hp ys l' st' h' hys a1_9 a2 a3 gZ gL gS
    cases hp
  · intro p_9 hp ys v_9 h' hys a1_9 a2 a3 gZ gS
    rcases List.mem_cons.mp hp with rfl | hp
    · obtain rfl := hp_y0 hys
      cases v_9 with
      | none => cases gS
      | some wz =>
        obtain ⟨y0, t0, s0_9, q0, -⟩ := hp_gSi (z := (0 + 0)) gS rfl
        cases s0_9
        exact r0 h' y0 (by omega) a1_9 a2 a3
    cases hp
theorem gfP_k : hp_chk 327 159 1 [(0, 0, 19)] [] [(0, .inr (.inr (.inl (some 94)))), (1, .inl (0, [(0, 1)]))] [] [(27904, (200, []), (0, [(0, 1)]))] [27904] 8 [(9, ([], 1, [(0, 0, 19)], [], [(0, .inr (.inr (.inl (some 94))))], [], [(27904, (200, []), (1, [(0, 1)]))]))] [] = true := by decide +kernel
theorem gfP {cst : am_K} {strs : List Nat} {Φ : am_Q → Prop} {D : Nat} {M : am_M} {h : am_H} {l : am_L} (c : hp_C cst strs D) (hM : m_P[327]? = some M) (hD : (8 : Int) ≤ (D : Int) + 1) (hy : ly_hy m_tt ly_TH h) (m : Int) (b0 : 0 ≤ m) (t0 : m ≤ 19) (k0 : ly_hv cst h 27904 200 = some (m)) (l0 : hp_a l 0 94) (l1 : hp_i l 1 (m)) (e0 : ∀ (l' : am_L) (h' : am_H), ly_hy m_tt ly_TH h' → ly_fr cst [27904] h h' → h.length ≤ h'.length → ly_hv cst h' 27904 200 = some (m + 1) → hp_a l' 0 94 → hp_F cst strs Φ D M 9 l' [] h') : hp_F cst strs Φ D M 159 l [] h := by
  refine hp_arc c hM gfP_k hD [m] rfl hy (hp_Bc (z := m) rfl b0 t0 hp_Bn) hp_Fn (hp_Kc (zi := (200 + 0)) (zv := (0 + (1 * m + 0))) k0 rfl rfl (by omega) (by omega) hp_Kn) (hp_La l0 (hp_Li (z := (0 + (1 * m + 0))) l1 rfl (by omega) hp_Ln)) trivial ?_ ?_
  · intro p_9 hp ys l' st' h' hys a1_9 a2 a3 gZ gL gS
    rcases List.mem_cons.mp hp with rfl | hp
    · obtain rfl := hp_y0 hys
      cases hp_gSn gS
      exact e0 l' h' a1_9 a2 a3 (hp_gK (zi := (200 + 0)) (zv := (1 + (1 * m + 0))) gZ.2.2.2 (List.mem_of_getElem? (i := 0) rfl) rfl rfl (by omega) (by omega)) (hp_gLa gL (List.mem_of_getElem? (i := 0) rfl) (by decide))
    cases hp
  · intro p_9 hp ys v_9 h' hys a1_9 a2 a3 gZ gS
    cases hp
/-- scan goes on from the token a to the next -/
theorem rs_scan {cst : am_K} {strs : List Nat} {D : Nat} {h : am_H} (c : hp_C cst strs D) (hD : (8 : Int) ≤ (D : Int) + 1) (hy : ly_hy m_tt ly_TH h) {f : Int → Int} {n : Int} {t : Nat} {kd pl vl : Int → Int} {en : Nat → Int} (T : tkT f n t kd pl vl en) (n0 : 0 ≤ n) (n1 : n ≤ 1200) (ff : ∀ x_9, 0 ≤ x_9 → x_9 < n → gs_f cst h x_9 = f x_9) (kn : ly_hv cst h 19970 0 = some n) {a : Nat} (R : rs cst h kd vl en t n a) :
    ∃ r_9, am_Run cst m_cl m_tt m_P strs sx_bi (D + 1) 299 [.ref 94] h r_9 ∧ r_9.1 = none ∧ r_9.2.2.1 = 0 ∧ r_9.2.2.2 = 0 ∧ ly_hy m_tt ly_TH r_9.2.1 ∧ ly_fr cst [19971, 19972, 19973, 19974, 19975, 19976] h r_9.2.1 ∧ rs cst r_9.2.1 kd vl en t n (a + 1) := by
  by_cases z_9 : a < t
  · have e0_9 := tkT_lt T (a + 1) (by omega)
    have e1_9 := tkT_end T (a + 1) (by omega)
    obtain ⟨r_9, hrun, r1_9, r2, r3, r4, r5_9, rE_9⟩ := zc_run c (by omega) hy n0 n1 (by omega) e1_9 kn (R.1 z_9).2.1
    exact ⟨r_9, hrun, r1_9, r2, r3, r4, r5_9, rs_at T (by omega) (gs_ev (by omega) ff rE_9)⟩
  · obtain ⟨r_9, hrun, r1_9, r2, r3, r4, r5_9, rE_9⟩ := zc_run c (by omega) hy n0 n1 n0 (Int.le_refl n) kn (R.2 (by omega)).2
    refine ⟨r_9, hrun, r1_9, r2, r3, r4, r5_9, fun y_9 => by omega, fun _ => ?_⟩
    rcases rE_9 with ⟨-, c1_9, c2_9, -⟩ | ⟨s_9, e_9, k_9, v_9, w_9, -⟩
    · exact ⟨c1_9, c2_9⟩
    · have := w_9.1
      have := w_9.2.1
      have := w_9.2.2.1
      omega
def gf_R (cst : am_K) (h0 : am_H) (res : Option (List Int × List Int)) (r : am_Q) : Prop := ∃ w : Int32, r.1 = some (.int w) ∧ r.2.2.1 = 0 ∧ r.2.2.2 = 0 ∧ ly_hy m_tt ly_TH r.2.1 ∧ ly_fr cst [19971, 19972, 19973, 19974, 19975, 19976, 27392, 27648, 27904] h0 r.2.1 ∧ (∀ ns vs, res = some (ns, vs) → w.toInt = 1 ∧ ly_hv cst r.2.1 27904 200 = some (ns.length : Int) ∧ fn_N cst r.2.1 27392 4000 ns ∧ fn_N cst r.2.1 27648 4000 vs) ∧ (res = none → w.toInt = 0)
set_option maxRecDepth 8000 in
/-- whether a name was told already -/
theorem gn_lp {cst : am_K} {strs : List Nat} {D : Nat} {M : am_M} {Φ : am_Q → Prop} (c : hp_C cst strs D) (hM : m_P[327]? = some M) (hD : (8 : Int) ≤ (D : Int) + 1) {v : Int} (v0 : 0 ≤ v) (v1 : v ≤ 1152921504606846976) {ns : List Int} (nl : ns.length ≤ 19) (nb : ∀ x_9 ∈ ns, 0 ≤ x_9 ∧ x_9 ≤ 1152921504606846976) {h1 : am_H} (kw : ly_hv cst h1 19976 0 = some v) (A : fn_N cst h1 27392 4000 ns)
    (yes : v ∈ ns → ∀ (h2 : am_H) (w_9 : Int32), w_9.toInt = 0 → ly_hy m_tt ly_TH h2 → ly_fr cst [] h1 h2 → Φ (some (.int w_9), h2, 0, 0))
    (no : v ∉ ns → ∀ (l2 : am_L) (h2 : am_H) (y0 : Int64) (y1 : Int32), y0.toInt = v → y1.toInt = 4000 + (ns.length : Int) → ly_hy m_tt ly_TH h2 → ly_fr cst [] h1 h2 → hp_a l2 0 94 → hp_i l2 1 (ns.length : Int) → hp_F cst strs Φ D M 89 l2 [.long y0, .int y1, .ref 123] h2) : ∀ (Q_9 : Nat) (h_9 : am_H) (l : am_L) (i_9 : Nat), ns.length - i_9 < Q_9 → i_9 ≤ ns.length → ly_hy m_tt ly_TH h_9 → ly_fr cst [] h1 h_9 → (∀ k_9 (hk : k_9 < ns.length), k_9 < i_9 → ns[k_9] ≠ v) → hp_a l 0 94 → hp_i l 1 (ns.length : Int) → hp_i l 2 (i_9 : Int) → hp_F cst strs Φ D M 45 l [] h_9 := by
  intro Q_9
  induction Q_9 with
  | zero => intro h_9 l i_9 hN_9; omega
  | succ Q_9 ih_9 =>
    intro h_9 l i_9 hN_9 hi_9 hy fr_9 ne_9 l0 l1 l2
    by_cases z_9 : i_9 = ns.length
    · rw [z_9] at l2
      refine gfG c hM hD hy (ns.length : Int) v (by omega) (by omega) v0 v1 (fr_9 _ _ _ rfl kw) l0 l1 l2 (fun l3 h3 y0 y1 e0_9 e1_9 u1_9 u2_9 u3 m0_9 m1_9 => no (fun y_9 => ?_) l3 h3 y0 y1 e0_9 (by omega) u1_9 (ly_fr_tr fr_9 u2_9) m0_9 m1_9)
      obtain ⟨k_9, hk, e_9⟩ := List.mem_iff_getElem.mp y_9
      exact ne_9 k_9 hk (by omega) e_9
    · have hl : i_9 < ns.length := by omega
      have kx := fr_9 _ _ _ rfl (A i_9 hl)
      have xb := nb _ (List.getElem_mem hl)
      rw [show (4000 : Int) + (i_9 : Int) = (i_9 : Int) + 4000 by omega] at kx
      by_cases e_9 : ns[i_9] = v
      · rw [e_9] at kx
        exact gfF c hM hD hy (ns.length : Int) (i_9 : Int) v (by omega) (by omega) (by omega) (by omega) v0 v1 (by omega) (fr_9 _ _ _ rfl kw) kx l0 l1 l2 (fun h2 w_9 hw u1_9 u2_9 u3 => yes (by rw [← e_9]; exact List.getElem_mem hl) h2 w_9 hw u1_9 (ly_fr_tr fr_9 u2_9))
      · exact gfD c hM hD hy (ns.length : Int) (i_9 : Int) v ns[i_9] (by omega) (by omega) (by omega) (by omega) v0 v1 xb.1 xb.2 (by omega) (fr_9 _ _ _ rfl kw) kx (hp_ne (by omega)) l0 l1 l2 (fun l3 h3 u1_9 u2_9 u3 m0_9 m1_9 m2_9 => ih_9 h3 l3 (i_9 + 1) (by omega) (by omega) u1_9 (ly_fr_tr fr_9 u2_9) (fun k_9 hk h9 => if w_9 : k_9 = i_9 then by subst w_9; exact e_9 else ne_9 k_9 hk (by omega)) m0_9 m1_9 m2_9)
set_option maxRecDepth 8000 in
/-- readFacts of the reference from the token a on -/
theorem gf_lp {cst : am_K} {strs : List Nat} {D : Nat} {M : am_M} {h0 : am_H} (c1 : hp_C cst strs D) (c : hp_C cst strs (D + 1)) (hM : m_P[327]? = some M) (hD : (8 : Int) ≤ (D : Int) + 1) {f : Int → Int} {n : Int} {t : Nat} {kd pl vl : Int → Int} {en : Nat → Int} (T : tkT f n t kd pl vl en) (n0 : 0 ≤ n) (n1 : n ≤ 1200) (hy0 : ly_hy m_tt ly_TH h0) (ff : ∀ x_9, 0 ≤ x_9 → x_9 < n → gs_f cst h0 x_9 = f x_9) (kn0 : ly_hv cst h0 19970 0 = some n) (kb : ∀ j_9 : Nat, j_9 < t → 1 ≤ kd (j_9 : Int) ∧ kd (j_9 : Int) ≤ 61) (vb : ∀ j_9 : Nat, j_9 < t → (kd (j_9 : Int) = 1 → 0 ≤ vl (j_9 : Int) ∧ vl (j_9 : Int) < 1152921504606846976) ∧ (kd (j_9 : Int) = 2 → 0 ≤ vl (j_9 : Int) ∧ vl (j_9 : Int) ≤ 9999)) : ∀ (F_9 : Nat) (h_9 : am_H) (l : am_L) (a_9 : Nat) (ns vs : List Int), F_9 + ns.length = 21 → ns.length ≤ 20 → vs.length = ns.length → ly_hy m_tt ly_TH h_9 → ly_fr cst [19971, 19972, 19973, 19974, 19975, 19976, 27392, 27648, 27904] h0 h_9 → ly_hv cst h_9 27904 200 = some (ns.length : Int) → fn_N cst h_9 27392 4000 ns → fn_N cst h_9 27648 4000 vs → (∀ x_9 ∈ ns, 0 ≤ x_9 ∧ x_9 ≤ 1152921504606846976) → rs cst h_9 kd vl en t n a_9 → hp_a l 0 94 → hp_F cst strs (gf_R cst h0 (fa kd vl t F_9 a_9 ns vs)) (D + 1) M 9 l [] h_9 := by
  intro F_9
  induction F_9 with
  | zero => intro h_9 l a_9 ns vs hN_9; omega
  | succ F_9 ih_9 =>
    intro h_9 l a_9 ns vs hN_9 nl vn hy fr_9 km A_9 Av nb R_9 l0
    have no_9 : fa kd vl t (F_9 + 1) a_9 ns vs = none → ∀ (h1 h2 : am_H) (w_9 : Int32), ly_fr cst [19971, 19972, 19973, 19974, 19975, 19976, 27392, 27648, 27904] h0 h1 → w_9.toInt = 0 → ly_hy m_tt ly_TH h2 → ly_fr cst [] h1 h2 → gf_R cst h0 (fa kd vl t (F_9 + 1) a_9 ns vs) (some (.int w_9), h2, 0, 0) := fun e_9 h1 h2 w_9 f1_9 hw u1_9 u2_9 => ⟨w_9, rfl, rfl, rfl, u1_9, ly_fr_tr f1_9 (hp_sub2 rfl u2_9), fun _ _ em => (by rw [e_9] at em; cases em), fun _ => hw⟩
    -- a_9 scan, and what is behind it
    have sc_9 : ∀ (h1 : am_H) (b_9 pc : Nat) (l1 : am_L), ly_hy m_tt ly_TH h1 → ly_fr cst [19971, 19972, 19973, 19974, 19975, 19976, 27392, 27648, 27904] h0 h1 → rs cst h1 kd vl en t n b_9 → ∃ r_9, am_Run cst m_cl m_tt m_P strs sx_bi (D + 1) 299 [.ref 94] h1 r_9 ∧ r_9.1 = none ∧ r_9.2.2.1 = 0 ∧ r_9.2.2.2 = 0 ∧ ly_hy m_tt ly_TH r_9.2.1 ∧ ly_fr cst [19971, 19972, 19973, 19974, 19975, 19976] h1 r_9.2.1 ∧ rs cst r_9.2.1 kd vl en t n (b_9 + 1) := fun h1 b_9 pc l1 q1_9 q2_9 q3_9 => rs_scan c1 (by omega) q1_9 T n0 n1 (fun x_9 x0_9 x1_9 => by rw [gs_same hy0 q1_9 q2_9 rfl]; exact ff x_9 x0_9 x1_9) (q2_9 _ _ _ rfl kn0) q3_9
    have ks_9 := rs_so R_9
    have s0_9 := (rk_b kd t a_9 kb).1
    have s8 := (rk_b kd t a_9 kb).2.1
    by_cases q0 : fk kd t a_9 = 0
    · have er : fa kd vl t (F_9 + 1) a_9 ns vs = some (ns, vs) := by
        rw [fa, if_pos q0]
      rw [(rk_i8 kb a_9).mpr q0] at ks_9
      exact gfE c hM (by omega) hy (ns.length : Int) (by omega) (by omega) ks_9 km l0 (fun h2 w_9 hw u1_9 u2_9 u3 k2_9 => ⟨w_9, rfl, rfl, rfl, u1_9, ly_fr_tr fr_9 (hp_sub2 rfl u2_9), fun _ _ em => by
        rw [er] at em
        cases em
        exact ⟨hw, k2_9, fn_mv A_9 u2_9 rfl, fn_mv Av u2_9 rfl⟩, fun e_9 => by rw [er] at e_9; cases e_9⟩)
    by_cases q2_9 : fk kd t a_9 = 1
    rotate_left
    · have er : fa kd vl t (F_9 + 1) a_9 ns vs = none := by
        rw [fa, if_neg q0, if_pos (Or.inr (Or.inl q2_9))]
      have s1_9 : rk kd t a_9 ≠ 1 := fun z_9 => q2_9 ((rk_i1 kb a_9).mp z_9)
      have s9 : rk kd t a_9 ≠ 8 := fun z_9 => q0 ((rk_i8 kb a_9).mp z_9)
      by_cases z_9 : rk kd t a_9 ≤ 0
      · exact gfB0 c hM (by omega) hy (ns.length : Int) (rk kd t a_9) (by omega) (by omega) s0_9 z_9 ks_9 km l0 (fun h2 w_9 hw u1_9 u2_9 u3 => no_9 er h_9 h2 w_9 fr_9 hw u1_9 u2_9)
      · exact gfB1 c hM (by omega) hy (ns.length : Int) (rk kd t a_9) (by omega) (by omega) (by omega) (by omega) ks_9 km l0 (fun h2 w_9 hw u1_9 u2_9 u3 => no_9 er h_9 h2 w_9 fr_9 hw u1_9 u2_9)
    rw [(rk_i1 kb a_9).mpr q2_9] at ks_9
    by_cases q1_9 : ns.length = 20
    · have er : fa kd vl t (F_9 + 1) a_9 ns vs = none := by
        rw [fa, if_neg q0, if_pos (Or.inl q1_9)]
      rw [q1_9] at km
      exact gfA c hM (by omega) hy ks_9 km l0 (fun h2 w_9 hw u1_9 u2_9 u3 => no_9 er h_9 h2 w_9 fr_9 hw u1_9 u2_9)
    have at' : a_9 < t := by
      by_cases z_9 : a_9 < t
      · exact z_9
      · rw [fk_ge z_9] at q2_9
        omega
    have kda : kd (a_9 : Int) = 1 := by
      rw [← fk_lt (kd := kd) at']
      exact q2_9
    have vv := (vb a_9 at').1 kda
    have kw := (R_9.1 at').2.2.1 kda
    refine gfC c hM (by omega) hy (ns.length : Int) (by omega) (by omega) ks_9 km l0 (fun l1 h1 u1_9 u2_9 u3 m0_9 m1_9 m2_9 => ?_)
    have fr1 : ly_fr cst [19971, 19972, 19973, 19974, 19975, 19976, 27392, 27648, 27904] h0 h1 := ly_fr_tr fr_9 (hp_sub2 rfl u2_9)
    refine gn_lp (v := vl (a_9 : Int)) (ns := ns) (h1 := h1) c hM (by omega) vv.1 (by omega) (by omega) nb (u2_9 _ _ _ rfl kw) (fn_mv A_9 u2_9 rfl) (fun mem_9 h2 w_9 hw v1_9 v2 => ?_) (fun mem_9 l2 h2 y0 y1 e0_9 e1_9 v1_9 v2 o0_9 o1 => ?_) (ns.length + 1) h1 l1 0 (by omega) (by omega) u1_9 (ly_fr_rf h1) (fun k_9 hk h9 => by omega) m0_9 m1_9 m2_9
    · have er : fa kd vl t (F_9 + 1) a_9 ns vs = none := by
        rw [fa, if_neg q0, if_pos (Or.inr (Or.inr mem_9))]
      exact no_9 er h1 h2 w_9 fr1 hw v1_9 v2
    have n9 : ¬ (ns.length = 20 ∨ fk kd t a_9 ≠ 1 ∨ vl (a_9 : Int) ∈ ns) := by
      rintro (z_9 | z_9 | z_9)
      · exact q1_9 z_9
      · exact z_9 q2_9
      · exact mem_9 z_9
    have fr2 : ly_fr cst [19971, 19972, 19973, 19974, 19975, 19976, 27392, 27648, 27904] h0 h2 := ly_fr_tr fr1 (hp_sub2 rfl v2)
    refine hp_stjg hM (by decide +kernel) v1_9 (by omega) (by omega) (fun h3 x1_9 x2_9 x3 => ?_)
    rw [e0_9, e1_9] at x3
    have x3 : hp_put cst 27392 (4000 + (ns.length : Int)) (vl (a_9 : Int)) h2 h3 := x3
    have fr3 : ly_fr cst [19971, 19972, 19973, 19974, 19975, 19976, 27392, 27648, 27904] h0 h3 := ly_fr_tr fr2 (hp_put_fr (by rfl) x3)
    refine gfH c hM (by omega) x1_9 (ns.length : Int) (by omega) (by omega) o0_9 o1 (fun l4 h4 y2 y3 e2_9 e3_9 w1_9 w2_9 w3_9 j0 j1 => ?_)
    refine hp_stg hM (by decide +kernel) w1_9 (by omega) (by omega) (fun h5 t1_9 t2_9 t3_9 => ?_)
    rw [e2_9, e3_9, show (ns.length : Int) + 4000 = 4000 + (vs.length : Int) by rw [vn]; omega] at t3_9
    have t3_9 : hp_put cst 27648 (4000 + (vs.length : Int)) 1 h4 h5 := t3_9
    have fr5 : ly_fr cst [19971, 19972, 19973, 19974, 19975, 19976, 27392, 27648, 27904] h0 h5 := ly_fr_tr fr3 (ly_fr_tr (hp_sub2 rfl w2_9) (hp_put_fr (by rfl) t3_9))
    have A5 : fn_N cst h5 27392 4000 (ns ++ [vl (a_9 : Int)]) := fn_mv (ms := [27648]) (fn_mv (fn_put (fn_mv (fn_mv A_9 u2_9 rfl) v2 rfl) x3) w2_9 rfl) (hp_put_fr (by rfl) t3_9) rfl
    have V5 : fn_N cst h5 27648 4000 (vs ++ [1]) := fn_put (fn_mv (fn_mv (ms := [27392]) (fn_mv (fn_mv Av u2_9 rfl) v2 rfl) (hp_put_fr (by rfl) x3) rfl) w2_9 rfl) t3_9
    have R5 : rs cst h5 kd vl en t n a_9 := rs_mv (ms := [27648]) (rs_mv (rs_mv (ms := [27392]) (rs_mv (rs_mv R_9 u2_9 rfl) v2 rfl) (hp_put_fr (by rfl) x3) rfl) w2_9 rfl) (hp_put_fr (by rfl) t3_9) rfl
    have km5 : ly_hv cst h5 27904 200 = some (ns.length : Int) := by
      rw [t3_9.2 _ _ (Or.inl (by decide))]
      refine w2_9 _ _ _ rfl ?_
      rw [x3.2 _ _ (Or.inl (by decide))]
      exact v2 _ _ _ rfl (u2_9 _ _ _ rfl km)
    have nb' : ∀ x_9 ∈ ns ++ [vl (a_9 : Int)], 0 ≤ x_9 ∧ x_9 ≤ 1152921504606846976 := fun x_9 hx => by
      rcases List.mem_append.mp hx with z_9 | z_9
      · exact nb x_9 z_9
      · rw [List.mem_singleton.mp z_9]
        omega
    have len9 : (ns ++ [vl (a_9 : Int)]).length = ns.length + 1 := by
      rw [List.length_append, List.length_singleton]
    -- behind ';'
    have fin_9 : ∀ (q_9 : Nat) (w_9 : Int) (l6 : am_L) (h6 : am_H), fa kd vl t (F_9 + 1) a_9 ns vs = fa kd vl t F_9 (q_9 + 1) (ns ++ [vl (a_9 : Int)]) (vs ++ [w_9]) → ly_hy m_tt ly_TH h6 → ly_fr cst [19971, 19972, 19973, 19974, 19975, 19976, 27392, 27648, 27904] h0 h6 → ly_hv cst h6 27904 200 = some (ns.length : Int) → fn_N cst h6 27392 4000 (ns ++ [vl (a_9 : Int)]) → fn_N cst h6 27648 4000 (vs ++ [w_9]) → rs cst h6 kd vl en t n q_9 → hp_a l6 0 94 → hp_i l6 1 (ns.length : Int) → hp_F cst strs (gf_R cst h0 (fa kd vl t (F_9 + 1) a_9 ns vs)) (D + 1) M 156 l6 [.ref 94] h6 := by
      intro q_9 w_9 l6 h6 er p1_9 p2_9 p3_9 p4_9 p5_9 p6_9 g0 g1
      obtain ⟨r_9, hrun, r1_9, r2, r3, rhy, rfr, rR⟩ := sc_9 h6 q_9 156 l6 p1_9 p2_9 p6_9
      refine hp_call (mi := 327) (pc := 156) (tg := 299) (na := 1) (c := 78) (ci := 12) (st0 := [.ref 94]) (st := []) (av := []) hM (by decide +kernel) p1_9 rfl rfl rfl (by decide) hrun r2 r3 ?_
      rw [r1_9, er]
      refine gfP c hM (by omega) rhy (ns.length : Int) (by omega) (by omega) (rfr _ _ _ rfl p3_9) g0 g1 (fun l7 h7 z1 z2 z3 k7_9 i0_9 => ?_)
      refine ih_9 h7 l7 (q_9 + 1) (ns ++ [vl (a_9 : Int)]) (vs ++ [w_9]) (by omega) (by omega) (by rw [List.length_append, List.length_append, vn]; rfl) z1 (ly_fr_tr p2_9 (ly_fr_tr (hp_sub2 rfl rfr) (hp_sub2 rfl z2))) ?_ (fn_mv (fn_mv p4_9 rfr rfl) z2 rfl) (fn_mv (fn_mv p5_9 rfr rfl) z2 rfl) nb' (rs_mv rR z2 rfl) i0_9
      rw [len9]
      exact k7_9
    refine gfH2 c hM (by omega) t1_9 (ns.length : Int) (by omega) (by omega) j0 j1 (fun l6 h6 p1_9 p2_9 p3_9 g0 g1 => ?_)
    obtain ⟨r_9, hrun, r1_9, r2, r3, rhy, rfr, rR⟩ := sc_9 h6 a_9 102 l6 p1_9 (ly_fr_tr fr5 (hp_sub2 rfl p2_9)) (rs_mv R5 p2_9 rfl)
    refine hp_call (mi := 327) (pc := 102) (tg := 299) (na := 1) (c := 78) (ci := 12) (st0 := [.ref 94]) (st := []) (av := []) hM (by decide +kernel) p1_9 rfl rfl rfl (by decide) hrun r2 r3 ?_
    rw [r1_9]
    have frr : ly_fr cst [19971, 19972, 19973, 19974, 19975, 19976, 27392, 27648, 27904] h0 r_9.2.1 := ly_fr_tr fr5 (ly_fr_tr (hp_sub2 rfl p2_9) (hp_sub2 rfl rfr))
    have kmr := rfr _ _ _ rfl (p2_9 _ _ _ rfl km5)
    have Ar := fn_mv (fn_mv A5 p2_9 rfl) rfr rfl
    have Vr := fn_mv (fn_mv V5 p2_9 rfl) rfr rfl
    have ks1 := rs_so rR
    have s01 := (rk_b kd t (a_9 + 1) kb).1
    have s81 := (rk_b kd t (a_9 + 1) kb).2.1
    by_cases e61 : fk kd t (a_9 + 1) = 61
    · rw [(rk_i4 kb (a_9 + 1)).mpr e61] at ks1
      refine gfI c hM (by omega) rhy (ns.length : Int) (by omega) (by omega) ks1 g0 g1 (fun l7 h7 z1 z2 z3 d0_9 d1_9 => ?_)
      obtain ⟨r', hrun', r1', r2', r3', rhy', rfr', rR'⟩ := sc_9 h7 (a_9 + 1) 114 l7 z1 (ly_fr_tr frr (hp_sub2 rfl z2)) (rs_mv rR z2 rfl)
      refine hp_call (mi := 327) (pc := 114) (tg := 299) (na := 1) (c := 78) (ci := 12) (st0 := [.ref 94]) (st := []) (av := []) hM (by decide +kernel) z1 rfl rfl rfl (by decide) hrun' r2' r3' ?_
      rw [r1']
      have frr' : ly_fr cst [19971, 19972, 19973, 19974, 19975, 19976, 27392, 27648, 27904] h0 r'.2.1 := ly_fr_tr frr (ly_fr_tr (hp_sub2 rfl z2) (hp_sub2 rfl rfr'))
      have ks2 := rs_so rR'
      have s02 := (rk_b kd t (a_9 + 1 + 1) kb).1
      have s82 := (rk_b kd t (a_9 + 1 + 1) kb).2.1
      by_cases e2_9 : fk kd t (a_9 + 2) = 2
      rotate_left
      · have er : fa kd vl t (F_9 + 1) a_9 ns vs = none := by
          rw [fa, if_neg q0, if_neg n9, if_pos e61, if_pos (Or.inl e2_9)]
        have s1_9 : rk kd t (a_9 + 1 + 1) ≠ 2 := fun z_9 => e2_9 ((rk_i2 kb (a_9 + 1 + 1)).mp z_9)
        by_cases z_9 : rk kd t (a_9 + 1 + 1) ≤ 1
        · exact gfM0 c hM (by omega) rhy' (ns.length : Int) (rk kd t (a_9 + 1 + 1)) (by omega) (by omega) s02 z_9 ks2 d0_9 d1_9 (fun h9 w_9 hw u1_9 u2_9 u3 => no_9 er _ h9 w_9 frr' hw u1_9 u2_9)
        · exact gfM1 c hM (by omega) rhy' (ns.length : Int) (rk kd t (a_9 + 1 + 1)) (by omega) (by omega) (by omega) s82 ks2 d0_9 d1_9 (fun h9 w_9 hw u1_9 u2_9 u3 => no_9 er _ h9 w_9 frr' hw u1_9 u2_9)
      rw [(rk_i2 kb (a_9 + 1 + 1)).mpr e2_9] at ks2
      have lt2 : a_9 + 2 < t := by
        by_cases z_9 : a_9 + 2 < t
        · exact z_9
        · rw [fk_ge z_9] at e2_9
          omega
      have kd2 : kd ((a_9 + 2 : Nat) : Int) = 2 := by
        rw [← fk_lt (kd := kd) lt2]
        exact e2_9
      have x2_9 := (vb (a_9 + 2) lt2).2 kd2
      have kwo := (rR'.1 lt2).2.2.2 kd2
      refine gfL c hM (by omega) rhy' (ns.length : Int) (vl ((a_9 + 2 : Nat) : Int)) (by omega) (by omega) x2_9.1 x2_9.2 ks2 kwo d0_9 d1_9 (fun l8 h8 y4 y5 e4_9 e5_9 a1_9 a2 a3 b0 b1 => ?_)
      refine hp_stg hM (by decide +kernel) a1_9 (by omega) (by omega) (fun h9 t4_9 t5_9 t6 => ?_)
      rw [e4_9, e5_9, show (ns.length : Int) + 4000 = 4000 + (vs.length : Int) by rw [vn]; omega] at t6
      have t6 : hp_put cst 27648 (4000 + (vs.length : Int)) (vl ((a_9 + 2 : Nat) : Int)) h8 h9 := t6
      have A9 : fn_N cst h9 27392 4000 (ns ++ [vl (a_9 : Int)]) := fn_mv (ms := [27648]) (fn_mv (fn_mv (fn_mv Ar z2 rfl) rfr' rfl) a2 rfl) (hp_put_fr (by rfl) t6) rfl
      have V9 : fn_N cst h9 27648 4000 (vs ++ [vl ((a_9 + 2 : Nat) : Int)]) := fn_put (fn_pre (fn_mv (fn_mv (fn_mv Vr z2 rfl) rfr' rfl) a2 rfl)) t6
      have R9 : rs cst h9 kd vl en t n (a_9 + 2) := rs_mv (ms := [27648]) (rs_mv rR' a2 rfl) (hp_put_fr (by rfl) t6) rfl
      have fr9 : ly_fr cst [19971, 19972, 19973, 19974, 19975, 19976, 27392, 27648, 27904] h0 h9 := ly_fr_tr frr' (ly_fr_tr (hp_sub2 rfl a2) (hp_put_fr (by rfl) t6))
      have km9 : ly_hv cst h9 27904 200 = some (ns.length : Int) := by
        rw [t6.2 _ _ (Or.inl (by decide))]
        exact a2 _ _ _ rfl (rfr' _ _ _ rfl (z2 _ _ _ rfl kmr))
      refine gfL2 c hM (by omega) t4_9 (ns.length : Int) (by omega) (by omega) b0 b1 (fun l10 h10 a4 a5 a6 c0_9 c1' => ?_)
      obtain ⟨r'', hrun'', r1'', r2'', r3'', rhy'', rfr'', rR''⟩ := sc_9 h10 (a_9 + 2) 142 l10 a4 (ly_fr_tr fr9 (hp_sub2 rfl a5)) (rs_mv R9 a5 rfl)
      refine hp_call (mi := 327) (pc := 142) (tg := 299) (na := 1) (c := 78) (ci := 12) (st0 := [.ref 94]) (st := []) (av := []) hM (by decide +kernel) a4 rfl rfl rfl (by decide) hrun'' r2'' r3'' ?_
      rw [r1'']
      have frr'' : ly_fr cst [19971, 19972, 19973, 19974, 19975, 19976, 27392, 27648, 27904] h0 r''.2.1 := ly_fr_tr fr9 (ly_fr_tr (hp_sub2 rfl a5) (hp_sub2 rfl rfr''))
      have ks3 := rs_so rR''
      have s03 := (rk_b kd t (a_9 + 2 + 1) kb).1
      have s83 := (rk_b kd t (a_9 + 2 + 1) kb).2.1
      by_cases e59 : fk kd t (a_9 + 3) = 59
      rotate_left
      · have er : fa kd vl t (F_9 + 1) a_9 ns vs = none := by
          rw [fa, if_neg q0, if_neg n9, if_pos e61, if_pos (Or.inr e59)]
        have s1_9 : rk kd t (a_9 + 2 + 1) ≠ 3 := fun z_9 => e59 ((rk_i3 kb (a_9 + 2 + 1)).mp z_9)
        by_cases z_9 : rk kd t (a_9 + 2 + 1) ≤ 2
        · exact gfO0 c hM (by omega) rhy'' (ns.length : Int) (rk kd t (a_9 + 2 + 1)) (by omega) (by omega) s03 z_9 ks3 c0_9 c1' (fun h9 w_9 hw u1_9 u2_9 u3 => no_9 er _ h9 w_9 frr'' hw u1_9 u2_9)
        · exact gfO1 c hM (by omega) rhy'' (ns.length : Int) (rk kd t (a_9 + 2 + 1)) (by omega) (by omega) (by omega) s83 ks3 c0_9 c1' (fun h9 w_9 hw u1_9 u2_9 u3 => no_9 er _ h9 w_9 frr'' hw u1_9 u2_9)
      rw [(rk_i3 kb (a_9 + 2 + 1)).mpr e59] at ks3
      refine gfN c hM (by omega) rhy'' (ns.length : Int) (by omega) (by omega) ks3 c0_9 c1' (fun l11 h11 a7 a8 a9 d2_9 d3_9 => ?_)
      exact fin_9 (a_9 + 3) (vl ((a_9 + 2 : Nat) : Int)) l11 h11 (by rw [fa, if_neg q0, if_neg n9, if_pos e61, if_neg (by rintro (z_9 | z_9); exact z_9 e2_9; exact z_9 e59)]) a7 (ly_fr_tr frr'' (hp_sub2 rfl a8)) (a8 _ _ _ rfl (rfr'' _ _ _ rfl (a5 _ _ _ rfl km9))) (fn_mv (fn_mv (fn_mv A9 a5 rfl) rfr'' rfl) a8 rfl) (fn_mv (fn_mv (fn_mv V9 a5 rfl) rfr'' rfl) a8 rfl) (rs_mv rR'' a8 rfl) d2_9 d3_9
    by_cases e59 : fk kd t (a_9 + 1) = 59
    rotate_left
    · have er : fa kd vl t (F_9 + 1) a_9 ns vs = none := by
        rw [fa, if_neg q0, if_neg n9, if_neg e61, if_pos e59]
      have s1_9 : rk kd t (a_9 + 1) ≠ 3 := fun z_9 => e59 ((rk_i3 kb (a_9 + 1)).mp z_9)
      have s2_9 : rk kd t (a_9 + 1) ≠ 4 := fun z_9 => e61 ((rk_i4 kb (a_9 + 1)).mp z_9)
      by_cases z_9 : rk kd t (a_9 + 1) ≤ 2
      · exact gfK0 c hM (by omega) rhy (ns.length : Int) (rk kd t (a_9 + 1)) (by omega) (by omega) s01 z_9 ks1 g0 g1 (fun h9 w_9 hw u1_9 u2_9 u3 => no_9 er _ h9 w_9 frr hw u1_9 u2_9)
      · exact gfK1 c hM (by omega) rhy (ns.length : Int) (rk kd t (a_9 + 1)) (by omega) (by omega) (by omega) s81 ks1 g0 g1 (fun h9 w_9 hw u1_9 u2_9 u3 => no_9 er _ h9 w_9 frr hw u1_9 u2_9)
    rw [(rk_i3 kb (a_9 + 1)).mpr e59] at ks1
    refine gfJ c hM (by omega) rhy (ns.length : Int) (by omega) (by omega) ks1 g0 g1 (fun l11 h11 a7 a8 a9 d2_9 d3_9 => ?_)
    exact fin_9 (a_9 + 1) 1 l11 h11 (by rw [fa, if_neg q0, if_neg n9, if_neg e61, if_neg (fun z_9 => z_9 e59)]) a7 (ly_fr_tr frr (hp_sub2 rfl a8)) (a8 _ _ _ rfl kmr) (fn_mv Ar a8 rfl) (fn_mv Vr a8 rfl) (rs_mv rR a8 rfl) d2_9 d3_9
/-- readFacts of the reference -/
theorem gf_run {cst : am_K} {strs : List Nat} {D : Nat} {h : am_H} (c1 : hp_C cst strs D) (c : hp_C cst strs (D + 1)) (hD : (8 : Int) ≤ (D : Int) + 1) (hy : ly_hy m_tt ly_TH h) {f : Int → Int} {n : Int} {t : Nat} {kd pl vl : Int → Int} {en : Nat → Int} (T : tkT f n t kd pl vl en) (n0 : 0 ≤ n) (n1 : n ≤ 1200) (ff : ∀ x_9, 0 ≤ x_9 → x_9 < n → gs_f cst h x_9 = f x_9) (kn : ly_hv cst h 19970 0 = some n) (kb : ∀ j_9 : Nat, j_9 < t → 1 ≤ kd (j_9 : Int) ∧ kd (j_9 : Int) ≤ 61) (vb : ∀ j_9 : Nat, j_9 < t → (kd (j_9 : Int) = 1 → 0 ≤ vl (j_9 : Int) ∧ vl (j_9 : Int) < 1152921504606846976) ∧ (kd (j_9 : Int) = 2 → 0 ≤ vl (j_9 : Int) ∧ vl (j_9 : Int) ≤ 9999)) {a : Nat} (R : rs cst h kd vl en t n a) :
    ∃ r_9, am_Run cst m_cl m_tt m_P strs sx_bi (D + 1 + 1) 327 [.ref 94] h r_9 ∧ gf_R cst h (fa kd vl t 21 a [] []) r_9 := by
  obtain ⟨M_9, hM_9, hl⟩ := hp_M (mi := 327) (k := 1) (by decide +kernel)
  obtain ⟨n', r_9, hgo, w_9, r1_9, r2, r3, r4⟩ := gf0 (Φ := gf_R cst h (fa kd vl t 21 a [] [])) (l := lv_args 0 [.ref 94]) c hM_9 (by omega) hy rfl (fun l1 h1 u1_9 u2_9 u3 k1_9 m0_9 => gf_lp c1 c hM_9 hD T n0 n1 hy ff kn kb vb 21 h1 l1 a [] [] rfl (by decide) rfl u1_9 (hp_sub2 rfl u2_9) k1_9 (fun k hk => by simp at hk) (fun k hk => by simp at hk) (fun x_9 hx => by simp at hx) (rs_mv R u2_9 rfl) m0_9)
  simp only [Nat.zero_add] at r2 r3
  exact ⟨r_9, Or.inr ⟨M_9, n', hM_9, hl, hgo⟩, w_9, r1_9, r2, r3, r4⟩
