/-! PRINTED by wip/p2/hp_facts.py: readFacts of the class, exactly -/
theorem hs0_k : hp_chk 48 0 1 [(0, 0, 1152921504606846976)] [] [(0, .inr (.inr (.inl (some 91)))), (1, .inr (.inl (0, [(0, 1)])))] [] [] [] 2 [(2, ([], 1, [(0, 0, 1152921504606846976)], [], [(0, .inr (.inr (.inl (some 91))))], [.inr (.inl (0, [(0, 1)])), .inr (.inr (.inl (some 91)))], []))] [] = true := by decide +kernel
theorem hs0 {cst : am_K} {strs : List Nat} {Φ : am_Q → Prop} {D : Nat} {M : am_M} {h : am_H} {l : am_L} (c : hp_C cst strs D) (hM : m_P[48]? = some M) (hD : (2 : Int) ≤ (D : Int) + 1) (hy : ly_hy m_tt ly_TH h) (v : Int) (b0 : 0 ≤ v) (t0 : v ≤ 1152921504606846976) (l0 : hp_a l 0 91) (l1 : hp_j l 1 (v)) (e0 : ∀ (l' : am_L) (h' : am_H) (y0 : Int64), y0.toInt = (v) → ly_hy m_tt ly_TH h' → ly_fr cst [] h h' → h.length ≤ h'.length → hp_a l' 0 91 → hp_F cst strs Φ D M 2 l' [.long y0, .ref 91] h') : hp_F cst strs Φ D M 0 l [] h := by
  refine hp_arc c hM hs0_k hD [v] rfl hy (hp_Bc (z := v) rfl b0 t0 hp_Bn) hp_Fn hp_Kn (hp_La l0 (hp_Lj (z := (0 + (1 * v + 0))) l1 rfl (by omega) hp_Ln)) trivial ?_ ?_
  · intro p hp ys l' st' h' hys a1 a2 a3 gZ gL gS
    rcases List.mem_cons.mp hp with rfl | hp
    · obtain rfl := hp_y0 hys
      obtain ⟨y0, t0, rfl, q0, g0⟩ := hp_gSj (z := (0 + (1 * v + 0))) gS rfl
      obtain ⟨t1, rfl, g1⟩ := hp_gSa g0 (by decide)
      cases hp_gSn g1
      exact e0 l' h' y0 (by omega) a1 a2 a3 (hp_gLa gL (List.mem_of_getElem? (i := 0) rfl) (by decide))
    cases hp
  · intro p hp ys v h' hys a1 a2 a3 gZ gS
    cases hp
theorem hs1_k : hp_chk 48 5 0 [] [] [(0, .inr (.inr (.inl (some 91))))] [.inl ((-1), [])] [] [] 2 [] [([], 0, [], [], [], [.inl (0, [])], [])] = true := by decide +kernel
theorem hs1 {cst : am_K} {strs : List Nat} {Φ : am_Q → Prop} {D : Nat} {M : am_M} {h : am_H} {l : am_L} (c : hp_C cst strs D) (hM : m_P[48]? = some M) (hD : (2 : Int) ≤ (D : Int) + 1) (hy : ly_hy m_tt ly_TH h) (x0 : Int32) (hx0 : x0.toInt = (-1)) (l0 : hp_a l 0 91) (r0 : ∀ (h' : am_H) (y0 : Int32), y0.toInt = 0 → ly_hy m_tt ly_TH h' → ly_fr cst [] h h' → h.length ≤ h'.length → Φ (some (.int y0), h', 0, 0)) : hp_F cst strs Φ D M 5 l [.int x0] h := by
  refine hp_arc c hM hs1_k hD [] rfl hy hp_Bn hp_Fn hp_Kn (hp_La l0 hp_Ln) (hp_Si (z := ((-1) + 0)) rfl (by omega) trivial) ?_ ?_
  · intro p hp ys l' st' h' hys a1 a2 a3 gZ gL gS
    cases hp
  · intro p hp ys v h' hys a1 a2 a3 gZ gS
    rcases List.mem_cons.mp hp with rfl | hp
    · obtain rfl := hp_y0 hys
      cases v with
      | none => cases gS
      | some w =>
        obtain ⟨y0, t0, s0, q0, -⟩ := hp_gSi (z := (0 + 0)) gS rfl
        cases s0
        exact r0 h' y0 (by omega) a1 a2 a3
    cases hp
theorem hs2_k : hp_chk 48 5 1 [(0, 0, 19)] [] [(0, .inr (.inr (.inl (some 91))))] [.inl (0, [(0, 1)])] [] [] 2 [] [([], 1, [(0, 0, 19)], [], [], [.inl (1, [])], [])] = true := by decide +kernel
theorem hs2 {cst : am_K} {strs : List Nat} {Φ : am_Q → Prop} {D : Nat} {M : am_M} {h : am_H} {l : am_L} (c : hp_C cst strs D) (hM : m_P[48]? = some M) (hD : (2 : Int) ≤ (D : Int) + 1) (hy : ly_hy m_tt ly_TH h) (y : Int) (x0 : Int32) (hx0 : x0.toInt = (y)) (b0 : 0 ≤ y) (t0 : y ≤ 19) (l0 : hp_a l 0 91) (r0 : ∀ (h' : am_H) (y0 : Int32), y0.toInt = 1 → ly_hy m_tt ly_TH h' → ly_fr cst [] h h' → h.length ≤ h'.length → Φ (some (.int y0), h', 0, 0)) : hp_F cst strs Φ D M 5 l [.int x0] h := by
  refine hp_arc c hM hs2_k hD [y] rfl hy (hp_Bc (z := y) rfl b0 t0 hp_Bn) hp_Fn hp_Kn (hp_La l0 hp_Ln) (hp_Si (z := (0 + (1 * y + 0))) rfl (by omega) trivial) ?_ ?_
  · intro p hp ys l' st' h' hys a1 a2 a3 gZ gL gS
    cases hp
  · intro p hp ys v h' hys a1 a2 a3 gZ gS
    rcases List.mem_cons.mp hp with rfl | hp
    · obtain rfl := hp_y0 hys
      cases v with
      | none => cases gS
      | some w =>
        obtain ⟨y0, t0, s0, q0, -⟩ := hp_gSi (z := (1 + 0)) gS rfl
        cases s0
        exact r0 h' y0 (by omega) a1 a2 a3
    cases hp
theorem hf0_k : hp_chk 49 0 1 [(0, 0, 1152921504606846976)] [] [(0, .inr (.inr (.inl (some 91)))), (1, .inr (.inl (0, [(0, 1)])))] [] [] [] 2 [(2, ([], 1, [(0, 0, 1152921504606846976)], [], [(0, .inr (.inr (.inl (some 91)))), (1, .inr (.inl (0, [(0, 1)]))), (3, .inl (0, []))], [], []))] [] = true := by decide +kernel
theorem hf0 {cst : am_K} {strs : List Nat} {Φ : am_Q → Prop} {D : Nat} {M : am_M} {h : am_H} {l : am_L} (c : hp_C cst strs D) (hM : m_P[49]? = some M) (hD : (2 : Int) ≤ (D : Int) + 1) (hy : ly_hy m_tt ly_TH h) (v : Int) (b0 : 0 ≤ v) (t0 : v ≤ 1152921504606846976) (l0 : hp_a l 0 91) (l1 : hp_j l 1 (v)) (e0 : ∀ (l' : am_L) (h' : am_H), ly_hy m_tt ly_TH h' → ly_fr cst [] h h' → h.length ≤ h'.length → hp_a l' 0 91 → hp_j l' 1 (v) → hp_i l' 3 0 → hp_F cst strs Φ D M 2 l' [] h') : hp_F cst strs Φ D M 0 l [] h := by
  refine hp_arc c hM hf0_k hD [v] rfl hy (hp_Bc (z := v) rfl b0 t0 hp_Bn) hp_Fn hp_Kn (hp_La l0 (hp_Lj (z := (0 + (1 * v + 0))) l1 rfl (by omega) hp_Ln)) trivial ?_ ?_
  · intro p hp ys l' st' h' hys a1 a2 a3 gZ gL gS
    rcases List.mem_cons.mp hp with rfl | hp
    · obtain rfl := hp_y0 hys
      cases hp_gSn gS
      exact e0 l' h' a1 a2 a3 (hp_gLa gL (List.mem_of_getElem? (i := 0) rfl) (by decide)) (hp_gLj (z := (0 + (1 * v + 0))) gL (List.mem_of_getElem? (i := 1) rfl) rfl (by omega)) (hp_gLi (z := (0 + 0)) gL (List.mem_of_getElem? (i := 2) rfl) rfl (by omega))
    cases hp
  · intro p hp ys v h' hys a1 a2 a3 gZ gS
    cases hp
theorem hf1_k : hp_chk 49 2 4 [(0, 0, 1152921504606846976), (1, 0, 20), (2, 0, 19), (3, 0, 1152921504606846976)] [((-1), [(1, 1), (2, (-1))])] [(0, .inr (.inr (.inl (some 91)))), (1, .inr (.inl (0, [(0, 1)]))), (3, .inl (0, [(2, 1)]))] [] [(19202, (0, []), (0, [(1, 1)])), (19456, (0, [(2, 1)]), (0, [(3, 1)])), (61000, (0, [(0, (-1)), (3, 1)]), (1, []))] [] 2 [(2, ([], 4, [(0, 0, 1152921504606846976), (1, 0, 20), (2, 0, 19), (3, 0, 1152921504606846976)], [], [(0, .inr (.inr (.inl (some 91)))), (1, .inr (.inl (0, [(0, 1)]))), (3, .inl (1, [(2, 1)]))], [], []))] [] = true := by decide +kernel
theorem hf1 {cst : am_K} {strs : List Nat} {Φ : am_Q → Prop} {D : Nat} {M : am_M} {h : am_H} {l : am_L} (c : hp_C cst strs D) (hM : m_P[49]? = some M) (hD : (2 : Int) ≤ (D : Int) + 1) (hy : ly_hy m_tt ly_TH h) (v m i x : Int) (b0 : 0 ≤ v) (t0 : v ≤ 1152921504606846976) (b1 : 0 ≤ m) (t1 : m ≤ 20) (b2 : 0 ≤ i) (t2 : i ≤ 19) (b3 : 0 ≤ x) (t3 : x ≤ 1152921504606846976) (f0 : 0 ≤ (m - i - 1)) (k0 : ly_hv cst h 19202 0 = some (m)) (k1 : ly_hv cst h 19456 (i) = some (x)) (k2 : ly_hv cst h 61000 (x - v) = some 1) (l0 : hp_a l 0 91) (l1 : hp_j l 1 (v)) (l3 : hp_i l 3 (i)) (e0 : ∀ (l' : am_L) (h' : am_H), ly_hy m_tt ly_TH h' → ly_fr cst [] h h' → h.length ≤ h'.length → hp_a l' 0 91 → hp_j l' 1 (v) → hp_i l' 3 (i + 1) → hp_F cst strs Φ D M 2 l' [] h') : hp_F cst strs Φ D M 2 l [] h := by
  refine hp_arc c hM hf1_k hD [v, m, i, x] rfl hy (hp_Bc (z := v) rfl b0 t0 (hp_Bc (z := m) rfl b1 t1 (hp_Bc (z := i) rfl b2 t2 (hp_Bc (z := x) rfl b3 t3 hp_Bn)))) (hp_Fc (z := ((-1) + (1 * m + ((-1) * i + 0)))) rfl (by omega) hp_Fn) (hp_Kc (zi := (0 + 0)) (zv := (0 + (1 * m + 0))) k0 rfl rfl (by omega) (by omega) (hp_Kc (zi := (0 + (1 * i + 0))) (zv := (0 + (1 * x + 0))) k1 rfl rfl (by omega) (by omega) (hp_Kc (zi := (0 + ((-1) * v + (1 * x + 0)))) (zv := (1 + 0)) k2 rfl rfl (by omega) (by omega) hp_Kn))) (hp_La l0 (hp_Lj (z := (0 + (1 * v + 0))) l1 rfl (by omega) (hp_Li (z := (0 + (1 * i + 0))) l3 rfl (by omega) hp_Ln))) trivial ?_ ?_
  · intro p hp ys l' st' h' hys a1 a2 a3 gZ gL gS
    rcases List.mem_cons.mp hp with rfl | hp
    · obtain rfl := hp_y0 hys
      cases hp_gSn gS
      exact e0 l' h' a1 a2 a3 (hp_gLa gL (List.mem_of_getElem? (i := 0) rfl) (by decide)) (hp_gLj (z := (0 + (1 * v + 0))) gL (List.mem_of_getElem? (i := 1) rfl) rfl (by omega)) (hp_gLi (z := (1 + (1 * i + 0))) gL (List.mem_of_getElem? (i := 2) rfl) rfl (by omega))
    cases hp
  · intro p hp ys v h' hys a1 a2 a3 gZ gS
    cases hp
theorem hf2_k : hp_chk 49 2 3 [(0, 0, 1152921504606846976), (1, 0, 20), (2, 0, 19)] [((-1), [(1, 1), (2, (-1))])] [(0, .inr (.inr (.inl (some 91)))), (1, .inr (.inl (0, [(0, 1)]))), (3, .inl (0, [(2, 1)]))] [] [(19202, (0, []), (0, [(1, 1)])), (19456, (0, [(2, 1)]), (0, [(0, 1)]))] [] 2 [] [([], 3, [(0, 0, 1152921504606846976), (1, 0, 20), (2, 0, 19)], [], [], [.inl (0, [(2, 1)])], [])] = true := by decide +kernel
theorem hf2 {cst : am_K} {strs : List Nat} {Φ : am_Q → Prop} {D : Nat} {M : am_M} {h : am_H} {l : am_L} (c : hp_C cst strs D) (hM : m_P[49]? = some M) (hD : (2 : Int) ≤ (D : Int) + 1) (hy : ly_hy m_tt ly_TH h) (v m i : Int) (b0 : 0 ≤ v) (t0 : v ≤ 1152921504606846976) (b1 : 0 ≤ m) (t1 : m ≤ 20) (b2 : 0 ≤ i) (t2 : i ≤ 19) (f0 : 0 ≤ (m - i - 1)) (k0 : ly_hv cst h 19202 0 = some (m)) (k1 : ly_hv cst h 19456 (i) = some (v)) (l0 : hp_a l 0 91) (l1 : hp_j l 1 (v)) (l3 : hp_i l 3 (i)) (r0 : ∀ (h' : am_H) (y0 : Int32), y0.toInt = (i) → ly_hy m_tt ly_TH h' → ly_fr cst [] h h' → h.length ≤ h'.length → Φ (some (.int y0), h', 0, 0)) : hp_F cst strs Φ D M 2 l [] h := by
  refine hp_arc c hM hf2_k hD [v, m, i] rfl hy (hp_Bc (z := v) rfl b0 t0 (hp_Bc (z := m) rfl b1 t1 (hp_Bc (z := i) rfl b2 t2 hp_Bn))) (hp_Fc (z := ((-1) + (1 * m + ((-1) * i + 0)))) rfl (by omega) hp_Fn) (hp_Kc (zi := (0 + 0)) (zv := (0 + (1 * m + 0))) k0 rfl rfl (by omega) (by omega) (hp_Kc (zi := (0 + (1 * i + 0))) (zv := (0 + (1 * v + 0))) k1 rfl rfl (by omega) (by omega) hp_Kn)) (hp_La l0 (hp_Lj (z := (0 + (1 * v + 0))) l1 rfl (by omega) (hp_Li (z := (0 + (1 * i + 0))) l3 rfl (by omega) hp_Ln))) trivial ?_ ?_
  · intro p hp ys l' st' h' hys a1 a2 a3 gZ gL gS
    cases hp
  · intro p hp ys v h' hys a1 a2 a3 gZ gS
    rcases List.mem_cons.mp hp with rfl | hp
    · obtain rfl := hp_y0 hys
      cases v with
      | none => cases gS
      | some w =>
        obtain ⟨y0, t0, s0, q0, -⟩ := hp_gSi (z := (0 + (1 * i + 0))) gS rfl
        cases s0
        exact r0 h' y0 (by omega) a1 a2 a3
    cases hp
theorem hf3_k : hp_chk 49 2 2 [(0, 0, 1152921504606846976), (1, 0, 20)] [] [(0, .inr (.inr (.inl (some 91)))), (1, .inr (.inl (0, [(0, 1)]))), (3, .inl (0, [(1, 1)]))] [] [(19202, (0, []), (0, [(1, 1)]))] [] 2 [] [([], 2, [(0, 0, 1152921504606846976), (1, 0, 20)], [], [], [.inl ((-1), [])], [])] = true := by decide +kernel
theorem hf3 {cst : am_K} {strs : List Nat} {Φ : am_Q → Prop} {D : Nat} {M : am_M} {h : am_H} {l : am_L} (c : hp_C cst strs D) (hM : m_P[49]? = some M) (hD : (2 : Int) ≤ (D : Int) + 1) (hy : ly_hy m_tt ly_TH h) (v m : Int) (b0 : 0 ≤ v) (t0 : v ≤ 1152921504606846976) (b1 : 0 ≤ m) (t1 : m ≤ 20) (k0 : ly_hv cst h 19202 0 = some (m)) (l0 : hp_a l 0 91) (l1 : hp_j l 1 (v)) (l3 : hp_i l 3 (m)) (r0 : ∀ (h' : am_H) (y0 : Int32), y0.toInt = (-1) → ly_hy m_tt ly_TH h' → ly_fr cst [] h h' → h.length ≤ h'.length → Φ (some (.int y0), h', 0, 0)) : hp_F cst strs Φ D M 2 l [] h := by
  refine hp_arc c hM hf3_k hD [v, m] rfl hy (hp_Bc (z := v) rfl b0 t0 (hp_Bc (z := m) rfl b1 t1 hp_Bn)) hp_Fn (hp_Kc (zi := (0 + 0)) (zv := (0 + (1 * m + 0))) k0 rfl rfl (by omega) (by omega) hp_Kn) (hp_La l0 (hp_Lj (z := (0 + (1 * v + 0))) l1 rfl (by omega) (hp_Li (z := (0 + (1 * m + 0))) l3 rfl (by omega) hp_Ln))) trivial ?_ ?_
  · intro p hp ys l' st' h' hys a1 a2 a3 gZ gL gS
    cases hp
  · intro p hp ys v h' hys a1 a2 a3 gZ gS
    rcases List.mem_cons.mp hp with rfl | hp
    · obtain rfl := hp_y0 hys
      cases v with
      | none => cases gS
      | some w =>
        obtain ⟨y0, t0, s0, q0, -⟩ := hp_gSi (z := ((-1) + 0)) gS rfl
        cases s0
        exact r0 h' y0 (by omega) a1 a2 a3
    cases hp
theorem ad0_k : hp_chk 122 0 3 [(0, 0, 1152921504606846976), (1, (-2147483648), 2147483647), (2, 0, 19)] [] [(0, .inr (.inr (.inl (some 91)))), (1, .inr (.inl (0, [(0, 1)]))), (3, .inl (0, [(1, 1)]))] [] [(19202, (0, []), (0, [(2, 1)]))] [] 2 [(23, ([], 3, [(0, 0, 1152921504606846976), (1, (-2147483648), 2147483647), (2, 0, 19)], [], [(0, .inr (.inr (.inl (some 91)))), (1, .inr (.inl (0, [(0, 1)]))), (3, .inl (0, [(1, 1)]))], [.inr (.inl (0, [(0, 1)])), .inl (0, [(2, 1)]), .inr (.inr (.inl (some 92)))], [(19202, (0, []), (0, [(2, 1)]))]))] [] = true := by decide +kernel
theorem ad0 {cst : am_K} {strs : List Nat} {Φ : am_Q → Prop} {D : Nat} {M : am_M} {h : am_H} {l : am_L} (c : hp_C cst strs D) (hM : m_P[122]? = some M) (hD : (2 : Int) ≤ (D : Int) + 1) (hy : ly_hy m_tt ly_TH h) (v w m : Int) (b0 : 0 ≤ v) (t0 : v ≤ 1152921504606846976) (b1 : (-2147483648) ≤ w) (t1 : w ≤ 2147483647) (b2 : 0 ≤ m) (t2 : m ≤ 19) (k0 : ly_hv cst h 19202 0 = some (m)) (l0 : hp_a l 0 91) (l1 : hp_j l 1 (v)) (l3 : hp_i l 3 (w)) (e0 : ∀ (l' : am_L) (h' : am_H) (y0 : Int64) (y1 : Int32), y0.toInt = (v) → y1.toInt = (m) → ly_hy m_tt ly_TH h' → ly_fr cst [] h h' → h.length ≤ h'.length → ly_hv cst h' 19202 0 = some (m) → hp_a l' 0 91 → hp_j l' 1 (v) → hp_i l' 3 (w) → hp_F cst strs Φ D M 23 l' [.long y0, .int y1, .ref 92] h') : hp_F cst strs Φ D M 0 l [] h := by
  refine hp_arc c hM ad0_k hD [v, w, m] rfl hy (hp_Bc (z := v) rfl b0 t0 (hp_Bc (z := w) rfl b1 t1 (hp_Bc (z := m) rfl b2 t2 hp_Bn))) hp_Fn (hp_Kc (zi := (0 + 0)) (zv := (0 + (1 * m + 0))) k0 rfl rfl (by omega) (by omega) hp_Kn) (hp_La l0 (hp_Lj (z := (0 + (1 * v + 0))) l1 rfl (by omega) (hp_Li (z := (0 + (1 * w + 0))) l3 rfl (by omega) hp_Ln))) trivial ?_ ?_
  · intro p hp ys l' st' h' hys a1 a2 a3 gZ gL gS
    rcases List.mem_cons.mp hp with rfl | hp
    · obtain rfl := hp_y0 hys
      obtain ⟨y0, t0, rfl, q0, g0⟩ := hp_gSj (z := (0 + (1 * v + 0))) gS rfl
      obtain ⟨y1, t1, rfl, q1, g1⟩ := hp_gSi (z := (0 + (1 * m + 0))) g0 rfl
      obtain ⟨t2, rfl, g2⟩ := hp_gSa g1 (by decide)
      cases hp_gSn g2
      exact e0 l' h' y0 y1 (by omega) (by omega) a1 a2 a3 (hp_gK (zi := (0 + 0)) (zv := (0 + (1 * m + 0))) gZ.2.2.2 (List.mem_of_getElem? (i := 0) rfl) rfl rfl (by omega) (by omega)) (hp_gLa gL (List.mem_of_getElem? (i := 0) rfl) (by decide)) (hp_gLj (z := (0 + (1 * v + 0))) gL (List.mem_of_getElem? (i := 1) rfl) rfl (by omega)) (hp_gLi (z := (0 + (1 * w + 0))) gL (List.mem_of_getElem? (i := 2) rfl) rfl (by omega))
    cases hp
  · intro p hp ys v h' hys a1 a2 a3 gZ gS
    cases hp
theorem ad1_k : hp_chk 122 24 3 [(0, 0, 1152921504606846976), (1, (-2147483648), 2147483647), (2, 0, 19)] [] [(0, .inr (.inr (.inl (some 91)))), (1, .inr (.inl (0, [(0, 1)]))), (3, .inl (0, [(1, 1)]))] [] [(19202, (0, []), (0, [(2, 1)]))] [] 2 [(33, ([], 3, [(0, 0, 1152921504606846976), (1, (-2147483648), 2147483647), (2, 0, 19)], [], [(0, .inr (.inr (.inl (some 91)))), (1, .inr (.inl (0, [(0, 1)]))), (3, .inl (0, [(1, 1)]))], [.inl (0, [(1, 1)]), .inl (0, [(2, 1)]), .inr (.inr (.inl (some 93)))], [(19202, (0, []), (0, [(2, 1)]))]))] [] = true := by decide +kernel
theorem ad1 {cst : am_K} {strs : List Nat} {Φ : am_Q → Prop} {D : Nat} {M : am_M} {h : am_H} {l : am_L} (c : hp_C cst strs D) (hM : m_P[122]? = some M) (hD : (2 : Int) ≤ (D : Int) + 1) (hy : ly_hy m_tt ly_TH h) (v w m : Int) (b0 : 0 ≤ v) (t0 : v ≤ 1152921504606846976) (b1 : (-2147483648) ≤ w) (t1 : w ≤ 2147483647) (b2 : 0 ≤ m) (t2 : m ≤ 19) (k0 : ly_hv cst h 19202 0 = some (m)) (l0 : hp_a l 0 91) (l1 : hp_j l 1 (v)) (l3 : hp_i l 3 (w)) (e0 : ∀ (l' : am_L) (h' : am_H) (y0 : Int32) (y1 : Int32), y0.toInt = (w) → y1.toInt = (m) → ly_hy m_tt ly_TH h' → ly_fr cst [] h h' → h.length ≤ h'.length → ly_hv cst h' 19202 0 = some (m) → hp_a l' 0 91 → hp_j l' 1 (v) → hp_i l' 3 (w) → hp_F cst strs Φ D M 33 l' [.int y0, .int y1, .ref 93] h') : hp_F cst strs Φ D M 24 l [] h := by
  refine hp_arc c hM ad1_k hD [v, w, m] rfl hy (hp_Bc (z := v) rfl b0 t0 (hp_Bc (z := w) rfl b1 t1 (hp_Bc (z := m) rfl b2 t2 hp_Bn))) hp_Fn (hp_Kc (zi := (0 + 0)) (zv := (0 + (1 * m + 0))) k0 rfl rfl (by omega) (by omega) hp_Kn) (hp_La l0 (hp_Lj (z := (0 + (1 * v + 0))) l1 rfl (by omega) (hp_Li (z := (0 + (1 * w + 0))) l3 rfl (by omega) hp_Ln))) trivial ?_ ?_
  · intro p hp ys l' st' h' hys a1 a2 a3 gZ gL gS
    rcases List.mem_cons.mp hp with rfl | hp
    · obtain rfl := hp_y0 hys
      obtain ⟨y0, t0, rfl, q0, g0⟩ := hp_gSi (z := (0 + (1 * w + 0))) gS rfl
      obtain ⟨y1, t1, rfl, q1, g1⟩ := hp_gSi (z := (0 + (1 * m + 0))) g0 rfl
      obtain ⟨t2, rfl, g2⟩ := hp_gSa g1 (by decide)
      cases hp_gSn g2
      exact e0 l' h' y0 y1 (by omega) (by omega) a1 a2 a3 (hp_gK (zi := (0 + 0)) (zv := (0 + (1 * m + 0))) gZ.2.2.2 (List.mem_of_getElem? (i := 0) rfl) rfl rfl (by omega) (by omega)) (hp_gLa gL (List.mem_of_getElem? (i := 0) rfl) (by decide)) (hp_gLj (z := (0 + (1 * v + 0))) gL (List.mem_of_getElem? (i := 1) rfl) rfl (by omega)) (hp_gLi (z := (0 + (1 * w + 0))) gL (List.mem_of_getElem? (i := 2) rfl) rfl (by omega))
    cases hp
  · intro p hp ys v h' hys a1 a2 a3 gZ gS
    cases hp
theorem ad2_k : hp_chk 122 34 1 [(0, 0, 19)] [] [(0, .inr (.inr (.inl (some 91))))] [] [(19202, (0, []), (0, [(0, 1)]))] [19202] 2 [] [([], 1, [(0, 0, 19)], [], [], [.inl (1, [])], [(19202, (0, []), (1, [(0, 1)]))])] = true := by decide +kernel
theorem ad2 {cst : am_K} {strs : List Nat} {Φ : am_Q → Prop} {D : Nat} {M : am_M} {h : am_H} {l : am_L} (c : hp_C cst strs D) (hM : m_P[122]? = some M) (hD : (2 : Int) ≤ (D : Int) + 1) (hy : ly_hy m_tt ly_TH h) (m : Int) (b0 : 0 ≤ m) (t0 : m ≤ 19) (k0 : ly_hv cst h 19202 0 = some (m)) (l0 : hp_a l 0 91) (r0 : ∀ (h' : am_H) (y0 : Int32), y0.toInt = 1 → ly_hy m_tt ly_TH h' → ly_fr cst [19202] h h' → h.length ≤ h'.length → ly_hv cst h' 19202 0 = some (m + 1) → Φ (some (.int y0), h', 0, 0)) : hp_F cst strs Φ D M 34 l [] h := by
  refine hp_arc c hM ad2_k hD [m] rfl hy (hp_Bc (z := m) rfl b0 t0 hp_Bn) hp_Fn (hp_Kc (zi := (0 + 0)) (zv := (0 + (1 * m + 0))) k0 rfl rfl (by omega) (by omega) hp_Kn) (hp_La l0 hp_Ln) trivial ?_ ?_
  · intro p hp ys l' st' h' hys a1 a2 a3 gZ gL gS
    cases hp
  · intro p hp ys v h' hys a1 a2 a3 gZ gS
    rcases List.mem_cons.mp hp with rfl | hp
    · obtain rfl := hp_y0 hys
      cases v with
      | none => cases gS
      | some w =>
        obtain ⟨y0, t0, s0, q0, -⟩ := hp_gSi (z := (1 + 0)) gS rfl
        cases s0
        exact r0 h' y0 (by omega) a1 a2 a3 (hp_gK (zi := (0 + 0)) (zv := (1 + (1 * m + 0))) gZ.2.2.2 (List.mem_of_getElem? (i := 0) rfl) rfl rfl (by omega) (by omega))
    cases hp
theorem fc0_k : hq_chk [60, 79, 80] 121 0 2 [(0, 0, 1200), (1, 0, 2)] [] [(0, .inr (.inr (.inl (some 91)))), (1, .inr (.inr (.inl (some 17)))), (2, .inl (0, [(1, 1)]))] [] [(261, (0, []), (0, [(0, 1)]))] [19202, 19203] 8 [(9, ([], 2, [(0, 0, 1200), (1, 0, 2)], [], [(0, .inr (.inr (.inl (some 91)))), (1, .inr (.inr (.inl (some 17)))), (3, .inl (0, [(1, 1)])), (4, .inl (0, []))], [], [(19202, (0, []), (0, []))]))] [] = true := by decide +kernel
theorem fc0 {cst : am_K} {strs : List Nat} {Φ : am_Q → Prop} {D : Nat} {M : am_M} {h : am_H} {l : am_L} (c : hp_C cst strs D) (hM : m_P[121]? = some M) (hD : (8 : Int) ≤ (D : Int) + 1) (hy : ly_hy m_tt ly_TH h) (t g : Int) (b0 : 0 ≤ t) (t0 : t ≤ 1200) (b1 : 0 ≤ g) (t1 : g ≤ 2) (k0 : ly_hv cst h 261 0 = some (t)) (l0 : hp_a l 0 91) (l1 : hp_a l 1 17) (l2 : hp_i l 2 (g)) (e0 : ∀ (l' : am_L) (h' : am_H), ly_hy m_tt ly_TH h' → ly_fr cst [19202, 19203] h h' → h.length ≤ h'.length → ly_hv cst h' 19202 0 = some 0 → hp_a l' 0 91 → hp_a l' 1 17 → hp_i l' 3 (g) → hp_i l' 4 0 → hp_F cst strs Φ D M 9 l' [] h') : hp_F cst strs Φ D M 0 l [] h := by
  refine hq_arc c hM fc0_k hD [t, g] rfl hy (hp_Bc (z := t) rfl b0 t0 (hp_Bc (z := g) rfl b1 t1 hp_Bn)) hp_Fn (hp_Kc (zi := (0 + 0)) (zv := (0 + (1 * t + 0))) k0 rfl rfl (by omega) (by omega) hp_Kn) (hp_La l0 (hp_La l1 (hp_Li (z := (0 + (1 * g + 0))) l2 rfl (by omega) hp_Ln))) trivial ?_ ?_
  · intro p hp ys l' st' h' hys a1 a2 a3 gZ gL gS
    rcases List.mem_cons.mp hp with rfl | hp
    · obtain rfl := hp_y0 hys
      cases hp_gSn gS
      exact e0 l' h' a1 a2 a3 (hp_gK (zi := (0 + 0)) (zv := (0 + 0)) gZ.2.2.2 (List.mem_of_getElem? (i := 0) rfl) rfl rfl (by omega) (by omega)) (hp_gLa gL (List.mem_of_getElem? (i := 0) rfl) (by decide)) (hp_gLa gL (List.mem_of_getElem? (i := 1) rfl) (by decide)) (hp_gLi (z := (0 + (1 * g + 0))) gL (List.mem_of_getElem? (i := 2) rfl) rfl (by omega)) (hp_gLi (z := (0 + 0)) gL (List.mem_of_getElem? (i := 3) rfl) rfl (by omega))
    cases hp
  · intro p hp ys v h' hys a1 a2 a3 gZ gS
    cases hp
theorem fcE_k : hq_chk [60, 79, 80] 121 9 3 [(0, 0, 1200), (1, 0, 1200), (2, 0, 20)] [(0, [(0, 1), (1, (-1))])] [(0, .inr (.inr (.inl (some 91)))), (1, .inr (.inr (.inl (some 17)))), (3, .inl (0, [(0, 1)])), (4, .inl (0, [(2, 1)]))] [] [(261, (0, []), (0, [(1, 1)])), (19202, (0, []), (0, [(2, 1)]))] [19203] 8 [] [([], 3, [(0, 0, 1200), (1, 0, 1200), (2, 0, 20)], [], [], [.inl (1, [])], [(19202, (0, []), (0, [(2, 1)])), (19203, (0, []), (1, []))])] = true := by decide +kernel
theorem fcE {cst : am_K} {strs : List Nat} {Φ : am_Q → Prop} {D : Nat} {M : am_M} {h : am_H} {l : am_L} (c : hp_C cst strs D) (hM : m_P[121]? = some M) (hD : (8 : Int) ≤ (D : Int) + 1) (hy : ly_hy m_tt ly_TH h) (a t n : Int) (b0 : 0 ≤ a) (t0 : a ≤ 1200) (b1 : 0 ≤ t) (t1 : t ≤ 1200) (b2 : 0 ≤ n) (t2 : n ≤ 20) (f0 : 0 ≤ (a - t)) (k0 : ly_hv cst h 261 0 = some (t)) (k1 : ly_hv cst h 19202 0 = some (n)) (l0 : hp_a l 0 91) (l1 : hp_a l 1 17) (l3 : hp_i l 3 (a)) (l4 : hp_i l 4 (n)) (r0 : ∀ (h' : am_H) (y0 : Int32), y0.toInt = 1 → ly_hy m_tt ly_TH h' → ly_fr cst [19203] h h' → h.length ≤ h'.length → ly_hv cst h' 19202 0 = some (n) → ly_hv cst h' 19203 0 = some 1 → Φ (some (.int y0), h', 0, 0)) : hp_F cst strs Φ D M 9 l [] h := by
  refine hq_arc c hM fcE_k hD [a, t, n] rfl hy (hp_Bc (z := a) rfl b0 t0 (hp_Bc (z := t) rfl b1 t1 (hp_Bc (z := n) rfl b2 t2 hp_Bn))) (hp_Fc (z := (0 + (1 * a + ((-1) * t + 0)))) rfl (by omega) hp_Fn) (hp_Kc (zi := (0 + 0)) (zv := (0 + (1 * t + 0))) k0 rfl rfl (by omega) (by omega) (hp_Kc (zi := (0 + 0)) (zv := (0 + (1 * n + 0))) k1 rfl rfl (by omega) (by omega) hp_Kn)) (hp_La l0 (hp_La l1 (hp_Li (z := (0 + (1 * a + 0))) l3 rfl (by omega) (hp_Li (z := (0 + (1 * n + 0))) l4 rfl (by omega) hp_Ln)))) trivial ?_ ?_
  · intro p hp ys l' st' h' hys a1 a2 a3 gZ gL gS
    cases hp
  · intro p hp ys v h' hys a1 a2 a3 gZ gS
    rcases List.mem_cons.mp hp with rfl | hp
    · obtain rfl := hp_y0 hys
      cases v with
      | none => cases gS
      | some w =>
        obtain ⟨y0, t0, s0, q0, -⟩ := hp_gSi (z := (1 + 0)) gS rfl
        cases s0
        exact r0 h' y0 (by omega) a1 a2 a3 (hp_gK (zi := (0 + 0)) (zv := (0 + (1 * n + 0))) gZ.2.2.2 (List.mem_of_getElem? (i := 0) rfl) rfl rfl (by omega) (by omega)) (hp_gK (zi := (0 + 0)) (zv := (1 + 0)) gZ.2.2.2 (List.mem_of_getElem? (i := 1) rfl) rfl rfl (by omega) (by omega))
    cases hp
theorem fcA_k : hq_chk [60, 79, 80] 121 9 3 [(0, 0, 1199), (1, 0, 1200), (2, 1, 255)] [((-1), [(0, (-1)), (1, 1)])] [(0, .inr (.inr (.inl (some 91)))), (1, .inr (.inr (.inl (some 17)))), (3, .inl (0, [(0, 1)])), (4, .inl (20, []))] [] [(261, (0, []), (0, [(1, 1)])), (768, (0, [(0, 1)]), (0, [(2, 1)]))] [] 8 [] [([], 3, [(0, 0, 1199), (1, 0, 1200), (2, 1, 255)], [], [], [.inl (0, [])], [])] = true := by decide +kernel
theorem fcA {cst : am_K} {strs : List Nat} {Φ : am_Q → Prop} {D : Nat} {M : am_M} {h : am_H} {l : am_L} (c : hp_C cst strs D) (hM : m_P[121]? = some M) (hD : (8 : Int) ≤ (D : Int) + 1) (hy : ly_hy m_tt ly_TH h) (a t kk : Int) (b0 : 0 ≤ a) (t0 : a ≤ 1199) (b1 : 0 ≤ t) (t1 : t ≤ 1200) (b2 : 1 ≤ kk) (t2 : kk ≤ 255) (f0 : 0 ≤ (t - a - 1)) (k0 : ly_hv cst h 261 0 = some (t)) (k1 : ly_hv cst h 768 (a) = some (kk)) (l0 : hp_a l 0 91) (l1 : hp_a l 1 17) (l3 : hp_i l 3 (a)) (l4 : hp_i l 4 20) (r0 : ∀ (h' : am_H) (y0 : Int32), y0.toInt = 0 → ly_hy m_tt ly_TH h' → ly_fr cst [] h h' → h.length ≤ h'.length → Φ (some (.int y0), h', 0, 0)) : hp_F cst strs Φ D M 9 l [] h := by
  refine hq_arc c hM fcA_k hD [a, t, kk] rfl hy (hp_Bc (z := a) rfl b0 t0 (hp_Bc (z := t) rfl b1 t1 (hp_Bc (z := kk) rfl b2 t2 hp_Bn))) (hp_Fc (z := ((-1) + ((-1) * a + (1 * t + 0)))) rfl (by omega) hp_Fn) (hp_Kc (zi := (0 + 0)) (zv := (0 + (1 * t + 0))) k0 rfl rfl (by omega) (by omega) (hp_Kc (zi := (0 + (1 * a + 0))) (zv := (0 + (1 * kk + 0))) k1 rfl rfl (by omega) (by omega) hp_Kn)) (hp_La l0 (hp_La l1 (hp_Li (z := (0 + (1 * a + 0))) l3 rfl (by omega) (hp_Li (z := (20 + 0)) l4 rfl (by omega) hp_Ln)))) trivial ?_ ?_
  · intro p hp ys l' st' h' hys a1 a2 a3 gZ gL gS
    cases hp
  · intro p hp ys v h' hys a1 a2 a3 gZ gS
    rcases List.mem_cons.mp hp with rfl | hp
    · obtain rfl := hp_y0 hys
      cases v with
      | none => cases gS
      | some w =>
        obtain ⟨y0, t0, s0, q0, -⟩ := hp_gSi (z := (0 + 0)) gS rfl
        cases s0
        exact r0 h' y0 (by omega) a1 a2 a3
    cases hp
theorem fcB_k : hq_chk [60, 79, 80] 121 9 4 [(0, 0, 1199), (1, 0, 1200), (2, 0, 19), (3, 2, 255)] [((-1), [(0, (-1)), (1, 1)])] [(0, .inr (.inr (.inl (some 91)))), (1, .inr (.inr (.inl (some 17)))), (3, .inl (0, [(0, 1)])), (4, .inl (0, [(2, 1)]))] [] [(261, (0, []), (0, [(1, 1)])), (768, (0, [(0, 1)]), (0, [(3, 1)]))] [] 8 [] [([], 4, [(0, 0, 1199), (1, 0, 1200), (2, 0, 19), (3, 2, 255)], [], [], [.inl (0, [])], [])] = true := by decide +kernel
theorem fcB {cst : am_K} {strs : List Nat} {Φ : am_Q → Prop} {D : Nat} {M : am_M} {h : am_H} {l : am_L} (c : hp_C cst strs D) (hM : m_P[121]? = some M) (hD : (8 : Int) ≤ (D : Int) + 1) (hy : ly_hy m_tt ly_TH h) (a t n kk : Int) (b0 : 0 ≤ a) (t0 : a ≤ 1199) (b1 : 0 ≤ t) (t1 : t ≤ 1200) (b2 : 0 ≤ n) (t2 : n ≤ 19) (b3 : 2 ≤ kk) (t3 : kk ≤ 255) (f0 : 0 ≤ (t - a - 1)) (k0 : ly_hv cst h 261 0 = some (t)) (k1 : ly_hv cst h 768 (a) = some (kk)) (l0 : hp_a l 0 91) (l1 : hp_a l 1 17) (l3 : hp_i l 3 (a)) (l4 : hp_i l 4 (n)) (r0 : ∀ (h' : am_H) (y0 : Int32), y0.toInt = 0 → ly_hy m_tt ly_TH h' → ly_fr cst [] h h' → h.length ≤ h'.length → Φ (some (.int y0), h', 0, 0)) : hp_F cst strs Φ D M 9 l [] h := by
  refine hq_arc c hM fcB_k hD [a, t, n, kk] rfl hy (hp_Bc (z := a) rfl b0 t0 (hp_Bc (z := t) rfl b1 t1 (hp_Bc (z := n) rfl b2 t2 (hp_Bc (z := kk) rfl b3 t3 hp_Bn)))) (hp_Fc (z := ((-1) + ((-1) * a + (1 * t + 0)))) rfl (by omega) hp_Fn) (hp_Kc (zi := (0 + 0)) (zv := (0 + (1 * t + 0))) k0 rfl rfl (by omega) (by omega) (hp_Kc (zi := (0 + (1 * a + 0))) (zv := (0 + (1 * kk + 0))) k1 rfl rfl (by omega) (by omega) hp_Kn)) (hp_La l0 (hp_La l1 (hp_Li (z := (0 + (1 * a + 0))) l3 rfl (by omega) (hp_Li (z := (0 + (1 * n + 0))) l4 rfl (by omega) hp_Ln)))) trivial ?_ ?_
  · intro p hp ys l' st' h' hys a1 a2 a3 gZ gL gS
    cases hp
  · intro p hp ys v h' hys a1 a2 a3 gZ gS
    rcases List.mem_cons.mp hp with rfl | hp
    · obtain rfl := hp_y0 hys
      cases v with
      | none => cases gS
      | some w =>
        obtain ⟨y0, t0, s0, q0, -⟩ := hp_gSi (z := (0 + 0)) gS rfl
        cases s0
        exact r0 h' y0 (by omega) a1 a2 a3
    cases hp
theorem fcC_k : hq_chk [60, 79, 80] 121 9 4 [(0, 0, 1199), (1, 0, 1200), (2, 0, 19), (3, 0, 1152921504606846976)] [((-1), [(0, (-1)), (1, 1)])] [(0, .inr (.inr (.inl (some 91)))), (1, .inr (.inr (.inl (some 17)))), (3, .inl (0, [(0, 1)])), (4, .inl (0, [(2, 1)]))] [] [(261, (0, []), (0, [(1, 1)])), (768, (0, [(0, 1)]), (1, [])), (1280, (0, [(0, 1)]), (0, [(3, 1)]))] [] 8 [(57, ([], 4, [(0, 0, 1199), (1, 0, 1200), (2, 0, 19), (3, 0, 1152921504606846976)], [], [(0, .inr (.inr (.inl (some 91)))), (1, .inr (.inr (.inl (some 17)))), (3, .inl (0, [(0, 1)])), (4, .inl (0, [(2, 1)])), (5, .inr (.inl (0, [(3, 1)])))], [.inr (.inl (0, [(3, 1)])), .inr (.inr (.inl (some 91)))], []))] [] = true := by decide +kernel
theorem fcC {cst : am_K} {strs : List Nat} {Φ : am_Q → Prop} {D : Nat} {M : am_M} {h : am_H} {l : am_L} (c : hp_C cst strs D) (hM : m_P[121]? = some M) (hD : (8 : Int) ≤ (D : Int) + 1) (hy : ly_hy m_tt ly_TH h) (a t n v : Int) (b0 : 0 ≤ a) (t0 : a ≤ 1199) (b1 : 0 ≤ t) (t1 : t ≤ 1200) (b2 : 0 ≤ n) (t2 : n ≤ 19) (b3 : 0 ≤ v) (t3 : v ≤ 1152921504606846976) (f0 : 0 ≤ (t - a - 1)) (k0 : ly_hv cst h 261 0 = some (t)) (k1 : ly_hv cst h 768 (a) = some 1) (k2 : ly_hv cst h 1280 (a) = some (v)) (l0 : hp_a l 0 91) (l1 : hp_a l 1 17) (l3 : hp_i l 3 (a)) (l4 : hp_i l 4 (n)) (e0 : ∀ (l' : am_L) (h' : am_H) (y0 : Int64), y0.toInt = (v) → ly_hy m_tt ly_TH h' → ly_fr cst [] h h' → h.length ≤ h'.length → hp_a l' 0 91 → hp_a l' 1 17 → hp_i l' 3 (a) → hp_i l' 4 (n) → hp_j l' 5 (v) → hp_F cst strs Φ D M 57 l' [.long y0, .ref 91] h') : hp_F cst strs Φ D M 9 l [] h := by
  refine hq_arc c hM fcC_k hD [a, t, n, v] rfl hy (hp_Bc (z := a) rfl b0 t0 (hp_Bc (z := t) rfl b1 t1 (hp_Bc (z := n) rfl b2 t2 (hp_Bc (z := v) rfl b3 t3 hp_Bn)))) (hp_Fc (z := ((-1) + ((-1) * a + (1 * t + 0)))) rfl (by omega) hp_Fn) (hp_Kc (zi := (0 + 0)) (zv := (0 + (1 * t + 0))) k0 rfl rfl (by omega) (by omega) (hp_Kc (zi := (0 + (1 * a + 0))) (zv := (1 + 0)) k1 rfl rfl (by omega) (by omega) (hp_Kc (zi := (0 + (1 * a + 0))) (zv := (0 + (1 * v + 0))) k2 rfl rfl (by omega) (by omega) hp_Kn))) (hp_La l0 (hp_La l1 (hp_Li (z := (0 + (1 * a + 0))) l3 rfl (by omega) (hp_Li (z := (0 + (1 * n + 0))) l4 rfl (by omega) hp_Ln)))) trivial ?_ ?_
  · intro p hp ys l' st' h' hys a1 a2 a3 gZ gL gS
    rcases List.mem_cons.mp hp with rfl | hp
    · obtain rfl := hp_y0 hys
      obtain ⟨y0, t0, rfl, q0, g0⟩ := hp_gSj (z := (0 + (1 * v + 0))) gS rfl
      obtain ⟨t1, rfl, g1⟩ := hp_gSa g0 (by decide)
      cases hp_gSn g1
      exact e0 l' h' y0 (by omega) a1 a2 a3 (hp_gLa gL (List.mem_of_getElem? (i := 0) rfl) (by decide)) (hp_gLa gL (List.mem_of_getElem? (i := 1) rfl) (by decide)) (hp_gLi (z := (0 + (1 * a + 0))) gL (List.mem_of_getElem? (i := 2) rfl) rfl (by omega)) (hp_gLi (z := (0 + (1 * n + 0))) gL (List.mem_of_getElem? (i := 3) rfl) rfl (by omega)) (hp_gLj (z := (0 + (1 * v + 0))) gL (List.mem_of_getElem? (i := 4) rfl) rfl (by omega))
    cases hp
  · intro p hp ys v h' hys a1 a2 a3 gZ gS
    cases hp
theorem fcD_k : hq_chk [60, 79, 80] 121 60 4 [(0, 0, 1199), (1, 0, 1200), (2, 0, 19), (3, 0, 1152921504606846976)] [] [(0, .inr (.inr (.inl (some 91)))), (1, .inr (.inr (.inl (some 17)))), (3, .inl (0, [(0, 1)])), (4, .inl (0, [(2, 1)])), (5, .inr (.inl (0, [(3, 1)])))] [.inl (1, [])] [(261, (0, []), (0, [(1, 1)]))] [] 8 [] [([], 4, [(0, 0, 1199), (1, 0, 1200), (2, 0, 19), (3, 0, 1152921504606846976)], [], [], [.inl (0, [])], [])] = true := by decide +kernel
theorem fcD {cst : am_K} {strs : List Nat} {Φ : am_Q → Prop} {D : Nat} {M : am_M} {h : am_H} {l : am_L} (c : hp_C cst strs D) (hM : m_P[121]? = some M) (hD : (8 : Int) ≤ (D : Int) + 1) (hy : ly_hy m_tt ly_TH h) (a t n v : Int) (x0 : Int32) (hx0 : x0.toInt = 1) (b0 : 0 ≤ a) (t0 : a ≤ 1199) (b1 : 0 ≤ t) (t1 : t ≤ 1200) (b2 : 0 ≤ n) (t2 : n ≤ 19) (b3 : 0 ≤ v) (t3 : v ≤ 1152921504606846976) (k0 : ly_hv cst h 261 0 = some (t)) (l0 : hp_a l 0 91) (l1 : hp_a l 1 17) (l3 : hp_i l 3 (a)) (l4 : hp_i l 4 (n)) (l5 : hp_j l 5 (v)) (r0 : ∀ (h' : am_H) (y0 : Int32), y0.toInt = 0 → ly_hy m_tt ly_TH h' → ly_fr cst [] h h' → h.length ≤ h'.length → Φ (some (.int y0), h', 0, 0)) : hp_F cst strs Φ D M 60 l [.int x0] h := by
  refine hq_arc c hM fcD_k hD [a, t, n, v] rfl hy (hp_Bc (z := a) rfl b0 t0 (hp_Bc (z := t) rfl b1 t1 (hp_Bc (z := n) rfl b2 t2 (hp_Bc (z := v) rfl b3 t3 hp_Bn)))) hp_Fn (hp_Kc (zi := (0 + 0)) (zv := (0 + (1 * t + 0))) k0 rfl rfl (by omega) (by omega) hp_Kn) (hp_La l0 (hp_La l1 (hp_Li (z := (0 + (1 * a + 0))) l3 rfl (by omega) (hp_Li (z := (0 + (1 * n + 0))) l4 rfl (by omega) (hp_Lj (z := (0 + (1 * v + 0))) l5 rfl (by omega) hp_Ln))))) (hp_Si (z := (1 + 0)) rfl (by omega) trivial) ?_ ?_
  · intro p hp ys l' st' h' hys a1 a2 a3 gZ gL gS
    cases hp
  · intro p hp ys v h' hys a1 a2 a3 gZ gS
    rcases List.mem_cons.mp hp with rfl | hp
    · obtain rfl := hp_y0 hys
      cases v with
      | none => cases gS
      | some w =>
        obtain ⟨y0, t0, s0, q0, -⟩ := hp_gSi (z := (0 + 0)) gS rfl
        cases s0
        exact r0 h' y0 (by omega) a1 a2 a3
    cases hp
theorem fcF_k : hq_chk [60, 79, 80] 121 60 5 [(0, 0, 1199), (1, 0, 1200), (2, 0, 19), (3, 0, 1152921504606846976), (4, 0, 9999)] [((-3), [(0, (-1)), (1, 1)])] [(0, .inr (.inr (.inl (some 91)))), (1, .inr (.inr (.inl (some 17)))), (3, .inl (0, [(0, 1)])), (4, .inl (0, [(2, 1)])), (5, .inr (.inl (0, [(3, 1)])))] [.inl (0, [])] [(261, (0, []), (0, [(1, 1)])), (768, (1, [(0, 1)]), (61, [])), (768, (2, [(0, 1)]), (2, [])), (1280, (2, [(0, 1)]), (0, [(4, 1)]))] [] 8 [(122, ([], 5, [(0, 0, 1199), (1, 0, 1200), (2, 0, 19), (3, 0, 1152921504606846976), (4, 0, 9999)], [], [(0, .inr (.inr (.inl (some 91)))), (1, .inr (.inr (.inl (some 17)))), (3, .inl (0, [(0, 1)])), (4, .inl (0, [(2, 1)])), (7, .inl (1, []))], [.inl (0, [(4, 1)]), .inr (.inl (0, [(3, 1)])), .inr (.inr (.inl (some 91)))], []))] [] = true := by decide +kernel
theorem fcF {cst : am_K} {strs : List Nat} {Φ : am_Q → Prop} {D : Nat} {M : am_M} {h : am_H} {l : am_L} (c : hp_C cst strs D) (hM : m_P[121]? = some M) (hD : (8 : Int) ≤ (D : Int) + 1) (hy : ly_hy m_tt ly_TH h) (a t n v x : Int) (x0 : Int32) (hx0 : x0.toInt = 0) (b0 : 0 ≤ a) (t0 : a ≤ 1199) (b1 : 0 ≤ t) (t1 : t ≤ 1200) (b2 : 0 ≤ n) (t2 : n ≤ 19) (b3 : 0 ≤ v) (t3 : v ≤ 1152921504606846976) (b4 : 0 ≤ x) (t4 : x ≤ 9999) (f0 : 0 ≤ (t - a - 3)) (k0 : ly_hv cst h 261 0 = some (t)) (k1 : ly_hv cst h 768 (a + 1) = some 61) (k2 : ly_hv cst h 768 (a + 2) = some 2) (k3 : ly_hv cst h 1280 (a + 2) = some (x)) (l0 : hp_a l 0 91) (l1 : hp_a l 1 17) (l3 : hp_i l 3 (a)) (l4 : hp_i l 4 (n)) (l5 : hp_j l 5 (v)) (e0 : ∀ (l' : am_L) (h' : am_H) (y0 : Int32) (y1 : Int64), y0.toInt = (x) → y1.toInt = (v) → ly_hy m_tt ly_TH h' → ly_fr cst [] h h' → h.length ≤ h'.length → hp_a l' 0 91 → hp_a l' 1 17 → hp_i l' 3 (a) → hp_i l' 4 (n) → hp_i l' 7 1 → hp_F cst strs Φ D M 122 l' [.int y0, .long y1, .ref 91] h') : hp_F cst strs Φ D M 60 l [.int x0] h := by
  refine hq_arc c hM fcF_k hD [a, t, n, v, x] rfl hy (hp_Bc (z := a) rfl b0 t0 (hp_Bc (z := t) rfl b1 t1 (hp_Bc (z := n) rfl b2 t2 (hp_Bc (z := v) rfl b3 t3 (hp_Bc (z := x) rfl b4 t4 hp_Bn))))) (hp_Fc (z := ((-3) + ((-1) * a + (1 * t + 0)))) rfl (by omega) hp_Fn) (hp_Kc (zi := (0 + 0)) (zv := (0 + (1 * t + 0))) k0 rfl rfl (by omega) (by omega) (hp_Kc (zi := (1 + (1 * a + 0))) (zv := (61 + 0)) k1 rfl rfl (by omega) (by omega) (hp_Kc (zi := (2 + (1 * a + 0))) (zv := (2 + 0)) k2 rfl rfl (by omega) (by omega) (hp_Kc (zi := (2 + (1 * a + 0))) (zv := (0 + (1 * x + 0))) k3 rfl rfl (by omega) (by omega) hp_Kn)))) (hp_La l0 (hp_La l1 (hp_Li (z := (0 + (1 * a + 0))) l3 rfl (by omega) (hp_Li (z := (0 + (1 * n + 0))) l4 rfl (by omega) (hp_Lj (z := (0 + (1 * v + 0))) l5 rfl (by omega) hp_Ln))))) (hp_Si (z := (0 + 0)) rfl (by omega) trivial) ?_ ?_
  · intro p hp ys l' st' h' hys a1 a2 a3 gZ gL gS
    rcases List.mem_cons.mp hp with rfl | hp
    · obtain rfl := hp_y0 hys
      obtain ⟨y0, t0, rfl, q0, g0⟩ := hp_gSi (z := (0 + (1 * x + 0))) gS rfl
      obtain ⟨y1, t1, rfl, q1, g1⟩ := hp_gSj (z := (0 + (1 * v + 0))) g0 rfl
      obtain ⟨t2, rfl, g2⟩ := hp_gSa g1 (by decide)
      cases hp_gSn g2
      exact e0 l' h' y0 y1 (by omega) (by omega) a1 a2 a3 (hp_gLa gL (List.mem_of_getElem? (i := 0) rfl) (by decide)) (hp_gLa gL (List.mem_of_getElem? (i := 1) rfl) (by decide)) (hp_gLi (z := (0 + (1 * a + 0))) gL (List.mem_of_getElem? (i := 2) rfl) rfl (by omega)) (hp_gLi (z := (0 + (1 * n + 0))) gL (List.mem_of_getElem? (i := 3) rfl) rfl (by omega)) (hp_gLi (z := (1 + 0)) gL (List.mem_of_getElem? (i := 4) rfl) rfl (by omega))
    cases hp
  · intro p hp ys v h' hys a1 a2 a3 gZ gS
    cases hp
theorem fcG0_k : hq_chk [60, 79, 80] 121 60 4 [(0, 0, 1199), (1, 0, 1200), (2, 0, 19), (3, 0, 1152921504606846976)] [((-2), [(0, (-1)), (1, 1)]), (2, [(0, 1), (1, (-1))])] [(0, .inr (.inr (.inl (some 91)))), (1, .inr (.inr (.inl (some 17)))), (3, .inl (0, [(0, 1)])), (4, .inl (0, [(2, 1)])), (5, .inr (.inl (0, [(3, 1)])))] [.inl (0, [])] [(261, (0, []), (0, [(1, 1)])), (768, (1, [(0, 1)]), (61, []))] [] 8 [] [([], 4, [(0, 0, 1199), (1, 0, 1200), (2, 0, 19), (3, 0, 1152921504606846976)], [], [], [.inl (0, [])], [])] = true := by decide +kernel
theorem fcG0 {cst : am_K} {strs : List Nat} {Φ : am_Q → Prop} {D : Nat} {M : am_M} {h : am_H} {l : am_L} (c : hp_C cst strs D) (hM : m_P[121]? = some M) (hD : (8 : Int) ≤ (D : Int) + 1) (hy : ly_hy m_tt ly_TH h) (a t n v : Int) (x0 : Int32) (hx0 : x0.toInt = 0) (b0 : 0 ≤ a) (t0 : a ≤ 1199) (b1 : 0 ≤ t) (t1 : t ≤ 1200) (b2 : 0 ≤ n) (t2 : n ≤ 19) (b3 : 0 ≤ v) (t3 : v ≤ 1152921504606846976) (f0 : 0 ≤ (t - a - 2)) (f1 : 0 ≤ (a - t + 2)) (k0 : ly_hv cst h 261 0 = some (t)) (k1 : ly_hv cst h 768 (a + 1) = some 61) (l0 : hp_a l 0 91) (l1 : hp_a l 1 17) (l3 : hp_i l 3 (a)) (l4 : hp_i l 4 (n)) (l5 : hp_j l 5 (v)) (r0 : ∀ (h' : am_H) (y0 : Int32), y0.toInt = 0 → ly_hy m_tt ly_TH h' → ly_fr cst [] h h' → h.length ≤ h'.length → Φ (some (.int y0), h', 0, 0)) : hp_F cst strs Φ D M 60 l [.int x0] h := by
  refine hq_arc c hM fcG0_k hD [a, t, n, v] rfl hy (hp_Bc (z := a) rfl b0 t0 (hp_Bc (z := t) rfl b1 t1 (hp_Bc (z := n) rfl b2 t2 (hp_Bc (z := v) rfl b3 t3 hp_Bn)))) (hp_Fc (z := ((-2) + ((-1) * a + (1 * t + 0)))) rfl (by omega) (hp_Fc (z := (2 + (1 * a + ((-1) * t + 0)))) rfl (by omega) hp_Fn)) (hp_Kc (zi := (0 + 0)) (zv := (0 + (1 * t + 0))) k0 rfl rfl (by omega) (by omega) (hp_Kc (zi := (1 + (1 * a + 0))) (zv := (61 + 0)) k1 rfl rfl (by omega) (by omega) hp_Kn)) (hp_La l0 (hp_La l1 (hp_Li (z := (0 + (1 * a + 0))) l3 rfl (by omega) (hp_Li (z := (0 + (1 * n + 0))) l4 rfl (by omega) (hp_Lj (z := (0 + (1 * v + 0))) l5 rfl (by omega) hp_Ln))))) (hp_Si (z := (0 + 0)) rfl (by omega) trivial) ?_ ?_
  · intro p hp ys l' st' h' hys a1 a2 a3 gZ gL gS
    cases hp
  · intro p hp ys v h' hys a1 a2 a3 gZ gS
    rcases List.mem_cons.mp hp with rfl | hp
    · obtain rfl := hp_y0 hys
      cases v with
      | none => cases gS
      | some w =>
        obtain ⟨y0, t0, s0, q0, -⟩ := hp_gSi (z := (0 + 0)) gS rfl
        cases s0
        exact r0 h' y0 (by omega) a1 a2 a3
    cases hp
theorem fcG1_k : hq_chk [60, 79, 80] 121 60 5 [(0, 0, 1199), (1, 0, 1200), (2, 0, 19), (3, 0, 1152921504606846976), (4, 1, 1)] [((-3), [(0, (-1)), (1, 1)])] [(0, .inr (.inr (.inl (some 91)))), (1, .inr (.inr (.inl (some 17)))), (3, .inl (0, [(0, 1)])), (4, .inl (0, [(2, 1)])), (5, .inr (.inl (0, [(3, 1)])))] [.inl (0, [])] [(261, (0, []), (0, [(1, 1)])), (768, (1, [(0, 1)]), (61, [])), (768, (2, [(0, 1)]), (0, [(4, 1)]))] [] 8 [] [([], 5, [(0, 0, 1199), (1, 0, 1200), (2, 0, 19), (3, 0, 1152921504606846976), (4, 1, 1)], [], [], [.inl (0, [])], [])] = true := by decide +kernel
theorem fcG1 {cst : am_K} {strs : List Nat} {Φ : am_Q → Prop} {D : Nat} {M : am_M} {h : am_H} {l : am_L} (c : hp_C cst strs D) (hM : m_P[121]? = some M) (hD : (8 : Int) ≤ (D : Int) + 1) (hy : ly_hy m_tt ly_TH h) (a t n v kk : Int) (x0 : Int32) (hx0 : x0.toInt = 0) (b0 : 0 ≤ a) (t0 : a ≤ 1199) (b1 : 0 ≤ t) (t1 : t ≤ 1200) (b2 : 0 ≤ n) (t2 : n ≤ 19) (b3 : 0 ≤ v) (t3 : v ≤ 1152921504606846976) (b4 : 1 ≤ kk) (t4 : kk ≤ 1) (f0 : 0 ≤ (t - a - 3)) (k0 : ly_hv cst h 261 0 = some (t)) (k1 : ly_hv cst h 768 (a + 1) = some 61) (k2 : ly_hv cst h 768 (a + 2) = some (kk)) (l0 : hp_a l 0 91) (l1 : hp_a l 1 17) (l3 : hp_i l 3 (a)) (l4 : hp_i l 4 (n)) (l5 : hp_j l 5 (v)) (r0 : ∀ (h' : am_H) (y0 : Int32), y0.toInt = 0 → ly_hy m_tt ly_TH h' → ly_fr cst [] h h' → h.length ≤ h'.length → Φ (some (.int y0), h', 0, 0)) : hp_F cst strs Φ D M 60 l [.int x0] h := by
  refine hq_arc c hM fcG1_k hD [a, t, n, v, kk] rfl hy (hp_Bc (z := a) rfl b0 t0 (hp_Bc (z := t) rfl b1 t1 (hp_Bc (z := n) rfl b2 t2 (hp_Bc (z := v) rfl b3 t3 (hp_Bc (z := kk) rfl b4 t4 hp_Bn))))) (hp_Fc (z := ((-3) + ((-1) * a + (1 * t + 0)))) rfl (by omega) hp_Fn) (hp_Kc (zi := (0 + 0)) (zv := (0 + (1 * t + 0))) k0 rfl rfl (by omega) (by omega) (hp_Kc (zi := (1 + (1 * a + 0))) (zv := (61 + 0)) k1 rfl rfl (by omega) (by omega) (hp_Kc (zi := (2 + (1 * a + 0))) (zv := (0 + (1 * kk + 0))) k2 rfl rfl (by omega) (by omega) hp_Kn))) (hp_La l0 (hp_La l1 (hp_Li (z := (0 + (1 * a + 0))) l3 rfl (by omega) (hp_Li (z := (0 + (1 * n + 0))) l4 rfl (by omega) (hp_Lj (z := (0 + (1 * v + 0))) l5 rfl (by omega) hp_Ln))))) (hp_Si (z := (0 + 0)) rfl (by omega) trivial) ?_ ?_
  · intro p hp ys l' st' h' hys a1 a2 a3 gZ gL gS
    cases hp
  · intro p hp ys v h' hys a1 a2 a3 gZ gS
    rcases List.mem_cons.mp hp with rfl | hp
    · obtain rfl := hp_y0 hys
      cases v with
      | none => cases gS
      | some w =>
        obtain ⟨y0, t0, s0, q0, -⟩ := hp_gSi (z := (0 + 0)) gS rfl
        cases s0
        exact r0 h' y0 (by omega) a1 a2 a3
    cases hp
theorem fcG2_k : hq_chk [60, 79, 80] 121 60 5 [(0, 0, 1199), (1, 0, 1200), (2, 0, 19), (3, 0, 1152921504606846976), (4, 3, 255)] [((-3), [(0, (-1)), (1, 1)])] [(0, .inr (.inr (.inl (some 91)))), (1, .inr (.inr (.inl (some 17)))), (3, .inl (0, [(0, 1)])), (4, .inl (0, [(2, 1)])), (5, .inr (.inl (0, [(3, 1)])))] [.inl (0, [])] [(261, (0, []), (0, [(1, 1)])), (768, (1, [(0, 1)]), (61, [])), (768, (2, [(0, 1)]), (0, [(4, 1)]))] [] 8 [] [([], 5, [(0, 0, 1199), (1, 0, 1200), (2, 0, 19), (3, 0, 1152921504606846976), (4, 3, 255)], [], [], [.inl (0, [])], [])] = true := by decide +kernel
theorem fcG2 {cst : am_K} {strs : List Nat} {Φ : am_Q → Prop} {D : Nat} {M : am_M} {h : am_H} {l : am_L} (c : hp_C cst strs D) (hM : m_P[121]? = some M) (hD : (8 : Int) ≤ (D : Int) + 1) (hy : ly_hy m_tt ly_TH h) (a t n v kk : Int) (x0 : Int32) (hx0 : x0.toInt = 0) (b0 : 0 ≤ a) (t0 : a ≤ 1199) (b1 : 0 ≤ t) (t1 : t ≤ 1200) (b2 : 0 ≤ n) (t2 : n ≤ 19) (b3 : 0 ≤ v) (t3 : v ≤ 1152921504606846976) (b4 : 3 ≤ kk) (t4 : kk ≤ 255) (f0 : 0 ≤ (t - a - 3)) (k0 : ly_hv cst h 261 0 = some (t)) (k1 : ly_hv cst h 768 (a + 1) = some 61) (k2 : ly_hv cst h 768 (a + 2) = some (kk)) (l0 : hp_a l 0 91) (l1 : hp_a l 1 17) (l3 : hp_i l 3 (a)) (l4 : hp_i l 4 (n)) (l5 : hp_j l 5 (v)) (r0 : ∀ (h' : am_H) (y0 : Int32), y0.toInt = 0 → ly_hy m_tt ly_TH h' → ly_fr cst [] h h' → h.length ≤ h'.length → Φ (some (.int y0), h', 0, 0)) : hp_F cst strs Φ D M 60 l [.int x0] h := by
  refine hq_arc c hM fcG2_k hD [a, t, n, v, kk] rfl hy (hp_Bc (z := a) rfl b0 t0 (hp_Bc (z := t) rfl b1 t1 (hp_Bc (z := n) rfl b2 t2 (hp_Bc (z := v) rfl b3 t3 (hp_Bc (z := kk) rfl b4 t4 hp_Bn))))) (hp_Fc (z := ((-3) + ((-1) * a + (1 * t + 0)))) rfl (by omega) hp_Fn) (hp_Kc (zi := (0 + 0)) (zv := (0 + (1 * t + 0))) k0 rfl rfl (by omega) (by omega) (hp_Kc (zi := (1 + (1 * a + 0))) (zv := (61 + 0)) k1 rfl rfl (by omega) (by omega) (hp_Kc (zi := (2 + (1 * a + 0))) (zv := (0 + (1 * kk + 0))) k2 rfl rfl (by omega) (by omega) hp_Kn))) (hp_La l0 (hp_La l1 (hp_Li (z := (0 + (1 * a + 0))) l3 rfl (by omega) (hp_Li (z := (0 + (1 * n + 0))) l4 rfl (by omega) (hp_Lj (z := (0 + (1 * v + 0))) l5 rfl (by omega) hp_Ln))))) (hp_Si (z := (0 + 0)) rfl (by omega) trivial) ?_ ?_
  · intro p hp ys l' st' h' hys a1 a2 a3 gZ gL gS
    cases hp
  · intro p hp ys v h' hys a1 a2 a3 gZ gS
    rcases List.mem_cons.mp hp with rfl | hp
    · obtain rfl := hp_y0 hys
      cases v with
      | none => cases gS
      | some w =>
        obtain ⟨y0, t0, s0, q0, -⟩ := hp_gSi (z := (0 + 0)) gS rfl
        cases s0
        exact r0 h' y0 (by omega) a1 a2 a3
    cases hp
theorem fcH0_k : hq_chk [60, 79, 80] 121 60 4 [(0, 0, 1199), (1, 0, 1200), (2, 0, 19), (3, 0, 1152921504606846976)] [((-1), [(0, (-1)), (1, 1)]), (1, [(0, 1), (1, (-1))])] [(0, .inr (.inr (.inl (some 91)))), (1, .inr (.inr (.inl (some 17)))), (3, .inl (0, [(0, 1)])), (4, .inl (0, [(2, 1)])), (5, .inr (.inl (0, [(3, 1)])))] [.inl (0, [])] [(261, (0, []), (0, [(1, 1)]))] [] 8 [(122, ([], 4, [(0, 0, 1199), (1, 0, 1200), (2, 0, 19), (3, 0, 1152921504606846976)], [], [(0, .inr (.inr (.inl (some 91)))), (1, .inr (.inr (.inl (some 17)))), (3, .inl (0, [(0, 1)])), (4, .inl (0, [(2, 1)])), (7, .inl (0, []))], [.inl (1, []), .inr (.inl (0, [(3, 1)])), .inr (.inr (.inl (some 91)))], []))] [] = true := by decide +kernel
theorem fcH0 {cst : am_K} {strs : List Nat} {Φ : am_Q → Prop} {D : Nat} {M : am_M} {h : am_H} {l : am_L} (c : hp_C cst strs D) (hM : m_P[121]? = some M) (hD : (8 : Int) ≤ (D : Int) + 1) (hy : ly_hy m_tt ly_TH h) (a t n v : Int) (x0 : Int32) (hx0 : x0.toInt = 0) (b0 : 0 ≤ a) (t0 : a ≤ 1199) (b1 : 0 ≤ t) (t1 : t ≤ 1200) (b2 : 0 ≤ n) (t2 : n ≤ 19) (b3 : 0 ≤ v) (t3 : v ≤ 1152921504606846976) (f0 : 0 ≤ (t - a - 1)) (f1 : 0 ≤ (a - t + 1)) (k0 : ly_hv cst h 261 0 = some (t)) (l0 : hp_a l 0 91) (l1 : hp_a l 1 17) (l3 : hp_i l 3 (a)) (l4 : hp_i l 4 (n)) (l5 : hp_j l 5 (v)) (e0 : ∀ (l' : am_L) (h' : am_H) (y0 : Int32) (y1 : Int64), y0.toInt = 1 → y1.toInt = (v) → ly_hy m_tt ly_TH h' → ly_fr cst [] h h' → h.length ≤ h'.length → hp_a l' 0 91 → hp_a l' 1 17 → hp_i l' 3 (a) → hp_i l' 4 (n) → hp_i l' 7 0 → hp_F cst strs Φ D M 122 l' [.int y0, .long y1, .ref 91] h') : hp_F cst strs Φ D M 60 l [.int x0] h := by
  refine hq_arc c hM fcH0_k hD [a, t, n, v] rfl hy (hp_Bc (z := a) rfl b0 t0 (hp_Bc (z := t) rfl b1 t1 (hp_Bc (z := n) rfl b2 t2 (hp_Bc (z := v) rfl b3 t3 hp_Bn)))) (hp_Fc (z := ((-1) + ((-1) * a + (1 * t + 0)))) rfl (by omega) (hp_Fc (z := (1 + (1 * a + ((-1) * t + 0)))) rfl (by omega) hp_Fn)) (hp_Kc (zi := (0 + 0)) (zv := (0 + (1 * t + 0))) k0 rfl rfl (by omega) (by omega) hp_Kn) (hp_La l0 (hp_La l1 (hp_Li (z := (0 + (1 * a + 0))) l3 rfl (by omega) (hp_Li (z := (0 + (1 * n + 0))) l4 rfl (by omega) (hp_Lj (z := (0 + (1 * v + 0))) l5 rfl (by omega) hp_Ln))))) (hp_Si (z := (0 + 0)) rfl (by omega) trivial) ?_ ?_
  · intro p hp ys l' st' h' hys a1 a2 a3 gZ gL gS
    rcases List.mem_cons.mp hp with rfl | hp
    · obtain rfl := hp_y0 hys
      obtain ⟨y0, t0, rfl, q0, g0⟩ := hp_gSi (z := (1 + 0)) gS rfl
      obtain ⟨y1, t1, rfl, q1, g1⟩ := hp_gSj (z := (0 + (1 * v + 0))) g0 rfl
      obtain ⟨t2, rfl, g2⟩ := hp_gSa g1 (by decide)
      cases hp_gSn g2
      exact e0 l' h' y0 y1 (by omega) (by omega) a1 a2 a3 (hp_gLa gL (List.mem_of_getElem? (i := 0) rfl) (by decide)) (hp_gLa gL (List.mem_of_getElem? (i := 1) rfl) (by decide)) (hp_gLi (z := (0 + (1 * a + 0))) gL (List.mem_of_getElem? (i := 2) rfl) rfl (by omega)) (hp_gLi (z := (0 + (1 * n + 0))) gL (List.mem_of_getElem? (i := 3) rfl) rfl (by omega)) (hp_gLi (z := (0 + 0)) gL (List.mem_of_getElem? (i := 4) rfl) rfl (by omega))
    cases hp
  · intro p hp ys v h' hys a1 a2 a3 gZ gS
    cases hp
theorem fcH1_k : hq_chk [60, 79, 80] 121 60 5 [(0, 0, 1199), (1, 0, 1200), (2, 0, 19), (3, 0, 1152921504606846976), (4, 1, 60)] [((-2), [(0, (-1)), (1, 1)])] [(0, .inr (.inr (.inl (some 91)))), (1, .inr (.inr (.inl (some 17)))), (3, .inl (0, [(0, 1)])), (4, .inl (0, [(2, 1)])), (5, .inr (.inl (0, [(3, 1)])))] [.inl (0, [])] [(261, (0, []), (0, [(1, 1)])), (768, (1, [(0, 1)]), (0, [(4, 1)]))] [] 8 [(122, ([], 5, [(0, 0, 1199), (1, 0, 1200), (2, 0, 19), (3, 0, 1152921504606846976), (4, 1, 60)], [], [(0, .inr (.inr (.inl (some 91)))), (1, .inr (.inr (.inl (some 17)))), (3, .inl (0, [(0, 1)])), (4, .inl (0, [(2, 1)])), (7, .inl (0, []))], [.inl (1, []), .inr (.inl (0, [(3, 1)])), .inr (.inr (.inl (some 91)))], []))] [] = true := by decide +kernel
theorem fcH1 {cst : am_K} {strs : List Nat} {Φ : am_Q → Prop} {D : Nat} {M : am_M} {h : am_H} {l : am_L} (c : hp_C cst strs D) (hM : m_P[121]? = some M) (hD : (8 : Int) ≤ (D : Int) + 1) (hy : ly_hy m_tt ly_TH h) (a t n v kk : Int) (x0 : Int32) (hx0 : x0.toInt = 0) (b0 : 0 ≤ a) (t0 : a ≤ 1199) (b1 : 0 ≤ t) (t1 : t ≤ 1200) (b2 : 0 ≤ n) (t2 : n ≤ 19) (b3 : 0 ≤ v) (t3 : v ≤ 1152921504606846976) (b4 : 1 ≤ kk) (t4 : kk ≤ 60) (f0 : 0 ≤ (t - a - 2)) (k0 : ly_hv cst h 261 0 = some (t)) (k1 : ly_hv cst h 768 (a + 1) = some (kk)) (l0 : hp_a l 0 91) (l1 : hp_a l 1 17) (l3 : hp_i l 3 (a)) (l4 : hp_i l 4 (n)) (l5 : hp_j l 5 (v)) (e0 : ∀ (l' : am_L) (h' : am_H) (y0 : Int32) (y1 : Int64), y0.toInt = 1 → y1.toInt = (v) → ly_hy m_tt ly_TH h' → ly_fr cst [] h h' → h.length ≤ h'.length → hp_a l' 0 91 → hp_a l' 1 17 → hp_i l' 3 (a) → hp_i l' 4 (n) → hp_i l' 7 0 → hp_F cst strs Φ D M 122 l' [.int y0, .long y1, .ref 91] h') : hp_F cst strs Φ D M 60 l [.int x0] h := by
  refine hq_arc c hM fcH1_k hD [a, t, n, v, kk] rfl hy (hp_Bc (z := a) rfl b0 t0 (hp_Bc (z := t) rfl b1 t1 (hp_Bc (z := n) rfl b2 t2 (hp_Bc (z := v) rfl b3 t3 (hp_Bc (z := kk) rfl b4 t4 hp_Bn))))) (hp_Fc (z := ((-2) + ((-1) * a + (1 * t + 0)))) rfl (by omega) hp_Fn) (hp_Kc (zi := (0 + 0)) (zv := (0 + (1 * t + 0))) k0 rfl rfl (by omega) (by omega) (hp_Kc (zi := (1 + (1 * a + 0))) (zv := (0 + (1 * kk + 0))) k1 rfl rfl (by omega) (by omega) hp_Kn)) (hp_La l0 (hp_La l1 (hp_Li (z := (0 + (1 * a + 0))) l3 rfl (by omega) (hp_Li (z := (0 + (1 * n + 0))) l4 rfl (by omega) (hp_Lj (z := (0 + (1 * v + 0))) l5 rfl (by omega) hp_Ln))))) (hp_Si (z := (0 + 0)) rfl (by omega) trivial) ?_ ?_
  · intro p hp ys l' st' h' hys a1 a2 a3 gZ gL gS
    rcases List.mem_cons.mp hp with rfl | hp
    · obtain rfl := hp_y0 hys
      obtain ⟨y0, t0, rfl, q0, g0⟩ := hp_gSi (z := (1 + 0)) gS rfl
      obtain ⟨y1, t1, rfl, q1, g1⟩ := hp_gSj (z := (0 + (1 * v + 0))) g0 rfl
      obtain ⟨t2, rfl, g2⟩ := hp_gSa g1 (by decide)
      cases hp_gSn g2
      exact e0 l' h' y0 y1 (by omega) (by omega) a1 a2 a3 (hp_gLa gL (List.mem_of_getElem? (i := 0) rfl) (by decide)) (hp_gLa gL (List.mem_of_getElem? (i := 1) rfl) (by decide)) (hp_gLi (z := (0 + (1 * a + 0))) gL (List.mem_of_getElem? (i := 2) rfl) rfl (by omega)) (hp_gLi (z := (0 + (1 * n + 0))) gL (List.mem_of_getElem? (i := 3) rfl) rfl (by omega)) (hp_gLi (z := (0 + 0)) gL (List.mem_of_getElem? (i := 4) rfl) rfl (by omega))
    cases hp
  · intro p hp ys v h' hys a1 a2 a3 gZ gS
    cases hp
theorem fcH2_k : hq_chk [60, 79, 80] 121 60 5 [(0, 0, 1199), (1, 0, 1200), (2, 0, 19), (3, 0, 1152921504606846976), (4, 62, 255)] [((-2), [(0, (-1)), (1, 1)])] [(0, .inr (.inr (.inl (some 91)))), (1, .inr (.inr (.inl (some 17)))), (3, .inl (0, [(0, 1)])), (4, .inl (0, [(2, 1)])), (5, .inr (.inl (0, [(3, 1)])))] [.inl (0, [])] [(261, (0, []), (0, [(1, 1)])), (768, (1, [(0, 1)]), (0, [(4, 1)]))] [] 8 [(122, ([], 5, [(0, 0, 1199), (1, 0, 1200), (2, 0, 19), (3, 0, 1152921504606846976), (4, 62, 255)], [], [(0, .inr (.inr (.inl (some 91)))), (1, .inr (.inr (.inl (some 17)))), (3, .inl (0, [(0, 1)])), (4, .inl (0, [(2, 1)])), (7, .inl (0, []))], [.inl (1, []), .inr (.inl (0, [(3, 1)])), .inr (.inr (.inl (some 91)))], []))] [] = true := by decide +kernel
theorem fcH2 {cst : am_K} {strs : List Nat} {Φ : am_Q → Prop} {D : Nat} {M : am_M} {h : am_H} {l : am_L} (c : hp_C cst strs D) (hM : m_P[121]? = some M) (hD : (8 : Int) ≤ (D : Int) + 1) (hy : ly_hy m_tt ly_TH h) (a t n v kk : Int) (x0 : Int32) (hx0 : x0.toInt = 0) (b0 : 0 ≤ a) (t0 : a ≤ 1199) (b1 : 0 ≤ t) (t1 : t ≤ 1200) (b2 : 0 ≤ n) (t2 : n ≤ 19) (b3 : 0 ≤ v) (t3 : v ≤ 1152921504606846976) (b4 : 62 ≤ kk) (t4 : kk ≤ 255) (f0 : 0 ≤ (t - a - 2)) (k0 : ly_hv cst h 261 0 = some (t)) (k1 : ly_hv cst h 768 (a + 1) = some (kk)) (l0 : hp_a l 0 91) (l1 : hp_a l 1 17) (l3 : hp_i l 3 (a)) (l4 : hp_i l 4 (n)) (l5 : hp_j l 5 (v)) (e0 : ∀ (l' : am_L) (h' : am_H) (y0 : Int32) (y1 : Int64), y0.toInt = 1 → y1.toInt = (v) → ly_hy m_tt ly_TH h' → ly_fr cst [] h h' → h.length ≤ h'.length → hp_a l' 0 91 → hp_a l' 1 17 → hp_i l' 3 (a) → hp_i l' 4 (n) → hp_i l' 7 0 → hp_F cst strs Φ D M 122 l' [.int y0, .long y1, .ref 91] h') : hp_F cst strs Φ D M 60 l [.int x0] h := by
  refine hq_arc c hM fcH2_k hD [a, t, n, v, kk] rfl hy (hp_Bc (z := a) rfl b0 t0 (hp_Bc (z := t) rfl b1 t1 (hp_Bc (z := n) rfl b2 t2 (hp_Bc (z := v) rfl b3 t3 (hp_Bc (z := kk) rfl b4 t4 hp_Bn))))) (hp_Fc (z := ((-2) + ((-1) * a + (1 * t + 0)))) rfl (by omega) hp_Fn) (hp_Kc (zi := (0 + 0)) (zv := (0 + (1 * t + 0))) k0 rfl rfl (by omega) (by omega) (hp_Kc (zi := (1 + (1 * a + 0))) (zv := (0 + (1 * kk + 0))) k1 rfl rfl (by omega) (by omega) hp_Kn)) (hp_La l0 (hp_La l1 (hp_Li (z := (0 + (1 * a + 0))) l3 rfl (by omega) (hp_Li (z := (0 + (1 * n + 0))) l4 rfl (by omega) (hp_Lj (z := (0 + (1 * v + 0))) l5 rfl (by omega) hp_Ln))))) (hp_Si (z := (0 + 0)) rfl (by omega) trivial) ?_ ?_
  · intro p hp ys l' st' h' hys a1 a2 a3 gZ gL gS
    rcases List.mem_cons.mp hp with rfl | hp
    · obtain rfl := hp_y0 hys
      obtain ⟨y0, t0, rfl, q0, g0⟩ := hp_gSi (z := (1 + 0)) gS rfl
      obtain ⟨y1, t1, rfl, q1, g1⟩ := hp_gSj (z := (0 + (1 * v + 0))) g0 rfl
      obtain ⟨t2, rfl, g2⟩ := hp_gSa g1 (by decide)
      cases hp_gSn g2
      exact e0 l' h' y0 y1 (by omega) (by omega) a1 a2 a3 (hp_gLa gL (List.mem_of_getElem? (i := 0) rfl) (by decide)) (hp_gLa gL (List.mem_of_getElem? (i := 1) rfl) (by decide)) (hp_gLi (z := (0 + (1 * a + 0))) gL (List.mem_of_getElem? (i := 2) rfl) rfl (by omega)) (hp_gLi (z := (0 + (1 * n + 0))) gL (List.mem_of_getElem? (i := 3) rfl) rfl (by omega)) (hp_gLi (z := (0 + 0)) gL (List.mem_of_getElem? (i := 4) rfl) rfl (by omega))
    cases hp
  · intro p hp ys v h' hys a1 a2 a3 gZ gS
    cases hp
theorem fcI0_k : hq_chk [60, 79, 80] 121 125 4 [(0, 0, 1199), (1, 0, 1200), (2, 0, 19), (3, (-2147483648), 2147483647)] [((-2), [(0, (-1)), (1, 1)])] [(0, .inr (.inr (.inl (some 91)))), (1, .inr (.inr (.inl (some 17)))), (3, .inl (0, [(0, 1)])), (4, .inl (0, [(2, 1)])), (7, .inl (0, []))] [.inl (0, [(3, 1)])] [(261, (0, []), (0, [(1, 1)])), (768, (1, [(0, 1)]), (59, []))] [] 8 [(9, ([], 4, [(0, 0, 1199), (1, 0, 1200), (2, 0, 19), (3, (-2147483648), 2147483647)], [], [(0, .inr (.inr (.inl (some 91)))), (1, .inr (.inr (.inl (some 17)))), (3, .inl (2, [(0, 1)])), (4, .inl (1, [(2, 1)]))], [], []))] [] = true := by decide +kernel
theorem fcI0 {cst : am_K} {strs : List Nat} {Φ : am_Q → Prop} {D : Nat} {M : am_M} {h : am_H} {l : am_L} (c : hp_C cst strs D) (hM : m_P[121]? = some M) (hD : (8 : Int) ≤ (D : Int) + 1) (hy : ly_hy m_tt ly_TH h) (a t n y : Int) (x0 : Int32) (hx0 : x0.toInt = (y)) (b0 : 0 ≤ a) (t0 : a ≤ 1199) (b1 : 0 ≤ t) (t1 : t ≤ 1200) (b2 : 0 ≤ n) (t2 : n ≤ 19) (b3 : (-2147483648) ≤ y) (t3 : y ≤ 2147483647) (f0 : 0 ≤ (t - a - 2)) (k0 : ly_hv cst h 261 0 = some (t)) (k1 : ly_hv cst h 768 (a + 1) = some 59) (l0 : hp_a l 0 91) (l1 : hp_a l 1 17) (l3 : hp_i l 3 (a)) (l4 : hp_i l 4 (n)) (l7 : hp_i l 7 0) (e0 : ∀ (l' : am_L) (h' : am_H), ly_hy m_tt ly_TH h' → ly_fr cst [] h h' → h.length ≤ h'.length → hp_a l' 0 91 → hp_a l' 1 17 → hp_i l' 3 (a + 2) → hp_i l' 4 (n + 1) → hp_F cst strs Φ D M 9 l' [] h') : hp_F cst strs Φ D M 125 l [.int x0] h := by
  refine hq_arc c hM fcI0_k hD [a, t, n, y] rfl hy (hp_Bc (z := a) rfl b0 t0 (hp_Bc (z := t) rfl b1 t1 (hp_Bc (z := n) rfl b2 t2 (hp_Bc (z := y) rfl b3 t3 hp_Bn)))) (hp_Fc (z := ((-2) + ((-1) * a + (1 * t + 0)))) rfl (by omega) hp_Fn) (hp_Kc (zi := (0 + 0)) (zv := (0 + (1 * t + 0))) k0 rfl rfl (by omega) (by omega) (hp_Kc (zi := (1 + (1 * a + 0))) (zv := (59 + 0)) k1 rfl rfl (by omega) (by omega) hp_Kn)) (hp_La l0 (hp_La l1 (hp_Li (z := (0 + (1 * a + 0))) l3 rfl (by omega) (hp_Li (z := (0 + (1 * n + 0))) l4 rfl (by omega) (hp_Li (z := (0 + 0)) l7 rfl (by omega) hp_Ln))))) (hp_Si (z := (0 + (1 * y + 0))) rfl (by omega) trivial) ?_ ?_
  · intro p hp ys l' st' h' hys a1 a2 a3 gZ gL gS
    rcases List.mem_cons.mp hp with rfl | hp
    · obtain rfl := hp_y0 hys
      cases hp_gSn gS
      exact e0 l' h' a1 a2 a3 (hp_gLa gL (List.mem_of_getElem? (i := 0) rfl) (by decide)) (hp_gLa gL (List.mem_of_getElem? (i := 1) rfl) (by decide)) (hp_gLi (z := (2 + (1 * a + 0))) gL (List.mem_of_getElem? (i := 2) rfl) rfl (by omega)) (hp_gLi (z := (1 + (1 * n + 0))) gL (List.mem_of_getElem? (i := 3) rfl) rfl (by omega))
    cases hp
  · intro p hp ys v h' hys a1 a2 a3 gZ gS
    cases hp
theorem fcJ0_k : hq_chk [60, 79, 80] 121 125 4 [(0, 0, 1199), (1, 0, 1200), (2, 0, 19), (3, (-2147483648), 2147483647)] [(1, [(0, 1), (1, (-1))])] [(0, .inr (.inr (.inl (some 91)))), (1, .inr (.inr (.inl (some 17)))), (3, .inl (0, [(0, 1)])), (4, .inl (0, [(2, 1)])), (7, .inl (0, []))] [.inl (0, [(3, 1)])] [(261, (0, []), (0, [(1, 1)]))] [] 8 [] [([], 4, [(0, 0, 1199), (1, 0, 1200), (2, 0, 19), (3, (-2147483648), 2147483647)], [], [], [.inl (0, [])], [])] = true := by decide +kernel
theorem fcJ0 {cst : am_K} {strs : List Nat} {Φ : am_Q → Prop} {D : Nat} {M : am_M} {h : am_H} {l : am_L} (c : hp_C cst strs D) (hM : m_P[121]? = some M) (hD : (8 : Int) ≤ (D : Int) + 1) (hy : ly_hy m_tt ly_TH h) (a t n y : Int) (x0 : Int32) (hx0 : x0.toInt = (y)) (b0 : 0 ≤ a) (t0 : a ≤ 1199) (b1 : 0 ≤ t) (t1 : t ≤ 1200) (b2 : 0 ≤ n) (t2 : n ≤ 19) (b3 : (-2147483648) ≤ y) (t3 : y ≤ 2147483647) (f0 : 0 ≤ (a - t + 1)) (k0 : ly_hv cst h 261 0 = some (t)) (l0 : hp_a l 0 91) (l1 : hp_a l 1 17) (l3 : hp_i l 3 (a)) (l4 : hp_i l 4 (n)) (l7 : hp_i l 7 0) (r0 : ∀ (h' : am_H) (y0 : Int32), y0.toInt = 0 → ly_hy m_tt ly_TH h' → ly_fr cst [] h h' → h.length ≤ h'.length → Φ (some (.int y0), h', 0, 0)) : hp_F cst strs Φ D M 125 l [.int x0] h := by
  refine hq_arc c hM fcJ0_k hD [a, t, n, y] rfl hy (hp_Bc (z := a) rfl b0 t0 (hp_Bc (z := t) rfl b1 t1 (hp_Bc (z := n) rfl b2 t2 (hp_Bc (z := y) rfl b3 t3 hp_Bn)))) (hp_Fc (z := (1 + (1 * a + ((-1) * t + 0)))) rfl (by omega) hp_Fn) (hp_Kc (zi := (0 + 0)) (zv := (0 + (1 * t + 0))) k0 rfl rfl (by omega) (by omega) hp_Kn) (hp_La l0 (hp_La l1 (hp_Li (z := (0 + (1 * a + 0))) l3 rfl (by omega) (hp_Li (z := (0 + (1 * n + 0))) l4 rfl (by omega) (hp_Li (z := (0 + 0)) l7 rfl (by omega) hp_Ln))))) (hp_Si (z := (0 + (1 * y + 0))) rfl (by omega) trivial) ?_ ?_
  · intro p hp ys l' st' h' hys a1 a2 a3 gZ gL gS
    cases hp
  · intro p hp ys v h' hys a1 a2 a3 gZ gS
    rcases List.mem_cons.mp hp with rfl | hp
    · obtain rfl := hp_y0 hys
      cases v with
      | none => cases gS
      | some w =>
        obtain ⟨y0, t0, s0, q0, -⟩ := hp_gSi (z := (0 + 0)) gS rfl
        cases s0
        exact r0 h' y0 (by omega) a1 a2 a3
    cases hp
theorem fcK00_k : hq_chk [60, 79, 80] 121 125 5 [(0, 0, 1199), (1, 0, 1200), (2, 0, 19), (3, (-2147483648), 2147483647), (4, 1, 58)] [((-2), [(0, (-1)), (1, 1)])] [(0, .inr (.inr (.inl (some 91)))), (1, .inr (.inr (.inl (some 17)))), (3, .inl (0, [(0, 1)])), (4, .inl (0, [(2, 1)])), (7, .inl (0, []))] [.inl (0, [(3, 1)])] [(261, (0, []), (0, [(1, 1)])), (768, (1, [(0, 1)]), (0, [(4, 1)]))] [] 8 [] [([], 5, [(0, 0, 1199), (1, 0, 1200), (2, 0, 19), (3, (-2147483648), 2147483647), (4, 1, 58)], [], [], [.inl (0, [])], [])] = true := by decide +kernel
theorem fcK00 {cst : am_K} {strs : List Nat} {Φ : am_Q → Prop} {D : Nat} {M : am_M} {h : am_H} {l : am_L} (c : hp_C cst strs D) (hM : m_P[121]? = some M) (hD : (8 : Int) ≤ (D : Int) + 1) (hy : ly_hy m_tt ly_TH h) (a t n y kk : Int) (x0 : Int32) (hx0 : x0.toInt = (y)) (b0 : 0 ≤ a) (t0 : a ≤ 1199) (b1 : 0 ≤ t) (t1 : t ≤ 1200) (b2 : 0 ≤ n) (t2 : n ≤ 19) (b3 : (-2147483648) ≤ y) (t3 : y ≤ 2147483647) (b4 : 1 ≤ kk) (t4 : kk ≤ 58) (f0 : 0 ≤ (t - a - 2)) (k0 : ly_hv cst h 261 0 = some (t)) (k1 : ly_hv cst h 768 (a + 1) = some (kk)) (l0 : hp_a l 0 91) (l1 : hp_a l 1 17) (l3 : hp_i l 3 (a)) (l4 : hp_i l 4 (n)) (l7 : hp_i l 7 0) (r0 : ∀ (h' : am_H) (y0 : Int32), y0.toInt = 0 → ly_hy m_tt ly_TH h' → ly_fr cst [] h h' → h.length ≤ h'.length → Φ (some (.int y0), h', 0, 0)) : hp_F cst strs Φ D M 125 l [.int x0] h := by
  refine hq_arc c hM fcK00_k hD [a, t, n, y, kk] rfl hy (hp_Bc (z := a) rfl b0 t0 (hp_Bc (z := t) rfl b1 t1 (hp_Bc (z := n) rfl b2 t2 (hp_Bc (z := y) rfl b3 t3 (hp_Bc (z := kk) rfl b4 t4 hp_Bn))))) (hp_Fc (z := ((-2) + ((-1) * a + (1 * t + 0)))) rfl (by omega) hp_Fn) (hp_Kc (zi := (0 + 0)) (zv := (0 + (1 * t + 0))) k0 rfl rfl (by omega) (by omega) (hp_Kc (zi := (1 + (1 * a + 0))) (zv := (0 + (1 * kk + 0))) k1 rfl rfl (by omega) (by omega) hp_Kn)) (hp_La l0 (hp_La l1 (hp_Li (z := (0 + (1 * a + 0))) l3 rfl (by omega) (hp_Li (z := (0 + (1 * n + 0))) l4 rfl (by omega) (hp_Li (z := (0 + 0)) l7 rfl (by omega) hp_Ln))))) (hp_Si (z := (0 + (1 * y + 0))) rfl (by omega) trivial) ?_ ?_
  · intro p hp ys l' st' h' hys a1 a2 a3 gZ gL gS
    cases hp
  · intro p hp ys v h' hys a1 a2 a3 gZ gS
    rcases List.mem_cons.mp hp with rfl | hp
    · obtain rfl := hp_y0 hys
      cases v with
      | none => cases gS
      | some w =>
        obtain ⟨y0, t0, s0, q0, -⟩ := hp_gSi (z := (0 + 0)) gS rfl
        cases s0
        exact r0 h' y0 (by omega) a1 a2 a3
    cases hp
theorem fcK01_k : hq_chk [60, 79, 80] 121 125 5 [(0, 0, 1199), (1, 0, 1200), (2, 0, 19), (3, (-2147483648), 2147483647), (4, 60, 255)] [((-2), [(0, (-1)), (1, 1)])] [(0, .inr (.inr (.inl (some 91)))), (1, .inr (.inr (.inl (some 17)))), (3, .inl (0, [(0, 1)])), (4, .inl (0, [(2, 1)])), (7, .inl (0, []))] [.inl (0, [(3, 1)])] [(261, (0, []), (0, [(1, 1)])), (768, (1, [(0, 1)]), (0, [(4, 1)]))] [] 8 [] [([], 5, [(0, 0, 1199), (1, 0, 1200), (2, 0, 19), (3, (-2147483648), 2147483647), (4, 60, 255)], [], [], [.inl (0, [])], [])] = true := by decide +kernel
theorem fcK01 {cst : am_K} {strs : List Nat} {Φ : am_Q → Prop} {D : Nat} {M : am_M} {h : am_H} {l : am_L} (c : hp_C cst strs D) (hM : m_P[121]? = some M) (hD : (8 : Int) ≤ (D : Int) + 1) (hy : ly_hy m_tt ly_TH h) (a t n y kk : Int) (x0 : Int32) (hx0 : x0.toInt = (y)) (b0 : 0 ≤ a) (t0 : a ≤ 1199) (b1 : 0 ≤ t) (t1 : t ≤ 1200) (b2 : 0 ≤ n) (t2 : n ≤ 19) (b3 : (-2147483648) ≤ y) (t3 : y ≤ 2147483647) (b4 : 60 ≤ kk) (t4 : kk ≤ 255) (f0 : 0 ≤ (t - a - 2)) (k0 : ly_hv cst h 261 0 = some (t)) (k1 : ly_hv cst h 768 (a + 1) = some (kk)) (l0 : hp_a l 0 91) (l1 : hp_a l 1 17) (l3 : hp_i l 3 (a)) (l4 : hp_i l 4 (n)) (l7 : hp_i l 7 0) (r0 : ∀ (h' : am_H) (y0 : Int32), y0.toInt = 0 → ly_hy m_tt ly_TH h' → ly_fr cst [] h h' → h.length ≤ h'.length → Φ (some (.int y0), h', 0, 0)) : hp_F cst strs Φ D M 125 l [.int x0] h := by
  refine hq_arc c hM fcK01_k hD [a, t, n, y, kk] rfl hy (hp_Bc (z := a) rfl b0 t0 (hp_Bc (z := t) rfl b1 t1 (hp_Bc (z := n) rfl b2 t2 (hp_Bc (z := y) rfl b3 t3 (hp_Bc (z := kk) rfl b4 t4 hp_Bn))))) (hp_Fc (z := ((-2) + ((-1) * a + (1 * t + 0)))) rfl (by omega) hp_Fn) (hp_Kc (zi := (0 + 0)) (zv := (0 + (1 * t + 0))) k0 rfl rfl (by omega) (by omega) (hp_Kc (zi := (1 + (1 * a + 0))) (zv := (0 + (1 * kk + 0))) k1 rfl rfl (by omega) (by omega) hp_Kn)) (hp_La l0 (hp_La l1 (hp_Li (z := (0 + (1 * a + 0))) l3 rfl (by omega) (hp_Li (z := (0 + (1 * n + 0))) l4 rfl (by omega) (hp_Li (z := (0 + 0)) l7 rfl (by omega) hp_Ln))))) (hp_Si (z := (0 + (1 * y + 0))) rfl (by omega) trivial) ?_ ?_
  · intro p hp ys l' st' h' hys a1 a2 a3 gZ gL gS
    cases hp
  · intro p hp ys v h' hys a1 a2 a3 gZ gS
    rcases List.mem_cons.mp hp with rfl | hp
    · obtain rfl := hp_y0 hys
      cases v with
      | none => cases gS
      | some w =>
        obtain ⟨y0, t0, s0, q0, -⟩ := hp_gSi (z := (0 + 0)) gS rfl
        cases s0
        exact r0 h' y0 (by omega) a1 a2 a3
    cases hp
theorem fcI1_k : hq_chk [60, 79, 80] 121 125 4 [(0, 0, 1199), (1, 0, 1200), (2, 0, 19), (3, (-2147483648), 2147483647)] [((-4), [(0, (-1)), (1, 1)])] [(0, .inr (.inr (.inl (some 91)))), (1, .inr (.inr (.inl (some 17)))), (3, .inl (0, [(0, 1)])), (4, .inl (0, [(2, 1)])), (7, .inl (1, []))] [.inl (0, [(3, 1)])] [(261, (0, []), (0, [(1, 1)])), (768, (3, [(0, 1)]), (59, []))] [] 8 [(9, ([], 4, [(0, 0, 1199), (1, 0, 1200), (2, 0, 19), (3, (-2147483648), 2147483647)], [], [(0, .inr (.inr (.inl (some 91)))), (1, .inr (.inr (.inl (some 17)))), (3, .inl (4, [(0, 1)])), (4, .inl (1, [(2, 1)]))], [], []))] [] = true := by decide +kernel
theorem fcI1 {cst : am_K} {strs : List Nat} {Φ : am_Q → Prop} {D : Nat} {M : am_M} {h : am_H} {l : am_L} (c : hp_C cst strs D) (hM : m_P[121]? = some M) (hD : (8 : Int) ≤ (D : Int) + 1) (hy : ly_hy m_tt ly_TH h) (a t n y : Int) (x0 : Int32) (hx0 : x0.toInt = (y)) (b0 : 0 ≤ a) (t0 : a ≤ 1199) (b1 : 0 ≤ t) (t1 : t ≤ 1200) (b2 : 0 ≤ n) (t2 : n ≤ 19) (b3 : (-2147483648) ≤ y) (t3 : y ≤ 2147483647) (f0 : 0 ≤ (t - a - 4)) (k0 : ly_hv cst h 261 0 = some (t)) (k1 : ly_hv cst h 768 (a + 3) = some 59) (l0 : hp_a l 0 91) (l1 : hp_a l 1 17) (l3 : hp_i l 3 (a)) (l4 : hp_i l 4 (n)) (l7 : hp_i l 7 1) (e0 : ∀ (l' : am_L) (h' : am_H), ly_hy m_tt ly_TH h' → ly_fr cst [] h h' → h.length ≤ h'.length → hp_a l' 0 91 → hp_a l' 1 17 → hp_i l' 3 (a + 4) → hp_i l' 4 (n + 1) → hp_F cst strs Φ D M 9 l' [] h') : hp_F cst strs Φ D M 125 l [.int x0] h := by
  refine hq_arc c hM fcI1_k hD [a, t, n, y] rfl hy (hp_Bc (z := a) rfl b0 t0 (hp_Bc (z := t) rfl b1 t1 (hp_Bc (z := n) rfl b2 t2 (hp_Bc (z := y) rfl b3 t3 hp_Bn)))) (hp_Fc (z := ((-4) + ((-1) * a + (1 * t + 0)))) rfl (by omega) hp_Fn) (hp_Kc (zi := (0 + 0)) (zv := (0 + (1 * t + 0))) k0 rfl rfl (by omega) (by omega) (hp_Kc (zi := (3 + (1 * a + 0))) (zv := (59 + 0)) k1 rfl rfl (by omega) (by omega) hp_Kn)) (hp_La l0 (hp_La l1 (hp_Li (z := (0 + (1 * a + 0))) l3 rfl (by omega) (hp_Li (z := (0 + (1 * n + 0))) l4 rfl (by omega) (hp_Li (z := (1 + 0)) l7 rfl (by omega) hp_Ln))))) (hp_Si (z := (0 + (1 * y + 0))) rfl (by omega) trivial) ?_ ?_
  · intro p hp ys l' st' h' hys a1 a2 a3 gZ gL gS
    rcases List.mem_cons.mp hp with rfl | hp
    · obtain rfl := hp_y0 hys
      cases hp_gSn gS
      exact e0 l' h' a1 a2 a3 (hp_gLa gL (List.mem_of_getElem? (i := 0) rfl) (by decide)) (hp_gLa gL (List.mem_of_getElem? (i := 1) rfl) (by decide)) (hp_gLi (z := (4 + (1 * a + 0))) gL (List.mem_of_getElem? (i := 2) rfl) rfl (by omega)) (hp_gLi (z := (1 + (1 * n + 0))) gL (List.mem_of_getElem? (i := 3) rfl) rfl (by omega))
    cases hp
  · intro p hp ys v h' hys a1 a2 a3 gZ gS
    cases hp
theorem fcJ1_k : hq_chk [60, 79, 80] 121 125 4 [(0, 0, 1199), (1, 0, 1200), (2, 0, 19), (3, (-2147483648), 2147483647)] [(3, [(0, 1), (1, (-1))])] [(0, .inr (.inr (.inl (some 91)))), (1, .inr (.inr (.inl (some 17)))), (3, .inl (0, [(0, 1)])), (4, .inl (0, [(2, 1)])), (7, .inl (1, []))] [.inl (0, [(3, 1)])] [(261, (0, []), (0, [(1, 1)]))] [] 8 [] [([], 4, [(0, 0, 1199), (1, 0, 1200), (2, 0, 19), (3, (-2147483648), 2147483647)], [], [], [.inl (0, [])], [])] = true := by decide +kernel
theorem fcJ1 {cst : am_K} {strs : List Nat} {Φ : am_Q → Prop} {D : Nat} {M : am_M} {h : am_H} {l : am_L} (c : hp_C cst strs D) (hM : m_P[121]? = some M) (hD : (8 : Int) ≤ (D : Int) + 1) (hy : ly_hy m_tt ly_TH h) (a t n y : Int) (x0 : Int32) (hx0 : x0.toInt = (y)) (b0 : 0 ≤ a) (t0 : a ≤ 1199) (b1 : 0 ≤ t) (t1 : t ≤ 1200) (b2 : 0 ≤ n) (t2 : n ≤ 19) (b3 : (-2147483648) ≤ y) (t3 : y ≤ 2147483647) (f0 : 0 ≤ (a - t + 3)) (k0 : ly_hv cst h 261 0 = some (t)) (l0 : hp_a l 0 91) (l1 : hp_a l 1 17) (l3 : hp_i l 3 (a)) (l4 : hp_i l 4 (n)) (l7 : hp_i l 7 1) (r0 : ∀ (h' : am_H) (y0 : Int32), y0.toInt = 0 → ly_hy m_tt ly_TH h' → ly_fr cst [] h h' → h.length ≤ h'.length → Φ (some (.int y0), h', 0, 0)) : hp_F cst strs Φ D M 125 l [.int x0] h := by
  refine hq_arc c hM fcJ1_k hD [a, t, n, y] rfl hy (hp_Bc (z := a) rfl b0 t0 (hp_Bc (z := t) rfl b1 t1 (hp_Bc (z := n) rfl b2 t2 (hp_Bc (z := y) rfl b3 t3 hp_Bn)))) (hp_Fc (z := (3 + (1 * a + ((-1) * t + 0)))) rfl (by omega) hp_Fn) (hp_Kc (zi := (0 + 0)) (zv := (0 + (1 * t + 0))) k0 rfl rfl (by omega) (by omega) hp_Kn) (hp_La l0 (hp_La l1 (hp_Li (z := (0 + (1 * a + 0))) l3 rfl (by omega) (hp_Li (z := (0 + (1 * n + 0))) l4 rfl (by omega) (hp_Li (z := (1 + 0)) l7 rfl (by omega) hp_Ln))))) (hp_Si (z := (0 + (1 * y + 0))) rfl (by omega) trivial) ?_ ?_
  · intro p hp ys l' st' h' hys a1 a2 a3 gZ gL gS
    cases hp
  · intro p hp ys v h' hys a1 a2 a3 gZ gS
    rcases List.mem_cons.mp hp with rfl | hp
    · obtain rfl := hp_y0 hys
      cases v with
      | none => cases gS
      | some w =>
        obtain ⟨y0, t0, s0, q0, -⟩ := hp_gSi (z := (0 + 0)) gS rfl
        cases s0
        exact r0 h' y0 (by omega) a1 a2 a3
    cases hp
theorem fcK10_k : hq_chk [60, 79, 80] 121 125 5 [(0, 0, 1199), (1, 0, 1200), (2, 0, 19), (3, (-2147483648), 2147483647), (4, 1, 58)] [((-4), [(0, (-1)), (1, 1)])] [(0, .inr (.inr (.inl (some 91)))), (1, .inr (.inr (.inl (some 17)))), (3, .inl (0, [(0, 1)])), (4, .inl (0, [(2, 1)])), (7, .inl (1, []))] [.inl (0, [(3, 1)])] [(261, (0, []), (0, [(1, 1)])), (768, (3, [(0, 1)]), (0, [(4, 1)]))] [] 8 [] [([], 5, [(0, 0, 1199), (1, 0, 1200), (2, 0, 19), (3, (-2147483648), 2147483647), (4, 1, 58)], [], [], [.inl (0, [])], [])] = true := by decide +kernel
theorem fcK10 {cst : am_K} {strs : List Nat} {Φ : am_Q → Prop} {D : Nat} {M : am_M} {h : am_H} {l : am_L} (c : hp_C cst strs D) (hM : m_P[121]? = some M) (hD : (8 : Int) ≤ (D : Int) + 1) (hy : ly_hy m_tt ly_TH h) (a t n y kk : Int) (x0 : Int32) (hx0 : x0.toInt = (y)) (b0 : 0 ≤ a) (t0 : a ≤ 1199) (b1 : 0 ≤ t) (t1 : t ≤ 1200) (b2 : 0 ≤ n) (t2 : n ≤ 19) (b3 : (-2147483648) ≤ y) (t3 : y ≤ 2147483647) (b4 : 1 ≤ kk) (t4 : kk ≤ 58) (f0 : 0 ≤ (t - a - 4)) (k0 : ly_hv cst h 261 0 = some (t)) (k1 : ly_hv cst h 768 (a + 3) = some (kk)) (l0 : hp_a l 0 91) (l1 : hp_a l 1 17) (l3 : hp_i l 3 (a)) (l4 : hp_i l 4 (n)) (l7 : hp_i l 7 1) (r0 : ∀ (h' : am_H) (y0 : Int32), y0.toInt = 0 → ly_hy m_tt ly_TH h' → ly_fr cst [] h h' → h.length ≤ h'.length → Φ (some (.int y0), h', 0, 0)) : hp_F cst strs Φ D M 125 l [.int x0] h := by
  refine hq_arc c hM fcK10_k hD [a, t, n, y, kk] rfl hy (hp_Bc (z := a) rfl b0 t0 (hp_Bc (z := t) rfl b1 t1 (hp_Bc (z := n) rfl b2 t2 (hp_Bc (z := y) rfl b3 t3 (hp_Bc (z := kk) rfl b4 t4 hp_Bn))))) (hp_Fc (z := ((-4) + ((-1) * a + (1 * t + 0)))) rfl (by omega) hp_Fn) (hp_Kc (zi := (0 + 0)) (zv := (0 + (1 * t + 0))) k0 rfl rfl (by omega) (by omega) (hp_Kc (zi := (3 + (1 * a + 0))) (zv := (0 + (1 * kk + 0))) k1 rfl rfl (by omega) (by omega) hp_Kn)) (hp_La l0 (hp_La l1 (hp_Li (z := (0 + (1 * a + 0))) l3 rfl (by omega) (hp_Li (z := (0 + (1 * n + 0))) l4 rfl (by omega) (hp_Li (z := (1 + 0)) l7 rfl (by omega) hp_Ln))))) (hp_Si (z := (0 + (1 * y + 0))) rfl (by omega) trivial) ?_ ?_
  · intro p hp ys l' st' h' hys a1 a2 a3 gZ gL gS
    cases hp
  · intro p hp ys v h' hys a1 a2 a3 gZ gS
    rcases List.mem_cons.mp hp with rfl | hp
    · obtain rfl := hp_y0 hys
      cases v with
      | none => cases gS
      | some w =>
        obtain ⟨y0, t0, s0, q0, -⟩ := hp_gSi (z := (0 + 0)) gS rfl
        cases s0
        exact r0 h' y0 (by omega) a1 a2 a3
    cases hp
theorem fcK11_k : hq_chk [60, 79, 80] 121 125 5 [(0, 0, 1199), (1, 0, 1200), (2, 0, 19), (3, (-2147483648), 2147483647), (4, 60, 255)] [((-4), [(0, (-1)), (1, 1)])] [(0, .inr (.inr (.inl (some 91)))), (1, .inr (.inr (.inl (some 17)))), (3, .inl (0, [(0, 1)])), (4, .inl (0, [(2, 1)])), (7, .inl (1, []))] [.inl (0, [(3, 1)])] [(261, (0, []), (0, [(1, 1)])), (768, (3, [(0, 1)]), (0, [(4, 1)]))] [] 8 [] [([], 5, [(0, 0, 1199), (1, 0, 1200), (2, 0, 19), (3, (-2147483648), 2147483647), (4, 60, 255)], [], [], [.inl (0, [])], [])] = true := by decide +kernel
theorem fcK11 {cst : am_K} {strs : List Nat} {Φ : am_Q → Prop} {D : Nat} {M : am_M} {h : am_H} {l : am_L} (c : hp_C cst strs D) (hM : m_P[121]? = some M) (hD : (8 : Int) ≤ (D : Int) + 1) (hy : ly_hy m_tt ly_TH h) (a t n y kk : Int) (x0 : Int32) (hx0 : x0.toInt = (y)) (b0 : 0 ≤ a) (t0 : a ≤ 1199) (b1 : 0 ≤ t) (t1 : t ≤ 1200) (b2 : 0 ≤ n) (t2 : n ≤ 19) (b3 : (-2147483648) ≤ y) (t3 : y ≤ 2147483647) (b4 : 60 ≤ kk) (t4 : kk ≤ 255) (f0 : 0 ≤ (t - a - 4)) (k0 : ly_hv cst h 261 0 = some (t)) (k1 : ly_hv cst h 768 (a + 3) = some (kk)) (l0 : hp_a l 0 91) (l1 : hp_a l 1 17) (l3 : hp_i l 3 (a)) (l4 : hp_i l 4 (n)) (l7 : hp_i l 7 1) (r0 : ∀ (h' : am_H) (y0 : Int32), y0.toInt = 0 → ly_hy m_tt ly_TH h' → ly_fr cst [] h h' → h.length ≤ h'.length → Φ (some (.int y0), h', 0, 0)) : hp_F cst strs Φ D M 125 l [.int x0] h := by
  refine hq_arc c hM fcK11_k hD [a, t, n, y, kk] rfl hy (hp_Bc (z := a) rfl b0 t0 (hp_Bc (z := t) rfl b1 t1 (hp_Bc (z := n) rfl b2 t2 (hp_Bc (z := y) rfl b3 t3 (hp_Bc (z := kk) rfl b4 t4 hp_Bn))))) (hp_Fc (z := ((-4) + ((-1) * a + (1 * t + 0)))) rfl (by omega) hp_Fn) (hp_Kc (zi := (0 + 0)) (zv := (0 + (1 * t + 0))) k0 rfl rfl (by omega) (by omega) (hp_Kc (zi := (3 + (1 * a + 0))) (zv := (0 + (1 * kk + 0))) k1 rfl rfl (by omega) (by omega) hp_Kn)) (hp_La l0 (hp_La l1 (hp_Li (z := (0 + (1 * a + 0))) l3 rfl (by omega) (hp_Li (z := (0 + (1 * n + 0))) l4 rfl (by omega) (hp_Li (z := (1 + 0)) l7 rfl (by omega) hp_Ln))))) (hp_Si (z := (0 + (1 * y + 0))) rfl (by omega) trivial) ?_ ?_
  · intro p hp ys l' st' h' hys a1 a2 a3 gZ gL gS
    cases hp
  · intro p hp ys v h' hys a1 a2 a3 gZ gS
    rcases List.mem_cons.mp hp with rfl | hp
    · obtain rfl := hp_y0 hys
      cases v with
      | none => cases gS
      | some w =>
        obtain ⟨y0, t0, s0, q0, -⟩ := hp_gSi (z := (0 + 0)) gS rfl
        cases s0
        exact r0 h' y0 (by omega) a1 a2 a3
    cases hp
/-- the names of a row -/
def fn_N (cst : am_K) (h : am_H) (r : Nat) (o : Int) (ns : List Int) : Prop := ∀ k (hk : k < ns.length), ly_hv cst h r (o + (k : Int)) = some (ns[k])
theorem fn_mv {cst : am_K} {h h' : am_H} {r : Nat} {o : Int} {ns : List Int} {ms : List Nat} (A : fn_N cst h r o ns) (fr : ly_fr cst ms h h') (q : ly_has r ms = false) : fn_N cst h' r o ns := fun k hk => fr _ _ _ q (A k hk)
theorem fn_put {cst : am_K} {h h' : am_H} {r : Nat} {o v : Int} {ns : List Int} (A : fn_N cst h r o ns) (p : hp_put cst r (o + (ns.length : Int)) v h h') : fn_N cst h' r o (ns ++ [v]) := fun k hk => by
  rw [List.length_append, List.length_singleton] at hk
  by_cases z : k = ns.length
  · subst z
    rw [List.getElem_append_right (Nat.le_refl _)]
    simp only [Nat.sub_self, List.getElem_singleton]
    exact p.1
  · rw [List.getElem_append_left (by omega), p.2 _ _ (Or.inr (by omega))]
    exact A k (by omega)
/-- find, has of a Row -/
theorem hf_lp {cst : am_K} {strs : List Nat} {D : Nat} {M : am_M} {h0 : am_H} (c : hp_C cst strs D) (hM : m_P[49]? = some M) (hD : 1 ≤ D) {v : Int} (v0 : 0 ≤ v) (v1 : v ≤ 1152921504606846976) {ns : List Int} (nl : ns.length ≤ 20) (nb : ∀ x ∈ ns, 0 ≤ x ∧ x ≤ 1152921504606846976) (kn : ly_hv cst h0 19202 0 = some (ns.length : Int)) (A : fn_N cst h0 19456 0 ns) : ∀ (Q : Nat) (h : am_H) (l : am_L) (i : Nat), ns.length - i < Q → i ≤ ns.length → ly_hy m_tt ly_TH h → ly_fr cst [] h0 h → (∀ k (hk : k < ns.length), k < i → ns[k] ≠ v) → hp_a l 0 91 → hp_j l 1 v → hp_i l 3 (i : Int) → hp_F cst strs (fun r : am_Q => ∃ a : Int32, r.1 = some (.int a) ∧ r.2.2.1 = 0 ∧ r.2.2.2 = 0 ∧ ly_hy m_tt ly_TH r.2.1 ∧ ly_fr cst [] h0 r.2.1 ∧ ((v ∈ ns ∧ 0 ≤ a.toInt ∧ a.toInt ≤ 19) ∨ (v ∉ ns ∧ a.toInt = -1))) D M 2 l [] h := by
  intro Q
  induction Q with
  | zero => intro h l i hN; omega
  | succ Q ih =>
    intro h l i hN hi hy fr ne l0 l1 l3
    by_cases z : i = ns.length
    · rw [z] at l3
      refine hf3 c hM (by omega) hy v (ns.length : Int) v0 v1 (by omega) (by omega) (fr _ _ _ rfl kn) l0 l1 l3 (fun h2 a ha u1 u2 u3 => ⟨a, rfl, rfl, rfl, u1, ly_fr_tr fr u2, Or.inr ⟨fun y => ?_, ha⟩⟩)
      obtain ⟨k, hk, e⟩ := List.mem_iff_getElem.mp y
      exact ne k hk (by omega) e
    · have hl : i < ns.length := by omega
      have kx := fr _ _ _ rfl (A i hl)
      rw [Int.zero_add] at kx
      have xb := nb _ (List.getElem_mem hl)
      by_cases e : ns[i] = v
      · rw [e] at kx
        exact hf2 c hM (by omega) hy v (ns.length : Int) (i : Int) v0 v1 (by omega) (by omega) (by omega) (by omega) (by omega) (fr _ _ _ rfl kn) kx l0 l1 l3 (fun h2 a ha u1 u2 u3 => ⟨a, rfl, rfl, rfl, u1, ly_fr_tr fr u2, Or.inl ⟨by rw [← e]; exact List.getElem_mem hl, by omega, by omega⟩⟩)
      · exact hf1 c hM (by omega) hy v (ns.length : Int) (i : Int) ns[i] v0 v1 (by omega) (by omega) (by omega) (by omega) xb.1 xb.2 (by omega) (fr _ _ _ rfl kn) kx (hp_ne (by omega)) l0 l1 l3 (fun l2 h2 u1 u2 u3 m0 m1 m3 => ih h2 l2 (i + 1) (by omega) (by omega) u1 (ly_fr_tr fr u2) (fun k hk h9 => if w : k = i then by subst w; exact e else ne k hk (by omega)) m0 m1 m3)
theorem hs_run {cst : am_K} {strs : List Nat} {D : Nat} {h : am_H} (c1 : hp_C cst strs D) (c : hp_C cst strs (D + 1)) (hD : 1 ≤ D) (hy : ly_hy m_tt ly_TH h) {xv : Int64} (v0 : 0 ≤ xv.toInt) (v1 : xv.toInt ≤ 1152921504606846976) {ns : List Int} (nl : ns.length ≤ 20) (nb : ∀ x ∈ ns, 0 ≤ x ∧ x ≤ 1152921504606846976) (kn : ly_hv cst h 19202 0 = some (ns.length : Int)) (A : fn_N cst h 19456 0 ns) :
    ∃ r, am_Run cst m_cl m_tt m_P strs sx_bi (D + 1 + 1) 48 [.ref 91, .long xv] h r ∧ ∃ a : Int32, r.1 = some (.int a) ∧ r.2.2.1 = 0 ∧ r.2.2.2 = 0 ∧ ly_hy m_tt ly_TH r.2.1 ∧ ly_fr cst [] h r.2.1 ∧ ((xv.toInt ∈ ns ∧ a.toInt = 1) ∨ (xv.toInt ∉ ns ∧ a.toInt = 0)) := by
  obtain ⟨M, hM, hl⟩ := hp_M (mi := 48) (k := 3) (by decide +kernel)
  have go : hp_F cst strs (fun r : am_Q => ∃ a : Int32, r.1 = some (.int a) ∧ r.2.2.1 = 0 ∧ r.2.2.2 = 0 ∧ ly_hy m_tt ly_TH r.2.1 ∧ ly_fr cst [] h r.2.1 ∧ ((xv.toInt ∈ ns ∧ a.toInt = 1) ∨ (xv.toInt ∉ ns ∧ a.toInt = 0))) (D + 1) M 0 (lv_args 0 [.ref 91, .long xv]) [] h := by
    refine hs0 c hM (by omega) hy xv.toInt v0 v1 rfl ⟨xv, rfl, rfl⟩ (fun l1 h1 y0 f0 u1 u2 u3 g0 => ?_)
    have sub : ∃ r, am_Run cst m_cl m_tt m_P strs sx_bi (D + 1) 49 [.ref 91, .long y0] h1 r ∧ ∃ a : Int32, r.1 = some (.int a) ∧ r.2.2.1 = 0 ∧ r.2.2.2 = 0 ∧ ly_hy m_tt ly_TH r.2.1 ∧ ly_fr cst [] h1 r.2.1 ∧ ((xv.toInt ∈ ns ∧ 0 ≤ a.toInt ∧ a.toInt ≤ 19) ∨ (xv.toInt ∉ ns ∧ a.toInt = -1)) := by
      obtain ⟨M2, hM2, hl2⟩ := hp_M (mi := 49) (k := 3) (by decide +kernel)
      obtain ⟨n', r, hgo, a, r1, r2, r3, r4⟩ := hf0 (Φ := fun r : am_Q => ∃ a : Int32, r.1 = some (.int a) ∧ r.2.2.1 = 0 ∧ r.2.2.2 = 0 ∧ ly_hy m_tt ly_TH r.2.1 ∧ ly_fr cst [] h1 r.2.1 ∧ ((xv.toInt ∈ ns ∧ 0 ≤ a.toInt ∧ a.toInt ≤ 19) ∨ (xv.toInt ∉ ns ∧ a.toInt = -1))) (l := lv_args 0 [.ref 91, .long y0]) c1 hM2 (by omega) u1 xv.toInt v0 v1 rfl ⟨y0, rfl, f0⟩ (fun l2 h2 w1 w2 w3 m0 m1 m3 => hp_mon (hf_lp (h0 := h2) c1 hM2 hD v0 v1 nl nb (w2 _ _ _ rfl (u2 _ _ _ rfl kn)) (fn_mv (fn_mv A u2 rfl) w2 rfl) (ns.length + 1) h2 l2 0 (by omega) (by omega) w1 (ly_fr_rf h2) (fun k hk h9 => by omega) m0 m1 m3) (fun r z => by
        obtain ⟨a, z1, z2, z3, z4, z5, z6⟩ := z
        exact ⟨a, z1, z2, z3, z4, ly_fr_tr w2 z5, z6⟩))
      simp only [Nat.zero_add] at r2 r3
      exact ⟨r, Or.inr ⟨M2, n', hM2, hl2, hgo⟩, a, r1, r2, r3, r4⟩
    obtain ⟨r, hrun, a, r1, r2, r3, rhy, rfr, rE⟩ := sub
    refine hp_call (mi := 48) (pc := 2) (tg := 49) (na := 2) (c := 75) (ci := 6) (st0 := [.long y0, .ref 91]) (st := []) (av := [.long y0]) hM (by decide +kernel) u1 rfl rfl rfl (by decide) hrun r2 r3 ?_
    rw [r1]
    rcases rE with ⟨e1, e2, e3⟩ | ⟨e1, e2⟩
    · exact hs2 c hM (by omega) rhy a.toInt a rfl e2 e3 g0 (fun h5 w hw t1 t2 t3 => ⟨w, rfl, rfl, rfl, t1, ly_fr_tr u2 (ly_fr_tr rfr t2), Or.inl ⟨e1, hw⟩⟩)
    · exact hs1 c hM (by omega) rhy a e2 g0 (fun h5 w hw t1 t2 t3 => ⟨w, rfl, rfl, rfl, t1, ly_fr_tr u2 (ly_fr_tr rfr t2), Or.inr ⟨e1, hw⟩⟩)
  obtain ⟨n', r, hgo, a, r1, r2, r3, r4⟩ := go
  simp only [Nat.zero_add] at r2 r3
  exact ⟨r, Or.inr ⟨M, n', hM, hl, hgo⟩, a, r1, r2, r3, r4⟩
/-- add of a Row -/
theorem ad_run {cst : am_K} {strs : List Nat} {D : Nat} {h : am_H} (c : hp_C cst strs D) (hD : 1 ≤ D) (hy : ly_hy m_tt ly_TH h) {xv : Int64} {xw : Int32} (v0 : 0 ≤ xv.toInt) (v1 : xv.toInt ≤ 1152921504606846976) {ns vs : List Int} (nl : ns.length ≤ 19) (vn : vs.length = ns.length) (kn : ly_hv cst h 19202 0 = some (ns.length : Int)) (A : fn_N cst h 19456 0 ns) (Av : fn_N cst h 19712 0 vs) :
    ∃ r, am_Run cst m_cl m_tt m_P strs sx_bi (D + 1) 122 [.ref 91, .long xv, .int xw] h r ∧ ∃ a : Int32, r.1 = some (.int a) ∧ r.2.2.1 = 0 ∧ r.2.2.2 = 0 ∧ ly_hy m_tt ly_TH r.2.1 ∧ ly_fr cst [19202, 19456, 19712] h r.2.1 ∧ (ly_hv cst r.2.1 19202 0 = some ((ns.length : Int) + 1) ∧ fn_N cst r.2.1 19456 0 (ns ++ [xv.toInt]) ∧ fn_N cst r.2.1 19712 0 (vs ++ [xw.toInt])) := by
  obtain ⟨M, hM, hl⟩ := hp_M (mi := 122) (k := 4) (by decide +kernel)
  have go : hp_F cst strs (fun r : am_Q => ∃ a : Int32, r.1 = some (.int a) ∧ r.2.2.1 = 0 ∧ r.2.2.2 = 0 ∧ ly_hy m_tt ly_TH r.2.1 ∧ ly_fr cst [19202, 19456, 19712] h r.2.1 ∧ (ly_hv cst r.2.1 19202 0 = some ((ns.length : Int) + 1) ∧ fn_N cst r.2.1 19456 0 (ns ++ [xv.toInt]) ∧ fn_N cst r.2.1 19712 0 (vs ++ [xw.toInt]))) D M 0 (lv_args 0 [.ref 91, .long xv, .int xw]) [] h := by
    refine ad0 c hM (by omega) hy xv.toInt xw.toInt (ns.length : Int) v0 v1 xw.le_toInt xw.toInt_le (by omega) (by omega) kn rfl ⟨xv, rfl, rfl⟩ ⟨xw, rfl, rfl⟩ (fun l1 h1 y0 y1 f0 f1 u1 u2 u3 k1 g0 g1 g3 => ?_)
    refine hp_stj (c := 76) hM (by decide +kernel) u1 (show ly_ths ly_TH 76 = some (.inl (.long, 20, 0, 0)) from rfl) rfl (by omega) (by omega) (fun h2 q1 q2 q3 => ?_)
    rw [f0, f1] at q3
    have q3 : hp_put cst 19456 (ns.length : Int) xv.toInt h1 h2 := q3
    refine ad1 c hM (by omega) q1 xv.toInt xw.toInt (ns.length : Int) v0 v1 xw.le_toInt xw.toInt_le (by omega) (by omega) (by rw [q3.2 _ _ (Or.inl (by decide))]; exact k1) g0 g1 g3 (fun l3 h3 y2 y3 f2 f3 p1 p2 p3 k3 o0 o1 o3 => ?_)
    refine hp_st (c := 77) hM (by decide +kernel) p1 (show ly_ths ly_TH 77 = some (.inl (.int, 20, -2147483648, 2147483647)) from rfl) rfl (by omega) (by omega) y2.le_toInt y2.toInt_le (fun h4 s1 s2 s3 => ?_)
    rw [f2, f3] at s3
    have s3 : hp_put cst 19712 (ns.length : Int) xw.toInt h3 h4 := s3
    exact ad2 c hM (by omega) s1 (ns.length : Int) (by omega) (by omega) (by rw [s3.2 _ _ (Or.inl (by decide))]; exact k3) o0 (fun h5 a ha t1 t2 t3 k5 => ⟨a, rfl, rfl, rfl, t1, ly_fr_tr (hp_sub2 rfl u2) (ly_fr_tr (hp_put_fr (by rfl) q3) (ly_fr_tr (hp_sub2 rfl p2) (ly_fr_tr (hp_put_fr (by rfl) s3) (hp_sub2 rfl t2)))), k5, fn_mv (fn_mv (ms := [19712]) (fn_mv (fn_put (fn_mv A u2 rfl) (by rw [Int.zero_add]; exact q3)) p2 rfl) (hp_put_fr (by rfl) s3) rfl) t2 rfl, fn_mv (fn_put (fn_mv (fn_mv (ms := [19456]) (fn_mv Av u2 rfl) (hp_put_fr (by rfl) q3) rfl) p2 rfl) (by rw [Int.zero_add, vn]; exact s3)) t2 rfl⟩)
  obtain ⟨n', r, hgo, a, r1, r2, r3, r4⟩ := go
  simp only [Nat.zero_add] at r2 r3
  exact ⟨r, Or.inr ⟨M, n', hM, hl, hgo⟩, a, r1, r2, r3, r4⟩
def fc_R (cst : am_K) (h0 : am_H) (res : Option (List Int × List Int)) (r : am_Q) : Prop := ∃ w : Int32, r.1 = some (.int w) ∧ r.2.2.1 = 0 ∧ r.2.2.2 = 0 ∧ ly_hy m_tt ly_TH r.2.1 ∧ ly_fr cst [19202, 19203, 19456, 19712] h0 r.2.1 ∧ (∀ ns vs, res = some (ns, vs) → w.toInt = 1 ∧ ly_hv cst r.2.1 19202 0 = some (ns.length : Int) ∧ ly_hv cst r.2.1 19203 0 = some 1 ∧ fn_N cst r.2.1 19456 0 ns ∧ fn_N cst r.2.1 19712 0 vs) ∧ (res = none → w.toInt = 0)
theorem fk_lt {kd : Int → Int} {t j : Nat} (h : j < t) : fk kd t j = kd (j : Int) := if_pos h
theorem fk_ge {kd : Int → Int} {t j : Nat} (h : ¬ j < t) : fk kd t j = 0 := if_neg h
theorem fc_lp {cst : am_K} {strs : List Nat} {D : Nat} {M : am_M} {h0 : am_H} (c2 : hp_C cst strs D) (c1 : hp_C cst strs (D + 1)) (c : hp_C cst strs (D + 1 + 1)) (hM : m_P[121]? = some M) (hD : (8 : Int) ≤ (D : Int) + 1) {t : Nat} (t1 : (t : Int) ≤ 1200) {kd vl : Int → Int} (kt : ly_hv cst h0 261 0 = some (t : Int)) (kk : ∀ j : Nat, j < t → ly_hv cst h0 768 (j : Int) = some (kd (j : Int))) (kv : ∀ j : Nat, j < t → ly_hv cst h0 1280 (j : Int) = some (vl (j : Int))) (kb : ∀ j : Nat, j < t → 1 ≤ kd (j : Int) ∧ kd (j : Int) ≤ 61) (vb : ∀ j : Nat, j < t → (kd (j : Int) = 1 → 0 ≤ vl (j : Int) ∧ vl (j : Int) < 1152921504606846976) ∧ (kd (j : Int) = 2 → 0 ≤ vl (j : Int) ∧ vl (j : Int) ≤ 9999)) : ∀ (F : Nat) (h : am_H) (l : am_L) (a : Nat) (ns vs : List Int), F + ns.length = 21 → ns.length ≤ 20 → vs.length = ns.length → ly_hy m_tt ly_TH h → ly_fr cst [19202, 19203, 19456, 19712] h0 h → ly_hv cst h 19202 0 = some (ns.length : Int) → fn_N cst h 19456 0 ns → fn_N cst h 19712 0 vs → a ≤ t ∨ a ≤ 2 → (∀ x ∈ ns, 0 ≤ x ∧ x ≤ 1152921504606846976) → hp_a l 0 91 → hp_a l 1 17 → hp_i l 3 (a : Int) → hp_i l 4 (ns.length : Int) → hp_F cst strs (fc_R cst h0 (fa kd vl t F a ns vs)) (D + 1 + 1) M 9 l [] h := by
  intro F
  induction F with
  | zero => intro h l a ns vs hN; omega
  | succ F ih =>
    intro h l a ns vs hN nl vn hy fr kn A Av ab nb l0 l1 l3 l4
    have no : fa kd vl t (F + 1) a ns vs = none → ∀ (h1 h2 : am_H) (w : Int32), ly_fr cst [19202, 19203, 19456, 19712] h0 h1 → w.toInt = 0 → ly_hy m_tt ly_TH h2 → ly_fr cst [] h1 h2 → fc_R cst h0 (fa kd vl t (F + 1) a ns vs) (some (.int w), h2, 0, 0) := fun e h1 h2 w f1 hw u1 u2 => ⟨w, rfl, rfl, rfl, u1, ly_fr_tr f1 (hp_sub2 rfl u2), fun _ _ em => (by rw [e] at em; cases em), fun _ => hw⟩
    by_cases q0 : a < t
    rotate_left
    · have er : fa kd vl t (F + 1) a ns vs = some (ns, vs) := by
        rw [fa, if_pos (fk_ge q0)]
      exact fcE c hM (by omega) hy (a : Int) (t : Int) (ns.length : Int) (by omega) (by omega) (by omega) t1 (by omega) (by omega) (by omega) (fr _ _ _ rfl kt) kn l0 l1 l3 l4 (fun h2 w hw u1 u2 u3 k2 k3 => ⟨w, rfl, rfl, rfl, u1, ly_fr_tr fr (hp_sub2 rfl u2), fun _ _ em => by
        rw [er] at em
        cases em
        exact ⟨hw, k2, k3, fn_mv A u2 rfl, fn_mv Av u2 rfl⟩, fun e => by rw [er] at e; cases e⟩)
    have fka := fk_lt (kd := kd) q0
    have kba := kb a q0
    have n0 : ¬ (fk kd t a = 0) := by
      rw [fka]
      omega
    have kka := fr _ _ _ rfl (kk a q0)
    by_cases q1 : ns.length = 20
    · have er : fa kd vl t (F + 1) a ns vs = none := by
        rw [fa, if_neg n0, if_pos (Or.inl q1)]
      have l4' : hp_i l 4 20 := by
        rw [q1] at l4
        exact l4
      exact fcA c hM (by omega) hy (a : Int) (t : Int) (kd (a : Int)) (by omega) (by omega) (by omega) t1 (by omega) (by omega) (by omega) (fr _ _ _ rfl kt) kka l0 l1 l3 l4' (fun h2 w hw u1 u2 u3 => no er h h2 w fr hw u1 u2)
    by_cases q2 : kd (a : Int) = 1
    rotate_left
    · have er : fa kd vl t (F + 1) a ns vs = none := by
        rw [fa, if_neg n0, if_pos (Or.inr (Or.inl (by rw [fka]; exact q2)))]
      exact fcB c hM (by omega) hy (a : Int) (t : Int) (ns.length : Int) (kd (a : Int)) (by omega) (by omega) (by omega) t1 (by omega) (by omega) (by omega) (by omega) (by omega) (fr _ _ _ rfl kt) kka l0 l1 l3 l4 (fun h2 w hw u1 u2 u3 => no er h h2 w fr hw u1 u2)
    have vv := (vb a q0).1 q2
    rw [q2] at kka
    refine fcC c hM (by omega) hy (a : Int) (t : Int) (ns.length : Int) (vl (a : Int)) (by omega) (by omega) (by omega) t1 (by omega) (by omega) vv.1 (by omega) (by omega) (fr _ _ _ rfl kt) kka (fr _ _ _ rfl (kv a q0)) l0 l1 l3 l4 (fun l1' h1 y0 f0 u1 u2 u3 m0 m1 m3 m4 m5 => ?_)
    have fr1 : ly_fr cst [19202, 19203, 19456, 19712] h0 h1 := ly_fr_tr fr (hp_sub2 rfl u2)
    obtain ⟨r, hrun, b, r1, r2, r3, rhy, rfr, rE⟩ := hs_run (xv := y0) (ns := ns) c2 c1 (by omega) u1 (by omega) (by omega) nl nb (u2 _ _ _ rfl kn) (fn_mv A u2 rfl)
    refine hp_call (mi := 121) (pc := 57) (tg := 48) (na := 2) (c := 75) (ci := 6) (st0 := [.long y0, .ref 91]) (st := []) (av := [.long y0]) hM (by decide +kernel) u1 rfl rfl rfl (by decide) hrun r2 r3 ?_
    rw [r1]
    rw [f0] at rE
    have g3 : ly_fr cst [19202, 19203, 19456, 19712] h0 r.2.1 := ly_fr_tr fr1 (hp_sub2 rfl rfr)
    have kt3 := g3 _ _ _ rfl kt
    rcases rE with ⟨mem, eb⟩ | ⟨mem, eb⟩
    · have er : fa kd vl t (F + 1) a ns vs = none := by
        rw [fa, if_neg n0, if_pos (Or.inr (Or.inr mem))]
      exact fcD c hM (by omega) rhy (a : Int) (t : Int) (ns.length : Int) (vl (a : Int)) b eb (by omega) (by omega) (by omega) t1 (by omega) (by omega) vv.1 (by omega) kt3 m0 m1 m3 m4 m5 (fun h2 w hw u1 u2 u3 => no er _ h2 w g3 hw u1 u2)
    have n1 : ¬ (ns.length = 20 ∨ fk kd t a ≠ 1 ∨ vl (a : Int) ∈ ns) := by
      rintro (z | z | z)
      · exact q1 z
      · exact z (by rw [fka]; exact q2)
      · exact mem z
    have kn3 := rfr _ _ _ rfl (u2 _ _ _ rfl kn)
    have A3 := fn_mv (fn_mv A u2 rfl) rfr rfl
    have V3 := fn_mv (fn_mv Av u2 rfl) rfr rfl
    -- add, and what is behind it
    have ad : ∀ (w : Int) (l4' : am_L) (h4 : am_H) (y1 : Int32) (y2 : Int64), y1.toInt = w → y2.toInt = vl (a : Int) → ly_hy m_tt ly_TH h4 → ly_fr cst [] r.2.1 h4 → (∀ (h5 : am_H) (b5 : Int32), ly_hy m_tt ly_TH h5 → ly_fr cst [19202, 19203, 19456, 19712] h0 h5 → ly_hv cst h5 19202 0 = some ((ns.length : Int) + 1) → fn_N cst h5 19456 0 (ns ++ [vl (a : Int)]) → fn_N cst h5 19712 0 (vs ++ [w]) → hp_F cst strs (fc_R cst h0 (fa kd vl t (F + 1) a ns vs)) (D + 1 + 1) M 125 l4' [.int b5] h5) → hp_F cst strs (fc_R cst h0 (fa kd vl t (F + 1) a ns vs)) (D + 1 + 1) M 122 l4' [.int y1, .long y2, .ref 91] h4 := by
      intro w l4' h4 y1 y2 e1 e2 v1 v2 k9
      obtain ⟨r', hrun', b5, s1, s2, s3, shy, sfr, sK, sA, sV⟩ := ad_run (xv := y2) (xw := y1) (ns := ns) (vs := vs) c1 (by omega) v1 (by omega) (by omega) (by omega) vn (v2 _ _ _ rfl kn3) (fn_mv A3 v2 rfl) (fn_mv V3 v2 rfl)
      refine hp_call (mi := 121) (pc := 122) (tg := 122) (na := 3) (c := 75) (ci := 6) (st0 := [.int y1, .long y2, .ref 91]) (st := []) (av := [.long y2, .int y1]) hM (by decide +kernel) v1 rfl rfl rfl (by decide) hrun' s2 s3 ?_
      rw [s1]
      rw [e2] at sA
      rw [e1] at sV
      exact k9 r'.2.1 b5 shy (ly_fr_tr g3 (ly_fr_tr (hp_sub2 rfl v2) (hp_sub2 rfl sfr))) sK sA sV
    have nb' : ∀ x ∈ ns ++ [vl (a : Int)], 0 ≤ x ∧ x ≤ 1152921504606846976 := fun x hx => by
      rcases List.mem_append.mp hx with z | z
      · exact nb x z
      · rw [List.mem_singleton.mp z]
        omega
    have len' : (((ns ++ [vl (a : Int)]).length : Nat) : Int) = (ns.length : Int) + 1 := by
      rw [List.length_append, List.length_singleton]
      omega
    have len9 : (ns ++ [vl (a : Int)]).length = ns.length + 1 := by
      rw [List.length_append, List.length_singleton]
    by_cases e61 : fk kd t (a + 1) = 61
    · have lt1 : a + 1 < t := by
        by_cases z : a + 1 < t
        · exact z
        · rw [fk_ge z] at e61
          omega
      have k61 : ly_hv cst r.2.1 768 ((a : Int) + 1) = some 61 := by
        rw [← e61, fk_lt lt1]
        exact g3 _ _ _ rfl (kk (a + 1) lt1)
      by_cases e2 : fk kd t (a + 2) = 2
      · have lt2 : a + 2 < t := by
          by_cases z : a + 2 < t
          · exact z
          · rw [fk_ge z] at e2
            omega
        have kd2 : kd ((a + 2 : Nat) : Int) = 2 := by
          rw [← fk_lt (kd := kd) lt2]
          exact e2
        have k2 : ly_hv cst r.2.1 768 ((a : Int) + 2) = some 2 := by
          have z := g3 _ _ _ rfl (kk (a + 2) lt2)
          rw [kd2] at z
          exact z
        have x2 := (vb (a + 2) lt2).2 kd2
        refine fcF c hM (by omega) rhy (a : Int) (t : Int) (ns.length : Int) (vl (a : Int)) (vl ((a + 2 : Nat) : Int)) b eb (by omega) (by omega) (by omega) t1 (by omega) (by omega) vv.1 (by omega) x2.1 x2.2 (by omega) kt3 k61 k2 (g3 _ _ _ rfl (kv (a + 2) lt2)) m0 m1 m3 m4 m5 (fun l4' h4 y1 y2 f1 f2 v1 v2 v3 o0 o1 o3 o4 o7 => ?_)
        refine ad (vl ((a + 2 : Nat) : Int)) l4' h4 y1 y2 f1 f2 v1 v2 (fun h5 b5 p1 p2 p3 p4 p5 => ?_)
        have kt5 := p2 _ _ _ rfl kt
        by_cases e59 : fk kd t (a + 3) = 59
        · have lt : a + 3 < t := by
            by_cases z : a + 3 < t
            · exact z
            · rw [fk_ge z] at e59
              omega
          have k59 : ly_hv cst h5 768 ((a : Int) + 3) = some 59 := by
            rw [fk_lt lt] at e59
            rw [← e59]
            exact p2 _ _ _ rfl (kk (a + 3) lt)
          have er : fa kd vl t (F + 1) a ns vs = fa kd vl t F (a + 4) (ns ++ [vl (a : Int)]) (vs ++ [vl ((a + 2 : Nat) : Int)]) := by
            rw [fa, if_neg n0, if_neg n1, if_pos e61, if_neg (by rintro (z | z); exact z e2; exact z e59)]
          rw [er]
          exact fcI1 c hM (by omega) p1 (a : Int) (t : Int) (ns.length : Int) b5.toInt b5 rfl (by omega) (by omega) (by omega) t1 (by omega) (by omega) b5.le_toInt b5.toInt_le (by omega) kt5 k59 o0 o1 o3 o4 o7 (fun l6 h6 w1 w2 w3 i0 i1 i3 i4 => ih h6 l6 (a + 4) (ns ++ [vl (a : Int)]) (vs ++ [vl ((a + 2 : Nat) : Int)]) (by omega) (by omega) (by rw [List.length_append, List.length_append, vn]; rfl) w1 (ly_fr_tr p2 (hp_sub2 rfl w2)) (by rw [len']; exact w2 _ _ _ rfl p3) (fn_mv p4 w2 rfl) (fn_mv p5 w2 rfl) (by omega) nb' i0 i1 i3 (by rw [len']; exact i4))
        have er : fa kd vl t (F + 1) a ns vs = none := by
          rw [fa, if_neg n0, if_neg n1, if_pos e61, if_pos (Or.inr e59)]
        by_cases lt : a + 3 < t
        · rw [fk_lt lt] at e59
          have kb9 := kb (a + 3) lt
          have kk9 := p2 _ _ _ rfl (kk (a + 3) lt)
          by_cases le : kd ((a + 3 : Nat) : Int) ≤ 58
          · exact fcK10 c hM (by omega) p1 (a : Int) (t : Int) (ns.length : Int) b5.toInt (kd ((a + 3 : Nat) : Int)) b5 rfl (by omega) (by omega) (by omega) t1 (by omega) (by omega) b5.le_toInt b5.toInt_le kb9.1 le (by omega) kt5 kk9 o0 o1 o3 o4 o7 (fun h6 w hw w1 w2 w3 => no er _ h6 w p2 hw w1 w2)
          · exact fcK11 c hM (by omega) p1 (a : Int) (t : Int) (ns.length : Int) b5.toInt (kd ((a + 3 : Nat) : Int)) b5 rfl (by omega) (by omega) (by omega) t1 (by omega) (by omega) b5.le_toInt b5.toInt_le (by omega) (by omega) (by omega) kt5 kk9 o0 o1 o3 o4 o7 (fun h6 w hw w1 w2 w3 => no er _ h6 w p2 hw w1 w2)
        · exact fcJ1 c hM (by omega) p1 (a : Int) (t : Int) (ns.length : Int) b5.toInt b5 rfl (by omega) (by omega) (by omega) t1 (by omega) (by omega) b5.le_toInt b5.toInt_le (by omega) kt5 o0 o1 o3 o4 o7 (fun h6 w hw w1 w2 w3 => no er _ h6 w p2 hw w1 w2)
      have er : fa kd vl t (F + 1) a ns vs = none := by
        rw [fa, if_neg n0, if_neg n1, if_pos e61, if_pos (Or.inl e2)]
      by_cases lt2 : a + 2 < t
      · rw [fk_lt lt2] at e2
        have kb2 := kb (a + 2) lt2
        have kk2 := g3 _ _ _ rfl (kk (a + 2) lt2)
        by_cases le : kd ((a + 2 : Nat) : Int) ≤ 1
        · exact fcG1 c hM (by omega) rhy (a : Int) (t : Int) (ns.length : Int) (vl (a : Int)) (kd ((a + 2 : Nat) : Int)) b eb (by omega) (by omega) (by omega) t1 (by omega) (by omega) vv.1 (by omega) kb2.1 le (by omega) kt3 k61 kk2 m0 m1 m3 m4 m5 (fun h6 w hw w1 w2 w3 => no er _ h6 w g3 hw w1 w2)
        · exact fcG2 c hM (by omega) rhy (a : Int) (t : Int) (ns.length : Int) (vl (a : Int)) (kd ((a + 2 : Nat) : Int)) b eb (by omega) (by omega) (by omega) t1 (by omega) (by omega) vv.1 (by omega) (by omega) (by omega) (by omega) kt3 k61 kk2 m0 m1 m3 m4 m5 (fun h6 w hw w1 w2 w3 => no er _ h6 w g3 hw w1 w2)
      · exact fcG0 c hM (by omega) rhy (a : Int) (t : Int) (ns.length : Int) (vl (a : Int)) b eb (by omega) (by omega) (by omega) t1 (by omega) (by omega) vv.1 (by omega) (by omega) (by omega) kt3 k61 m0 m1 m3 m4 m5 (fun h6 w hw w1 w2 w3 => no er _ h6 w g3 hw w1 w2)
    by_cases lt1 : a + 1 < t
    · have kb1 := kb (a + 1) lt1
      have kk1 := g3 _ _ _ rfl (kk (a + 1) lt1)
      have n61 : kd ((a + 1 : Nat) : Int) ≠ 61 := fun z => e61 (by rw [fk_lt lt1]; exact z)
      refine fcH1 c hM (by omega) rhy (a : Int) (t : Int) (ns.length : Int) (vl (a : Int)) (kd ((a + 1 : Nat) : Int)) b eb (by omega) (by omega) (by omega) t1 (by omega) (by omega) vv.1 (by omega) kb1.1 (by omega) (by omega) kt3 kk1 m0 m1 m3 m4 m5 (fun l4' h4 y1 y2 f1 f2 v1 v2 v3 o0 o1 o3 o4 o7 => ?_)
      refine ad 1 l4' h4 y1 y2 f1 f2 v1 v2 (fun h5 b5 p1 p2 p3 p4 p5 => ?_)
      have kt5 := p2 _ _ _ rfl kt
      by_cases e59 : fk kd t (a + 1) = 59
      · have lt : a + 1 < t := by
          by_cases z : a + 1 < t
          · exact z
          · rw [fk_ge z] at e59
            omega
        have k59 : ly_hv cst h5 768 ((a : Int) + 1) = some 59 := by
          rw [fk_lt lt] at e59
          rw [← e59]
          exact p2 _ _ _ rfl (kk (a + 1) lt)
        have er : fa kd vl t (F + 1) a ns vs = fa kd vl t F (a + 2) (ns ++ [vl (a : Int)]) (vs ++ [1]) := by
          rw [fa, if_neg n0, if_neg n1, if_neg e61, if_neg (fun z => z e59)]
        rw [er]
        exact fcI0 c hM (by omega) p1 (a : Int) (t : Int) (ns.length : Int) b5.toInt b5 rfl (by omega) (by omega) (by omega) t1 (by omega) (by omega) b5.le_toInt b5.toInt_le (by omega) kt5 k59 o0 o1 o3 o4 o7 (fun l6 h6 w1 w2 w3 i0 i1 i3 i4 => ih h6 l6 (a + 2) (ns ++ [vl (a : Int)]) (vs ++ [1]) (by omega) (by omega) (by rw [List.length_append, List.length_append, vn]; rfl) w1 (ly_fr_tr p2 (hp_sub2 rfl w2)) (by rw [len']; exact w2 _ _ _ rfl p3) (fn_mv p4 w2 rfl) (fn_mv p5 w2 rfl) (by omega) nb' i0 i1 i3 (by rw [len']; exact i4))
      have er : fa kd vl t (F + 1) a ns vs = none := by
        rw [fa, if_neg n0, if_neg n1, if_neg e61, if_pos e59]
      by_cases lt : a + 1 < t
      · rw [fk_lt lt] at e59
        have kb9 := kb (a + 1) lt
        have kk9 := p2 _ _ _ rfl (kk (a + 1) lt)
        by_cases le : kd ((a + 1 : Nat) : Int) ≤ 58
        · exact fcK00 c hM (by omega) p1 (a : Int) (t : Int) (ns.length : Int) b5.toInt (kd ((a + 1 : Nat) : Int)) b5 rfl (by omega) (by omega) (by omega) t1 (by omega) (by omega) b5.le_toInt b5.toInt_le kb9.1 le (by omega) kt5 kk9 o0 o1 o3 o4 o7 (fun h6 w hw w1 w2 w3 => no er _ h6 w p2 hw w1 w2)
        · exact fcK01 c hM (by omega) p1 (a : Int) (t : Int) (ns.length : Int) b5.toInt (kd ((a + 1 : Nat) : Int)) b5 rfl (by omega) (by omega) (by omega) t1 (by omega) (by omega) b5.le_toInt b5.toInt_le (by omega) (by omega) (by omega) kt5 kk9 o0 o1 o3 o4 o7 (fun h6 w hw w1 w2 w3 => no er _ h6 w p2 hw w1 w2)
      · exact fcJ0 c hM (by omega) p1 (a : Int) (t : Int) (ns.length : Int) b5.toInt b5 rfl (by omega) (by omega) (by omega) t1 (by omega) (by omega) b5.le_toInt b5.toInt_le (by omega) kt5 o0 o1 o3 o4 o7 (fun h6 w hw w1 w2 w3 => no er _ h6 w p2 hw w1 w2)
    · refine fcH0 c hM (by omega) rhy (a : Int) (t : Int) (ns.length : Int) (vl (a : Int)) b eb (by omega) (by omega) (by omega) t1 (by omega) (by omega) vv.1 (by omega) (by omega) (by omega) kt3 m0 m1 m3 m4 m5 (fun l4' h4 y1 y2 f1 f2 v1 v2 v3 o0 o1 o3 o4 o7 => ?_)
      refine ad 1 l4' h4 y1 y2 f1 f2 v1 v2 (fun h5 b5 p1 p2 p3 p4 p5 => ?_)
      have kt5 := p2 _ _ _ rfl kt
      by_cases e59 : fk kd t (a + 1) = 59
      · have lt : a + 1 < t := by
          by_cases z : a + 1 < t
          · exact z
          · rw [fk_ge z] at e59
            omega
        have k59 : ly_hv cst h5 768 ((a : Int) + 1) = some 59 := by
          rw [fk_lt lt] at e59
          rw [← e59]
          exact p2 _ _ _ rfl (kk (a + 1) lt)
        have er : fa kd vl t (F + 1) a ns vs = fa kd vl t F (a + 2) (ns ++ [vl (a : Int)]) (vs ++ [1]) := by
          rw [fa, if_neg n0, if_neg n1, if_neg e61, if_neg (fun z => z e59)]
        rw [er]
        exact fcI0 c hM (by omega) p1 (a : Int) (t : Int) (ns.length : Int) b5.toInt b5 rfl (by omega) (by omega) (by omega) t1 (by omega) (by omega) b5.le_toInt b5.toInt_le (by omega) kt5 k59 o0 o1 o3 o4 o7 (fun l6 h6 w1 w2 w3 i0 i1 i3 i4 => ih h6 l6 (a + 2) (ns ++ [vl (a : Int)]) (vs ++ [1]) (by omega) (by omega) (by rw [List.length_append, List.length_append, vn]; rfl) w1 (ly_fr_tr p2 (hp_sub2 rfl w2)) (by rw [len']; exact w2 _ _ _ rfl p3) (fn_mv p4 w2 rfl) (fn_mv p5 w2 rfl) (by omega) nb' i0 i1 i3 (by rw [len']; exact i4))
      have er : fa kd vl t (F + 1) a ns vs = none := by
        rw [fa, if_neg n0, if_neg n1, if_neg e61, if_pos e59]
      by_cases lt : a + 1 < t
      · rw [fk_lt lt] at e59
        have kb9 := kb (a + 1) lt
        have kk9 := p2 _ _ _ rfl (kk (a + 1) lt)
        by_cases le : kd ((a + 1 : Nat) : Int) ≤ 58
        · exact fcK00 c hM (by omega) p1 (a : Int) (t : Int) (ns.length : Int) b5.toInt (kd ((a + 1 : Nat) : Int)) b5 rfl (by omega) (by omega) (by omega) t1 (by omega) (by omega) b5.le_toInt b5.toInt_le kb9.1 le (by omega) kt5 kk9 o0 o1 o3 o4 o7 (fun h6 w hw w1 w2 w3 => no er _ h6 w p2 hw w1 w2)
        · exact fcK01 c hM (by omega) p1 (a : Int) (t : Int) (ns.length : Int) b5.toInt (kd ((a + 1 : Nat) : Int)) b5 rfl (by omega) (by omega) (by omega) t1 (by omega) (by omega) b5.le_toInt b5.toInt_le (by omega) (by omega) (by omega) kt5 kk9 o0 o1 o3 o4 o7 (fun h6 w hw w1 w2 w3 => no er _ h6 w p2 hw w1 w2)
      · exact fcJ0 c hM (by omega) p1 (a : Int) (t : Int) (ns.length : Int) b5.toInt b5 rfl (by omega) (by omega) (by omega) t1 (by omega) (by omega) b5.le_toInt b5.toInt_le (by omega) kt5 o0 o1 o3 o4 o7 (fun h6 w hw w1 w2 w3 => no er _ h6 w p2 hw w1 w2)
/-- readFacts of the class -/
theorem fc_run {cst : am_K} {strs : List Nat} {D : Nat} {h : am_H} (c2 : hp_C cst strs D) (c1 : hp_C cst strs (D + 1)) (c : hp_C cst strs (D + 1 + 1)) (hD : (8 : Int) ≤ (D : Int) + 1) (hy : ly_hy m_tt ly_TH h) {t : Nat} (t1 : (t : Int) ≤ 1200) {kd vl : Int → Int} (kt : ly_hv cst h 261 0 = some (t : Int)) (kk : ∀ j : Nat, j < t → ly_hv cst h 768 (j : Int) = some (kd (j : Int))) (kv : ∀ j : Nat, j < t → ly_hv cst h 1280 (j : Int) = some (vl (j : Int))) (kb : ∀ j : Nat, j < t → 1 ≤ kd (j : Int) ∧ kd (j : Int) ≤ 61) (vb : ∀ j : Nat, j < t → (kd (j : Int) = 1 → 0 ≤ vl (j : Int) ∧ vl (j : Int) < 1152921504606846976) ∧ (kd (j : Int) = 2 → 0 ≤ vl (j : Int) ∧ vl (j : Int) ≤ 9999)) {x0 : Int32} {g : Nat} (g2 : g ≤ 2) (e0 : x0.toInt = (g : Int)) :
    ∃ r, am_Run cst m_cl m_tt m_P strs sx_bi (D + 1 + 1 + 1) 121 [.ref 91, .ref 17, .int x0] h r ∧ fc_R cst h (fa kd vl t 21 g [] []) r := by
  obtain ⟨M, hM, hl⟩ := hp_M (mi := 121) (k := 3) (by decide +kernel)
  obtain ⟨n', r, hgo, w, r1, r2, r3, r4⟩ := fc0 (Φ := fc_R cst h (fa kd vl t 21 g [] [])) (l := lv_args 0 [.ref 91, .ref 17, .int x0]) c hM (by omega) hy (t : Int) (g : Int) (by omega) t1 (by omega) (by omega) kt rfl rfl ⟨x0, rfl, e0⟩ (fun l1 h1 u1 u2 u3 k1 m0 m1 m3 m4 => fc_lp c2 c1 c hM hD t1 kt kk kv kb vb 21 h1 l1 g [] [] rfl (by decide) rfl u1 (hp_sub2 rfl u2) k1 (fun k hk => by simp at hk) (fun k hk => by simp at hk) (by omega) (fun x hx => by simp at hx) m0 m1 m3 m4)
  simp only [Nat.zero_add] at r2 r3
  exact ⟨r, Or.inr ⟨M, n', hM, hl, hgo⟩, w, r1, r2, r3, r4⟩
theorem fn_pre {cst : am_K} {h : am_H} {r : Nat} {o v : Int} {ns : List Int} (A : fn_N cst h r o (ns ++ [v])) : fn_N cst h r o ns := fun k hk => by
  have := A k (by rw [List.length_append, List.length_singleton]; omega)
  rw [List.getElem_append_left hk] at this
  exact this
theorem srt_0 {k : Int} (a : k ≠ 1) (b : k ≠ 2) (c : k ≠ 59) (d : k ≠ 61) (e : k ≠ 40) (f : k ≠ 41) (g : k ≠ 43) : srt k = 0 := by
  unfold srt
  rw [if_neg a, if_neg b, if_neg c, if_neg d, if_neg e, if_neg f, if_neg g]
theorem srt_b (k : Int) : 0 ≤ srt k ∧ srt k ≤ 7 ∧ (srt k = 1 ↔ k = 1) ∧ (srt k = 2 ↔ k = 2) ∧ (srt k = 3 ↔ k = 59) ∧ (srt k = 4 ↔ k = 61) ∧ (srt k = 5 ↔ k = 40) ∧ (srt k = 6 ↔ k = 41) ∧ (srt k = 7 ↔ k = 43) := by
  unfold srt
  repeat' split
  all_goals omega
/-- the sort of the token a, 8 behind the last -/
def rk (kd : Int → Int) (t a : Nat) : Int := if a < t then srt (kd (a : Int)) else 8
theorem rk_b (kd : Int → Int) (t a : Nat) (kb : ∀ j : Nat, j < t → 1 ≤ kd (j : Int) ∧ kd (j : Int) ≤ 61) : 0 ≤ rk kd t a ∧ rk kd t a ≤ 8 ∧ (rk kd t a = 8 ↔ fk kd t a = 0) ∧ (rk kd t a = 1 ↔ fk kd t a = 1) ∧ (rk kd t a = 2 ↔ fk kd t a = 2) ∧ (rk kd t a = 3 ↔ fk kd t a = 59) ∧ (rk kd t a = 4 ↔ fk kd t a = 61) ∧ (rk kd t a = 5 ↔ fk kd t a = 40) ∧ (rk kd t a = 6 ↔ fk kd t a = 41) ∧ (rk kd t a = 7 ↔ fk kd t a = 43) := by
  unfold rk fk
  by_cases z : a < t
  · rw [if_pos z, if_pos z]
    have := srt_b (kd (a : Int))
    have := kb a z
    omega
  · rw [if_neg z, if_neg z]
    omega
theorem rk_i8 {kd : Int → Int} {t : Nat} (kb : ∀ j : Nat, j < t → 1 ≤ kd (j : Int) ∧ kd (j : Int) ≤ 61) (a : Nat) : rk kd t a = 8 ↔ fk kd t a = 0 := (rk_b kd t a kb).2.2.1
theorem rk_i1 {kd : Int → Int} {t : Nat} (kb : ∀ j : Nat, j < t → 1 ≤ kd (j : Int) ∧ kd (j : Int) ≤ 61) (a : Nat) : rk kd t a = 1 ↔ fk kd t a = 1 := (rk_b kd t a kb).2.2.2.1
theorem rk_i2 {kd : Int → Int} {t : Nat} (kb : ∀ j : Nat, j < t → 1 ≤ kd (j : Int) ∧ kd (j : Int) ≤ 61) (a : Nat) : rk kd t a = 2 ↔ fk kd t a = 2 := (rk_b kd t a kb).2.2.2.2.1
theorem rk_i3 {kd : Int → Int} {t : Nat} (kb : ∀ j : Nat, j < t → 1 ≤ kd (j : Int) ∧ kd (j : Int) ≤ 61) (a : Nat) : rk kd t a = 3 ↔ fk kd t a = 59 := (rk_b kd t a kb).2.2.2.2.2.1
theorem rk_i4 {kd : Int → Int} {t : Nat} (kb : ∀ j : Nat, j < t → 1 ≤ kd (j : Int) ∧ kd (j : Int) ≤ 61) (a : Nat) : rk kd t a = 4 ↔ fk kd t a = 61 := (rk_b kd t a kb).2.2.2.2.2.2.1
theorem rs_so {cst : am_K} {h : am_H} {kd vl : Int → Int} {en : Nat → Int} {t : Nat} {n : Int} {a : Nat} (R : rs cst h kd vl en t n a) : ly_hv cst h 19971 0 = some (rk kd t a) := by
  unfold rk
  by_cases z : a < t
  · rw [if_pos z]
    exact (R.1 z).1
  · rw [if_neg z]
    exact (R.2 (by omega)).1
theorem gt_kk {cst : am_K} {h : am_H} (hy : ly_hy m_tt ly_TH h) {t : Nat} (t1 : (t : Int) ≤ 1200) (j : Nat) (hj : j < t) : ly_hv cst h 768 (j : Int) = some (gt_g cst h 768 (j : Int)) ∧ ly_hv cst h 1024 (j : Int) = some (gt_g cst h 1024 (j : Int)) ∧ ly_hv cst h 1280 (j : Int) = some (gt_g cst h 1280 (j : Int)) := by
  obtain ⟨a, ka, -⟩ := hp_row (cst := cst) (i := (j : Int)) hy (show ly_ths ly_TH 3 = some (.inl (.int, 1200, 0, 255)) from rfl) (by omega) (by omega)
  obtain ⟨b, kb, -⟩ := hp_row (cst := cst) (i := (j : Int)) hy (show ly_ths ly_TH 4 = some (.inl (.int, 1200, -2147483648, 2147483647)) from rfl) (by omega) (by omega)
  obtain ⟨d, kd, -⟩ := hp_rowj (cst := cst) (i := (j : Int)) hy (show ly_ths ly_TH 5 = some (.inl (.long, 1200, 0, 0)) from rfl) (by omega) (by omega)
  exact ⟨by rw [gt_gs ka]; exact ka, by rw [gt_gs kb]; exact kb, by rw [gt_gs kd]; exact kd⟩
theorem tkT_kb {f : Int → Int} {n : Int} {t : Nat} {kd pl vl : Int → Int} {en : Nat → Int} (T : tkT f n t kd pl vl en) : ∀ j : Nat, j < t → 1 ≤ kd (j : Int) ∧ kd (j : Int) ≤ 61 := fun j hj => ⟨(tk_kd (T.2.1 j hj)).1, (tk_kd (T.2.1 j hj)).2.1⟩
