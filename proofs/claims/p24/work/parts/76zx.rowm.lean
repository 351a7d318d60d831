/-! PRINTED by wip/p2/hp_rowm.py: rows of a matter -/
theorem q1c0_k : hp_chk 60 0 1 [(0, 0, 99)] [] [(0, .inr (.inr (.inr (1, (0, [(0, 1)])))))] [] [] [] 2 [(2, ([], 1, [(0, 0, 99)], [], [(0, .inr (.inr (.inr (1, (0, [(0, 1)])))))], [.inl (0, []), .inr (.inr (.inr (1, (0, [(0, 1)]))))], []))] [] = true := by decide +kernel
theorem q1c0 {cst : am_K} {strs : List Nat} {Φ : am_Q → Prop} {D : Nat} {M : am_M} {h : am_H} {l : am_L} (c : hp_C cst strs D) (hM : m_P[60]? = some M) (hD : (2 : Int) ≤ (D : Int) + 1) (hy : ly_hy m_tt ly_TH h) (m : Int) (b0 : 0 ≤ m) (t0 : m ≤ 99) (l0 : hp_mlj l 0 1 h.length (m)) (e0 : ∀ (l' : am_L) (h' : am_H) (y0 : Int32) (y1 : Nat), y0.toInt = 0 → (y1 : Int) = (m) → 177 + 19 * (y1 + 1) ≤ h'.length → ly_hy m_tt ly_TH h' → ly_fr cst [] h h' → h.length ≤ h'.length → hp_mlj l' 0 1 h'.length (m) → hp_F cst strs Φ D M 2 l' [.int y0, .ref (16 + (177 + 19 * y1 + 1))] h') : hp_F cst strs Φ D M 0 l [] h := by
  refine hp_arc c hM q1c0_k hD [m] rfl hy (hp_Bc (z := m) rfl b0 t0 hp_Bn) hp_Fn hp_Kn (hp_Lmj (by decide) (z := (0 + (1 * m + 0))) l0 rfl (by omega) hp_Ln) trivial ?_ ?_
  · intro p_9 hp ys l' st' h' hys a1_9 a2 a3 gZ gL gS
    rcases List.mem_cons.mp hp with rfl | hp
    · obtain rfl := hp_y0 hys
      obtain ⟨y0, t0, rfl, q0, g0⟩ := hp_gSi (z := (0 + 0)) gS rfl
      obtain ⟨y1, t1_9, rfl, q1_9, p1_9, g1⟩ := hp_gSmj (z := (0 + (1 * m + 0))) g0 rfl
      cases hp_gSn g1
      exact e0 l' h' y0 y1 (by omega) (by omega) p1_9 a1_9 a2 a3 (hp_gLmj (z := (0 + (1 * m + 0))) gL (List.mem_of_getElem? (i := 0) rfl) rfl (by omega))
    cases hp
  · intro p_9 hp ys v_9 h' hys a1_9 a2 a3 gZ gS
    cases hp
theorem q1c1_k : hp_chk 60 5 1 [(0, 0, 99)] [] [(0, .inr (.inr (.inr (1, (0, [(0, 1)])))))] [] [] [] 2 [(7, ([], 1, [(0, 0, 99)], [], [(0, .inr (.inr (.inr (1, (0, [(0, 1)])))))], [.inl (0, []), .inr (.inr (.inr (1, (0, [(0, 1)]))))], []))] [] = true := by decide +kernel
theorem q1c1 {cst : am_K} {strs : List Nat} {Φ : am_Q → Prop} {D : Nat} {M : am_M} {h : am_H} {l : am_L} (c : hp_C cst strs D) (hM : m_P[60]? = some M) (hD : (2 : Int) ≤ (D : Int) + 1) (hy : ly_hy m_tt ly_TH h) (m : Int) (b0 : 0 ≤ m) (t0 : m ≤ 99) (l0 : hp_mlj l 0 1 h.length (m)) (e0 : ∀ (l' : am_L) (h' : am_H) (y0 : Int32) (y1 : Nat), y0.toInt = 0 → (y1 : Int) = (m) → 177 + 19 * (y1 + 1) ≤ h'.length → ly_hy m_tt ly_TH h' → ly_fr cst [] h h' → h.length ≤ h'.length → hp_mlj l' 0 1 h'.length (m) → hp_F cst strs Φ D M 7 l' [.int y0, .ref (16 + (177 + 19 * y1 + 1))] h') : hp_F cst strs Φ D M 5 l [] h := by
  refine hp_arc c hM q1c1_k hD [m] rfl hy (hp_Bc (z := m) rfl b0 t0 hp_Bn) hp_Fn hp_Kn (hp_Lmj (by decide) (z := (0 + (1 * m + 0))) l0 rfl (by omega) hp_Ln) trivial ?_ ?_
  · intro p_9 hp ys l' st' h' hys a1_9 a2 a3 gZ gL gS
    rcases List.mem_cons.mp hp with rfl | hp
    · obtain rfl := hp_y0 hys
      obtain ⟨y0, t0, rfl, q0, g0⟩ := hp_gSi (z := (0 + 0)) gS rfl
      obtain ⟨y1, t1_9, rfl, q1_9, p1_9, g1⟩ := hp_gSmj (z := (0 + (1 * m + 0))) g0 rfl
      cases hp_gSn g1
      exact e0 l' h' y0 y1 (by omega) (by omega) p1_9 a1_9 a2 a3 (hp_gLmj (z := (0 + (1 * m + 0))) gL (List.mem_of_getElem? (i := 0) rfl) rfl (by omega))
    cases hp
  · intro p_9 hp ys v_9 h' hys a1_9 a2 a3 gZ gS
    cases hp
theorem q1c2_k : hp_chk 60 10 1 [(0, 0, 99)] [] [(0, .inr (.inr (.inr (1, (0, [(0, 1)])))))] [] [] [] 2 [] [([], 1, [(0, 0, 99)], [], [], [], [])] = true := by decide +kernel
theorem q1c2 {cst : am_K} {strs : List Nat} {Φ : am_Q → Prop} {D : Nat} {M : am_M} {h : am_H} {l : am_L} (c : hp_C cst strs D) (hM : m_P[60]? = some M) (hD : (2 : Int) ≤ (D : Int) + 1) (hy : ly_hy m_tt ly_TH h) (m : Int) (b0 : 0 ≤ m) (t0 : m ≤ 99) (l0 : hp_mlj l 0 1 h.length (m)) (r0 : ∀ (h' : am_H), ly_hy m_tt ly_TH h' → ly_fr cst [] h h' → h.length ≤ h'.length → Φ (none, h', 0, 0)) : hp_F cst strs Φ D M 10 l [] h := by
  refine hp_arc c hM q1c2_k hD [m] rfl hy (hp_Bc (z := m) rfl b0 t0 hp_Bn) hp_Fn hp_Kn (hp_Lmj (by decide) (z := (0 + (1 * m + 0))) l0 rfl (by omega) hp_Ln) trivial ?_ ?_
  · intro p_9 hp ys l' st' h' hys a1_9 a2 a3 gZ gL gS
    cases hp
  · intro p_9 hp ys v_9 h' hys a1_9 a2 a3 gZ gS
    rcases List.mem_cons.mp hp with rfl | hp
    · obtain rfl := hp_y0 hys
      have sv := hp_gSn gS
      cases v_9 with
      | some wz => cases sv
      | none =>
        exact r0 h' a1_9 a2 a3
    cases hp
theorem q1a0_k : hp_chk 122 0 4 [(0, 0, 99), (1, (-9223372036854775808), 9223372036854775807), (2, 0, 9999), (3, 0, 27)] [] [(0, .inr (.inr (.inr (1, (0, [(0, 1)]))))), (1, .inr (.inl (0, [(1, 1)]))), (3, .inl (0, [(2, 1)]))] [] [(45570, (0, [(0, 1)]), (0, [(3, 1)]))] [] 2 [(23, ([], 4, [(0, 0, 99), (1, (-9223372036854775808), 9223372036854775807), (2, 0, 9999), (3, 0, 27)], [], [(0, .inr (.inr (.inr (1, (0, [(0, 1)]))))), (1, .inr (.inl (0, [(1, 1)]))), (3, .inl (0, [(2, 1)]))], [.inr (.inl (0, [(1, 1)])), .inl (0, [(3, 1)]), .inr (.inr (.inr (2, (0, [(0, 1)]))))], [(45570, (0, [(0, 1)]), (0, [(3, 1)]))]))] [] = true := by decide +kernel
theorem q1a0 {cst : am_K} {strs : List Nat} {Φ : am_Q → Prop} {D : Nat} {M : am_M} {h : am_H} {l : am_L} (c : hp_C cst strs D) (hM : m_P[122]? = some M) (hD : (2 : Int) ≤ (D : Int) + 1) (hy : ly_hy m_tt ly_TH h) (m v w n : Int) (b0 : 0 ≤ m) (t0 : m ≤ 99) (b1 : (-9223372036854775808) ≤ v) (t1 : v ≤ 9223372036854775807) (b2 : 0 ≤ w) (t2 : w ≤ 9999) (b3 : 0 ≤ n) (t3 : n ≤ 27) (k0 : ly_hv cst h 45570 (m) = some (n)) (l0 : hp_mlj l 0 1 h.length (m)) (l1 : hp_j l 1 (v)) (l3 : hp_i l 3 (w)) (e0 : ∀ (l' : am_L) (h' : am_H) (y0 : Int64) (y1 : Int32) (y2 : Nat), y0.toInt = (v) → y1.toInt = (n) → (y2 : Int) = (m) → 177 + 19 * (y2 + 1) ≤ h'.length → ly_hy m_tt ly_TH h' → ly_fr cst [] h h' → h.length ≤ h'.length → ly_hv cst h' 45570 (m) = some (n) → hp_mlj l' 0 1 h'.length (m) → hp_j l' 1 (v) → hp_i l' 3 (w) → hp_F cst strs Φ D M 23 l' [.long y0, .int y1, .ref (16 + (177 + 19 * y2 + 2))] h') : hp_F cst strs Φ D M 0 l [] h := by
  refine hp_arc c hM q1a0_k hD [m, v, w, n] rfl hy (hp_Bc (z := m) rfl b0 t0 (hp_Bc (z := v) rfl b1 t1 (hp_Bc (z := w) rfl b2 t2 (hp_Bc (z := n) rfl b3 t3 hp_Bn)))) hp_Fn (hp_Kc (zi := (0 + (1 * m + 0))) (zv := (0 + (1 * n + 0))) k0 rfl rfl (by omega) (by omega) hp_Kn) (hp_Lmj (by decide) (z := (0 + (1 * m + 0))) l0 rfl (by omega) (hp_Lj (z := (0 + (1 * v + 0))) l1 rfl (by omega) (hp_Li (z := (0 + (1 * w + 0))) l3 rfl (by omega) hp_Ln))) trivial ?_ ?_
  · intro p_9 hp ys l' st' h' hys a1_9 a2 a3 gZ gL gS
    rcases List.mem_cons.mp hp with rfl | hp
    · obtain rfl := hp_y0 hys
      obtain ⟨y0, t0, rfl, q0, g0⟩ := hp_gSj (z := (0 + (1 * v + 0))) gS rfl
      obtain ⟨y1, t1, rfl, q1_9, g1⟩ := hp_gSi (z := (0 + (1 * n + 0))) g0 rfl
      obtain ⟨y2, t2, rfl, q2_9, p2_9, g2⟩ := hp_gSmj (z := (0 + (1 * m + 0))) g1 rfl
      cases hp_gSn g2
      exact e0 l' h' y0 y1 y2 (by omega) (by omega) (by omega) p2_9 a1_9 a2 a3 (hp_gK (zi := (0 + (1 * m + 0))) (zv := (0 + (1 * n + 0))) gZ.2.2.2 (List.mem_of_getElem? (i := 0) rfl) rfl rfl (by omega) (by omega)) (hp_gLmj (z := (0 + (1 * m + 0))) gL (List.mem_of_getElem? (i := 0) rfl) rfl (by omega)) (hp_gLj (z := (0 + (1 * v + 0))) gL (List.mem_of_getElem? (i := 1) rfl) rfl (by omega)) (hp_gLi (z := (0 + (1 * w + 0))) gL (List.mem_of_getElem? (i := 2) rfl) rfl (by omega))
    cases hp
  · intro p_9 hp ys v h' hys a1_9 a2 a3 gZ gS
    cases hp
theorem q1a1_k : hp_chk 122 24 4 [(0, 0, 99), (1, (-9223372036854775808), 9223372036854775807), (2, 0, 9999), (3, 0, 27)] [] [(0, .inr (.inr (.inr (1, (0, [(0, 1)]))))), (1, .inr (.inl (0, [(1, 1)]))), (3, .inl (0, [(2, 1)]))] [] [(45570, (0, [(0, 1)]), (0, [(3, 1)]))] [] 2 [(33, ([], 4, [(0, 0, 99), (1, (-9223372036854775808), 9223372036854775807), (2, 0, 9999), (3, 0, 27)], [], [(0, .inr (.inr (.inr (1, (0, [(0, 1)]))))), (1, .inr (.inl (0, [(1, 1)]))), (3, .inl (0, [(2, 1)]))], [.inl (0, [(2, 1)]), .inl (0, [(3, 1)]), .inr (.inr (.inr (3, (0, [(0, 1)]))))], [(45570, (0, [(0, 1)]), (0, [(3, 1)]))]))] [] = true := by decide +kernel
theorem q1a1 {cst : am_K} {strs : List Nat} {Φ : am_Q → Prop} {D : Nat} {M : am_M} {h : am_H} {l : am_L} (c : hp_C cst strs D) (hM : m_P[122]? = some M) (hD : (2 : Int) ≤ (D : Int) + 1) (hy : ly_hy m_tt ly_TH h) (m v w n : Int) (b0 : 0 ≤ m) (t0 : m ≤ 99) (b1 : (-9223372036854775808) ≤ v) (t1 : v ≤ 9223372036854775807) (b2 : 0 ≤ w) (t2 : w ≤ 9999) (b3 : 0 ≤ n) (t3 : n ≤ 27) (k0 : ly_hv cst h 45570 (m) = some (n)) (l0 : hp_mlj l 0 1 h.length (m)) (l1 : hp_j l 1 (v)) (l3 : hp_i l 3 (w)) (e0 : ∀ (l' : am_L) (h' : am_H) (y0 : Int32) (y1 : Int32) (y2 : Nat), y0.toInt = (w) → y1.toInt = (n) → (y2 : Int) = (m) → 177 + 19 * (y2 + 1) ≤ h'.length → ly_hy m_tt ly_TH h' → ly_fr cst [] h h' → h.length ≤ h'.length → ly_hv cst h' 45570 (m) = some (n) → hp_mlj l' 0 1 h'.length (m) → hp_j l' 1 (v) → hp_i l' 3 (w) → hp_F cst strs Φ D M 33 l' [.int y0, .int y1, .ref (16 + (177 + 19 * y2 + 3))] h') : hp_F cst strs Φ D M 24 l [] h := by
  refine hp_arc c hM q1a1_k hD [m, v, w, n] rfl hy (hp_Bc (z := m) rfl b0 t0 (hp_Bc (z := v) rfl b1 t1 (hp_Bc (z := w) rfl b2 t2 (hp_Bc (z := n) rfl b3 t3 hp_Bn)))) hp_Fn (hp_Kc (zi := (0 + (1 * m + 0))) (zv := (0 + (1 * n + 0))) k0 rfl rfl (by omega) (by omega) hp_Kn) (hp_Lmj (by decide) (z := (0 + (1 * m + 0))) l0 rfl (by omega) (hp_Lj (z := (0 + (1 * v + 0))) l1 rfl (by omega) (hp_Li (z := (0 + (1 * w + 0))) l3 rfl (by omega) hp_Ln))) trivial ?_ ?_
  · intro p_9 hp ys l' st' h' hys a1_9 a2 a3 gZ gL gS
    rcases List.mem_cons.mp hp with rfl | hp
    · obtain rfl := hp_y0 hys
      obtain ⟨y0, t0, rfl, q0, g0⟩ := hp_gSi (z := (0 + (1 * w + 0))) gS rfl
      obtain ⟨y1, t1, rfl, q1_9, g1⟩ := hp_gSi (z := (0 + (1 * n + 0))) g0 rfl
      obtain ⟨y2, t2, rfl, q2_9, p2_9, g2⟩ := hp_gSmj (z := (0 + (1 * m + 0))) g1 rfl
      cases hp_gSn g2
      exact e0 l' h' y0 y1 y2 (by omega) (by omega) (by omega) p2_9 a1_9 a2 a3 (hp_gK (zi := (0 + (1 * m + 0))) (zv := (0 + (1 * n + 0))) gZ.2.2.2 (List.mem_of_getElem? (i := 0) rfl) rfl rfl (by omega) (by omega)) (hp_gLmj (z := (0 + (1 * m + 0))) gL (List.mem_of_getElem? (i := 0) rfl) rfl (by omega)) (hp_gLj (z := (0 + (1 * v + 0))) gL (List.mem_of_getElem? (i := 1) rfl) rfl (by omega)) (hp_gLi (z := (0 + (1 * w + 0))) gL (List.mem_of_getElem? (i := 2) rfl) rfl (by omega))
    cases hp
  · intro p_9 hp ys v h' hys a1_9 a2 a3 gZ gS
    cases hp
theorem q1a2_k : hp_chk 122 34 2 [(0, 0, 99), (1, 0, 27)] [] [(0, .inr (.inr (.inr (1, (0, [(0, 1)])))))] [] [(45570, (0, [(0, 1)]), (0, [(1, 1)]))] [] 2 [(41, ([], 2, [(0, 0, 99), (1, 0, 27)], [], [(0, .inr (.inr (.inr (1, (0, [(0, 1)])))))], [.inl (1, [(1, 1)]), .inr (.inr (.inr (1, (0, [(0, 1)]))))], []))] [] = true := by decide +kernel
theorem q1a2 {cst : am_K} {strs : List Nat} {Φ : am_Q → Prop} {D : Nat} {M : am_M} {h : am_H} {l : am_L} (c : hp_C cst strs D) (hM : m_P[122]? = some M) (hD : (2 : Int) ≤ (D : Int) + 1) (hy : ly_hy m_tt ly_TH h) (m n : Int) (b0 : 0 ≤ m) (t0 : m ≤ 99) (b1 : 0 ≤ n) (t1 : n ≤ 27) (k0 : ly_hv cst h 45570 (m) = some (n)) (l0 : hp_mlj l 0 1 h.length (m)) (e0 : ∀ (l' : am_L) (h' : am_H) (y0 : Int32) (y1 : Nat), y0.toInt = (n + 1) → (y1 : Int) = (m) → 177 + 19 * (y1 + 1) ≤ h'.length → ly_hy m_tt ly_TH h' → ly_fr cst [] h h' → h.length ≤ h'.length → hp_mlj l' 0 1 h'.length (m) → hp_F cst strs Φ D M 41 l' [.int y0, .ref (16 + (177 + 19 * y1 + 1))] h') : hp_F cst strs Φ D M 34 l [] h := by
  refine hp_arc c hM q1a2_k hD [m, n] rfl hy (hp_Bc (z := m) rfl b0 t0 (hp_Bc (z := n) rfl b1 t1 hp_Bn)) hp_Fn (hp_Kc (zi := (0 + (1 * m + 0))) (zv := (0 + (1 * n + 0))) k0 rfl rfl (by omega) (by omega) hp_Kn) (hp_Lmj (by decide) (z := (0 + (1 * m + 0))) l0 rfl (by omega) hp_Ln) trivial ?_ ?_
  · intro p_9 hp ys l' st' h' hys a1_9 a2 a3 gZ gL gS
    rcases List.mem_cons.mp hp with rfl | hp
    · obtain rfl := hp_y0 hys
      obtain ⟨y0, t0, rfl, q0, g0⟩ := hp_gSi (z := (1 + (1 * n + 0))) gS rfl
      obtain ⟨y1, t1, rfl, q1_9, p1_9, g1⟩ := hp_gSmj (z := (0 + (1 * m + 0))) g0 rfl
      cases hp_gSn g1
      exact e0 l' h' y0 y1 (by omega) (by omega) p1_9 a1_9 a2 a3 (hp_gLmj (z := (0 + (1 * m + 0))) gL (List.mem_of_getElem? (i := 0) rfl) rfl (by omega))
    cases hp
  · intro p_9 hp ys v_9 h' hys a1_9 a2 a3 gZ gS
    cases hp
theorem q1a3_k : hp_chk 122 44 1 [(0, 0, 99)] [] [(0, .inr (.inr (.inr (1, (0, [(0, 1)])))))] [] [] [] 2 [] [([], 1, [(0, 0, 99)], [], [], [.inl (1, [])], [])] = true := by decide +kernel
theorem q1a3 {cst : am_K} {strs : List Nat} {Φ : am_Q → Prop} {D : Nat} {M : am_M} {h : am_H} {l : am_L} (c : hp_C cst strs D) (hM : m_P[122]? = some M) (hD : (2 : Int) ≤ (D : Int) + 1) (hy : ly_hy m_tt ly_TH h) (m : Int) (b0 : 0 ≤ m) (t0 : m ≤ 99) (l0 : hp_mlj l 0 1 h.length (m)) (r0 : ∀ (h' : am_H) (y0 : Int32), y0.toInt = 1 → ly_hy m_tt ly_TH h' → ly_fr cst [] h h' → h.length ≤ h'.length → Φ (some (.int y0), h', 0, 0)) : hp_F cst strs Φ D M 44 l [] h := by
  refine hp_arc c hM q1a3_k hD [m] rfl hy (hp_Bc (z := m) rfl b0 t0 hp_Bn) hp_Fn hp_Kn (hp_Lmj (by decide) (z := (0 + (1 * m + 0))) l0 rfl (by omega) hp_Ln) trivial ?_ ?_
  · intro p_9 hp ys l' st' h' hys a1_9 a2 a3 gZ gL gS
    cases hp
  · intro p_9 hp ys v_9 h' hys a1_9 a2 a3 gZ gS
    rcases List.mem_cons.mp hp with rfl | hp
    · obtain rfl := hp_y0 hys
      cases v_9 with
      | none => cases gS
      | some wz =>
        obtain ⟨y0, t0, s0_9, q0, -⟩ := hp_gSi (z := (1 + 0)) gS rfl
        cases s0_9
        exact r0 h' y0 (by omega) a1_9 a2 a3
    cases hp
theorem q1f0_k : hp_chk 49 0 2 [(0, 0, 99), (1, (-9223372036854775808), 9223372036854775807)] [] [(0, .inr (.inr (.inr (1, (0, [(0, 1)]))))), (1, .inr (.inl (0, [(1, 1)])))] [] [] [] 2 [(2, ([], 2, [(0, 0, 99), (1, (-9223372036854775808), 9223372036854775807)], [], [(0, .inr (.inr (.inr (1, (0, [(0, 1)]))))), (1, .inr (.inl (0, [(1, 1)]))), (3, .inl (0, []))], [], []))] [] = true := by decide +kernel
theorem q1f0 {cst : am_K} {strs : List Nat} {Φ : am_Q → Prop} {D : Nat} {M : am_M} {h : am_H} {l : am_L} (c : hp_C cst strs D) (hM : m_P[49]? = some M) (hD : (2 : Int) ≤ (D : Int) + 1) (hy : ly_hy m_tt ly_TH h) (m v : Int) (b0 : 0 ≤ m) (t0 : m ≤ 99) (b1 : (-9223372036854775808) ≤ v) (t1 : v ≤ 9223372036854775807) (l0 : hp_mlj l 0 1 h.length (m)) (l1 : hp_j l 1 (v)) (e0 : ∀ (l' : am_L) (h' : am_H), ly_hy m_tt ly_TH h' → ly_fr cst [] h h' → h.length ≤ h'.length → hp_mlj l' 0 1 h'.length (m) → hp_j l' 1 (v) → hp_i l' 3 0 → hp_F cst strs Φ D M 2 l' [] h') : hp_F cst strs Φ D M 0 l [] h := by
  refine hp_arc c hM q1f0_k hD [m, v] rfl hy (hp_Bc (z := m) rfl b0 t0 (hp_Bc (z := v) rfl b1 t1 hp_Bn)) hp_Fn hp_Kn (hp_Lmj (by decide) (z := (0 + (1 * m + 0))) l0 rfl (by omega) (hp_Lj (z := (0 + (1 * v + 0))) l1 rfl (by omega) hp_Ln)) trivial ?_ ?_
  · intro p_9 hp ys l' st' h' hys a1_9 a2 a3 gZ gL gS
    rcases List.mem_cons.mp hp with rfl | hp
    · obtain rfl := hp_y0 hys
      cases hp_gSn gS
      exact e0 l' h' a1_9 a2 a3 (hp_gLmj (z := (0 + (1 * m + 0))) gL (List.mem_of_getElem? (i := 0) rfl) rfl (by omega)) (hp_gLj (z := (0 + (1 * v + 0))) gL (List.mem_of_getElem? (i := 1) rfl) rfl (by omega)) (hp_gLi (z := (0 + 0)) gL (List.mem_of_getElem? (i := 2) rfl) rfl (by omega))
    cases hp
  · intro p_9 hp ys v h' hys a1_9 a2 a3 gZ gS
    cases hp
theorem q1f1_k : hp_chk 49 2 5 [(0, 0, 99), (1, (-9223372036854775808), 9223372036854775807), (2, 0, 28), (3, 0, 27), (4, (-9223372036854775808), 9223372036854775807)] [((-1), [(2, 1), (3, (-1))])] [(0, .inr (.inr (.inr (1, (0, [(0, 1)]))))), (1, .inr (.inl (0, [(1, 1)]))), (3, .inl (0, [(3, 1)]))] [] [(45570, (0, [(0, 1)]), (0, [(2, 1)])), (45824, (0, [(0, 32), (3, 1)]), (0, [(4, 1)])), (61000, (0, [(1, (-1)), (4, 1)]), (1, []))] [] 2 [(2, ([], 5, [(0, 0, 99), (1, (-9223372036854775808), 9223372036854775807), (2, 0, 28), (3, 0, 27), (4, (-9223372036854775808), 9223372036854775807)], [], [(0, .inr (.inr (.inr (1, (0, [(0, 1)]))))), (1, .inr (.inl (0, [(1, 1)]))), (3, .inl (1, [(3, 1)]))], [], []))] [] = true := by decide +kernel
theorem q1f1 {cst : am_K} {strs : List Nat} {Φ : am_Q → Prop} {D : Nat} {M : am_M} {h : am_H} {l : am_L} (c : hp_C cst strs D) (hM : m_P[49]? = some M) (hD : (2 : Int) ≤ (D : Int) + 1) (hy : ly_hy m_tt ly_TH h) (m v z i x : Int) (b0 : 0 ≤ m) (t0 : m ≤ 99) (b1 : (-9223372036854775808) ≤ v) (t1 : v ≤ 9223372036854775807) (b2 : 0 ≤ z) (t2 : z ≤ 28) (b3 : 0 ≤ i) (t3 : i ≤ 27) (b4 : (-9223372036854775808) ≤ x) (t4 : x ≤ 9223372036854775807) (f0 : 0 ≤ (z - i - 1)) (k0 : ly_hv cst h 45570 (m) = some (z)) (k1 : ly_hv cst h 45824 (32 * m + i) = some (x)) (k2 : ly_hv cst h 61000 (x - v) = some 1) (l0 : hp_mlj l 0 1 h.length (m)) (l1 : hp_j l 1 (v)) (l3 : hp_i l 3 (i)) (e0 : ∀ (l' : am_L) (h' : am_H), ly_hy m_tt ly_TH h' → ly_fr cst [] h h' → h.length ≤ h'.length → hp_mlj l' 0 1 h'.length (m) → hp_j l' 1 (v) → hp_i l' 3 (i + 1) → hp_F cst strs Φ D M 2 l' [] h') : hp_F cst strs Φ D M 2 l [] h := by
  refine hp_arc c hM q1f1_k hD [m, v, z, i, x] rfl hy (hp_Bc (z := m) rfl b0 t0 (hp_Bc (z := v) rfl b1 t1 (hp_Bc (z := z) rfl b2 t2 (hp_Bc (z := i) rfl b3 t3 (hp_Bc (z := x) rfl b4 t4 hp_Bn))))) (hp_Fc (z := ((-1) + (1 * z + ((-1) * i + 0)))) rfl (by omega) hp_Fn) (hp_Kc (zi := (0 + (1 * m + 0))) (zv := (0 + (1 * z + 0))) k0 rfl rfl (by omega) (by omega) (hp_Kc (zi := (0 + (32 * m + (1 * i + 0)))) (zv := (0 + (1 * x + 0))) k1 rfl rfl (by omega) (by omega) (hp_Kc (zi := (0 + ((-1) * v + (1 * x + 0)))) (zv := (1 + 0)) k2 rfl rfl (by omega) (by omega) hp_Kn))) (hp_Lmj (by decide) (z := (0 + (1 * m + 0))) l0 rfl (by omega) (hp_Lj (z := (0 + (1 * v + 0))) l1 rfl (by omega) (hp_Li (z := (0 + (1 * i + 0))) l3 rfl (by omega) hp_Ln))) trivial ?_ ?_
  · intro p_9 hp ys l' st' h' hys a1_9 a2 a3 gZ gL gS
    rcases List.mem_cons.mp hp with rfl | hp
    · obtain rfl := hp_y0 hys
      cases hp_gSn gS
      exact e0 l' h' a1_9 a2 a3 (hp_gLmj (z := (0 + (1 * m + 0))) gL (List.mem_of_getElem? (i := 0) rfl) rfl (by omega)) (hp_gLj (z := (0 + (1 * v + 0))) gL (List.mem_of_getElem? (i := 1) rfl) rfl (by omega)) (hp_gLi (z := (1 + (1 * i + 0))) gL (List.mem_of_getElem? (i := 2) rfl) rfl (by omega))
    cases hp
  · intro p_9 hp ys v h' hys a1_9 a2 a3 gZ gS
    cases hp
theorem q1f2_k : hp_chk 49 2 4 [(0, 0, 99), (1, (-9223372036854775808), 9223372036854775807), (2, 0, 28), (3, 0, 27)] [((-1), [(2, 1), (3, (-1))])] [(0, .inr (.inr (.inr (1, (0, [(0, 1)]))))), (1, .inr (.inl (0, [(1, 1)]))), (3, .inl (0, [(3, 1)]))] [] [(45570, (0, [(0, 1)]), (0, [(2, 1)])), (45824, (0, [(0, 32), (3, 1)]), (0, [(1, 1)]))] [] 2 [] [([], 4, [(0, 0, 99), (1, (-9223372036854775808), 9223372036854775807), (2, 0, 28), (3, 0, 27)], [], [], [.inl (0, [(3, 1)])], [])] = true := by decide +kernel
theorem q1f2 {cst : am_K} {strs : List Nat} {Φ : am_Q → Prop} {D : Nat} {M : am_M} {h : am_H} {l : am_L} (c : hp_C cst strs D) (hM : m_P[49]? = some M) (hD : (2 : Int) ≤ (D : Int) + 1) (hy : ly_hy m_tt ly_TH h) (m v z i : Int) (b0 : 0 ≤ m) (t0 : m ≤ 99) (b1 : (-9223372036854775808) ≤ v) (t1 : v ≤ 9223372036854775807) (b2 : 0 ≤ z) (t2 : z ≤ 28) (b3 : 0 ≤ i) (t3 : i ≤ 27) (f0 : 0 ≤ (z - i - 1)) (k0 : ly_hv cst h 45570 (m) = some (z)) (k1 : ly_hv cst h 45824 (32 * m + i) = some (v)) (l0 : hp_mlj l 0 1 h.length (m)) (l1 : hp_j l 1 (v)) (l3 : hp_i l 3 (i)) (r0 : ∀ (h' : am_H) (y0 : Int32), y0.toInt = (i) → ly_hy m_tt ly_TH h' → ly_fr cst [] h h' → h.length ≤ h'.length → Φ (some (.int y0), h', 0, 0)) : hp_F cst strs Φ D M 2 l [] h := by
  refine hp_arc c hM q1f2_k hD [m, v, z, i] rfl hy (hp_Bc (z := m) rfl b0 t0 (hp_Bc (z := v) rfl b1 t1 (hp_Bc (z := z) rfl b2 t2 (hp_Bc (z := i) rfl b3 t3 hp_Bn)))) (hp_Fc (z := ((-1) + (1 * z + ((-1) * i + 0)))) rfl (by omega) hp_Fn) (hp_Kc (zi := (0 + (1 * m + 0))) (zv := (0 + (1 * z + 0))) k0 rfl rfl (by omega) (by omega) (hp_Kc (zi := (0 + (32 * m + (1 * i + 0)))) (zv := (0 + (1 * v + 0))) k1 rfl rfl (by omega) (by omega) hp_Kn)) (hp_Lmj (by decide) (z := (0 + (1 * m + 0))) l0 rfl (by omega) (hp_Lj (z := (0 + (1 * v + 0))) l1 rfl (by omega) (hp_Li (z := (0 + (1 * i + 0))) l3 rfl (by omega) hp_Ln))) trivial ?_ ?_
  · intro p_9 hp ys l' st' h' hys a1_9 a2 a3 gZ gL gS
    cases hp
  · intro p_9 hp ys v h' hys a1_9 a2 a3 gZ gS
    rcases List.mem_cons.mp hp with rfl | hp
    · obtain rfl := hp_y0 hys
      cases v with
      | none => cases gS
      | some wz =>
        obtain ⟨y0, t0, s0_9, q0, -⟩ := hp_gSi (z := (0 + (1 * i + 0))) gS rfl
        cases s0_9
        exact r0 h' y0 (by omega) a1_9 a2 a3
    cases hp
theorem q1f3_k : hp_chk 49 2 3 [(0, 0, 99), (1, (-9223372036854775808), 9223372036854775807), (2, 0, 28)] [] [(0, .inr (.inr (.inr (1, (0, [(0, 1)]))))), (1, .inr (.inl (0, [(1, 1)]))), (3, .inl (0, [(2, 1)]))] [] [(45570, (0, [(0, 1)]), (0, [(2, 1)]))] [] 2 [] [([], 3, [(0, 0, 99), (1, (-9223372036854775808), 9223372036854775807), (2, 0, 28)], [], [], [.inl ((-1), [])], [])] = true := by decide +kernel
theorem q1f3 {cst : am_K} {strs : List Nat} {Φ : am_Q → Prop} {D : Nat} {M : am_M} {h : am_H} {l : am_L} (c : hp_C cst strs D) (hM : m_P[49]? = some M) (hD : (2 : Int) ≤ (D : Int) + 1) (hy : ly_hy m_tt ly_TH h) (m v z : Int) (b0 : 0 ≤ m) (t0 : m ≤ 99) (b1 : (-9223372036854775808) ≤ v) (t1 : v ≤ 9223372036854775807) (b2 : 0 ≤ z) (t2 : z ≤ 28) (k0 : ly_hv cst h 45570 (m) = some (z)) (l0 : hp_mlj l 0 1 h.length (m)) (l1 : hp_j l 1 (v)) (l3 : hp_i l 3 (z)) (r0 : ∀ (h' : am_H) (y0 : Int32), y0.toInt = (-1) → ly_hy m_tt ly_TH h' → ly_fr cst [] h h' → h.length ≤ h'.length → Φ (some (.int y0), h', 0, 0)) : hp_F cst strs Φ D M 2 l [] h := by
  refine hp_arc c hM q1f3_k hD [m, v, z] rfl hy (hp_Bc (z := m) rfl b0 t0 (hp_Bc (z := v) rfl b1 t1 (hp_Bc (z := z) rfl b2 t2 hp_Bn))) hp_Fn (hp_Kc (zi := (0 + (1 * m + 0))) (zv := (0 + (1 * z + 0))) k0 rfl rfl (by omega) (by omega) hp_Kn) (hp_Lmj (by decide) (z := (0 + (1 * m + 0))) l0 rfl (by omega) (hp_Lj (z := (0 + (1 * v + 0))) l1 rfl (by omega) (hp_Li (z := (0 + (1 * z + 0))) l3 rfl (by omega) hp_Ln))) trivial ?_ ?_
  · intro p_9 hp ys l' st' h' hys a1_9 a2 a3 gZ gL gS
    cases hp
  · intro p_9 hp ys v h' hys a1_9 a2 a3 gZ gS
    rcases List.mem_cons.mp hp with rfl | hp
    · obtain rfl := hp_y0 hys
      cases v with
      | none => cases gS
      | some wz =>
        obtain ⟨y0, t0, s0_9, q0, -⟩ := hp_gSi (z := ((-1) + 0)) gS rfl
        cases s0_9
        exact r0 h' y0 (by omega) a1_9 a2 a3
    cases hp
theorem q1v0_k : hp_chk 126 0 2 [(0, 0, 99), (1, (-9223372036854775808), 9223372036854775807)] [] [(0, .inr (.inr (.inr (1, (0, [(0, 1)]))))), (1, .inr (.inl (0, [(1, 1)])))] [] [] [] 2 [(2, ([], 2, [(0, 0, 99), (1, (-9223372036854775808), 9223372036854775807)], [], [(0, .inr (.inr (.inr (1, (0, [(0, 1)]))))), (1, .inr (.inl (0, [(1, 1)])))], [.inr (.inl (0, [(1, 1)])), .inr (.inr (.inr (1, (0, [(0, 1)]))))], []))] [] = true := by decide +kernel
theorem q1v0 {cst : am_K} {strs : List Nat} {Φ : am_Q → Prop} {D : Nat} {M : am_M} {h : am_H} {l : am_L} (c : hp_C cst strs D) (hM : m_P[126]? = some M) (hD : (2 : Int) ≤ (D : Int) + 1) (hy : ly_hy m_tt ly_TH h) (m v : Int) (b0 : 0 ≤ m) (t0 : m ≤ 99) (b1 : (-9223372036854775808) ≤ v) (t1 : v ≤ 9223372036854775807) (l0 : hp_mlj l 0 1 h.length (m)) (l1 : hp_j l 1 (v)) (e0 : ∀ (l' : am_L) (h' : am_H) (y0 : Int64) (y1 : Nat), y0.toInt = (v) → (y1 : Int) = (m) → 177 + 19 * (y1 + 1) ≤ h'.length → ly_hy m_tt ly_TH h' → ly_fr cst [] h h' → h.length ≤ h'.length → hp_mlj l' 0 1 h'.length (m) → hp_j l' 1 (v) → hp_F cst strs Φ D M 2 l' [.long y0, .ref (16 + (177 + 19 * y1 + 1))] h') : hp_F cst strs Φ D M 0 l [] h := by
  refine hp_arc c hM q1v0_k hD [m, v] rfl hy (hp_Bc (z := m) rfl b0 t0 (hp_Bc (z := v) rfl b1 t1 hp_Bn)) hp_Fn hp_Kn (hp_Lmj (by decide) (z := (0 + (1 * m + 0))) l0 rfl (by omega) (hp_Lj (z := (0 + (1 * v + 0))) l1 rfl (by omega) hp_Ln)) trivial ?_ ?_
  · intro p_9 hp ys l' st' h' hys a1_9 a2 a3 gZ gL gS
    rcases List.mem_cons.mp hp with rfl | hp
    · obtain rfl := hp_y0 hys
      obtain ⟨y0, t0, rfl, q0, g0⟩ := hp_gSj (z := (0 + (1 * v + 0))) gS rfl
      obtain ⟨y1, t1, rfl, q1_9, p1_9, g1⟩ := hp_gSmj (z := (0 + (1 * m + 0))) g0 rfl
      cases hp_gSn g1
      exact e0 l' h' y0 y1 (by omega) (by omega) p1_9 a1_9 a2 a3 (hp_gLmj (z := (0 + (1 * m + 0))) gL (List.mem_of_getElem? (i := 0) rfl) rfl (by omega)) (hp_gLj (z := (0 + (1 * v + 0))) gL (List.mem_of_getElem? (i := 1) rfl) rfl (by omega))
    cases hp
  · intro p_9 hp ys v h' hys a1_9 a2 a3 gZ gS
    cases hp
theorem q1v1_k : hp_chk 126 5 2 [(0, 0, 99), (1, (-9223372036854775808), 9223372036854775807)] [] [(0, .inr (.inr (.inr (1, (0, [(0, 1)]))))), (1, .inr (.inl (0, [(1, 1)])))] [.inl ((-1), [])] [] [] 2 [] [([], 2, [(0, 0, 99), (1, (-9223372036854775808), 9223372036854775807)], [], [], [.inl (0, [])], [])] = true := by decide +kernel
theorem q1v1 {cst : am_K} {strs : List Nat} {Φ : am_Q → Prop} {D : Nat} {M : am_M} {h : am_H} {l : am_L} (c : hp_C cst strs D) (hM : m_P[126]? = some M) (hD : (2 : Int) ≤ (D : Int) + 1) (hy : ly_hy m_tt ly_TH h) (m v : Int) (x0 : Int32) (hx0 : x0.toInt = (-1)) (b0 : 0 ≤ m) (t0 : m ≤ 99) (b1 : (-9223372036854775808) ≤ v) (t1 : v ≤ 9223372036854775807) (l0 : hp_mlj l 0 1 h.length (m)) (l1 : hp_j l 1 (v)) (r0 : ∀ (h' : am_H) (y0 : Int32), y0.toInt = 0 → ly_hy m_tt ly_TH h' → ly_fr cst [] h h' → h.length ≤ h'.length → Φ (some (.int y0), h', 0, 0)) : hp_F cst strs Φ D M 5 l [.int x0] h := by
  refine hp_arc c hM q1v1_k hD [m, v] rfl hy (hp_Bc (z := m) rfl b0 t0 (hp_Bc (z := v) rfl b1 t1 hp_Bn)) hp_Fn hp_Kn (hp_Lmj (by decide) (z := (0 + (1 * m + 0))) l0 rfl (by omega) (hp_Lj (z := (0 + (1 * v + 0))) l1 rfl (by omega) hp_Ln)) (hp_Si (z := ((-1) + 0)) rfl (by omega) trivial) ?_ ?_
  · intro p_9 hp ys l' st' h' hys a1_9 a2 a3 gZ gL gS
    cases hp
  · intro p_9 hp ys v h' hys a1_9 a2 a3 gZ gS
    rcases List.mem_cons.mp hp with rfl | hp
    · obtain rfl := hp_y0 hys
      cases v with
      | none => cases gS
      | some wz =>
        obtain ⟨y0, t0, s0_9, q0, -⟩ := hp_gSi (z := (0 + 0)) gS rfl
        cases s0_9
        exact r0 h' y0 (by omega) a1_9 a2 a3
    cases hp
theorem q1v2_k : hp_chk 126 5 4 [(0, 0, 99), (1, (-9223372036854775808), 9223372036854775807), (2, 0, 27), (3, 0, 9999)] [] [(0, .inr (.inr (.inr (1, (0, [(0, 1)]))))), (1, .inr (.inl (0, [(1, 1)])))] [.inl (0, [(2, 1)])] [(46080, (0, [(0, 32), (2, 1)]), (0, [(3, 1)]))] [] 2 [] [([], 4, [(0, 0, 99), (1, (-9223372036854775808), 9223372036854775807), (2, 0, 27), (3, 0, 9999)], [], [], [.inl (0, [(3, 1)])], [])] = true := by decide +kernel
theorem q1v2 {cst : am_K} {strs : List Nat} {Φ : am_Q → Prop} {D : Nat} {M : am_M} {h : am_H} {l : am_L} (c : hp_C cst strs D) (hM : m_P[126]? = some M) (hD : (2 : Int) ≤ (D : Int) + 1) (hy : ly_hy m_tt ly_TH h) (m v i u : Int) (x0 : Int32) (hx0 : x0.toInt = (i)) (b0 : 0 ≤ m) (t0 : m ≤ 99) (b1 : (-9223372036854775808) ≤ v) (t1 : v ≤ 9223372036854775807) (b2 : 0 ≤ i) (t2 : i ≤ 27) (b3 : 0 ≤ u) (t3 : u ≤ 9999) (k0 : ly_hv cst h 46080 (32 * m + i) = some (u)) (l0 : hp_mlj l 0 1 h.length (m)) (l1 : hp_j l 1 (v)) (r0 : ∀ (h' : am_H) (y0 : Int32), y0.toInt = (u) → ly_hy m_tt ly_TH h' → ly_fr cst [] h h' → h.length ≤ h'.length → Φ (some (.int y0), h', 0, 0)) : hp_F cst strs Φ D M 5 l [.int x0] h := by
  refine hp_arc c hM q1v2_k hD [m, v, i, u] rfl hy (hp_Bc (z := m) rfl b0 t0 (hp_Bc (z := v) rfl b1 t1 (hp_Bc (z := i) rfl b2 t2 (hp_Bc (z := u) rfl b3 t3 hp_Bn)))) hp_Fn (hp_Kc (zi := (0 + (32 * m + (1 * i + 0)))) (zv := (0 + (1 * u + 0))) k0 rfl rfl (by omega) (by omega) hp_Kn) (hp_Lmj (by decide) (z := (0 + (1 * m + 0))) l0 rfl (by omega) (hp_Lj (z := (0 + (1 * v + 0))) l1 rfl (by omega) hp_Ln)) (hp_Si (z := (0 + (1 * i + 0))) rfl (by omega) trivial) ?_ ?_
  · intro p_9 hp ys l' st' h' hys a1_9 a2 a3 gZ gL gS
    cases hp
  · intro p_9 hp ys v h' hys a1_9 a2 a3 gZ gS
    rcases List.mem_cons.mp hp with rfl | hp
    · obtain rfl := hp_y0 hys
      cases v with
      | none => cases gS
      | some wz =>
        obtain ⟨y0, t0, s0_9, q0, -⟩ := hp_gSi (z := (0 + (1 * u + 0))) gS rfl
        cases s0_9
        exact r0 h' y0 (by omega) a1_9 a2 a3
    cases hp
theorem q4c0_k : hp_chk 60 0 1 [(0, 0, 99)] [] [(0, .inr (.inr (.inr (4, (0, [(0, 1)])))))] [] [] [] 2 [(2, ([], 1, [(0, 0, 99)], [], [(0, .inr (.inr (.inr (4, (0, [(0, 1)])))))], [.inl (0, []), .inr (.inr (.inr (4, (0, [(0, 1)]))))], []))] [] = true := by decide +kernel
theorem q4c0 {cst : am_K} {strs : List Nat} {Φ : am_Q → Prop} {D : Nat} {M : am_M} {h : am_H} {l : am_L} (c : hp_C cst strs D) (hM : m_P[60]? = some M) (hD : (2 : Int) ≤ (D : Int) + 1) (hy : ly_hy m_tt ly_TH h) (m : Int) (b0 : 0 ≤ m) (t0 : m ≤ 99) (l0 : hp_mlj l 0 4 h.length (m)) (e0 : ∀ (l' : am_L) (h' : am_H) (y0 : Int32) (y1 : Nat), y0.toInt = 0 → (y1 : Int) = (m) → 177 + 19 * (y1 + 1) ≤ h'.length → ly_hy m_tt ly_TH h' → ly_fr cst [] h h' → h.length ≤ h'.length → hp_mlj l' 0 4 h'.length (m) → hp_F cst strs Φ D M 2 l' [.int y0, .ref (16 + (177 + 19 * y1 + 4))] h') : hp_F cst strs Φ D M 0 l [] h := by
  refine hp_arc c hM q4c0_k hD [m] rfl hy (hp_Bc (z := m) rfl b0 t0 hp_Bn) hp_Fn hp_Kn (hp_Lmj (by decide) (z := (0 + (1 * m + 0))) l0 rfl (by omega) hp_Ln) trivial ?_ ?_
  · intro p_9 hp ys l' st' h' hys a1_9 a2 a3 gZ gL gS
    rcases List.mem_cons.mp hp with rfl | hp
    · obtain rfl := hp_y0 hys
      obtain ⟨y0, t0, rfl, q0, g0⟩ := hp_gSi (z := (0 + 0)) gS rfl
      obtain ⟨y1, t1_9, rfl, q1_9, p1_9, g1⟩ := hp_gSmj (z := (0 + (1 * m + 0))) g0 rfl
      cases hp_gSn g1
      exact e0 l' h' y0 y1 (by omega) (by omega) p1_9 a1_9 a2 a3 (hp_gLmj (z := (0 + (1 * m + 0))) gL (List.mem_of_getElem? (i := 0) rfl) rfl (by omega))
    cases hp
  · intro p_9 hp ys v_9 h' hys a1_9 a2 a3 gZ gS
    cases hp
theorem q4c1_k : hp_chk 60 5 1 [(0, 0, 99)] [] [(0, .inr (.inr (.inr (4, (0, [(0, 1)])))))] [] [] [] 2 [(7, ([], 1, [(0, 0, 99)], [], [(0, .inr (.inr (.inr (4, (0, [(0, 1)])))))], [.inl (0, []), .inr (.inr (.inr (4, (0, [(0, 1)]))))], []))] [] = true := by decide +kernel
theorem q4c1 {cst : am_K} {strs : List Nat} {Φ : am_Q → Prop} {D : Nat} {M : am_M} {h : am_H} {l : am_L} (c : hp_C cst strs D) (hM : m_P[60]? = some M) (hD : (2 : Int) ≤ (D : Int) + 1) (hy : ly_hy m_tt ly_TH h) (m : Int) (b0 : 0 ≤ m) (t0 : m ≤ 99) (l0 : hp_mlj l 0 4 h.length (m)) (e0 : ∀ (l' : am_L) (h' : am_H) (y0 : Int32) (y1 : Nat), y0.toInt = 0 → (y1 : Int) = (m) → 177 + 19 * (y1 + 1) ≤ h'.length → ly_hy m_tt ly_TH h' → ly_fr cst [] h h' → h.length ≤ h'.length → hp_mlj l' 0 4 h'.length (m) → hp_F cst strs Φ D M 7 l' [.int y0, .ref (16 + (177 + 19 * y1 + 4))] h') : hp_F cst strs Φ D M 5 l [] h := by
  refine hp_arc c hM q4c1_k hD [m] rfl hy (hp_Bc (z := m) rfl b0 t0 hp_Bn) hp_Fn hp_Kn (hp_Lmj (by decide) (z := (0 + (1 * m + 0))) l0 rfl (by omega) hp_Ln) trivial ?_ ?_
  · intro p_9 hp ys l' st' h' hys a1_9 a2 a3 gZ gL gS
    rcases List.mem_cons.mp hp with rfl | hp
    · obtain rfl := hp_y0 hys
      obtain ⟨y0, t0, rfl, q0, g0⟩ := hp_gSi (z := (0 + 0)) gS rfl
      obtain ⟨y1, t1_9, rfl, q1_9, p1_9, g1⟩ := hp_gSmj (z := (0 + (1 * m + 0))) g0 rfl
      cases hp_gSn g1
      exact e0 l' h' y0 y1 (by omega) (by omega) p1_9 a1_9 a2 a3 (hp_gLmj (z := (0 + (1 * m + 0))) gL (List.mem_of_getElem? (i := 0) rfl) rfl (by omega))
    cases hp
  · intro p_9 hp ys v_9 h' hys a1_9 a2 a3 gZ gS
    cases hp
theorem q4c2_k : hp_chk 60 10 1 [(0, 0, 99)] [] [(0, .inr (.inr (.inr (4, (0, [(0, 1)])))))] [] [] [] 2 [] [([], 1, [(0, 0, 99)], [], [], [], [])] = true := by decide +kernel
theorem q4c2 {cst : am_K} {strs : List Nat} {Φ : am_Q → Prop} {D : Nat} {M : am_M} {h : am_H} {l : am_L} (c : hp_C cst strs D) (hM : m_P[60]? = some M) (hD : (2 : Int) ≤ (D : Int) + 1) (hy : ly_hy m_tt ly_TH h) (m : Int) (b0 : 0 ≤ m) (t0 : m ≤ 99) (l0 : hp_mlj l 0 4 h.length (m)) (r0 : ∀ (h' : am_H), ly_hy m_tt ly_TH h' → ly_fr cst [] h h' → h.length ≤ h'.length → Φ (none, h', 0, 0)) : hp_F cst strs Φ D M 10 l [] h := by
  refine hp_arc c hM q4c2_k hD [m] rfl hy (hp_Bc (z := m) rfl b0 t0 hp_Bn) hp_Fn hp_Kn (hp_Lmj (by decide) (z := (0 + (1 * m + 0))) l0 rfl (by omega) hp_Ln) trivial ?_ ?_
  · intro p_9 hp ys l' st' h' hys a1_9 a2 a3 gZ gL gS
    cases hp
  · intro p_9 hp ys v_9 h' hys a1_9 a2 a3 gZ gS
    rcases List.mem_cons.mp hp with rfl | hp
    · obtain rfl := hp_y0 hys
      have sv := hp_gSn gS
      cases v_9 with
      | some wz => cases sv
      | none =>
        exact r0 h' a1_9 a2 a3
    cases hp
theorem q4a0_k : hp_chk 122 0 4 [(0, 0, 99), (1, (-9223372036854775808), 9223372036854775807), (2, 0, 9999), (3, 0, 19)] [] [(0, .inr (.inr (.inr (4, (0, [(0, 1)]))))), (1, .inr (.inl (0, [(1, 1)]))), (3, .inl (0, [(2, 1)]))] [] [(46338, (0, [(0, 1)]), (0, [(3, 1)]))] [] 2 [(23, ([], 4, [(0, 0, 99), (1, (-9223372036854775808), 9223372036854775807), (2, 0, 9999), (3, 0, 19)], [], [(0, .inr (.inr (.inr (4, (0, [(0, 1)]))))), (1, .inr (.inl (0, [(1, 1)]))), (3, .inl (0, [(2, 1)]))], [.inr (.inl (0, [(1, 1)])), .inl (0, [(3, 1)]), .inr (.inr (.inr (5, (0, [(0, 1)]))))], [(46338, (0, [(0, 1)]), (0, [(3, 1)]))]))] [] = true := by decide +kernel
theorem q4a0 {cst : am_K} {strs : List Nat} {Φ : am_Q → Prop} {D : Nat} {M : am_M} {h : am_H} {l : am_L} (c : hp_C cst strs D) (hM : m_P[122]? = some M) (hD : (2 : Int) ≤ (D : Int) + 1) (hy : ly_hy m_tt ly_TH h) (m v w n : Int) (b0 : 0 ≤ m) (t0 : m ≤ 99) (b1 : (-9223372036854775808) ≤ v) (t1 : v ≤ 9223372036854775807) (b2 : 0 ≤ w) (t2 : w ≤ 9999) (b3 : 0 ≤ n) (t3 : n ≤ 19) (k0 : ly_hv cst h 46338 (m) = some (n)) (l0 : hp_mlj l 0 4 h.length (m)) (l1 : hp_j l 1 (v)) (l3 : hp_i l 3 (w)) (e0 : ∀ (l' : am_L) (h' : am_H) (y0 : Int64) (y1 : Int32) (y2 : Nat), y0.toInt = (v) → y1.toInt = (n) → (y2 : Int) = (m) → 177 + 19 * (y2 + 1) ≤ h'.length → ly_hy m_tt ly_TH h' → ly_fr cst [] h h' → h.length ≤ h'.length → ly_hv cst h' 46338 (m) = some (n) → hp_mlj l' 0 4 h'.length (m) → hp_j l' 1 (v) → hp_i l' 3 (w) → hp_F cst strs Φ D M 23 l' [.long y0, .int y1, .ref (16 + (177 + 19 * y2 + 5))] h') : hp_F cst strs Φ D M 0 l [] h := by
  refine hp_arc c hM q4a0_k hD [m, v, w, n] rfl hy (hp_Bc (z := m) rfl b0 t0 (hp_Bc (z := v) rfl b1 t1 (hp_Bc (z := w) rfl b2 t2 (hp_Bc (z := n) rfl b3 t3 hp_Bn)))) hp_Fn (hp_Kc (zi := (0 + (1 * m + 0))) (zv := (0 + (1 * n + 0))) k0 rfl rfl (by omega) (by omega) hp_Kn) (hp_Lmj (by decide) (z := (0 + (1 * m + 0))) l0 rfl (by omega) (hp_Lj (z := (0 + (1 * v + 0))) l1 rfl (by omega) (hp_Li (z := (0 + (1 * w + 0))) l3 rfl (by omega) hp_Ln))) trivial ?_ ?_
  · intro p_9 hp ys l' st' h' hys a1_9 a2 a3 gZ gL gS
    rcases List.mem_cons.mp hp with rfl | hp
    · obtain rfl := hp_y0 hys
      obtain ⟨y0, t0, rfl, q0, g0⟩ := hp_gSj (z := (0 + (1 * v + 0))) gS rfl
      obtain ⟨y1, t1, rfl, q1_9, g1⟩ := hp_gSi (z := (0 + (1 * n + 0))) g0 rfl
      obtain ⟨y2, t2, rfl, q2_9, p2_9, g2⟩ := hp_gSmj (z := (0 + (1 * m + 0))) g1 rfl
      cases hp_gSn g2
      exact e0 l' h' y0 y1 y2 (by omega) (by omega) (by omega) p2_9 a1_9 a2 a3 (hp_gK (zi := (0 + (1 * m + 0))) (zv := (0 + (1 * n + 0))) gZ.2.2.2 (List.mem_of_getElem? (i := 0) rfl) rfl rfl (by omega) (by omega)) (hp_gLmj (z := (0 + (1 * m + 0))) gL (List.mem_of_getElem? (i := 0) rfl) rfl (by omega)) (hp_gLj (z := (0 + (1 * v + 0))) gL (List.mem_of_getElem? (i := 1) rfl) rfl (by omega)) (hp_gLi (z := (0 + (1 * w + 0))) gL (List.mem_of_getElem? (i := 2) rfl) rfl (by omega))
    cases hp
  · intro p_9 hp ys v h' hys a1_9 a2 a3 gZ gS
    cases hp
theorem q4a1_k : hp_chk 122 24 4 [(0, 0, 99), (1, (-9223372036854775808), 9223372036854775807), (2, 0, 9999), (3, 0, 19)] [] [(0, .inr (.inr (.inr (4, (0, [(0, 1)]))))), (1, .inr (.inl (0, [(1, 1)]))), (3, .inl (0, [(2, 1)]))] [] [(46338, (0, [(0, 1)]), (0, [(3, 1)]))] [] 2 [(33, ([], 4, [(0, 0, 99), (1, (-9223372036854775808), 9223372036854775807), (2, 0, 9999), (3, 0, 19)], [], [(0, .inr (.inr (.inr (4, (0, [(0, 1)]))))), (1, .inr (.inl (0, [(1, 1)]))), (3, .inl (0, [(2, 1)]))], [.inl (0, [(2, 1)]), .inl (0, [(3, 1)]), .inr (.inr (.inr (6, (0, [(0, 1)]))))], [(46338, (0, [(0, 1)]), (0, [(3, 1)]))]))] [] = true := by decide +kernel
theorem q4a1 {cst : am_K} {strs : List Nat} {Φ : am_Q → Prop} {D : Nat} {M : am_M} {h : am_H} {l : am_L} (c : hp_C cst strs D) (hM : m_P[122]? = some M) (hD : (2 : Int) ≤ (D : Int) + 1) (hy : ly_hy m_tt ly_TH h) (m v w n : Int) (b0 : 0 ≤ m) (t0 : m ≤ 99) (b1 : (-9223372036854775808) ≤ v) (t1 : v ≤ 9223372036854775807) (b2 : 0 ≤ w) (t2 : w ≤ 9999) (b3 : 0 ≤ n) (t3 : n ≤ 19) (k0 : ly_hv cst h 46338 (m) = some (n)) (l0 : hp_mlj l 0 4 h.length (m)) (l1 : hp_j l 1 (v)) (l3 : hp_i l 3 (w)) (e0 : ∀ (l' : am_L) (h' : am_H) (y0 : Int32) (y1 : Int32) (y2 : Nat), y0.toInt = (w) → y1.toInt = (n) → (y2 : Int) = (m) → 177 + 19 * (y2 + 1) ≤ h'.length → ly_hy m_tt ly_TH h' → ly_fr cst [] h h' → h.length ≤ h'.length → ly_hv cst h' 46338 (m) = some (n) → hp_mlj l' 0 4 h'.length (m) → hp_j l' 1 (v) → hp_i l' 3 (w) → hp_F cst strs Φ D M 33 l' [.int y0, .int y1, .ref (16 + (177 + 19 * y2 + 6))] h') : hp_F cst strs Φ D M 24 l [] h := by
  refine hp_arc c hM q4a1_k hD [m, v, w, n] rfl hy (hp_Bc (z := m) rfl b0 t0 (hp_Bc (z := v) rfl b1 t1 (hp_Bc (z := w) rfl b2 t2 (hp_Bc (z := n) rfl b3 t3 hp_Bn)))) hp_Fn (hp_Kc (zi := (0 + (1 * m + 0))) (zv := (0 + (1 * n + 0))) k0 rfl rfl (by omega) (by omega) hp_Kn) (hp_Lmj (by decide) (z := (0 + (1 * m + 0))) l0 rfl (by omega) (hp_Lj (z := (0 + (1 * v + 0))) l1 rfl (by omega) (hp_Li (z := (0 + (1 * w + 0))) l3 rfl (by omega) hp_Ln))) trivial ?_ ?_
  · intro p_9 hp ys l' st' h' hys a1_9 a2 a3 gZ gL gS
    rcases List.mem_cons.mp hp with rfl | hp
    · obtain rfl := hp_y0 hys
      obtain ⟨y0, t0, rfl, q0, g0⟩ := hp_gSi (z := (0 + (1 * w + 0))) gS rfl
      obtain ⟨y1, t1, rfl, q1_9, g1⟩ := hp_gSi (z := (0 + (1 * n + 0))) g0 rfl
      obtain ⟨y2, t2, rfl, q2_9, p2_9, g2⟩ := hp_gSmj (z := (0 + (1 * m + 0))) g1 rfl
      cases hp_gSn g2
      exact e0 l' h' y0 y1 y2 (by omega) (by omega) (by omega) p2_9 a1_9 a2 a3 (hp_gK (zi := (0 + (1 * m + 0))) (zv := (0 + (1 * n + 0))) gZ.2.2.2 (List.mem_of_getElem? (i := 0) rfl) rfl rfl (by omega) (by omega)) (hp_gLmj (z := (0 + (1 * m + 0))) gL (List.mem_of_getElem? (i := 0) rfl) rfl (by omega)) (hp_gLj (z := (0 + (1 * v + 0))) gL (List.mem_of_getElem? (i := 1) rfl) rfl (by omega)) (hp_gLi (z := (0 + (1 * w + 0))) gL (List.mem_of_getElem? (i := 2) rfl) rfl (by omega))
    cases hp
  · intro p_9 hp ys v h' hys a1_9 a2 a3 gZ gS
    cases hp
theorem q4a2_k : hp_chk 122 34 2 [(0, 0, 99), (1, 0, 19)] [] [(0, .inr (.inr (.inr (4, (0, [(0, 1)])))))] [] [(46338, (0, [(0, 1)]), (0, [(1, 1)]))] [] 2 [(41, ([], 2, [(0, 0, 99), (1, 0, 19)], [], [(0, .inr (.inr (.inr (4, (0, [(0, 1)])))))], [.inl (1, [(1, 1)]), .inr (.inr (.inr (4, (0, [(0, 1)]))))], []))] [] = true := by decide +kernel
theorem q4a2 {cst : am_K} {strs : List Nat} {Φ : am_Q → Prop} {D : Nat} {M : am_M} {h : am_H} {l : am_L} (c : hp_C cst strs D) (hM : m_P[122]? = some M) (hD : (2 : Int) ≤ (D : Int) + 1) (hy : ly_hy m_tt ly_TH h) (m n : Int) (b0 : 0 ≤ m) (t0 : m ≤ 99) (b1 : 0 ≤ n) (t1 : n ≤ 19) (k0 : ly_hv cst h 46338 (m) = some (n)) (l0 : hp_mlj l 0 4 h.length (m)) (e0 : ∀ (l' : am_L) (h' : am_H) (y0 : Int32) (y1 : Nat), y0.toInt = (n + 1) → (y1 : Int) = (m) → 177 + 19 * (y1 + 1) ≤ h'.length → ly_hy m_tt ly_TH h' → ly_fr cst [] h h' → h.length ≤ h'.length → hp_mlj l' 0 4 h'.length (m) → hp_F cst strs Φ D M 41 l' [.int y0, .ref (16 + (177 + 19 * y1 + 4))] h') : hp_F cst strs Φ D M 34 l [] h := by
  refine hp_arc c hM q4a2_k hD [m, n] rfl hy (hp_Bc (z := m) rfl b0 t0 (hp_Bc (z := n) rfl b1 t1 hp_Bn)) hp_Fn (hp_Kc (zi := (0 + (1 * m + 0))) (zv := (0 + (1 * n + 0))) k0 rfl rfl (by omega) (by omega) hp_Kn) (hp_Lmj (by decide) (z := (0 + (1 * m + 0))) l0 rfl (by omega) hp_Ln) trivial ?_ ?_
  · intro p_9 hp ys l' st' h' hys a1_9 a2 a3 gZ gL gS
    rcases List.mem_cons.mp hp with rfl | hp
    · obtain rfl := hp_y0 hys
      obtain ⟨y0, t0, rfl, q0, g0⟩ := hp_gSi (z := (1 + (1 * n + 0))) gS rfl
      obtain ⟨y1, t1, rfl, q1_9, p1_9, g1⟩ := hp_gSmj (z := (0 + (1 * m + 0))) g0 rfl
      cases hp_gSn g1
      exact e0 l' h' y0 y1 (by omega) (by omega) p1_9 a1_9 a2 a3 (hp_gLmj (z := (0 + (1 * m + 0))) gL (List.mem_of_getElem? (i := 0) rfl) rfl (by omega))
    cases hp
  · intro p_9 hp ys v_9 h' hys a1_9 a2 a3 gZ gS
    cases hp
theorem q4a3_k : hp_chk 122 44 1 [(0, 0, 99)] [] [(0, .inr (.inr (.inr (4, (0, [(0, 1)])))))] [] [] [] 2 [] [([], 1, [(0, 0, 99)], [], [], [.inl (1, [])], [])] = true := by decide +kernel
theorem q4a3 {cst : am_K} {strs : List Nat} {Φ : am_Q → Prop} {D : Nat} {M : am_M} {h : am_H} {l : am_L} (c : hp_C cst strs D) (hM : m_P[122]? = some M) (hD : (2 : Int) ≤ (D : Int) + 1) (hy : ly_hy m_tt ly_TH h) (m : Int) (b0 : 0 ≤ m) (t0 : m ≤ 99) (l0 : hp_mlj l 0 4 h.length (m)) (r0 : ∀ (h' : am_H) (y0 : Int32), y0.toInt = 1 → ly_hy m_tt ly_TH h' → ly_fr cst [] h h' → h.length ≤ h'.length → Φ (some (.int y0), h', 0, 0)) : hp_F cst strs Φ D M 44 l [] h := by
  refine hp_arc c hM q4a3_k hD [m] rfl hy (hp_Bc (z := m) rfl b0 t0 hp_Bn) hp_Fn hp_Kn (hp_Lmj (by decide) (z := (0 + (1 * m + 0))) l0 rfl (by omega) hp_Ln) trivial ?_ ?_
  · intro p_9 hp ys l' st' h' hys a1_9 a2 a3 gZ gL gS
    cases hp
  · intro p_9 hp ys v_9 h' hys a1_9 a2 a3 gZ gS
    rcases List.mem_cons.mp hp with rfl | hp
    · obtain rfl := hp_y0 hys
      cases v_9 with
      | none => cases gS
      | some wz =>
        obtain ⟨y0, t0, s0_9, q0, -⟩ := hp_gSi (z := (1 + 0)) gS rfl
        cases s0_9
        exact r0 h' y0 (by omega) a1_9 a2 a3
    cases hp
theorem q4f0_k : hp_chk 49 0 2 [(0, 0, 99), (1, (-9223372036854775808), 9223372036854775807)] [] [(0, .inr (.inr (.inr (4, (0, [(0, 1)]))))), (1, .inr (.inl (0, [(1, 1)])))] [] [] [] 2 [(2, ([], 2, [(0, 0, 99), (1, (-9223372036854775808), 9223372036854775807)], [], [(0, .inr (.inr (.inr (4, (0, [(0, 1)]))))), (1, .inr (.inl (0, [(1, 1)]))), (3, .inl (0, []))], [], []))] [] = true := by decide +kernel
theorem q4f0 {cst : am_K} {strs : List Nat} {Φ : am_Q → Prop} {D : Nat} {M : am_M} {h : am_H} {l : am_L} (c : hp_C cst strs D) (hM : m_P[49]? = some M) (hD : (2 : Int) ≤ (D : Int) + 1) (hy : ly_hy m_tt ly_TH h) (m v : Int) (b0 : 0 ≤ m) (t0 : m ≤ 99) (b1 : (-9223372036854775808) ≤ v) (t1 : v ≤ 9223372036854775807) (l0 : hp_mlj l 0 4 h.length (m)) (l1 : hp_j l 1 (v)) (e0 : ∀ (l' : am_L) (h' : am_H), ly_hy m_tt ly_TH h' → ly_fr cst [] h h' → h.length ≤ h'.length → hp_mlj l' 0 4 h'.length (m) → hp_j l' 1 (v) → hp_i l' 3 0 → hp_F cst strs Φ D M 2 l' [] h') : hp_F cst strs Φ D M 0 l [] h := by
  refine hp_arc c hM q4f0_k hD [m, v] rfl hy (hp_Bc (z := m) rfl b0 t0 (hp_Bc (z := v) rfl b1 t1 hp_Bn)) hp_Fn hp_Kn (hp_Lmj (by decide) (z := (0 + (1 * m + 0))) l0 rfl (by omega) (hp_Lj (z := (0 + (1 * v + 0))) l1 rfl (by omega) hp_Ln)) trivial ?_ ?_
  · intro p_9 hp ys l' st' h' hys a1_9 a2 a3 gZ gL gS
    rcases List.mem_cons.mp hp with rfl | hp
    · obtain rfl := hp_y0 hys
      cases hp_gSn gS
      exact e0 l' h' a1_9 a2 a3 (hp_gLmj (z := (0 + (1 * m + 0))) gL (List.mem_of_getElem? (i := 0) rfl) rfl (by omega)) (hp_gLj (z := (0 + (1 * v + 0))) gL (List.mem_of_getElem? (i := 1) rfl) rfl (by omega)) (hp_gLi (z := (0 + 0)) gL (List.mem_of_getElem? (i := 2) rfl) rfl (by omega))
    cases hp
  · intro p_9 hp ys v h' hys a1_9 a2 a3 gZ gS
    cases hp
theorem q4f1_k : hp_chk 49 2 5 [(0, 0, 99), (1, (-9223372036854775808), 9223372036854775807), (2, 0, 20), (3, 0, 19), (4, (-9223372036854775808), 9223372036854775807)] [((-1), [(2, 1), (3, (-1))])] [(0, .inr (.inr (.inr (4, (0, [(0, 1)]))))), (1, .inr (.inl (0, [(1, 1)]))), (3, .inl (0, [(3, 1)]))] [] [(46338, (0, [(0, 1)]), (0, [(2, 1)])), (46592, (0, [(0, 32), (3, 1)]), (0, [(4, 1)])), (61000, (0, [(1, (-1)), (4, 1)]), (1, []))] [] 2 [(2, ([], 5, [(0, 0, 99), (1, (-9223372036854775808), 9223372036854775807), (2, 0, 20), (3, 0, 19), (4, (-9223372036854775808), 9223372036854775807)], [], [(0, .inr (.inr (.inr (4, (0, [(0, 1)]))))), (1, .inr (.inl (0, [(1, 1)]))), (3, .inl (1, [(3, 1)]))], [], []))] [] = true := by decide +kernel
theorem q4f1 {cst : am_K} {strs : List Nat} {Φ : am_Q → Prop} {D : Nat} {M : am_M} {h : am_H} {l : am_L} (c : hp_C cst strs D) (hM : m_P[49]? = some M) (hD : (2 : Int) ≤ (D : Int) + 1) (hy : ly_hy m_tt ly_TH h) (m v z i x : Int) (b0 : 0 ≤ m) (t0 : m ≤ 99) (b1 : (-9223372036854775808) ≤ v) (t1 : v ≤ 9223372036854775807) (b2 : 0 ≤ z) (t2 : z ≤ 20) (b3 : 0 ≤ i) (t3 : i ≤ 19) (b4 : (-9223372036854775808) ≤ x) (t4 : x ≤ 9223372036854775807) (f0 : 0 ≤ (z - i - 1)) (k0 : ly_hv cst h 46338 (m) = some (z)) (k1 : ly_hv cst h 46592 (32 * m + i) = some (x)) (k2 : ly_hv cst h 61000 (x - v) = some 1) (l0 : hp_mlj l 0 4 h.length (m)) (l1 : hp_j l 1 (v)) (l3 : hp_i l 3 (i)) (e0 : ∀ (l' : am_L) (h' : am_H), ly_hy m_tt ly_TH h' → ly_fr cst [] h h' → h.length ≤ h'.length → hp_mlj l' 0 4 h'.length (m) → hp_j l' 1 (v) → hp_i l' 3 (i + 1) → hp_F cst strs Φ D M 2 l' [] h') : hp_F cst strs Φ D M 2 l [] h := by
  refine hp_arc c hM q4f1_k hD [m, v, z, i, x] rfl hy (hp_Bc (z := m) rfl b0 t0 (hp_Bc (z := v) rfl b1 t1 (hp_Bc (z := z) rfl b2 t2 (hp_Bc (z := i) rfl b3 t3 (hp_Bc (z := x) rfl b4 t4 hp_Bn))))) (hp_Fc (z := ((-1) + (1 * z + ((-1) * i + 0)))) rfl (by omega) hp_Fn) (hp_Kc (zi := (0 + (1 * m + 0))) (zv := (0 + (1 * z + 0))) k0 rfl rfl (by omega) (by omega) (hp_Kc (zi := (0 + (32 * m + (1 * i + 0)))) (zv := (0 + (1 * x + 0))) k1 rfl rfl (by omega) (by omega) (hp_Kc (zi := (0 + ((-1) * v + (1 * x + 0)))) (zv := (1 + 0)) k2 rfl rfl (by omega) (by omega) hp_Kn))) (hp_Lmj (by decide) (z := (0 + (1 * m + 0))) l0 rfl (by omega) (hp_Lj (z := (0 + (1 * v + 0))) l1 rfl (by omega) (hp_Li (z := (0 + (1 * i + 0))) l3 rfl (by omega) hp_Ln))) trivial ?_ ?_
  · intro p_9 hp ys l' st' h' hys a1_9 a2 a3 gZ gL gS
    rcases List.mem_cons.mp hp with rfl | hp
    · obtain rfl := hp_y0 hys
      cases hp_gSn gS
      exact e0 l' h' a1_9 a2 a3 (hp_gLmj (z := (0 + (1 * m + 0))) gL (List.mem_of_getElem? (i := 0) rfl) rfl (by omega)) (hp_gLj (z := (0 + (1 * v + 0))) gL (List.mem_of_getElem? (i := 1) rfl) rfl (by omega)) (hp_gLi (z := (1 + (1 * i + 0))) gL (List.mem_of_getElem? (i := 2) rfl) rfl (by omega))
    cases hp
  · intro p_9 hp ys v h' hys a1_9 a2 a3 gZ gS
    cases hp
theorem q4f2_k : hp_chk 49 2 4 [(0, 0, 99), (1, (-9223372036854775808), 9223372036854775807), (2, 0, 20), (3, 0, 19)] [((-1), [(2, 1), (3, (-1))])] [(0, .inr (.inr (.inr (4, (0, [(0, 1)]))))), (1, .inr (.inl (0, [(1, 1)]))), (3, .inl (0, [(3, 1)]))] [] [(46338, (0, [(0, 1)]), (0, [(2, 1)])), (46592, (0, [(0, 32), (3, 1)]), (0, [(1, 1)]))] [] 2 [] [([], 4, [(0, 0, 99), (1, (-9223372036854775808), 9223372036854775807), (2, 0, 20), (3, 0, 19)], [], [], [.inl (0, [(3, 1)])], [])] = true := by decide +kernel
theorem q4f2 {cst : am_K} {strs : List Nat} {Φ : am_Q → Prop} {D : Nat} {M : am_M} {h : am_H} {l : am_L} (c : hp_C cst strs D) (hM : m_P[49]? = some M) (hD : (2 : Int) ≤ (D : Int) + 1) (hy : ly_hy m_tt ly_TH h) (m v z i : Int) (b0 : 0 ≤ m) (t0 : m ≤ 99) (b1 : (-9223372036854775808) ≤ v) (t1 : v ≤ 9223372036854775807) (b2 : 0 ≤ z) (t2 : z ≤ 20) (b3 : 0 ≤ i) (t3 : i ≤ 19) (f0 : 0 ≤ (z - i - 1)) (k0 : ly_hv cst h 46338 (m) = some (z)) (k1 : ly_hv cst h 46592 (32 * m + i) = some (v)) (l0 : hp_mlj l 0 4 h.length (m)) (l1 : hp_j l 1 (v)) (l3 : hp_i l 3 (i)) (r0 : ∀ (h' : am_H) (y0 : Int32), y0.toInt = (i) → ly_hy m_tt ly_TH h' → ly_fr cst [] h h' → h.length ≤ h'.length → Φ (some (.int y0), h', 0, 0)) : hp_F cst strs Φ D M 2 l [] h := by
  refine hp_arc c hM q4f2_k hD [m, v, z, i] rfl hy (hp_Bc (z := m) rfl b0 t0 (hp_Bc (z := v) rfl b1 t1 (hp_Bc (z := z) rfl b2 t2 (hp_Bc (z := i) rfl b3 t3 hp_Bn)))) (hp_Fc (z := ((-1) + (1 * z + ((-1) * i + 0)))) rfl (by omega) hp_Fn) (hp_Kc (zi := (0 + (1 * m + 0))) (zv := (0 + (1 * z + 0))) k0 rfl rfl (by omega) (by omega) (hp_Kc (zi := (0 + (32 * m + (1 * i + 0)))) (zv := (0 + (1 * v + 0))) k1 rfl rfl (by omega) (by omega) hp_Kn)) (hp_Lmj (by decide) (z := (0 + (1 * m + 0))) l0 rfl (by omega) (hp_Lj (z := (0 + (1 * v + 0))) l1 rfl (by omega) (hp_Li (z := (0 + (1 * i + 0))) l3 rfl (by omega) hp_Ln))) trivial ?_ ?_
  · intro p_9 hp ys l' st' h' hys a1_9 a2 a3 gZ gL gS
    cases hp
  · intro p_9 hp ys v h' hys a1_9 a2 a3 gZ gS
    rcases List.mem_cons.mp hp with rfl | hp
    · obtain rfl := hp_y0 hys
      cases v with
      | none => cases gS
      | some wz =>
        obtain ⟨y0, t0, s0_9, q0, -⟩ := hp_gSi (z := (0 + (1 * i + 0))) gS rfl
        cases s0_9
        exact r0 h' y0 (by omega) a1_9 a2 a3
    cases hp
theorem q4f3_k : hp_chk 49 2 3 [(0, 0, 99), (1, (-9223372036854775808), 9223372036854775807), (2, 0, 20)] [] [(0, .inr (.inr (.inr (4, (0, [(0, 1)]))))), (1, .inr (.inl (0, [(1, 1)]))), (3, .inl (0, [(2, 1)]))] [] [(46338, (0, [(0, 1)]), (0, [(2, 1)]))] [] 2 [] [([], 3, [(0, 0, 99), (1, (-9223372036854775808), 9223372036854775807), (2, 0, 20)], [], [], [.inl ((-1), [])], [])] = true := by decide +kernel
theorem q4f3 {cst : am_K} {strs : List Nat} {Φ : am_Q → Prop} {D : Nat} {M : am_M} {h : am_H} {l : am_L} (c : hp_C cst strs D) (hM : m_P[49]? = some M) (hD : (2 : Int) ≤ (D : Int) + 1) (hy : ly_hy m_tt ly_TH h) (m v z : Int) (b0 : 0 ≤ m) (t0 : m ≤ 99) (b1 : (-9223372036854775808) ≤ v) (t1 : v ≤ 9223372036854775807) (b2 : 0 ≤ z) (t2 : z ≤ 20) (k0 : ly_hv cst h 46338 (m) = some (z)) (l0 : hp_mlj l 0 4 h.length (m)) (l1 : hp_j l 1 (v)) (l3 : hp_i l 3 (z)) (r0 : ∀ (h' : am_H) (y0 : Int32), y0.toInt = (-1) → ly_hy m_tt ly_TH h' → ly_fr cst [] h h' → h.length ≤ h'.length → Φ (some (.int y0), h', 0, 0)) : hp_F cst strs Φ D M 2 l [] h := by
  refine hp_arc c hM q4f3_k hD [m, v, z] rfl hy (hp_Bc (z := m) rfl b0 t0 (hp_Bc (z := v) rfl b1 t1 (hp_Bc (z := z) rfl b2 t2 hp_Bn))) hp_Fn (hp_Kc (zi := (0 + (1 * m + 0))) (zv := (0 + (1 * z + 0))) k0 rfl rfl (by omega) (by omega) hp_Kn) (hp_Lmj (by decide) (z := (0 + (1 * m + 0))) l0 rfl (by omega) (hp_Lj (z := (0 + (1 * v + 0))) l1 rfl (by omega) (hp_Li (z := (0 + (1 * z + 0))) l3 rfl (by omega) hp_Ln))) trivial ?_ ?_
  · intro p_9 hp ys l' st' h' hys a1_9 a2 a3 gZ gL gS
    cases hp
  · intro p_9 hp ys v h' hys a1_9 a2 a3 gZ gS
    rcases List.mem_cons.mp hp with rfl | hp
    · obtain rfl := hp_y0 hys
      cases v with
      | none => cases gS
      | some wz =>
        obtain ⟨y0, t0, s0_9, q0, -⟩ := hp_gSi (z := ((-1) + 0)) gS rfl
        cases s0_9
        exact r0 h' y0 (by omega) a1_9 a2 a3
    cases hp
theorem q4v0_k : hp_chk 126 0 2 [(0, 0, 99), (1, (-9223372036854775808), 9223372036854775807)] [] [(0, .inr (.inr (.inr (4, (0, [(0, 1)]))))), (1, .inr (.inl (0, [(1, 1)])))] [] [] [] 2 [(2, ([], 2, [(0, 0, 99), (1, (-9223372036854775808), 9223372036854775807)], [], [(0, .inr (.inr (.inr (4, (0, [(0, 1)]))))), (1, .inr (.inl (0, [(1, 1)])))], [.inr (.inl (0, [(1, 1)])), .inr (.inr (.inr (4, (0, [(0, 1)]))))], []))] [] = true := by decide +kernel
theorem q4v0 {cst : am_K} {strs : List Nat} {Φ : am_Q → Prop} {D : Nat} {M : am_M} {h : am_H} {l : am_L} (c : hp_C cst strs D) (hM : m_P[126]? = some M) (hD : (2 : Int) ≤ (D : Int) + 1) (hy : ly_hy m_tt ly_TH h) (m v : Int) (b0 : 0 ≤ m) (t0 : m ≤ 99) (b1 : (-9223372036854775808) ≤ v) (t1 : v ≤ 9223372036854775807) (l0 : hp_mlj l 0 4 h.length (m)) (l1 : hp_j l 1 (v)) (e0 : ∀ (l' : am_L) (h' : am_H) (y0 : Int64) (y1 : Nat), y0.toInt = (v) → (y1 : Int) = (m) → 177 + 19 * (y1 + 1) ≤ h'.length → ly_hy m_tt ly_TH h' → ly_fr cst [] h h' → h.length ≤ h'.length → hp_mlj l' 0 4 h'.length (m) → hp_j l' 1 (v) → hp_F cst strs Φ D M 2 l' [.long y0, .ref (16 + (177 + 19 * y1 + 4))] h') : hp_F cst strs Φ D M 0 l [] h := by
  refine hp_arc c hM q4v0_k hD [m, v] rfl hy (hp_Bc (z := m) rfl b0 t0 (hp_Bc (z := v) rfl b1 t1 hp_Bn)) hp_Fn hp_Kn (hp_Lmj (by decide) (z := (0 + (1 * m + 0))) l0 rfl (by omega) (hp_Lj (z := (0 + (1 * v + 0))) l1 rfl (by omega) hp_Ln)) trivial ?_ ?_
  · intro p_9 hp ys l' st' h' hys a1_9 a2 a3 gZ gL gS
    rcases List.mem_cons.mp hp with rfl | hp
    · obtain rfl := hp_y0 hys
      obtain ⟨y0, t0, rfl, q0, g0⟩ := hp_gSj (z := (0 + (1 * v + 0))) gS rfl
      obtain ⟨y1, t1, rfl, q1_9, p1_9, g1⟩ := hp_gSmj (z := (0 + (1 * m + 0))) g0 rfl
      cases hp_gSn g1
      exact e0 l' h' y0 y1 (by omega) (by omega) p1_9 a1_9 a2 a3 (hp_gLmj (z := (0 + (1 * m + 0))) gL (List.mem_of_getElem? (i := 0) rfl) rfl (by omega)) (hp_gLj (z := (0 + (1 * v + 0))) gL (List.mem_of_getElem? (i := 1) rfl) rfl (by omega))
    cases hp
  · intro p_9 hp ys v h' hys a1_9 a2 a3 gZ gS
    cases hp
theorem q4v1_k : hp_chk 126 5 2 [(0, 0, 99), (1, (-9223372036854775808), 9223372036854775807)] [] [(0, .inr (.inr (.inr (4, (0, [(0, 1)]))))), (1, .inr (.inl (0, [(1, 1)])))] [.inl ((-1), [])] [] [] 2 [] [([], 2, [(0, 0, 99), (1, (-9223372036854775808), 9223372036854775807)], [], [], [.inl (0, [])], [])] = true := by decide +kernel
theorem q4v1 {cst : am_K} {strs : List Nat} {Φ : am_Q → Prop} {D : Nat} {M : am_M} {h : am_H} {l : am_L} (c : hp_C cst strs D) (hM : m_P[126]? = some M) (hD : (2 : Int) ≤ (D : Int) + 1) (hy : ly_hy m_tt ly_TH h) (m v : Int) (x0 : Int32) (hx0 : x0.toInt = (-1)) (b0 : 0 ≤ m) (t0 : m ≤ 99) (b1 : (-9223372036854775808) ≤ v) (t1 : v ≤ 9223372036854775807) (l0 : hp_mlj l 0 4 h.length (m)) (l1 : hp_j l 1 (v)) (r0 : ∀ (h' : am_H) (y0 : Int32), y0.toInt = 0 → ly_hy m_tt ly_TH h' → ly_fr cst [] h h' → h.length ≤ h'.length → Φ (some (.int y0), h', 0, 0)) : hp_F cst strs Φ D M 5 l [.int x0] h := by
  refine hp_arc c hM q4v1_k hD [m, v] rfl hy (hp_Bc (z := m) rfl b0 t0 (hp_Bc (z := v) rfl b1 t1 hp_Bn)) hp_Fn hp_Kn (hp_Lmj (by decide) (z := (0 + (1 * m + 0))) l0 rfl (by omega) (hp_Lj (z := (0 + (1 * v + 0))) l1 rfl (by omega) hp_Ln)) (hp_Si (z := ((-1) + 0)) rfl (by omega) trivial) ?_ ?_
  · intro p_9 hp ys l' st' h' hys a1_9 a2 a3 gZ gL gS
    cases hp
  · intro p_9 hp ys v h' hys a1_9 a2 a3 gZ gS
    rcases List.mem_cons.mp hp with rfl | hp
    · obtain rfl := hp_y0 hys
      cases v with
      | none => cases gS
      | some wz =>
        obtain ⟨y0, t0, s0_9, q0, -⟩ := hp_gSi (z := (0 + 0)) gS rfl
        cases s0_9
        exact r0 h' y0 (by omega) a1_9 a2 a3
    cases hp
theorem q4v2_k : hp_chk 126 5 4 [(0, 0, 99), (1, (-9223372036854775808), 9223372036854775807), (2, 0, 19), (3, 0, 9999)] [] [(0, .inr (.inr (.inr (4, (0, [(0, 1)]))))), (1, .inr (.inl (0, [(1, 1)])))] [.inl (0, [(2, 1)])] [(46848, (0, [(0, 32), (2, 1)]), (0, [(3, 1)]))] [] 2 [] [([], 4, [(0, 0, 99), (1, (-9223372036854775808), 9223372036854775807), (2, 0, 19), (3, 0, 9999)], [], [], [.inl (0, [(3, 1)])], [])] = true := by decide +kernel
theorem q4v2 {cst : am_K} {strs : List Nat} {Φ : am_Q → Prop} {D : Nat} {M : am_M} {h : am_H} {l : am_L} (c : hp_C cst strs D) (hM : m_P[126]? = some M) (hD : (2 : Int) ≤ (D : Int) + 1) (hy : ly_hy m_tt ly_TH h) (m v i u : Int) (x0 : Int32) (hx0 : x0.toInt = (i)) (b0 : 0 ≤ m) (t0 : m ≤ 99) (b1 : (-9223372036854775808) ≤ v) (t1 : v ≤ 9223372036854775807) (b2 : 0 ≤ i) (t2 : i ≤ 19) (b3 : 0 ≤ u) (t3 : u ≤ 9999) (k0 : ly_hv cst h 46848 (32 * m + i) = some (u)) (l0 : hp_mlj l 0 4 h.length (m)) (l1 : hp_j l 1 (v)) (r0 : ∀ (h' : am_H) (y0 : Int32), y0.toInt = (u) → ly_hy m_tt ly_TH h' → ly_fr cst [] h h' → h.length ≤ h'.length → Φ (some (.int y0), h', 0, 0)) : hp_F cst strs Φ D M 5 l [.int x0] h := by
  refine hp_arc c hM q4v2_k hD [m, v, i, u] rfl hy (hp_Bc (z := m) rfl b0 t0 (hp_Bc (z := v) rfl b1 t1 (hp_Bc (z := i) rfl b2 t2 (hp_Bc (z := u) rfl b3 t3 hp_Bn)))) hp_Fn (hp_Kc (zi := (0 + (32 * m + (1 * i + 0)))) (zv := (0 + (1 * u + 0))) k0 rfl rfl (by omega) (by omega) hp_Kn) (hp_Lmj (by decide) (z := (0 + (1 * m + 0))) l0 rfl (by omega) (hp_Lj (z := (0 + (1 * v + 0))) l1 rfl (by omega) hp_Ln)) (hp_Si (z := (0 + (1 * i + 0))) rfl (by omega) trivial) ?_ ?_
  · intro p_9 hp ys l' st' h' hys a1_9 a2 a3 gZ gL gS
    cases hp
  · intro p_9 hp ys v h' hys a1_9 a2 a3 gZ gS
    rcases List.mem_cons.mp hp with rfl | hp
    · obtain rfl := hp_y0 hys
      cases v with
      | none => cases gS
      | some wz =>
        obtain ⟨y0, t0, s0_9, q0, -⟩ := hp_gSi (z := (0 + (1 * u + 0))) gS rfl
        cases s0_9
        exact r0 h' y0 (by omega) a1_9 a2 a3
    cases hp
theorem wh0_k : hp_chk 145 20 2 [(0, 0, 99), (1, 0, 1239)] [] [(0, .inr (.inr (.inl (some 44)))), (1, .inr (.inr (.inr (0, (0, [(0, 1)])))))] [.inl (0, [(1, 1)])] [] [] 2 [(26, ([], 2, [(0, 0, 99), (1, 0, 1239)], [], [(0, .inr (.inr (.inl (some 44)))), (1, .inr (.inr (.inr (0, (0, [(0, 1)]))))), (2, .inl (0, [(1, 1)])), (3, .inl (0, [])), (4, .inl (0, []))], [], []))] [] = true := by decide +kernel
theorem wh0 {cst : am_K} {strs : List Nat} {Φ : am_Q → Prop} {D : Nat} {M : am_M} {h : am_H} {l : am_L} (c : hp_C cst strs D) (hM : m_P[145]? = some M) (hD : (2 : Int) ≤ (D : Int) + 1) (hy : ly_hy m_tt ly_TH h) (m cq : Int) (x0 : Int32) (hx0 : x0.toInt = (cq)) (b0 : 0 ≤ m) (t0 : m ≤ 99) (b1 : 0 ≤ cq) (t1 : cq ≤ 1239) (l0 : hp_a l 0 44) (l1 : hp_ml l 1 h.length (m)) (e0 : ∀ (l' : am_L) (h' : am_H), ly_hy m_tt ly_TH h' → ly_fr cst [] h h' → h.length ≤ h'.length → hp_a l' 0 44 → hp_ml l' 1 h'.length (m) → hp_i l' 2 (cq) → hp_i l' 3 0 → hp_i l' 4 0 → hp_F cst strs Φ D M 26 l' [] h') : hp_F cst strs Φ D M 20 l [.int x0] h := by
  refine hp_arc c hM wh0_k hD [m, cq] rfl hy (hp_Bc (z := m) rfl b0 t0 (hp_Bc (z := cq) rfl b1 t1 hp_Bn)) hp_Fn hp_Kn (hp_La l0 (hp_Lm (z := (0 + (1 * m + 0))) l1 rfl (by omega) hp_Ln)) (hp_Si (z := (0 + (1 * cq + 0))) rfl (by omega) trivial) ?_ ?_
  · intro p_9 hp ys l' st' h' hys a1_9 a2 a3 gZ gL gS
    rcases List.mem_cons.mp hp with rfl | hp
    · obtain rfl := hp_y0 hys
      cases hp_gSn gS
      exact e0 l' h' a1_9 a2 a3 (hp_gLa gL (List.mem_of_getElem? (i := 0) rfl) (by decide)) (hp_gLm (z := (0 + (1 * m + 0))) gL (List.mem_of_getElem? (i := 1) rfl) rfl (by omega)) (hp_gLi (z := (0 + (1 * cq + 0))) gL (List.mem_of_getElem? (i := 2) rfl) rfl (by omega)) (hp_gLi (z := (0 + 0)) gL (List.mem_of_getElem? (i := 3) rfl) rfl (by omega)) (hp_gLi (z := (0 + 0)) gL (List.mem_of_getElem? (i := 4) rfl) rfl (by omega))
    cases hp
  · intro p_9 hp ys v_9 h' hys a1_9 a2 a3 gZ gS
    cases hp
theorem wh1_k : hq_chk [124] 145 26 8 [(0, 0, 99), (1, 0, 1239), (2, 0, 1240), (3, 0, 10240), (4, 0, 10240), (5, 0, 28), (6, 0, 8), (7, 0, 27)] [((-1), [(1, (-1)), (2, 1)]), (0, [(3, (-1)), (4, 1)]), ((-1), [(5, 1), (7, (-1))]), (0, [(3, 1), (4, (-1)), (6, 1)])] [(0, .inr (.inr (.inl (some 44)))), (1, .inr (.inr (.inr (0, (0, [(0, 1)]))))), (2, .inl (0, [(1, 1)])), (3, .inl (0, [(6, 1)])), (4, .inl (0, [(7, 1)]))] [] [(3588, (0, []), (0, [(2, 1)])), (5632, (0, [(1, 1)]), (0, [(3, 1)])), (5632, (1, [(1, 1)]), (0, [(4, 1)])), (45570, (0, [(0, 1)]), (0, [(5, 1)]))] [] 4 [(26, ([], 8, [(0, 0, 99), (1, 0, 1239), (2, 0, 1240), (3, 0, 10240), (4, 0, 10240), (5, 0, 28), (6, 0, 8), (7, 0, 27)], [], [(0, .inr (.inr (.inl (some 44)))), (1, .inr (.inr (.inr (0, (0, [(0, 1)]))))), (2, .inl (0, [(1, 1)])), (3, .inl (0, [(6, 1)])), (4, .inl (1, [(7, 1)]))], [], []))] [] = true := by decide +kernel
theorem wh1 {cst : am_K} {strs : List Nat} {Φ : am_Q → Prop} {D : Nat} {M : am_M} {h : am_H} {l : am_L} (c : hp_C cst strs D) (hM : m_P[145]? = some M) (hD : (4 : Int) ≤ (D : Int) + 1) (hy : ly_hy m_tt ly_TH h) (m cq cl f g n k i : Int) (b0 : 0 ≤ m) (t0 : m ≤ 99) (b1 : 0 ≤ cq) (t1 : cq ≤ 1239) (b2 : 0 ≤ cl) (t2 : cl ≤ 1240) (b3 : 0 ≤ f) (t3 : f ≤ 10240) (b4 : 0 ≤ g) (t4 : g ≤ 10240) (b5 : 0 ≤ n) (t5 : n ≤ 28) (b6 : 0 ≤ k) (t6 : k ≤ 8) (b7 : 0 ≤ i) (t7 : i ≤ 27) (f0 : 0 ≤ (cl - cq - 1)) (f1 : 0 ≤ (g - f)) (f2 : 0 ≤ (n - i - 1)) (f3 : 0 ≤ (k - g + f)) (k0 : ly_hv cst h 3588 0 = some (cl)) (k1 : ly_hv cst h 5632 (cq) = some (f)) (k2 : ly_hv cst h 5632 (cq + 1) = some (g)) (k3 : ly_hv cst h 45570 (m) = some (n)) (l0 : hp_a l 0 44) (l1 : hp_ml l 1 h.length (m)) (l2 : hp_i l 2 (cq)) (l3 : hp_i l 3 (k)) (l4 : hp_i l 4 (i)) (e0 : ∀ (l' : am_L) (h' : am_H), ly_hy m_tt ly_TH h' → ly_fr cst [] h h' → h.length ≤ h'.length → hp_a l' 0 44 → hp_ml l' 1 h'.length (m) → hp_i l' 2 (cq) → hp_i l' 3 (k) → hp_i l' 4 (i + 1) → hp_F cst strs Φ D M 26 l' [] h') : hp_F cst strs Φ D M 26 l [] h := by
  refine hq_arc c hM wh1_k hD [m, cq, cl, f, g, n, k, i] rfl hy (hp_Bc (z := m) rfl b0 t0 (hp_Bc (z := cq) rfl b1 t1 (hp_Bc (z := cl) rfl b2 t2 (hp_Bc (z := f) rfl b3 t3 (hp_Bc (z := g) rfl b4 t4 (hp_Bc (z := n) rfl b5 t5 (hp_Bc (z := k) rfl b6 t6 (hp_Bc (z := i) rfl b7 t7 hp_Bn)))))))) (hp_Fc (z := ((-1) + ((-1) * cq + (1 * cl + 0)))) rfl (by omega) (hp_Fc (z := (0 + ((-1) * f + (1 * g + 0)))) rfl (by omega) (hp_Fc (z := ((-1) + (1 * n + ((-1) * i + 0)))) rfl (by omega) (hp_Fc (z := (0 + (1 * f + ((-1) * g + (1 * k + 0))))) rfl (by omega) hp_Fn)))) (hp_Kc (zi := (0 + 0)) (zv := (0 + (1 * cl + 0))) k0 rfl rfl (by omega) (by omega) (hp_Kc (zi := (0 + (1 * cq + 0))) (zv := (0 + (1 * f + 0))) k1 rfl rfl (by omega) (by omega) (hp_Kc (zi := (1 + (1 * cq + 0))) (zv := (0 + (1 * g + 0))) k2 rfl rfl (by omega) (by omega) (hp_Kc (zi := (0 + (1 * m + 0))) (zv := (0 + (1 * n + 0))) k3 rfl rfl (by omega) (by omega) hp_Kn)))) (hp_La l0 (hp_Lm (z := (0 + (1 * m + 0))) l1 rfl (by omega) (hp_Li (z := (0 + (1 * cq + 0))) l2 rfl (by omega) (hp_Li (z := (0 + (1 * k + 0))) l3 rfl (by omega) (hp_Li (z := (0 + (1 * i + 0))) l4 rfl (by omega) hp_Ln))))) trivial ?_ ?_
  · intro p_9 hp ys l' st' h' hys a1_9 a2 a3 gZ gL gS
    rcases List.mem_cons.mp hp with rfl | hp
    · obtain rfl := hp_y0 hys
      cases hp_gSn gS
      exact e0 l' h' a1_9 a2 a3 (hp_gLa gL (List.mem_of_getElem? (i := 0) rfl) (by decide)) (hp_gLm (z := (0 + (1 * m + 0))) gL (List.mem_of_getElem? (i := 1) rfl) rfl (by omega)) (hp_gLi (z := (0 + (1 * cq + 0))) gL (List.mem_of_getElem? (i := 2) rfl) rfl (by omega)) (hp_gLi (z := (0 + (1 * k + 0))) gL (List.mem_of_getElem? (i := 3) rfl) rfl (by omega)) (hp_gLi (z := (1 + (1 * i + 0))) gL (List.mem_of_getElem? (i := 4) rfl) rfl (by omega))
    cases hp
  · intro p_9 hp ys v_9 h' hys a1_9 a2 a3 gZ gS
    cases hp
theorem wh2_k : hq_chk [124, 125, 146] 145 26 9 [(0, 0, 99), (1, 0, 1239), (2, 0, 1240), (3, 0, 10240), (4, 0, 10240), (5, 0, 28), (6, 0, 8), (7, 0, 27), (8, (-9223372036854775808), 9223372036854775807)] [((-1), [(1, (-1)), (2, 1)]), (0, [(3, (-1)), (4, 1)]), ((-1), [(5, 1), (7, (-1))]), ((-1), [(3, (-1)), (4, 1), (6, (-1))])] [(0, .inr (.inr (.inl (some 44)))), (1, .inr (.inr (.inr (0, (0, [(0, 1)]))))), (2, .inl (0, [(1, 1)])), (3, .inl (0, [(6, 1)])), (4, .inl (0, [(7, 1)]))] [] [(3588, (0, []), (0, [(2, 1)])), (5632, (0, [(1, 1)]), (0, [(3, 1)])), (5632, (1, [(1, 1)]), (0, [(4, 1)])), (45570, (0, [(0, 1)]), (0, [(5, 1)])), (45824, (0, [(0, 32), (7, 1)]), (0, [(8, 1)])), (5888, (0, [(3, 1), (6, 1)]), (0, [(8, 1)]))] [] 4 [(26, ([], 9, [(0, 0, 99), (1, 0, 1239), (2, 0, 1240), (3, 0, 10240), (4, 0, 10240), (5, 0, 28), (6, 0, 8), (7, 0, 27), (8, (-9223372036854775808), 9223372036854775807)], [], [(0, .inr (.inr (.inl (some 44)))), (1, .inr (.inr (.inr (0, (0, [(0, 1)]))))), (2, .inl (0, [(1, 1)])), (3, .inl (1, [(6, 1)])), (4, .inl (1, [(7, 1)]))], [], []))] [] = true := by decide +kernel
theorem wh2 {cst : am_K} {strs : List Nat} {Φ : am_Q → Prop} {D : Nat} {M : am_M} {h : am_H} {l : am_L} (c : hp_C cst strs D) (hM : m_P[145]? = some M) (hD : (4 : Int) ≤ (D : Int) + 1) (hy : ly_hy m_tt ly_TH h) (m cq cl f g n k i v : Int) (b0 : 0 ≤ m) (t0 : m ≤ 99) (b1 : 0 ≤ cq) (t1 : cq ≤ 1239) (b2 : 0 ≤ cl) (t2 : cl ≤ 1240) (b3 : 0 ≤ f) (t3 : f ≤ 10240) (b4 : 0 ≤ g) (t4 : g ≤ 10240) (b5 : 0 ≤ n) (t5 : n ≤ 28) (b6 : 0 ≤ k) (t6 : k ≤ 8) (b7 : 0 ≤ i) (t7 : i ≤ 27) (b8 : (-9223372036854775808) ≤ v) (t8 : v ≤ 9223372036854775807) (f0 : 0 ≤ (cl - cq - 1)) (f1 : 0 ≤ (g - f)) (f2 : 0 ≤ (n - i - 1)) (f3 : 0 ≤ (g - f - k - 1)) (k0 : ly_hv cst h 3588 0 = some (cl)) (k1 : ly_hv cst h 5632 (cq) = some (f)) (k2 : ly_hv cst h 5632 (cq + 1) = some (g)) (k3 : ly_hv cst h 45570 (m) = some (n)) (k4 : ly_hv cst h 45824 (32 * m + i) = some (v)) (k5 : ly_hv cst h 5888 (f + k) = some (v)) (l0 : hp_a l 0 44) (l1 : hp_ml l 1 h.length (m)) (l2 : hp_i l 2 (cq)) (l3 : hp_i l 3 (k)) (l4 : hp_i l 4 (i)) (e0 : ∀ (l' : am_L) (h' : am_H), ly_hy m_tt ly_TH h' → ly_fr cst [] h h' → h.length ≤ h'.length → hp_a l' 0 44 → hp_ml l' 1 h'.length (m) → hp_i l' 2 (cq) → hp_i l' 3 (k + 1) → hp_i l' 4 (i + 1) → hp_F cst strs Φ D M 26 l' [] h') : hp_F cst strs Φ D M 26 l [] h := by
  refine hq_arc c hM wh2_k hD [m, cq, cl, f, g, n, k, i, v] rfl hy (hp_Bc (z := m) rfl b0 t0 (hp_Bc (z := cq) rfl b1 t1 (hp_Bc (z := cl) rfl b2 t2 (hp_Bc (z := f) rfl b3 t3 (hp_Bc (z := g) rfl b4 t4 (hp_Bc (z := n) rfl b5 t5 (hp_Bc (z := k) rfl b6 t6 (hp_Bc (z := i) rfl b7 t7 (hp_Bc (z := v) rfl b8 t8 hp_Bn))))))))) (hp_Fc (z := ((-1) + ((-1) * cq + (1 * cl + 0)))) rfl (by omega) (hp_Fc (z := (0 + ((-1) * f + (1 * g + 0)))) rfl (by omega) (hp_Fc (z := ((-1) + (1 * n + ((-1) * i + 0)))) rfl (by omega) (hp_Fc (z := ((-1) + ((-1) * f + (1 * g + ((-1) * k + 0))))) rfl (by omega) hp_Fn)))) (hp_Kc (zi := (0 + 0)) (zv := (0 + (1 * cl + 0))) k0 rfl rfl (by omega) (by omega) (hp_Kc (zi := (0 + (1 * cq + 0))) (zv := (0 + (1 * f + 0))) k1 rfl rfl (by omega) (by omega) (hp_Kc (zi := (1 + (1 * cq + 0))) (zv := (0 + (1 * g + 0))) k2 rfl rfl (by omega) (by omega) (hp_Kc (zi := (0 + (1 * m + 0))) (zv := (0 + (1 * n + 0))) k3 rfl rfl (by omega) (by omega) (hp_Kc (zi := (0 + (32 * m + (1 * i + 0)))) (zv := (0 + (1 * v + 0))) k4 rfl rfl (by omega) (by omega) (hp_Kc (zi := (0 + (1 * f + (1 * k + 0)))) (zv := (0 + (1 * v + 0))) k5 rfl rfl (by omega) (by omega) hp_Kn)))))) (hp_La l0 (hp_Lm (z := (0 + (1 * m + 0))) l1 rfl (by omega) (hp_Li (z := (0 + (1 * cq + 0))) l2 rfl (by omega) (hp_Li (z := (0 + (1 * k + 0))) l3 rfl (by omega) (hp_Li (z := (0 + (1 * i + 0))) l4 rfl (by omega) hp_Ln))))) trivial ?_ ?_
  · intro p_9 hp ys l' st' h' hys a1_9 a2 a3 gZ gL gS
    rcases List.mem_cons.mp hp with rfl | hp
    · obtain rfl := hp_y0 hys
      cases hp_gSn gS
      exact e0 l' h' a1_9 a2 a3 (hp_gLa gL (List.mem_of_getElem? (i := 0) rfl) (by decide)) (hp_gLm (z := (0 + (1 * m + 0))) gL (List.mem_of_getElem? (i := 1) rfl) rfl (by omega)) (hp_gLi (z := (0 + (1 * cq + 0))) gL (List.mem_of_getElem? (i := 2) rfl) rfl (by omega)) (hp_gLi (z := (1 + (1 * k + 0))) gL (List.mem_of_getElem? (i := 3) rfl) rfl (by omega)) (hp_gLi (z := (1 + (1 * i + 0))) gL (List.mem_of_getElem? (i := 4) rfl) rfl (by omega))
    cases hp
  · intro p_9 hp ys v h' hys a1_9 a2 a3 gZ gS
    cases hp
theorem wh3_k : hq_chk [124, 125, 146] 145 26 10 [(0, 0, 99), (1, 0, 1239), (2, 0, 1240), (3, 0, 10240), (4, 0, 10240), (5, 0, 28), (6, 0, 8), (7, 0, 27), (8, (-9223372036854775808), 9223372036854775807), (9, (-9223372036854775808), 9223372036854775807)] [((-1), [(1, (-1)), (2, 1)]), (0, [(3, (-1)), (4, 1)]), ((-1), [(5, 1), (7, (-1))]), ((-1), [(3, (-1)), (4, 1), (6, (-1))])] [(0, .inr (.inr (.inl (some 44)))), (1, .inr (.inr (.inr (0, (0, [(0, 1)]))))), (2, .inl (0, [(1, 1)])), (3, .inl (0, [(6, 1)])), (4, .inl (0, [(7, 1)]))] [] [(3588, (0, []), (0, [(2, 1)])), (5632, (0, [(1, 1)]), (0, [(3, 1)])), (5632, (1, [(1, 1)]), (0, [(4, 1)])), (45570, (0, [(0, 1)]), (0, [(5, 1)])), (45824, (0, [(0, 32), (7, 1)]), (0, [(8, 1)])), (5888, (0, [(3, 1), (6, 1)]), (0, [(9, 1)])), (61000, (0, [(8, 1), (9, (-1))]), (1, []))] [] 4 [(26, ([], 10, [(0, 0, 99), (1, 0, 1239), (2, 0, 1240), (3, 0, 10240), (4, 0, 10240), (5, 0, 28), (6, 0, 8), (7, 0, 27), (8, (-9223372036854775808), 9223372036854775807), (9, (-9223372036854775808), 9223372036854775807)], [], [(0, .inr (.inr (.inl (some 44)))), (1, .inr (.inr (.inr (0, (0, [(0, 1)]))))), (2, .inl (0, [(1, 1)])), (3, .inl (0, [(6, 1)])), (4, .inl (1, [(7, 1)]))], [], []))] [] = true := by decide +kernel
theorem wh3 {cst : am_K} {strs : List Nat} {Φ : am_Q → Prop} {D : Nat} {M : am_M} {h : am_H} {l : am_L} (c : hp_C cst strs D) (hM : m_P[145]? = some M) (hD : (4 : Int) ≤ (D : Int) + 1) (hy : ly_hy m_tt ly_TH h) (m cq cl f g n k i v x : Int) (b0 : 0 ≤ m) (t0 : m ≤ 99) (b1 : 0 ≤ cq) (t1 : cq ≤ 1239) (b2 : 0 ≤ cl) (t2 : cl ≤ 1240) (b3 : 0 ≤ f) (t3 : f ≤ 10240) (b4 : 0 ≤ g) (t4 : g ≤ 10240) (b5 : 0 ≤ n) (t5 : n ≤ 28) (b6 : 0 ≤ k) (t6 : k ≤ 8) (b7 : 0 ≤ i) (t7 : i ≤ 27) (b8 : (-9223372036854775808) ≤ v) (t8 : v ≤ 9223372036854775807) (b9 : (-9223372036854775808) ≤ x) (t9 : x ≤ 9223372036854775807) (f0 : 0 ≤ (cl - cq - 1)) (f1 : 0 ≤ (g - f)) (f2 : 0 ≤ (n - i - 1)) (f3 : 0 ≤ (g - f - k - 1)) (k0 : ly_hv cst h 3588 0 = some (cl)) (k1 : ly_hv cst h 5632 (cq) = some (f)) (k2 : ly_hv cst h 5632 (cq + 1) = some (g)) (k3 : ly_hv cst h 45570 (m) = some (n)) (k4 : ly_hv cst h 45824 (32 * m + i) = some (v)) (k5 : ly_hv cst h 5888 (f + k) = some (x)) (k6 : ly_hv cst h 61000 (v - x) = some 1) (l0 : hp_a l 0 44) (l1 : hp_ml l 1 h.length (m)) (l2 : hp_i l 2 (cq)) (l3 : hp_i l 3 (k)) (l4 : hp_i l 4 (i)) (e0 : ∀ (l' : am_L) (h' : am_H), ly_hy m_tt ly_TH h' → ly_fr cst [] h h' → h.length ≤ h'.length → hp_a l' 0 44 → hp_ml l' 1 h'.length (m) → hp_i l' 2 (cq) → hp_i l' 3 (k) → hp_i l' 4 (i + 1) → hp_F cst strs Φ D M 26 l' [] h') : hp_F cst strs Φ D M 26 l [] h := by
  refine hq_arc c hM wh3_k hD [m, cq, cl, f, g, n, k, i, v, x] rfl hy (hp_Bc (z := m) rfl b0 t0 (hp_Bc (z := cq) rfl b1 t1 (hp_Bc (z := cl) rfl b2 t2 (hp_Bc (z := f) rfl b3 t3 (hp_Bc (z := g) rfl b4 t4 (hp_Bc (z := n) rfl b5 t5 (hp_Bc (z := k) rfl b6 t6 (hp_Bc (z := i) rfl b7 t7 (hp_Bc (z := v) rfl b8 t8 (hp_Bc (z := x) rfl b9 t9 hp_Bn)))))))))) (hp_Fc (z := ((-1) + ((-1) * cq + (1 * cl + 0)))) rfl (by omega) (hp_Fc (z := (0 + ((-1) * f + (1 * g + 0)))) rfl (by omega) (hp_Fc (z := ((-1) + (1 * n + ((-1) * i + 0)))) rfl (by omega) (hp_Fc (z := ((-1) + ((-1) * f + (1 * g + ((-1) * k + 0))))) rfl (by omega) hp_Fn)))) (hp_Kc (zi := (0 + 0)) (zv := (0 + (1 * cl + 0))) k0 rfl rfl (by omega) (by omega) (hp_Kc (zi := (0 + (1 * cq + 0))) (zv := (0 + (1 * f + 0))) k1 rfl rfl (by omega) (by omega) (hp_Kc (zi := (1 + (1 * cq + 0))) (zv := (0 + (1 * g + 0))) k2 rfl rfl (by omega) (by omega) (hp_Kc (zi := (0 + (1 * m + 0))) (zv := (0 + (1 * n + 0))) k3 rfl rfl (by omega) (by omega) (hp_Kc (zi := (0 + (32 * m + (1 * i + 0)))) (zv := (0 + (1 * v + 0))) k4 rfl rfl (by omega) (by omega) (hp_Kc (zi := (0 + (1 * f + (1 * k + 0)))) (zv := (0 + (1 * x + 0))) k5 rfl rfl (by omega) (by omega) (hp_Kc (zi := (0 + (1 * v + ((-1) * x + 0)))) (zv := (1 + 0)) k6 rfl rfl (by omega) (by omega) hp_Kn))))))) (hp_La l0 (hp_Lm (z := (0 + (1 * m + 0))) l1 rfl (by omega) (hp_Li (z := (0 + (1 * cq + 0))) l2 rfl (by omega) (hp_Li (z := (0 + (1 * k + 0))) l3 rfl (by omega) (hp_Li (z := (0 + (1 * i + 0))) l4 rfl (by omega) hp_Ln))))) trivial ?_ ?_
  · intro p_9 hp ys l' st' h' hys a1_9 a2 a3 gZ gL gS
    rcases List.mem_cons.mp hp with rfl | hp
    · obtain rfl := hp_y0 hys
      cases hp_gSn gS
      exact e0 l' h' a1_9 a2 a3 (hp_gLa gL (List.mem_of_getElem? (i := 0) rfl) (by decide)) (hp_gLm (z := (0 + (1 * m + 0))) gL (List.mem_of_getElem? (i := 1) rfl) rfl (by omega)) (hp_gLi (z := (0 + (1 * cq + 0))) gL (List.mem_of_getElem? (i := 2) rfl) rfl (by omega)) (hp_gLi (z := (0 + (1 * k + 0))) gL (List.mem_of_getElem? (i := 3) rfl) rfl (by omega)) (hp_gLi (z := (1 + (1 * i + 0))) gL (List.mem_of_getElem? (i := 4) rfl) rfl (by omega))
    cases hp
  · intro p_9 hp ys v h' hys a1_9 a2 a3 gZ gS
    cases hp
theorem wh4_k : hq_chk [124] 145 26 7 [(0, 0, 99), (1, 0, 1239), (2, 0, 1240), (3, 0, 10240), (4, 0, 10240), (5, 0, 28), (6, 0, 8)] [((-1), [(1, (-1)), (2, 1)]), (0, [(3, (-1)), (4, 1)]), ((-1), [(3, (-1)), (4, 1), (6, (-1))])] [(0, .inr (.inr (.inl (some 44)))), (1, .inr (.inr (.inr (0, (0, [(0, 1)]))))), (2, .inl (0, [(1, 1)])), (3, .inl (0, [(6, 1)])), (4, .inl (0, [(5, 1)]))] [] [(3588, (0, []), (0, [(2, 1)])), (5632, (0, [(1, 1)]), (0, [(3, 1)])), (5632, (1, [(1, 1)]), (0, [(4, 1)])), (45570, (0, [(0, 1)]), (0, [(5, 1)]))] [] 4 [] [([], 7, [(0, 0, 99), (1, 0, 1239), (2, 0, 1240), (3, 0, 10240), (4, 0, 10240), (5, 0, 28), (6, 0, 8)], [], [], [.inl (0, [(6, 1)])], [])] = true := by decide +kernel
theorem wh4 {cst : am_K} {strs : List Nat} {Φ : am_Q → Prop} {D : Nat} {M : am_M} {h : am_H} {l : am_L} (c : hp_C cst strs D) (hM : m_P[145]? = some M) (hD : (4 : Int) ≤ (D : Int) + 1) (hy : ly_hy m_tt ly_TH h) (m cq cl f g n k : Int) (b0 : 0 ≤ m) (t0 : m ≤ 99) (b1 : 0 ≤ cq) (t1 : cq ≤ 1239) (b2 : 0 ≤ cl) (t2 : cl ≤ 1240) (b3 : 0 ≤ f) (t3 : f ≤ 10240) (b4 : 0 ≤ g) (t4 : g ≤ 10240) (b5 : 0 ≤ n) (t5 : n ≤ 28) (b6 : 0 ≤ k) (t6 : k ≤ 8) (f0 : 0 ≤ (cl - cq - 1)) (f1 : 0 ≤ (g - f)) (f2 : 0 ≤ (g - f - k - 1)) (k0 : ly_hv cst h 3588 0 = some (cl)) (k1 : ly_hv cst h 5632 (cq) = some (f)) (k2 : ly_hv cst h 5632 (cq + 1) = some (g)) (k3 : ly_hv cst h 45570 (m) = some (n)) (l0 : hp_a l 0 44) (l1 : hp_ml l 1 h.length (m)) (l2 : hp_i l 2 (cq)) (l3 : hp_i l 3 (k)) (l4 : hp_i l 4 (n)) (r0 : ∀ (h' : am_H) (y0 : Int32), y0.toInt = (k) → ly_hy m_tt ly_TH h' → ly_fr cst [] h h' → h.length ≤ h'.length → Φ (some (.int y0), h', 0, 0)) : hp_F cst strs Φ D M 26 l [] h := by
  refine hq_arc c hM wh4_k hD [m, cq, cl, f, g, n, k] rfl hy (hp_Bc (z := m) rfl b0 t0 (hp_Bc (z := cq) rfl b1 t1 (hp_Bc (z := cl) rfl b2 t2 (hp_Bc (z := f) rfl b3 t3 (hp_Bc (z := g) rfl b4 t4 (hp_Bc (z := n) rfl b5 t5 (hp_Bc (z := k) rfl b6 t6 hp_Bn))))))) (hp_Fc (z := ((-1) + ((-1) * cq + (1 * cl + 0)))) rfl (by omega) (hp_Fc (z := (0 + ((-1) * f + (1 * g + 0)))) rfl (by omega) (hp_Fc (z := ((-1) + ((-1) * f + (1 * g + ((-1) * k + 0))))) rfl (by omega) hp_Fn))) (hp_Kc (zi := (0 + 0)) (zv := (0 + (1 * cl + 0))) k0 rfl rfl (by omega) (by omega) (hp_Kc (zi := (0 + (1 * cq + 0))) (zv := (0 + (1 * f + 0))) k1 rfl rfl (by omega) (by omega) (hp_Kc (zi := (1 + (1 * cq + 0))) (zv := (0 + (1 * g + 0))) k2 rfl rfl (by omega) (by omega) (hp_Kc (zi := (0 + (1 * m + 0))) (zv := (0 + (1 * n + 0))) k3 rfl rfl (by omega) (by omega) hp_Kn)))) (hp_La l0 (hp_Lm (z := (0 + (1 * m + 0))) l1 rfl (by omega) (hp_Li (z := (0 + (1 * cq + 0))) l2 rfl (by omega) (hp_Li (z := (0 + (1 * k + 0))) l3 rfl (by omega) (hp_Li (z := (0 + (1 * n + 0))) l4 rfl (by omega) hp_Ln))))) trivial ?_ ?_
  · intro p_9 hp ys l' st' h' hys a1_9 a2 a3 gZ gL gS
    cases hp
  · intro p_9 hp ys v_9 h' hys a1_9 a2 a3 gZ gS
    rcases List.mem_cons.mp hp with rfl | hp
    · obtain rfl := hp_y0 hys
      cases v_9 with
      | none => cases gS
      | some wz =>
        obtain ⟨y0, t0, s0_9, q0, -⟩ := hp_gSi (z := (0 + (1 * k + 0))) gS rfl
        cases s0_9
        exact r0 h' y0 (by omega) a1_9 a2 a3
    cases hp
theorem wh5_k : hq_chk [124] 145 26 7 [(0, 0, 99), (1, 0, 1239), (2, 0, 1240), (3, 0, 10240), (4, 0, 10240), (5, 0, 28), (6, 0, 8)] [((-1), [(1, (-1)), (2, 1)]), (0, [(3, (-1)), (4, 1)]), (0, [(3, 1), (4, (-1)), (6, 1)])] [(0, .inr (.inr (.inl (some 44)))), (1, .inr (.inr (.inr (0, (0, [(0, 1)]))))), (2, .inl (0, [(1, 1)])), (3, .inl (0, [(6, 1)])), (4, .inl (0, [(5, 1)]))] [] [(3588, (0, []), (0, [(2, 1)])), (5632, (0, [(1, 1)]), (0, [(3, 1)])), (5632, (1, [(1, 1)]), (0, [(4, 1)])), (45570, (0, [(0, 1)]), (0, [(5, 1)]))] [] 4 [] [([], 7, [(0, 0, 99), (1, 0, 1239), (2, 0, 1240), (3, 0, 10240), (4, 0, 10240), (5, 0, 28), (6, 0, 8)], [], [], [.inl ((-1), [])], [])] = true := by decide +kernel
theorem wh5 {cst : am_K} {strs : List Nat} {Φ : am_Q → Prop} {D : Nat} {M : am_M} {h : am_H} {l : am_L} (c : hp_C cst strs D) (hM : m_P[145]? = some M) (hD : (4 : Int) ≤ (D : Int) + 1) (hy : ly_hy m_tt ly_TH h) (m cq cl f g n k : Int) (b0 : 0 ≤ m) (t0 : m ≤ 99) (b1 : 0 ≤ cq) (t1 : cq ≤ 1239) (b2 : 0 ≤ cl) (t2 : cl ≤ 1240) (b3 : 0 ≤ f) (t3 : f ≤ 10240) (b4 : 0 ≤ g) (t4 : g ≤ 10240) (b5 : 0 ≤ n) (t5 : n ≤ 28) (b6 : 0 ≤ k) (t6 : k ≤ 8) (f0 : 0 ≤ (cl - cq - 1)) (f1 : 0 ≤ (g - f)) (f2 : 0 ≤ (k - g + f)) (k0 : ly_hv cst h 3588 0 = some (cl)) (k1 : ly_hv cst h 5632 (cq) = some (f)) (k2 : ly_hv cst h 5632 (cq + 1) = some (g)) (k3 : ly_hv cst h 45570 (m) = some (n)) (l0 : hp_a l 0 44) (l1 : hp_ml l 1 h.length (m)) (l2 : hp_i l 2 (cq)) (l3 : hp_i l 3 (k)) (l4 : hp_i l 4 (n)) (r0 : ∀ (h' : am_H) (y0 : Int32), y0.toInt = (-1) → ly_hy m_tt ly_TH h' → ly_fr cst [] h h' → h.length ≤ h'.length → Φ (some (.int y0), h', 0, 0)) : hp_F cst strs Φ D M 26 l [] h := by
  refine hq_arc c hM wh5_k hD [m, cq, cl, f, g, n, k] rfl hy (hp_Bc (z := m) rfl b0 t0 (hp_Bc (z := cq) rfl b1 t1 (hp_Bc (z := cl) rfl b2 t2 (hp_Bc (z := f) rfl b3 t3 (hp_Bc (z := g) rfl b4 t4 (hp_Bc (z := n) rfl b5 t5 (hp_Bc (z := k) rfl b6 t6 hp_Bn))))))) (hp_Fc (z := ((-1) + ((-1) * cq + (1 * cl + 0)))) rfl (by omega) (hp_Fc (z := (0 + ((-1) * f + (1 * g + 0)))) rfl (by omega) (hp_Fc (z := (0 + (1 * f + ((-1) * g + (1 * k + 0))))) rfl (by omega) hp_Fn))) (hp_Kc (zi := (0 + 0)) (zv := (0 + (1 * cl + 0))) k0 rfl rfl (by omega) (by omega) (hp_Kc (zi := (0 + (1 * cq + 0))) (zv := (0 + (1 * f + 0))) k1 rfl rfl (by omega) (by omega) (hp_Kc (zi := (1 + (1 * cq + 0))) (zv := (0 + (1 * g + 0))) k2 rfl rfl (by omega) (by omega) (hp_Kc (zi := (0 + (1 * m + 0))) (zv := (0 + (1 * n + 0))) k3 rfl rfl (by omega) (by omega) hp_Kn)))) (hp_La l0 (hp_Lm (z := (0 + (1 * m + 0))) l1 rfl (by omega) (hp_Li (z := (0 + (1 * cq + 0))) l2 rfl (by omega) (hp_Li (z := (0 + (1 * k + 0))) l3 rfl (by omega) (hp_Li (z := (0 + (1 * n + 0))) l4 rfl (by omega) hp_Ln))))) trivial ?_ ?_
  · intro p_9 hp ys l' st' h' hys a1_9 a2 a3 gZ gL gS
    cases hp
  · intro p_9 hp ys v_9 h' hys a1_9 a2 a3 gZ gS
    rcases List.mem_cons.mp hp with rfl | hp
    · obtain rfl := hp_y0 hys
      cases v_9 with
      | none => cases gS
      | some wz =>
        obtain ⟨y0, t0, s0_9, q0, -⟩ := hp_gSi (z := ((-1) + 0)) gS rfl
        cases s0_9
        exact r0 h' y0 (by omega) a1_9 a2 a3
    cases hp
theorem wh6_k : hp_chk 145 20 1 [(0, 0, 99)] [] [(0, .inr (.inr (.inl (some 44)))), (1, .inr (.inr (.inr (0, (0, [(0, 1)])))))] [.inl ((-1), [])] [] [] 2 [(26, ([], 1, [(0, 0, 99)], [], [(0, .inr (.inr (.inl (some 44)))), (1, .inr (.inr (.inr (0, (0, [(0, 1)]))))), (2, .inl ((-1), [])), (3, .inl (0, [])), (4, .inl (0, []))], [], []))] [] = true := by decide +kernel
theorem wh6 {cst : am_K} {strs : List Nat} {Φ : am_Q → Prop} {D : Nat} {M : am_M} {h : am_H} {l : am_L} (c : hp_C cst strs D) (hM : m_P[145]? = some M) (hD : (2 : Int) ≤ (D : Int) + 1) (hy : ly_hy m_tt ly_TH h) (m : Int) (x0 : Int32) (hx0 : x0.toInt = (-1)) (b0 : 0 ≤ m) (t0 : m ≤ 99) (l0 : hp_a l 0 44) (l1 : hp_ml l 1 h.length (m)) (e0 : ∀ (l' : am_L) (h' : am_H), ly_hy m_tt ly_TH h' → ly_fr cst [] h h' → h.length ≤ h'.length → hp_a l' 0 44 → hp_ml l' 1 h'.length (m) → hp_i l' 2 (-1) → hp_i l' 3 0 → hp_i l' 4 0 → hp_F cst strs Φ D M 26 l' [] h') : hp_F cst strs Φ D M 20 l [.int x0] h := by
  refine hp_arc c hM wh6_k hD [m] rfl hy (hp_Bc (z := m) rfl b0 t0 hp_Bn) hp_Fn hp_Kn (hp_La l0 (hp_Lm (z := (0 + (1 * m + 0))) l1 rfl (by omega) hp_Ln)) (hp_Si (z := ((-1) + 0)) rfl (by omega) trivial) ?_ ?_
  · intro p_9 hp ys l' st' h' hys a1_9 a2 a3 gZ gL gS
    rcases List.mem_cons.mp hp with rfl | hp
    · obtain rfl := hp_y0 hys
      cases hp_gSn gS
      exact e0 l' h' a1_9 a2 a3 (hp_gLa gL (List.mem_of_getElem? (i := 0) rfl) (by decide)) (hp_gLm (z := (0 + (1 * m + 0))) gL (List.mem_of_getElem? (i := 1) rfl) rfl (by omega)) (hp_gLi (z := ((-1) + 0)) gL (List.mem_of_getElem? (i := 2) rfl) rfl (by omega)) (hp_gLi (z := (0 + 0)) gL (List.mem_of_getElem? (i := 3) rfl) rfl (by omega)) (hp_gLi (z := (0 + 0)) gL (List.mem_of_getElem? (i := 4) rfl) rfl (by omega))
    cases hp
  · intro p_9 hp ys v_9 h' hys a1_9 a2 a3 gZ gS
    cases hp
theorem wh7_k : hq_chk [124] 145 26 3 [(0, 0, 99), (1, 0, 28), (2, 0, 27)] [((-1), [(1, 1), (2, (-1))])] [(0, .inr (.inr (.inl (some 44)))), (1, .inr (.inr (.inr (0, (0, [(0, 1)]))))), (2, .inl ((-1), [])), (3, .inl (0, [])), (4, .inl (0, [(2, 1)]))] [] [(45570, (0, [(0, 1)]), (0, [(1, 1)]))] [] 4 [(26, ([], 3, [(0, 0, 99), (1, 0, 28), (2, 0, 27)], [], [(0, .inr (.inr (.inl (some 44)))), (1, .inr (.inr (.inr (0, (0, [(0, 1)]))))), (2, .inl ((-1), [])), (3, .inl (0, [])), (4, .inl (1, [(2, 1)]))], [], []))] [] = true := by decide +kernel
theorem wh7 {cst : am_K} {strs : List Nat} {Φ : am_Q → Prop} {D : Nat} {M : am_M} {h : am_H} {l : am_L} (c : hp_C cst strs D) (hM : m_P[145]? = some M) (hD : (4 : Int) ≤ (D : Int) + 1) (hy : ly_hy m_tt ly_TH h) (m n i : Int) (b0 : 0 ≤ m) (t0 : m ≤ 99) (b1 : 0 ≤ n) (t1 : n ≤ 28) (b2 : 0 ≤ i) (t2 : i ≤ 27) (f0 : 0 ≤ (n - i - 1)) (k0 : ly_hv cst h 45570 (m) = some (n)) (l0 : hp_a l 0 44) (l1 : hp_ml l 1 h.length (m)) (l2 : hp_i l 2 (-1)) (l3 : hp_i l 3 0) (l4 : hp_i l 4 (i)) (e0 : ∀ (l' : am_L) (h' : am_H), ly_hy m_tt ly_TH h' → ly_fr cst [] h h' → h.length ≤ h'.length → hp_a l' 0 44 → hp_ml l' 1 h'.length (m) → hp_i l' 2 (-1) → hp_i l' 3 0 → hp_i l' 4 (i + 1) → hp_F cst strs Φ D M 26 l' [] h') : hp_F cst strs Φ D M 26 l [] h := by
  refine hq_arc c hM wh7_k hD [m, n, i] rfl hy (hp_Bc (z := m) rfl b0 t0 (hp_Bc (z := n) rfl b1 t1 (hp_Bc (z := i) rfl b2 t2 hp_Bn))) (hp_Fc (z := ((-1) + (1 * n + ((-1) * i + 0)))) rfl (by omega) hp_Fn) (hp_Kc (zi := (0 + (1 * m + 0))) (zv := (0 + (1 * n + 0))) k0 rfl rfl (by omega) (by omega) hp_Kn) (hp_La l0 (hp_Lm (z := (0 + (1 * m + 0))) l1 rfl (by omega) (hp_Li (z := ((-1) + 0)) l2 rfl (by omega) (hp_Li (z := (0 + 0)) l3 rfl (by omega) (hp_Li (z := (0 + (1 * i + 0))) l4 rfl (by omega) hp_Ln))))) trivial ?_ ?_
  · intro p_9 hp ys l' st' h' hys a1_9 a2 a3 gZ gL gS
    rcases List.mem_cons.mp hp with rfl | hp
    · obtain rfl := hp_y0 hys
      cases hp_gSn gS
      exact e0 l' h' a1_9 a2 a3 (hp_gLa gL (List.mem_of_getElem? (i := 0) rfl) (by decide)) (hp_gLm (z := (0 + (1 * m + 0))) gL (List.mem_of_getElem? (i := 1) rfl) rfl (by omega)) (hp_gLi (z := ((-1) + 0)) gL (List.mem_of_getElem? (i := 2) rfl) rfl (by omega)) (hp_gLi (z := (0 + 0)) gL (List.mem_of_getElem? (i := 3) rfl) rfl (by omega)) (hp_gLi (z := (1 + (1 * i + 0))) gL (List.mem_of_getElem? (i := 4) rfl) rfl (by omega))
    cases hp
  · intro p_9 hp ys v_9 h' hys a1_9 a2 a3 gZ gS
    cases hp
theorem wh8_k : hq_chk [124] 145 26 2 [(0, 0, 99), (1, 0, 28)] [] [(0, .inr (.inr (.inl (some 44)))), (1, .inr (.inr (.inr (0, (0, [(0, 1)]))))), (2, .inl ((-1), [])), (3, .inl (0, [])), (4, .inl (0, [(1, 1)]))] [] [(45570, (0, [(0, 1)]), (0, [(1, 1)]))] [] 4 [] [([], 2, [(0, 0, 99), (1, 0, 28)], [], [], [.inl ((-1), [])], [])] = true := by decide +kernel
theorem wh8 {cst : am_K} {strs : List Nat} {Φ : am_Q → Prop} {D : Nat} {M : am_M} {h : am_H} {l : am_L} (c : hp_C cst strs D) (hM : m_P[145]? = some M) (hD : (4 : Int) ≤ (D : Int) + 1) (hy : ly_hy m_tt ly_TH h) (m n : Int) (b0 : 0 ≤ m) (t0 : m ≤ 99) (b1 : 0 ≤ n) (t1 : n ≤ 28) (k0 : ly_hv cst h 45570 (m) = some (n)) (l0 : hp_a l 0 44) (l1 : hp_ml l 1 h.length (m)) (l2 : hp_i l 2 (-1)) (l3 : hp_i l 3 0) (l4 : hp_i l 4 (n)) (r0 : ∀ (h' : am_H) (y0 : Int32), y0.toInt = (-1) → ly_hy m_tt ly_TH h' → ly_fr cst [] h h' → h.length ≤ h'.length → Φ (some (.int y0), h', 0, 0)) : hp_F cst strs Φ D M 26 l [] h := by
  refine hq_arc c hM wh8_k hD [m, n] rfl hy (hp_Bc (z := m) rfl b0 t0 (hp_Bc (z := n) rfl b1 t1 hp_Bn)) hp_Fn (hp_Kc (zi := (0 + (1 * m + 0))) (zv := (0 + (1 * n + 0))) k0 rfl rfl (by omega) (by omega) hp_Kn) (hp_La l0 (hp_Lm (z := (0 + (1 * m + 0))) l1 rfl (by omega) (hp_Li (z := ((-1) + 0)) l2 rfl (by omega) (hp_Li (z := (0 + 0)) l3 rfl (by omega) (hp_Li (z := (0 + (1 * n + 0))) l4 rfl (by omega) hp_Ln))))) trivial ?_ ?_
  · intro p_9 hp ys l' st' h' hys a1_9 a2 a3 gZ gL gS
    cases hp
  · intro p_9 hp ys v_9 h' hys a1_9 a2 a3 gZ gS
    rcases List.mem_cons.mp hp with rfl | hp
    · obtain rfl := hp_y0 hys
      cases v_9 with
      | none => cases gS
      | some wz =>
        obtain ⟨y0, t0, s0_9, q0, -⟩ := hp_gSi (z := ((-1) + 0)) gS rfl
        cases s0_9
        exact r0 h' y0 (by omega) a1_9 a2 a3
    cases hp
theorem wh9_k : hp_chk 145 0 4 [(0, 0, 99), (1, (-9223372036854775808), 9223372036854775807), (2, (-2147483648), 2147483647), (3, (-2147483648), 2147483647)] [] [(0, .inr (.inr (.inl (some 44)))), (1, .inr (.inr (.inr (0, (0, [(0, 1)])))))] [] [(45312, (0, [(0, 1)]), (0, [(1, 1)])), (45317, (0, [(0, 1)]), (0, [(2, 1)])), (45315, (0, [(0, 1)]), (0, [(3, 1)]))] [] 2 [(17, ([], 4, [(0, 0, 99), (1, (-9223372036854775808), 9223372036854775807), (2, (-2147483648), 2147483647), (3, (-2147483648), 2147483647)], [], [(0, .inr (.inr (.inl (some 44)))), (1, .inr (.inr (.inr (0, (0, [(0, 1)])))))], [.inl (0, [(3, 1)]), .inl (0, [(2, 1)]), .inr (.inl (0, [(1, 1)])), .inl (1, []), .inr (.inr (.inl (some 30)))], []))] [] = true := by decide +kernel
theorem wh9 {cst : am_K} {strs : List Nat} {Φ : am_Q → Prop} {D : Nat} {M : am_M} {h : am_H} {l : am_L} (c : hp_C cst strs D) (hM : m_P[145]? = some M) (hD : (2 : Int) ≤ (D : Int) + 1) (hy : ly_hy m_tt ly_TH h) (m v y s : Int) (b0 : 0 ≤ m) (t0 : m ≤ 99) (b1 : (-9223372036854775808) ≤ v) (t1 : v ≤ 9223372036854775807) (b2 : (-2147483648) ≤ y) (t2 : y ≤ 2147483647) (b3 : (-2147483648) ≤ s) (t3 : s ≤ 2147483647) (k0 : ly_hv cst h 45312 (m) = some (v)) (k1 : ly_hv cst h 45317 (m) = some (y)) (k2 : ly_hv cst h 45315 (m) = some (s)) (l0 : hp_a l 0 44) (l1 : hp_ml l 1 h.length (m)) (e0 : ∀ (l' : am_L) (h' : am_H) (y0 : Int32) (y1 : Int32) (y2 : Int64) (y3 : Int32), y0.toInt = (s) → y1.toInt = (y) → y2.toInt = (v) → y3.toInt = 1 → ly_hy m_tt ly_TH h' → ly_fr cst [] h h' → h.length ≤ h'.length → hp_a l' 0 44 → hp_ml l' 1 h'.length (m) → hp_F cst strs Φ D M 17 l' [.int y0, .int y1, .long y2, .int y3, .ref 30] h') : hp_F cst strs Φ D M 0 l [] h := by
  refine hp_arc c hM wh9_k hD [m, v, y, s] rfl hy (hp_Bc (z := m) rfl b0 t0 (hp_Bc (z := v) rfl b1 t1 (hp_Bc (z := y) rfl b2 t2 (hp_Bc (z := s) rfl b3 t3 hp_Bn)))) hp_Fn (hp_Kc (zi := (0 + (1 * m + 0))) (zv := (0 + (1 * v + 0))) k0 rfl rfl (by omega) (by omega) (hp_Kc (zi := (0 + (1 * m + 0))) (zv := (0 + (1 * y + 0))) k1 rfl rfl (by omega) (by omega) (hp_Kc (zi := (0 + (1 * m + 0))) (zv := (0 + (1 * s + 0))) k2 rfl rfl (by omega) (by omega) hp_Kn))) (hp_La l0 (hp_Lm (z := (0 + (1 * m + 0))) l1 rfl (by omega) hp_Ln)) trivial ?_ ?_
  · intro p_9 hp ys l' st' h' hys a1_9 a2 a3 gZ gL gS
    rcases List.mem_cons.mp hp with rfl | hp
    · obtain rfl := hp_y0 hys
      obtain ⟨y0, t0, rfl, q0, g0⟩ := hp_gSi (z := (0 + (1 * s + 0))) gS rfl
      obtain ⟨y1, t1, rfl, q1_9, g1⟩ := hp_gSi (z := (0 + (1 * y + 0))) g0 rfl
      obtain ⟨y2, t2, rfl, q2_9, g2⟩ := hp_gSj (z := (0 + (1 * v + 0))) g1 rfl
      obtain ⟨y3, t3, rfl, q3_9, g3_9⟩ := hp_gSi (z := (1 + 0)) g2 rfl
      obtain ⟨t4_9, rfl, g4⟩ := hp_gSa g3_9 (by decide)
      cases hp_gSn g4
      exact e0 l' h' y0 y1 y2 y3 (by omega) (by omega) (by omega) (by omega) a1_9 a2 a3 (hp_gLa gL (List.mem_of_getElem? (i := 0) rfl) (by decide)) (hp_gLm (z := (0 + (1 * m + 0))) gL (List.mem_of_getElem? (i := 1) rfl) rfl (by omega))
    cases hp
  · intro p_9 hp ys v h' hys a1_9 a2 a3 gZ gS
    cases hp
/-- what wordNotHad answers -/
def wh_A (ws row : List Int) : Int := if wn9 ws row 0 < ws.length then (wn9 ws row 0 : Int) else -1
/-- the words of a matter, of the class -/
def wR (cst : am_K) (h : am_H) (m : Int) (row : List Int) : Prop := row.length ≤ 28 ∧ ly_hv cst h 45570 m = some (row.length : Int) ∧ ∀ i (hi : i < row.length), ly_hv cst h 45824 (32 * m + (i : Int)) = some (row[i]) ∧ -9223372036854775808 ≤ row[i] ∧ row[i] ≤ 9223372036854775807
theorem wR_mv {cst : am_K} {h h' : am_H} {m : Int} {row : List Int} {ms : List Nat} (R : wR cst h m row) (fr : ly_fr cst ms h h') (q1 : ly_has 45570 ms = false) (q2 : ly_has 45824 ms = false) : wR cst h' m row := ⟨R.1, fr _ _ _ q1 R.2.1, fun i_9 hi_9 => ⟨fr _ _ _ q2 (R.2.2 i_9 hi_9).1, (R.2.2 i_9 hi_9).2⟩⟩
set_option maxRecDepth 8000 in
theorem wh_lp {cst : am_K} {strs : List Nat} {D : Nat} {M : am_M} {h0 : am_H} (c : hp_C cst strs D) (hM : m_P[145]? = some M) (hD : 4 ≤ D) {m : Int} (m0 : 0 ≤ m) (m1 : m ≤ 99) {cx : Int} {row ws : List Int} (I : cI cst h0 cx ws) (w8 : ws.length ≤ 8) (wb : ∀ k_9 (hk : k_9 < ws.length), -9223372036854775808 ≤ ws[k_9] ∧ ws[k_9] ≤ 9223372036854775807) (R : wR cst h0 m row) {Φ : am_Q → Prop} (fin : ∀ (w_9 : Int32) (h2 : am_H), w_9.toInt = wh_A ws row → ly_hy m_tt ly_TH h2 → ly_fr cst [] h0 h2 → Φ (some (.int w_9), h2, 0, 0)) : ∀ (Q_9 : Nat) (h_9 : am_H) (l : am_L) (i_9 k_9 : Nat), i_9 + Q_9 = row.length → k_9 ≤ ws.length → ly_hy m_tt ly_TH h_9 → ly_fr cst [] h0 h_9 → wn9 ws (row.drop i_9) k_9 = wn9 ws row 0 → hp_a l 0 44 → hp_ml l 1 h_9.length m → hp_i l 2 cx → hp_i l 3 (k_9 : Int) → hp_i l 4 (i_9 : Int) → hp_F cst strs Φ D M 26 l [] h_9 := by
  obtain ⟨cl, f_9, a1_9, a2, a3, a4, a5, a6, a7, a8, a9⟩ := I
  obtain ⟨n28_9, kn_9, kr⟩ := R
  intro Q_9
  induction Q_9 with
  | zero =>
    intro h_9 l i_9 k_9 e_9 hk hy fr_9 ek l0 l1 l2 l3 l4
    have ei : i_9 = row.length := by omega
    rw [List.drop_eq_nil_of_le (by omega)] at ek
    have ek : k_9 = wn9 ws row 0 := ek
    rw [ei] at l4
    by_cases z_9 : k_9 < ws.length
    · exact wh4 c hM (by omega) hy m cx cl f_9 (f_9 + (ws.length : Int)) (row.length : Int) (k_9 : Int) m0 m1 a2 (by omega) (by omega) a4 a7 (by omega) (by omega) a8 (by omega) (by omega) (by omega) (by omega) (by omega) (by omega) (by omega) (fr_9 _ _ _ rfl a1_9) (fr_9 _ _ _ rfl a5) (fr_9 _ _ _ rfl a6) (fr_9 _ _ _ rfl kn_9) l0 l1 l2 l3 l4 (fun h5 w_9 hw u1_9 u2_9 u3 => fin w_9 h5 (by
        rw [hw]
        unfold wh_A
        rw [← ek, if_pos z_9]) u1_9 (ly_fr_tr fr_9 u2_9))
    · exact wh5 c hM (by omega) hy m cx cl f_9 (f_9 + (ws.length : Int)) (row.length : Int) (k_9 : Int) m0 m1 a2 (by omega) (by omega) a4 a7 (by omega) (by omega) a8 (by omega) (by omega) (by omega) (by omega) (by omega) (by omega) (by omega) (fr_9 _ _ _ rfl a1_9) (fr_9 _ _ _ rfl a5) (fr_9 _ _ _ rfl a6) (fr_9 _ _ _ rfl kn_9) l0 l1 l2 l3 l4 (fun h5 w_9 hw u1_9 u2_9 u3 => fin w_9 h5 (by
        rw [hw]
        unfold wh_A
        rw [← ek, if_neg z_9]) u1_9 (ly_fr_tr fr_9 u2_9))
  | succ Q_9 ih_9 =>
    intro h_9 l i_9 k_9 e_9 hk hy fr_9 ek l0 l1 l2 l3 l4
    have hi_9 : i_9 < row.length := by omega
    obtain ⟨kx, x0_9, x1_9⟩ := kr i_9 hi_9
    have kx := fr_9 _ _ _ rfl kx
    rw [List.drop_eq_getElem_cons hi_9] at ek
    have ek : wn9 ws (row.drop (i_9 + 1)) (if ws[k_9]? = some (row[i_9]) then k_9 + 1 else k_9) = wn9 ws row 0 := ek
    have ni : (((i_9 + 1 : Nat)) : Int) = (i_9 : Int) + 1 := by omega
    have nk : (((k_9 + 1 : Nat)) : Int) = (k_9 : Int) + 1 := by omega
    by_cases z_9 : k_9 < ws.length
    · have kz := fr_9 _ _ _ rfl (a9 k_9 z_9)
      obtain ⟨b0, b1⟩ := wb k_9 z_9
      rw [List.getElem?_eq_getElem z_9] at ek
      by_cases q_9 : row[i_9] = ws[k_9]
      · rw [if_pos (by rw [q_9])] at ek
        rw [← q_9] at kz
        exact wh2 c hM (by omega) hy m cx cl f_9 (f_9 + (ws.length : Int)) (row.length : Int) (k_9 : Int) (i_9 : Int) (row[i_9]) m0 m1 a2 (by omega) (by omega) a4 a7 (by omega) (by omega) a8 (by omega) (by omega) (by omega) (by omega) (by omega) (by omega) x0_9 x1_9 (by omega) (by omega) (by omega) (by omega) (fr_9 _ _ _ rfl a1_9) (fr_9 _ _ _ rfl a5) (fr_9 _ _ _ rfl a6) (fr_9 _ _ _ rfl kn_9) kx kz l0 l1 l2 l3 l4 (fun l2' h2 u1_9 u2_9 u3 n0_9 n1_9 n2_9 n3_9 n4_9 => ih_9 h2 l2' (i_9 + 1) (k_9 + 1) (by omega) (by omega) u1_9 (ly_fr_tr fr_9 u2_9) ek n0_9 n1_9 n2_9 (by rw [nk]; exact n3_9) (by rw [ni]; exact n4_9))
      · rw [if_neg (fun t_9 => q_9 (Option.some.inj t_9).symm)] at ek
        exact wh3 c hM (by omega) hy m cx cl f_9 (f_9 + (ws.length : Int)) (row.length : Int) (k_9 : Int) (i_9 : Int) (row[i_9]) (ws[k_9]) m0 m1 a2 (by omega) (by omega) a4 a7 (by omega) (by omega) a8 (by omega) (by omega) (by omega) (by omega) (by omega) (by omega) x0_9 x1_9 b0 b1 (by omega) (by omega) (by omega) (by omega) (fr_9 _ _ _ rfl a1_9) (fr_9 _ _ _ rfl a5) (fr_9 _ _ _ rfl a6) (fr_9 _ _ _ rfl kn_9) kx kz (hp_ne (by omega)) l0 l1 l2 l3 l4 (fun l2' h2 u1_9 u2_9 u3 n0_9 n1_9 n2_9 n3_9 n4_9 => ih_9 h2 l2' (i_9 + 1) k_9 (by omega) hk u1_9 (ly_fr_tr fr_9 u2_9) ek n0_9 n1_9 n2_9 n3_9 (by rw [ni]; exact n4_9))
    · rw [List.getElem?_eq_none (by omega), if_neg (fun t_9 => by cases t_9)] at ek
      exact wh1 c hM (by omega) hy m cx cl f_9 (f_9 + (ws.length : Int)) (row.length : Int) (k_9 : Int) (i_9 : Int) m0 m1 a2 (by omega) (by omega) a4 a7 (by omega) (by omega) a8 (by omega) (by omega) (by omega) (by omega) (by omega) (by omega) (by omega) (by omega) (by omega) (by omega) (fr_9 _ _ _ rfl a1_9) (fr_9 _ _ _ rfl a5) (fr_9 _ _ _ rfl a6) (fr_9 _ _ _ rfl kn_9) l0 l1 l2 l3 l4 (fun l2' h2 u1_9 u2_9 u3 n0_9 n1_9 n2_9 n3_9 n4_9 => ih_9 h2 l2' (i_9 + 1) k_9 (by omega) hk u1_9 (ly_fr_tr fr_9 u2_9) ek n0_9 n1_9 n2_9 n3_9 (by rw [ni]; exact n4_9))
set_option maxRecDepth 8000 in
/-- no clause of words: all is had -/
theorem wh_l0 {cst : am_K} {strs : List Nat} {D : Nat} {M : am_M} {h0 : am_H} (c : hp_C cst strs D) (hM : m_P[145]? = some M) (hD : 4 ≤ D) {m : Int} (m0 : 0 ≤ m) (m1 : m ≤ 99) {n : Nat} (n28 : n ≤ 28) (kn : ly_hv cst h0 45570 m = some (n : Int)) {Φ : am_Q → Prop} (fin : ∀ (w_9 : Int32) (h2 : am_H), w_9.toInt = -1 → ly_hy m_tt ly_TH h2 → ly_fr cst [] h0 h2 → Φ (some (.int w_9), h2, 0, 0)) : ∀ (Q_9 : Nat) (h_9 : am_H) (l : am_L) (i_9 : Nat), i_9 + Q_9 = n → ly_hy m_tt ly_TH h_9 → ly_fr cst [] h0 h_9 → hp_a l 0 44 → hp_ml l 1 h_9.length m → hp_i l 2 (-1) → hp_i l 3 0 → hp_i l 4 (i_9 : Int) → hp_F cst strs Φ D M 26 l [] h_9 := by
  intro Q_9
  induction Q_9 with
  | zero =>
    intro h_9 l i_9 e_9 hy fr_9 l0 l1 l2 l3 l4
    have ei : i_9 = n := by omega
    rw [ei] at l4
    exact wh8 c hM (by omega) hy m (n : Int) m0 m1 (by omega) (by omega) (fr_9 _ _ _ rfl kn) l0 l1 l2 l3 l4 (fun h5 w_9 hw u1_9 u2_9 u3 => fin w_9 h5 hw u1_9 (ly_fr_tr fr_9 u2_9))
  | succ Q_9 ih_9 =>
    intro h_9 l i_9 e_9 hy fr_9 l0 l1 l2 l3 l4
    exact wh7 c hM (by omega) hy m (n : Int) (i_9 : Int) m0 m1 (by omega) (by omega) (by omega) (by omega) (by omega) (fr_9 _ _ _ rfl kn) l0 l1 l2 l3 l4 (fun l2' h2 u1_9 u2_9 u3 n0_9 n1_9 n2_9 n3_9 n4_9 => ih_9 h2 l2' (i_9 + 1) (by omega) u1_9 (ly_fr_tr fr_9 u2_9) n0_9 n1_9 n2_9 n3_9 (by rw [show (((i_9 + 1 : Nat)) : Int) = (i_9 : Int) + 1 by omega]; exact n4_9))
/-- wordNotHad -/
theorem wh_run {cst : am_K} {strs : List Nat} {D : Nat} {h0 : am_H} (cc : ∀ d, hp_C cst strs d) (hD : 4 ≤ D) (hy : ly_hy m_tt ly_TH h0) {X : List rX} {i0 : List Int} (I : LC cst h0 X i0) (x30 : X.length ≤ 30) (g12 : (fX X).length ≤ 1240) (P : ∀ a_9 (ha_9 : a_9 < X.length), ra_l (X[a_9])) {m : Nat} (m1 : (m : Int) ≤ 99) (hm : 177 + 19 * (m + 1) ≤ h0.length) {d y s : Int} (kd : ly_hv cst h0 45312 (m : Int) = some d) (ky : ly_hv cst h0 45317 (m : Int) = some y) (ks : ly_hv cst h0 45315 (m : Int) = some s) (d0 : -9223372036854775808 ≤ d) (d1 : d ≤ 9223372036854775807) (y0 : -2147483648 ≤ y) (y1 : y ≤ 2147483647) (s0 : -2147483648 ≤ s) (s1 : s ≤ 2147483647) {row : List Int} (R : wR cst h0 (m : Int) row) :
    ∃ r_9, am_Run cst m_cl m_tt m_P strs sx_bi (D + 4) 145 [.ref 44, .ref (16 + (177 + 19 * m + 0))] h0 r_9 ∧ (fun r_9 : am_Q => ∃ w_9 : Int32, r_9.1 = some (.int w_9) ∧ r_9.2.2.1 = 0 ∧ r_9.2.2.2 = 0 ∧ ly_hy m_tt ly_TH r_9.2.1 ∧ ly_fr cst [] h0 r_9.2.1 ∧ ((∃ (a_9 j_9 : Nat) (ha_9 : a_9 < X.length) (hj : j_9 < (X[a_9]).2.2.1.length), inF X 1 d y s a_9 j_9 ∧ w_9.toInt = wh_A ((X[a_9]).2.2.1[j_9]).2.2.2 row) ∨ (noF X 1 d y s ∧ w_9.toInt = -1))) r_9 := by
  obtain ⟨M_9, hM_9, hl⟩ := hp_M (mi := 145) (k := 2) (by decide +kernel)
  have c : hp_C cst strs (D + 3) := cc _
  have go_9 : hp_F cst strs (fun r_9 : am_Q => ∃ w_9 : Int32, r_9.1 = some (.int w_9) ∧ r_9.2.2.1 = 0 ∧ r_9.2.2.2 = 0 ∧ ly_hy m_tt ly_TH r_9.2.1 ∧ ly_fr cst [] h0 r_9.2.1 ∧ ((∃ (a_9 j_9 : Nat) (ha_9 : a_9 < X.length) (hj : j_9 < (X[a_9]).2.2.1.length), inF X 1 d y s a_9 j_9 ∧ w_9.toInt = wh_A ((X[a_9]).2.2.1[j_9]).2.2.2 row) ∨ (noF X 1 d y s ∧ w_9.toInt = -1))) (D + 3) M_9 0 (lv_args 0 [.ref 44, .ref (16 + (177 + 19 * m + 0))]) [] h0 := by
    refine wh9 c hM_9 (by omega) hy (m : Int) d y s (by omega) m1 d0 d1 y0 y1 s0 s1 kd ky ks rfl ⟨m, rfl, rfl, hm⟩ (fun l1 h1 z0 z1 z2 z3 e0_9 e1_9 e2_9 e3_9 u1_9 u2_9 u3 g0 g1 => ?_)
    obtain ⟨r_9, hrun, w_9, r1_9, r2, r3, rhy, rfr, rres⟩ := fo_run (D := D) cc (by omega) u1_9 (LC_mv I u2_9 rfl) x30 g12 (k := 1) (d := d) (y := y) (s := s) (by decide) (by decide) (xk := z3) (xd := z2) (xy := z1) (xs := z0) e3_9 e2_9 e1_9 e0_9
    refine hp_call (mi := 145) (pc := 17) (tg := 53) (na := 5) (c := 14) (ci := 3) (st0 := [.int z0, .int z1, .long z2, .int z3, .ref 30]) (st := []) (av := [.int z3, .long z2, .int z1, .int z0]) hM_9 (by decide +kernel) u1_9 rfl rfl rfl (by decide) hrun r2 r3 ?_
    rw [r1_9]
    have F2 : ly_fr cst [] h0 r_9.2.1 := ly_fr_tr u2_9 rfr
    have g1' := hp_mlm g1 (hp_len2 rfr rfl)
    rcases rres with ⟨a_9, j_9, hF, ew⟩ | ⟨nF, ew⟩
    · obtain ⟨⟨ha_9, _, ⟨hj, e1', _⟩, _⟩, _⟩ := id hF
      have I2_9 := LC_mv I F2 rfl
      have CI_9 := cI_of rhy I2_9 g12 ha_9 hj
      obtain ⟨p1_9, -, -, -, -, -, p7_9⟩ := P a_9 ha_9
      obtain ⟨-, w8, -⟩ := (p7_9 j_9 hj (by omega)).2 e1'
      have le_9 := fX_le X a_9 ha_9
      have wb : ∀ k (hk : k < ((X[a_9]).2.2.1[j_9]).2.2.2.length), -9223372036854775808 ≤ ((X[a_9]).2.2.1[j_9]).2.2.2[k] ∧ ((X[a_9]).2.2.1[j_9]).2.2.2[k] ≤ 9223372036854775807 := fun k hk => by
        obtain ⟨cl, f_9, a1_9, a2, a3, a4, a5, a6, a7, a8, a9⟩ := CI_9
        obtain ⟨v_9, kw', w0_9, w1_9⟩ := hp_rowj (cst := cst) (i := f_9 + (k : Int)) rhy (show ly_ths ly_TH 23 = some (.inl (.long, 10240, 0, 0)) from rfl) (by omega) (by omega)
        have kw' : ly_hv cst r_9.2.1 5888 (f_9 + (k : Int)) = some v_9 := kw'
        have ev_9 := Option.some.inj ((a9 k hk).symm.trans kw')
        have w0_9 : -9223372036854775808 ≤ v_9 := w0_9
        have w1_9 : v_9 ≤ 9223372036854775807 := w1_9
        omega
      refine wh0 c hM_9 (by omega) rhy (m : Int) (((fX (X.take a_9)).length : Int) + (j_9 : Int)) w_9 ew (by omega) m1 (by omega) (by omega) g0 g1' (fun l3 h3 v1_9 v2 v3 n0_9 n1_9 n2_9 n3_9 n4_9 => ?_)
      exact wh_lp c hM_9 (by omega) (by omega) m1 CI_9 w8 wb (wR_mv R F2 rfl rfl) (fun w5 h5 e5_9 x1_9 x2_9 => ⟨w5, rfl, rfl, rfl, x1_9, ly_fr_tr F2 x2_9, Or.inl ⟨a_9, j_9, ha_9, hj, hF, e5_9⟩⟩) row.length h3 l3 0 0 (by omega) (Nat.zero_le _) v1_9 v2 (by rw [List.drop_zero]) n0_9 n1_9 n2_9 n3_9 n4_9
    · refine wh6 c hM_9 (by omega) rhy (m : Int) w_9 ew (by omega) m1 g0 g1' (fun l3 h3 v1_9 v2 v3 n0_9 n1_9 n2_9 n3_9 n4_9 => ?_)
      exact wh_l0 c hM_9 (by omega) (by omega) m1 R.1 (F2 _ _ _ rfl R.2.1) (fun w5 h5 e5_9 x1_9 x2_9 => ⟨w5, rfl, rfl, rfl, x1_9, ly_fr_tr F2 x2_9, Or.inr ⟨nF, e5_9⟩⟩) row.length h3 l3 0 (by omega) v1_9 v2 n0_9 n1_9 n2_9 n3_9 n4_9
  obtain ⟨n', r_9, hgo, w_9, r1_9, r2, r3, r4⟩ := go_9
  simp only [Nat.zero_add] at r2 r3
  exact ⟨r_9, Or.inr ⟨M_9, n', hM_9, hl, hgo⟩, w_9, r1_9, r2, r3, r4⟩
