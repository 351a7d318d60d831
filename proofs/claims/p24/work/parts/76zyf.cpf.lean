/-! PRINTED by wip/p2/hp_cpf.py: copyFrom of a matter's Row, allege of the class, exactly -/
theorem cf40_k : hp_chk 142 0 1 [(0, 0, 99)] [] [(0, .inr (.inr (.inr (4, (0, [(0, 1)]))))), (1, .inr (.inr (.inl (some 91))))] [] [] [] 2 [(1, ([], 1, [(0, 0, 99)], [], [(0, .inr (.inr (.inr (4, (0, [(0, 1)]))))), (1, .inr (.inr (.inl (some 91))))], [.inr (.inr (.inr (4, (0, [(0, 1)]))))], []))] [] = true := by decide +kernel
theorem cf40 {cst : am_K} {strs : List Nat} {Φ : am_Q → Prop} {D : Nat} {M : am_M} {h : am_H} {l : am_L} (c : hp_C cst strs D) (hM : m_P[142]? = some M) (hD : (2 : Int) ≤ (D : Int) + 1) (hy : ly_hy m_tt ly_TH h) (m : Int) (b0 : 0 ≤ m) (t0 : m ≤ 99) (l0 : hp_mlj l 0 4 h.length (m)) (l1 : hp_a l 1 91) (e0 : ∀ (l' : am_L) (h_9' : am_H) (y0 : Nat), (y0 : Int) = (m) → 177 + 19 * (y0 + 1) ≤ h_9'.length → ly_hy m_tt ly_TH h_9' → ly_fr cst [] h h_9' → h.length ≤ h_9'.length → hp_mlj l' 0 4 h_9'.length (m) → hp_a l' 1 91 → hp_F cst strs Φ D M 1 l' [.ref (16 + (177 + 19 * y0 + 4))] h_9') : hp_F cst strs Φ D M 0 l [] h := by
  refine hp_arc c hM cf40_k hD [m] rfl hy (hp_Bc (z := m) rfl b0 t0 hp_Bn) hp_Fn hp_Kn (hp_Lmj (by decide) (z := (0 + (1 * m + 0))) l0 rfl (by omega) (hp_La l1 hp_Ln)) trivial ?_ ?_
  · intro p_9 hp ys l' st_9' h_9' hys a1_9 a2 a3 gZ gL gS
    rcases List.mem_cons.mp hp with rfl | hp
    · obtain rfl := hp_y0 hys
      obtain ⟨y0, t0, rfl, q0, p0_9, g0⟩ := hp_gSmj (z := (0 + (1 * m + 0))) gS rfl
      cases hp_gSn g0
      exact e0 l' h_9' y0 (by omega) p0_9 a1_9 a2 a3 (hp_gLmj (z := (0 + (1 * m + 0))) gL (List.mem_of_getElem? (i := 0) rfl) rfl (by omega)) (hp_gLa gL (List.mem_of_getElem? (i := 1) rfl) (by decide))
    cases hp
  · intro p_9 hp ys v_9 h_9' hys a1_9 a2 a3 gZ gS
    cases hp
theorem cf41_k : hp_chk 142 4 1 [(0, 0, 99)] [] [(0, .inr (.inr (.inr (4, (0, [(0, 1)]))))), (1, .inr (.inr (.inl (some 91))))] [] [] [] 2 [(6, ([], 1, [(0, 0, 99)], [], [(0, .inr (.inr (.inr (4, (0, [(0, 1)]))))), (1, .inr (.inr (.inl (some 91)))), (2, .inl (0, []))], [], []))] [] = true := by decide +kernel
theorem cf41 {cst : am_K} {strs : List Nat} {Φ : am_Q → Prop} {D : Nat} {M : am_M} {h : am_H} {l : am_L} (c : hp_C cst strs D) (hM : m_P[142]? = some M) (hD : (2 : Int) ≤ (D : Int) + 1) (hy : ly_hy m_tt ly_TH h) (m : Int) (b0 : 0 ≤ m) (t0 : m ≤ 99) (l0 : hp_mlj l 0 4 h.length (m)) (l1 : hp_a l 1 91) (e0 : ∀ (l' : am_L) (h_9' : am_H), ly_hy m_tt ly_TH h_9' → ly_fr cst [] h h_9' → h.length ≤ h_9'.length → hp_mlj l' 0 4 h_9'.length (m) → hp_a l' 1 91 → hp_i l' 2 0 → hp_F cst strs Φ D M 6 l' [] h_9') : hp_F cst strs Φ D M 4 l [] h := by
  refine hp_arc c hM cf41_k hD [m] rfl hy (hp_Bc (z := m) rfl b0 t0 hp_Bn) hp_Fn hp_Kn (hp_Lmj (by decide) (z := (0 + (1 * m + 0))) l0 rfl (by omega) (hp_La l1 hp_Ln)) trivial ?_ ?_
  · intro p_9 hp ys l' st_9' h_9' hys a1_9 a2 a3 gZ gL gS
    rcases List.mem_cons.mp hp with rfl | hp
    · obtain rfl := hp_y0 hys
      cases hp_gSn gS
      exact e0 l' h_9' a1_9 a2 a3 (hp_gLmj (z := (0 + (1 * m + 0))) gL (List.mem_of_getElem? (i := 0) rfl) rfl (by omega)) (hp_gLa gL (List.mem_of_getElem? (i := 1) rfl) (by decide)) (hp_gLi (z := (0 + 0)) gL (List.mem_of_getElem? (i := 2) rfl) rfl (by omega))
    cases hp
  · intro p_9 hp ys v_9 h_9' hys a1_9 a2 a3 gZ gS
    cases hp
theorem cf42_k : hp_chk 142 6 5 [(0, 0, 99), (1, 0, 20), (2, 0, 19), (3, (-9223372036854775808), 9223372036854775807), (4, (-2147483648), 2147483647)] [((-1), [(1, 1), (2, (-1))])] [(0, .inr (.inr (.inr (4, (0, [(0, 1)]))))), (1, .inr (.inr (.inl (some 91)))), (2, .inl (0, [(2, 1)]))] [] [(19202, (0, []), (0, [(1, 1)])), (19456, (0, [(2, 1)]), (0, [(3, 1)])), (19712, (0, [(2, 1)]), (0, [(4, 1)]))] [] 2 [(27, ([], 5, [(0, 0, 99), (1, 0, 20), (2, 0, 19), (3, (-9223372036854775808), 9223372036854775807), (4, (-2147483648), 2147483647)], [], [(0, .inr (.inr (.inr (4, (0, [(0, 1)]))))), (1, .inr (.inr (.inl (some 91)))), (2, .inl (0, [(2, 1)]))], [.inl (0, [(4, 1)]), .inr (.inl (0, [(3, 1)])), .inr (.inr (.inr (4, (0, [(0, 1)]))))], []))] [] = true := by decide +kernel
theorem cf42 {cst : am_K} {strs : List Nat} {Φ : am_Q → Prop} {D : Nat} {M : am_M} {h : am_H} {l : am_L} (c : hp_C cst strs D) (hM : m_P[142]? = some M) (hD : (2 : Int) ≤ (D : Int) + 1) (hy : ly_hy m_tt ly_TH h) (m z i v u : Int) (b0 : 0 ≤ m) (t0 : m ≤ 99) (b1 : 0 ≤ z) (t1 : z ≤ 20) (b2 : 0 ≤ i) (t2 : i ≤ 19) (b3 : (-9223372036854775808) ≤ v) (t3 : v ≤ 9223372036854775807) (b4 : (-2147483648) ≤ u) (t4 : u ≤ 2147483647) (f0 : 0 ≤ (z - i - 1)) (k0 : ly_hv cst h 19202 0 = some (z)) (k1 : ly_hv cst h 19456 (i) = some (v)) (k2 : ly_hv cst h 19712 (i) = some (u)) (l0 : hp_mlj l 0 4 h.length (m)) (l1 : hp_a l 1 91) (l2 : hp_i l 2 (i)) (e0 : ∀ (l' : am_L) (h_9' : am_H) (y0 : Int32) (y1 : Int64) (y2 : Nat), y0.toInt = (u) → y1.toInt = (v) → (y2 : Int) = (m) → 177 + 19 * (y2 + 1) ≤ h_9'.length → ly_hy m_tt ly_TH h_9' → ly_fr cst [] h h_9' → h.length ≤ h_9'.length → hp_mlj l' 0 4 h_9'.length (m) → hp_a l' 1 91 → hp_i l' 2 (i) → hp_F cst strs Φ D M 27 l' [.int y0, .long y1, .ref (16 + (177 + 19 * y2 + 4))] h_9') : hp_F cst strs Φ D M 6 l [] h := by
  refine hp_arc c hM cf42_k hD [m, z, i, v, u] rfl hy (hp_Bc (z := m) rfl b0 t0 (hp_Bc (z := z) rfl b1 t1 (hp_Bc (z := i) rfl b2 t2 (hp_Bc (z := v) rfl b3 t3 (hp_Bc (z := u) rfl b4 t4 hp_Bn))))) (hp_Fc (z := ((-1) + (1 * z + ((-1) * i + 0)))) rfl (by omega) hp_Fn) (hp_Kc (zi := (0 + 0)) (zv := (0 + (1 * z + 0))) k0 rfl rfl (by omega) (by omega) (hp_Kc (zi := (0 + (1 * i + 0))) (zv := (0 + (1 * v + 0))) k1 rfl rfl (by omega) (by omega) (hp_Kc (zi := (0 + (1 * i + 0))) (zv := (0 + (1 * u + 0))) k2 rfl rfl (by omega) (by omega) hp_Kn))) (hp_Lmj (by decide) (z := (0 + (1 * m + 0))) l0 rfl (by omega) (hp_La l1 (hp_Li (z := (0 + (1 * i + 0))) l2 rfl (by omega) hp_Ln))) trivial ?_ ?_
  · intro p_9 hp ys l' st_9' h_9' hys a1_9 a2 a3 gZ gL gS
    rcases List.mem_cons.mp hp with rfl | hp
    · obtain rfl := hp_y0 hys
      obtain ⟨y0, t0, rfl, q0, g0⟩ := hp_gSi (z := (0 + (1 * u + 0))) gS rfl
      obtain ⟨y1, t1, rfl, q1_9, g1⟩ := hp_gSj (z := (0 + (1 * v + 0))) g0 rfl
      obtain ⟨y2, t2, rfl, q2_9, p2_9, g2⟩ := hp_gSmj (z := (0 + (1 * m + 0))) g1 rfl
      cases hp_gSn g2
      exact e0 l' h_9' y0 y1 y2 (by omega) (by omega) (by omega) p2_9 a1_9 a2 a3 (hp_gLmj (z := (0 + (1 * m + 0))) gL (List.mem_of_getElem? (i := 0) rfl) rfl (by omega)) (hp_gLa gL (List.mem_of_getElem? (i := 1) rfl) (by decide)) (hp_gLi (z := (0 + (1 * i + 0))) gL (List.mem_of_getElem? (i := 2) rfl) rfl (by omega))
    cases hp
  · intro p_9 hp ys v h_9' hys a1_9 a2 a3 gZ gS
    cases hp
theorem cf43_k : hp_chk 142 30 3 [(0, 0, 99), (1, 0, 19), (2, (-2147483648), 2147483647)] [] [(0, .inr (.inr (.inr (4, (0, [(0, 1)]))))), (1, .inr (.inr (.inl (some 91)))), (2, .inl (0, [(1, 1)]))] [.inl (0, [(2, 1)])] [] [] 2 [(6, ([], 3, [(0, 0, 99), (1, 0, 19), (2, (-2147483648), 2147483647)], [], [(0, .inr (.inr (.inr (4, (0, [(0, 1)]))))), (1, .inr (.inr (.inl (some 91)))), (2, .inl (1, [(1, 1)]))], [], []))] [] = true := by decide +kernel
theorem cf43 {cst : am_K} {strs : List Nat} {Φ : am_Q → Prop} {D : Nat} {M : am_M} {h : am_H} {l : am_L} (c : hp_C cst strs D) (hM : m_P[142]? = some M) (hD : (2 : Int) ≤ (D : Int) + 1) (hy : ly_hy m_tt ly_TH h) (m i q : Int) (x0 : Int32) (hx0 : x0.toInt = (q)) (b0 : 0 ≤ m) (t0 : m ≤ 99) (b1 : 0 ≤ i) (t1 : i ≤ 19) (b2 : (-2147483648) ≤ q) (t2 : q ≤ 2147483647) (l0 : hp_mlj l 0 4 h.length (m)) (l1 : hp_a l 1 91) (l2 : hp_i l 2 (i)) (e0 : ∀ (l' : am_L) (h_9' : am_H), ly_hy m_tt ly_TH h_9' → ly_fr cst [] h h_9' → h.length ≤ h_9'.length → hp_mlj l' 0 4 h_9'.length (m) → hp_a l' 1 91 → hp_i l' 2 (i + 1) → hp_F cst strs Φ D M 6 l' [] h_9') : hp_F cst strs Φ D M 30 l [.int x0] h := by
  refine hp_arc c hM cf43_k hD [m, i, q] rfl hy (hp_Bc (z := m) rfl b0 t0 (hp_Bc (z := i) rfl b1 t1 (hp_Bc (z := q) rfl b2 t2 hp_Bn))) hp_Fn hp_Kn (hp_Lmj (by decide) (z := (0 + (1 * m + 0))) l0 rfl (by omega) (hp_La l1 (hp_Li (z := (0 + (1 * i + 0))) l2 rfl (by omega) hp_Ln))) (hp_Si (z := (0 + (1 * q + 0))) rfl (by omega) trivial) ?_ ?_
  · intro p_9 hp ys l' st_9' h_9' hys a1_9 a2 a3 gZ gL gS
    rcases List.mem_cons.mp hp with rfl | hp
    · obtain rfl := hp_y0 hys
      cases hp_gSn gS
      exact e0 l' h_9' a1_9 a2 a3 (hp_gLmj (z := (0 + (1 * m + 0))) gL (List.mem_of_getElem? (i := 0) rfl) rfl (by omega)) (hp_gLa gL (List.mem_of_getElem? (i := 1) rfl) (by decide)) (hp_gLi (z := (1 + (1 * i + 0))) gL (List.mem_of_getElem? (i := 2) rfl) rfl (by omega))
    cases hp
  · intro p_9 hp ys v_9 h_9' hys a1_9 a2 a3 gZ gS
    cases hp
theorem cf44_k : hp_chk 142 6 3 [(0, 0, 99), (1, 0, 20), (2, 0, 1)] [] [(0, .inr (.inr (.inr (4, (0, [(0, 1)]))))), (1, .inr (.inr (.inl (some 91)))), (2, .inl (0, [(1, 1)]))] [] [(19202, (0, []), (0, [(1, 1)])), (19203, (0, []), (0, [(2, 1)]))] [] 2 [(42, ([], 3, [(0, 0, 99), (1, 0, 20), (2, 0, 1)], [], [(0, .inr (.inr (.inr (4, (0, [(0, 1)]))))), (1, .inr (.inr (.inl (some 91)))), (2, .inl (0, [(1, 1)]))], [.inl (0, [(2, 1)]), .inr (.inr (.inr (4, (0, [(0, 1)]))))], []))] [] = true := by decide +kernel
theorem cf44 {cst : am_K} {strs : List Nat} {Φ : am_Q → Prop} {D : Nat} {M : am_M} {h : am_H} {l : am_L} (c : hp_C cst strs D) (hM : m_P[142]? = some M) (hD : (2 : Int) ≤ (D : Int) + 1) (hy : ly_hy m_tt ly_TH h) (m z o : Int) (b0 : 0 ≤ m) (t0 : m ≤ 99) (b1 : 0 ≤ z) (t1 : z ≤ 20) (b2 : 0 ≤ o) (t2 : o ≤ 1) (k0 : ly_hv cst h 19202 0 = some (z)) (k1 : ly_hv cst h 19203 0 = some (o)) (l0 : hp_mlj l 0 4 h.length (m)) (l1 : hp_a l 1 91) (l2 : hp_i l 2 (z)) (e0 : ∀ (l' : am_L) (h_9' : am_H) (y0 : Int32) (y1 : Nat), y0.toInt = (o) → (y1 : Int) = (m) → 177 + 19 * (y1 + 1) ≤ h_9'.length → ly_hy m_tt ly_TH h_9' → ly_fr cst [] h h_9' → h.length ≤ h_9'.length → hp_mlj l' 0 4 h_9'.length (m) → hp_a l' 1 91 → hp_i l' 2 (z) → hp_F cst strs Φ D M 42 l' [.int y0, .ref (16 + (177 + 19 * y1 + 4))] h_9') : hp_F cst strs Φ D M 6 l [] h := by
  refine hp_arc c hM cf44_k hD [m, z, o] rfl hy (hp_Bc (z := m) rfl b0 t0 (hp_Bc (z := z) rfl b1 t1 (hp_Bc (z := o) rfl b2 t2 hp_Bn))) hp_Fn (hp_Kc (zi := (0 + 0)) (zv := (0 + (1 * z + 0))) k0 rfl rfl (by omega) (by omega) (hp_Kc (zi := (0 + 0)) (zv := (0 + (1 * o + 0))) k1 rfl rfl (by omega) (by omega) hp_Kn)) (hp_Lmj (by decide) (z := (0 + (1 * m + 0))) l0 rfl (by omega) (hp_La l1 (hp_Li (z := (0 + (1 * z + 0))) l2 rfl (by omega) hp_Ln))) trivial ?_ ?_
  · intro p_9 hp ys l' st_9' h_9' hys a1_9 a2 a3 gZ gL gS
    rcases List.mem_cons.mp hp with rfl | hp
    · obtain rfl := hp_y0 hys
      obtain ⟨y0, t0, rfl, q0, g0⟩ := hp_gSi (z := (0 + (1 * o + 0))) gS rfl
      obtain ⟨y1, t1, rfl, q1_9, p1_9, g1⟩ := hp_gSmj (z := (0 + (1 * m + 0))) g0 rfl
      cases hp_gSn g1
      exact e0 l' h_9' y0 y1 (by omega) (by omega) p1_9 a1_9 a2 a3 (hp_gLmj (z := (0 + (1 * m + 0))) gL (List.mem_of_getElem? (i := 0) rfl) rfl (by omega)) (hp_gLa gL (List.mem_of_getElem? (i := 1) rfl) (by decide)) (hp_gLi (z := (0 + (1 * z + 0))) gL (List.mem_of_getElem? (i := 2) rfl) rfl (by omega))
    cases hp
  · intro p_9 hp ys v_9 h_9' hys a1_9 a2 a3 gZ gS
    cases hp
theorem cf45_k : hp_chk 142 45 2 [(0, 0, 99), (1, 0, 20)] [] [(0, .inr (.inr (.inr (4, (0, [(0, 1)]))))), (1, .inr (.inr (.inl (some 91)))), (2, .inl (0, [(1, 1)]))] [] [] [] 2 [] [([], 2, [(0, 0, 99), (1, 0, 20)], [], [], [], [])] = true := by decide +kernel
theorem cf45 {cst : am_K} {strs : List Nat} {Φ : am_Q → Prop} {D : Nat} {M : am_M} {h : am_H} {l : am_L} (c : hp_C cst strs D) (hM : m_P[142]? = some M) (hD : (2 : Int) ≤ (D : Int) + 1) (hy : ly_hy m_tt ly_TH h) (m z : Int) (b0 : 0 ≤ m) (t0 : m ≤ 99) (b1 : 0 ≤ z) (t1 : z ≤ 20) (l0 : hp_mlj l 0 4 h.length (m)) (l1 : hp_a l 1 91) (l2 : hp_i l 2 (z)) (r0 : ∀ (h_9' : am_H), ly_hy m_tt ly_TH h_9' → ly_fr cst [] h h_9' → h.length ≤ h_9'.length → Φ (none, h_9', 0, 0)) : hp_F cst strs Φ D M 45 l [] h := by
  refine hp_arc c hM cf45_k hD [m, z] rfl hy (hp_Bc (z := m) rfl b0 t0 (hp_Bc (z := z) rfl b1 t1 hp_Bn)) hp_Fn hp_Kn (hp_Lmj (by decide) (z := (0 + (1 * m + 0))) l0 rfl (by omega) (hp_La l1 (hp_Li (z := (0 + (1 * z + 0))) l2 rfl (by omega) hp_Ln))) trivial ?_ ?_
  · intro p_9 hp ys l' st_9' h_9' hys a1_9 a2 a3 gZ gL gS
    cases hp
  · intro p_9 hp ys v_9 h_9' hys a1_9 a2 a3 gZ gS
    rcases List.mem_cons.mp hp with rfl | hp
    · obtain rfl := hp_y0 hys
      have sv := hp_gSn gS
      cases v_9 with
      | some wz => cases sv
      | none =>
        exact r0 h_9' a1_9 a2 a3
    cases hp
theorem cf10_k : hp_chk 142 0 1 [(0, 0, 99)] [] [(0, .inr (.inr (.inr (1, (0, [(0, 1)]))))), (1, .inr (.inr (.inl (some 56))))] [] [] [] 2 [(1, ([], 1, [(0, 0, 99)], [], [(0, .inr (.inr (.inr (1, (0, [(0, 1)]))))), (1, .inr (.inr (.inl (some 56))))], [.inr (.inr (.inr (1, (0, [(0, 1)]))))], []))] [] = true := by decide +kernel
theorem cf10 {cst : am_K} {strs : List Nat} {Φ : am_Q → Prop} {D : Nat} {M : am_M} {h : am_H} {l : am_L} (c : hp_C cst strs D) (hM : m_P[142]? = some M) (hD : (2 : Int) ≤ (D : Int) + 1) (hy : ly_hy m_tt ly_TH h) (m : Int) (b0 : 0 ≤ m) (t0 : m ≤ 99) (l0 : hp_mlj l 0 1 h.length (m)) (l1 : hp_a l 1 56) (e0 : ∀ (l' : am_L) (h_9' : am_H) (y0 : Nat), (y0 : Int) = (m) → 177 + 19 * (y0 + 1) ≤ h_9'.length → ly_hy m_tt ly_TH h_9' → ly_fr cst [] h h_9' → h.length ≤ h_9'.length → hp_mlj l' 0 1 h_9'.length (m) → hp_a l' 1 56 → hp_F cst strs Φ D M 1 l' [.ref (16 + (177 + 19 * y0 + 1))] h_9') : hp_F cst strs Φ D M 0 l [] h := by
  refine hp_arc c hM cf10_k hD [m] rfl hy (hp_Bc (z := m) rfl b0 t0 hp_Bn) hp_Fn hp_Kn (hp_Lmj (by decide) (z := (0 + (1 * m + 0))) l0 rfl (by omega) (hp_La l1 hp_Ln)) trivial ?_ ?_
  · intro p_9 hp ys l' st_9' h_9' hys a1_9 a2 a3 gZ gL gS
    rcases List.mem_cons.mp hp with rfl | hp
    · obtain rfl := hp_y0 hys
      obtain ⟨y0, t0, rfl, q0, p0_9, g0⟩ := hp_gSmj (z := (0 + (1 * m + 0))) gS rfl
      cases hp_gSn g0
      exact e0 l' h_9' y0 (by omega) p0_9 a1_9 a2 a3 (hp_gLmj (z := (0 + (1 * m + 0))) gL (List.mem_of_getElem? (i := 0) rfl) rfl (by omega)) (hp_gLa gL (List.mem_of_getElem? (i := 1) rfl) (by decide))
    cases hp
  · intro p_9 hp ys v_9 h_9' hys a1_9 a2 a3 gZ gS
    cases hp
theorem cf11_k : hp_chk 142 4 1 [(0, 0, 99)] [] [(0, .inr (.inr (.inr (1, (0, [(0, 1)]))))), (1, .inr (.inr (.inl (some 56))))] [] [] [] 2 [(6, ([], 1, [(0, 0, 99)], [], [(0, .inr (.inr (.inr (1, (0, [(0, 1)]))))), (1, .inr (.inr (.inl (some 56)))), (2, .inl (0, []))], [], []))] [] = true := by decide +kernel
theorem cf11 {cst : am_K} {strs : List Nat} {Φ : am_Q → Prop} {D : Nat} {M : am_M} {h : am_H} {l : am_L} (c : hp_C cst strs D) (hM : m_P[142]? = some M) (hD : (2 : Int) ≤ (D : Int) + 1) (hy : ly_hy m_tt ly_TH h) (m : Int) (b0 : 0 ≤ m) (t0 : m ≤ 99) (l0 : hp_mlj l 0 1 h.length (m)) (l1 : hp_a l 1 56) (e0 : ∀ (l' : am_L) (h_9' : am_H), ly_hy m_tt ly_TH h_9' → ly_fr cst [] h h_9' → h.length ≤ h_9'.length → hp_mlj l' 0 1 h_9'.length (m) → hp_a l' 1 56 → hp_i l' 2 0 → hp_F cst strs Φ D M 6 l' [] h_9') : hp_F cst strs Φ D M 4 l [] h := by
  refine hp_arc c hM cf11_k hD [m] rfl hy (hp_Bc (z := m) rfl b0 t0 hp_Bn) hp_Fn hp_Kn (hp_Lmj (by decide) (z := (0 + (1 * m + 0))) l0 rfl (by omega) (hp_La l1 hp_Ln)) trivial ?_ ?_
  · intro p_9 hp ys l' st_9' h_9' hys a1_9 a2 a3 gZ gL gS
    rcases List.mem_cons.mp hp with rfl | hp
    · obtain rfl := hp_y0 hys
      cases hp_gSn gS
      exact e0 l' h_9' a1_9 a2 a3 (hp_gLmj (z := (0 + (1 * m + 0))) gL (List.mem_of_getElem? (i := 0) rfl) rfl (by omega)) (hp_gLa gL (List.mem_of_getElem? (i := 1) rfl) (by decide)) (hp_gLi (z := (0 + 0)) gL (List.mem_of_getElem? (i := 2) rfl) rfl (by omega))
    cases hp
  · intro p_9 hp ys v_9 h_9' hys a1_9 a2 a3 gZ gS
    cases hp
theorem cf12_k : hp_chk 142 6 5 [(0, 0, 99), (1, 0, 28), (2, 0, 27), (3, (-9223372036854775808), 9223372036854775807), (4, (-2147483648), 2147483647)] [((-1), [(1, 1), (2, (-1))])] [(0, .inr (.inr (.inr (1, (0, [(0, 1)]))))), (1, .inr (.inr (.inl (some 56)))), (2, .inl (0, [(2, 1)]))] [] [(10242, (0, []), (0, [(1, 1)])), (10496, (0, [(2, 1)]), (0, [(3, 1)])), (10752, (0, [(2, 1)]), (0, [(4, 1)]))] [] 2 [(27, ([], 5, [(0, 0, 99), (1, 0, 28), (2, 0, 27), (3, (-9223372036854775808), 9223372036854775807), (4, (-2147483648), 2147483647)], [], [(0, .inr (.inr (.inr (1, (0, [(0, 1)]))))), (1, .inr (.inr (.inl (some 56)))), (2, .inl (0, [(2, 1)]))], [.inl (0, [(4, 1)]), .inr (.inl (0, [(3, 1)])), .inr (.inr (.inr (1, (0, [(0, 1)]))))], []))] [] = true := by decide +kernel
theorem cf12 {cst : am_K} {strs : List Nat} {Φ : am_Q → Prop} {D : Nat} {M : am_M} {h : am_H} {l : am_L} (c : hp_C cst strs D) (hM : m_P[142]? = some M) (hD : (2 : Int) ≤ (D : Int) + 1) (hy : ly_hy m_tt ly_TH h) (m z i v u : Int) (b0 : 0 ≤ m) (t0 : m ≤ 99) (b1 : 0 ≤ z) (t1 : z ≤ 28) (b2 : 0 ≤ i) (t2 : i ≤ 27) (b3 : (-9223372036854775808) ≤ v) (t3 : v ≤ 9223372036854775807) (b4 : (-2147483648) ≤ u) (t4 : u ≤ 2147483647) (f0 : 0 ≤ (z - i - 1)) (k0 : ly_hv cst h 10242 0 = some (z)) (k1 : ly_hv cst h 10496 (i) = some (v)) (k2 : ly_hv cst h 10752 (i) = some (u)) (l0 : hp_mlj l 0 1 h.length (m)) (l1 : hp_a l 1 56) (l2 : hp_i l 2 (i)) (e0 : ∀ (l' : am_L) (h_9' : am_H) (y0 : Int32) (y1 : Int64) (y2 : Nat), y0.toInt = (u) → y1.toInt = (v) → (y2 : Int) = (m) → 177 + 19 * (y2 + 1) ≤ h_9'.length → ly_hy m_tt ly_TH h_9' → ly_fr cst [] h h_9' → h.length ≤ h_9'.length → hp_mlj l' 0 1 h_9'.length (m) → hp_a l' 1 56 → hp_i l' 2 (i) → hp_F cst strs Φ D M 27 l' [.int y0, .long y1, .ref (16 + (177 + 19 * y2 + 1))] h_9') : hp_F cst strs Φ D M 6 l [] h := by
  refine hp_arc c hM cf12_k hD [m, z, i, v, u] rfl hy (hp_Bc (z := m) rfl b0 t0 (hp_Bc (z := z) rfl b1 t1 (hp_Bc (z := i) rfl b2 t2 (hp_Bc (z := v) rfl b3 t3 (hp_Bc (z := u) rfl b4 t4 hp_Bn))))) (hp_Fc (z := ((-1) + (1 * z + ((-1) * i + 0)))) rfl (by omega) hp_Fn) (hp_Kc (zi := (0 + 0)) (zv := (0 + (1 * z + 0))) k0 rfl rfl (by omega) (by omega) (hp_Kc (zi := (0 + (1 * i + 0))) (zv := (0 + (1 * v + 0))) k1 rfl rfl (by omega) (by omega) (hp_Kc (zi := (0 + (1 * i + 0))) (zv := (0 + (1 * u + 0))) k2 rfl rfl (by omega) (by omega) hp_Kn))) (hp_Lmj (by decide) (z := (0 + (1 * m + 0))) l0 rfl (by omega) (hp_La l1 (hp_Li (z := (0 + (1 * i + 0))) l2 rfl (by omega) hp_Ln))) trivial ?_ ?_
  · intro p_9 hp ys l' st_9' h_9' hys a1_9 a2 a3 gZ gL gS
    rcases List.mem_cons.mp hp with rfl | hp
    · obtain rfl := hp_y0 hys
      obtain ⟨y0, t0, rfl, q0, g0⟩ := hp_gSi (z := (0 + (1 * u + 0))) gS rfl
      obtain ⟨y1, t1, rfl, q1_9, g1⟩ := hp_gSj (z := (0 + (1 * v + 0))) g0 rfl
      obtain ⟨y2, t2, rfl, q2_9, p2_9, g2⟩ := hp_gSmj (z := (0 + (1 * m + 0))) g1 rfl
      cases hp_gSn g2
      exact e0 l' h_9' y0 y1 y2 (by omega) (by omega) (by omega) p2_9 a1_9 a2 a3 (hp_gLmj (z := (0 + (1 * m + 0))) gL (List.mem_of_getElem? (i := 0) rfl) rfl (by omega)) (hp_gLa gL (List.mem_of_getElem? (i := 1) rfl) (by decide)) (hp_gLi (z := (0 + (1 * i + 0))) gL (List.mem_of_getElem? (i := 2) rfl) rfl (by omega))
    cases hp
  · intro p_9 hp ys v h_9' hys a1_9 a2 a3 gZ gS
    cases hp
theorem cf13_k : hp_chk 142 30 3 [(0, 0, 99), (1, 0, 27), (2, (-2147483648), 2147483647)] [] [(0, .inr (.inr (.inr (1, (0, [(0, 1)]))))), (1, .inr (.inr (.inl (some 56)))), (2, .inl (0, [(1, 1)]))] [.inl (0, [(2, 1)])] [] [] 2 [(6, ([], 3, [(0, 0, 99), (1, 0, 27), (2, (-2147483648), 2147483647)], [], [(0, .inr (.inr (.inr (1, (0, [(0, 1)]))))), (1, .inr (.inr (.inl (some 56)))), (2, .inl (1, [(1, 1)]))], [], []))] [] = true := by decide +kernel
theorem cf13 {cst : am_K} {strs : List Nat} {Φ : am_Q → Prop} {D : Nat} {M : am_M} {h : am_H} {l : am_L} (c : hp_C cst strs D) (hM : m_P[142]? = some M) (hD : (2 : Int) ≤ (D : Int) + 1) (hy : ly_hy m_tt ly_TH h) (m i q : Int) (x0 : Int32) (hx0 : x0.toInt = (q)) (b0 : 0 ≤ m) (t0 : m ≤ 99) (b1 : 0 ≤ i) (t1 : i ≤ 27) (b2 : (-2147483648) ≤ q) (t2 : q ≤ 2147483647) (l0 : hp_mlj l 0 1 h.length (m)) (l1 : hp_a l 1 56) (l2 : hp_i l 2 (i)) (e0 : ∀ (l' : am_L) (h_9' : am_H), ly_hy m_tt ly_TH h_9' → ly_fr cst [] h h_9' → h.length ≤ h_9'.length → hp_mlj l' 0 1 h_9'.length (m) → hp_a l' 1 56 → hp_i l' 2 (i + 1) → hp_F cst strs Φ D M 6 l' [] h_9') : hp_F cst strs Φ D M 30 l [.int x0] h := by
  refine hp_arc c hM cf13_k hD [m, i, q] rfl hy (hp_Bc (z := m) rfl b0 t0 (hp_Bc (z := i) rfl b1 t1 (hp_Bc (z := q) rfl b2 t2 hp_Bn))) hp_Fn hp_Kn (hp_Lmj (by decide) (z := (0 + (1 * m + 0))) l0 rfl (by omega) (hp_La l1 (hp_Li (z := (0 + (1 * i + 0))) l2 rfl (by omega) hp_Ln))) (hp_Si (z := (0 + (1 * q + 0))) rfl (by omega) trivial) ?_ ?_
  · intro p_9 hp ys l' st_9' h_9' hys a1_9 a2 a3 gZ gL gS
    rcases List.mem_cons.mp hp with rfl | hp
    · obtain rfl := hp_y0 hys
      cases hp_gSn gS
      exact e0 l' h_9' a1_9 a2 a3 (hp_gLmj (z := (0 + (1 * m + 0))) gL (List.mem_of_getElem? (i := 0) rfl) rfl (by omega)) (hp_gLa gL (List.mem_of_getElem? (i := 1) rfl) (by decide)) (hp_gLi (z := (1 + (1 * i + 0))) gL (List.mem_of_getElem? (i := 2) rfl) rfl (by omega))
    cases hp
  · intro p_9 hp ys v_9 h_9' hys a1_9 a2 a3 gZ gS
    cases hp
theorem cf14_k : hp_chk 142 6 3 [(0, 0, 99), (1, 0, 28), (2, 0, 1)] [] [(0, .inr (.inr (.inr (1, (0, [(0, 1)]))))), (1, .inr (.inr (.inl (some 56)))), (2, .inl (0, [(1, 1)]))] [] [(10242, (0, []), (0, [(1, 1)])), (10243, (0, []), (0, [(2, 1)]))] [] 2 [(42, ([], 3, [(0, 0, 99), (1, 0, 28), (2, 0, 1)], [], [(0, .inr (.inr (.inr (1, (0, [(0, 1)]))))), (1, .inr (.inr (.inl (some 56)))), (2, .inl (0, [(1, 1)]))], [.inl (0, [(2, 1)]), .inr (.inr (.inr (1, (0, [(0, 1)]))))], []))] [] = true := by decide +kernel
theorem cf14 {cst : am_K} {strs : List Nat} {Φ : am_Q → Prop} {D : Nat} {M : am_M} {h : am_H} {l : am_L} (c : hp_C cst strs D) (hM : m_P[142]? = some M) (hD : (2 : Int) ≤ (D : Int) + 1) (hy : ly_hy m_tt ly_TH h) (m z o : Int) (b0 : 0 ≤ m) (t0 : m ≤ 99) (b1 : 0 ≤ z) (t1 : z ≤ 28) (b2 : 0 ≤ o) (t2 : o ≤ 1) (k0 : ly_hv cst h 10242 0 = some (z)) (k1 : ly_hv cst h 10243 0 = some (o)) (l0 : hp_mlj l 0 1 h.length (m)) (l1 : hp_a l 1 56) (l2 : hp_i l 2 (z)) (e0 : ∀ (l' : am_L) (h_9' : am_H) (y0 : Int32) (y1 : Nat), y0.toInt = (o) → (y1 : Int) = (m) → 177 + 19 * (y1 + 1) ≤ h_9'.length → ly_hy m_tt ly_TH h_9' → ly_fr cst [] h h_9' → h.length ≤ h_9'.length → hp_mlj l' 0 1 h_9'.length (m) → hp_a l' 1 56 → hp_i l' 2 (z) → hp_F cst strs Φ D M 42 l' [.int y0, .ref (16 + (177 + 19 * y1 + 1))] h_9') : hp_F cst strs Φ D M 6 l [] h := by
  refine hp_arc c hM cf14_k hD [m, z, o] rfl hy (hp_Bc (z := m) rfl b0 t0 (hp_Bc (z := z) rfl b1 t1 (hp_Bc (z := o) rfl b2 t2 hp_Bn))) hp_Fn (hp_Kc (zi := (0 + 0)) (zv := (0 + (1 * z + 0))) k0 rfl rfl (by omega) (by omega) (hp_Kc (zi := (0 + 0)) (zv := (0 + (1 * o + 0))) k1 rfl rfl (by omega) (by omega) hp_Kn)) (hp_Lmj (by decide) (z := (0 + (1 * m + 0))) l0 rfl (by omega) (hp_La l1 (hp_Li (z := (0 + (1 * z + 0))) l2 rfl (by omega) hp_Ln))) trivial ?_ ?_
  · intro p_9 hp ys l' st_9' h_9' hys a1_9 a2 a3 gZ gL gS
    rcases List.mem_cons.mp hp with rfl | hp
    · obtain rfl := hp_y0 hys
      obtain ⟨y0, t0, rfl, q0, g0⟩ := hp_gSi (z := (0 + (1 * o + 0))) gS rfl
      obtain ⟨y1, t1, rfl, q1_9, p1_9, g1⟩ := hp_gSmj (z := (0 + (1 * m + 0))) g0 rfl
      cases hp_gSn g1
      exact e0 l' h_9' y0 y1 (by omega) (by omega) p1_9 a1_9 a2 a3 (hp_gLmj (z := (0 + (1 * m + 0))) gL (List.mem_of_getElem? (i := 0) rfl) rfl (by omega)) (hp_gLa gL (List.mem_of_getElem? (i := 1) rfl) (by decide)) (hp_gLi (z := (0 + (1 * z + 0))) gL (List.mem_of_getElem? (i := 2) rfl) rfl (by omega))
    cases hp
  · intro p_9 hp ys v_9 h_9' hys a1_9 a2 a3 gZ gS
    cases hp
theorem cf15_k : hp_chk 142 45 2 [(0, 0, 99), (1, 0, 28)] [] [(0, .inr (.inr (.inr (1, (0, [(0, 1)]))))), (1, .inr (.inr (.inl (some 56)))), (2, .inl (0, [(1, 1)]))] [] [] [] 2 [] [([], 2, [(0, 0, 99), (1, 0, 28)], [], [], [], [])] = true := by decide +kernel
theorem cf15 {cst : am_K} {strs : List Nat} {Φ : am_Q → Prop} {D : Nat} {M : am_M} {h : am_H} {l : am_L} (c : hp_C cst strs D) (hM : m_P[142]? = some M) (hD : (2 : Int) ≤ (D : Int) + 1) (hy : ly_hy m_tt ly_TH h) (m z : Int) (b0 : 0 ≤ m) (t0 : m ≤ 99) (b1 : 0 ≤ z) (t1 : z ≤ 28) (l0 : hp_mlj l 0 1 h.length (m)) (l1 : hp_a l 1 56) (l2 : hp_i l 2 (z)) (r0 : ∀ (h_9' : am_H), ly_hy m_tt ly_TH h_9' → ly_fr cst [] h h_9' → h.length ≤ h_9'.length → Φ (none, h_9', 0, 0)) : hp_F cst strs Φ D M 45 l [] h := by
  refine hp_arc c hM cf15_k hD [m, z] rfl hy (hp_Bc (z := m) rfl b0 t0 (hp_Bc (z := z) rfl b1 t1 hp_Bn)) hp_Fn hp_Kn (hp_Lmj (by decide) (z := (0 + (1 * m + 0))) l0 rfl (by omega) (hp_La l1 (hp_Li (z := (0 + (1 * z + 0))) l2 rfl (by omega) hp_Ln))) trivial ?_ ?_
  · intro p_9 hp ys l' st_9' h_9' hys a1_9 a2 a3 gZ gL gS
    cases hp
  · intro p_9 hp ys v_9 h_9' hys a1_9 a2 a3 gZ gS
    rcases List.mem_cons.mp hp with rfl | hp
    · obtain rfl := hp_y0 hys
      have sv := hp_gSn gS
      cases v_9 with
      | some wz => cases sv
      | none =>
        exact r0 h_9' a1_9 a2 a3
    cases hp
theorem aq0_k : hq_chk [139] 141 7 2 [(0, (-2147483648), (-1)), (1, 0, 100)] [] [(0, .inr (.inr (.inl (some 16)))), (1, .inl (0, [(0, 1)]))] [] [(7170, (0, []), (0, [(1, 1)]))] [] 8 [] [([], 2, [(0, (-2147483648), (-1)), (1, 0, 100)], [], [], [.inl ((-2), [])], [])] = true := by decide +kernel
theorem aq0 {cst : am_K} {strs : List Nat} {Φ : am_Q → Prop} {D : Nat} {M : am_M} {h : am_H} {l : am_L} (c : hp_C cst strs D) (hM : m_P[141]? = some M) (hD : (8 : Int) ≤ (D : Int) + 1) (hy : ly_hy m_tt ly_TH h) (m s : Int) (b0 : (-2147483648) ≤ m) (t0 : m ≤ (-1)) (b1 : 0 ≤ s) (t1 : s ≤ 100) (k0 : ly_hv cst h 7170 0 = some (s)) (l0 : hp_a l 0 16) (l1 : hp_i l 1 (m)) (r0 : ∀ (h_9' : am_H) (y0 : Int32), y0.toInt = (-2) → ly_hy m_tt ly_TH h_9' → ly_fr cst [] h h_9' → h.length ≤ h_9'.length → Φ (some (.int y0), h_9', 0, 0)) : hp_F cst strs Φ D M 7 l [] h := by
  refine hq_arc c hM aq0_k hD [m, s] rfl hy (hp_Bc (z := m) rfl b0 t0 (hp_Bc (z := s) rfl b1 t1 hp_Bn)) hp_Fn (hp_Kc (zi := (0 + 0)) (zv := (0 + (1 * s + 0))) k0 rfl rfl (by omega) (by omega) hp_Kn) (hp_La l0 (hp_Li (z := (0 + (1 * m + 0))) l1 rfl (by omega) hp_Ln)) trivial ?_ ?_
  · intro p_9 hp ys l' st_9' h_9' hys a1_9 a2 a3 gZ gL gS
    cases hp
  · intro p_9 hp ys v_9 h_9' hys a1_9 a2 a3 gZ gS
    rcases List.mem_cons.mp hp with rfl | hp
    · obtain rfl := hp_y0 hys
      cases v_9 with
      | none => cases gS
      | some wz =>
        obtain ⟨y0, t0, s0_9, q0, -⟩ := hp_gSi (z := ((-2) + 0)) gS rfl
        cases s0_9
        exact r0 h_9' y0 (by omega) a1_9 a2 a3
    cases hp
theorem aq1_k : hq_chk [139] 141 7 2 [(0, 0, 2147483647), (1, 0, 100)] [(0, [(0, 1), (1, (-1))])] [(0, .inr (.inr (.inl (some 16)))), (1, .inl (0, [(0, 1)]))] [] [(7170, (0, []), (0, [(1, 1)]))] [] 8 [] [([], 2, [(0, 0, 2147483647), (1, 0, 100)], [], [], [.inl ((-2), [])], [])] = true := by decide +kernel
theorem aq1 {cst : am_K} {strs : List Nat} {Φ : am_Q → Prop} {D : Nat} {M : am_M} {h : am_H} {l : am_L} (c : hp_C cst strs D) (hM : m_P[141]? = some M) (hD : (8 : Int) ≤ (D : Int) + 1) (hy : ly_hy m_tt ly_TH h) (m s : Int) (b0 : 0 ≤ m) (t0 : m ≤ 2147483647) (b1 : 0 ≤ s) (t1 : s ≤ 100) (f0 : 0 ≤ (m - s)) (k0 : ly_hv cst h 7170 0 = some (s)) (l0 : hp_a l 0 16) (l1 : hp_i l 1 (m)) (r0 : ∀ (h_9' : am_H) (y0 : Int32), y0.toInt = (-2) → ly_hy m_tt ly_TH h_9' → ly_fr cst [] h h_9' → h.length ≤ h_9'.length → Φ (some (.int y0), h_9', 0, 0)) : hp_F cst strs Φ D M 7 l [] h := by
  refine hq_arc c hM aq1_k hD [m, s] rfl hy (hp_Bc (z := m) rfl b0 t0 (hp_Bc (z := s) rfl b1 t1 hp_Bn)) (hp_Fc (z := (0 + (1 * m + ((-1) * s + 0)))) rfl (by omega) hp_Fn) (hp_Kc (zi := (0 + 0)) (zv := (0 + (1 * s + 0))) k0 rfl rfl (by omega) (by omega) hp_Kn) (hp_La l0 (hp_Li (z := (0 + (1 * m + 0))) l1 rfl (by omega) hp_Ln)) trivial ?_ ?_
  · intro p_9 hp ys l' st_9' h_9' hys a1_9 a2 a3 gZ gL gS
    cases hp
  · intro p_9 hp ys v_9 h_9' hys a1_9 a2 a3 gZ gS
    rcases List.mem_cons.mp hp with rfl | hp
    · obtain rfl := hp_y0 hys
      cases v_9 with
      | none => cases gS
      | some wz =>
        obtain ⟨y0, t0, s0_9, q0, -⟩ := hp_gSi (z := ((-2) + 0)) gS rfl
        cases s0_9
        exact r0 h_9' y0 (by omega) a1_9 a2 a3
    cases hp
theorem aq20_k : hq_chk [139] 141 7 3 [(0, 0, 99), (1, 0, 100), (2, (-2147483648), (-2))] [((-1), [(0, (-1)), (1, 1)])] [(0, .inr (.inr (.inl (some 16)))), (1, .inl (0, [(0, 1)]))] [] [(7170, (0, []), (0, [(1, 1)])), (7424, (0, [(0, 1)]), (1, [])), (45313, (0, [(0, 1)]), (0, [(2, 1)]))] [] 8 [] [([], 3, [(0, 0, 99), (1, 0, 100), (2, (-2147483648), (-2))], [], [], [.inl ((-2), [])], [])] = true := by decide +kernel
theorem aq20 {cst : am_K} {strs : List Nat} {Φ : am_Q → Prop} {D : Nat} {M : am_M} {h : am_H} {l : am_L} (c : hp_C cst strs D) (hM : m_P[141]? = some M) (hD : (8 : Int) ≤ (D : Int) + 1) (hy : ly_hy m_tt ly_TH h) (m s q : Int) (b0 : 0 ≤ m) (t0 : m ≤ 99) (b1 : 0 ≤ s) (t1 : s ≤ 100) (b2 : (-2147483648) ≤ q) (t2 : q ≤ (-2)) (f0 : 0 ≤ (s - m - 1)) (k0 : ly_hv cst h 7170 0 = some (s)) (k1 : ly_hv cst h 7424 (m) = some 1) (k2 : ly_hv cst h 45313 (m) = some (q)) (l0 : hp_a l 0 16) (l1 : hp_i l 1 (m)) (r0 : ∀ (h_9' : am_H) (y0 : Int32), y0.toInt = (-2) → ly_hy m_tt ly_TH h_9' → ly_fr cst [] h h_9' → h.length ≤ h_9'.length → Φ (some (.int y0), h_9', 0, 0)) : hp_F cst strs Φ D M 7 l [] h := by
  refine hq_arc c hM aq20_k hD [m, s, q] rfl hy (hp_Bc (z := m) rfl b0 t0 (hp_Bc (z := s) rfl b1 t1 (hp_Bc (z := q) rfl b2 t2 hp_Bn))) (hp_Fc (z := ((-1) + ((-1) * m + (1 * s + 0)))) rfl (by omega) hp_Fn) (hp_Kc (zi := (0 + 0)) (zv := (0 + (1 * s + 0))) k0 rfl rfl (by omega) (by omega) (hp_Kc (zi := (0 + (1 * m + 0))) (zv := (1 + 0)) k1 rfl rfl (by omega) (by omega) (hp_Kc (zi := (0 + (1 * m + 0))) (zv := (0 + (1 * q + 0))) k2 rfl rfl (by omega) (by omega) hp_Kn))) (hp_La l0 (hp_Li (z := (0 + (1 * m + 0))) l1 rfl (by omega) hp_Ln)) trivial ?_ ?_
  · intro p_9 hp ys l' st_9' h_9' hys a1_9 a2 a3 gZ gL gS
    cases hp
  · intro p_9 hp ys v_9 h_9' hys a1_9 a2 a3 gZ gS
    rcases List.mem_cons.mp hp with rfl | hp
    · obtain rfl := hp_y0 hys
      cases v_9 with
      | none => cases gS
      | some wz =>
        obtain ⟨y0, t0, s0_9, q0, -⟩ := hp_gSi (z := ((-2) + 0)) gS rfl
        cases s0_9
        exact r0 h_9' y0 (by omega) a1_9 a2 a3
    cases hp
theorem aq21_k : hq_chk [139] 141 7 3 [(0, 0, 99), (1, 0, 100), (2, 0, 2147483647)] [((-1), [(0, (-1)), (1, 1)])] [(0, .inr (.inr (.inl (some 16)))), (1, .inl (0, [(0, 1)]))] [] [(7170, (0, []), (0, [(1, 1)])), (7424, (0, [(0, 1)]), (1, [])), (45313, (0, [(0, 1)]), (0, [(2, 1)]))] [] 8 [] [([], 3, [(0, 0, 99), (1, 0, 100), (2, 0, 2147483647)], [], [], [.inl ((-2), [])], [])] = true := by decide +kernel
theorem aq21 {cst : am_K} {strs : List Nat} {Φ : am_Q → Prop} {D : Nat} {M : am_M} {h : am_H} {l : am_L} (c : hp_C cst strs D) (hM : m_P[141]? = some M) (hD : (8 : Int) ≤ (D : Int) + 1) (hy : ly_hy m_tt ly_TH h) (m s q : Int) (b0 : 0 ≤ m) (t0 : m ≤ 99) (b1 : 0 ≤ s) (t1 : s ≤ 100) (b2 : 0 ≤ q) (t2 : q ≤ 2147483647) (f0 : 0 ≤ (s - m - 1)) (k0 : ly_hv cst h 7170 0 = some (s)) (k1 : ly_hv cst h 7424 (m) = some 1) (k2 : ly_hv cst h 45313 (m) = some (q)) (l0 : hp_a l 0 16) (l1 : hp_i l 1 (m)) (r0 : ∀ (h_9' : am_H) (y0 : Int32), y0.toInt = (-2) → ly_hy m_tt ly_TH h_9' → ly_fr cst [] h h_9' → h.length ≤ h_9'.length → Φ (some (.int y0), h_9', 0, 0)) : hp_F cst strs Φ D M 7 l [] h := by
  refine hq_arc c hM aq21_k hD [m, s, q] rfl hy (hp_Bc (z := m) rfl b0 t0 (hp_Bc (z := s) rfl b1 t1 (hp_Bc (z := q) rfl b2 t2 hp_Bn))) (hp_Fc (z := ((-1) + ((-1) * m + (1 * s + 0)))) rfl (by omega) hp_Fn) (hp_Kc (zi := (0 + 0)) (zv := (0 + (1 * s + 0))) k0 rfl rfl (by omega) (by omega) (hp_Kc (zi := (0 + (1 * m + 0))) (zv := (1 + 0)) k1 rfl rfl (by omega) (by omega) (hp_Kc (zi := (0 + (1 * m + 0))) (zv := (0 + (1 * q + 0))) k2 rfl rfl (by omega) (by omega) hp_Kn))) (hp_La l0 (hp_Li (z := (0 + (1 * m + 0))) l1 rfl (by omega) hp_Ln)) trivial ?_ ?_
  · intro p_9 hp ys l' st_9' h_9' hys a1_9 a2 a3 gZ gL gS
    cases hp
  · intro p_9 hp ys v_9 h_9' hys a1_9 a2 a3 gZ gS
    rcases List.mem_cons.mp hp with rfl | hp
    · obtain rfl := hp_y0 hys
      cases v_9 with
      | none => cases gS
      | some wz =>
        obtain ⟨y0, t0, s0_9, q0, -⟩ := hp_gSi (z := ((-2) + 0)) gS rfl
        cases s0_9
        exact r0 h_9' y0 (by omega) a1_9 a2 a3
    cases hp
theorem aq30_k : hq_chk [139] 141 7 3 [(0, 0, 99), (1, 0, 100), (2, (-2147483648), (-1))] [((-1), [(0, (-1)), (1, 1)])] [(0, .inr (.inr (.inl (some 16)))), (1, .inl (0, [(0, 1)]))] [] [(7170, (0, []), (0, [(1, 1)])), (7424, (0, [(0, 1)]), (1, [])), (45313, (0, [(0, 1)]), ((-1), [])), (45319, (0, [(0, 1)]), (0, [(2, 1)]))] [] 8 [] [([], 3, [(0, 0, 99), (1, 0, 100), (2, (-2147483648), (-1))], [], [], [.inl ((-4), [])], [])] = true := by decide +kernel
theorem aq30 {cst : am_K} {strs : List Nat} {Φ : am_Q → Prop} {D : Nat} {M : am_M} {h : am_H} {l : am_L} (c : hp_C cst strs D) (hM : m_P[141]? = some M) (hD : (8 : Int) ≤ (D : Int) + 1) (hy : ly_hy m_tt ly_TH h) (m s v : Int) (b0 : 0 ≤ m) (t0 : m ≤ 99) (b1 : 0 ≤ s) (t1 : s ≤ 100) (b2 : (-2147483648) ≤ v) (t2 : v ≤ (-1)) (f0 : 0 ≤ (s - m - 1)) (k0 : ly_hv cst h 7170 0 = some (s)) (k1 : ly_hv cst h 7424 (m) = some 1) (k2 : ly_hv cst h 45313 (m) = some (-1)) (k3 : ly_hv cst h 45319 (m) = some (v)) (l0 : hp_a l 0 16) (l1 : hp_i l 1 (m)) (r0 : ∀ (h_9' : am_H) (y0 : Int32), y0.toInt = (-4) → ly_hy m_tt ly_TH h_9' → ly_fr cst [] h h_9' → h.length ≤ h_9'.length → Φ (some (.int y0), h_9', 0, 0)) : hp_F cst strs Φ D M 7 l [] h := by
  refine hq_arc c hM aq30_k hD [m, s, v] rfl hy (hp_Bc (z := m) rfl b0 t0 (hp_Bc (z := s) rfl b1 t1 (hp_Bc (z := v) rfl b2 t2 hp_Bn))) (hp_Fc (z := ((-1) + ((-1) * m + (1 * s + 0)))) rfl (by omega) hp_Fn) (hp_Kc (zi := (0 + 0)) (zv := (0 + (1 * s + 0))) k0 rfl rfl (by omega) (by omega) (hp_Kc (zi := (0 + (1 * m + 0))) (zv := (1 + 0)) k1 rfl rfl (by omega) (by omega) (hp_Kc (zi := (0 + (1 * m + 0))) (zv := ((-1) + 0)) k2 rfl rfl (by omega) (by omega) (hp_Kc (zi := (0 + (1 * m + 0))) (zv := (0 + (1 * v + 0))) k3 rfl rfl (by omega) (by omega) hp_Kn)))) (hp_La l0 (hp_Li (z := (0 + (1 * m + 0))) l1 rfl (by omega) hp_Ln)) trivial ?_ ?_
  · intro p_9 hp ys l' st_9' h_9' hys a1_9 a2 a3 gZ gL gS
    cases hp
  · intro p_9 hp ys v h_9' hys a1_9 a2 a3 gZ gS
    rcases List.mem_cons.mp hp with rfl | hp
    · obtain rfl := hp_y0 hys
      cases v with
      | none => cases gS
      | some wz =>
        obtain ⟨y0, t0, s0_9, q0, -⟩ := hp_gSi (z := ((-4) + 0)) gS rfl
        cases s0_9
        exact r0 h_9' y0 (by omega) a1_9 a2 a3
    cases hp
theorem aq31_k : hq_chk [139] 141 7 3 [(0, 0, 99), (1, 0, 100), (2, 1, 2147483647)] [((-1), [(0, (-1)), (1, 1)])] [(0, .inr (.inr (.inl (some 16)))), (1, .inl (0, [(0, 1)]))] [] [(7170, (0, []), (0, [(1, 1)])), (7424, (0, [(0, 1)]), (1, [])), (45313, (0, [(0, 1)]), ((-1), [])), (45319, (0, [(0, 1)]), (0, [(2, 1)]))] [] 8 [] [([], 3, [(0, 0, 99), (1, 0, 100), (2, 1, 2147483647)], [], [], [.inl ((-4), [])], [])] = true := by decide +kernel
theorem aq31 {cst : am_K} {strs : List Nat} {Φ : am_Q → Prop} {D : Nat} {M : am_M} {h : am_H} {l : am_L} (c : hp_C cst strs D) (hM : m_P[141]? = some M) (hD : (8 : Int) ≤ (D : Int) + 1) (hy : ly_hy m_tt ly_TH h) (m s v : Int) (b0 : 0 ≤ m) (t0 : m ≤ 99) (b1 : 0 ≤ s) (t1 : s ≤ 100) (b2 : 1 ≤ v) (t2 : v ≤ 2147483647) (f0 : 0 ≤ (s - m - 1)) (k0 : ly_hv cst h 7170 0 = some (s)) (k1 : ly_hv cst h 7424 (m) = some 1) (k2 : ly_hv cst h 45313 (m) = some (-1)) (k3 : ly_hv cst h 45319 (m) = some (v)) (l0 : hp_a l 0 16) (l1 : hp_i l 1 (m)) (r0 : ∀ (h_9' : am_H) (y0 : Int32), y0.toInt = (-4) → ly_hy m_tt ly_TH h_9' → ly_fr cst [] h h_9' → h.length ≤ h_9'.length → Φ (some (.int y0), h_9', 0, 0)) : hp_F cst strs Φ D M 7 l [] h := by
  refine hq_arc c hM aq31_k hD [m, s, v] rfl hy (hp_Bc (z := m) rfl b0 t0 (hp_Bc (z := s) rfl b1 t1 (hp_Bc (z := v) rfl b2 t2 hp_Bn))) (hp_Fc (z := ((-1) + ((-1) * m + (1 * s + 0)))) rfl (by omega) hp_Fn) (hp_Kc (zi := (0 + 0)) (zv := (0 + (1 * s + 0))) k0 rfl rfl (by omega) (by omega) (hp_Kc (zi := (0 + (1 * m + 0))) (zv := (1 + 0)) k1 rfl rfl (by omega) (by omega) (hp_Kc (zi := (0 + (1 * m + 0))) (zv := ((-1) + 0)) k2 rfl rfl (by omega) (by omega) (hp_Kc (zi := (0 + (1 * m + 0))) (zv := (0 + (1 * v + 0))) k3 rfl rfl (by omega) (by omega) hp_Kn)))) (hp_La l0 (hp_Li (z := (0 + (1 * m + 0))) l1 rfl (by omega) hp_Ln)) trivial ?_ ?_
  · intro p_9 hp ys l' st_9' h_9' hys a1_9 a2 a3 gZ gL gS
    cases hp
  · intro p_9 hp ys v h_9' hys a1_9 a2 a3 gZ gS
    rcases List.mem_cons.mp hp with rfl | hp
    · obtain rfl := hp_y0 hys
      cases v with
      | none => cases gS
      | some wz =>
        obtain ⟨y0, t0, s0_9, q0, -⟩ := hp_gSi (z := ((-4) + 0)) gS rfl
        cases s0_9
        exact r0 h_9' y0 (by omega) a1_9 a2 a3
    cases hp
theorem aq5_k : hq_chk [139] 141 7 2 [(0, 0, 99), (1, 0, 100)] [((-1), [(0, (-1)), (1, 1)])] [(0, .inr (.inr (.inl (some 16)))), (1, .inl (0, [(0, 1)]))] [] [(7170, (0, []), (0, [(1, 1)])), (7424, (0, [(0, 1)]), (1, [])), (45313, (0, [(0, 1)]), ((-1), [])), (45319, (0, [(0, 1)]), (0, []))] [] 8 [(42, ([], 2, [(0, 0, 99), (1, 0, 100)], [], [(0, .inr (.inr (.inl (some 16)))), (1, .inl (0, [(0, 1)])), (2, .inr (.inr (.inr (0, (0, [(0, 1)])))))], [.inl (0, []), .inr (.inr (.inl (some 17))), .inr (.inr (.inl (some 91)))], []))] [] = true := by decide +kernel
theorem aq5 {cst : am_K} {strs : List Nat} {Φ : am_Q → Prop} {D : Nat} {M : am_M} {h : am_H} {l : am_L} (c : hp_C cst strs D) (hM : m_P[141]? = some M) (hD : (8 : Int) ≤ (D : Int) + 1) (hy : ly_hy m_tt ly_TH h) (m s : Int) (b0 : 0 ≤ m) (t0 : m ≤ 99) (b1 : 0 ≤ s) (t1 : s ≤ 100) (f0 : 0 ≤ (s - m - 1)) (k0 : ly_hv cst h 7170 0 = some (s)) (k1 : ly_hv cst h 7424 (m) = some 1) (k2 : ly_hv cst h 45313 (m) = some (-1)) (k3 : ly_hv cst h 45319 (m) = some 0) (l0 : hp_a l 0 16) (l1 : hp_i l 1 (m)) (e0 : ∀ (l' : am_L) (h_9' : am_H) (y0 : Int32), y0.toInt = 0 → ly_hy m_tt ly_TH h_9' → ly_fr cst [] h h_9' → h.length ≤ h_9'.length → hp_a l' 0 16 → hp_i l' 1 (m) → hp_ml l' 2 h_9'.length (m) → hp_F cst strs Φ D M 42 l' [.int y0, .ref 17, .ref 91] h_9') : hp_F cst strs Φ D M 7 l [] h := by
  refine hq_arc c hM aq5_k hD [m, s] rfl hy (hp_Bc (z := m) rfl b0 t0 (hp_Bc (z := s) rfl b1 t1 hp_Bn)) (hp_Fc (z := ((-1) + ((-1) * m + (1 * s + 0)))) rfl (by omega) hp_Fn) (hp_Kc (zi := (0 + 0)) (zv := (0 + (1 * s + 0))) k0 rfl rfl (by omega) (by omega) (hp_Kc (zi := (0 + (1 * m + 0))) (zv := (1 + 0)) k1 rfl rfl (by omega) (by omega) (hp_Kc (zi := (0 + (1 * m + 0))) (zv := ((-1) + 0)) k2 rfl rfl (by omega) (by omega) (hp_Kc (zi := (0 + (1 * m + 0))) (zv := (0 + 0)) k3 rfl rfl (by omega) (by omega) hp_Kn)))) (hp_La l0 (hp_Li (z := (0 + (1 * m + 0))) l1 rfl (by omega) hp_Ln)) trivial ?_ ?_
  · intro p_9 hp ys l' st_9' h_9' hys a1_9 a2 a3 gZ gL gS
    rcases List.mem_cons.mp hp with rfl | hp
    · obtain rfl := hp_y0 hys
      obtain ⟨y0, t0, rfl, q0, g0⟩ := hp_gSi (z := (0 + 0)) gS rfl
      obtain ⟨t1, rfl, g1⟩ := hp_gSa g0 (by decide)
      obtain ⟨t2_9, rfl, g2⟩ := hp_gSa g1 (by decide)
      cases hp_gSn g2
      exact e0 l' h_9' y0 (by omega) a1_9 a2 a3 (hp_gLa gL (List.mem_of_getElem? (i := 0) rfl) (by decide)) (hp_gLi (z := (0 + (1 * m + 0))) gL (List.mem_of_getElem? (i := 1) rfl) rfl (by omega)) (hp_gLm (z := (0 + (1 * m + 0))) gL (List.mem_of_getElem? (i := 2) rfl) rfl (by omega))
    cases hp
  · intro p_9 hp ys v_9 h_9' hys a1_9 a2 a3 gZ gS
    cases hp
theorem aq6_k : hp_chk 141 45 1 [(0, 0, 99)] [] [(0, .inr (.inr (.inl (some 16)))), (1, .inl (0, [(0, 1)])), (2, .inr (.inr (.inr (0, (0, [(0, 1)])))))] [.inl (0, [])] [] [] 2 [] [([], 1, [(0, 0, 99)], [], [], [.inl ((-1), [])], [])] = true := by decide +kernel
theorem aq6 {cst : am_K} {strs : List Nat} {Φ : am_Q → Prop} {D : Nat} {M : am_M} {h : am_H} {l : am_L} (c : hp_C cst strs D) (hM : m_P[141]? = some M) (hD : (2 : Int) ≤ (D : Int) + 1) (hy : ly_hy m_tt ly_TH h) (m : Int) (x0 : Int32) (hx0 : x0.toInt = 0) (b0 : 0 ≤ m) (t0 : m ≤ 99) (l0 : hp_a l 0 16) (l1 : hp_i l 1 (m)) (l2 : hp_ml l 2 h.length (m)) (r0 : ∀ (h_9' : am_H) (y0 : Int32), y0.toInt = (-1) → ly_hy m_tt ly_TH h_9' → ly_fr cst [] h h_9' → h.length ≤ h_9'.length → Φ (some (.int y0), h_9', 0, 0)) : hp_F cst strs Φ D M 45 l [.int x0] h := by
  refine hp_arc c hM aq6_k hD [m] rfl hy (hp_Bc (z := m) rfl b0 t0 hp_Bn) hp_Fn hp_Kn (hp_La l0 (hp_Li (z := (0 + (1 * m + 0))) l1 rfl (by omega) (hp_Lm (z := (0 + (1 * m + 0))) l2 rfl (by omega) hp_Ln))) (hp_Si (z := (0 + 0)) rfl (by omega) trivial) ?_ ?_
  · intro p_9 hp ys l' st_9' h_9' hys a1_9 a2 a3 gZ gL gS
    cases hp
  · intro p_9 hp ys v_9 h_9' hys a1_9 a2 a3 gZ gS
    rcases List.mem_cons.mp hp with rfl | hp
    · obtain rfl := hp_y0 hys
      cases v_9 with
      | none => cases gS
      | some wz =>
        obtain ⟨y0, t0, s0_9, q0, -⟩ := hp_gSi (z := ((-1) + 0)) gS rfl
        cases s0_9
        exact r0 h_9' y0 (by omega) a1_9 a2 a3
    cases hp
theorem aq7_k : hp_chk 141 45 1 [(0, 0, 99)] [] [(0, .inr (.inr (.inl (some 16)))), (1, .inl (0, [(0, 1)])), (2, .inr (.inr (.inr (0, (0, [(0, 1)])))))] [.inl (1, [])] [] [] 2 [(58, ([], 1, [(0, 0, 99)], [], [(0, .inr (.inr (.inl (some 16)))), (1, .inl (0, [(0, 1)])), (2, .inr (.inr (.inr (0, (0, [(0, 1)])))))], [.inr (.inr (.inl (some 91))), .inr (.inr (.inr (4, (0, [(0, 1)]))))], []))] [] = true := by decide +kernel
theorem aq7 {cst : am_K} {strs : List Nat} {Φ : am_Q → Prop} {D : Nat} {M : am_M} {h : am_H} {l : am_L} (c : hp_C cst strs D) (hM : m_P[141]? = some M) (hD : (2 : Int) ≤ (D : Int) + 1) (hy : ly_hy m_tt ly_TH h) (m : Int) (x0 : Int32) (hx0 : x0.toInt = 1) (b0 : 0 ≤ m) (t0 : m ≤ 99) (l0 : hp_a l 0 16) (l1 : hp_i l 1 (m)) (l2 : hp_ml l 2 h.length (m)) (e0 : ∀ (l' : am_L) (h_9' : am_H) (y1 : Nat), (y1 : Int) = (m) → 177 + 19 * (y1 + 1) ≤ h_9'.length → ly_hy m_tt ly_TH h_9' → ly_fr cst [] h h_9' → h.length ≤ h_9'.length → hp_a l' 0 16 → hp_i l' 1 (m) → hp_ml l' 2 h_9'.length (m) → hp_F cst strs Φ D M 58 l' [.ref 91, .ref (16 + (177 + 19 * y1 + 4))] h_9') : hp_F cst strs Φ D M 45 l [.int x0] h := by
  refine hp_arc c hM aq7_k hD [m] rfl hy (hp_Bc (z := m) rfl b0 t0 hp_Bn) hp_Fn hp_Kn (hp_La l0 (hp_Li (z := (0 + (1 * m + 0))) l1 rfl (by omega) (hp_Lm (z := (0 + (1 * m + 0))) l2 rfl (by omega) hp_Ln))) (hp_Si (z := (1 + 0)) rfl (by omega) trivial) ?_ ?_
  · intro p_9 hp ys l' st_9' h_9' hys a1_9 a2 a3 gZ gL gS
    rcases List.mem_cons.mp hp with rfl | hp
    · obtain rfl := hp_y0 hys
      obtain ⟨t0, rfl, g0⟩ := hp_gSa gS (by decide)
      obtain ⟨y1, t1_9, rfl, q1_9, p1_9, g1⟩ := hp_gSmj (z := (0 + (1 * m + 0))) g0 rfl
      cases hp_gSn g1
      exact e0 l' h_9' y1 (by omega) p1_9 a1_9 a2 a3 (hp_gLa gL (List.mem_of_getElem? (i := 0) rfl) (by decide)) (hp_gLi (z := (0 + (1 * m + 0))) gL (List.mem_of_getElem? (i := 1) rfl) rfl (by omega)) (hp_gLm (z := (0 + (1 * m + 0))) gL (List.mem_of_getElem? (i := 2) rfl) rfl (by omega))
    cases hp
  · intro p_9 hp ys v_9 h_9' hys a1_9 a2 a3 gZ gS
    cases hp
theorem aq8_k : hp_chk 141 61 2 [(0, 0, 99), (1, 0, 20)] [] [(0, .inr (.inr (.inl (some 16)))), (1, .inl (0, [(0, 1)])), (2, .inr (.inr (.inr (0, (0, [(0, 1)])))))] [] [(46338, (0, [(0, 1)]), (0, [(1, 1)]))] [] 2 [] [([], 2, [(0, 0, 99), (1, 0, 20)], [], [], [.inl (0, [(1, 1)])], [])] = true := by decide +kernel
theorem aq8 {cst : am_K} {strs : List Nat} {Φ : am_Q → Prop} {D : Nat} {M : am_M} {h : am_H} {l : am_L} (c : hp_C cst strs D) (hM : m_P[141]? = some M) (hD : (2 : Int) ≤ (D : Int) + 1) (hy : ly_hy m_tt ly_TH h) (m z : Int) (b0 : 0 ≤ m) (t0 : m ≤ 99) (b1 : 0 ≤ z) (t1 : z ≤ 20) (k0 : ly_hv cst h 46338 (m) = some (z)) (l0 : hp_a l 0 16) (l1 : hp_i l 1 (m)) (l2 : hp_ml l 2 h.length (m)) (r0 : ∀ (h_9' : am_H) (y0 : Int32), y0.toInt = (z) → ly_hy m_tt ly_TH h_9' → ly_fr cst [] h h_9' → h.length ≤ h_9'.length → Φ (some (.int y0), h_9', 0, 0)) : hp_F cst strs Φ D M 61 l [] h := by
  refine hp_arc c hM aq8_k hD [m, z] rfl hy (hp_Bc (z := m) rfl b0 t0 (hp_Bc (z := z) rfl b1 t1 hp_Bn)) hp_Fn (hp_Kc (zi := (0 + (1 * m + 0))) (zv := (0 + (1 * z + 0))) k0 rfl rfl (by omega) (by omega) hp_Kn) (hp_La l0 (hp_Li (z := (0 + (1 * m + 0))) l1 rfl (by omega) (hp_Lm (z := (0 + (1 * m + 0))) l2 rfl (by omega) hp_Ln))) trivial ?_ ?_
  · intro p_9 hp ys l' st_9' h_9' hys a1_9 a2 a3 gZ gL gS
    cases hp
  · intro p_9 hp ys v_9 h_9' hys a1_9 a2 a3 gZ gS
    rcases List.mem_cons.mp hp with rfl | hp
    · obtain rfl := hp_y0 hys
      cases v_9 with
      | none => cases gS
      | some wz =>
        obtain ⟨y0, t0, s0_9, q0, -⟩ := hp_gSi (z := (0 + (1 * z + 0))) gS rfl
        cases s0_9
        exact r0 h_9' y0 (by omega) a1_9 a2 a3
    cases hp
theorem aqa_k : hp_chk 141 0 1 [(0, (-2147483648), 2147483647)] [] [(0, .inr (.inr (.inl (some 16)))), (1, .inl (0, [(0, 1)]))] [] [] [] 2 [(4, ([], 1, [(0, (-2147483648), 2147483647)], [], [(0, .inr (.inr (.inl (some 16)))), (1, .inl (0, [(0, 1)]))], [.inr (.inr (.inl (some 17)))], []))] [] = true := by decide +kernel
theorem aqa {cst : am_K} {strs : List Nat} {Φ : am_Q → Prop} {D : Nat} {M : am_M} {h : am_H} {l : am_L} (c : hp_C cst strs D) (hM : m_P[141]? = some M) (hD : (2 : Int) ≤ (D : Int) + 1) (hy : ly_hy m_tt ly_TH h) (m : Int) (b0 : (-2147483648) ≤ m) (t0 : m ≤ 2147483647) (l0 : hp_a l 0 16) (l1 : hp_i l 1 (m)) (e0 : ∀ (l' : am_L) (h_9' : am_H), ly_hy m_tt ly_TH h_9' → ly_fr cst [] h h_9' → h.length ≤ h_9'.length → hp_a l' 0 16 → hp_i l' 1 (m) → hp_F cst strs Φ D M 4 l' [.ref 17] h_9') : hp_F cst strs Φ D M 0 l [] h := by
  refine hp_arc c hM aqa_k hD [m] rfl hy (hp_Bc (z := m) rfl b0 t0 hp_Bn) hp_Fn hp_Kn (hp_La l0 (hp_Li (z := (0 + (1 * m + 0))) l1 rfl (by omega) hp_Ln)) trivial ?_ ?_
  · intro p_9 hp ys l' st_9' h_9' hys a1_9 a2 a3 gZ gL gS
    rcases List.mem_cons.mp hp with rfl | hp
    · obtain rfl := hp_y0 hys
      obtain ⟨t0, rfl, g0⟩ := hp_gSa gS (by decide)
      cases hp_gSn g0
      exact e0 l' h_9' a1_9 a2 a3 (hp_gLa gL (List.mem_of_getElem? (i := 0) rfl) (by decide)) (hp_gLi (z := (0 + (1 * m + 0))) gL (List.mem_of_getElem? (i := 1) rfl) rfl (by omega))
    cases hp
  · intro p_9 hp ys v_9 h_9' hys a1_9 a2 a3 gZ gS
    cases hp
/-- copyFrom -/
theorem cf4_run {cst : am_K} {strs : List Nat} {D : Nat} {h0 : am_H} (cc : ∀ d_9, hp_C cst strs d_9) (hD : 2 ≤ D) (hy0 : ly_hy m_tt ly_TH h0) {m : Nat} (m1 : (m : Int) ≤ 99) (hm : 177 + 19 * (m + 1) ≤ h0.length) {ns vs : List Int} (nl : ns.length ≤ 20) (lv : vs.length = ns.length) (nb : ∀ v_9 ∈ ns, -9223372036854775808 ≤ v_9 ∧ v_9 ≤ 9223372036854775807) (vb : ∀ v_9 ∈ vs, 0 ≤ v_9 ∧ v_9 ≤ 9999) (kz : ly_hv cst h0 19202 0 = some (ns.length : Int)) {o : Int} (ko : ly_hv cst h0 19203 0 = some o) (o0 : 0 ≤ o) (o1 : o ≤ 1) (A : fn_N cst h0 19456 0 ns) (A' : fn_N cst h0 19712 0 vs) :
    ∃ r_9, am_Run cst m_cl m_tt m_P strs sx_bi (D + 1) 142 [.ref (16 + (177 + 19 * m + 4)), .ref 91] h0 r_9 ∧ (fun r_9 : am_Q => r_9.1 = none ∧ r_9.2.2.1 = 0 ∧ r_9.2.2.2 = 0 ∧ ly_hy m_tt ly_TH r_9.2.1 ∧ mfr cst 46336 (m : Int) [] h0 r_9.2.1 ∧ ly_hv cst r_9.2.1 46338 (m : Int) = some (ns.length : Int) ∧ ly_hv cst r_9.2.1 46339 (m : Int) = some o ∧ fn_N cst r_9.2.1 46592 (32 * (m : Int)) ns ∧ fn_N cst r_9.2.1 46848 (32 * (m : Int)) vs) r_9 := by
  obtain ⟨M_9, hM_9, hl⟩ := hp_M (mi := 142) (k := 2) (by decide +kernel)
  have c_9 : hp_C cst strs D := cc _
  have lp : ∀ (Q_9 : Nat) (h_9 : am_H) (l : am_L) (i_9 : Nat), i_9 + Q_9 = ns.length → ly_hy m_tt ly_TH h_9 → 177 + 19 * (m + 1) ≤ h_9.length → mfr cst 46336 (m : Int) [] h0 h_9 → ly_hv cst h_9 46338 (m : Int) = some (i_9 : Int) → fn_N cst h_9 46592 (32 * (m : Int)) (ns.take i_9) → fn_N cst h_9 46848 (32 * (m : Int)) (vs.take i_9) → hp_mlj l 0 4 h_9.length (m : Int) → hp_a l 1 91 → hp_i l 2 (i_9 : Int) → hp_F cst strs (fun r_9 : am_Q => r_9.1 = none ∧ r_9.2.2.1 = 0 ∧ r_9.2.2.2 = 0 ∧ ly_hy m_tt ly_TH r_9.2.1 ∧ mfr cst 46336 (m : Int) [] h0 r_9.2.1 ∧ ly_hv cst r_9.2.1 46338 (m : Int) = some (ns.length : Int) ∧ ly_hv cst r_9.2.1 46339 (m : Int) = some o ∧ fn_N cst r_9.2.1 46592 (32 * (m : Int)) ns ∧ fn_N cst r_9.2.1 46848 (32 * (m : Int)) vs) D M_9 6 l [] h_9 := by
    intro Q_9
    induction Q_9 with
    | zero =>
      intro h_9 l i_9 e_9 hy hl' fr_9 k2_9 B_9 B_9' l0 l1 l2
      have ei : i_9 = ns.length := by omega
      rw [List.take_of_length_le (by omega)] at B_9 B_9'
      rw [ei] at k2_9 l2
      have kz' := fr_9 _ _ _ rfl (fun z_9 => by omega) (fun z_9 => by omega) kz
      have ko' := fr_9 _ _ _ rfl (fun z_9 => by omega) (fun z_9 => by omega) ko
      refine cf44 c_9 hM_9 (by omega) hy (m : Int) (ns.length : Int) o (by omega) m1 (by omega) (by omega) o0 o1 kz' ko' l0 l1 l2 (fun l4 h4 z0 z1 e0_9 e1_9 el u1_9 u2_9 u3 g0 g1 g2 => ?_)
      have ym : z1 = m := by omega
      rw [ym] at el
      rw [ym]
      have fit_9 : am_fit ((m_tt.getD 6 []).getD 3 .char) (.int z0) = true := by
        have z_9 : o = 0 ∨ o = 1 := by omega
        rcases z_9 with z_9 | z_9
        · rw [Int32.toInt_inj.mp (show z0.toInt = (0 : Int32).toInt by rw [e0_9, z_9]; rfl)]
          rfl
        · rw [Int32.toInt_inj.mp (show z0.toInt = (1 : Int32).toInt by rw [e0_9, z_9]; rfl)]
          rfl
      refine hp_mpf (ci := 6) (kf := 3) (lo := 0) (hi := 1) hM_9 (by decide +kernel) u1_9 rfl rfl (by decide) fit_9 rfl el (by omega) (by omega) (fun h5 x1_9 x2_9 x3 => ?_)
      rw [e0_9] at x3
      have x3 : hp_put cst 46339 (m : Int) o h4 h5 := x3
      have up_9 : ∀ r_9' k_9 u_9 h8, ly_fr cst [] h5 h8 → r_9' ≠ 46339 → ly_hv cst h_9 r_9' k_9 = some u_9 → ly_hv cst h8 r_9' k_9 = some u_9 := fun r_9' k_9 u_9 h8 f_9 n1_9 e_9 => by
        refine f_9 _ _ _ rfl ?_
        rw [x3.2 _ _ (Or.inl n1_9)]
        exact u2_9 _ _ _ rfl e_9
      exact cf45 c_9 hM_9 (by omega) x1_9 (m : Int) (ns.length : Int) (by omega) m1 (by omega) (by omega) (by rw [x2_9]; exact g0) g1 g2 (fun h6 y1 y2 y3 => ⟨rfl, rfl, rfl, y1, mfr_tr fr_9 (mfr_tr (mfr_L u2_9) (mfr_tr (mfr_p3 (B := 46336) x3) (mfr_L y2))), up_9 _ _ _ h6 y2 (by decide) k2_9, y2 _ _ _ rfl x3.1, fun k_9 hk => up_9 _ _ _ h6 y2 (by decide) (B_9 k_9 hk), fun k_9 hk => up_9 _ _ _ h6 y2 (by decide) (B_9' k_9 hk)⟩)
    | succ Q_9 ih_9 =>
      intro h_9 l i_9 e_9 hy hl' fr_9 k2_9 B_9 B_9' l0 l1 l2
      have hi_9 : i_9 < ns.length := by omega
      have hv : i_9 < vs.length := by omega
      have kz' := fr_9 _ _ _ rfl (fun z_9 => by omega) (fun z_9 => by omega) kz
      have kn_9 := A i_9 hi_9
      have kv := A' i_9 hv
      rw [Int.zero_add] at kn_9 kv
      have kn_9 := fr_9 _ _ _ rfl (fun z_9 => by omega) (fun z_9 => by omega) kn_9
      have kv := fr_9 _ _ _ rfl (fun z_9 => by omega) (fun z_9 => by omega) kv
      obtain ⟨n0_9, n1_9⟩ := nb _ (List.getElem_mem hi_9)
      obtain ⟨v0_9, v1_9⟩ := vb _ (List.getElem_mem hv)
      refine cf42 c_9 hM_9 (by omega) hy (m : Int) (ns.length : Int) (i_9 : Int) ns[i_9] vs[i_9] (by omega) m1 (by omega) (by omega) (by omega) (by omega) n0_9 n1_9 (by omega) (by omega) (by omega) kz' kn_9 kv l0 l1 l2 (fun l4 h4 z0 z1 z2 e0_9 e1_9 e2_9 el u1_9 u2_9 u3 g0 g1 g2 => ?_)
      have ym : z2 = m := by omega
      rw [ym] at el
      rw [ym]
      have li : (ns.take i_9).length = i_9 := by rw [List.length_take]; omega
      have lw : (vs.take i_9).length = i_9 := by rw [List.length_take]; omega
      obtain ⟨r_9, hrun, a_9, r1_9, r2, r3, rhy, rfr, rk, rN_9, rV, rT⟩ := ra4_run (D := D - 1) cc (by omega) u1_9 m1 el (ns := ns.take i_9) (vs := vs.take i_9) (by omega) (by omega) (by rw [li]; exact u2_9 _ _ _ rfl k2_9) (fn_mv B_9 u2_9 rfl) (fn_mv B_9' u2_9 rfl) (xv := z1) (xw := z0) e1_9 e0_9 v0_9 v1_9
      rw [show D - 1 + 1 = D by omega] at hrun
      refine hp_callm (mi := 142) (pc := 27) (tg := 122) (na := 3) (m := m) (j := 4) (ci := 6) (st0 := [.int z0, .long z1, .ref (16 + (177 + 19 * m + 4))]) (st := []) (av := [.long z1, .int z0]) hM_9 (by decide +kernel) u1_9 rfl el rfl rfl (by decide) hrun r2 r3 ?_
      rw [r1_9]
      have le4 := mfr_len rfr rfl (by decide)
      refine cf43 c_9 hM_9 (by omega) rhy (m : Int) (i_9 : Int) a_9.toInt a_9 rfl (by omega) m1 (by omega) (by omega) a_9.le_toInt a_9.toInt_le (hp_mljm g0 le4) g1 g2 (fun l6 h6 v1_9' v2' v3' p0_9 p1_9 p2_9 => ?_)
      refine ih_9 h6 l6 (i_9 + 1) (by omega) v1_9' (by omega) (mfr_tr fr_9 (mfr_tr (mfr_L u2_9) (mfr_tr rfr (mfr_L v2')))) ?_ ?_ ?_ p0_9 p1_9 (by rw [show (((i_9 + 1 : Nat)) : Int) = (i_9 : Int) + 1 by omega]; exact p2_9)
      · have z_9 := v2' _ _ _ rfl rk
        rw [List.length_append, List.length_singleton, li] at z_9
        exact z_9
      · rw [List.take_succ_eq_append_getElem hi_9]
        exact fn_mv rN_9 v2' rfl
      · rw [List.take_succ_eq_append_getElem hv]
        exact fn_mv rV v2' rfl
  have go_9 : hp_F cst strs (fun r_9 : am_Q => r_9.1 = none ∧ r_9.2.2.1 = 0 ∧ r_9.2.2.2 = 0 ∧ ly_hy m_tt ly_TH r_9.2.1 ∧ mfr cst 46336 (m : Int) [] h0 r_9.2.1 ∧ ly_hv cst r_9.2.1 46338 (m : Int) = some (ns.length : Int) ∧ ly_hv cst r_9.2.1 46339 (m : Int) = some o ∧ fn_N cst r_9.2.1 46592 (32 * (m : Int)) ns ∧ fn_N cst r_9.2.1 46848 (32 * (m : Int)) vs) D M_9 0 (lv_args 0 [.ref (16 + (177 + 19 * m + 4)), .ref 91]) [] h0 := by
    refine cf40 c_9 hM_9 (by omega) hy0 (m : Int) (by omega) m1 ⟨m, rfl, rfl, hm⟩ rfl (fun l1 h1 z0 e0_9 el u1_9 u2_9 u3 g0 g1 => ?_)
    have ym : z0 = m := by omega
    rw [ym] at el
    rw [ym]
    obtain ⟨r_9, hrun, r1_9, r2, r3, rhy, rfr, rk, rT⟩ := rc4_run (D := D - 1) cc (by omega) u1_9 m1 el
    rw [show D - 1 + 1 = D by omega] at hrun
    refine hp_callm (mi := 142) (pc := 1) (tg := 60) (na := 1) (m := m) (j := 4) (ci := 6) (st0 := [.ref (16 + (177 + 19 * m + 4))]) (st := []) (av := []) hM_9 (by decide +kernel) u1_9 rfl el rfl rfl (by decide) hrun r2 r3 ?_
    rw [r1_9]
    have le4 := mfr_len rfr rfl (by decide)
    exact cf41 c_9 hM_9 (by omega) rhy (m : Int) (by omega) m1 (hp_mljm g0 le4) g1 (fun l4 h4 v1_9 v2 v3 p0_9 p1_9 p2_9 => lp ns.length h4 l4 0 (by omega) v1_9 (by omega) (mfr_tr (mfr_L u2_9) (mfr_tr rfr (mfr_L v2))) (v2 _ _ _ rfl rk) (fun k_9 hk => absurd hk (by rw [List.take_zero]; exact Nat.not_lt_zero _)) (fun k_9 hk => absurd hk (by rw [List.take_zero]; exact Nat.not_lt_zero _)) p0_9 p1_9 p2_9)
  obtain ⟨n_9', r_9, hgo, r1_9, r2, r3, r4⟩ := go_9
  simp only [Nat.zero_add] at r2 r3
  exact ⟨r_9, Or.inr ⟨M_9, n_9', hM_9, hl, hgo⟩, r1_9, r2, r3, r4⟩
/-- copyFrom -/
theorem cf1_run {cst : am_K} {strs : List Nat} {D : Nat} {h0 : am_H} (cc : ∀ d_9, hp_C cst strs d_9) (hD : 2 ≤ D) (hy0 : ly_hy m_tt ly_TH h0) {m : Nat} (m1 : (m : Int) ≤ 99) (hm : 177 + 19 * (m + 1) ≤ h0.length) {ns vs : List Int} (nl : ns.length ≤ 28) (lv : vs.length = ns.length) (nb : ∀ v_9 ∈ ns, -9223372036854775808 ≤ v_9 ∧ v_9 ≤ 9223372036854775807) (vb : ∀ v_9 ∈ vs, 0 ≤ v_9 ∧ v_9 ≤ 9999) (kz : ly_hv cst h0 10242 0 = some (ns.length : Int)) {o : Int} (ko : ly_hv cst h0 10243 0 = some o) (o0 : 0 ≤ o) (o1 : o ≤ 1) (A : fn_N cst h0 10496 0 ns) (A' : fn_N cst h0 10752 0 vs) :
    ∃ r_9, am_Run cst m_cl m_tt m_P strs sx_bi (D + 1) 142 [.ref (16 + (177 + 19 * m + 1)), .ref 56] h0 r_9 ∧ (fun r_9 : am_Q => r_9.1 = none ∧ r_9.2.2.1 = 0 ∧ r_9.2.2.2 = 0 ∧ ly_hy m_tt ly_TH r_9.2.1 ∧ mfr cst 45568 (m : Int) [] h0 r_9.2.1 ∧ ly_hv cst r_9.2.1 45570 (m : Int) = some (ns.length : Int) ∧ ly_hv cst r_9.2.1 45571 (m : Int) = some o ∧ fn_N cst r_9.2.1 45824 (32 * (m : Int)) ns ∧ fn_N cst r_9.2.1 46080 (32 * (m : Int)) vs) r_9 := by
  obtain ⟨M_9, hM_9, hl⟩ := hp_M (mi := 142) (k := 2) (by decide +kernel)
  have c_9 : hp_C cst strs D := cc _
  have lp : ∀ (Q_9 : Nat) (h_9 : am_H) (l : am_L) (i_9 : Nat), i_9 + Q_9 = ns.length → ly_hy m_tt ly_TH h_9 → 177 + 19 * (m + 1) ≤ h_9.length → mfr cst 45568 (m : Int) [] h0 h_9 → ly_hv cst h_9 45570 (m : Int) = some (i_9 : Int) → fn_N cst h_9 45824 (32 * (m : Int)) (ns.take i_9) → fn_N cst h_9 46080 (32 * (m : Int)) (vs.take i_9) → hp_mlj l 0 1 h_9.length (m : Int) → hp_a l 1 56 → hp_i l 2 (i_9 : Int) → hp_F cst strs (fun r_9 : am_Q => r_9.1 = none ∧ r_9.2.2.1 = 0 ∧ r_9.2.2.2 = 0 ∧ ly_hy m_tt ly_TH r_9.2.1 ∧ mfr cst 45568 (m : Int) [] h0 r_9.2.1 ∧ ly_hv cst r_9.2.1 45570 (m : Int) = some (ns.length : Int) ∧ ly_hv cst r_9.2.1 45571 (m : Int) = some o ∧ fn_N cst r_9.2.1 45824 (32 * (m : Int)) ns ∧ fn_N cst r_9.2.1 46080 (32 * (m : Int)) vs) D M_9 6 l [] h_9 := by
    intro Q_9
    induction Q_9 with
    | zero =>
      intro h_9 l i_9 e_9 hy hl' fr_9 k2_9 B_9 B_9' l0 l1 l2
      have ei : i_9 = ns.length := by omega
      rw [List.take_of_length_le (by omega)] at B_9 B_9'
      rw [ei] at k2_9 l2
      have kz' := fr_9 _ _ _ rfl (fun z_9 => by omega) (fun z_9 => by omega) kz
      have ko' := fr_9 _ _ _ rfl (fun z_9 => by omega) (fun z_9 => by omega) ko
      refine cf14 c_9 hM_9 (by omega) hy (m : Int) (ns.length : Int) o (by omega) m1 (by omega) (by omega) o0 o1 kz' ko' l0 l1 l2 (fun l4 h4 z0 z1 e0_9 e1_9 el u1_9 u2_9 u3 g0 g1 g2 => ?_)
      have ym : z1 = m := by omega
      rw [ym] at el
      rw [ym]
      have fit_9 : am_fit ((m_tt.getD 6 []).getD 3 .char) (.int z0) = true := by
        have z_9 : o = 0 ∨ o = 1 := by omega
        rcases z_9 with z_9 | z_9
        · rw [Int32.toInt_inj.mp (show z0.toInt = (0 : Int32).toInt by rw [e0_9, z_9]; rfl)]
          rfl
        · rw [Int32.toInt_inj.mp (show z0.toInt = (1 : Int32).toInt by rw [e0_9, z_9]; rfl)]
          rfl
      refine hp_mpf (ci := 6) (kf := 3) (lo := 0) (hi := 1) hM_9 (by decide +kernel) u1_9 rfl rfl (by decide) fit_9 rfl el (by omega) (by omega) (fun h5 x1_9 x2_9 x3 => ?_)
      rw [e0_9] at x3
      have x3 : hp_put cst 45571 (m : Int) o h4 h5 := x3
      have up_9 : ∀ r_9' k_9 u_9 h8, ly_fr cst [] h5 h8 → r_9' ≠ 45571 → ly_hv cst h_9 r_9' k_9 = some u_9 → ly_hv cst h8 r_9' k_9 = some u_9 := fun r_9' k_9 u_9 h8 f_9 n1_9 e_9 => by
        refine f_9 _ _ _ rfl ?_
        rw [x3.2 _ _ (Or.inl n1_9)]
        exact u2_9 _ _ _ rfl e_9
      exact cf15 c_9 hM_9 (by omega) x1_9 (m : Int) (ns.length : Int) (by omega) m1 (by omega) (by omega) (by rw [x2_9]; exact g0) g1 g2 (fun h6 y1 y2 y3 => ⟨rfl, rfl, rfl, y1, mfr_tr fr_9 (mfr_tr (mfr_L u2_9) (mfr_tr (mfr_p3 (B := 45568) x3) (mfr_L y2))), up_9 _ _ _ h6 y2 (by decide) k2_9, y2 _ _ _ rfl x3.1, fun k_9 hk => up_9 _ _ _ h6 y2 (by decide) (B_9 k_9 hk), fun k_9 hk => up_9 _ _ _ h6 y2 (by decide) (B_9' k_9 hk)⟩)
    | succ Q_9 ih_9 =>
      intro h_9 l i_9 e_9 hy hl' fr_9 k2_9 B_9 B_9' l0 l1 l2
      have hi_9 : i_9 < ns.length := by omega
      have hv : i_9 < vs.length := by omega
      have kz' := fr_9 _ _ _ rfl (fun z_9 => by omega) (fun z_9 => by omega) kz
      have kn_9 := A i_9 hi_9
      have kv := A' i_9 hv
      rw [Int.zero_add] at kn_9 kv
      have kn_9 := fr_9 _ _ _ rfl (fun z_9 => by omega) (fun z_9 => by omega) kn_9
      have kv := fr_9 _ _ _ rfl (fun z_9 => by omega) (fun z_9 => by omega) kv
      obtain ⟨n0_9, n1_9⟩ := nb _ (List.getElem_mem hi_9)
      obtain ⟨v0_9, v1_9⟩ := vb _ (List.getElem_mem hv)
      refine cf12 c_9 hM_9 (by omega) hy (m : Int) (ns.length : Int) (i_9 : Int) ns[i_9] vs[i_9] (by omega) m1 (by omega) (by omega) (by omega) (by omega) n0_9 n1_9 (by omega) (by omega) (by omega) kz' kn_9 kv l0 l1 l2 (fun l4 h4 z0 z1 z2 e0_9 e1_9 e2_9 el u1_9 u2_9 u3 g0 g1 g2 => ?_)
      have ym : z2 = m := by omega
      rw [ym] at el
      rw [ym]
      have li : (ns.take i_9).length = i_9 := by rw [List.length_take]; omega
      have lw : (vs.take i_9).length = i_9 := by rw [List.length_take]; omega
      obtain ⟨r_9, hrun, a_9, r1_9, r2, r3, rhy, rfr, rk, rN_9, rV, rT⟩ := ra1_run (D := D - 1) cc (by omega) u1_9 m1 el (ns := ns.take i_9) (vs := vs.take i_9) (by omega) (by omega) (by rw [li]; exact u2_9 _ _ _ rfl k2_9) (fn_mv B_9 u2_9 rfl) (fn_mv B_9' u2_9 rfl) (xv := z1) (xw := z0) e1_9 e0_9 v0_9 v1_9
      rw [show D - 1 + 1 = D by omega] at hrun
      refine hp_callm (mi := 142) (pc := 27) (tg := 122) (na := 3) (m := m) (j := 1) (ci := 6) (st0 := [.int z0, .long z1, .ref (16 + (177 + 19 * m + 1))]) (st := []) (av := [.long z1, .int z0]) hM_9 (by decide +kernel) u1_9 rfl el rfl rfl (by decide) hrun r2 r3 ?_
      rw [r1_9]
      have le4 := mfr_len rfr rfl (by decide)
      refine cf13 c_9 hM_9 (by omega) rhy (m : Int) (i_9 : Int) a_9.toInt a_9 rfl (by omega) m1 (by omega) (by omega) a_9.le_toInt a_9.toInt_le (hp_mljm g0 le4) g1 g2 (fun l6 h6 v1_9' v2' v3' p0_9 p1_9 p2_9 => ?_)
      refine ih_9 h6 l6 (i_9 + 1) (by omega) v1_9' (by omega) (mfr_tr fr_9 (mfr_tr (mfr_L u2_9) (mfr_tr rfr (mfr_L v2')))) ?_ ?_ ?_ p0_9 p1_9 (by rw [show (((i_9 + 1 : Nat)) : Int) = (i_9 : Int) + 1 by omega]; exact p2_9)
      · have z_9 := v2' _ _ _ rfl rk
        rw [List.length_append, List.length_singleton, li] at z_9
        exact z_9
      · rw [List.take_succ_eq_append_getElem hi_9]
        exact fn_mv rN_9 v2' rfl
      · rw [List.take_succ_eq_append_getElem hv]
        exact fn_mv rV v2' rfl
  have go_9 : hp_F cst strs (fun r_9 : am_Q => r_9.1 = none ∧ r_9.2.2.1 = 0 ∧ r_9.2.2.2 = 0 ∧ ly_hy m_tt ly_TH r_9.2.1 ∧ mfr cst 45568 (m : Int) [] h0 r_9.2.1 ∧ ly_hv cst r_9.2.1 45570 (m : Int) = some (ns.length : Int) ∧ ly_hv cst r_9.2.1 45571 (m : Int) = some o ∧ fn_N cst r_9.2.1 45824 (32 * (m : Int)) ns ∧ fn_N cst r_9.2.1 46080 (32 * (m : Int)) vs) D M_9 0 (lv_args 0 [.ref (16 + (177 + 19 * m + 1)), .ref 56]) [] h0 := by
    refine cf10 c_9 hM_9 (by omega) hy0 (m : Int) (by omega) m1 ⟨m, rfl, rfl, hm⟩ rfl (fun l1 h1 z0 e0_9 el u1_9 u2_9 u3 g0 g1 => ?_)
    have ym : z0 = m := by omega
    rw [ym] at el
    rw [ym]
    obtain ⟨r_9, hrun, r1_9, r2, r3, rhy, rfr, rk, rT⟩ := rc1_run (D := D - 1) cc (by omega) u1_9 m1 el
    rw [show D - 1 + 1 = D by omega] at hrun
    refine hp_callm (mi := 142) (pc := 1) (tg := 60) (na := 1) (m := m) (j := 1) (ci := 6) (st0 := [.ref (16 + (177 + 19 * m + 1))]) (st := []) (av := []) hM_9 (by decide +kernel) u1_9 rfl el rfl rfl (by decide) hrun r2 r3 ?_
    rw [r1_9]
    have le4 := mfr_len rfr rfl (by decide)
    exact cf11 c_9 hM_9 (by omega) rhy (m : Int) (by omega) m1 (hp_mljm g0 le4) g1 (fun l4 h4 v1_9 v2 v3 p0_9 p1_9 p2_9 => lp ns.length h4 l4 0 (by omega) v1_9 (by omega) (mfr_tr (mfr_L u2_9) (mfr_tr rfr (mfr_L v2))) (v2 _ _ _ rfl rk) (fun k_9 hk => absurd hk (by rw [List.take_zero]; exact Nat.not_lt_zero _)) (fun k_9 hk => absurd hk (by rw [List.take_zero]; exact Nat.not_lt_zero _)) p0_9 p1_9 p2_9)
  obtain ⟨n_9', r_9, hgo, r1_9, r2, r3, r4⟩ := go_9
  simp only [Nat.zero_add] at r2 r3
  exact ⟨r_9, Or.inr ⟨M_9, n_9', hM_9, hl, hgo⟩, r1_9, r2, r3, r4⟩
/-- what allege answers and what it leaves -/
def alP (res : Option (List Int × List Int)) (s m : Int) (su st : Option Int) (cr a : Int) (keep : Prop) (laid : List Int → List Int → Prop) : Prop := (¬ (0 ≤ m ∧ m < s ∧ su = some cr) → a = -2 ∧ keep) ∧ ((0 ≤ m ∧ m < s ∧ su = some cr) → (st ≠ some 0 → a = -4 ∧ keep) ∧ (st = some 0 → (res = none → a = -1 ∧ keep) ∧ ∀ ns vs, res = some (ns, vs) → a = (ns.length : Int) ∧ laid ns vs))
abbrev aq_mods : List Nat := [257, 261, 262, 768, 1024, 1280, 19202, 19203, 19456, 19712]
/-- allege of the class -/
theorem aq_run {cst : am_K} {strs : List Nat} {D : Nat} {h : am_H} (cc : ∀ d_9, hp_C cst strs d_9) (hD : 10 ≤ D) (hy : ly_hy m_tt ly_TH h) {xm : Int32} {N : Nat} {s : Int} (n1 : (N : Int) ≤ 1200) (kn : ly_hv cst h 257 0 = some (N : Int)) (s0 : 0 ≤ s) (s1 : s ≤ 100) (ks : ly_hv cst h 7170 0 = some s) (ko : ∀ j_9, 0 ≤ j_9 → j_9 < s → ly_hv cst h 7424 j_9 = some 1) (kc : ∀ j_9, 0 ≤ j_9 → j_9 < s → ∃ su st, ly_hv cst h 45313 j_9 = some su ∧ ly_hv cst h 45319 j_9 = some st ∧ -2147483648 ≤ su ∧ su ≤ 2147483647 ∧ -2147483648 ≤ st ∧ st ≤ 2147483647) :
    ∃ r_9, am_Run cst m_cl m_tt m_P strs sx_bi (D + 2) 141 [.ref 16, .int xm] h r_9 ∧ (fun r_9 : am_Q => ∃ w_9 : Int32, r_9.1 = some (.int w_9) ∧ r_9.2.2.1 = 0 ∧ r_9.2.2.2 = 0 ∧ ly_hy m_tt ly_TH r_9.2.1 ∧ mfr cst 46336 xm.toInt aq_mods h r_9.2.1 ∧ (ly_hv cst r_9.2.1 257 0 = some 0 ∧ ∃ (t_9 : Nat) (en : Nat → Int) (kd pl vl : Int → Int), tkT (gt_g cst h 512) (N : Int) t_9 kd pl vl en ∧ alP (fa kd vl t_9 21 0 [] []) s xm.toInt (ly_hv cst h 45313 xm.toInt) (ly_hv cst h 45319 xm.toInt) (-1) w_9.toInt (ly_fr cst aq_mods h r_9.2.1) (fun ns vs => rFm cst r_9.2.1 xm.toInt ns vs ∧ ly_hv cst r_9.2.1 46339 xm.toInt = some 1 ∧ ndl ns))) r_9 := by
  obtain ⟨M_9, hM_9, hl⟩ := hp_M (mi := 141) (k := 2) (by decide +kernel)
  have c_9 : hp_C cst strs (D + 1) := cc _
  have b0 := xm.le_toInt
  have b1 := xm.toInt_le
  have go_9 : hp_F cst strs (fun r_9 : am_Q => ∃ w_9 : Int32, r_9.1 = some (.int w_9) ∧ r_9.2.2.1 = 0 ∧ r_9.2.2.2 = 0 ∧ ly_hy m_tt ly_TH r_9.2.1 ∧ mfr cst 46336 xm.toInt aq_mods h r_9.2.1 ∧ (ly_hv cst r_9.2.1 257 0 = some 0 ∧ ∃ (t_9 : Nat) (en : Nat → Int) (kd pl vl : Int → Int), tkT (gt_g cst h 512) (N : Int) t_9 kd pl vl en ∧ alP (fa kd vl t_9 21 0 [] []) s xm.toInt (ly_hv cst h 45313 xm.toInt) (ly_hv cst h 45319 xm.toInt) (-1) w_9.toInt (ly_fr cst aq_mods h r_9.2.1) (fun ns vs => rFm cst r_9.2.1 xm.toInt ns vs ∧ ly_hv cst r_9.2.1 46339 xm.toInt = some 1 ∧ ndl ns))) (D + 1) M_9 0 (lv_args 0 [.ref 16, .int xm]) [] h := by
    refine aqa c_9 hM_9 (by omega) hy xm.toInt b0 b1 rfl ⟨xm, rfl, rfl⟩ (fun l1 h1 u1_9 u2_9 u3 g0 g1 => ?_)
    obtain ⟨r_9, hrun, r1_9, r2, r3, rhy, rfr, rk9, rN_9, t_9, en, kt, tN_9, TT⟩ := gt_run (D := D - 1) (cc _) (cc _) (by omega) u1_9 n1 (u2_9 _ _ _ rfl kn)
    rw [show D - 1 + 1 + 1 = D + 1 by omega] at hrun
    refine hp_call (mi := 141) (pc := 4) (tg := 71) (na := 1) (c := 1) (ci := 1) (st0 := [.ref 17]) (st := []) (av := []) hM_9 (by decide +kernel) u1_9 rfl rfl rfl (by decide) hrun r2 r3 ?_
    rw [r1_9]
    have et : gt_g cst h1 512 = gt_g cst h 512 := by
      unfold gt_g
      rw [hp_same (mods := []) (show ly_ths ly_TH 2 = some (.inl (.int, 1200, 0, 255)) from rfl) rfl hy u1_9 u2_9]
    rw [et] at TT
    have TT : tkT (gt_g cst h 512) (N : Int) t_9 (gt_g cst r_9.2.1 768) (gt_g cst r_9.2.1 1024) (gt_g cst r_9.2.1 1280) en := TT
    have frA : ly_fr cst aq_mods h r_9.2.1 := ly_fr_tr (hp_sub2 rfl u2_9) (hp_sub2 rfl rfr)
    have t12 : (t_9 : Int) ≤ 1200 := by omega
    have rows_9 := gt_kk (cst := cst) rhy t12
    have vB9 := tkT_vB TT
    have ks_9' := frA _ _ _ rfl ks
    have same_9 : ∀ h5, ly_fr cst [] r_9.2.1 h5 → ly_fr cst aq_mods h h5 := fun h5 t2_9 => ly_fr_tr frA (hp_sub2 rfl t2_9)
    by_cases q1_9 : xm.toInt ≤ -1
    · exact aq0 c_9 hM_9 (by omega) rhy xm.toInt s b0 q1_9 s0 s1 ks_9' g0 g1 (fun h5 a_9 ha_9 t1_9 t2_9 t3_9 => ⟨a_9, rfl, rfl, rfl, t1_9, mfr_L (same_9 h5 t2_9), t2_9 _ _ _ rfl rk9, t_9, en, _, _, _, TT, fun _ => ⟨ha_9, same_9 h5 t2_9⟩, fun z_9 => by have := z_9.1; omega⟩)
    by_cases q2_9 : s ≤ xm.toInt
    · exact aq1 c_9 hM_9 (by omega) rhy xm.toInt s (by omega) b1 s0 s1 (by omega) ks_9' g0 g1 (fun h5 a_9 ha_9 t1_9 t2_9 t3_9 => ⟨a_9, rfl, rfl, rfl, t1_9, mfr_L (same_9 h5 t2_9), t2_9 _ _ _ rfl rk9, t_9, en, _, _, _, TT, fun _ => ⟨ha_9, same_9 h5 t2_9⟩, fun z_9 => by have := z_9.2.1; omega⟩)
    obtain ⟨su, st, k1_9, k2_9, e1_9, e2_9, e3_9, e4_9⟩ := kc xm.toInt (by omega) (by omega)
    have ko' := frA _ _ _ rfl (ko xm.toInt (by omega) (by omega))
    have k1_9' := frA _ _ _ rfl k1_9
    have k2_9' := frA _ _ _ rfl k2_9
    by_cases q3_9 : su = -1
    rotate_left
    · have no_9 : ¬ (0 ≤ xm.toInt ∧ xm.toInt < s ∧ ly_hv cst h 45313 xm.toInt = some (-1)) := fun z_9 => by
        have := z_9.2.2
        rw [k1_9] at this
        exact q3_9 (Option.some.inj this)
      by_cases q4_9 : su ≤ -2
      · exact aq20 c_9 hM_9 (by omega) rhy xm.toInt s su (by omega) (by omega) s0 s1 e1_9 q4_9 (by omega) ks_9' ko' k1_9' g0 g1 (fun h5 a_9 ha_9 t1_9 t2_9 t3_9 => ⟨a_9, rfl, rfl, rfl, t1_9, mfr_L (same_9 h5 t2_9), t2_9 _ _ _ rfl rk9, t_9, en, _, _, _, TT, fun _ => ⟨ha_9, same_9 h5 t2_9⟩, fun z_9 => absurd z_9 no_9⟩)
      · exact aq21 c_9 hM_9 (by omega) rhy xm.toInt s su (by omega) (by omega) s0 s1 (by omega) e2_9 (by omega) ks_9' ko' k1_9' g0 g1 (fun h5 a_9 ha_9 t1_9 t2_9 t3_9 => ⟨a_9, rfl, rfl, rfl, t1_9, mfr_L (same_9 h5 t2_9), t2_9 _ _ _ rfl rk9, t_9, en, _, _, _, TT, fun _ => ⟨ha_9, same_9 h5 t2_9⟩, fun z_9 => absurd z_9 no_9⟩)
    rw [q3_9] at k1_9 k1_9'
    have ok_9 : 0 ≤ xm.toInt ∧ xm.toInt < s ∧ ly_hv cst h 45313 xm.toInt = some (-1) := ⟨by omega, by omega, k1_9⟩
    by_cases q5_9 : st = 0
    rotate_left
    · have ns : ly_hv cst h 45319 xm.toInt ≠ some 0 := fun z_9 => by
        rw [k2_9] at z_9
        exact q5_9 (Option.some.inj z_9)
      by_cases q6_9 : st ≤ -1
      · exact aq30 c_9 hM_9 (by omega) rhy xm.toInt s st (by omega) (by omega) s0 s1 e3_9 q6_9 (by omega) ks_9' ko' k1_9' k2_9' g0 g1 (fun h5 a_9 ha_9 t1_9 t2_9 t3_9 => ⟨a_9, rfl, rfl, rfl, t1_9, mfr_L (same_9 h5 t2_9), t2_9 _ _ _ rfl rk9, t_9, en, _, _, _, TT, fun z_9 => absurd ok_9 z_9, fun _ => ⟨fun _ => ⟨ha_9, same_9 h5 t2_9⟩, fun z_9 => absurd z_9 ns⟩⟩)
      · exact aq31 c_9 hM_9 (by omega) rhy xm.toInt s st (by omega) (by omega) s0 s1 (by omega) e4_9 (by omega) ks_9' ko' k1_9' k2_9' g0 g1 (fun h5 a_9 ha_9 t1_9 t2_9 t3_9 => ⟨a_9, rfl, rfl, rfl, t1_9, mfr_L (same_9 h5 t2_9), t2_9 _ _ _ rfl rk9, t_9, en, _, _, _, TT, fun z_9 => absurd ok_9 z_9, fun _ => ⟨fun _ => ⟨ha_9, same_9 h5 t2_9⟩, fun z_9 => absurd z_9 ns⟩⟩)
    rw [q5_9] at k2_9 k2_9'
    obtain ⟨mN, em⟩ : ∃ q_9 : Nat, xm.toInt = (q_9 : Int) := ⟨xm.toInt.toNat, by omega⟩
    refine aq5 c_9 hM_9 (by omega) rhy xm.toInt s (by omega) (by omega) s0 s1 (by omega) ks_9' ko' k1_9' k2_9' g0 g1 (fun l3 h3 z0 e0_9 v1_9 v2 v3 m0_9 m1_9' m2_9 => ?_)
    have F3 := same_9 h3 v2
    obtain ⟨r4, hrun4, w4_9, p1_9, p2_9, p3_9, phy, pfr, pY, pN⟩ := fc_run (D := D - 2) (x0 := z0) (g := 0) (t := t_9) (cc _) (cc _) (cc _) (by omega) v1_9 t12 (kd := gt_g cst r_9.2.1 768) (vl := gt_g cst r_9.2.1 1280) (v2 _ _ _ rfl kt) (fun j_9 hj => v2 _ _ _ rfl (rows_9 j_9 hj).1) (fun j_9 hj => v2 _ _ _ rfl (rows_9 j_9 hj).2.2) (tkT_kb TT) (fun j_9 hj => ⟨fun e_9 => by have := (vB9 j_9 hj).1 e_9; omega, fun e_9 => (vB9 j_9 hj).2 e_9⟩) (by decide) e0_9
    rw [show D - 2 + 1 + 1 + 1 = D + 1 by omega] at hrun4
    refine hp_call (mi := 141) (pc := 42) (tg := 121) (na := 3) (c := 75) (ci := 6) (st0 := [.int z0, .ref 17, .ref 91]) (st := []) (av := [.ref 17, .int z0]) hM_9 (by decide +kernel) v1_9 rfl rfl rfl (by decide) hrun4 p2_9 p3_9 ?_
    rw [p1_9]
    have F4 : ly_fr cst aq_mods h r4.2.1 := ly_fr_tr F3 (hp_sub2 rfl pfr)
    have rk4 : ly_hv cst r4.2.1 257 0 = some 0 := pfr _ _ _ rfl (v2 _ _ _ rfl rk9)
    have le3 := hp_len2 pfr rfl
    cases hres : fa (gt_g cst r_9.2.1 768) (gt_g cst r_9.2.1 1280) t_9 21 0 [] [] with
    | none =>
      exact aq6 c_9 hM_9 (by omega) phy xm.toInt w4_9 (pN hres) (by omega) (by omega) m0_9 m1_9' (hp_mlm m2_9 le3) (fun h5 a_9 ha_9 t1_9 t2_9 t3_9 => ⟨a_9, rfl, rfl, rfl, t1_9, mfr_L (ly_fr_tr F4 (hp_sub2 rfl t2_9)), t2_9 _ _ _ rfl rk4, t_9, en, _, _, _, TT, fun z_9 => absurd ok_9 z_9, fun _ => ⟨fun z_9 => absurd k2_9 z_9, fun _ => ⟨fun _ => ⟨ha_9, ly_fr_tr F4 (hp_sub2 rfl t2_9)⟩, fun ns vs e_9 => by rw [hres] at e_9; cases e_9⟩⟩⟩)
    | some nv =>
      obtain ⟨ns, vs⟩ := nv
      obtain ⟨ew4, kz4, kt4, A4, A4'⟩ := pY ns vs hres
      obtain ⟨ln1, ln2⟩ := fa_len 21 0 [] [] rfl rfl ns vs hres
      obtain ⟨nd_9, vb⟩ := fa_nd vB9 21 0 [] [] trivial (fun v_9 hv => by cases hv) ns vs hres
      refine aq7 c_9 hM_9 (by omega) phy xm.toInt w4_9 ew4 (by omega) (by omega) m0_9 m1_9' (hp_mlm m2_9 le3) (fun l5 h5 z1 e1_9' el t1_9 t2_9 t3_9 o0_9 o1 o2 => ?_)
      have ym : z1 = mN := by omega
      rw [ym] at el
      rw [ym]
      have nb : ∀ v_9 ∈ ns, -9223372036854775808 ≤ v_9 ∧ v_9 ≤ 9223372036854775807 := fun v_9 hv => by
        obtain ⟨i_9, hi_9, e_9⟩ := List.mem_iff_getElem.mp hv
        have kn := A4 i_9 hi_9
        rw [Int.zero_add, e_9] at kn
        obtain ⟨w_9, kw', w0_9, w1_9⟩ := hp_rowj (cst := cst) (i := (i_9 : Int)) phy (show ly_ths ly_TH 76 = some (.inl (.long, 20, 0, 0)) from rfl) (by omega) (by omega)
        have kw' : ly_hv cst r4.2.1 19456 (i_9 : Int) = some w_9 := kw'
        have ew := Option.some.inj (kn.symm.trans kw')
        have w0_9 : -9223372036854775808 ≤ w_9 := w0_9
        have w1_9 : w_9 ≤ 9223372036854775807 := w1_9
        omega
      obtain ⟨r6, hrun6, s1_9', s2_9', s3_9', shy, sfr, sk, st_9', sN_9, sV⟩ := cf4_run (D := D) cc (by omega) t1_9 (m := mN) (by omega) el ln1 ln2 nb vb (t2_9 _ _ _ rfl kz4) (t2_9 _ _ _ rfl kt4) (by decide) (by decide) (fn_mv A4 t2_9 rfl) (fn_mv A4' t2_9 rfl)
      refine hp_callm (mi := 141) (pc := 58) (tg := 142) (na := 2) (m := mN) (j := 4) (ci := 6) (st0 := [.ref 91, .ref (16 + (177 + 19 * mN + 4))]) (st := []) (av := [.ref 91]) hM_9 (by decide +kernel) t1_9 rfl el rfl rfl (by decide) hrun6 s2_9' s3_9' ?_
      rw [s1_9']
      have le5 := mfr_len sfr rfl (by decide)
      have sk' := sk
      rw [← em] at sk'
      refine aq8 c_9 hM_9 (by omega) shy xm.toInt (ns.length : Int) (by omega) (by omega) (by omega) (by omega) sk' o0_9 o1 (hp_mlm o2 le5) (fun h7 a_9 ha_9 y1 y2 y3 => ⟨a_9, rfl, rfl, rfl, y1, ?_, ?_, t_9, en, _, _, _, TT, fun z_9 => absurd ok_9 z_9, fun _ => ⟨fun z_9 => absurd k2_9 z_9, fun _ => ⟨fun e_9 => (by rw [hres] at e_9; cases e_9), fun ns' vs' e_9 => ?_⟩⟩⟩)
      · rw [em]
        exact mfr_tr (mfr_L (ly_fr_tr F4 (hp_sub2 rfl t2_9))) (mfr_tr (mfr_sub rfl sfr) (mfr_L (hp_sub2 rfl y2)))
      · exact y2 _ _ _ rfl (sfr _ _ _ rfl (fun z_9 => by omega) (fun z_9 => by omega) (t2_9 _ _ _ rfl rk4))
      · rw [hres] at e_9
        cases e_9
        rw [em]
        exact ⟨ha_9, ⟨y2 _ _ _ rfl sk, fn_mv sN_9 y2 rfl, fn_mv sV y2 rfl, ln2, ln1, vb, nb⟩, y2 _ _ _ rfl st_9', nd_9⟩
  obtain ⟨n_9', r_9, hgo, w_9, r1_9, r2, r3, r4⟩ := go_9
  simp only [Nat.zero_add] at r2 r3
  exact ⟨r_9, Or.inr ⟨M_9, n_9', hM_9, hl, hgo⟩, w_9, r1_9, r2, r3, r4⟩
