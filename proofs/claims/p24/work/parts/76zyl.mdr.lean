/-! PRINTED by wip/p2/hp_mdr.py: makeBoth, mend of the reference -/
theorem my0_k : hp_chk 346 0 3 [(0, 0, 99), (1, 0, 1199), (2, 0, 28)] [] [(0, .inr (.inr (.inl (some 94)))), (1, .inl (0, [(0, 1)])), (2, .inl (0, [(1, 1)]))] [] [(33280, (0, [(0, 1)]), (0, [(2, 1)]))] [] 2 [(7, ([], 3, [(0, 0, 99), (1, 0, 1199), (2, 0, 28)], [], [(0, .inr (.inr (.inl (some 94)))), (1, .inl (0, [(0, 1)])), (2, .inl (0, [(1, 1)])), (3, .inl (0, [(2, 1)]))], [], []))] [] = true := by decide +kernel
theorem my0 {cst : am_K} {strs : List Nat} {Φ : am_Q → Prop} {D : Nat} {M : am_M} {h : am_H} {l : am_L} (c : hp_C cst strs D) (hM : m_P[346]? = some M) (hD : (2 : Int) ≤ (D : Int) + 1) (hy : ly_hy m_tt ly_TH h) (m w z : Int) (b0 : 0 ≤ m) (t0 : m ≤ 99) (b1 : 0 ≤ w) (t1 : w ≤ 1199) (b2 : 0 ≤ z) (t2 : z ≤ 28) (k0 : ly_hv cst h 33280 (m) = some (z)) (l0 : hp_a l 0 94) (l1 : hp_i l 1 (m)) (l2 : hp_i l 2 (w)) (e0 : ∀ (l' : am_L) (h_9' : am_H), ly_hy m_tt ly_TH h_9' → ly_fr cst [] h h_9' → h.length ≤ h_9'.length → hp_a l' 0 94 → hp_i l' 1 (m) → hp_i l' 2 (w) → hp_i l' 3 (z) → hp_F cst strs Φ D M 7 l' [] h_9') : hp_F cst strs Φ D M 0 l [] h := by
  refine hp_arc c hM my0_k hD [m, w, z] rfl hy (hp_Bc (z := m) rfl b0 t0 (hp_Bc (z := w) rfl b1 t1 (hp_Bc (z := z) rfl b2 t2 hp_Bn))) hp_Fn (hp_Kc (zi := (0 + (1 * m + 0))) (zv := (0 + (1 * z + 0))) k0 rfl rfl (by omega) (by omega) hp_Kn) (hp_La l0 (hp_Li (z := (0 + (1 * m + 0))) l1 rfl (by omega) (hp_Li (z := (0 + (1 * w + 0))) l2 rfl (by omega) hp_Ln))) trivial ?_ ?_
  · intro p_9 hp ys l' st_9' h_9' hys a1_9 a2 a3 gZ gL gS
    rcases List.mem_cons.mp hp with rfl | hp
    · obtain rfl := hp_y0 hys
      cases hp_gSn gS
      exact e0 l' h_9' a1_9 a2 a3 (hp_gLa gL (List.mem_of_getElem? (i := 0) rfl) (by decide)) (hp_gLi (z := (0 + (1 * m + 0))) gL (List.mem_of_getElem? (i := 1) rfl) rfl (by omega)) (hp_gLi (z := (0 + (1 * w + 0))) gL (List.mem_of_getElem? (i := 2) rfl) rfl (by omega)) (hp_gLi (z := (0 + (1 * z + 0))) gL (List.mem_of_getElem? (i := 3) rfl) rfl (by omega))
    cases hp
  · intro p_9 hp ys v_9 h_9' hys a1_9 a2 a3 gZ gS
    cases hp
theorem my1_k : hp_chk 346 7 4 [(0, 0, 99), (1, 0, 1199), (2, 0, 8), (3, 0, 28)] [] [(0, .inr (.inr (.inl (some 94)))), (1, .inl (0, [(0, 1)])), (2, .inl (0, [(1, 1)])), (3, .inl (0, [(3, 1)]))] [] [(24576, (0, [(1, 1)]), (0, [(2, 1)]))] [] 2 [(19, ([], 4, [(0, 0, 99), (1, 0, 1199), (2, 0, 8), (3, 0, 28)], [], [(0, .inr (.inr (.inl (some 94)))), (1, .inl (0, [(0, 1)])), (2, .inl (0, [(1, 1)])), (3, .inl (0, [(3, 1)])), (4, .inl (0, [(2, 1)]))], [], []))] [] = true := by decide +kernel
theorem my1 {cst : am_K} {strs : List Nat} {Φ : am_Q → Prop} {D : Nat} {M : am_M} {h : am_H} {l : am_L} (c : hp_C cst strs D) (hM : m_P[346]? = some M) (hD : (2 : Int) ≤ (D : Int) + 1) (hy : ly_hy m_tt ly_TH h) (m w cm i : Int) (b0 : 0 ≤ m) (t0 : m ≤ 99) (b1 : 0 ≤ w) (t1 : w ≤ 1199) (b2 : 0 ≤ cm) (t2 : cm ≤ 8) (b3 : 0 ≤ i) (t3 : i ≤ 28) (k0 : ly_hv cst h 24576 (w) = some (cm)) (l0 : hp_a l 0 94) (l1 : hp_i l 1 (m)) (l2 : hp_i l 2 (w)) (l3 : hp_i l 3 (i)) (e0 : ∀ (l' : am_L) (h_9' : am_H), ly_hy m_tt ly_TH h_9' → ly_fr cst [] h h_9' → h.length ≤ h_9'.length → hp_a l' 0 94 → hp_i l' 1 (m) → hp_i l' 2 (w) → hp_i l' 3 (i) → hp_i l' 4 (cm) → hp_F cst strs Φ D M 19 l' [] h_9') : hp_F cst strs Φ D M 7 l [] h := by
  refine hp_arc c hM my1_k hD [m, w, cm, i] rfl hy (hp_Bc (z := m) rfl b0 t0 (hp_Bc (z := w) rfl b1 t1 (hp_Bc (z := cm) rfl b2 t2 (hp_Bc (z := i) rfl b3 t3 hp_Bn)))) hp_Fn (hp_Kc (zi := (0 + (1 * w + 0))) (zv := (0 + (1 * cm + 0))) k0 rfl rfl (by omega) (by omega) hp_Kn) (hp_La l0 (hp_Li (z := (0 + (1 * m + 0))) l1 rfl (by omega) (hp_Li (z := (0 + (1 * w + 0))) l2 rfl (by omega) (hp_Li (z := (0 + (1 * i + 0))) l3 rfl (by omega) hp_Ln)))) trivial ?_ ?_
  · intro p_9 hp ys l' st_9' h_9' hys a1_9 a2 a3 gZ gL gS
    rcases List.mem_cons.mp hp with rfl | hp
    · obtain rfl := hp_y0 hys
      cases hp_gSn gS
      exact e0 l' h_9' a1_9 a2 a3 (hp_gLa gL (List.mem_of_getElem? (i := 0) rfl) (by decide)) (hp_gLi (z := (0 + (1 * m + 0))) gL (List.mem_of_getElem? (i := 1) rfl) rfl (by omega)) (hp_gLi (z := (0 + (1 * w + 0))) gL (List.mem_of_getElem? (i := 2) rfl) rfl (by omega)) (hp_gLi (z := (0 + (1 * i + 0))) gL (List.mem_of_getElem? (i := 3) rfl) rfl (by omega)) (hp_gLi (z := (0 + (1 * cm + 0))) gL (List.mem_of_getElem? (i := 4) rfl) rfl (by omega))
    cases hp
  · intro p_9 hp ys v_9 h_9' hys a1_9 a2 a3 gZ gS
    cases hp
theorem my2_k : hp_chk 346 7 2 [(0, 0, 99), (1, 0, 1199)] [] [(0, .inr (.inr (.inl (some 94)))), (1, .inl (0, [(0, 1)])), (2, .inl (0, [(1, 1)])), (3, .inl ((-1), []))] [] [] [] 2 [] [([], 2, [(0, 0, 99), (1, 0, 1199)], [], [], [], [])] = true := by decide +kernel
theorem my2 {cst : am_K} {strs : List Nat} {Φ : am_Q → Prop} {D : Nat} {M : am_M} {h : am_H} {l : am_L} (c : hp_C cst strs D) (hM : m_P[346]? = some M) (hD : (2 : Int) ≤ (D : Int) + 1) (hy : ly_hy m_tt ly_TH h) (m w : Int) (b0 : 0 ≤ m) (t0 : m ≤ 99) (b1 : 0 ≤ w) (t1 : w ≤ 1199) (l0 : hp_a l 0 94) (l1 : hp_i l 1 (m)) (l2 : hp_i l 2 (w)) (l3 : hp_i l 3 (-1)) (r0 : ∀ (h_9' : am_H), ly_hy m_tt ly_TH h_9' → ly_fr cst [] h h_9' → h.length ≤ h_9'.length → Φ (none, h_9', 0, 0)) : hp_F cst strs Φ D M 7 l [] h := by
  refine hp_arc c hM my2_k hD [m, w] rfl hy (hp_Bc (z := m) rfl b0 t0 (hp_Bc (z := w) rfl b1 t1 hp_Bn)) hp_Fn hp_Kn (hp_La l0 (hp_Li (z := (0 + (1 * m + 0))) l1 rfl (by omega) (hp_Li (z := (0 + (1 * w + 0))) l2 rfl (by omega) (hp_Li (z := ((-1) + 0)) l3 rfl (by omega) hp_Ln)))) trivial ?_ ?_
  · intro p_9 hp ys l' st_9' h_9' hys a1_9 a2 a3 gZ gL gS
    cases hp
  · intro p_9 hp ys v_9 h_9' hys a1_9 a2 a3 gZ gS
    rcases List.mem_cons.mp hp with rfl | hp
    · obtain rfl := hp_y0 hys
      have sv := hp_gSn gS
      cases v_9 with
      | some wz => cases sv
      | none =>
        exact r0 h_9' a1_9 a2 a3
    cases hp
theorem myE_k : hp_chk 346 19 3 [(0, 0, 99), (1, 0, 1199), (2, 0, 28)] [] [(0, .inr (.inr (.inl (some 94)))), (1, .inl (0, [(0, 1)])), (2, .inl (0, [(1, 1)])), (3, .inl (0, [(2, 1)])), (4, .inl ((-1), []))] [] [] [] 2 [(7, ([], 3, [(0, 0, 99), (1, 0, 1199), (2, 0, 28)], [], [(0, .inr (.inr (.inl (some 94)))), (1, .inl (0, [(0, 1)])), (2, .inl (0, [(1, 1)])), (3, .inl ((-1), [(2, 1)]))], [], []))] [] = true := by decide +kernel
theorem myE {cst : am_K} {strs : List Nat} {Φ : am_Q → Prop} {D : Nat} {M : am_M} {h : am_H} {l : am_L} (c : hp_C cst strs D) (hM : m_P[346]? = some M) (hD : (2 : Int) ≤ (D : Int) + 1) (hy : ly_hy m_tt ly_TH h) (m w i : Int) (b0 : 0 ≤ m) (t0 : m ≤ 99) (b1 : 0 ≤ w) (t1 : w ≤ 1199) (b2 : 0 ≤ i) (t2 : i ≤ 28) (l0 : hp_a l 0 94) (l1 : hp_i l 1 (m)) (l2 : hp_i l 2 (w)) (l3 : hp_i l 3 (i)) (l4 : hp_i l 4 (-1)) (e0 : ∀ (l' : am_L) (h_9' : am_H), ly_hy m_tt ly_TH h_9' → ly_fr cst [] h h_9' → h.length ≤ h_9'.length → hp_a l' 0 94 → hp_i l' 1 (m) → hp_i l' 2 (w) → hp_i l' 3 (i - 1) → hp_F cst strs Φ D M 7 l' [] h_9') : hp_F cst strs Φ D M 19 l [] h := by
  refine hp_arc c hM myE_k hD [m, w, i] rfl hy (hp_Bc (z := m) rfl b0 t0 (hp_Bc (z := w) rfl b1 t1 (hp_Bc (z := i) rfl b2 t2 hp_Bn))) hp_Fn hp_Kn (hp_La l0 (hp_Li (z := (0 + (1 * m + 0))) l1 rfl (by omega) (hp_Li (z := (0 + (1 * w + 0))) l2 rfl (by omega) (hp_Li (z := (0 + (1 * i + 0))) l3 rfl (by omega) (hp_Li (z := ((-1) + 0)) l4 rfl (by omega) hp_Ln))))) trivial ?_ ?_
  · intro p_9 hp ys l' st_9' h_9' hys a1_9 a2 a3 gZ gL gS
    rcases List.mem_cons.mp hp with rfl | hp
    · obtain rfl := hp_y0 hys
      cases hp_gSn gS
      exact e0 l' h_9' a1_9 a2 a3 (hp_gLa gL (List.mem_of_getElem? (i := 0) rfl) (by decide)) (hp_gLi (z := (0 + (1 * m + 0))) gL (List.mem_of_getElem? (i := 1) rfl) rfl (by omega)) (hp_gLi (z := (0 + (1 * w + 0))) gL (List.mem_of_getElem? (i := 2) rfl) rfl (by omega)) (hp_gLi (z := ((-1) + (1 * i + 0))) gL (List.mem_of_getElem? (i := 3) rfl) rfl (by omega))
    cases hp
  · intro p_9 hp ys v_9 h_9' hys a1_9 a2 a3 gZ gS
    cases hp
theorem myA1_k : hp_chk 346 19 4 [(0, 0, 99), (1, 0, 1199), (2, 0, 28), (3, 0, 8)] [] [(0, .inr (.inr (.inl (some 94)))), (1, .inl (0, [(0, 1)])), (2, .inl (0, [(1, 1)])), (3, .inl (0, [(2, 1)])), (4, .inl (0, [(3, 1)]))] [] [(33280, (0, [(0, 1)]), (0, [(2, 1)]))] [] 2 [(61, ([], 4, [(0, 0, 99), (1, 0, 1199), (2, 0, 28), (3, 0, 8)], [], [(0, .inr (.inr (.inl (some 94)))), (1, .inl (0, [(0, 1)])), (2, .inl (0, [(1, 1)])), (3, .inl (0, [(2, 1)])), (4, .inl (0, [(3, 1)]))], [.inl (0, []), .inl (0, [(2, 9), (3, 1)]), .inr (.inr (.inl (some 162)))], []))] [] = true := by decide +kernel
theorem myA1 {cst : am_K} {strs : List Nat} {Φ : am_Q → Prop} {D : Nat} {M : am_M} {h : am_H} {l : am_L} (c : hp_C cst strs D) (hM : m_P[346]? = some M) (hD : (2 : Int) ≤ (D : Int) + 1) (hy : ly_hy m_tt ly_TH h) (m w z j : Int) (b0 : 0 ≤ m) (t0 : m ≤ 99) (b1 : 0 ≤ w) (t1 : w ≤ 1199) (b2 : 0 ≤ z) (t2 : z ≤ 28) (b3 : 0 ≤ j) (t3 : j ≤ 8) (k0 : ly_hv cst h 33280 (m) = some (z)) (l0 : hp_a l 0 94) (l1 : hp_i l 1 (m)) (l2 : hp_i l 2 (w)) (l3 : hp_i l 3 (z)) (l4 : hp_i l 4 (j)) (e0 : ∀ (l' : am_L) (h_9' : am_H) (y0 : Int32) (y1 : Int32), y0.toInt = 0 → y1.toInt = (9 * z + j) → ly_hy m_tt ly_TH h_9' → ly_fr cst [] h h_9' → h.length ≤ h_9'.length → hp_a l' 0 94 → hp_i l' 1 (m) → hp_i l' 2 (w) → hp_i l' 3 (z) → hp_i l' 4 (j) → hp_F cst strs Φ D M 61 l' [.int y0, .int y1, .ref 162] h_9') : hp_F cst strs Φ D M 19 l [] h := by
  refine hp_arc c hM myA1_k hD [m, w, z, j] rfl hy (hp_Bc (z := m) rfl b0 t0 (hp_Bc (z := w) rfl b1 t1 (hp_Bc (z := z) rfl b2 t2 (hp_Bc (z := j) rfl b3 t3 hp_Bn)))) hp_Fn (hp_Kc (zi := (0 + (1 * m + 0))) (zv := (0 + (1 * z + 0))) k0 rfl rfl (by omega) (by omega) hp_Kn) (hp_La l0 (hp_Li (z := (0 + (1 * m + 0))) l1 rfl (by omega) (hp_Li (z := (0 + (1 * w + 0))) l2 rfl (by omega) (hp_Li (z := (0 + (1 * z + 0))) l3 rfl (by omega) (hp_Li (z := (0 + (1 * j + 0))) l4 rfl (by omega) hp_Ln))))) trivial ?_ ?_
  · intro p_9 hp ys l' st_9' h_9' hys a1_9 a2 a3 gZ gL gS
    rcases List.mem_cons.mp hp with rfl | hp
    · obtain rfl := hp_y0 hys
      obtain ⟨y0, t0, rfl, q0, g0⟩ := hp_gSi (z := (0 + 0)) gS rfl
      obtain ⟨y1, t1, rfl, q1_9, g1⟩ := hp_gSi (z := (0 + (9 * z + (1 * j + 0)))) g0 rfl
      obtain ⟨t2, rfl, g2⟩ := hp_gSa g1 (by decide)
      cases hp_gSn g2
      exact e0 l' h_9' y0 y1 (by omega) (by omega) a1_9 a2 a3 (hp_gLa gL (List.mem_of_getElem? (i := 0) rfl) (by decide)) (hp_gLi (z := (0 + (1 * m + 0))) gL (List.mem_of_getElem? (i := 1) rfl) rfl (by omega)) (hp_gLi (z := (0 + (1 * w + 0))) gL (List.mem_of_getElem? (i := 2) rfl) rfl (by omega)) (hp_gLi (z := (0 + (1 * z + 0))) gL (List.mem_of_getElem? (i := 3) rfl) rfl (by omega)) (hp_gLi (z := (0 + (1 * j + 0))) gL (List.mem_of_getElem? (i := 4) rfl) rfl (by omega))
    cases hp
  · intro p_9 hp ys v_9 h_9' hys a1_9 a2 a3 gZ gS
    cases hp
theorem myA2_k : hp_chk 346 19 5 [(0, 0, 99), (1, 0, 1199), (2, 0, 28), (3, 0, 8), (4, 0, 27)] [((-1), [(2, 1), (4, (-1))])] [(0, .inr (.inr (.inl (some 94)))), (1, .inl (0, [(0, 1)])), (2, .inl (0, [(1, 1)])), (3, .inl (0, [(4, 1)])), (4, .inl (0, [(3, 1)]))] [] [(33280, (0, [(0, 1)]), (0, [(2, 1)])), (24576, (0, [(1, 1)]), (0, [(3, 1)]))] [] 2 [(61, ([], 5, [(0, 0, 99), (1, 0, 1199), (2, 0, 28), (3, 0, 8), (4, 0, 27)], [], [(0, .inr (.inr (.inl (some 94)))), (1, .inl (0, [(0, 1)])), (2, .inl (0, [(1, 1)])), (3, .inl (0, [(4, 1)])), (4, .inl (0, [(3, 1)]))], [.inl (0, []), .inl (0, [(3, 1), (4, 9)]), .inr (.inr (.inl (some 162)))], []))] [] = true := by decide +kernel
theorem myA2 {cst : am_K} {strs : List Nat} {Φ : am_Q → Prop} {D : Nat} {M : am_M} {h : am_H} {l : am_L} (c : hp_C cst strs D) (hM : m_P[346]? = some M) (hD : (2 : Int) ≤ (D : Int) + 1) (hy : ly_hy m_tt ly_TH h) (m w z cm i : Int) (b0 : 0 ≤ m) (t0 : m ≤ 99) (b1 : 0 ≤ w) (t1 : w ≤ 1199) (b2 : 0 ≤ z) (t2 : z ≤ 28) (b3 : 0 ≤ cm) (t3 : cm ≤ 8) (b4 : 0 ≤ i) (t4 : i ≤ 27) (f0 : 0 ≤ (z - i - 1)) (k0 : ly_hv cst h 33280 (m) = some (z)) (k1 : ly_hv cst h 24576 (w) = some (cm)) (l0 : hp_a l 0 94) (l1 : hp_i l 1 (m)) (l2 : hp_i l 2 (w)) (l3 : hp_i l 3 (i)) (l4 : hp_i l 4 (cm)) (e0 : ∀ (l' : am_L) (h_9' : am_H) (y0 : Int32) (y1 : Int32), y0.toInt = 0 → y1.toInt = (9 * i + cm) → ly_hy m_tt ly_TH h_9' → ly_fr cst [] h h_9' → h.length ≤ h_9'.length → hp_a l' 0 94 → hp_i l' 1 (m) → hp_i l' 2 (w) → hp_i l' 3 (i) → hp_i l' 4 (cm) → hp_F cst strs Φ D M 61 l' [.int y0, .int y1, .ref 162] h_9') : hp_F cst strs Φ D M 19 l [] h := by
  refine hp_arc c hM myA2_k hD [m, w, z, cm, i] rfl hy (hp_Bc (z := m) rfl b0 t0 (hp_Bc (z := w) rfl b1 t1 (hp_Bc (z := z) rfl b2 t2 (hp_Bc (z := cm) rfl b3 t3 (hp_Bc (z := i) rfl b4 t4 hp_Bn))))) (hp_Fc (z := ((-1) + (1 * z + ((-1) * i + 0)))) rfl (by omega) hp_Fn) (hp_Kc (zi := (0 + (1 * m + 0))) (zv := (0 + (1 * z + 0))) k0 rfl rfl (by omega) (by omega) (hp_Kc (zi := (0 + (1 * w + 0))) (zv := (0 + (1 * cm + 0))) k1 rfl rfl (by omega) (by omega) hp_Kn)) (hp_La l0 (hp_Li (z := (0 + (1 * m + 0))) l1 rfl (by omega) (hp_Li (z := (0 + (1 * w + 0))) l2 rfl (by omega) (hp_Li (z := (0 + (1 * i + 0))) l3 rfl (by omega) (hp_Li (z := (0 + (1 * cm + 0))) l4 rfl (by omega) hp_Ln))))) trivial ?_ ?_
  · intro p_9 hp ys l' st_9' h_9' hys a1_9 a2 a3 gZ gL gS
    rcases List.mem_cons.mp hp with rfl | hp
    · obtain rfl := hp_y0 hys
      obtain ⟨y0, t0, rfl, q0, g0⟩ := hp_gSi (z := (0 + 0)) gS rfl
      obtain ⟨y1, t1, rfl, q1_9, g1⟩ := hp_gSi (z := (0 + (1 * cm + (9 * i + 0)))) g0 rfl
      obtain ⟨t2, rfl, g2⟩ := hp_gSa g1 (by decide)
      cases hp_gSn g2
      exact e0 l' h_9' y0 y1 (by omega) (by omega) a1_9 a2 a3 (hp_gLa gL (List.mem_of_getElem? (i := 0) rfl) (by decide)) (hp_gLi (z := (0 + (1 * m + 0))) gL (List.mem_of_getElem? (i := 1) rfl) rfl (by omega)) (hp_gLi (z := (0 + (1 * w + 0))) gL (List.mem_of_getElem? (i := 2) rfl) rfl (by omega)) (hp_gLi (z := (0 + (1 * i + 0))) gL (List.mem_of_getElem? (i := 3) rfl) rfl (by omega)) (hp_gLi (z := (0 + (1 * cm + 0))) gL (List.mem_of_getElem? (i := 4) rfl) rfl (by omega))
    cases hp
  · intro p_9 hp ys v_9 h_9' hys a1_9 a2 a3 gZ gS
    cases hp
theorem myC_k : hq_chk [344] 346 19 10 [(0, 0, 99), (1, 0, 1199), (2, 0, 28), (3, 0, 8), (4, 0, 27), (5, 0, 7), (6, 0, 29), (7, 0, 401), (8, (-9223372036854775808), 9223372036854775807), (9, 0, 7)] [((-1), [(2, 1), (4, (-1))]), ((-1), [(3, 1), (5, (-1))]), (329, [(5, (-1)), (7, (-1))])] [(0, .inr (.inr (.inl (some 94)))), (1, .inl (0, [(0, 1)])), (2, .inl (0, [(1, 1)])), (3, .inl (0, [(4, 1)])), (4, .inl (0, [(5, 1)]))] [] [(33280, (0, [(0, 1)]), (0, [(2, 1)])), (24576, (0, [(1, 1)]), (0, [(3, 1)])), (62040, (0, [(1, 1)]), (0, [(6, 1)])), (24320, (0, [(1, 1)]), (0, [(7, 1)])), (33024, (0, [(0, 30), (4, 1)]), (0, [(8, 1)])), (27136, (0, [(5, 1), (6, 330), (7, 1)]), (0, [(8, 1)])), (37376, (10, [(4, 9), (5, 1)]), (0, [(9, 1)]))] [] 4 [(105, ([], 10, [(0, 0, 99), (1, 0, 1199), (2, 0, 28), (3, 0, 8), (4, 0, 27), (5, 0, 7), (6, 0, 29), (7, 0, 401), (8, (-9223372036854775808), 9223372036854775807), (9, 0, 7)], [], [(0, .inr (.inr (.inl (some 94)))), (1, .inl (0, [(0, 1)])), (2, .inl (0, [(1, 1)])), (3, .inl (0, [(4, 1)])), (4, .inl (0, [(5, 1)]))], [.inl (1, [(9, 1)]), .inl (0, [(4, 9), (5, 1)]), .inr (.inr (.inl (some 162)))], []))] [] = true := by decide +kernel
theorem myC {cst : am_K} {strs : List Nat} {Φ : am_Q → Prop} {D : Nat} {M : am_M} {h : am_H} {l : am_L} (c : hp_C cst strs D) (hM : m_P[346]? = some M) (hD : (4 : Int) ≤ (D : Int) + 1) (hy : ly_hy m_tt ly_TH h) (m w z cm i j q f u x : Int) (b0 : 0 ≤ m) (t0 : m ≤ 99) (b1 : 0 ≤ w) (t1 : w ≤ 1199) (b2 : 0 ≤ z) (t2 : z ≤ 28) (b3 : 0 ≤ cm) (t3 : cm ≤ 8) (b4 : 0 ≤ i) (t4 : i ≤ 27) (b5 : 0 ≤ j) (t5 : j ≤ 7) (b6 : 0 ≤ q) (t6 : q ≤ 29) (b7 : 0 ≤ f) (t7 : f ≤ 401) (b8 : (-9223372036854775808) ≤ u) (t8 : u ≤ 9223372036854775807) (b9 : 0 ≤ x) (t9 : x ≤ 7) (f0 : 0 ≤ (z - i - 1)) (f1 : 0 ≤ (cm - j - 1)) (f2 : 0 ≤ (-f - j + 329)) (k0 : ly_hv cst h 33280 (m) = some (z)) (k1 : ly_hv cst h 24576 (w) = some (cm)) (k2 : ly_hv cst h 62040 (w) = some (q)) (k3 : ly_hv cst h 24320 (w) = some (f)) (k4 : ly_hv cst h 33024 (30 * m + i) = some (u)) (k5 : ly_hv cst h 27136 (330 * q + f + j) = some (u)) (k6 : ly_hv cst h 37376 (9 * i + j + 10) = some (x)) (l0 : hp_a l 0 94) (l1 : hp_i l 1 (m)) (l2 : hp_i l 2 (w)) (l3 : hp_i l 3 (i)) (l4 : hp_i l 4 (j)) (e0 : ∀ (l' : am_L) (h_9' : am_H) (y0 : Int32) (y1 : Int32), y0.toInt = (x + 1) → y1.toInt = (9 * i + j) → ly_hy m_tt ly_TH h_9' → ly_fr cst [] h h_9' → h.length ≤ h_9'.length → hp_a l' 0 94 → hp_i l' 1 (m) → hp_i l' 2 (w) → hp_i l' 3 (i) → hp_i l' 4 (j) → hp_F cst strs Φ D M 105 l' [.int y0, .int y1, .ref 162] h_9') : hp_F cst strs Φ D M 19 l [] h := by
  refine hq_arc c hM myC_k hD [m, w, z, cm, i, j, q, f, u, x] rfl hy (hp_Bc (z := m) rfl b0 t0 (hp_Bc (z := w) rfl b1 t1 (hp_Bc (z := z) rfl b2 t2 (hp_Bc (z := cm) rfl b3 t3 (hp_Bc (z := i) rfl b4 t4 (hp_Bc (z := j) rfl b5 t5 (hp_Bc (z := q) rfl b6 t6 (hp_Bc (z := f) rfl b7 t7 (hp_Bc (z := u) rfl b8 t8 (hp_Bc (z := x) rfl b9 t9 hp_Bn)))))))))) (hp_Fc (z := ((-1) + (1 * z + ((-1) * i + 0)))) rfl (by omega) (hp_Fc (z := ((-1) + (1 * cm + ((-1) * j + 0)))) rfl (by omega) (hp_Fc (z := (329 + ((-1) * j + ((-1) * f + 0)))) rfl (by omega) hp_Fn))) (hp_Kc (zi := (0 + (1 * m + 0))) (zv := (0 + (1 * z + 0))) k0 rfl rfl (by omega) (by omega) (hp_Kc (zi := (0 + (1 * w + 0))) (zv := (0 + (1 * cm + 0))) k1 rfl rfl (by omega) (by omega) (hp_Kc (zi := (0 + (1 * w + 0))) (zv := (0 + (1 * q + 0))) k2 rfl rfl (by omega) (by omega) (hp_Kc (zi := (0 + (1 * w + 0))) (zv := (0 + (1 * f + 0))) k3 rfl rfl (by omega) (by omega) (hp_Kc (zi := (0 + (30 * m + (1 * i + 0)))) (zv := (0 + (1 * u + 0))) k4 rfl rfl (by omega) (by omega) (hp_Kc (zi := (0 + (1 * j + (330 * q + (1 * f + 0))))) (zv := (0 + (1 * u + 0))) k5 rfl rfl (by omega) (by omega) (hp_Kc (zi := (10 + (9 * i + (1 * j + 0)))) (zv := (0 + (1 * x + 0))) k6 rfl rfl (by omega) (by omega) hp_Kn))))))) (hp_La l0 (hp_Li (z := (0 + (1 * m + 0))) l1 rfl (by omega) (hp_Li (z := (0 + (1 * w + 0))) l2 rfl (by omega) (hp_Li (z := (0 + (1 * i + 0))) l3 rfl (by omega) (hp_Li (z := (0 + (1 * j + 0))) l4 rfl (by omega) hp_Ln))))) trivial ?_ ?_
  · intro p_9 hp ys l' st_9' h_9' hys a1_9 a2 a3 gZ gL gS
    rcases List.mem_cons.mp hp with rfl | hp
    · obtain rfl := hp_y0 hys
      obtain ⟨y0, t0, rfl, q0, g0⟩ := hp_gSi (z := (1 + (1 * x + 0))) gS rfl
      obtain ⟨y1, t1, rfl, q1_9, g1⟩ := hp_gSi (z := (0 + (9 * i + (1 * j + 0)))) g0 rfl
      obtain ⟨t2, rfl, g2⟩ := hp_gSa g1 (by decide)
      cases hp_gSn g2
      exact e0 l' h_9' y0 y1 (by omega) (by omega) a1_9 a2 a3 (hp_gLa gL (List.mem_of_getElem? (i := 0) rfl) (by decide)) (hp_gLi (z := (0 + (1 * m + 0))) gL (List.mem_of_getElem? (i := 1) rfl) rfl (by omega)) (hp_gLi (z := (0 + (1 * w + 0))) gL (List.mem_of_getElem? (i := 2) rfl) rfl (by omega)) (hp_gLi (z := (0 + (1 * i + 0))) gL (List.mem_of_getElem? (i := 3) rfl) rfl (by omega)) (hp_gLi (z := (0 + (1 * j + 0))) gL (List.mem_of_getElem? (i := 4) rfl) rfl (by omega))
    cases hp
  · intro p_9 hp ys v_9 h_9' hys a1_9 a2 a3 gZ gS
    cases hp
theorem myD1_k : hq_chk [344] 346 19 12 [(0, 0, 99), (1, 0, 1199), (2, 0, 28), (3, 0, 8), (4, 0, 27), (5, 0, 7), (6, 0, 29), (7, 0, 401), (8, (-9223372036854775808), 9223372036854775807), (9, (-9223372036854775808), 9223372036854775807), (10, 0, 8), (11, 0, 8)] [((-1), [(2, 1), (4, (-1))]), ((-1), [(3, 1), (5, (-1))]), (329, [(5, (-1)), (7, (-1))]), ((-1), [(10, 1), (11, (-1))])] [(0, .inr (.inr (.inl (some 94)))), (1, .inl (0, [(0, 1)])), (2, .inl (0, [(1, 1)])), (3, .inl (0, [(4, 1)])), (4, .inl (0, [(5, 1)]))] [] [(33280, (0, [(0, 1)]), (0, [(2, 1)])), (24576, (0, [(1, 1)]), (0, [(3, 1)])), (62040, (0, [(1, 1)]), (0, [(6, 1)])), (24320, (0, [(1, 1)]), (0, [(7, 1)])), (33024, (0, [(0, 30), (4, 1)]), (0, [(8, 1)])), (27136, (0, [(5, 1), (6, 330), (7, 1)]), (0, [(9, 1)])), (61000, (0, [(8, 1), (9, (-1))]), (1, [])), (37376, (9, [(4, 9), (5, 1)]), (0, [(10, 1)])), (37376, (1, [(4, 9), (5, 1)]), (0, [(11, 1)]))] [] 4 [(159, ([], 12, [(0, 0, 99), (1, 0, 1199), (2, 0, 28), (3, 0, 8), (4, 0, 27), (5, 0, 7), (6, 0, 29), (7, 0, 401), (8, (-9223372036854775808), 9223372036854775807), (9, (-9223372036854775808), 9223372036854775807), (10, 0, 8), (11, 0, 8)], [], [(0, .inr (.inr (.inl (some 94)))), (1, .inl (0, [(0, 1)])), (2, .inl (0, [(1, 1)])), (3, .inl (0, [(4, 1)])), (4, .inl (0, [(5, 1)]))], [.inl (0, [(10, 1)]), .inl (0, [(4, 9), (5, 1)]), .inr (.inr (.inl (some 162)))], []))] [] = true := by decide +kernel
theorem myD1 {cst : am_K} {strs : List Nat} {Φ : am_Q → Prop} {D : Nat} {M : am_M} {h : am_H} {l : am_L} (c : hp_C cst strs D) (hM : m_P[346]? = some M) (hD : (4 : Int) ≤ (D : Int) + 1) (hy : ly_hy m_tt ly_TH h) (m w z cm i j q f u v x y : Int) (b0 : 0 ≤ m) (t0 : m ≤ 99) (b1 : 0 ≤ w) (t1 : w ≤ 1199) (b2 : 0 ≤ z) (t2 : z ≤ 28) (b3 : 0 ≤ cm) (t3 : cm ≤ 8) (b4 : 0 ≤ i) (t4 : i ≤ 27) (b5 : 0 ≤ j) (t5 : j ≤ 7) (b6 : 0 ≤ q) (t6 : q ≤ 29) (b7 : 0 ≤ f) (t7 : f ≤ 401) (b8 : (-9223372036854775808) ≤ u) (t8 : u ≤ 9223372036854775807) (b9 : (-9223372036854775808) ≤ v) (t9 : v ≤ 9223372036854775807) (b10 : 0 ≤ x) (t10 : x ≤ 8) (b11 : 0 ≤ y) (t11 : y ≤ 8) (f0 : 0 ≤ (z - i - 1)) (f1 : 0 ≤ (cm - j - 1)) (f2 : 0 ≤ (-f - j + 329)) (f3 : 0 ≤ (x - y - 1)) (k0 : ly_hv cst h 33280 (m) = some (z)) (k1 : ly_hv cst h 24576 (w) = some (cm)) (k2 : ly_hv cst h 62040 (w) = some (q)) (k3 : ly_hv cst h 24320 (w) = some (f)) (k4 : ly_hv cst h 33024 (30 * m + i) = some (u)) (k5 : ly_hv cst h 27136 (330 * q + f + j) = some (v)) (k6 : ly_hv cst h 61000 (u - v) = some 1) (k7 : ly_hv cst h 37376 (9 * i + j + 9) = some (x)) (k8 : ly_hv cst h 37376 (9 * i + j + 1) = some (y)) (l0 : hp_a l 0 94) (l1 : hp_i l 1 (m)) (l2 : hp_i l 2 (w)) (l3 : hp_i l 3 (i)) (l4 : hp_i l 4 (j)) (e0 : ∀ (l' : am_L) (h_9' : am_H) (y0 : Int32) (y1 : Int32), y0.toInt = (x) → y1.toInt = (9 * i + j) → ly_hy m_tt ly_TH h_9' → ly_fr cst [] h h_9' → h.length ≤ h_9'.length → hp_a l' 0 94 → hp_i l' 1 (m) → hp_i l' 2 (w) → hp_i l' 3 (i) → hp_i l' 4 (j) → hp_F cst strs Φ D M 159 l' [.int y0, .int y1, .ref 162] h_9') : hp_F cst strs Φ D M 19 l [] h := by
  refine hq_arc c hM myD1_k hD [m, w, z, cm, i, j, q, f, u, v, x, y] rfl hy (hp_Bc (z := m) rfl b0 t0 (hp_Bc (z := w) rfl b1 t1 (hp_Bc (z := z) rfl b2 t2 (hp_Bc (z := cm) rfl b3 t3 (hp_Bc (z := i) rfl b4 t4 (hp_Bc (z := j) rfl b5 t5 (hp_Bc (z := q) rfl b6 t6 (hp_Bc (z := f) rfl b7 t7 (hp_Bc (z := u) rfl b8 t8 (hp_Bc (z := v) rfl b9 t9 (hp_Bc (z := x) rfl b10 t10 (hp_Bc (z := y) rfl b11 t11 hp_Bn)))))))))))) (hp_Fc (z := ((-1) + (1 * z + ((-1) * i + 0)))) rfl (by omega) (hp_Fc (z := ((-1) + (1 * cm + ((-1) * j + 0)))) rfl (by omega) (hp_Fc (z := (329 + ((-1) * j + ((-1) * f + 0)))) rfl (by omega) (hp_Fc (z := ((-1) + (1 * x + ((-1) * y + 0)))) rfl (by omega) hp_Fn)))) (hp_Kc (zi := (0 + (1 * m + 0))) (zv := (0 + (1 * z + 0))) k0 rfl rfl (by omega) (by omega) (hp_Kc (zi := (0 + (1 * w + 0))) (zv := (0 + (1 * cm + 0))) k1 rfl rfl (by omega) (by omega) (hp_Kc (zi := (0 + (1 * w + 0))) (zv := (0 + (1 * q + 0))) k2 rfl rfl (by omega) (by omega) (hp_Kc (zi := (0 + (1 * w + 0))) (zv := (0 + (1 * f + 0))) k3 rfl rfl (by omega) (by omega) (hp_Kc (zi := (0 + (30 * m + (1 * i + 0)))) (zv := (0 + (1 * u + 0))) k4 rfl rfl (by omega) (by omega) (hp_Kc (zi := (0 + (1 * j + (330 * q + (1 * f + 0))))) (zv := (0 + (1 * v + 0))) k5 rfl rfl (by omega) (by omega) (hp_Kc (zi := (0 + (1 * u + ((-1) * v + 0)))) (zv := (1 + 0)) k6 rfl rfl (by omega) (by omega) (hp_Kc (zi := (9 + (9 * i + (1 * j + 0)))) (zv := (0 + (1 * x + 0))) k7 rfl rfl (by omega) (by omega) (hp_Kc (zi := (1 + (9 * i + (1 * j + 0)))) (zv := (0 + (1 * y + 0))) k8 rfl rfl (by omega) (by omega) hp_Kn))))))))) (hp_La l0 (hp_Li (z := (0 + (1 * m + 0))) l1 rfl (by omega) (hp_Li (z := (0 + (1 * w + 0))) l2 rfl (by omega) (hp_Li (z := (0 + (1 * i + 0))) l3 rfl (by omega) (hp_Li (z := (0 + (1 * j + 0))) l4 rfl (by omega) hp_Ln))))) trivial ?_ ?_
  · intro p_9 hp ys l' st_9' h_9' hys a1_9 a2 a3 gZ gL gS
    rcases List.mem_cons.mp hp with rfl | hp
    · obtain rfl := hp_y0 hys
      obtain ⟨y0, t0, rfl, q0, g0⟩ := hp_gSi (z := (0 + (1 * x + 0))) gS rfl
      obtain ⟨y1, t1, rfl, q1_9, g1⟩ := hp_gSi (z := (0 + (9 * i + (1 * j + 0)))) g0 rfl
      obtain ⟨t2, rfl, g2⟩ := hp_gSa g1 (by decide)
      cases hp_gSn g2
      exact e0 l' h_9' y0 y1 (by omega) (by omega) a1_9 a2 a3 (hp_gLa gL (List.mem_of_getElem? (i := 0) rfl) (by decide)) (hp_gLi (z := (0 + (1 * m + 0))) gL (List.mem_of_getElem? (i := 1) rfl) rfl (by omega)) (hp_gLi (z := (0 + (1 * w + 0))) gL (List.mem_of_getElem? (i := 2) rfl) rfl (by omega)) (hp_gLi (z := (0 + (1 * i + 0))) gL (List.mem_of_getElem? (i := 3) rfl) rfl (by omega)) (hp_gLi (z := (0 + (1 * j + 0))) gL (List.mem_of_getElem? (i := 4) rfl) rfl (by omega))
    cases hp
  · intro p_9 hp ys v h_9' hys a1_9 a2 a3 gZ gS
    cases hp
theorem myD2_k : hq_chk [344] 346 19 12 [(0, 0, 99), (1, 0, 1199), (2, 0, 28), (3, 0, 8), (4, 0, 27), (5, 0, 7), (6, 0, 29), (7, 0, 401), (8, (-9223372036854775808), 9223372036854775807), (9, (-9223372036854775808), 9223372036854775807), (10, 0, 8), (11, 0, 8)] [((-1), [(2, 1), (4, (-1))]), ((-1), [(3, 1), (5, (-1))]), (329, [(5, (-1)), (7, (-1))]), (0, [(10, (-1)), (11, 1)])] [(0, .inr (.inr (.inl (some 94)))), (1, .inl (0, [(0, 1)])), (2, .inl (0, [(1, 1)])), (3, .inl (0, [(4, 1)])), (4, .inl (0, [(5, 1)]))] [] [(33280, (0, [(0, 1)]), (0, [(2, 1)])), (24576, (0, [(1, 1)]), (0, [(3, 1)])), (62040, (0, [(1, 1)]), (0, [(6, 1)])), (24320, (0, [(1, 1)]), (0, [(7, 1)])), (33024, (0, [(0, 30), (4, 1)]), (0, [(8, 1)])), (27136, (0, [(5, 1), (6, 330), (7, 1)]), (0, [(9, 1)])), (61000, (0, [(8, 1), (9, (-1))]), (1, [])), (37376, (9, [(4, 9), (5, 1)]), (0, [(10, 1)])), (37376, (1, [(4, 9), (5, 1)]), (0, [(11, 1)]))] [] 4 [(159, ([], 12, [(0, 0, 99), (1, 0, 1199), (2, 0, 28), (3, 0, 8), (4, 0, 27), (5, 0, 7), (6, 0, 29), (7, 0, 401), (8, (-9223372036854775808), 9223372036854775807), (9, (-9223372036854775808), 9223372036854775807), (10, 0, 8), (11, 0, 8)], [], [(0, .inr (.inr (.inl (some 94)))), (1, .inl (0, [(0, 1)])), (2, .inl (0, [(1, 1)])), (3, .inl (0, [(4, 1)])), (4, .inl (0, [(5, 1)]))], [.inl (0, [(11, 1)]), .inl (0, [(4, 9), (5, 1)]), .inr (.inr (.inl (some 162)))], []))] [] = true := by decide +kernel
theorem myD2 {cst : am_K} {strs : List Nat} {Φ : am_Q → Prop} {D : Nat} {M : am_M} {h : am_H} {l : am_L} (c : hp_C cst strs D) (hM : m_P[346]? = some M) (hD : (4 : Int) ≤ (D : Int) + 1) (hy : ly_hy m_tt ly_TH h) (m w z cm i j q f u v x y : Int) (b0 : 0 ≤ m) (t0 : m ≤ 99) (b1 : 0 ≤ w) (t1 : w ≤ 1199) (b2 : 0 ≤ z) (t2 : z ≤ 28) (b3 : 0 ≤ cm) (t3 : cm ≤ 8) (b4 : 0 ≤ i) (t4 : i ≤ 27) (b5 : 0 ≤ j) (t5 : j ≤ 7) (b6 : 0 ≤ q) (t6 : q ≤ 29) (b7 : 0 ≤ f) (t7 : f ≤ 401) (b8 : (-9223372036854775808) ≤ u) (t8 : u ≤ 9223372036854775807) (b9 : (-9223372036854775808) ≤ v) (t9 : v ≤ 9223372036854775807) (b10 : 0 ≤ x) (t10 : x ≤ 8) (b11 : 0 ≤ y) (t11 : y ≤ 8) (f0 : 0 ≤ (z - i - 1)) (f1 : 0 ≤ (cm - j - 1)) (f2 : 0 ≤ (-f - j + 329)) (f3 : 0 ≤ (y - x)) (k0 : ly_hv cst h 33280 (m) = some (z)) (k1 : ly_hv cst h 24576 (w) = some (cm)) (k2 : ly_hv cst h 62040 (w) = some (q)) (k3 : ly_hv cst h 24320 (w) = some (f)) (k4 : ly_hv cst h 33024 (30 * m + i) = some (u)) (k5 : ly_hv cst h 27136 (330 * q + f + j) = some (v)) (k6 : ly_hv cst h 61000 (u - v) = some 1) (k7 : ly_hv cst h 37376 (9 * i + j + 9) = some (x)) (k8 : ly_hv cst h 37376 (9 * i + j + 1) = some (y)) (l0 : hp_a l 0 94) (l1 : hp_i l 1 (m)) (l2 : hp_i l 2 (w)) (l3 : hp_i l 3 (i)) (l4 : hp_i l 4 (j)) (e0 : ∀ (l' : am_L) (h_9' : am_H) (y0 : Int32) (y1 : Int32), y0.toInt = (y) → y1.toInt = (9 * i + j) → ly_hy m_tt ly_TH h_9' → ly_fr cst [] h h_9' → h.length ≤ h_9'.length → hp_a l' 0 94 → hp_i l' 1 (m) → hp_i l' 2 (w) → hp_i l' 3 (i) → hp_i l' 4 (j) → hp_F cst strs Φ D M 159 l' [.int y0, .int y1, .ref 162] h_9') : hp_F cst strs Φ D M 19 l [] h := by
  refine hq_arc c hM myD2_k hD [m, w, z, cm, i, j, q, f, u, v, x, y] rfl hy (hp_Bc (z := m) rfl b0 t0 (hp_Bc (z := w) rfl b1 t1 (hp_Bc (z := z) rfl b2 t2 (hp_Bc (z := cm) rfl b3 t3 (hp_Bc (z := i) rfl b4 t4 (hp_Bc (z := j) rfl b5 t5 (hp_Bc (z := q) rfl b6 t6 (hp_Bc (z := f) rfl b7 t7 (hp_Bc (z := u) rfl b8 t8 (hp_Bc (z := v) rfl b9 t9 (hp_Bc (z := x) rfl b10 t10 (hp_Bc (z := y) rfl b11 t11 hp_Bn)))))))))))) (hp_Fc (z := ((-1) + (1 * z + ((-1) * i + 0)))) rfl (by omega) (hp_Fc (z := ((-1) + (1 * cm + ((-1) * j + 0)))) rfl (by omega) (hp_Fc (z := (329 + ((-1) * j + ((-1) * f + 0)))) rfl (by omega) (hp_Fc (z := (0 + ((-1) * x + (1 * y + 0)))) rfl (by omega) hp_Fn)))) (hp_Kc (zi := (0 + (1 * m + 0))) (zv := (0 + (1 * z + 0))) k0 rfl rfl (by omega) (by omega) (hp_Kc (zi := (0 + (1 * w + 0))) (zv := (0 + (1 * cm + 0))) k1 rfl rfl (by omega) (by omega) (hp_Kc (zi := (0 + (1 * w + 0))) (zv := (0 + (1 * q + 0))) k2 rfl rfl (by omega) (by omega) (hp_Kc (zi := (0 + (1 * w + 0))) (zv := (0 + (1 * f + 0))) k3 rfl rfl (by omega) (by omega) (hp_Kc (zi := (0 + (30 * m + (1 * i + 0)))) (zv := (0 + (1 * u + 0))) k4 rfl rfl (by omega) (by omega) (hp_Kc (zi := (0 + (1 * j + (330 * q + (1 * f + 0))))) (zv := (0 + (1 * v + 0))) k5 rfl rfl (by omega) (by omega) (hp_Kc (zi := (0 + (1 * u + ((-1) * v + 0)))) (zv := (1 + 0)) k6 rfl rfl (by omega) (by omega) (hp_Kc (zi := (9 + (9 * i + (1 * j + 0)))) (zv := (0 + (1 * x + 0))) k7 rfl rfl (by omega) (by omega) (hp_Kc (zi := (1 + (9 * i + (1 * j + 0)))) (zv := (0 + (1 * y + 0))) k8 rfl rfl (by omega) (by omega) hp_Kn))))))))) (hp_La l0 (hp_Li (z := (0 + (1 * m + 0))) l1 rfl (by omega) (hp_Li (z := (0 + (1 * w + 0))) l2 rfl (by omega) (hp_Li (z := (0 + (1 * i + 0))) l3 rfl (by omega) (hp_Li (z := (0 + (1 * j + 0))) l4 rfl (by omega) hp_Ln))))) trivial ?_ ?_
  · intro p_9 hp ys l' st_9' h_9' hys a1_9 a2 a3 gZ gL gS
    rcases List.mem_cons.mp hp with rfl | hp
    · obtain rfl := hp_y0 hys
      obtain ⟨y0, t0, rfl, q0, g0⟩ := hp_gSi (z := (0 + (1 * y + 0))) gS rfl
      obtain ⟨y1, t1, rfl, q1_9, g1⟩ := hp_gSi (z := (0 + (9 * i + (1 * j + 0)))) g0 rfl
      obtain ⟨t2, rfl, g2⟩ := hp_gSa g1 (by decide)
      cases hp_gSn g2
      exact e0 l' h_9' y0 y1 (by omega) (by omega) a1_9 a2 a3 (hp_gLa gL (List.mem_of_getElem? (i := 0) rfl) (by decide)) (hp_gLi (z := (0 + (1 * m + 0))) gL (List.mem_of_getElem? (i := 1) rfl) rfl (by omega)) (hp_gLi (z := (0 + (1 * w + 0))) gL (List.mem_of_getElem? (i := 2) rfl) rfl (by omega)) (hp_gLi (z := (0 + (1 * i + 0))) gL (List.mem_of_getElem? (i := 3) rfl) rfl (by omega)) (hp_gLi (z := (0 + (1 * j + 0))) gL (List.mem_of_getElem? (i := 4) rfl) rfl (by omega))
    cases hp
  · intro p_9 hp ys v h_9' hys a1_9 a2 a3 gZ gS
    cases hp
theorem myF1_k : hp_chk 346 62 4 [(0, 0, 99), (1, 0, 1199), (2, 0, 28), (3, 0, 8)] [] [(0, .inr (.inr (.inl (some 94)))), (1, .inl (0, [(0, 1)])), (2, .inl (0, [(1, 1)])), (3, .inl (0, [(2, 1)])), (4, .inl (0, [(3, 1)]))] [] [] [] 2 [(19, ([], 4, [(0, 0, 99), (1, 0, 1199), (2, 0, 28), (3, 0, 8)], [], [(0, .inr (.inr (.inl (some 94)))), (1, .inl (0, [(0, 1)])), (2, .inl (0, [(1, 1)])), (3, .inl (0, [(2, 1)])), (4, .inl ((-1), [(3, 1)]))], [], []))] [] = true := by decide +kernel
theorem myF1 {cst : am_K} {strs : List Nat} {Φ : am_Q → Prop} {D : Nat} {M : am_M} {h : am_H} {l : am_L} (c : hp_C cst strs D) (hM : m_P[346]? = some M) (hD : (2 : Int) ≤ (D : Int) + 1) (hy : ly_hy m_tt ly_TH h) (m w i j : Int) (b0 : 0 ≤ m) (t0 : m ≤ 99) (b1 : 0 ≤ w) (t1 : w ≤ 1199) (b2 : 0 ≤ i) (t2 : i ≤ 28) (b3 : 0 ≤ j) (t3 : j ≤ 8) (l0 : hp_a l 0 94) (l1 : hp_i l 1 (m)) (l2 : hp_i l 2 (w)) (l3 : hp_i l 3 (i)) (l4 : hp_i l 4 (j)) (e0 : ∀ (l' : am_L) (h_9' : am_H), ly_hy m_tt ly_TH h_9' → ly_fr cst [] h h_9' → h.length ≤ h_9'.length → hp_a l' 0 94 → hp_i l' 1 (m) → hp_i l' 2 (w) → hp_i l' 3 (i) → hp_i l' 4 (j - 1) → hp_F cst strs Φ D M 19 l' [] h_9') : hp_F cst strs Φ D M 62 l [] h := by
  refine hp_arc c hM myF1_k hD [m, w, i, j] rfl hy (hp_Bc (z := m) rfl b0 t0 (hp_Bc (z := w) rfl b1 t1 (hp_Bc (z := i) rfl b2 t2 (hp_Bc (z := j) rfl b3 t3 hp_Bn)))) hp_Fn hp_Kn (hp_La l0 (hp_Li (z := (0 + (1 * m + 0))) l1 rfl (by omega) (hp_Li (z := (0 + (1 * w + 0))) l2 rfl (by omega) (hp_Li (z := (0 + (1 * i + 0))) l3 rfl (by omega) (hp_Li (z := (0 + (1 * j + 0))) l4 rfl (by omega) hp_Ln))))) trivial ?_ ?_
  · intro p_9 hp ys l' st_9' h_9' hys a1_9 a2 a3 gZ gL gS
    rcases List.mem_cons.mp hp with rfl | hp
    · obtain rfl := hp_y0 hys
      cases hp_gSn gS
      exact e0 l' h_9' a1_9 a2 a3 (hp_gLa gL (List.mem_of_getElem? (i := 0) rfl) (by decide)) (hp_gLi (z := (0 + (1 * m + 0))) gL (List.mem_of_getElem? (i := 1) rfl) rfl (by omega)) (hp_gLi (z := (0 + (1 * w + 0))) gL (List.mem_of_getElem? (i := 2) rfl) rfl (by omega)) (hp_gLi (z := (0 + (1 * i + 0))) gL (List.mem_of_getElem? (i := 3) rfl) rfl (by omega)) (hp_gLi (z := ((-1) + (1 * j + 0))) gL (List.mem_of_getElem? (i := 4) rfl) rfl (by omega))
    cases hp
  · intro p_9 hp ys v_9 h_9' hys a1_9 a2 a3 gZ gS
    cases hp
theorem myF2_k : hp_chk 346 106 4 [(0, 0, 99), (1, 0, 1199), (2, 0, 28), (3, 0, 8)] [] [(0, .inr (.inr (.inl (some 94)))), (1, .inl (0, [(0, 1)])), (2, .inl (0, [(1, 1)])), (3, .inl (0, [(2, 1)])), (4, .inl (0, [(3, 1)]))] [] [] [] 2 [(19, ([], 4, [(0, 0, 99), (1, 0, 1199), (2, 0, 28), (3, 0, 8)], [], [(0, .inr (.inr (.inl (some 94)))), (1, .inl (0, [(0, 1)])), (2, .inl (0, [(1, 1)])), (3, .inl (0, [(2, 1)])), (4, .inl ((-1), [(3, 1)]))], [], []))] [] = true := by decide +kernel
theorem myF2 {cst : am_K} {strs : List Nat} {Φ : am_Q → Prop} {D : Nat} {M : am_M} {h : am_H} {l : am_L} (c : hp_C cst strs D) (hM : m_P[346]? = some M) (hD : (2 : Int) ≤ (D : Int) + 1) (hy : ly_hy m_tt ly_TH h) (m w i j : Int) (b0 : 0 ≤ m) (t0 : m ≤ 99) (b1 : 0 ≤ w) (t1 : w ≤ 1199) (b2 : 0 ≤ i) (t2 : i ≤ 28) (b3 : 0 ≤ j) (t3 : j ≤ 8) (l0 : hp_a l 0 94) (l1 : hp_i l 1 (m)) (l2 : hp_i l 2 (w)) (l3 : hp_i l 3 (i)) (l4 : hp_i l 4 (j)) (e0 : ∀ (l' : am_L) (h_9' : am_H), ly_hy m_tt ly_TH h_9' → ly_fr cst [] h h_9' → h.length ≤ h_9'.length → hp_a l' 0 94 → hp_i l' 1 (m) → hp_i l' 2 (w) → hp_i l' 3 (i) → hp_i l' 4 (j - 1) → hp_F cst strs Φ D M 19 l' [] h_9') : hp_F cst strs Φ D M 106 l [] h := by
  refine hp_arc c hM myF2_k hD [m, w, i, j] rfl hy (hp_Bc (z := m) rfl b0 t0 (hp_Bc (z := w) rfl b1 t1 (hp_Bc (z := i) rfl b2 t2 (hp_Bc (z := j) rfl b3 t3 hp_Bn)))) hp_Fn hp_Kn (hp_La l0 (hp_Li (z := (0 + (1 * m + 0))) l1 rfl (by omega) (hp_Li (z := (0 + (1 * w + 0))) l2 rfl (by omega) (hp_Li (z := (0 + (1 * i + 0))) l3 rfl (by omega) (hp_Li (z := (0 + (1 * j + 0))) l4 rfl (by omega) hp_Ln))))) trivial ?_ ?_
  · intro p_9 hp ys l' st_9' h_9' hys a1_9 a2 a3 gZ gL gS
    rcases List.mem_cons.mp hp with rfl | hp
    · obtain rfl := hp_y0 hys
      cases hp_gSn gS
      exact e0 l' h_9' a1_9 a2 a3 (hp_gLa gL (List.mem_of_getElem? (i := 0) rfl) (by decide)) (hp_gLi (z := (0 + (1 * m + 0))) gL (List.mem_of_getElem? (i := 1) rfl) rfl (by omega)) (hp_gLi (z := (0 + (1 * w + 0))) gL (List.mem_of_getElem? (i := 2) rfl) rfl (by omega)) (hp_gLi (z := (0 + (1 * i + 0))) gL (List.mem_of_getElem? (i := 3) rfl) rfl (by omega)) (hp_gLi (z := ((-1) + (1 * j + 0))) gL (List.mem_of_getElem? (i := 4) rfl) rfl (by omega))
    cases hp
  · intro p_9 hp ys v_9 h_9' hys a1_9 a2 a3 gZ gS
    cases hp
theorem myF3_k : hp_chk 346 160 4 [(0, 0, 99), (1, 0, 1199), (2, 0, 28), (3, 0, 8)] [] [(0, .inr (.inr (.inl (some 94)))), (1, .inl (0, [(0, 1)])), (2, .inl (0, [(1, 1)])), (3, .inl (0, [(2, 1)])), (4, .inl (0, [(3, 1)]))] [] [] [] 2 [(19, ([], 4, [(0, 0, 99), (1, 0, 1199), (2, 0, 28), (3, 0, 8)], [], [(0, .inr (.inr (.inl (some 94)))), (1, .inl (0, [(0, 1)])), (2, .inl (0, [(1, 1)])), (3, .inl (0, [(2, 1)])), (4, .inl ((-1), [(3, 1)]))], [], []))] [] = true := by decide +kernel
theorem myF3 {cst : am_K} {strs : List Nat} {Φ : am_Q → Prop} {D : Nat} {M : am_M} {h : am_H} {l : am_L} (c : hp_C cst strs D) (hM : m_P[346]? = some M) (hD : (2 : Int) ≤ (D : Int) + 1) (hy : ly_hy m_tt ly_TH h) (m w i j : Int) (b0 : 0 ≤ m) (t0 : m ≤ 99) (b1 : 0 ≤ w) (t1 : w ≤ 1199) (b2 : 0 ≤ i) (t2 : i ≤ 28) (b3 : 0 ≤ j) (t3 : j ≤ 8) (l0 : hp_a l 0 94) (l1 : hp_i l 1 (m)) (l2 : hp_i l 2 (w)) (l3 : hp_i l 3 (i)) (l4 : hp_i l 4 (j)) (e0 : ∀ (l' : am_L) (h_9' : am_H), ly_hy m_tt ly_TH h_9' → ly_fr cst [] h h_9' → h.length ≤ h_9'.length → hp_a l' 0 94 → hp_i l' 1 (m) → hp_i l' 2 (w) → hp_i l' 3 (i) → hp_i l' 4 (j - 1) → hp_F cst strs Φ D M 19 l' [] h_9') : hp_F cst strs Φ D M 160 l [] h := by
  refine hp_arc c hM myF3_k hD [m, w, i, j] rfl hy (hp_Bc (z := m) rfl b0 t0 (hp_Bc (z := w) rfl b1 t1 (hp_Bc (z := i) rfl b2 t2 (hp_Bc (z := j) rfl b3 t3 hp_Bn)))) hp_Fn hp_Kn (hp_La l0 (hp_Li (z := (0 + (1 * m + 0))) l1 rfl (by omega) (hp_Li (z := (0 + (1 * w + 0))) l2 rfl (by omega) (hp_Li (z := (0 + (1 * i + 0))) l3 rfl (by omega) (hp_Li (z := (0 + (1 * j + 0))) l4 rfl (by omega) hp_Ln))))) trivial ?_ ?_
  · intro p_9 hp ys l' st_9' h_9' hys a1_9 a2 a3 gZ gL gS
    rcases List.mem_cons.mp hp with rfl | hp
    · obtain rfl := hp_y0 hys
      cases hp_gSn gS
      exact e0 l' h_9' a1_9 a2 a3 (hp_gLa gL (List.mem_of_getElem? (i := 0) rfl) (by decide)) (hp_gLi (z := (0 + (1 * m + 0))) gL (List.mem_of_getElem? (i := 1) rfl) rfl (by omega)) (hp_gLi (z := (0 + (1 * w + 0))) gL (List.mem_of_getElem? (i := 2) rfl) rfl (by omega)) (hp_gLi (z := (0 + (1 * i + 0))) gL (List.mem_of_getElem? (i := 3) rfl) rfl (by omega)) (hp_gLi (z := ((-1) + (1 * j + 0))) gL (List.mem_of_getElem? (i := 4) rfl) rfl (by omega))
    cases hp
  · intro p_9 hp ys v_9 h_9' hys a1_9 a2 a3 gZ gS
    cases hp
theorem mr1_k : hp_chk 345 0 2 [(0, (-2147483648), (-1)), (1, 0, 100)] [] [(0, .inr (.inr (.inl (some 94)))), (1, .inl (0, [(0, 1)]))] [] [(20024, (0, []), (0, [(1, 1)]))] [] 5 [] [([], 2, [(0, (-2147483648), (-1)), (1, 0, 100)], [], [], [.inl ((-2), [])], [])] = true := by decide +kernel
theorem mr1 {cst : am_K} {strs : List Nat} {Φ : am_Q → Prop} {D : Nat} {M : am_M} {h : am_H} {l : am_L} (c : hp_C cst strs D) (hM : m_P[345]? = some M) (hD : (5 : Int) ≤ (D : Int) + 1) (hy : ly_hy m_tt ly_TH h) (m s : Int) (b0 : (-2147483648) ≤ m) (t0 : m ≤ (-1)) (b1 : 0 ≤ s) (t1 : s ≤ 100) (k0 : ly_hv cst h 20024 0 = some (s)) (l0 : hp_a l 0 94) (l1 : hp_i l 1 (m)) (r0 : ∀ (h_9' : am_H) (y0 : Int32), y0.toInt = (-2) → ly_hy m_tt ly_TH h_9' → ly_fr cst [] h h_9' → h.length ≤ h_9'.length → Φ (some (.int y0), h_9', 0, 0)) : hp_F cst strs Φ D M 0 l [] h := by
  refine hp_arc c hM mr1_k hD [m, s] rfl hy (hp_Bc (z := m) rfl b0 t0 (hp_Bc (z := s) rfl b1 t1 hp_Bn)) hp_Fn (hp_Kc (zi := (0 + 0)) (zv := (0 + (1 * s + 0))) k0 rfl rfl (by omega) (by omega) hp_Kn) (hp_La l0 (hp_Li (z := (0 + (1 * m + 0))) l1 rfl (by omega) hp_Ln)) trivial ?_ ?_
  · intro p_9 hp ys l' st_9' h_9' hys a1_9 a2 a3 gZ gL gS
    cases hp
  · intro p_9 hp ys v_9 h_9' hys a1_9 a2 a3 gZ gS
    rcases List.mem_cons.mp hp with rfl | hp
    · obtain rfl := hp_y0 hys
      cases v_9 with
      | none => cases gS
      | some wz =>
        obtain ⟨y0, t0, s0_9, q0, -⟩ := hp_gSi (z := ((-2) + 0)) gS rfl
        cases s0_9
        exact r0 h_9' y0 (by omega) a1_9 a2 a3
    cases hp
theorem mr2_k : hp_chk 345 0 2 [(0, 0, 2147483647), (1, 0, 100)] [(0, [(0, 1), (1, (-1))])] [(0, .inr (.inr (.inl (some 94)))), (1, .inl (0, [(0, 1)]))] [] [(20024, (0, []), (0, [(1, 1)]))] [] 5 [] [([], 2, [(0, 0, 2147483647), (1, 0, 100)], [], [], [.inl ((-2), [])], [])] = true := by decide +kernel
theorem mr2 {cst : am_K} {strs : List Nat} {Φ : am_Q → Prop} {D : Nat} {M : am_M} {h : am_H} {l : am_L} (c : hp_C cst strs D) (hM : m_P[345]? = some M) (hD : (5 : Int) ≤ (D : Int) + 1) (hy : ly_hy m_tt ly_TH h) (m s : Int) (b0 : 0 ≤ m) (t0 : m ≤ 2147483647) (b1 : 0 ≤ s) (t1 : s ≤ 100) (f0 : 0 ≤ (m - s)) (k0 : ly_hv cst h 20024 0 = some (s)) (l0 : hp_a l 0 94) (l1 : hp_i l 1 (m)) (r0 : ∀ (h_9' : am_H) (y0 : Int32), y0.toInt = (-2) → ly_hy m_tt ly_TH h_9' → ly_fr cst [] h h_9' → h.length ≤ h_9'.length → Φ (some (.int y0), h_9', 0, 0)) : hp_F cst strs Φ D M 0 l [] h := by
  refine hp_arc c hM mr2_k hD [m, s] rfl hy (hp_Bc (z := m) rfl b0 t0 (hp_Bc (z := s) rfl b1 t1 hp_Bn)) (hp_Fc (z := (0 + (1 * m + ((-1) * s + 0)))) rfl (by omega) hp_Fn) (hp_Kc (zi := (0 + 0)) (zv := (0 + (1 * s + 0))) k0 rfl rfl (by omega) (by omega) hp_Kn) (hp_La l0 (hp_Li (z := (0 + (1 * m + 0))) l1 rfl (by omega) hp_Ln)) trivial ?_ ?_
  · intro p_9 hp ys l' st_9' h_9' hys a1_9 a2 a3 gZ gL gS
    cases hp
  · intro p_9 hp ys v_9 h_9' hys a1_9 a2 a3 gZ gS
    rcases List.mem_cons.mp hp with rfl | hp
    · obtain rfl := hp_y0 hys
      cases v_9 with
      | none => cases gS
      | some wz =>
        obtain ⟨y0, t0, s0_9, q0, -⟩ := hp_gSi (z := ((-2) + 0)) gS rfl
        cases s0_9
        exact r0 h_9' y0 (by omega) a1_9 a2 a3
    cases hp
theorem mr3_k : hp_chk 345 0 2 [(0, 0, 99), (1, 0, 100)] [((-1), [(0, (-1)), (1, 1)])] [(0, .inr (.inr (.inl (some 94)))), (1, .inl (0, [(0, 1)]))] [] [(20024, (0, []), (0, [(1, 1)])), (28416, (0, [(0, 1)]), (1, []))] [] 5 [] [([], 2, [(0, 0, 99), (1, 0, 100)], [], [], [.inl ((-2), [])], [])] = true := by decide +kernel
theorem mr3 {cst : am_K} {strs : List Nat} {Φ : am_Q → Prop} {D : Nat} {M : am_M} {h : am_H} {l : am_L} (c : hp_C cst strs D) (hM : m_P[345]? = some M) (hD : (5 : Int) ≤ (D : Int) + 1) (hy : ly_hy m_tt ly_TH h) (m s : Int) (b0 : 0 ≤ m) (t0 : m ≤ 99) (b1 : 0 ≤ s) (t1 : s ≤ 100) (f0 : 0 ≤ (s - m - 1)) (k0 : ly_hv cst h 20024 0 = some (s)) (k1 : ly_hv cst h 28416 (m) = some 1) (l0 : hp_a l 0 94) (l1 : hp_i l 1 (m)) (r0 : ∀ (h_9' : am_H) (y0 : Int32), y0.toInt = (-2) → ly_hy m_tt ly_TH h_9' → ly_fr cst [] h h_9' → h.length ≤ h_9'.length → Φ (some (.int y0), h_9', 0, 0)) : hp_F cst strs Φ D M 0 l [] h := by
  refine hp_arc c hM mr3_k hD [m, s] rfl hy (hp_Bc (z := m) rfl b0 t0 (hp_Bc (z := s) rfl b1 t1 hp_Bn)) (hp_Fc (z := ((-1) + ((-1) * m + (1 * s + 0)))) rfl (by omega) hp_Fn) (hp_Kc (zi := (0 + 0)) (zv := (0 + (1 * s + 0))) k0 rfl rfl (by omega) (by omega) (hp_Kc (zi := (0 + (1 * m + 0))) (zv := (1 + 0)) k1 rfl rfl (by omega) (by omega) hp_Kn)) (hp_La l0 (hp_Li (z := (0 + (1 * m + 0))) l1 rfl (by omega) hp_Ln)) trivial ?_ ?_
  · intro p_9 hp ys l' st_9' h_9' hys a1_9 a2 a3 gZ gL gS
    cases hp
  · intro p_9 hp ys v_9 h_9' hys a1_9 a2 a3 gZ gS
    rcases List.mem_cons.mp hp with rfl | hp
    · obtain rfl := hp_y0 hys
      cases v_9 with
      | none => cases gS
      | some wz =>
        obtain ⟨y0, t0, s0_9, q0, -⟩ := hp_gSi (z := ((-2) + 0)) gS rfl
        cases s0_9
        exact r0 h_9' y0 (by omega) a1_9 a2 a3
    cases hp
theorem mr40_k : hp_chk 345 0 3 [(0, 0, 99), (1, 0, 100), (2, (-2147483648), (-1))] [((-1), [(0, (-1)), (1, 1)])] [(0, .inr (.inr (.inl (some 94)))), (1, .inl (0, [(0, 1)]))] [] [(20024, (0, []), (0, [(1, 1)])), (28416, (0, [(0, 1)]), (0, [])), (30464, (0, [(0, 1)]), (0, [(2, 1)]))] [] 5 [] [([], 3, [(0, 0, 99), (1, 0, 100), (2, (-2147483648), (-1))], [], [], [.inl ((-4), [])], [])] = true := by decide +kernel
theorem mr40 {cst : am_K} {strs : List Nat} {Φ : am_Q → Prop} {D : Nat} {M : am_M} {h : am_H} {l : am_L} (c : hp_C cst strs D) (hM : m_P[345]? = some M) (hD : (5 : Int) ≤ (D : Int) + 1) (hy : ly_hy m_tt ly_TH h) (m s v : Int) (b0 : 0 ≤ m) (t0 : m ≤ 99) (b1 : 0 ≤ s) (t1 : s ≤ 100) (b2 : (-2147483648) ≤ v) (t2 : v ≤ (-1)) (f0 : 0 ≤ (s - m - 1)) (k0 : ly_hv cst h 20024 0 = some (s)) (k1 : ly_hv cst h 28416 (m) = some 0) (k2 : ly_hv cst h 30464 (m) = some (v)) (l0 : hp_a l 0 94) (l1 : hp_i l 1 (m)) (r0 : ∀ (h_9' : am_H) (y0 : Int32), y0.toInt = (-4) → ly_hy m_tt ly_TH h_9' → ly_fr cst [] h h_9' → h.length ≤ h_9'.length → Φ (some (.int y0), h_9', 0, 0)) : hp_F cst strs Φ D M 0 l [] h := by
  refine hp_arc c hM mr40_k hD [m, s, v] rfl hy (hp_Bc (z := m) rfl b0 t0 (hp_Bc (z := s) rfl b1 t1 (hp_Bc (z := v) rfl b2 t2 hp_Bn))) (hp_Fc (z := ((-1) + ((-1) * m + (1 * s + 0)))) rfl (by omega) hp_Fn) (hp_Kc (zi := (0 + 0)) (zv := (0 + (1 * s + 0))) k0 rfl rfl (by omega) (by omega) (hp_Kc (zi := (0 + (1 * m + 0))) (zv := (0 + 0)) k1 rfl rfl (by omega) (by omega) (hp_Kc (zi := (0 + (1 * m + 0))) (zv := (0 + (1 * v + 0))) k2 rfl rfl (by omega) (by omega) hp_Kn))) (hp_La l0 (hp_Li (z := (0 + (1 * m + 0))) l1 rfl (by omega) hp_Ln)) trivial ?_ ?_
  · intro p_9 hp ys l' st_9' h_9' hys a1_9 a2 a3 gZ gL gS
    cases hp
  · intro p_9 hp ys v h_9' hys a1_9 a2 a3 gZ gS
    rcases List.mem_cons.mp hp with rfl | hp
    · obtain rfl := hp_y0 hys
      cases v with
      | none => cases gS
      | some wz =>
        obtain ⟨y0, t0, s0_9, q0, -⟩ := hp_gSi (z := ((-4) + 0)) gS rfl
        cases s0_9
        exact r0 h_9' y0 (by omega) a1_9 a2 a3
    cases hp
theorem mr41_k : hp_chk 345 0 3 [(0, 0, 99), (1, 0, 100), (2, 1, 2147483647)] [((-1), [(0, (-1)), (1, 1)])] [(0, .inr (.inr (.inl (some 94)))), (1, .inl (0, [(0, 1)]))] [] [(20024, (0, []), (0, [(1, 1)])), (28416, (0, [(0, 1)]), (0, [])), (30464, (0, [(0, 1)]), (0, [(2, 1)]))] [] 5 [] [([], 3, [(0, 0, 99), (1, 0, 100), (2, 1, 2147483647)], [], [], [.inl ((-4), [])], [])] = true := by decide +kernel
theorem mr41 {cst : am_K} {strs : List Nat} {Φ : am_Q → Prop} {D : Nat} {M : am_M} {h : am_H} {l : am_L} (c : hp_C cst strs D) (hM : m_P[345]? = some M) (hD : (5 : Int) ≤ (D : Int) + 1) (hy : ly_hy m_tt ly_TH h) (m s v : Int) (b0 : 0 ≤ m) (t0 : m ≤ 99) (b1 : 0 ≤ s) (t1 : s ≤ 100) (b2 : 1 ≤ v) (t2 : v ≤ 2147483647) (f0 : 0 ≤ (s - m - 1)) (k0 : ly_hv cst h 20024 0 = some (s)) (k1 : ly_hv cst h 28416 (m) = some 0) (k2 : ly_hv cst h 30464 (m) = some (v)) (l0 : hp_a l 0 94) (l1 : hp_i l 1 (m)) (r0 : ∀ (h_9' : am_H) (y0 : Int32), y0.toInt = (-4) → ly_hy m_tt ly_TH h_9' → ly_fr cst [] h h_9' → h.length ≤ h_9'.length → Φ (some (.int y0), h_9', 0, 0)) : hp_F cst strs Φ D M 0 l [] h := by
  refine hp_arc c hM mr41_k hD [m, s, v] rfl hy (hp_Bc (z := m) rfl b0 t0 (hp_Bc (z := s) rfl b1 t1 (hp_Bc (z := v) rfl b2 t2 hp_Bn))) (hp_Fc (z := ((-1) + ((-1) * m + (1 * s + 0)))) rfl (by omega) hp_Fn) (hp_Kc (zi := (0 + 0)) (zv := (0 + (1 * s + 0))) k0 rfl rfl (by omega) (by omega) (hp_Kc (zi := (0 + (1 * m + 0))) (zv := (0 + 0)) k1 rfl rfl (by omega) (by omega) (hp_Kc (zi := (0 + (1 * m + 0))) (zv := (0 + (1 * v + 0))) k2 rfl rfl (by omega) (by omega) hp_Kn))) (hp_La l0 (hp_Li (z := (0 + (1 * m + 0))) l1 rfl (by omega) hp_Ln)) trivial ?_ ?_
  · intro p_9 hp ys l' st_9' h_9' hys a1_9 a2 a3 gZ gL gS
    cases hp
  · intro p_9 hp ys v h_9' hys a1_9 a2 a3 gZ gS
    rcases List.mem_cons.mp hp with rfl | hp
    · obtain rfl := hp_y0 hys
      cases v with
      | none => cases gS
      | some wz =>
        obtain ⟨y0, t0, s0_9, q0, -⟩ := hp_gSi (z := ((-4) + 0)) gS rfl
        cases s0_9
        exact r0 h_9' y0 (by omega) a1_9 a2 a3
    cases hp
theorem mr4t_k : hp_chk 345 0 2 [(0, 0, 99), (1, 0, 100)] [((-1), [(0, (-1)), (1, 1)])] [(0, .inr (.inr (.inl (some 94)))), (1, .inl (0, [(0, 1)]))] [] [(20024, (0, []), (0, [(1, 1)])), (28416, (0, [(0, 1)]), (0, [])), (30464, (0, [(0, 1)]), (0, [])), (33536, (0, [(0, 1)]), (0, []))] [] 5 [] [([], 2, [(0, 0, 99), (1, 0, 100)], [], [], [.inl ((-4), [])], [])] = true := by decide +kernel
theorem mr4t {cst : am_K} {strs : List Nat} {Φ : am_Q → Prop} {D : Nat} {M : am_M} {h : am_H} {l : am_L} (c : hp_C cst strs D) (hM : m_P[345]? = some M) (hD : (5 : Int) ≤ (D : Int) + 1) (hy : ly_hy m_tt ly_TH h) (m s : Int) (b0 : 0 ≤ m) (t0 : m ≤ 99) (b1 : 0 ≤ s) (t1 : s ≤ 100) (f0 : 0 ≤ (s - m - 1)) (k0 : ly_hv cst h 20024 0 = some (s)) (k1 : ly_hv cst h 28416 (m) = some 0) (k2 : ly_hv cst h 30464 (m) = some 0) (k3 : ly_hv cst h 33536 (m) = some 0) (l0 : hp_a l 0 94) (l1 : hp_i l 1 (m)) (r0 : ∀ (h_9' : am_H) (y0 : Int32), y0.toInt = (-4) → ly_hy m_tt ly_TH h_9' → ly_fr cst [] h h_9' → h.length ≤ h_9'.length → Φ (some (.int y0), h_9', 0, 0)) : hp_F cst strs Φ D M 0 l [] h := by
  refine hp_arc c hM mr4t_k hD [m, s] rfl hy (hp_Bc (z := m) rfl b0 t0 (hp_Bc (z := s) rfl b1 t1 hp_Bn)) (hp_Fc (z := ((-1) + ((-1) * m + (1 * s + 0)))) rfl (by omega) hp_Fn) (hp_Kc (zi := (0 + 0)) (zv := (0 + (1 * s + 0))) k0 rfl rfl (by omega) (by omega) (hp_Kc (zi := (0 + (1 * m + 0))) (zv := (0 + 0)) k1 rfl rfl (by omega) (by omega) (hp_Kc (zi := (0 + (1 * m + 0))) (zv := (0 + 0)) k2 rfl rfl (by omega) (by omega) (hp_Kc (zi := (0 + (1 * m + 0))) (zv := (0 + 0)) k3 rfl rfl (by omega) (by omega) hp_Kn)))) (hp_La l0 (hp_Li (z := (0 + (1 * m + 0))) l1 rfl (by omega) hp_Ln)) trivial ?_ ?_
  · intro p_9 hp ys l' st_9' h_9' hys a1_9 a2 a3 gZ gL gS
    cases hp
  · intro p_9 hp ys v_9 h_9' hys a1_9 a2 a3 gZ gS
    rcases List.mem_cons.mp hp with rfl | hp
    · obtain rfl := hp_y0 hys
      cases v_9 with
      | none => cases gS
      | some wz =>
        obtain ⟨y0, t0, s0_9, q0, -⟩ := hp_gSi (z := ((-4) + 0)) gS rfl
        cases s0_9
        exact r0 h_9' y0 (by omega) a1_9 a2 a3
    cases hp
theorem mr5_k : hp_chk 345 0 2 [(0, 0, 99), (1, 0, 100)] [((-1), [(0, (-1)), (1, 1)])] [(0, .inr (.inr (.inl (some 94)))), (1, .inl (0, [(0, 1)]))] [] [(20024, (0, []), (0, [(1, 1)])), (28416, (0, [(0, 1)]), (0, [])), (30464, (0, [(0, 1)]), (0, [])), (33536, (0, [(0, 1)]), (1, []))] [] 5 [(37, ([], 2, [(0, 0, 99), (1, 0, 100)], [], [(0, .inr (.inr (.inl (some 94)))), (1, .inl (0, [(0, 1)]))], [.inl (0, [(0, 1)]), .inr (.inl (0, [])), .inl (6, []), .inr (.inr (.inl (some 94)))], []))] [] = true := by decide +kernel
theorem mr5 {cst : am_K} {strs : List Nat} {Φ : am_Q → Prop} {D : Nat} {M : am_M} {h : am_H} {l : am_L} (c : hp_C cst strs D) (hM : m_P[345]? = some M) (hD : (5 : Int) ≤ (D : Int) + 1) (hy : ly_hy m_tt ly_TH h) (m s : Int) (b0 : 0 ≤ m) (t0 : m ≤ 99) (b1 : 0 ≤ s) (t1 : s ≤ 100) (f0 : 0 ≤ (s - m - 1)) (k0 : ly_hv cst h 20024 0 = some (s)) (k1 : ly_hv cst h 28416 (m) = some 0) (k2 : ly_hv cst h 30464 (m) = some 0) (k3 : ly_hv cst h 33536 (m) = some 1) (l0 : hp_a l 0 94) (l1 : hp_i l 1 (m)) (e0 : ∀ (l' : am_L) (h_9' : am_H) (y0 : Int32) (y1 : Int64) (y2 : Int32), y0.toInt = (m) → y1.toInt = 0 → y2.toInt = 6 → ly_hy m_tt ly_TH h_9' → ly_fr cst [] h h_9' → h.length ≤ h_9'.length → hp_a l' 0 94 → hp_i l' 1 (m) → hp_F cst strs Φ D M 37 l' [.int y0, .long y1, .int y2, .ref 94] h_9') : hp_F cst strs Φ D M 0 l [] h := by
  refine hp_arc c hM mr5_k hD [m, s] rfl hy (hp_Bc (z := m) rfl b0 t0 (hp_Bc (z := s) rfl b1 t1 hp_Bn)) (hp_Fc (z := ((-1) + ((-1) * m + (1 * s + 0)))) rfl (by omega) hp_Fn) (hp_Kc (zi := (0 + 0)) (zv := (0 + (1 * s + 0))) k0 rfl rfl (by omega) (by omega) (hp_Kc (zi := (0 + (1 * m + 0))) (zv := (0 + 0)) k1 rfl rfl (by omega) (by omega) (hp_Kc (zi := (0 + (1 * m + 0))) (zv := (0 + 0)) k2 rfl rfl (by omega) (by omega) (hp_Kc (zi := (0 + (1 * m + 0))) (zv := (1 + 0)) k3 rfl rfl (by omega) (by omega) hp_Kn)))) (hp_La l0 (hp_Li (z := (0 + (1 * m + 0))) l1 rfl (by omega) hp_Ln)) trivial ?_ ?_
  · intro p_9 hp ys l' st_9' h_9' hys a1_9 a2 a3 gZ gL gS
    rcases List.mem_cons.mp hp with rfl | hp
    · obtain rfl := hp_y0 hys
      obtain ⟨y0, t0, rfl, q0, g0⟩ := hp_gSi (z := (0 + (1 * m + 0))) gS rfl
      obtain ⟨y1, t1, rfl, q1_9, g1⟩ := hp_gSj (z := (0 + 0)) g0 rfl
      obtain ⟨y2, t2_9, rfl, q2_9, g2⟩ := hp_gSi (z := (6 + 0)) g1 rfl
      obtain ⟨t3_9, rfl, g3_9⟩ := hp_gSa g2 (by decide)
      cases hp_gSn g3_9
      exact e0 l' h_9' y0 y1 y2 (by omega) (by omega) (by omega) a1_9 a2 a3 (hp_gLa gL (List.mem_of_getElem? (i := 0) rfl) (by decide)) (hp_gLi (z := (0 + (1 * m + 0))) gL (List.mem_of_getElem? (i := 1) rfl) rfl (by omega))
    cases hp
  · intro p_9 hp ys v_9 h_9' hys a1_9 a2 a3 gZ gS
    cases hp
theorem mr6_k : hp_chk 345 40 1 [(0, 0, 99)] [] [(0, .inr (.inr (.inl (some 94)))), (1, .inl (0, [(0, 1)]))] [.inl (0, [])] [] [] 2 [] [([], 1, [(0, 0, 99)], [], [], [.inl ((-1), [])], [])] = true := by decide +kernel
theorem mr6 {cst : am_K} {strs : List Nat} {Φ : am_Q → Prop} {D : Nat} {M : am_M} {h : am_H} {l : am_L} (c : hp_C cst strs D) (hM : m_P[345]? = some M) (hD : (2 : Int) ≤ (D : Int) + 1) (hy : ly_hy m_tt ly_TH h) (m : Int) (x0 : Int32) (hx0 : x0.toInt = 0) (b0 : 0 ≤ m) (t0 : m ≤ 99) (l0 : hp_a l 0 94) (l1 : hp_i l 1 (m)) (r0 : ∀ (h_9' : am_H) (y0 : Int32), y0.toInt = (-1) → ly_hy m_tt ly_TH h_9' → ly_fr cst [] h h_9' → h.length ≤ h_9'.length → Φ (some (.int y0), h_9', 0, 0)) : hp_F cst strs Φ D M 40 l [.int x0] h := by
  refine hp_arc c hM mr6_k hD [m] rfl hy (hp_Bc (z := m) rfl b0 t0 hp_Bn) hp_Fn hp_Kn (hp_La l0 (hp_Li (z := (0 + (1 * m + 0))) l1 rfl (by omega) hp_Ln)) (hp_Si (z := (0 + 0)) rfl (by omega) trivial) ?_ ?_
  · intro p_9 hp ys l' st_9' h_9' hys a1_9 a2 a3 gZ gL gS
    cases hp
  · intro p_9 hp ys v_9 h_9' hys a1_9 a2 a3 gZ gS
    rcases List.mem_cons.mp hp with rfl | hp
    · obtain rfl := hp_y0 hys
      cases v_9 with
      | none => cases gS
      | some wz =>
        obtain ⟨y0, t0, s0_9, q0, -⟩ := hp_gSi (z := ((-1) + 0)) gS rfl
        cases s0_9
        exact r0 h_9' y0 (by omega) a1_9 a2 a3
    cases hp
theorem mr70_k : hp_chk 345 40 5 [(0, 0, 99), (1, (-9223372036854775808), 9223372036854775807), (2, (-2147483648), 2147483647), (3, (-2147483648), 2147483647), (4, (-2147483648), (-1))] [] [(0, .inr (.inr (.inl (some 94)))), (1, .inl (0, [(0, 1)]))] [.inl (0, [(4, 1)])] [(30208, (0, [(0, 1)]), (0, [(1, 1)])), (29696, (0, [(0, 1)]), (0, [(2, 1)])), (29184, (0, [(0, 1)]), (0, [(3, 1)]))] [] 2 [(65, ([], 5, [(0, 0, 99), (1, (-9223372036854775808), 9223372036854775807), (2, (-2147483648), 2147483647), (3, (-2147483648), 2147483647), (4, (-2147483648), (-1))], [], [(0, .inr (.inr (.inl (some 94)))), (1, .inl (0, [(0, 1)]))], [.inl (0, [(3, 1)]), .inl (0, [(2, 1)]), .inr (.inl (0, [(1, 1)])), .inl (1, []), .inr (.inr (.inl (some 94)))], []))] [] = true := by decide +kernel
theorem mr70 {cst : am_K} {strs : List Nat} {Φ : am_Q → Prop} {D : Nat} {M : am_M} {h : am_H} {l : am_L} (c : hp_C cst strs D) (hM : m_P[345]? = some M) (hD : (2 : Int) ≤ (D : Int) + 1) (hy : ly_hy m_tt ly_TH h) (m d y s v : Int) (x0 : Int32) (hx0 : x0.toInt = (v)) (b0 : 0 ≤ m) (t0 : m ≤ 99) (b1 : (-9223372036854775808) ≤ d) (t1 : d ≤ 9223372036854775807) (b2 : (-2147483648) ≤ y) (t2 : y ≤ 2147483647) (b3 : (-2147483648) ≤ s) (t3 : s ≤ 2147483647) (b4 : (-2147483648) ≤ v) (t4 : v ≤ (-1)) (k0 : ly_hv cst h 30208 (m) = some (d)) (k1 : ly_hv cst h 29696 (m) = some (y)) (k2 : ly_hv cst h 29184 (m) = some (s)) (l0 : hp_a l 0 94) (l1 : hp_i l 1 (m)) (e0 : ∀ (l' : am_L) (h_9' : am_H) (y0 : Int32) (y1 : Int32) (y2 : Int64) (y3 : Int32), y0.toInt = (s) → y1.toInt = (y) → y2.toInt = (d) → y3.toInt = 1 → ly_hy m_tt ly_TH h_9' → ly_fr cst [] h h_9' → h.length ≤ h_9'.length → hp_a l' 0 94 → hp_i l' 1 (m) → hp_F cst strs Φ D M 65 l' [.int y0, .int y1, .long y2, .int y3, .ref 94] h_9') : hp_F cst strs Φ D M 40 l [.int x0] h := by
  refine hp_arc c hM mr70_k hD [m, d, y, s, v] rfl hy (hp_Bc (z := m) rfl b0 t0 (hp_Bc (z := d) rfl b1 t1 (hp_Bc (z := y) rfl b2 t2 (hp_Bc (z := s) rfl b3 t3 (hp_Bc (z := v) rfl b4 t4 hp_Bn))))) hp_Fn (hp_Kc (zi := (0 + (1 * m + 0))) (zv := (0 + (1 * d + 0))) k0 rfl rfl (by omega) (by omega) (hp_Kc (zi := (0 + (1 * m + 0))) (zv := (0 + (1 * y + 0))) k1 rfl rfl (by omega) (by omega) (hp_Kc (zi := (0 + (1 * m + 0))) (zv := (0 + (1 * s + 0))) k2 rfl rfl (by omega) (by omega) hp_Kn))) (hp_La l0 (hp_Li (z := (0 + (1 * m + 0))) l1 rfl (by omega) hp_Ln)) (hp_Si (z := (0 + (1 * v + 0))) rfl (by omega) trivial) ?_ ?_
  · intro p_9 hp ys l' st_9' h_9' hys a1_9 a2 a3 gZ gL gS
    rcases List.mem_cons.mp hp with rfl | hp
    · obtain rfl := hp_y0 hys
      obtain ⟨y0, t0, rfl, q0, g0⟩ := hp_gSi (z := (0 + (1 * s + 0))) gS rfl
      obtain ⟨y1, t1, rfl, q1_9, g1⟩ := hp_gSi (z := (0 + (1 * y + 0))) g0 rfl
      obtain ⟨y2, t2, rfl, q2_9, g2⟩ := hp_gSj (z := (0 + (1 * d + 0))) g1 rfl
      obtain ⟨y3, t3, rfl, q3_9, g3_9⟩ := hp_gSi (z := (1 + 0)) g2 rfl
      obtain ⟨t4, rfl, g4⟩ := hp_gSa g3_9 (by decide)
      cases hp_gSn g4
      exact e0 l' h_9' y0 y1 y2 y3 (by omega) (by omega) (by omega) (by omega) a1_9 a2 a3 (hp_gLa gL (List.mem_of_getElem? (i := 0) rfl) (by decide)) (hp_gLi (z := (0 + (1 * m + 0))) gL (List.mem_of_getElem? (i := 1) rfl) rfl (by omega))
    cases hp
  · intro p_9 hp ys v h_9' hys a1_9 a2 a3 gZ gS
    cases hp
theorem mr71_k : hp_chk 345 40 5 [(0, 0, 99), (1, (-9223372036854775808), 9223372036854775807), (2, (-2147483648), 2147483647), (3, (-2147483648), 2147483647), (4, 1, 2147483647)] [] [(0, .inr (.inr (.inl (some 94)))), (1, .inl (0, [(0, 1)]))] [.inl (0, [(4, 1)])] [(30208, (0, [(0, 1)]), (0, [(1, 1)])), (29696, (0, [(0, 1)]), (0, [(2, 1)])), (29184, (0, [(0, 1)]), (0, [(3, 1)]))] [] 2 [(65, ([], 5, [(0, 0, 99), (1, (-9223372036854775808), 9223372036854775807), (2, (-2147483648), 2147483647), (3, (-2147483648), 2147483647), (4, 1, 2147483647)], [], [(0, .inr (.inr (.inl (some 94)))), (1, .inl (0, [(0, 1)]))], [.inl (0, [(3, 1)]), .inl (0, [(2, 1)]), .inr (.inl (0, [(1, 1)])), .inl (1, []), .inr (.inr (.inl (some 94)))], []))] [] = true := by decide +kernel
theorem mr71 {cst : am_K} {strs : List Nat} {Φ : am_Q → Prop} {D : Nat} {M : am_M} {h : am_H} {l : am_L} (c : hp_C cst strs D) (hM : m_P[345]? = some M) (hD : (2 : Int) ≤ (D : Int) + 1) (hy : ly_hy m_tt ly_TH h) (m d y s v : Int) (x0 : Int32) (hx0 : x0.toInt = (v)) (b0 : 0 ≤ m) (t0 : m ≤ 99) (b1 : (-9223372036854775808) ≤ d) (t1 : d ≤ 9223372036854775807) (b2 : (-2147483648) ≤ y) (t2 : y ≤ 2147483647) (b3 : (-2147483648) ≤ s) (t3 : s ≤ 2147483647) (b4 : 1 ≤ v) (t4 : v ≤ 2147483647) (k0 : ly_hv cst h 30208 (m) = some (d)) (k1 : ly_hv cst h 29696 (m) = some (y)) (k2 : ly_hv cst h 29184 (m) = some (s)) (l0 : hp_a l 0 94) (l1 : hp_i l 1 (m)) (e0 : ∀ (l' : am_L) (h_9' : am_H) (y0 : Int32) (y1 : Int32) (y2 : Int64) (y3 : Int32), y0.toInt = (s) → y1.toInt = (y) → y2.toInt = (d) → y3.toInt = 1 → ly_hy m_tt ly_TH h_9' → ly_fr cst [] h h_9' → h.length ≤ h_9'.length → hp_a l' 0 94 → hp_i l' 1 (m) → hp_F cst strs Φ D M 65 l' [.int y0, .int y1, .long y2, .int y3, .ref 94] h_9') : hp_F cst strs Φ D M 40 l [.int x0] h := by
  refine hp_arc c hM mr71_k hD [m, d, y, s, v] rfl hy (hp_Bc (z := m) rfl b0 t0 (hp_Bc (z := d) rfl b1 t1 (hp_Bc (z := y) rfl b2 t2 (hp_Bc (z := s) rfl b3 t3 (hp_Bc (z := v) rfl b4 t4 hp_Bn))))) hp_Fn (hp_Kc (zi := (0 + (1 * m + 0))) (zv := (0 + (1 * d + 0))) k0 rfl rfl (by omega) (by omega) (hp_Kc (zi := (0 + (1 * m + 0))) (zv := (0 + (1 * y + 0))) k1 rfl rfl (by omega) (by omega) (hp_Kc (zi := (0 + (1 * m + 0))) (zv := (0 + (1 * s + 0))) k2 rfl rfl (by omega) (by omega) hp_Kn))) (hp_La l0 (hp_Li (z := (0 + (1 * m + 0))) l1 rfl (by omega) hp_Ln)) (hp_Si (z := (0 + (1 * v + 0))) rfl (by omega) trivial) ?_ ?_
  · intro p_9 hp ys l' st_9' h_9' hys a1_9 a2 a3 gZ gL gS
    rcases List.mem_cons.mp hp with rfl | hp
    · obtain rfl := hp_y0 hys
      obtain ⟨y0, t0, rfl, q0, g0⟩ := hp_gSi (z := (0 + (1 * s + 0))) gS rfl
      obtain ⟨y1, t1, rfl, q1_9, g1⟩ := hp_gSi (z := (0 + (1 * y + 0))) g0 rfl
      obtain ⟨y2, t2, rfl, q2_9, g2⟩ := hp_gSj (z := (0 + (1 * d + 0))) g1 rfl
      obtain ⟨y3, t3, rfl, q3_9, g3_9⟩ := hp_gSi (z := (1 + 0)) g2 rfl
      obtain ⟨t4, rfl, g4⟩ := hp_gSa g3_9 (by decide)
      cases hp_gSn g4
      exact e0 l' h_9' y0 y1 y2 y3 (by omega) (by omega) (by omega) (by omega) a1_9 a2 a3 (hp_gLa gL (List.mem_of_getElem? (i := 0) rfl) (by decide)) (hp_gLi (z := (0 + (1 * m + 0))) gL (List.mem_of_getElem? (i := 1) rfl) rfl (by omega))
    cases hp
  · intro p_9 hp ys v h_9' hys a1_9 a2 a3 gZ gS
    cases hp
theorem mr8_k : hp_chk 345 68 1 [(0, 0, 99)] [] [(0, .inr (.inr (.inl (some 94)))), (1, .inl (0, [(0, 1)]))] [.inl ((-1), [])] [] [] 2 [] [([], 1, [(0, 0, 99)], [], [], [.inl (0, [])], [])] = true := by decide +kernel
theorem mr8 {cst : am_K} {strs : List Nat} {Φ : am_Q → Prop} {D : Nat} {M : am_M} {h : am_H} {l : am_L} (c : hp_C cst strs D) (hM : m_P[345]? = some M) (hD : (2 : Int) ≤ (D : Int) + 1) (hy : ly_hy m_tt ly_TH h) (m : Int) (x0 : Int32) (hx0 : x0.toInt = (-1)) (b0 : 0 ≤ m) (t0 : m ≤ 99) (l0 : hp_a l 0 94) (l1 : hp_i l 1 (m)) (r0 : ∀ (h_9' : am_H) (y0 : Int32), y0.toInt = 0 → ly_hy m_tt ly_TH h_9' → ly_fr cst [] h h_9' → h.length ≤ h_9'.length → Φ (some (.int y0), h_9', 0, 0)) : hp_F cst strs Φ D M 68 l [.int x0] h := by
  refine hp_arc c hM mr8_k hD [m] rfl hy (hp_Bc (z := m) rfl b0 t0 hp_Bn) hp_Fn hp_Kn (hp_La l0 (hp_Li (z := (0 + (1 * m + 0))) l1 rfl (by omega) hp_Ln)) (hp_Si (z := ((-1) + 0)) rfl (by omega) trivial) ?_ ?_
  · intro p_9 hp ys l' st_9' h_9' hys a1_9 a2 a3 gZ gL gS
    cases hp
  · intro p_9 hp ys v_9 h_9' hys a1_9 a2 a3 gZ gS
    rcases List.mem_cons.mp hp with rfl | hp
    · obtain rfl := hp_y0 hys
      cases v_9 with
      | none => cases gS
      | some wz =>
        obtain ⟨y0, t0, s0_9, q0, -⟩ := hp_gSi (z := (0 + 0)) gS rfl
        cases s0_9
        exact r0 h_9' y0 (by omega) a1_9 a2 a3
    cases hp
theorem mr9_k : hp_chk 345 68 2 [(0, 0, 99), (1, 0, 1199)] [] [(0, .inr (.inr (.inl (some 94)))), (1, .inl (0, [(0, 1)]))] [.inl (0, [(1, 1)])] [] [] 2 [(79, ([], 2, [(0, 0, 99), (1, 0, 1199)], [], [(0, .inr (.inr (.inl (some 94)))), (1, .inl (0, [(0, 1)])), (2, .inl (0, [(1, 1)]))], [.inl (0, [(1, 1)]), .inl (0, [(0, 1)]), .inr (.inr (.inl (some 94)))], []))] [] = true := by decide +kernel
theorem mr9 {cst : am_K} {strs : List Nat} {Φ : am_Q → Prop} {D : Nat} {M : am_M} {h : am_H} {l : am_L} (c : hp_C cst strs D) (hM : m_P[345]? = some M) (hD : (2 : Int) ≤ (D : Int) + 1) (hy : ly_hy m_tt ly_TH h) (m w : Int) (x0 : Int32) (hx0 : x0.toInt = (w)) (b0 : 0 ≤ m) (t0 : m ≤ 99) (b1 : 0 ≤ w) (t1 : w ≤ 1199) (l0 : hp_a l 0 94) (l1 : hp_i l 1 (m)) (e0 : ∀ (l' : am_L) (h_9' : am_H) (y0 : Int32) (y1 : Int32), y0.toInt = (w) → y1.toInt = (m) → ly_hy m_tt ly_TH h_9' → ly_fr cst [] h h_9' → h.length ≤ h_9'.length → hp_a l' 0 94 → hp_i l' 1 (m) → hp_i l' 2 (w) → hp_F cst strs Φ D M 79 l' [.int y0, .int y1, .ref 94] h_9') : hp_F cst strs Φ D M 68 l [.int x0] h := by
  refine hp_arc c hM mr9_k hD [m, w] rfl hy (hp_Bc (z := m) rfl b0 t0 (hp_Bc (z := w) rfl b1 t1 hp_Bn)) hp_Fn hp_Kn (hp_La l0 (hp_Li (z := (0 + (1 * m + 0))) l1 rfl (by omega) hp_Ln)) (hp_Si (z := (0 + (1 * w + 0))) rfl (by omega) trivial) ?_ ?_
  · intro p_9 hp ys l' st_9' h_9' hys a1_9 a2 a3 gZ gL gS
    rcases List.mem_cons.mp hp with rfl | hp
    · obtain rfl := hp_y0 hys
      obtain ⟨y0, t0, rfl, q0, g0⟩ := hp_gSi (z := (0 + (1 * w + 0))) gS rfl
      obtain ⟨y1, t1, rfl, q1_9, g1⟩ := hp_gSi (z := (0 + (1 * m + 0))) g0 rfl
      obtain ⟨t2_9, rfl, g2⟩ := hp_gSa g1 (by decide)
      cases hp_gSn g2
      exact e0 l' h_9' y0 y1 (by omega) (by omega) a1_9 a2 a3 (hp_gLa gL (List.mem_of_getElem? (i := 0) rfl) (by decide)) (hp_gLi (z := (0 + (1 * m + 0))) gL (List.mem_of_getElem? (i := 1) rfl) rfl (by omega)) (hp_gLi (z := (0 + (1 * w + 0))) gL (List.mem_of_getElem? (i := 2) rfl) rfl (by omega))
    cases hp
  · intro p_9 hp ys v_9 h_9' hys a1_9 a2 a3 gZ gS
    cases hp
theorem mrA_k : hp_chk 345 82 5 [(0, 0, 99), (1, 0, 1199), (2, 0, 28), (3, 0, 8), (4, 0, 8)] [((-29), [(2, 1), (3, 1), (4, (-1))])] [(0, .inr (.inr (.inl (some 94)))), (1, .inl (0, [(0, 1)])), (2, .inl (0, [(1, 1)]))] [] [(33280, (0, [(0, 1)]), (0, [(2, 1)])), (24576, (0, [(1, 1)]), (0, [(3, 1)])), (37376, (0, []), (0, [(4, 1)]))] [] 2 [] [([], 5, [(0, 0, 99), (1, 0, 1199), (2, 0, 28), (3, 0, 8), (4, 0, 8)], [], [], [.inl ((-3), [])], [])] = true := by decide +kernel
theorem mrA {cst : am_K} {strs : List Nat} {Φ : am_Q → Prop} {D : Nat} {M : am_M} {h : am_H} {l : am_L} (c : hp_C cst strs D) (hM : m_P[345]? = some M) (hD : (2 : Int) ≤ (D : Int) + 1) (hy : ly_hy m_tt ly_TH h) (m w z cm b : Int) (b0 : 0 ≤ m) (t0 : m ≤ 99) (b1 : 0 ≤ w) (t1 : w ≤ 1199) (b2 : 0 ≤ z) (t2 : z ≤ 28) (b3 : 0 ≤ cm) (t3 : cm ≤ 8) (b4 : 0 ≤ b) (t4 : b ≤ 8) (f0 : 0 ≤ (z + cm - b - 29)) (k0 : ly_hv cst h 33280 (m) = some (z)) (k1 : ly_hv cst h 24576 (w) = some (cm)) (k2 : ly_hv cst h 37376 0 = some (b)) (l0 : hp_a l 0 94) (l1 : hp_i l 1 (m)) (l2 : hp_i l 2 (w)) (r0 : ∀ (h_9' : am_H) (y0 : Int32), y0.toInt = (-3) → ly_hy m_tt ly_TH h_9' → ly_fr cst [] h h_9' → h.length ≤ h_9'.length → Φ (some (.int y0), h_9', 0, 0)) : hp_F cst strs Φ D M 82 l [] h := by
  refine hp_arc c hM mrA_k hD [m, w, z, cm, b] rfl hy (hp_Bc (z := m) rfl b0 t0 (hp_Bc (z := w) rfl b1 t1 (hp_Bc (z := z) rfl b2 t2 (hp_Bc (z := cm) rfl b3 t3 (hp_Bc (z := b) rfl b4 t4 hp_Bn))))) (hp_Fc (z := ((-29) + (1 * z + (1 * cm + ((-1) * b + 0))))) rfl (by omega) hp_Fn) (hp_Kc (zi := (0 + (1 * m + 0))) (zv := (0 + (1 * z + 0))) k0 rfl rfl (by omega) (by omega) (hp_Kc (zi := (0 + (1 * w + 0))) (zv := (0 + (1 * cm + 0))) k1 rfl rfl (by omega) (by omega) (hp_Kc (zi := (0 + 0)) (zv := (0 + (1 * b + 0))) k2 rfl rfl (by omega) (by omega) hp_Kn))) (hp_La l0 (hp_Li (z := (0 + (1 * m + 0))) l1 rfl (by omega) (hp_Li (z := (0 + (1 * w + 0))) l2 rfl (by omega) hp_Ln))) trivial ?_ ?_
  · intro p_9 hp ys l' st_9' h_9' hys a1_9 a2 a3 gZ gL gS
    cases hp
  · intro p_9 hp ys v_9 h_9' hys a1_9 a2 a3 gZ gS
    rcases List.mem_cons.mp hp with rfl | hp
    · obtain rfl := hp_y0 hys
      cases v_9 with
      | none => cases gS
      | some wz =>
        obtain ⟨y0, t0, s0_9, q0, -⟩ := hp_gSi (z := ((-3) + 0)) gS rfl
        cases s0_9
        exact r0 h_9' y0 (by omega) a1_9 a2 a3
    cases hp
theorem mrB_k : hp_chk 345 82 5 [(0, 0, 99), (1, 0, 1199), (2, 0, 28), (3, 0, 8), (4, 0, 8)] [(28, [(2, (-1)), (3, (-1)), (4, 1)])] [(0, .inr (.inr (.inl (some 94)))), (1, .inl (0, [(0, 1)])), (2, .inl (0, [(1, 1)]))] [] [(33280, (0, [(0, 1)]), (0, [(2, 1)])), (24576, (0, [(1, 1)]), (0, [(3, 1)])), (37376, (0, []), (0, [(4, 1)]))] [] 2 [(118, ([], 5, [(0, 0, 99), (1, 0, 1199), (2, 0, 28), (3, 0, 8), (4, 0, 8)], [], [(0, .inr (.inr (.inl (some 94)))), (1, .inl (0, [(0, 1)])), (2, .inl (0, [(1, 1)])), (3, .inl (0, [])), (4, .inl (0, [])), (5, .inl (0, []))], [], []))] [] = true := by decide +kernel
theorem mrB {cst : am_K} {strs : List Nat} {Φ : am_Q → Prop} {D : Nat} {M : am_M} {h : am_H} {l : am_L} (c : hp_C cst strs D) (hM : m_P[345]? = some M) (hD : (2 : Int) ≤ (D : Int) + 1) (hy : ly_hy m_tt ly_TH h) (m w z cm b : Int) (b0 : 0 ≤ m) (t0 : m ≤ 99) (b1 : 0 ≤ w) (t1 : w ≤ 1199) (b2 : 0 ≤ z) (t2 : z ≤ 28) (b3 : 0 ≤ cm) (t3 : cm ≤ 8) (b4 : 0 ≤ b) (t4 : b ≤ 8) (f0 : 0 ≤ (-z - cm + b + 28)) (k0 : ly_hv cst h 33280 (m) = some (z)) (k1 : ly_hv cst h 24576 (w) = some (cm)) (k2 : ly_hv cst h 37376 0 = some (b)) (l0 : hp_a l 0 94) (l1 : hp_i l 1 (m)) (l2 : hp_i l 2 (w)) (e0 : ∀ (l' : am_L) (h_9' : am_H), ly_hy m_tt ly_TH h_9' → ly_fr cst [] h h_9' → h.length ≤ h_9'.length → hp_a l' 0 94 → hp_i l' 1 (m) → hp_i l' 2 (w) → hp_i l' 3 0 → hp_i l' 4 0 → hp_i l' 5 0 → hp_F cst strs Φ D M 118 l' [] h_9') : hp_F cst strs Φ D M 82 l [] h := by
  refine hp_arc c hM mrB_k hD [m, w, z, cm, b] rfl hy (hp_Bc (z := m) rfl b0 t0 (hp_Bc (z := w) rfl b1 t1 (hp_Bc (z := z) rfl b2 t2 (hp_Bc (z := cm) rfl b3 t3 (hp_Bc (z := b) rfl b4 t4 hp_Bn))))) (hp_Fc (z := (28 + ((-1) * z + ((-1) * cm + (1 * b + 0))))) rfl (by omega) hp_Fn) (hp_Kc (zi := (0 + (1 * m + 0))) (zv := (0 + (1 * z + 0))) k0 rfl rfl (by omega) (by omega) (hp_Kc (zi := (0 + (1 * w + 0))) (zv := (0 + (1 * cm + 0))) k1 rfl rfl (by omega) (by omega) (hp_Kc (zi := (0 + 0)) (zv := (0 + (1 * b + 0))) k2 rfl rfl (by omega) (by omega) hp_Kn))) (hp_La l0 (hp_Li (z := (0 + (1 * m + 0))) l1 rfl (by omega) (hp_Li (z := (0 + (1 * w + 0))) l2 rfl (by omega) hp_Ln))) trivial ?_ ?_
  · intro p_9 hp ys l' st_9' h_9' hys a1_9 a2 a3 gZ gL gS
    rcases List.mem_cons.mp hp with rfl | hp
    · obtain rfl := hp_y0 hys
      cases hp_gSn gS
      exact e0 l' h_9' a1_9 a2 a3 (hp_gLa gL (List.mem_of_getElem? (i := 0) rfl) (by decide)) (hp_gLi (z := (0 + (1 * m + 0))) gL (List.mem_of_getElem? (i := 1) rfl) rfl (by omega)) (hp_gLi (z := (0 + (1 * w + 0))) gL (List.mem_of_getElem? (i := 2) rfl) rfl (by omega)) (hp_gLi (z := (0 + 0)) gL (List.mem_of_getElem? (i := 3) rfl) rfl (by omega)) (hp_gLi (z := (0 + 0)) gL (List.mem_of_getElem? (i := 4) rfl) rfl (by omega)) (hp_gLi (z := (0 + 0)) gL (List.mem_of_getElem? (i := 5) rfl) rfl (by omega))
    cases hp
  · intro p_9 hp ys v_9 h_9' hys a1_9 a2 a3 gZ gS
    cases hp
theorem mw2_k : hq_chk [344] 345 118 10 [(0, 0, 99), (1, 0, 1199), (2, 0, 28), (3, 0, 8), (4, 0, 27), (5, 0, 28), (6, 0, 8), (7, 0, 29), (8, 0, 401), (9, (-9223372036854775808), 9223372036854775807)] [((-1), [(2, 1), (5, (-1))]), ((-1), [(3, 1), (6, (-1))]), (329, [(6, (-1)), (8, (-1))])] [(0, .inr (.inr (.inl (some 94)))), (1, .inl (0, [(0, 1)])), (2, .inl (0, [(1, 1)])), (3, .inl (0, [(4, 1)])), (4, .inl (0, [(5, 1)])), (5, .inl (0, [(6, 1)]))] [] [(33280, (0, [(0, 1)]), (0, [(2, 1)])), (24576, (0, [(1, 1)]), (0, [(3, 1)])), (62040, (0, [(1, 1)]), (0, [(7, 1)])), (24320, (0, [(1, 1)]), (0, [(8, 1)])), (33024, (0, [(0, 30), (5, 1)]), (0, [(9, 1)])), (27136, (0, [(6, 1), (7, 330), (8, 1)]), (0, [(9, 1)]))] [] 4 [(225, ([], 10, [(0, 0, 99), (1, 0, 1199), (2, 0, 28), (3, 0, 8), (4, 0, 27), (5, 0, 28), (6, 0, 8), (7, 0, 29), (8, 0, 401), (9, (-9223372036854775808), 9223372036854775807)], [], [(0, .inr (.inr (.inl (some 94)))), (1, .inl (0, [(0, 1)])), (2, .inl (0, [(1, 1)])), (3, .inl (0, [(4, 1)])), (4, .inl (0, [(5, 1)])), (5, .inl (0, [(6, 1)]))], [.inr (.inl (0, [(9, 1)])), .inl (3000, [(4, 1)]), .inr (.inr (.inl (some 145)))], []))] [] = true := by decide +kernel
theorem mw2 {cst : am_K} {strs : List Nat} {Φ : am_Q → Prop} {D : Nat} {M : am_M} {h : am_H} {l : am_L} (c : hp_C cst strs D) (hM : m_P[345]? = some M) (hD : (4 : Int) ≤ (D : Int) + 1) (hy : ly_hy m_tt ly_TH h) (m w z cm n i j q f u : Int) (b0 : 0 ≤ m) (t0 : m ≤ 99) (b1 : 0 ≤ w) (t1 : w ≤ 1199) (b2 : 0 ≤ z) (t2 : z ≤ 28) (b3 : 0 ≤ cm) (t3 : cm ≤ 8) (b4 : 0 ≤ n) (t4 : n ≤ 27) (b5 : 0 ≤ i) (t5 : i ≤ 28) (b6 : 0 ≤ j) (t6 : j ≤ 8) (b7 : 0 ≤ q) (t7 : q ≤ 29) (b8 : 0 ≤ f) (t8 : f ≤ 401) (b9 : (-9223372036854775808) ≤ u) (t9 : u ≤ 9223372036854775807) (f0 : 0 ≤ (z - i - 1)) (f1 : 0 ≤ (cm - j - 1)) (f2 : 0 ≤ (-f - j + 329)) (k0 : ly_hv cst h 33280 (m) = some (z)) (k1 : ly_hv cst h 24576 (w) = some (cm)) (k2 : ly_hv cst h 62040 (w) = some (q)) (k3 : ly_hv cst h 24320 (w) = some (f)) (k4 : ly_hv cst h 33024 (30 * m + i) = some (u)) (k5 : ly_hv cst h 27136 (330 * q + f + j) = some (u)) (l0 : hp_a l 0 94) (l1 : hp_i l 1 (m)) (l2 : hp_i l 2 (w)) (l3 : hp_i l 3 (n)) (l4 : hp_i l 4 (i)) (l5 : hp_i l 5 (j)) (e0 : ∀ (l' : am_L) (h_9' : am_H) (y0 : Int64) (y1 : Int32), y0.toInt = (u) → y1.toInt = (n + 3000) → ly_hy m_tt ly_TH h_9' → ly_fr cst [] h h_9' → h.length ≤ h_9'.length → hp_a l' 0 94 → hp_i l' 1 (m) → hp_i l' 2 (w) → hp_i l' 3 (n) → hp_i l' 4 (i) → hp_i l' 5 (j) → hp_F cst strs Φ D M 225 l' [.long y0, .int y1, .ref 145] h_9') : hp_F cst strs Φ D M 118 l [] h := by
  refine hq_arc c hM mw2_k hD [m, w, z, cm, n, i, j, q, f, u] rfl hy (hp_Bc (z := m) rfl b0 t0 (hp_Bc (z := w) rfl b1 t1 (hp_Bc (z := z) rfl b2 t2 (hp_Bc (z := cm) rfl b3 t3 (hp_Bc (z := n) rfl b4 t4 (hp_Bc (z := i) rfl b5 t5 (hp_Bc (z := j) rfl b6 t6 (hp_Bc (z := q) rfl b7 t7 (hp_Bc (z := f) rfl b8 t8 (hp_Bc (z := u) rfl b9 t9 hp_Bn)))))))))) (hp_Fc (z := ((-1) + (1 * z + ((-1) * i + 0)))) rfl (by omega) (hp_Fc (z := ((-1) + (1 * cm + ((-1) * j + 0)))) rfl (by omega) (hp_Fc (z := (329 + ((-1) * j + ((-1) * f + 0)))) rfl (by omega) hp_Fn))) (hp_Kc (zi := (0 + (1 * m + 0))) (zv := (0 + (1 * z + 0))) k0 rfl rfl (by omega) (by omega) (hp_Kc (zi := (0 + (1 * w + 0))) (zv := (0 + (1 * cm + 0))) k1 rfl rfl (by omega) (by omega) (hp_Kc (zi := (0 + (1 * w + 0))) (zv := (0 + (1 * q + 0))) k2 rfl rfl (by omega) (by omega) (hp_Kc (zi := (0 + (1 * w + 0))) (zv := (0 + (1 * f + 0))) k3 rfl rfl (by omega) (by omega) (hp_Kc (zi := (0 + (30 * m + (1 * i + 0)))) (zv := (0 + (1 * u + 0))) k4 rfl rfl (by omega) (by omega) (hp_Kc (zi := (0 + (1 * j + (330 * q + (1 * f + 0))))) (zv := (0 + (1 * u + 0))) k5 rfl rfl (by omega) (by omega) hp_Kn)))))) (hp_La l0 (hp_Li (z := (0 + (1 * m + 0))) l1 rfl (by omega) (hp_Li (z := (0 + (1 * w + 0))) l2 rfl (by omega) (hp_Li (z := (0 + (1 * n + 0))) l3 rfl (by omega) (hp_Li (z := (0 + (1 * i + 0))) l4 rfl (by omega) (hp_Li (z := (0 + (1 * j + 0))) l5 rfl (by omega) hp_Ln)))))) trivial ?_ ?_
  · intro p_9 hp ys l' st_9' h_9' hys a1_9 a2 a3 gZ gL gS
    rcases List.mem_cons.mp hp with rfl | hp
    · obtain rfl := hp_y0 hys
      obtain ⟨y0, t0, rfl, q0, g0⟩ := hp_gSj (z := (0 + (1 * u + 0))) gS rfl
      obtain ⟨y1, t1, rfl, q1_9, g1⟩ := hp_gSi (z := (3000 + (1 * n + 0))) g0 rfl
      obtain ⟨t2, rfl, g2⟩ := hp_gSa g1 (by decide)
      cases hp_gSn g2
      exact e0 l' h_9' y0 y1 (by omega) (by omega) a1_9 a2 a3 (hp_gLa gL (List.mem_of_getElem? (i := 0) rfl) (by decide)) (hp_gLi (z := (0 + (1 * m + 0))) gL (List.mem_of_getElem? (i := 1) rfl) rfl (by omega)) (hp_gLi (z := (0 + (1 * w + 0))) gL (List.mem_of_getElem? (i := 2) rfl) rfl (by omega)) (hp_gLi (z := (0 + (1 * n + 0))) gL (List.mem_of_getElem? (i := 3) rfl) rfl (by omega)) (hp_gLi (z := (0 + (1 * i + 0))) gL (List.mem_of_getElem? (i := 4) rfl) rfl (by omega)) (hp_gLi (z := (0 + (1 * j + 0))) gL (List.mem_of_getElem? (i := 5) rfl) rfl (by omega))
    cases hp
  · intro p_9 hp ys v_9 h_9' hys a1_9 a2 a3 gZ gS
    cases hp
theorem mw3_k : hq_chk [344] 345 118 12 [(0, 0, 99), (1, 0, 1199), (2, 0, 28), (3, 0, 8), (4, 0, 27), (5, 0, 28), (6, 0, 8), (7, 0, 29), (8, 0, 401), (9, (-9223372036854775808), 9223372036854775807), (10, (-9223372036854775808), 9223372036854775807), (11, 0, 8)] [((-1), [(2, 1), (5, (-1))]), ((-1), [(3, 1), (6, (-1))]), (329, [(6, (-1)), (8, (-1))])] [(0, .inr (.inr (.inl (some 94)))), (1, .inl (0, [(0, 1)])), (2, .inl (0, [(1, 1)])), (3, .inl (0, [(4, 1)])), (4, .inl (0, [(5, 1)])), (5, .inl (0, [(6, 1)]))] [] [(33280, (0, [(0, 1)]), (0, [(2, 1)])), (24576, (0, [(1, 1)]), (0, [(3, 1)])), (62040, (0, [(1, 1)]), (0, [(7, 1)])), (24320, (0, [(1, 1)]), (0, [(8, 1)])), (33024, (0, [(0, 30), (5, 1)]), (0, [(9, 1)])), (27136, (0, [(6, 1), (7, 330), (8, 1)]), (0, [(10, 1)])), (61000, (0, [(9, 1), (10, (-1))]), (1, [])), (37376, (0, [(5, 9), (6, 1)]), (0, [(11, 1)])), (37376, (1, [(5, 9), (6, 1)]), (0, [(11, 1)]))] [] 4 [(292, ([], 12, [(0, 0, 99), (1, 0, 1199), (2, 0, 28), (3, 0, 8), (4, 0, 27), (5, 0, 28), (6, 0, 8), (7, 0, 29), (8, 0, 401), (9, (-9223372036854775808), 9223372036854775807), (10, (-9223372036854775808), 9223372036854775807), (11, 0, 8)], [], [(0, .inr (.inr (.inl (some 94)))), (1, .inl (0, [(0, 1)])), (2, .inl (0, [(1, 1)])), (3, .inl (0, [(4, 1)])), (4, .inl (0, [(5, 1)])), (5, .inl (0, [(6, 1)]))], [.inr (.inl (0, [(10, 1)])), .inl (3000, [(4, 1)]), .inr (.inr (.inl (some 145)))], []))] [] = true := by decide +kernel
theorem mw3 {cst : am_K} {strs : List Nat} {Φ : am_Q → Prop} {D : Nat} {M : am_M} {h : am_H} {l : am_L} (c : hp_C cst strs D) (hM : m_P[345]? = some M) (hD : (4 : Int) ≤ (D : Int) + 1) (hy : ly_hy m_tt ly_TH h) (m w z cm n i j q f u v b : Int) (b0 : 0 ≤ m) (t0 : m ≤ 99) (b1 : 0 ≤ w) (t1 : w ≤ 1199) (b2 : 0 ≤ z) (t2 : z ≤ 28) (b3 : 0 ≤ cm) (t3 : cm ≤ 8) (b4 : 0 ≤ n) (t4 : n ≤ 27) (b5 : 0 ≤ i) (t5 : i ≤ 28) (b6 : 0 ≤ j) (t6 : j ≤ 8) (b7 : 0 ≤ q) (t7 : q ≤ 29) (b8 : 0 ≤ f) (t8 : f ≤ 401) (b9 : (-9223372036854775808) ≤ u) (t9 : u ≤ 9223372036854775807) (b10 : (-9223372036854775808) ≤ v) (t10 : v ≤ 9223372036854775807) (b11 : 0 ≤ b) (t11 : b ≤ 8) (f0 : 0 ≤ (z - i - 1)) (f1 : 0 ≤ (cm - j - 1)) (f2 : 0 ≤ (-f - j + 329)) (k0 : ly_hv cst h 33280 (m) = some (z)) (k1 : ly_hv cst h 24576 (w) = some (cm)) (k2 : ly_hv cst h 62040 (w) = some (q)) (k3 : ly_hv cst h 24320 (w) = some (f)) (k4 : ly_hv cst h 33024 (30 * m + i) = some (u)) (k5 : ly_hv cst h 27136 (330 * q + f + j) = some (v)) (k6 : ly_hv cst h 61000 (u - v) = some 1) (k7 : ly_hv cst h 37376 (9 * i + j) = some (b)) (k8 : ly_hv cst h 37376 (9 * i + j + 1) = some (b)) (l0 : hp_a l 0 94) (l1 : hp_i l 1 (m)) (l2 : hp_i l 2 (w)) (l3 : hp_i l 3 (n)) (l4 : hp_i l 4 (i)) (l5 : hp_i l 5 (j)) (e0 : ∀ (l' : am_L) (h_9' : am_H) (y0 : Int64) (y1 : Int32), y0.toInt = (v) → y1.toInt = (n + 3000) → ly_hy m_tt ly_TH h_9' → ly_fr cst [] h h_9' → h.length ≤ h_9'.length → hp_a l' 0 94 → hp_i l' 1 (m) → hp_i l' 2 (w) → hp_i l' 3 (n) → hp_i l' 4 (i) → hp_i l' 5 (j) → hp_F cst strs Φ D M 292 l' [.long y0, .int y1, .ref 145] h_9') : hp_F cst strs Φ D M 118 l [] h := by
  refine hq_arc c hM mw3_k hD [m, w, z, cm, n, i, j, q, f, u, v, b] rfl hy (hp_Bc (z := m) rfl b0 t0 (hp_Bc (z := w) rfl b1 t1 (hp_Bc (z := z) rfl b2 t2 (hp_Bc (z := cm) rfl b3 t3 (hp_Bc (z := n) rfl b4 t4 (hp_Bc (z := i) rfl b5 t5 (hp_Bc (z := j) rfl b6 t6 (hp_Bc (z := q) rfl b7 t7 (hp_Bc (z := f) rfl b8 t8 (hp_Bc (z := u) rfl b9 t9 (hp_Bc (z := v) rfl b10 t10 (hp_Bc (z := b) rfl b11 t11 hp_Bn)))))))))))) (hp_Fc (z := ((-1) + (1 * z + ((-1) * i + 0)))) rfl (by omega) (hp_Fc (z := ((-1) + (1 * cm + ((-1) * j + 0)))) rfl (by omega) (hp_Fc (z := (329 + ((-1) * j + ((-1) * f + 0)))) rfl (by omega) hp_Fn))) (hp_Kc (zi := (0 + (1 * m + 0))) (zv := (0 + (1 * z + 0))) k0 rfl rfl (by omega) (by omega) (hp_Kc (zi := (0 + (1 * w + 0))) (zv := (0 + (1 * cm + 0))) k1 rfl rfl (by omega) (by omega) (hp_Kc (zi := (0 + (1 * w + 0))) (zv := (0 + (1 * q + 0))) k2 rfl rfl (by omega) (by omega) (hp_Kc (zi := (0 + (1 * w + 0))) (zv := (0 + (1 * f + 0))) k3 rfl rfl (by omega) (by omega) (hp_Kc (zi := (0 + (30 * m + (1 * i + 0)))) (zv := (0 + (1 * u + 0))) k4 rfl rfl (by omega) (by omega) (hp_Kc (zi := (0 + (1 * j + (330 * q + (1 * f + 0))))) (zv := (0 + (1 * v + 0))) k5 rfl rfl (by omega) (by omega) (hp_Kc (zi := (0 + (1 * u + ((-1) * v + 0)))) (zv := (1 + 0)) k6 rfl rfl (by omega) (by omega) (hp_Kc (zi := (0 + (9 * i + (1 * j + 0)))) (zv := (0 + (1 * b + 0))) k7 rfl rfl (by omega) (by omega) (hp_Kc (zi := (1 + (9 * i + (1 * j + 0)))) (zv := (0 + (1 * b + 0))) k8 rfl rfl (by omega) (by omega) hp_Kn))))))))) (hp_La l0 (hp_Li (z := (0 + (1 * m + 0))) l1 rfl (by omega) (hp_Li (z := (0 + (1 * w + 0))) l2 rfl (by omega) (hp_Li (z := (0 + (1 * n + 0))) l3 rfl (by omega) (hp_Li (z := (0 + (1 * i + 0))) l4 rfl (by omega) (hp_Li (z := (0 + (1 * j + 0))) l5 rfl (by omega) hp_Ln)))))) trivial ?_ ?_
  · intro p_9 hp ys l' st_9' h_9' hys a1_9 a2 a3 gZ gL gS
    rcases List.mem_cons.mp hp with rfl | hp
    · obtain rfl := hp_y0 hys
      obtain ⟨y0, t0, rfl, q0, g0⟩ := hp_gSj (z := (0 + (1 * v + 0))) gS rfl
      obtain ⟨y1, t1, rfl, q1_9, g1⟩ := hp_gSi (z := (3000 + (1 * n + 0))) g0 rfl
      obtain ⟨t2, rfl, g2⟩ := hp_gSa g1 (by decide)
      cases hp_gSn g2
      exact e0 l' h_9' y0 y1 (by omega) (by omega) a1_9 a2 a3 (hp_gLa gL (List.mem_of_getElem? (i := 0) rfl) (by decide)) (hp_gLi (z := (0 + (1 * m + 0))) gL (List.mem_of_getElem? (i := 1) rfl) rfl (by omega)) (hp_gLi (z := (0 + (1 * w + 0))) gL (List.mem_of_getElem? (i := 2) rfl) rfl (by omega)) (hp_gLi (z := (0 + (1 * n + 0))) gL (List.mem_of_getElem? (i := 3) rfl) rfl (by omega)) (hp_gLi (z := (0 + (1 * i + 0))) gL (List.mem_of_getElem? (i := 4) rfl) rfl (by omega)) (hp_gLi (z := (0 + (1 * j + 0))) gL (List.mem_of_getElem? (i := 5) rfl) rfl (by omega))
    cases hp
  · intro p_9 hp ys v h_9' hys a1_9 a2 a3 gZ gS
    cases hp
theorem mw4_k : hq_chk [344] 345 118 9 [(0, 0, 99), (1, 0, 1199), (2, 0, 28), (3, 0, 8), (4, 0, 27), (5, 0, 8), (6, 0, 29), (7, 0, 401), (8, (-9223372036854775808), 9223372036854775807)] [((-1), [(3, 1), (5, (-1))]), (329, [(5, (-1)), (7, (-1))])] [(0, .inr (.inr (.inl (some 94)))), (1, .inl (0, [(0, 1)])), (2, .inl (0, [(1, 1)])), (3, .inl (0, [(4, 1)])), (4, .inl (0, [(2, 1)])), (5, .inl (0, [(5, 1)]))] [] [(33280, (0, [(0, 1)]), (0, [(2, 1)])), (24576, (0, [(1, 1)]), (0, [(3, 1)])), (62040, (0, [(1, 1)]), (0, [(6, 1)])), (24320, (0, [(1, 1)]), (0, [(7, 1)])), (27136, (0, [(5, 1), (6, 330), (7, 1)]), (0, [(8, 1)]))] [] 4 [(292, ([], 9, [(0, 0, 99), (1, 0, 1199), (2, 0, 28), (3, 0, 8), (4, 0, 27), (5, 0, 8), (6, 0, 29), (7, 0, 401), (8, (-9223372036854775808), 9223372036854775807)], [], [(0, .inr (.inr (.inl (some 94)))), (1, .inl (0, [(0, 1)])), (2, .inl (0, [(1, 1)])), (3, .inl (0, [(4, 1)])), (4, .inl (0, [(2, 1)])), (5, .inl (0, [(5, 1)]))], [.inr (.inl (0, [(8, 1)])), .inl (3000, [(4, 1)]), .inr (.inr (.inl (some 145)))], []))] [] = true := by decide +kernel
theorem mw4 {cst : am_K} {strs : List Nat} {Φ : am_Q → Prop} {D : Nat} {M : am_M} {h : am_H} {l : am_L} (c : hp_C cst strs D) (hM : m_P[345]? = some M) (hD : (4 : Int) ≤ (D : Int) + 1) (hy : ly_hy m_tt ly_TH h) (m w z cm n j q f v : Int) (b0 : 0 ≤ m) (t0 : m ≤ 99) (b1 : 0 ≤ w) (t1 : w ≤ 1199) (b2 : 0 ≤ z) (t2 : z ≤ 28) (b3 : 0 ≤ cm) (t3 : cm ≤ 8) (b4 : 0 ≤ n) (t4 : n ≤ 27) (b5 : 0 ≤ j) (t5 : j ≤ 8) (b6 : 0 ≤ q) (t6 : q ≤ 29) (b7 : 0 ≤ f) (t7 : f ≤ 401) (b8 : (-9223372036854775808) ≤ v) (t8 : v ≤ 9223372036854775807) (f0 : 0 ≤ (cm - j - 1)) (f1 : 0 ≤ (-f - j + 329)) (k0 : ly_hv cst h 33280 (m) = some (z)) (k1 : ly_hv cst h 24576 (w) = some (cm)) (k2 : ly_hv cst h 62040 (w) = some (q)) (k3 : ly_hv cst h 24320 (w) = some (f)) (k4 : ly_hv cst h 27136 (330 * q + f + j) = some (v)) (l0 : hp_a l 0 94) (l1 : hp_i l 1 (m)) (l2 : hp_i l 2 (w)) (l3 : hp_i l 3 (n)) (l4 : hp_i l 4 (z)) (l5 : hp_i l 5 (j)) (e0 : ∀ (l' : am_L) (h_9' : am_H) (y0 : Int64) (y1 : Int32), y0.toInt = (v) → y1.toInt = (n + 3000) → ly_hy m_tt ly_TH h_9' → ly_fr cst [] h h_9' → h.length ≤ h_9'.length → hp_a l' 0 94 → hp_i l' 1 (m) → hp_i l' 2 (w) → hp_i l' 3 (n) → hp_i l' 4 (z) → hp_i l' 5 (j) → hp_F cst strs Φ D M 292 l' [.long y0, .int y1, .ref 145] h_9') : hp_F cst strs Φ D M 118 l [] h := by
  refine hq_arc c hM mw4_k hD [m, w, z, cm, n, j, q, f, v] rfl hy (hp_Bc (z := m) rfl b0 t0 (hp_Bc (z := w) rfl b1 t1 (hp_Bc (z := z) rfl b2 t2 (hp_Bc (z := cm) rfl b3 t3 (hp_Bc (z := n) rfl b4 t4 (hp_Bc (z := j) rfl b5 t5 (hp_Bc (z := q) rfl b6 t6 (hp_Bc (z := f) rfl b7 t7 (hp_Bc (z := v) rfl b8 t8 hp_Bn))))))))) (hp_Fc (z := ((-1) + (1 * cm + ((-1) * j + 0)))) rfl (by omega) (hp_Fc (z := (329 + ((-1) * j + ((-1) * f + 0)))) rfl (by omega) hp_Fn)) (hp_Kc (zi := (0 + (1 * m + 0))) (zv := (0 + (1 * z + 0))) k0 rfl rfl (by omega) (by omega) (hp_Kc (zi := (0 + (1 * w + 0))) (zv := (0 + (1 * cm + 0))) k1 rfl rfl (by omega) (by omega) (hp_Kc (zi := (0 + (1 * w + 0))) (zv := (0 + (1 * q + 0))) k2 rfl rfl (by omega) (by omega) (hp_Kc (zi := (0 + (1 * w + 0))) (zv := (0 + (1 * f + 0))) k3 rfl rfl (by omega) (by omega) (hp_Kc (zi := (0 + (1 * j + (330 * q + (1 * f + 0))))) (zv := (0 + (1 * v + 0))) k4 rfl rfl (by omega) (by omega) hp_Kn))))) (hp_La l0 (hp_Li (z := (0 + (1 * m + 0))) l1 rfl (by omega) (hp_Li (z := (0 + (1 * w + 0))) l2 rfl (by omega) (hp_Li (z := (0 + (1 * n + 0))) l3 rfl (by omega) (hp_Li (z := (0 + (1 * z + 0))) l4 rfl (by omega) (hp_Li (z := (0 + (1 * j + 0))) l5 rfl (by omega) hp_Ln)))))) trivial ?_ ?_
  · intro p_9 hp ys l' st_9' h_9' hys a1_9 a2 a3 gZ gL gS
    rcases List.mem_cons.mp hp with rfl | hp
    · obtain rfl := hp_y0 hys
      obtain ⟨y0, t0, rfl, q0, g0⟩ := hp_gSj (z := (0 + (1 * v + 0))) gS rfl
      obtain ⟨y1, t1, rfl, q1_9, g1⟩ := hp_gSi (z := (3000 + (1 * n + 0))) g0 rfl
      obtain ⟨t2, rfl, g2⟩ := hp_gSa g1 (by decide)
      cases hp_gSn g2
      exact e0 l' h_9' y0 y1 (by omega) (by omega) a1_9 a2 a3 (hp_gLa gL (List.mem_of_getElem? (i := 0) rfl) (by decide)) (hp_gLi (z := (0 + (1 * m + 0))) gL (List.mem_of_getElem? (i := 1) rfl) rfl (by omega)) (hp_gLi (z := (0 + (1 * w + 0))) gL (List.mem_of_getElem? (i := 2) rfl) rfl (by omega)) (hp_gLi (z := (0 + (1 * n + 0))) gL (List.mem_of_getElem? (i := 3) rfl) rfl (by omega)) (hp_gLi (z := (0 + (1 * z + 0))) gL (List.mem_of_getElem? (i := 4) rfl) rfl (by omega)) (hp_gLi (z := (0 + (1 * j + 0))) gL (List.mem_of_getElem? (i := 5) rfl) rfl (by omega))
    cases hp
  · intro p_9 hp ys v h_9' hys a1_9 a2 a3 gZ gS
    cases hp
theorem mw5_k : hq_chk [344] 345 118 13 [(0, 0, 99), (1, 0, 1199), (2, 0, 28), (3, 0, 8), (4, 0, 27), (5, 0, 28), (6, 0, 8), (7, 0, 29), (8, 0, 401), (9, (-9223372036854775808), 9223372036854775807), (10, (-9223372036854775808), 9223372036854775807), (11, 0, 8), (12, 0, 8)] [((-1), [(2, 1), (5, (-1))]), ((-1), [(3, 1), (6, (-1))]), (329, [(6, (-1)), (8, (-1))])] [(0, .inr (.inr (.inl (some 94)))), (1, .inl (0, [(0, 1)])), (2, .inl (0, [(1, 1)])), (3, .inl (0, [(4, 1)])), (4, .inl (0, [(5, 1)])), (5, .inl (0, [(6, 1)]))] [] [(33280, (0, [(0, 1)]), (0, [(2, 1)])), (24576, (0, [(1, 1)]), (0, [(3, 1)])), (62040, (0, [(1, 1)]), (0, [(7, 1)])), (24320, (0, [(1, 1)]), (0, [(8, 1)])), (33024, (0, [(0, 30), (5, 1)]), (0, [(9, 1)])), (27136, (0, [(6, 1), (7, 330), (8, 1)]), (0, [(10, 1)])), (61000, (0, [(9, 1), (10, (-1))]), (1, [])), (37376, (0, [(5, 9), (6, 1)]), (0, [(11, 1)])), (37376, (1, [(5, 9), (6, 1)]), (0, [(12, 1)])), (61000, (0, [(11, (-1)), (12, 1)]), (1, []))] [] 4 [(320, ([], 13, [(0, 0, 99), (1, 0, 1199), (2, 0, 28), (3, 0, 8), (4, 0, 27), (5, 0, 28), (6, 0, 8), (7, 0, 29), (8, 0, 401), (9, (-9223372036854775808), 9223372036854775807), (10, (-9223372036854775808), 9223372036854775807), (11, 0, 8), (12, 0, 8)], [], [(0, .inr (.inr (.inl (some 94)))), (1, .inl (0, [(0, 1)])), (2, .inl (0, [(1, 1)])), (3, .inl (0, [(4, 1)])), (4, .inl (0, [(5, 1)])), (5, .inl (0, [(6, 1)]))], [.inr (.inl (0, [(9, 1)])), .inl (3000, [(4, 1)]), .inr (.inr (.inl (some 145)))], []))] [] = true := by decide +kernel
theorem mw5 {cst : am_K} {strs : List Nat} {Φ : am_Q → Prop} {D : Nat} {M : am_M} {h : am_H} {l : am_L} (c : hp_C cst strs D) (hM : m_P[345]? = some M) (hD : (4 : Int) ≤ (D : Int) + 1) (hy : ly_hy m_tt ly_TH h) (m w z cm n i j q f u v b t : Int) (b0 : 0 ≤ m) (t0 : m ≤ 99) (b1 : 0 ≤ w) (t1 : w ≤ 1199) (b2 : 0 ≤ z) (t2 : z ≤ 28) (b3 : 0 ≤ cm) (t3 : cm ≤ 8) (b4 : 0 ≤ n) (t4 : n ≤ 27) (b5 : 0 ≤ i) (t5 : i ≤ 28) (b6 : 0 ≤ j) (t6 : j ≤ 8) (b7 : 0 ≤ q) (t7 : q ≤ 29) (b8 : 0 ≤ f) (t8 : f ≤ 401) (b9 : (-9223372036854775808) ≤ u) (t9 : u ≤ 9223372036854775807) (b10 : (-9223372036854775808) ≤ v) (t10 : v ≤ 9223372036854775807) (b11 : 0 ≤ b) (t11 : b ≤ 8) (b12 : 0 ≤ t) (t12 : t ≤ 8) (f0 : 0 ≤ (z - i - 1)) (f1 : 0 ≤ (cm - j - 1)) (f2 : 0 ≤ (-f - j + 329)) (k0 : ly_hv cst h 33280 (m) = some (z)) (k1 : ly_hv cst h 24576 (w) = some (cm)) (k2 : ly_hv cst h 62040 (w) = some (q)) (k3 : ly_hv cst h 24320 (w) = some (f)) (k4 : ly_hv cst h 33024 (30 * m + i) = some (u)) (k5 : ly_hv cst h 27136 (330 * q + f + j) = some (v)) (k6 : ly_hv cst h 61000 (u - v) = some 1) (k7 : ly_hv cst h 37376 (9 * i + j) = some (b)) (k8 : ly_hv cst h 37376 (9 * i + j + 1) = some (t)) (k9 : ly_hv cst h 61000 (t - b) = some 1) (l0 : hp_a l 0 94) (l1 : hp_i l 1 (m)) (l2 : hp_i l 2 (w)) (l3 : hp_i l 3 (n)) (l4 : hp_i l 4 (i)) (l5 : hp_i l 5 (j)) (e0 : ∀ (l' : am_L) (h_9' : am_H) (y0 : Int64) (y1 : Int32), y0.toInt = (u) → y1.toInt = (n + 3000) → ly_hy m_tt ly_TH h_9' → ly_fr cst [] h h_9' → h.length ≤ h_9'.length → hp_a l' 0 94 → hp_i l' 1 (m) → hp_i l' 2 (w) → hp_i l' 3 (n) → hp_i l' 4 (i) → hp_i l' 5 (j) → hp_F cst strs Φ D M 320 l' [.long y0, .int y1, .ref 145] h_9') : hp_F cst strs Φ D M 118 l [] h := by
  refine hq_arc c hM mw5_k hD [m, w, z, cm, n, i, j, q, f, u, v, b, t] rfl hy (hp_Bc (z := m) rfl b0 t0 (hp_Bc (z := w) rfl b1 t1 (hp_Bc (z := z) rfl b2 t2 (hp_Bc (z := cm) rfl b3 t3 (hp_Bc (z := n) rfl b4 t4 (hp_Bc (z := i) rfl b5 t5 (hp_Bc (z := j) rfl b6 t6 (hp_Bc (z := q) rfl b7 t7 (hp_Bc (z := f) rfl b8 t8 (hp_Bc (z := u) rfl b9 t9 (hp_Bc (z := v) rfl b10 t10 (hp_Bc (z := b) rfl b11 t11 (hp_Bc (z := t) rfl b12 t12 hp_Bn))))))))))))) (hp_Fc (z := ((-1) + (1 * z + ((-1) * i + 0)))) rfl (by omega) (hp_Fc (z := ((-1) + (1 * cm + ((-1) * j + 0)))) rfl (by omega) (hp_Fc (z := (329 + ((-1) * j + ((-1) * f + 0)))) rfl (by omega) hp_Fn))) (hp_Kc (zi := (0 + (1 * m + 0))) (zv := (0 + (1 * z + 0))) k0 rfl rfl (by omega) (by omega) (hp_Kc (zi := (0 + (1 * w + 0))) (zv := (0 + (1 * cm + 0))) k1 rfl rfl (by omega) (by omega) (hp_Kc (zi := (0 + (1 * w + 0))) (zv := (0 + (1 * q + 0))) k2 rfl rfl (by omega) (by omega) (hp_Kc (zi := (0 + (1 * w + 0))) (zv := (0 + (1 * f + 0))) k3 rfl rfl (by omega) (by omega) (hp_Kc (zi := (0 + (30 * m + (1 * i + 0)))) (zv := (0 + (1 * u + 0))) k4 rfl rfl (by omega) (by omega) (hp_Kc (zi := (0 + (1 * j + (330 * q + (1 * f + 0))))) (zv := (0 + (1 * v + 0))) k5 rfl rfl (by omega) (by omega) (hp_Kc (zi := (0 + (1 * u + ((-1) * v + 0)))) (zv := (1 + 0)) k6 rfl rfl (by omega) (by omega) (hp_Kc (zi := (0 + (9 * i + (1 * j + 0)))) (zv := (0 + (1 * b + 0))) k7 rfl rfl (by omega) (by omega) (hp_Kc (zi := (1 + (9 * i + (1 * j + 0)))) (zv := (0 + (1 * t + 0))) k8 rfl rfl (by omega) (by omega) (hp_Kc (zi := (0 + ((-1) * b + (1 * t + 0)))) (zv := (1 + 0)) k9 rfl rfl (by omega) (by omega) hp_Kn)))))))))) (hp_La l0 (hp_Li (z := (0 + (1 * m + 0))) l1 rfl (by omega) (hp_Li (z := (0 + (1 * w + 0))) l2 rfl (by omega) (hp_Li (z := (0 + (1 * n + 0))) l3 rfl (by omega) (hp_Li (z := (0 + (1 * i + 0))) l4 rfl (by omega) (hp_Li (z := (0 + (1 * j + 0))) l5 rfl (by omega) hp_Ln)))))) trivial ?_ ?_
  · intro p_9 hp ys l' st_9' h_9' hys a1_9 a2 a3 gZ gL gS
    rcases List.mem_cons.mp hp with rfl | hp
    · obtain rfl := hp_y0 hys
      obtain ⟨y0, t0, rfl, q0, g0⟩ := hp_gSj (z := (0 + (1 * u + 0))) gS rfl
      obtain ⟨y1, t1, rfl, q1_9, g1⟩ := hp_gSi (z := (3000 + (1 * n + 0))) g0 rfl
      obtain ⟨t2, rfl, g2⟩ := hp_gSa g1 (by decide)
      cases hp_gSn g2
      exact e0 l' h_9' y0 y1 (by omega) (by omega) a1_9 a2 a3 (hp_gLa gL (List.mem_of_getElem? (i := 0) rfl) (by decide)) (hp_gLi (z := (0 + (1 * m + 0))) gL (List.mem_of_getElem? (i := 1) rfl) rfl (by omega)) (hp_gLi (z := (0 + (1 * w + 0))) gL (List.mem_of_getElem? (i := 2) rfl) rfl (by omega)) (hp_gLi (z := (0 + (1 * n + 0))) gL (List.mem_of_getElem? (i := 3) rfl) rfl (by omega)) (hp_gLi (z := (0 + (1 * i + 0))) gL (List.mem_of_getElem? (i := 4) rfl) rfl (by omega)) (hp_gLi (z := (0 + (1 * j + 0))) gL (List.mem_of_getElem? (i := 5) rfl) rfl (by omega))
    cases hp
  · intro p_9 hp ys v h_9' hys a1_9 a2 a3 gZ gS
    cases hp
theorem mw6_k : hp_chk 345 118 7 [(0, 0, 99), (1, 0, 1199), (2, 0, 28), (3, 0, 8), (4, 0, 27), (5, 0, 28), (6, (-9223372036854775808), 9223372036854775807)] [((-1), [(2, 1), (5, (-1))])] [(0, .inr (.inr (.inl (some 94)))), (1, .inl (0, [(0, 1)])), (2, .inl (0, [(1, 1)])), (3, .inl (0, [(4, 1)])), (4, .inl (0, [(5, 1)])), (5, .inl (0, [(3, 1)]))] [] [(33280, (0, [(0, 1)]), (0, [(2, 1)])), (24576, (0, [(1, 1)]), (0, [(3, 1)])), (33024, (0, [(0, 30), (5, 1)]), (0, [(6, 1)]))] [] 2 [(320, ([], 7, [(0, 0, 99), (1, 0, 1199), (2, 0, 28), (3, 0, 8), (4, 0, 27), (5, 0, 28), (6, (-9223372036854775808), 9223372036854775807)], [], [(0, .inr (.inr (.inl (some 94)))), (1, .inl (0, [(0, 1)])), (2, .inl (0, [(1, 1)])), (3, .inl (0, [(4, 1)])), (4, .inl (0, [(5, 1)])), (5, .inl (0, [(3, 1)]))], [.inr (.inl (0, [(6, 1)])), .inl (3000, [(4, 1)]), .inr (.inr (.inl (some 145)))], []))] [] = true := by decide +kernel
theorem mw6 {cst : am_K} {strs : List Nat} {Φ : am_Q → Prop} {D : Nat} {M : am_M} {h : am_H} {l : am_L} (c : hp_C cst strs D) (hM : m_P[345]? = some M) (hD : (2 : Int) ≤ (D : Int) + 1) (hy : ly_hy m_tt ly_TH h) (m w z cm n i u : Int) (b0 : 0 ≤ m) (t0 : m ≤ 99) (b1 : 0 ≤ w) (t1 : w ≤ 1199) (b2 : 0 ≤ z) (t2 : z ≤ 28) (b3 : 0 ≤ cm) (t3 : cm ≤ 8) (b4 : 0 ≤ n) (t4 : n ≤ 27) (b5 : 0 ≤ i) (t5 : i ≤ 28) (b6 : (-9223372036854775808) ≤ u) (t6 : u ≤ 9223372036854775807) (f0 : 0 ≤ (z - i - 1)) (k0 : ly_hv cst h 33280 (m) = some (z)) (k1 : ly_hv cst h 24576 (w) = some (cm)) (k2 : ly_hv cst h 33024 (30 * m + i) = some (u)) (l0 : hp_a l 0 94) (l1 : hp_i l 1 (m)) (l2 : hp_i l 2 (w)) (l3 : hp_i l 3 (n)) (l4 : hp_i l 4 (i)) (l5 : hp_i l 5 (cm)) (e0 : ∀ (l' : am_L) (h_9' : am_H) (y0 : Int64) (y1 : Int32), y0.toInt = (u) → y1.toInt = (n + 3000) → ly_hy m_tt ly_TH h_9' → ly_fr cst [] h h_9' → h.length ≤ h_9'.length → hp_a l' 0 94 → hp_i l' 1 (m) → hp_i l' 2 (w) → hp_i l' 3 (n) → hp_i l' 4 (i) → hp_i l' 5 (cm) → hp_F cst strs Φ D M 320 l' [.long y0, .int y1, .ref 145] h_9') : hp_F cst strs Φ D M 118 l [] h := by
  refine hp_arc c hM mw6_k hD [m, w, z, cm, n, i, u] rfl hy (hp_Bc (z := m) rfl b0 t0 (hp_Bc (z := w) rfl b1 t1 (hp_Bc (z := z) rfl b2 t2 (hp_Bc (z := cm) rfl b3 t3 (hp_Bc (z := n) rfl b4 t4 (hp_Bc (z := i) rfl b5 t5 (hp_Bc (z := u) rfl b6 t6 hp_Bn))))))) (hp_Fc (z := ((-1) + (1 * z + ((-1) * i + 0)))) rfl (by omega) hp_Fn) (hp_Kc (zi := (0 + (1 * m + 0))) (zv := (0 + (1 * z + 0))) k0 rfl rfl (by omega) (by omega) (hp_Kc (zi := (0 + (1 * w + 0))) (zv := (0 + (1 * cm + 0))) k1 rfl rfl (by omega) (by omega) (hp_Kc (zi := (0 + (30 * m + (1 * i + 0)))) (zv := (0 + (1 * u + 0))) k2 rfl rfl (by omega) (by omega) hp_Kn))) (hp_La l0 (hp_Li (z := (0 + (1 * m + 0))) l1 rfl (by omega) (hp_Li (z := (0 + (1 * w + 0))) l2 rfl (by omega) (hp_Li (z := (0 + (1 * n + 0))) l3 rfl (by omega) (hp_Li (z := (0 + (1 * i + 0))) l4 rfl (by omega) (hp_Li (z := (0 + (1 * cm + 0))) l5 rfl (by omega) hp_Ln)))))) trivial ?_ ?_
  · intro p_9 hp ys l' st_9' h_9' hys a1_9 a2 a3 gZ gL gS
    rcases List.mem_cons.mp hp with rfl | hp
    · obtain rfl := hp_y0 hys
      obtain ⟨y0, t0, rfl, q0, g0⟩ := hp_gSj (z := (0 + (1 * u + 0))) gS rfl
      obtain ⟨y1, t1, rfl, q1_9, g1⟩ := hp_gSi (z := (3000 + (1 * n + 0))) g0 rfl
      obtain ⟨t2, rfl, g2⟩ := hp_gSa g1 (by decide)
      cases hp_gSn g2
      exact e0 l' h_9' y0 y1 (by omega) (by omega) a1_9 a2 a3 (hp_gLa gL (List.mem_of_getElem? (i := 0) rfl) (by decide)) (hp_gLi (z := (0 + (1 * m + 0))) gL (List.mem_of_getElem? (i := 1) rfl) rfl (by omega)) (hp_gLi (z := (0 + (1 * w + 0))) gL (List.mem_of_getElem? (i := 2) rfl) rfl (by omega)) (hp_gLi (z := (0 + (1 * n + 0))) gL (List.mem_of_getElem? (i := 3) rfl) rfl (by omega)) (hp_gLi (z := (0 + (1 * i + 0))) gL (List.mem_of_getElem? (i := 4) rfl) rfl (by omega)) (hp_gLi (z := (0 + (1 * cm + 0))) gL (List.mem_of_getElem? (i := 5) rfl) rfl (by omega))
    cases hp
  · intro p_9 hp ys v_9 h_9' hys a1_9 a2 a3 gZ gS
    cases hp
theorem mw7_k : hp_chk 345 118 5 [(0, 0, 99), (1, 0, 1199), (2, 0, 28), (3, 0, 8), (4, 0, 28)] [] [(0, .inr (.inr (.inl (some 94)))), (1, .inl (0, [(0, 1)])), (2, .inl (0, [(1, 1)])), (3, .inl (0, [(4, 1)])), (4, .inl (0, [(2, 1)])), (5, .inl (0, [(3, 1)]))] [] [(33280, (0, [(0, 1)]), (0, [(2, 1)])), (24576, (0, [(1, 1)]), (0, [(3, 1)]))] [] 2 [(343, ([], 5, [(0, 0, 99), (1, 0, 1199), (2, 0, 28), (3, 0, 8), (4, 0, 28)], [], [(0, .inr (.inr (.inl (some 94)))), (1, .inl (0, [(0, 1)])), (3, .inl (0, [(4, 1)])), (6, .inl (0, [(2, (-1)), (4, 1)])), (7, .inl (0, []))], [], []))] [] = true := by decide +kernel
theorem mw7 {cst : am_K} {strs : List Nat} {Φ : am_Q → Prop} {D : Nat} {M : am_M} {h : am_H} {l : am_L} (c : hp_C cst strs D) (hM : m_P[345]? = some M) (hD : (2 : Int) ≤ (D : Int) + 1) (hy : ly_hy m_tt ly_TH h) (m w z cm n : Int) (b0 : 0 ≤ m) (t0 : m ≤ 99) (b1 : 0 ≤ w) (t1 : w ≤ 1199) (b2 : 0 ≤ z) (t2 : z ≤ 28) (b3 : 0 ≤ cm) (t3 : cm ≤ 8) (b4 : 0 ≤ n) (t4 : n ≤ 28) (k0 : ly_hv cst h 33280 (m) = some (z)) (k1 : ly_hv cst h 24576 (w) = some (cm)) (l0 : hp_a l 0 94) (l1 : hp_i l 1 (m)) (l2 : hp_i l 2 (w)) (l3 : hp_i l 3 (n)) (l4 : hp_i l 4 (z)) (l5 : hp_i l 5 (cm)) (e0 : ∀ (l' : am_L) (h_9' : am_H), ly_hy m_tt ly_TH h_9' → ly_fr cst [] h h_9' → h.length ≤ h_9'.length → hp_a l' 0 94 → hp_i l' 1 (m) → hp_i l' 3 (n) → hp_i l' 6 (n - z) → hp_i l' 7 0 → hp_F cst strs Φ D M 343 l' [] h_9') : hp_F cst strs Φ D M 118 l [] h := by
  refine hp_arc c hM mw7_k hD [m, w, z, cm, n] rfl hy (hp_Bc (z := m) rfl b0 t0 (hp_Bc (z := w) rfl b1 t1 (hp_Bc (z := z) rfl b2 t2 (hp_Bc (z := cm) rfl b3 t3 (hp_Bc (z := n) rfl b4 t4 hp_Bn))))) hp_Fn (hp_Kc (zi := (0 + (1 * m + 0))) (zv := (0 + (1 * z + 0))) k0 rfl rfl (by omega) (by omega) (hp_Kc (zi := (0 + (1 * w + 0))) (zv := (0 + (1 * cm + 0))) k1 rfl rfl (by omega) (by omega) hp_Kn)) (hp_La l0 (hp_Li (z := (0 + (1 * m + 0))) l1 rfl (by omega) (hp_Li (z := (0 + (1 * w + 0))) l2 rfl (by omega) (hp_Li (z := (0 + (1 * n + 0))) l3 rfl (by omega) (hp_Li (z := (0 + (1 * z + 0))) l4 rfl (by omega) (hp_Li (z := (0 + (1 * cm + 0))) l5 rfl (by omega) hp_Ln)))))) trivial ?_ ?_
  · intro p_9 hp ys l' st_9' h_9' hys a1_9 a2 a3 gZ gL gS
    rcases List.mem_cons.mp hp with rfl | hp
    · obtain rfl := hp_y0 hys
      cases hp_gSn gS
      exact e0 l' h_9' a1_9 a2 a3 (hp_gLa gL (List.mem_of_getElem? (i := 0) rfl) (by decide)) (hp_gLi (z := (0 + (1 * m + 0))) gL (List.mem_of_getElem? (i := 1) rfl) rfl (by omega)) (hp_gLi (z := (0 + (1 * n + 0))) gL (List.mem_of_getElem? (i := 2) rfl) rfl (by omega)) (hp_gLi (z := (0 + ((-1) * z + (1 * n + 0)))) gL (List.mem_of_getElem? (i := 3) rfl) rfl (by omega)) (hp_gLi (z := (0 + 0)) gL (List.mem_of_getElem? (i := 4) rfl) rfl (by omega))
    cases hp
  · intro p_9 hp ys v_9 h_9' hys a1_9 a2 a3 gZ gS
    cases hp
theorem mw8_k : hp_chk 345 226 7 [(0, 0, 99), (1, 0, 1199), (2, 0, 28), (3, 0, 8), (4, 0, 27), (5, 0, 28), (6, 0, 8)] [] [(0, .inr (.inr (.inl (some 94)))), (1, .inl (0, [(0, 1)])), (2, .inl (0, [(1, 1)])), (3, .inl (0, [(4, 1)])), (4, .inl (0, [(5, 1)])), (5, .inl (0, [(6, 1)]))] [] [] [] 2 [(118, ([], 7, [(0, 0, 99), (1, 0, 1199), (2, 0, 28), (3, 0, 8), (4, 0, 27), (5, 0, 28), (6, 0, 8)], [], [(0, .inr (.inr (.inl (some 94)))), (1, .inl (0, [(0, 1)])), (2, .inl (0, [(1, 1)])), (3, .inl (1, [(4, 1)])), (4, .inl (1, [(5, 1)])), (5, .inl (1, [(6, 1)]))], [], []))] [] = true := by decide +kernel
theorem mw8 {cst : am_K} {strs : List Nat} {Φ : am_Q → Prop} {D : Nat} {M : am_M} {h : am_H} {l : am_L} (c : hp_C cst strs D) (hM : m_P[345]? = some M) (hD : (2 : Int) ≤ (D : Int) + 1) (hy : ly_hy m_tt ly_TH h) (m w z cm n i j : Int) (b0 : 0 ≤ m) (t0 : m ≤ 99) (b1 : 0 ≤ w) (t1 : w ≤ 1199) (b2 : 0 ≤ z) (t2 : z ≤ 28) (b3 : 0 ≤ cm) (t3 : cm ≤ 8) (b4 : 0 ≤ n) (t4 : n ≤ 27) (b5 : 0 ≤ i) (t5 : i ≤ 28) (b6 : 0 ≤ j) (t6 : j ≤ 8) (l0 : hp_a l 0 94) (l1 : hp_i l 1 (m)) (l2 : hp_i l 2 (w)) (l3 : hp_i l 3 (n)) (l4 : hp_i l 4 (i)) (l5 : hp_i l 5 (j)) (e0 : ∀ (l' : am_L) (h_9' : am_H), ly_hy m_tt ly_TH h_9' → ly_fr cst [] h h_9' → h.length ≤ h_9'.length → hp_a l' 0 94 → hp_i l' 1 (m) → hp_i l' 2 (w) → hp_i l' 3 (n + 1) → hp_i l' 4 (i + 1) → hp_i l' 5 (j + 1) → hp_F cst strs Φ D M 118 l' [] h_9') : hp_F cst strs Φ D M 226 l [] h := by
  refine hp_arc c hM mw8_k hD [m, w, z, cm, n, i, j] rfl hy (hp_Bc (z := m) rfl b0 t0 (hp_Bc (z := w) rfl b1 t1 (hp_Bc (z := z) rfl b2 t2 (hp_Bc (z := cm) rfl b3 t3 (hp_Bc (z := n) rfl b4 t4 (hp_Bc (z := i) rfl b5 t5 (hp_Bc (z := j) rfl b6 t6 hp_Bn))))))) hp_Fn hp_Kn (hp_La l0 (hp_Li (z := (0 + (1 * m + 0))) l1 rfl (by omega) (hp_Li (z := (0 + (1 * w + 0))) l2 rfl (by omega) (hp_Li (z := (0 + (1 * n + 0))) l3 rfl (by omega) (hp_Li (z := (0 + (1 * i + 0))) l4 rfl (by omega) (hp_Li (z := (0 + (1 * j + 0))) l5 rfl (by omega) hp_Ln)))))) trivial ?_ ?_
  · intro p_9 hp ys l' st_9' h_9' hys a1_9 a2 a3 gZ gL gS
    rcases List.mem_cons.mp hp with rfl | hp
    · obtain rfl := hp_y0 hys
      cases hp_gSn gS
      exact e0 l' h_9' a1_9 a2 a3 (hp_gLa gL (List.mem_of_getElem? (i := 0) rfl) (by decide)) (hp_gLi (z := (0 + (1 * m + 0))) gL (List.mem_of_getElem? (i := 1) rfl) rfl (by omega)) (hp_gLi (z := (0 + (1 * w + 0))) gL (List.mem_of_getElem? (i := 2) rfl) rfl (by omega)) (hp_gLi (z := (1 + (1 * n + 0))) gL (List.mem_of_getElem? (i := 3) rfl) rfl (by omega)) (hp_gLi (z := (1 + (1 * i + 0))) gL (List.mem_of_getElem? (i := 4) rfl) rfl (by omega)) (hp_gLi (z := (1 + (1 * j + 0))) gL (List.mem_of_getElem? (i := 5) rfl) rfl (by omega))
    cases hp
  · intro p_9 hp ys v_9 h_9' hys a1_9 a2 a3 gZ gS
    cases hp
theorem mw9_k : hp_chk 345 293 7 [(0, 0, 99), (1, 0, 1199), (2, 0, 28), (3, 0, 8), (4, 0, 27), (5, 0, 28), (6, 0, 8)] [] [(0, .inr (.inr (.inl (some 94)))), (1, .inl (0, [(0, 1)])), (2, .inl (0, [(1, 1)])), (3, .inl (0, [(4, 1)])), (4, .inl (0, [(5, 1)])), (5, .inl (0, [(6, 1)]))] [] [] [] 2 [(118, ([], 7, [(0, 0, 99), (1, 0, 1199), (2, 0, 28), (3, 0, 8), (4, 0, 27), (5, 0, 28), (6, 0, 8)], [], [(0, .inr (.inr (.inl (some 94)))), (1, .inl (0, [(0, 1)])), (2, .inl (0, [(1, 1)])), (3, .inl (1, [(4, 1)])), (4, .inl (0, [(5, 1)])), (5, .inl (1, [(6, 1)]))], [], []))] [] = true := by decide +kernel
theorem mw9 {cst : am_K} {strs : List Nat} {Φ : am_Q → Prop} {D : Nat} {M : am_M} {h : am_H} {l : am_L} (c : hp_C cst strs D) (hM : m_P[345]? = some M) (hD : (2 : Int) ≤ (D : Int) + 1) (hy : ly_hy m_tt ly_TH h) (m w z cm n i j : Int) (b0 : 0 ≤ m) (t0 : m ≤ 99) (b1 : 0 ≤ w) (t1 : w ≤ 1199) (b2 : 0 ≤ z) (t2 : z ≤ 28) (b3 : 0 ≤ cm) (t3 : cm ≤ 8) (b4 : 0 ≤ n) (t4 : n ≤ 27) (b5 : 0 ≤ i) (t5 : i ≤ 28) (b6 : 0 ≤ j) (t6 : j ≤ 8) (l0 : hp_a l 0 94) (l1 : hp_i l 1 (m)) (l2 : hp_i l 2 (w)) (l3 : hp_i l 3 (n)) (l4 : hp_i l 4 (i)) (l5 : hp_i l 5 (j)) (e0 : ∀ (l' : am_L) (h_9' : am_H), ly_hy m_tt ly_TH h_9' → ly_fr cst [] h h_9' → h.length ≤ h_9'.length → hp_a l' 0 94 → hp_i l' 1 (m) → hp_i l' 2 (w) → hp_i l' 3 (n + 1) → hp_i l' 4 (i) → hp_i l' 5 (j + 1) → hp_F cst strs Φ D M 118 l' [] h_9') : hp_F cst strs Φ D M 293 l [] h := by
  refine hp_arc c hM mw9_k hD [m, w, z, cm, n, i, j] rfl hy (hp_Bc (z := m) rfl b0 t0 (hp_Bc (z := w) rfl b1 t1 (hp_Bc (z := z) rfl b2 t2 (hp_Bc (z := cm) rfl b3 t3 (hp_Bc (z := n) rfl b4 t4 (hp_Bc (z := i) rfl b5 t5 (hp_Bc (z := j) rfl b6 t6 hp_Bn))))))) hp_Fn hp_Kn (hp_La l0 (hp_Li (z := (0 + (1 * m + 0))) l1 rfl (by omega) (hp_Li (z := (0 + (1 * w + 0))) l2 rfl (by omega) (hp_Li (z := (0 + (1 * n + 0))) l3 rfl (by omega) (hp_Li (z := (0 + (1 * i + 0))) l4 rfl (by omega) (hp_Li (z := (0 + (1 * j + 0))) l5 rfl (by omega) hp_Ln)))))) trivial ?_ ?_
  · intro p_9 hp ys l' st_9' h_9' hys a1_9 a2 a3 gZ gL gS
    rcases List.mem_cons.mp hp with rfl | hp
    · obtain rfl := hp_y0 hys
      cases hp_gSn gS
      exact e0 l' h_9' a1_9 a2 a3 (hp_gLa gL (List.mem_of_getElem? (i := 0) rfl) (by decide)) (hp_gLi (z := (0 + (1 * m + 0))) gL (List.mem_of_getElem? (i := 1) rfl) rfl (by omega)) (hp_gLi (z := (0 + (1 * w + 0))) gL (List.mem_of_getElem? (i := 2) rfl) rfl (by omega)) (hp_gLi (z := (1 + (1 * n + 0))) gL (List.mem_of_getElem? (i := 3) rfl) rfl (by omega)) (hp_gLi (z := (0 + (1 * i + 0))) gL (List.mem_of_getElem? (i := 4) rfl) rfl (by omega)) (hp_gLi (z := (1 + (1 * j + 0))) gL (List.mem_of_getElem? (i := 5) rfl) rfl (by omega))
    cases hp
  · intro p_9 hp ys v_9 h_9' hys a1_9 a2 a3 gZ gS
    cases hp
theorem mwa_k : hp_chk 345 321 7 [(0, 0, 99), (1, 0, 1199), (2, 0, 28), (3, 0, 8), (4, 0, 27), (5, 0, 28), (6, 0, 8)] [] [(0, .inr (.inr (.inl (some 94)))), (1, .inl (0, [(0, 1)])), (2, .inl (0, [(1, 1)])), (3, .inl (0, [(4, 1)])), (4, .inl (0, [(5, 1)])), (5, .inl (0, [(6, 1)]))] [] [] [] 2 [(118, ([], 7, [(0, 0, 99), (1, 0, 1199), (2, 0, 28), (3, 0, 8), (4, 0, 27), (5, 0, 28), (6, 0, 8)], [], [(0, .inr (.inr (.inl (some 94)))), (1, .inl (0, [(0, 1)])), (2, .inl (0, [(1, 1)])), (3, .inl (1, [(4, 1)])), (4, .inl (1, [(5, 1)])), (5, .inl (0, [(6, 1)]))], [], []))] [] = true := by decide +kernel
theorem mwa {cst : am_K} {strs : List Nat} {Φ : am_Q → Prop} {D : Nat} {M : am_M} {h : am_H} {l : am_L} (c : hp_C cst strs D) (hM : m_P[345]? = some M) (hD : (2 : Int) ≤ (D : Int) + 1) (hy : ly_hy m_tt ly_TH h) (m w z cm n i j : Int) (b0 : 0 ≤ m) (t0 : m ≤ 99) (b1 : 0 ≤ w) (t1 : w ≤ 1199) (b2 : 0 ≤ z) (t2 : z ≤ 28) (b3 : 0 ≤ cm) (t3 : cm ≤ 8) (b4 : 0 ≤ n) (t4 : n ≤ 27) (b5 : 0 ≤ i) (t5 : i ≤ 28) (b6 : 0 ≤ j) (t6 : j ≤ 8) (l0 : hp_a l 0 94) (l1 : hp_i l 1 (m)) (l2 : hp_i l 2 (w)) (l3 : hp_i l 3 (n)) (l4 : hp_i l 4 (i)) (l5 : hp_i l 5 (j)) (e0 : ∀ (l' : am_L) (h_9' : am_H), ly_hy m_tt ly_TH h_9' → ly_fr cst [] h h_9' → h.length ≤ h_9'.length → hp_a l' 0 94 → hp_i l' 1 (m) → hp_i l' 2 (w) → hp_i l' 3 (n + 1) → hp_i l' 4 (i + 1) → hp_i l' 5 (j) → hp_F cst strs Φ D M 118 l' [] h_9') : hp_F cst strs Φ D M 321 l [] h := by
  refine hp_arc c hM mwa_k hD [m, w, z, cm, n, i, j] rfl hy (hp_Bc (z := m) rfl b0 t0 (hp_Bc (z := w) rfl b1 t1 (hp_Bc (z := z) rfl b2 t2 (hp_Bc (z := cm) rfl b3 t3 (hp_Bc (z := n) rfl b4 t4 (hp_Bc (z := i) rfl b5 t5 (hp_Bc (z := j) rfl b6 t6 hp_Bn))))))) hp_Fn hp_Kn (hp_La l0 (hp_Li (z := (0 + (1 * m + 0))) l1 rfl (by omega) (hp_Li (z := (0 + (1 * w + 0))) l2 rfl (by omega) (hp_Li (z := (0 + (1 * n + 0))) l3 rfl (by omega) (hp_Li (z := (0 + (1 * i + 0))) l4 rfl (by omega) (hp_Li (z := (0 + (1 * j + 0))) l5 rfl (by omega) hp_Ln)))))) trivial ?_ ?_
  · intro p_9 hp ys l' st_9' h_9' hys a1_9 a2 a3 gZ gL gS
    rcases List.mem_cons.mp hp with rfl | hp
    · obtain rfl := hp_y0 hys
      cases hp_gSn gS
      exact e0 l' h_9' a1_9 a2 a3 (hp_gLa gL (List.mem_of_getElem? (i := 0) rfl) (by decide)) (hp_gLi (z := (0 + (1 * m + 0))) gL (List.mem_of_getElem? (i := 1) rfl) rfl (by omega)) (hp_gLi (z := (0 + (1 * w + 0))) gL (List.mem_of_getElem? (i := 2) rfl) rfl (by omega)) (hp_gLi (z := (1 + (1 * n + 0))) gL (List.mem_of_getElem? (i := 3) rfl) rfl (by omega)) (hp_gLi (z := (1 + (1 * i + 0))) gL (List.mem_of_getElem? (i := 4) rfl) rfl (by omega)) (hp_gLi (z := (0 + (1 * j + 0))) gL (List.mem_of_getElem? (i := 5) rfl) rfl (by omega))
    cases hp
  · intro p_9 hp ys v_9 h_9' hys a1_9 a2 a3 gZ gS
    cases hp
theorem mwb_k : hp_chk 345 343 5 [(0, 0, 99), (1, 0, 28), (2, (-28), 28), (3, 0, 27), (4, (-9223372036854775808), 9223372036854775807)] [((-1), [(1, 1), (3, (-1))])] [(0, .inr (.inr (.inl (some 94)))), (1, .inl (0, [(0, 1)])), (3, .inl (0, [(1, 1)])), (6, .inl (0, [(2, 1)])), (7, .inl (0, [(3, 1)]))] [] [(33024, (3000, [(3, 1)]), (0, [(4, 1)]))] [] 2 [(371, ([], 5, [(0, 0, 99), (1, 0, 28), (2, (-28), 28), (3, 0, 27), (4, (-9223372036854775808), 9223372036854775807)], [], [(0, .inr (.inr (.inl (some 94)))), (1, .inl (0, [(0, 1)])), (3, .inl (0, [(1, 1)])), (6, .inl (0, [(2, 1)])), (7, .inl (0, [(3, 1)]))], [.inr (.inl (0, [(4, 1)])), .inl (0, [(0, 30), (3, 1)]), .inr (.inr (.inl (some 145)))], []))] [] = true := by decide +kernel
theorem mwb {cst : am_K} {strs : List Nat} {Φ : am_Q → Prop} {D : Nat} {M : am_M} {h : am_H} {l : am_L} (c : hp_C cst strs D) (hM : m_P[345]? = some M) (hD : (2 : Int) ≤ (D : Int) + 1) (hy : ly_hy m_tt ly_TH h) (m n p k u : Int) (b0 : 0 ≤ m) (t0 : m ≤ 99) (b1 : 0 ≤ n) (t1 : n ≤ 28) (b2 : (-28) ≤ p) (t2 : p ≤ 28) (b3 : 0 ≤ k) (t3 : k ≤ 27) (b4 : (-9223372036854775808) ≤ u) (t4 : u ≤ 9223372036854775807) (f0 : 0 ≤ (n - k - 1)) (k0 : ly_hv cst h 33024 (k + 3000) = some (u)) (l0 : hp_a l 0 94) (l1 : hp_i l 1 (m)) (l3 : hp_i l 3 (n)) (l6 : hp_i l 6 (p)) (l7 : hp_i l 7 (k)) (e0 : ∀ (l' : am_L) (h_9' : am_H) (y0 : Int64) (y1 : Int32), y0.toInt = (u) → y1.toInt = (30 * m + k) → ly_hy m_tt ly_TH h_9' → ly_fr cst [] h h_9' → h.length ≤ h_9'.length → hp_a l' 0 94 → hp_i l' 1 (m) → hp_i l' 3 (n) → hp_i l' 6 (p) → hp_i l' 7 (k) → hp_F cst strs Φ D M 371 l' [.long y0, .int y1, .ref 145] h_9') : hp_F cst strs Φ D M 343 l [] h := by
  refine hp_arc c hM mwb_k hD [m, n, p, k, u] rfl hy (hp_Bc (z := m) rfl b0 t0 (hp_Bc (z := n) rfl b1 t1 (hp_Bc (z := p) rfl b2 t2 (hp_Bc (z := k) rfl b3 t3 (hp_Bc (z := u) rfl b4 t4 hp_Bn))))) (hp_Fc (z := ((-1) + (1 * n + ((-1) * k + 0)))) rfl (by omega) hp_Fn) (hp_Kc (zi := (3000 + (1 * k + 0))) (zv := (0 + (1 * u + 0))) k0 rfl rfl (by omega) (by omega) hp_Kn) (hp_La l0 (hp_Li (z := (0 + (1 * m + 0))) l1 rfl (by omega) (hp_Li (z := (0 + (1 * n + 0))) l3 rfl (by omega) (hp_Li (z := (0 + (1 * p + 0))) l6 rfl (by omega) (hp_Li (z := (0 + (1 * k + 0))) l7 rfl (by omega) hp_Ln))))) trivial ?_ ?_
  · intro p hp ys l' st_9' h_9' hys a1_9 a2 a3 gZ gL gS
    rcases List.mem_cons.mp hp with rfl | hp
    · obtain rfl := hp_y0 hys
      obtain ⟨y0, t0, rfl, q0, g0⟩ := hp_gSj (z := (0 + (1 * u + 0))) gS rfl
      obtain ⟨y1, t1, rfl, q1_9, g1⟩ := hp_gSi (z := (0 + (30 * m + (1 * k + 0)))) g0 rfl
      obtain ⟨t2, rfl, g2⟩ := hp_gSa g1 (by decide)
      cases hp_gSn g2
      exact e0 l' h_9' y0 y1 (by omega) (by omega) a1_9 a2 a3 (hp_gLa gL (List.mem_of_getElem? (i := 0) rfl) (by decide)) (hp_gLi (z := (0 + (1 * m + 0))) gL (List.mem_of_getElem? (i := 1) rfl) rfl (by omega)) (hp_gLi (z := (0 + (1 * n + 0))) gL (List.mem_of_getElem? (i := 2) rfl) rfl (by omega)) (hp_gLi (z := (0 + (1 * p + 0))) gL (List.mem_of_getElem? (i := 3) rfl) rfl (by omega)) (hp_gLi (z := (0 + (1 * k + 0))) gL (List.mem_of_getElem? (i := 4) rfl) rfl (by omega))
    cases hp
  · intro p hp ys v_9 h_9' hys a1_9 a2 a3 gZ gS
    cases hp
theorem mwc_k : hp_chk 345 372 4 [(0, 0, 99), (1, 0, 28), (2, (-28), 28), (3, 0, 27)] [] [(0, .inr (.inr (.inl (some 94)))), (1, .inl (0, [(0, 1)])), (3, .inl (0, [(1, 1)])), (6, .inl (0, [(2, 1)])), (7, .inl (0, [(3, 1)]))] [] [] [] 2 [(343, ([], 4, [(0, 0, 99), (1, 0, 28), (2, (-28), 28), (3, 0, 27)], [], [(0, .inr (.inr (.inl (some 94)))), (1, .inl (0, [(0, 1)])), (3, .inl (0, [(1, 1)])), (6, .inl (0, [(2, 1)])), (7, .inl (1, [(3, 1)]))], [], []))] [] = true := by decide +kernel
theorem mwc {cst : am_K} {strs : List Nat} {Φ : am_Q → Prop} {D : Nat} {M : am_M} {h : am_H} {l : am_L} (c : hp_C cst strs D) (hM : m_P[345]? = some M) (hD : (2 : Int) ≤ (D : Int) + 1) (hy : ly_hy m_tt ly_TH h) (m n p k : Int) (b0 : 0 ≤ m) (t0 : m ≤ 99) (b1 : 0 ≤ n) (t1 : n ≤ 28) (b2 : (-28) ≤ p) (t2 : p ≤ 28) (b3 : 0 ≤ k) (t3 : k ≤ 27) (l0 : hp_a l 0 94) (l1 : hp_i l 1 (m)) (l3 : hp_i l 3 (n)) (l6 : hp_i l 6 (p)) (l7 : hp_i l 7 (k)) (e0 : ∀ (l' : am_L) (h_9' : am_H), ly_hy m_tt ly_TH h_9' → ly_fr cst [] h h_9' → h.length ≤ h_9'.length → hp_a l' 0 94 → hp_i l' 1 (m) → hp_i l' 3 (n) → hp_i l' 6 (p) → hp_i l' 7 (k + 1) → hp_F cst strs Φ D M 343 l' [] h_9') : hp_F cst strs Φ D M 372 l [] h := by
  refine hp_arc c hM mwc_k hD [m, n, p, k] rfl hy (hp_Bc (z := m) rfl b0 t0 (hp_Bc (z := n) rfl b1 t1 (hp_Bc (z := p) rfl b2 t2 (hp_Bc (z := k) rfl b3 t3 hp_Bn)))) hp_Fn hp_Kn (hp_La l0 (hp_Li (z := (0 + (1 * m + 0))) l1 rfl (by omega) (hp_Li (z := (0 + (1 * n + 0))) l3 rfl (by omega) (hp_Li (z := (0 + (1 * p + 0))) l6 rfl (by omega) (hp_Li (z := (0 + (1 * k + 0))) l7 rfl (by omega) hp_Ln))))) trivial ?_ ?_
  · intro p hp ys l' st_9' h_9' hys a1_9 a2 a3 gZ gL gS
    rcases List.mem_cons.mp hp with rfl | hp
    · obtain rfl := hp_y0 hys
      cases hp_gSn gS
      exact e0 l' h_9' a1_9 a2 a3 (hp_gLa gL (List.mem_of_getElem? (i := 0) rfl) (by decide)) (hp_gLi (z := (0 + (1 * m + 0))) gL (List.mem_of_getElem? (i := 1) rfl) rfl (by omega)) (hp_gLi (z := (0 + (1 * n + 0))) gL (List.mem_of_getElem? (i := 2) rfl) rfl (by omega)) (hp_gLi (z := (0 + (1 * p + 0))) gL (List.mem_of_getElem? (i := 3) rfl) rfl (by omega)) (hp_gLi (z := (1 + (1 * k + 0))) gL (List.mem_of_getElem? (i := 4) rfl) rfl (by omega))
    cases hp
  · intro p hp ys v_9 h_9' hys a1_9 a2 a3 gZ gS
    cases hp
theorem mwd_k : hp_chk 345 343 3 [(0, 0, 99), (1, 0, 28), (2, (-28), 28)] [] [(0, .inr (.inr (.inl (some 94)))), (1, .inl (0, [(0, 1)])), (3, .inl (0, [(1, 1)])), (6, .inl (0, [(2, 1)])), (7, .inl (0, [(1, 1)]))] [] [] [] 2 [(384, ([], 3, [(0, 0, 99), (1, 0, 28), (2, (-28), 28)], [], [(0, .inr (.inr (.inl (some 94)))), (1, .inl (0, [(0, 1)])), (3, .inl (0, [(1, 1)])), (6, .inl (0, [(2, 1)])), (7, .inl (0, [(1, 1)]))], [.inl (0, [(1, 1)]), .inl (0, [(0, 1)]), .inr (.inr (.inl (some 146)))], []))] [] = true := by decide +kernel
theorem mwd {cst : am_K} {strs : List Nat} {Φ : am_Q → Prop} {D : Nat} {M : am_M} {h : am_H} {l : am_L} (c : hp_C cst strs D) (hM : m_P[345]? = some M) (hD : (2 : Int) ≤ (D : Int) + 1) (hy : ly_hy m_tt ly_TH h) (m n p : Int) (b0 : 0 ≤ m) (t0 : m ≤ 99) (b1 : 0 ≤ n) (t1 : n ≤ 28) (b2 : (-28) ≤ p) (t2 : p ≤ 28) (l0 : hp_a l 0 94) (l1 : hp_i l 1 (m)) (l3 : hp_i l 3 (n)) (l6 : hp_i l 6 (p)) (l7 : hp_i l 7 (n)) (e0 : ∀ (l' : am_L) (h_9' : am_H) (y0 : Int32) (y1 : Int32), y0.toInt = (n) → y1.toInt = (m) → ly_hy m_tt ly_TH h_9' → ly_fr cst [] h h_9' → h.length ≤ h_9'.length → hp_a l' 0 94 → hp_i l' 1 (m) → hp_i l' 3 (n) → hp_i l' 6 (p) → hp_i l' 7 (n) → hp_F cst strs Φ D M 384 l' [.int y0, .int y1, .ref 146] h_9') : hp_F cst strs Φ D M 343 l [] h := by
  refine hp_arc c hM mwd_k hD [m, n, p] rfl hy (hp_Bc (z := m) rfl b0 t0 (hp_Bc (z := n) rfl b1 t1 (hp_Bc (z := p) rfl b2 t2 hp_Bn))) hp_Fn hp_Kn (hp_La l0 (hp_Li (z := (0 + (1 * m + 0))) l1 rfl (by omega) (hp_Li (z := (0 + (1 * n + 0))) l3 rfl (by omega) (hp_Li (z := (0 + (1 * p + 0))) l6 rfl (by omega) (hp_Li (z := (0 + (1 * n + 0))) l7 rfl (by omega) hp_Ln))))) trivial ?_ ?_
  · intro p hp ys l' st_9' h_9' hys a1_9 a2 a3 gZ gL gS
    rcases List.mem_cons.mp hp with rfl | hp
    · obtain rfl := hp_y0 hys
      obtain ⟨y0, t0, rfl, q0, g0⟩ := hp_gSi (z := (0 + (1 * n + 0))) gS rfl
      obtain ⟨y1, t1, rfl, q1_9, g1⟩ := hp_gSi (z := (0 + (1 * m + 0))) g0 rfl
      obtain ⟨t2, rfl, g2⟩ := hp_gSa g1 (by decide)
      cases hp_gSn g2
      exact e0 l' h_9' y0 y1 (by omega) (by omega) a1_9 a2 a3 (hp_gLa gL (List.mem_of_getElem? (i := 0) rfl) (by decide)) (hp_gLi (z := (0 + (1 * m + 0))) gL (List.mem_of_getElem? (i := 1) rfl) rfl (by omega)) (hp_gLi (z := (0 + (1 * n + 0))) gL (List.mem_of_getElem? (i := 2) rfl) rfl (by omega)) (hp_gLi (z := (0 + (1 * p + 0))) gL (List.mem_of_getElem? (i := 3) rfl) rfl (by omega)) (hp_gLi (z := (0 + (1 * n + 0))) gL (List.mem_of_getElem? (i := 4) rfl) rfl (by omega))
    cases hp
  · intro p hp ys v_9 h_9' hys a1_9 a2 a3 gZ gS
    cases hp
theorem mwe_k : hp_chk 345 385 3 [(0, 0, 99), (1, 0, 28), (2, (-28), 28)] [] [(0, .inr (.inr (.inl (some 94)))), (1, .inl (0, [(0, 1)])), (3, .inl (0, [(1, 1)])), (6, .inl (0, [(2, 1)])), (7, .inl (0, [(1, 1)]))] [] [] [] 2 [] [([], 3, [(0, 0, 99), (1, 0, 28), (2, (-28), 28)], [], [], [.inl (0, [(2, 1)])], [])] = true := by decide +kernel
theorem mwe {cst : am_K} {strs : List Nat} {Φ : am_Q → Prop} {D : Nat} {M : am_M} {h : am_H} {l : am_L} (c : hp_C cst strs D) (hM : m_P[345]? = some M) (hD : (2 : Int) ≤ (D : Int) + 1) (hy : ly_hy m_tt ly_TH h) (m n p : Int) (b0 : 0 ≤ m) (t0 : m ≤ 99) (b1 : 0 ≤ n) (t1 : n ≤ 28) (b2 : (-28) ≤ p) (t2 : p ≤ 28) (l0 : hp_a l 0 94) (l1 : hp_i l 1 (m)) (l3 : hp_i l 3 (n)) (l6 : hp_i l 6 (p)) (l7 : hp_i l 7 (n)) (r0 : ∀ (h_9' : am_H) (y0 : Int32), y0.toInt = (p) → ly_hy m_tt ly_TH h_9' → ly_fr cst [] h h_9' → h.length ≤ h_9'.length → Φ (some (.int y0), h_9', 0, 0)) : hp_F cst strs Φ D M 385 l [] h := by
  refine hp_arc c hM mwe_k hD [m, n, p] rfl hy (hp_Bc (z := m) rfl b0 t0 (hp_Bc (z := n) rfl b1 t1 (hp_Bc (z := p) rfl b2 t2 hp_Bn))) hp_Fn hp_Kn (hp_La l0 (hp_Li (z := (0 + (1 * m + 0))) l1 rfl (by omega) (hp_Li (z := (0 + (1 * n + 0))) l3 rfl (by omega) (hp_Li (z := (0 + (1 * p + 0))) l6 rfl (by omega) (hp_Li (z := (0 + (1 * n + 0))) l7 rfl (by omega) hp_Ln))))) trivial ?_ ?_
  · intro p hp ys l' st_9' h_9' hys a1_9 a2 a3 gZ gL gS
    cases hp
  · intro p hp ys v_9 h_9' hys a1_9 a2 a3 gZ gS
    rcases List.mem_cons.mp hp with rfl | hp
    · obtain rfl := hp_y0 hys
      cases v_9 with
      | none => cases gS
      | some wz =>
        obtain ⟨y0, t0, s0_9, q0, -⟩ := hp_gSi (z := (0 + (1 * p + 0))) gS rfl
        cases s0_9
        exact r0 h_9' y0 (by omega) a1_9 a2 a3
    cases hp
/-- the table of words that both have, from (i, j) on -/
def lcT (cst : am_K) (h : am_H) (row ws : List Int) (i j : Int) : Prop := ∀ (a b : Nat), a ≤ row.length → b ≤ ws.length → (i < (a : Int) ∨ ((a : Int) = i ∧ j < (b : Int))) → ly_hv cst h 37376 (9 * (a : Int) + (b : Int)) = some (lc9 (row.drop a) (ws.drop b) : Int)
theorem wL_mv {cst : am_K} {h h' : am_H} {w a t : Int} {ws : List Int} {ms : List Nat} (L : wL cst h w a t ws) (fr : ly_fr cst ms h h') (q1 : ly_has 62040 ms = false) (q2 : ly_has 24576 ms = false) (q3 : ly_has 24320 ms = false) (q4 : ly_has 27136 ms = false) : wL cst h' w a t ws := by
  obtain ⟨w0_9, w1_9, a0_9, a1_9, t0_9, t1_9, w8, k1_9, k2_9, k3_9, kw⟩ := L
  exact ⟨w0_9, w1_9, a0_9, a1_9, t0_9, t1_9, w8, fr _ _ _ q1 k1_9, fr _ _ _ q2 k2_9, fr _ _ _ q3 k3_9, fun k_9 hk => ⟨fr _ _ _ q4 (kw k_9 hk).1, (kw k_9 hk).2⟩⟩
theorem lc9_l (xs ys : List Int) : lc9 xs ys ≤ xs.length ∧ lc9 xs ys ≤ ys.length := lc9_le _ xs ys (Nat.le_refl _)
/-- makeBoth -/
theorem my_run {cst : am_K} {strs : List Nat} {D : Nat} {h0 : am_H} (cc : ∀ d_9, hp_C cst strs d_9) (hD : 4 ≤ D) (hy0 : ly_hy m_tt ly_TH h0) {m w ac t : Int} (m0 : 0 ≤ m) (m1 : m ≤ 99) {row ws : List Int} (RW : wM cst h0 m row) (L : wL cst h0 w ac t ws) (t401 : t ≤ 401) {xm xw : Int32} (em : xm.toInt = m) (ew : xw.toInt = w) :
    ∃ r_9, am_Run cst m_cl m_tt m_P strs sx_bi (D + 1) 346 [.ref 94, .int xm, .int xw] h0 r_9 ∧ (fun r_9 : am_Q => r_9.1 = none ∧ r_9.2.2.1 = 0 ∧ r_9.2.2.2 = 0 ∧ ly_hy m_tt ly_TH r_9.2.1 ∧ ly_fr cst [37376] h0 r_9.2.1 ∧ ∀ (a_9 b_9 : Nat), a_9 ≤ row.length → b_9 ≤ ws.length → ly_hv cst r_9.2.1 37376 (9 * (a_9 : Int) + (b_9 : Int)) = some (lc9 (row.drop a_9) (ws.drop b_9) : Int)) r_9 := by
  obtain ⟨M_9, hM_9, hl⟩ := hp_M (mi := 346) (k := 3) (by decide +kernel)
  have c_9 : hp_C cst strs D := cc _
  obtain ⟨n28_9, kn_9, kr⟩ := RW
  obtain ⟨w0_9, w1_9, a0_9, a1_9, t0_9, t1_9, w8, k1_9, k2_9, k3_9, kw⟩ := L
  -- behind a_9 store: at pc 62, 106, 160
  have fin_9 : ∀ (i_9 j_9 : Nat) (v_9 : Int) (h_9 h2 : am_H), i_9 ≤ row.length → j_9 ≤ ws.length → v_9 = (lc9 (row.drop i_9) (ws.drop j_9) : Int) → ly_fr cst [37376] h0 h_9 → lcT cst h_9 row ws (i_9 : Int) (j_9 : Int) → hp_put cst 37376 (9 * (i_9 : Int) + (j_9 : Int)) v_9 h_9 h2 → ∀ h3, ly_fr cst [] h2 h3 → ly_fr cst [37376] h0 h3 ∧ lcT cst h3 row ws (i_9 : Int) ((j_9 : Int) - 1) := by
    intro i_9 j_9 v_9 h_9 h2 hi_9 hj ev_9 fr_9 T x3 h3 u2_9
    refine ⟨ly_fr_tr fr_9 (ly_fr_tr (hp_put_fr rfl x3) (hp_sub2 rfl u2_9)), fun a_9 b_9 ha_9 hb_9 hab => u2_9 _ _ _ rfl ?_⟩
    by_cases z_9 : a_9 = i_9 ∧ b_9 = j_9
    · rw [z_9.1, z_9.2, ← ev_9]
      exact x3.1
    · rw [x3.2 _ _ (Or.inr (by omega))]
      exact T a_9 b_9 ha_9 hb_9 (by omega)
  have inner_9 : ∀ (Q_9 : Nat) (h_9 : am_H) (l : am_L) (i_9 : Nat), i_9 ≤ row.length → (Q_9 : Int) - 1 ≤ (ws.length : Int) → ly_hy m_tt ly_TH h_9 → ly_fr cst [37376] h0 h_9 → lcT cst h_9 row ws (i_9 : Int) ((Q_9 : Int) - 1) → hp_a l 0 94 → hp_i l 1 m → hp_i l 2 w → hp_i l 3 (i_9 : Int) → hp_i l 4 ((Q_9 : Int) - 1) → (∀ (l3 : am_L) (h3 : am_H), ly_hy m_tt ly_TH h3 → ly_fr cst [37376] h0 h3 → lcT cst h3 row ws (i_9 : Int) (-1) → hp_a l3 0 94 → hp_i l3 1 m → hp_i l3 2 w → hp_i l3 3 ((i_9 : Int) - 1) → hp_F cst strs (fun r_9 : am_Q => r_9.1 = none ∧ r_9.2.2.1 = 0 ∧ r_9.2.2.2 = 0 ∧ ly_hy m_tt ly_TH r_9.2.1 ∧ ly_fr cst [37376] h0 r_9.2.1 ∧ ∀ (a_9 b_9 : Nat), a_9 ≤ row.length → b_9 ≤ ws.length → ly_hv cst r_9.2.1 37376 (9 * (a_9 : Int) + (b_9 : Int)) = some (lc9 (row.drop a_9) (ws.drop b_9) : Int)) D M_9 7 l3 [] h3) → hp_F cst strs (fun r_9 : am_Q => r_9.1 = none ∧ r_9.2.2.1 = 0 ∧ r_9.2.2.2 = 0 ∧ ly_hy m_tt ly_TH r_9.2.1 ∧ ly_fr cst [37376] h0 r_9.2.1 ∧ ∀ (a_9 b_9 : Nat), a_9 ≤ row.length → b_9 ≤ ws.length → ly_hv cst r_9.2.1 37376 (9 * (a_9 : Int) + (b_9 : Int)) = some (lc9 (row.drop a_9) (ws.drop b_9) : Int)) D M_9 19 l [] h_9 := by
    intro Q_9
    induction Q_9 with
    | zero =>
      intro h_9 l i_9 hi_9 hq hy fr_9 T l0 l1 l2 l3 l4 k_9
      exact myE c_9 hM_9 (by omega) hy m w (i_9 : Int) m0 m1 w0_9 w1_9 (by omega) (by omega) l0 l1 l2 l3 l4 (fun l3' h3 u1_9 u2_9 u3 g0 g1 g2 g3_9 => k_9 l3' h3 u1_9 (ly_fr_tr fr_9 (hp_sub2 rfl u2_9)) (fun a_9 b_9 ha_9 hb_9 hab => u2_9 _ _ _ rfl (T a_9 b_9 ha_9 hb_9 (by omega))) g0 g1 g2 g3_9)
    | succ Q_9 ih_9 =>
      intro h_9 l i_9 hi_9 hq hy fr_9 T l0 l1 l2 l3 l4 k_9
      have eq_9 : ((Q_9 + 1 : Nat) : Int) - 1 = (Q_9 : Int) := by omega
      rw [eq_9] at hq T l4
      have lb := lc9_l (row.drop i_9) (ws.drop Q_9)
      rw [List.length_drop, List.length_drop] at lb
      -- the store, then on
      have nx : ∀ (pc : Nat) (v_9 : Int) (l4' : am_L) (h4 : am_H) (z0 z1 : Int32), (pc = 61 ∨ pc = 105 ∨ pc = 159) → z0.toInt = v_9 → z1.toInt = 9 * (i_9 : Int) + (Q_9 : Int) → v_9 = (lc9 (row.drop i_9) (ws.drop Q_9) : Int) → ly_hy m_tt ly_TH h4 → ly_fr cst [] h_9 h4 → hp_a l4' 0 94 → hp_i l4' 1 m → hp_i l4' 2 w → hp_i l4' 3 (i_9 : Int) → hp_i l4' 4 (Q_9 : Int) → hp_F cst strs (fun r_9 : am_Q => r_9.1 = none ∧ r_9.2.2.1 = 0 ∧ r_9.2.2.2 = 0 ∧ ly_hy m_tt ly_TH r_9.2.1 ∧ ly_fr cst [37376] h0 r_9.2.1 ∧ ∀ (a_9 b_9 : Nat), a_9 ≤ row.length → b_9 ≤ ws.length → ly_hv cst r_9.2.1 37376 (9 * (a_9 : Int) + (b_9 : Int)) = some (lc9 (row.drop a_9) (ws.drop b_9) : Int)) D M_9 pc l4' [.int z0, .int z1, .ref 162] h4 := by
        intro pc v_9 l4' h4 z0 z1 hpc e0_9 e1_9 ev_9 u1_9 u2_9 g0 g1 g2 g3_9 g4
        have F4 : ly_fr cst [37376] h0 h4 := ly_fr_tr fr_9 (hp_sub2 rfl u2_9)
        have T4 : lcT cst h4 row ws (i_9 : Int) (Q_9 : Int) := fun a_9 b_9 ha_9 hb_9 hab => u2_9 _ _ _ rfl (T a_9 b_9 ha_9 hb_9 hab)
        rcases hpc with rfl | rfl | rfl
        · refine hp_st (c := 146) hM_9 (by decide +kernel) u1_9 (show ly_ths ly_TH 146 = some (.inl (.int, 270, 0, 8)) from rfl) rfl (by omega) (by omega) (by omega) (by omega) (fun h5 x1_9 x2_9 x3 => ?_)
          rw [e0_9, e1_9] at x3
          have x3 : hp_put cst 37376 (9 * (i_9 : Int) + (Q_9 : Int)) v_9 h4 h5 := x3
          exact myF1 c_9 hM_9 (by omega) x1_9 m w (i_9 : Int) (Q_9 : Int) m0 m1 w0_9 w1_9 (by omega) (by omega) (by omega) (by omega) g0 g1 g2 g3_9 g4 (fun l6 h6 v1_9 v2 v3 o0_9 o1 o2 o3_9 o4_9 => by
            obtain ⟨f1_9, f2_9⟩ := fin_9 i_9 Q_9 v_9 h4 h5 hi_9 (by omega) ev_9 F4 T4 x3 h6 v2
            exact ih_9 h6 l6 i_9 hi_9 (by omega) v1_9 f1_9 f2_9 o0_9 o1 o2 o3_9 o4_9 k_9)
        · refine hp_st (c := 146) hM_9 (by decide +kernel) u1_9 (show ly_ths ly_TH 146 = some (.inl (.int, 270, 0, 8)) from rfl) rfl (by omega) (by omega) (by omega) (by omega) (fun h5 x1_9 x2_9 x3 => ?_)
          rw [e0_9, e1_9] at x3
          have x3 : hp_put cst 37376 (9 * (i_9 : Int) + (Q_9 : Int)) v_9 h4 h5 := x3
          exact myF2 c_9 hM_9 (by omega) x1_9 m w (i_9 : Int) (Q_9 : Int) m0 m1 w0_9 w1_9 (by omega) (by omega) (by omega) (by omega) g0 g1 g2 g3_9 g4 (fun l6 h6 v1_9 v2 v3 o0_9 o1 o2 o3_9 o4_9 => by
            obtain ⟨f1_9, f2_9⟩ := fin_9 i_9 Q_9 v_9 h4 h5 hi_9 (by omega) ev_9 F4 T4 x3 h6 v2
            exact ih_9 h6 l6 i_9 hi_9 (by omega) v1_9 f1_9 f2_9 o0_9 o1 o2 o3_9 o4_9 k_9)
        · refine hp_st (c := 146) hM_9 (by decide +kernel) u1_9 (show ly_ths ly_TH 146 = some (.inl (.int, 270, 0, 8)) from rfl) rfl (by omega) (by omega) (by omega) (by omega) (fun h5 x1_9 x2_9 x3 => ?_)
          rw [e0_9, e1_9] at x3
          have x3 : hp_put cst 37376 (9 * (i_9 : Int) + (Q_9 : Int)) v_9 h4 h5 := x3
          exact myF3 c_9 hM_9 (by omega) x1_9 m w (i_9 : Int) (Q_9 : Int) m0 m1 w0_9 w1_9 (by omega) (by omega) (by omega) (by omega) g0 g1 g2 g3_9 g4 (fun l6 h6 v1_9 v2 v3 o0_9 o1 o2 o3_9 o4_9 => by
            obtain ⟨f1_9, f2_9⟩ := fin_9 i_9 Q_9 v_9 h4 h5 hi_9 (by omega) ev_9 F4 T4 x3 h6 v2
            exact ih_9 h6 l6 i_9 hi_9 (by omega) v1_9 f1_9 f2_9 o0_9 o1 o2 o3_9 o4_9 k_9)
      have kn_9' := fr_9 _ _ _ rfl kn_9
      have k2_9' := fr_9 _ _ _ rfl k2_9
      by_cases q2_9 : i_9 = row.length
      · rw [q2_9] at l3 nx
        refine myA1 c_9 hM_9 (by omega) hy m w (row.length : Int) (Q_9 : Int) m0 m1 w0_9 w1_9 (by omega) (by omega) (by omega) (by omega) kn_9' l0 l1 l2 l3 l4 (fun l4' h4 z0 z1 e0_9 e1_9 u1_9 u2_9 u3 g0 g1 g2 g3_9 g4 => nx 61 0 l4' h4 z0 z1 (Or.inl rfl) e0_9 e1_9 ?_ u1_9 u2_9 g0 g1 g2 g3_9 g4)
        rw [List.drop_eq_nil_of_le (Nat.le_refl _), lc9_n]
        rfl
      have hi_9' : i_9 < row.length := by omega
      by_cases q1_9 : Q_9 = ws.length
      · rw [q1_9] at l4 nx
        refine myA2 c_9 hM_9 (by omega) hy m w (row.length : Int) (ws.length : Int) (i_9 : Int) m0 m1 w0_9 w1_9 (by omega) (by omega) (by omega) (by omega) (by omega) (by omega) (by omega) kn_9' k2_9' l0 l1 l2 l3 l4 (fun l4' h4 z0 z1 e0_9 e1_9 u1_9 u2_9 u3 g0 g1 g2 g3_9 g4 => nx 61 0 l4' h4 z0 z1 (Or.inl rfl) e0_9 e1_9 ?_ u1_9 u2_9 g0 g1 g2 g3_9 g4)
        rw [List.drop_eq_nil_of_le (Nat.le_refl ws.length), lc9_0]
        rfl
      have qw : Q_9 < ws.length := by omega
      obtain ⟨kx, x0_9, x1_9⟩ := kr i_9 hi_9'
      have kx := fr_9 _ _ _ rfl kx
      obtain ⟨kz, b0, b1⟩ := kw Q_9 qw
      have kz := fr_9 _ _ _ rfl kz
      have r1_9 := T (i_9 + 1) (Q_9 + 1) (by omega) (by omega) (by omega)
      have r2 := T (i_9 + 1) Q_9 (by omega) (by omega) (by omega)
      have r3 := T i_9 (Q_9 + 1) (by omega) (by omega) (by omega)
      rw [show 9 * ((i_9 + 1 : Nat) : Int) + ((Q_9 + 1 : Nat) : Int) = 9 * (i_9 : Int) + (Q_9 : Int) + 10 by omega] at r1_9
      rw [show 9 * ((i_9 + 1 : Nat) : Int) + (Q_9 : Int) = 9 * (i_9 : Int) + (Q_9 : Int) + 9 by omega] at r2
      rw [show 9 * (i_9 : Int) + ((Q_9 + 1 : Nat) : Int) = 9 * (i_9 : Int) + (Q_9 : Int) + 1 by omega] at r3
      have p1_9 := lc9_l (row.drop (i_9 + 1)) (ws.drop (Q_9 + 1))
      have p2_9 := lc9_l (row.drop (i_9 + 1)) (ws.drop Q_9)
      have p3_9 := lc9_l (row.drop i_9) (ws.drop (Q_9 + 1))
      rw [List.length_drop, List.length_drop] at p1_9 p2_9 p3_9
      have pm := lc9_c (row[i_9]) (ws[Q_9]) (row.drop (i_9 + 1)) (ws.drop (Q_9 + 1))
      rw [← List.drop_eq_getElem_cons hi_9', ← List.drop_eq_getElem_cons qw] at pm
      by_cases q_9 : row[i_9] = ws[Q_9]
      · rw [← q_9] at kz
        rw [if_pos q_9] at pm
        exact myC c_9 hM_9 (by omega) hy m w (row.length : Int) (ws.length : Int) (i_9 : Int) (Q_9 : Int) ac t (row[i_9]) (lc9 (row.drop (i_9 + 1)) (ws.drop (Q_9 + 1)) : Int) m0 m1 w0_9 w1_9 (by omega) (by omega) (by omega) (by omega) (by omega) (by omega) (by omega) (by omega) a0_9 a1_9 t0_9 t401 x0_9 x1_9 (by omega) (by omega) (by omega) (by omega) (by omega) kn_9' k2_9' (fr_9 _ _ _ rfl k1_9) (fr_9 _ _ _ rfl k3_9) kx kz r1_9 l0 l1 l2 l3 l4 (fun l4' h4 z0 z1 e0_9 e1_9 u1_9 u2_9 u3 g0 g1 g2 g3_9 g4 => nx 105 _ l4' h4 z0 z1 (Or.inr (Or.inl rfl)) e0_9 e1_9 (by omega) u1_9 u2_9 g0 g1 g2 g3_9 g4)
      rw [if_neg q_9] at pm
      by_cases qq : lc9 (row.drop i_9) (ws.drop (Q_9 + 1)) < lc9 (row.drop (i_9 + 1)) (ws.drop Q_9)
      · rw [if_pos qq] at pm
        exact myD1 c_9 hM_9 (by omega) hy m w (row.length : Int) (ws.length : Int) (i_9 : Int) (Q_9 : Int) ac t (row[i_9]) (ws[Q_9]) (lc9 (row.drop (i_9 + 1)) (ws.drop Q_9) : Int) (lc9 (row.drop i_9) (ws.drop (Q_9 + 1)) : Int) m0 m1 w0_9 w1_9 (by omega) (by omega) (by omega) (by omega) (by omega) (by omega) (by omega) (by omega) a0_9 a1_9 t0_9 t401 x0_9 x1_9 b0 b1 (by omega) (by omega) (by omega) (by omega) (by omega) (by omega) (by omega) (by omega) kn_9' k2_9' (fr_9 _ _ _ rfl k1_9) (fr_9 _ _ _ rfl k3_9) kx kz (hp_ne (by omega)) r2 r3 l0 l1 l2 l3 l4 (fun l4' h4 z0 z1 e0_9 e1_9 u1_9 u2_9 u3 g0 g1 g2 g3_9 g4 => nx 159 _ l4' h4 z0 z1 (Or.inr (Or.inr rfl)) e0_9 e1_9 (by omega) u1_9 u2_9 g0 g1 g2 g3_9 g4)
      · rw [if_neg qq] at pm
        exact myD2 c_9 hM_9 (by omega) hy m w (row.length : Int) (ws.length : Int) (i_9 : Int) (Q_9 : Int) ac t (row[i_9]) (ws[Q_9]) (lc9 (row.drop (i_9 + 1)) (ws.drop Q_9) : Int) (lc9 (row.drop i_9) (ws.drop (Q_9 + 1)) : Int) m0 m1 w0_9 w1_9 (by omega) (by omega) (by omega) (by omega) (by omega) (by omega) (by omega) (by omega) a0_9 a1_9 t0_9 t401 x0_9 x1_9 b0 b1 (by omega) (by omega) (by omega) (by omega) (by omega) (by omega) (by omega) (by omega) kn_9' k2_9' (fr_9 _ _ _ rfl k1_9) (fr_9 _ _ _ rfl k3_9) kx kz (hp_ne (by omega)) r2 r3 l0 l1 l2 l3 l4 (fun l4' h4 z0 z1 e0_9 e1_9 u1_9 u2_9 u3 g0 g1 g2 g3_9 g4 => nx 159 _ l4' h4 z0 z1 (Or.inr (Or.inr rfl)) e0_9 e1_9 (by omega) u1_9 u2_9 g0 g1 g2 g3_9 g4)
  have outer_9 : ∀ (Q_9 : Nat) (h_9 : am_H) (l : am_L), (Q_9 : Int) - 1 ≤ (row.length : Int) → ly_hy m_tt ly_TH h_9 → ly_fr cst [37376] h0 h_9 → lcT cst h_9 row ws ((Q_9 : Int) - 1) (ws.length : Int) → hp_a l 0 94 → hp_i l 1 m → hp_i l 2 w → hp_i l 3 ((Q_9 : Int) - 1) → hp_F cst strs (fun r_9 : am_Q => r_9.1 = none ∧ r_9.2.2.1 = 0 ∧ r_9.2.2.2 = 0 ∧ ly_hy m_tt ly_TH r_9.2.1 ∧ ly_fr cst [37376] h0 r_9.2.1 ∧ ∀ (a_9 b_9 : Nat), a_9 ≤ row.length → b_9 ≤ ws.length → ly_hv cst r_9.2.1 37376 (9 * (a_9 : Int) + (b_9 : Int)) = some (lc9 (row.drop a_9) (ws.drop b_9) : Int)) D M_9 7 l [] h_9 := by
    intro Q_9
    induction Q_9 with
    | zero =>
      intro h_9 l hq hy fr_9 T l0 l1 l2 l3
      exact my2 c_9 hM_9 (by omega) hy m w m0 m1 w0_9 w1_9 l0 l1 l2 l3 (fun h3 u1_9 u2_9 u3 => ⟨rfl, rfl, rfl, u1_9, ly_fr_tr fr_9 (hp_sub2 rfl u2_9), fun a_9 b_9 ha_9 hb_9 => u2_9 _ _ _ rfl (T a_9 b_9 ha_9 hb_9 (by omega))⟩)
    | succ Q_9 ih_9 =>
      intro h_9 l hq hy fr_9 T l0 l1 l2 l3
      have eq_9 : ((Q_9 + 1 : Nat) : Int) - 1 = (Q_9 : Int) := by omega
      rw [eq_9] at hq T l3
      refine my1 c_9 hM_9 (by omega) hy m w (ws.length : Int) (Q_9 : Int) m0 m1 w0_9 w1_9 (by omega) (by omega) (by omega) (by omega) (fr_9 _ _ _ rfl k2_9) l0 l1 l2 l3 (fun l3' h3 u1_9 u2_9 u3 g0 g1 g2 g3_9 g4 => ?_)
      refine inner_9 (ws.length + 1) h3 l3' Q_9 (by omega) (by omega) u1_9 (ly_fr_tr fr_9 (hp_sub2 rfl u2_9)) (fun a_9 b_9 ha_9 hb_9 hab => u2_9 _ _ _ rfl (T a_9 b_9 ha_9 hb_9 (by omega))) g0 g1 g2 g3_9 (by rw [show ((ws.length + 1 : Nat) : Int) - 1 = (ws.length : Int) by omega]; exact g4) (fun l5 h5 v1_9 v2 v3 o0_9 o1 o2 o3_9 => ih_9 h5 l5 (by omega) v1_9 v2 (fun a_9 b_9 ha_9 hb_9 hab => v3 a_9 b_9 ha_9 hb_9 (by omega)) o0_9 o1 o2 o3_9)
  have go_9 : hp_F cst strs (fun r_9 : am_Q => r_9.1 = none ∧ r_9.2.2.1 = 0 ∧ r_9.2.2.2 = 0 ∧ ly_hy m_tt ly_TH r_9.2.1 ∧ ly_fr cst [37376] h0 r_9.2.1 ∧ ∀ (a_9 b_9 : Nat), a_9 ≤ row.length → b_9 ≤ ws.length → ly_hv cst r_9.2.1 37376 (9 * (a_9 : Int) + (b_9 : Int)) = some (lc9 (row.drop a_9) (ws.drop b_9) : Int)) D M_9 0 (lv_args 0 [.ref 94, .int xm, .int xw]) [] h0 := my0 c_9 hM_9 (by omega) hy0 m w (row.length : Int) m0 m1 w0_9 w1_9 (by omega) (by omega) kn_9 rfl ⟨xm, rfl, em⟩ ⟨xw, rfl, ew⟩ (fun l1 h1 u1_9 u2_9 u3 g0 g1 g2 g3_9 => outer_9 (row.length + 1) h1 l1 (by omega) u1_9 (hp_sub2 rfl u2_9) (fun a_9 b_9 ha_9 hb_9 hab => by omega) g0 g1 g2 (by rw [show ((row.length + 1 : Nat) : Int) - 1 = (row.length : Int) by omega]; exact g3_9))
  obtain ⟨n_9', r_9, hgo, r1_9, r2, r3, r4⟩ := go_9
  simp only [Nat.zero_add] at r2 r3
  exact ⟨r_9, Or.inr ⟨M_9, n_9', hM_9, hl, hgo⟩, r1_9, r2, r3, r4⟩

/-- the row is woven in the spare row, and laid -/
theorem mg_lp {cst : am_K} {strs : List Nat} {D : Nat} {M : am_M} {hB : am_H} (cc : ∀ d_9, hp_C cst strs d_9) (hM : m_P[345]? = some M) (hD : 4 ≤ D) {m w ac t : Int} (m0 : 0 ≤ m) (m1 : m ≤ 99) {row ws : List Int} (RW : wM cst hB m row) (LW : wL cst hB w ac t ws) (kt : ly_hv cst hB 33536 m = some 1) (PT : ∀ (a_9 b_9 : Nat), a_9 ≤ row.length → b_9 ≤ ws.length → ly_hv cst hB 37376 (9 * (a_9 : Int) + (b_9 : Int)) = some (lc9 (row.drop a_9) (ws.drop b_9) : Int)) (w28 : (wv9 row ws).length ≤ 28) :
    ∀ (Q_9 : Nat) (h_9 : am_H) (l : am_L) (i_9 j_9 : Nat) (us : List Int), (row.length - i_9) + (ws.length - j_9) < Q_9 → i_9 ≤ row.length → j_9 ≤ ws.length → us ++ wv9 (row.drop i_9) (ws.drop j_9) = wv9 row ws → ly_hy m_tt ly_TH h_9 → nfs cst [] hB h_9 → (∀ k_9 (hk : k_9 < us.length), ly_hv cst h_9 33024 (3000 + (k_9 : Int)) = some (us[k_9])) → hp_a l 0 94 → hp_i l 1 m → hp_i l 2 w → hp_i l 3 (us.length : Int) → hp_i l 4 (i_9 : Int) → hp_i l 5 (j_9 : Int) → hp_F cst strs (fun r_9 : am_Q => ∃ w : Int32, r_9.1 = some (.int w) ∧ r_9.2.2.1 = 0 ∧ r_9.2.2.2 = 0 ∧ ly_hy m_tt ly_TH r_9.2.1 ∧ w.toInt = ((wv9 row ws).length : Int) - (row.length : Int) ∧ nfr cst m [] hB r_9.2.1 ∧ wM cst r_9.2.1 m (wv9 row ws) ∧ ly_hv cst r_9.2.1 33536 m = some 1) D M 118 l [] h_9 := by
  have c_9 : hp_C cst strs D := cc _
  obtain ⟨n28_9, kn_9, kr⟩ := RW
  obtain ⟨w0_9, w1_9, a0_9, a1_9, t0_9, t1_9, w8, k1_9, k2_9, k3_9, kw⟩ := LW
  have t401 : t ≤ 401 := by omega
  -- the copy
  have cp : ∀ (us : List Int), us = wv9 row ws → ∀ (Q_9 : Nat) (h_9 : am_H) (l : am_L) (k_9 : Nat), k_9 + Q_9 = us.length → ly_hy m_tt ly_TH h_9 → nfr cst m [] hB h_9 → ly_hv cst h_9 33536 m = some 1 → (∀ i_9 (hi_9 : i_9 < us.length), ly_hv cst h_9 33024 (3000 + (i_9 : Int)) = some (us[i_9])) → (∀ i_9 (hi_9 : i_9 < us.length), i_9 < k_9 → ly_hv cst h_9 33024 (30 * m + (i_9 : Int)) = some (us[i_9])) → hp_a l 0 94 → hp_i l 1 m → hp_i l 3 (us.length : Int) → hp_i l 6 ((us.length : Int) - (row.length : Int)) → hp_i l 7 (k_9 : Int) → hp_F cst strs (fun r_9 : am_Q => ∃ w : Int32, r_9.1 = some (.int w) ∧ r_9.2.2.1 = 0 ∧ r_9.2.2.2 = 0 ∧ ly_hy m_tt ly_TH r_9.2.1 ∧ w.toInt = ((wv9 row ws).length : Int) - (row.length : Int) ∧ nfr cst m [] hB r_9.2.1 ∧ wM cst r_9.2.1 m (wv9 row ws) ∧ ly_hv cst r_9.2.1 33536 m = some 1) D M 343 l [] h_9 := by
    intro us eus Q_9
    induction Q_9 with
    | zero =>
      intro h_9 l k_9 e_9 hy fr_9 kt' A_9 B_9 l0 l1 l3 l6 l7
      have ek : k_9 = us.length := by omega
      rw [ek] at l7
      have u28 : us.length ≤ 28 := by rw [eus]; exact w28
      refine mwd c_9 hM (by omega) hy m (us.length : Int) ((us.length : Int) - (row.length : Int)) m0 m1 (by omega) (by omega) (by omega) (by omega) l0 l1 l3 l6 l7 (fun l4 h4 z0 z1 e0_9 e1_9 u1_9 u2_9 u3 g0 g1 g3_9 g6 g7 => ?_)
      refine hp_st (c := 130) hM (by decide +kernel) u1_9 (show ly_ths ly_TH 130 = some (.inl (.int, 101, 0, 28)) from rfl) rfl (by omega) (by omega) (by omega) (by omega) (fun h5 x1_9 x2_9 x3 => ?_)
      rw [e0_9, e1_9] at x3
      have x3 : hp_put cst 33280 m (us.length : Int) h4 h5 := x3
      have up_9 : ∀ r_9' k_9' u_9' h8, ly_fr cst [] h5 h8 → r_9' ≠ 33280 → ly_hv cst h_9 r_9' k_9' = some u_9' → ly_hv cst h8 r_9' k_9' = some u_9' := fun r_9' k_9' u_9' h8 f_9 n1_9 e_9 => by
        refine f_9 _ _ _ rfl ?_
        rw [x3.2 _ _ (Or.inl n1_9)]
        exact u2_9 _ _ _ rfl e_9
      refine mwe c_9 hM (by omega) x1_9 m (us.length : Int) ((us.length : Int) - (row.length : Int)) m0 m1 (by omega) (by omega) (by omega) (by omega) g0 g1 g3_9 g6 g7 (fun h6 a_9 ha_9 t1_9' t2_9' t3_9' => ⟨a_9, rfl, rfl, rfl, t1_9', ?_, ?_, ⟨?_, ?_, ?_⟩, up_9 _ _ _ h6 t2_9' (by decide) kt'⟩)
      · rw [ha_9, eus]
      · exact nfr_tr fr_9 (nfr_tr (nfr_L u2_9) (nfr_tr (nfr_pm x3) (nfr_L t2_9')))
      · exact w28
      · rw [← eus]
        exact t2_9' _ _ _ rfl x3.1
      · intro q_9 hq
        have hq' : q_9 < us.length := by rw [eus]; exact hq
        have b_9 := up_9 _ _ _ h6 t2_9' (by decide) (B_9 q_9 hq' (by omega))
        have es : us[q_9] = (wv9 row ws)[q_9] := by simp only [eus]
        rw [es] at b_9
        obtain ⟨v_9, kv, v0_9, v1_9⟩ := hp_rowj (cst := cst) (i := 30 * m + (q_9 : Int)) t1_9' (show ly_ths ly_TH 129 = some (.inl (.long, 3030, 0, 0)) from rfl) (by omega) (by omega)
        have kv : ly_hv cst h6 33024 (30 * m + (q_9 : Int)) = some v_9 := kv
        have ev_9 := Option.some.inj (b_9.symm.trans kv)
        have v0_9 : -9223372036854775808 ≤ v_9 := v0_9
        have v1_9 : v_9 ≤ 9223372036854775807 := v1_9
        exact ⟨b_9, by omega, by omega⟩
    | succ Q_9 ih_9 =>
      intro h_9 l k_9 e_9 hy fr_9 kt' A_9 B_9 l0 l1 l3 l6 l7
      have hk : k_9 < us.length := by omega
      have u28 : us.length ≤ 28 := by rw [eus]; exact w28
      have ka := A_9 k_9 hk
      obtain ⟨v_9, kv, v0_9, v1_9⟩ := hp_rowj (cst := cst) (i := 3000 + (k_9 : Int)) hy (show ly_ths ly_TH 129 = some (.inl (.long, 3030, 0, 0)) from rfl) (by omega) (by omega)
      have kv : ly_hv cst h_9 33024 (3000 + (k_9 : Int)) = some v_9 := kv
      have ev_9 := Option.some.inj (ka.symm.trans kv)
      have v0_9 : -9223372036854775808 ≤ v_9 := v0_9
      have v1_9 : v_9 ≤ 9223372036854775807 := v1_9
      refine mwb c_9 hM (by omega) hy m (us.length : Int) ((us.length : Int) - (row.length : Int)) (k_9 : Int) (us[k_9]) m0 m1 (by omega) (by omega) (by omega) (by omega) (by omega) (by omega) (by omega) (by omega) (by omega) (by rw [show (k_9 : Int) + 3000 = 3000 + (k_9 : Int) by omega]; exact ka) l0 l1 l3 l6 l7 (fun l4 h4 z0 z1 e0_9 e1_9 u1_9 u2_9 u3 g0 g1 g3_9 g6 g7 => ?_)
      refine hp_stj (c := 129) hM (by decide +kernel) u1_9 (show ly_ths ly_TH 129 = some (.inl (.long, 3030, 0, 0)) from rfl) rfl (by omega) (by omega) (fun h5 x1_9 x2_9 x3 => ?_)
      rw [e0_9, e1_9] at x3
      have x3 : hp_put cst 33024 (30 * m + (k_9 : Int)) (us[k_9]) h4 h5 := x3
      refine mwc c_9 hM (by omega) x1_9 m (us.length : Int) ((us.length : Int) - (row.length : Int)) (k_9 : Int) m0 m1 (by omega) (by omega) (by omega) (by omega) (by omega) (by omega) g0 g1 g3_9 g6 g7 (fun l6' h6 v1_9' v2' v3' o0_9 o1 o3_9 o6 o7 => ih_9 h6 l6' (k_9 + 1) (by omega) v1_9' (nfr_tr fr_9 (nfr_tr (nfr_L u2_9) (nfr_tr (nfr_pw x3 (by omega) (by omega)) (nfr_L v2')))) ?_ (fun i_9 hi_9 => ?_) (fun i_9 hi_9 hk' => ?_) o0_9 o1 o3_9 o6 (by rw [show (((k_9 + 1 : Nat)) : Int) = (k_9 : Int) + 1 by omega]; exact o7))
      · refine v2' _ _ _ rfl ?_
        rw [x3.2 _ _ (Or.inl (by decide))]
        exact u2_9 _ _ _ rfl kt'
      · refine v2' _ _ _ rfl ?_
        rw [x3.2 _ _ (Or.inr (by omega))]
        exact u2_9 _ _ _ rfl (A_9 i_9 hi_9)
      · refine v2' _ _ _ rfl ?_
        by_cases z_9 : i_9 = k_9
        · subst z_9
          exact x3.1
        · rw [x3.2 _ _ (Or.inr (by omega))]
          exact u2_9 _ _ _ rfl (B_9 i_9 hi_9 (by omega))
  intro Q_9
  induction Q_9 with
  | zero => intro h_9 l i_9 j_9 us hQ; omega
  | succ Q_9 ih_9 =>
    intro h_9 l i_9 j_9 us hQ hi_9' hj' eu hy fr_9 A_9 l0 l1 l2 l3 l4 l5
    have kn_9' := fr_9 _ _ _ rfl (fun z_9 => absurd z_9 (by decide)) kn_9
    have k1_9' := fr_9 _ _ _ rfl (fun z_9 => absurd z_9 (by decide)) k1_9
    have k2_9' := fr_9 _ _ _ rfl (fun z_9 => absurd z_9 (by decide)) k2_9
    have k3_9' := fr_9 _ _ _ rfl (fun z_9 => absurd z_9 (by decide)) k3_9
    have lu := congrArg List.length eu
    rw [List.length_append] at lu
    by_cases ej : j_9 = ws.length
    · by_cases ei : i_9 = row.length
      · have eu' : us = wv9 row ws := by
          rw [ei, ej, List.drop_eq_nil_of_le (Nat.le_refl _), wv9_n, List.drop_eq_nil_of_le (Nat.le_refl _), List.append_nil] at eu
          exact eu
        have u28 : us.length ≤ 28 := by rw [eu']; exact w28
        rw [ei] at l4
        rw [ej] at l5
        exact mw7 c_9 hM (by omega) hy m w (row.length : Int) (ws.length : Int) (us.length : Int) m0 m1 w0_9 w1_9 (by omega) (by omega) (by omega) (by omega) (by omega) (by omega) kn_9' k2_9' l0 l1 l2 l3 l4 l5 (fun l4' h4 u1_9 u2_9 u3 g0 g1 g3_9 g6 g7 => cp us eu' us.length h4 l4' 0 (by omega) u1_9 (nfr_s (nfs_tr fr_9 (nfs_L u2_9))) (u2_9 _ _ _ rfl (fr_9 _ _ _ rfl (fun z_9 => absurd z_9 (by decide)) kt)) (fun k_9 hk => u2_9 _ _ _ rfl (A_9 k_9 hk)) (fun k_9 hk z_9 => absurd z_9 (Nat.not_lt_zero _)) g0 g1 g3_9 g6 g7)
      have hi_9 : i_9 < row.length := by omega
      obtain ⟨kx, x0_9, x1_9⟩ := kr i_9 hi_9
      have kx := fr_9 _ _ _ rfl (fun _ => by omega) kx
      have ln : us.length < 28 := by
        rw [ej, List.drop_eq_nil_of_le (Nat.le_refl ws.length), wv9_0, List.length_drop] at lu
        omega
      refine mw6 c_9 hM (by omega) hy m w (row.length : Int) (ws.length : Int) (us.length : Int) (i_9 : Int) (row[i_9]) m0 m1 w0_9 w1_9 (by omega) (by omega) (by omega) (by omega) (by omega) (by omega) (by omega) (by omega) x0_9 x1_9 (by omega) kn_9' k2_9' kx l0 l1 l2 l3 l4 (by rw [← ej]; exact l5) (fun l4 h4 z0 z1 e0_9 e1_9 u1_9 u2_9 u3 g0 g1 g2 g3_9 g4 g5_9 => ?_)
      have left_9 : us ++ (row[i_9] :: wv9 (row.drop (i_9 + 1)) (ws.drop (j_9))) = wv9 row ws := by
        rw [← eu]
        congr 1
        rw [List.drop_eq_nil_of_le (show ws.length ≤ j_9 by omega), wv9_0, wv9_0, List.drop_eq_getElem_cons hi_9]
      have ll := congrArg List.length left_9
      rw [List.length_append, List.length_cons] at ll
      refine hp_stj (c := 129) hM (by decide +kernel) u1_9 (show ly_ths ly_TH 129 = some (.inl (.long, 3030, 0, 0)) from rfl) rfl (by omega) (by omega) (fun h5 y1 y2 y3 => ?_)
      rw [e0_9, e1_9, show (us.length : Int) + 3000 = 3000 + (us.length : Int) by omega] at y3
      have y3 : hp_put cst 33024 (3000 + (us.length : Int)) (row[i_9]) h4 h5 := y3
      exact mwa c_9 hM (by omega) y1 m w (row.length : Int) (ws.length : Int) (us.length : Int) (i_9 : Int) (j_9 : Int) m0 m1 w0_9 w1_9 (by omega) (by omega) (by omega) (by omega) (by omega) (by omega) (by omega) (by omega) (by omega) (by omega) g0 g1 g2 g3_9 g4 (by rw [ej]; exact g5_9) (fun l6 h6 v1_9 v2 v3 o0_9 o1 o2 o3_9 o4_9 o5_9 => ih_9 h6 l6 (i_9 + 1) (j_9) (us ++ [row[i_9]]) (by omega) (by omega) (by omega) (by rw [List.append_assoc]; exact left_9) v1_9 (nfs_tr fr_9 (nfs_tr (nfs_L u2_9) (nfs_tr (nfs_p y3 (by omega)) (nfs_L v2)))) (fun k_9 hk => by
        rw [List.length_append, List.length_singleton] at hk
        refine v2 _ _ _ rfl ?_
        by_cases z_9 : k_9 = us.length
        · subst z_9
          rw [List.getElem_append_right (Nat.le_refl _)]
          simp only [Nat.sub_self, List.getElem_singleton]
          exact y3.1
        · rw [List.getElem_append_left (by omega), y3.2 _ _ (Or.inr (by omega))]
          exact u2_9 _ _ _ rfl (A_9 k_9 (by omega))) o0_9 o1 o2 (by rw [List.length_append, List.length_singleton]; exact o3_9) (by rw [show ((i_9 + 1 : Nat) : Int) = (i_9 : Int) + 1 by omega]; exact o4_9) o5_9)
    have hj : j_9 < ws.length := by omega
    obtain ⟨kz2, b0, b1⟩ := kw j_9 hj
    have kz2 := fr_9 _ _ _ rfl (fun z_9 => absurd z_9 (by decide)) kz2
    have wl := wv9_len _ (row.drop i_9) (ws.drop j_9) (Nat.le_refl _)
    have lc := lc9_l (row.drop i_9) (ws.drop j_9)
    rw [List.length_drop, List.length_drop] at wl lc
    have ln : us.length < 28 := by omega
    by_cases ei : i_9 = row.length
    · refine mw4 c_9 hM (by omega) hy m w (row.length : Int) (ws.length : Int) (us.length : Int) (j_9 : Int) ac t (ws[j_9]) m0 m1 w0_9 w1_9 (by omega) (by omega) (by omega) (by omega) (by omega) (by omega) (by omega) (by omega) a0_9 a1_9 t0_9 t401 b0 b1 (by omega) (by omega) kn_9' k2_9' k1_9' k3_9' kz2 l0 l1 l2 l3 (by rw [← ei]; exact l4) l5 (fun l4 h4 z0 z1 e0_9 e1_9 u1_9 u2_9 u3 g0 g1 g2 g3_9 g4 g5_9 => ?_)
      have left_9 : us ++ (ws[j_9] :: wv9 (row.drop (i_9)) (ws.drop (j_9 + 1))) = wv9 row ws := by
        rw [← eu]
        congr 1
        rw [List.drop_eq_nil_of_le (show row.length ≤ i_9 by omega), wv9_n, wv9_n, List.drop_eq_getElem_cons hj]
      have ll := congrArg List.length left_9
      rw [List.length_append, List.length_cons] at ll
      refine hp_stj (c := 129) hM (by decide +kernel) u1_9 (show ly_ths ly_TH 129 = some (.inl (.long, 3030, 0, 0)) from rfl) rfl (by omega) (by omega) (fun h5 y1 y2 y3 => ?_)
      rw [e0_9, e1_9, show (us.length : Int) + 3000 = 3000 + (us.length : Int) by omega] at y3
      have y3 : hp_put cst 33024 (3000 + (us.length : Int)) (ws[j_9]) h4 h5 := y3
      exact mw9 c_9 hM (by omega) y1 m w (row.length : Int) (ws.length : Int) (us.length : Int) (i_9 : Int) (j_9 : Int) m0 m1 w0_9 w1_9 (by omega) (by omega) (by omega) (by omega) (by omega) (by omega) (by omega) (by omega) (by omega) (by omega) g0 g1 g2 g3_9 (by rw [ei]; exact g4) g5_9 (fun l6 h6 v1_9 v2 v3 o0_9 o1 o2 o3_9 o4_9 o5_9 => ih_9 h6 l6 (i_9) (j_9 + 1) (us ++ [ws[j_9]]) (by omega) (by omega) (by omega) (by rw [List.append_assoc]; exact left_9) v1_9 (nfs_tr fr_9 (nfs_tr (nfs_L u2_9) (nfs_tr (nfs_p y3 (by omega)) (nfs_L v2)))) (fun k_9 hk => by
        rw [List.length_append, List.length_singleton] at hk
        refine v2 _ _ _ rfl ?_
        by_cases z_9 : k_9 = us.length
        · subst z_9
          rw [List.getElem_append_right (Nat.le_refl _)]
          simp only [Nat.sub_self, List.getElem_singleton]
          exact y3.1
        · rw [List.getElem_append_left (by omega), y3.2 _ _ (Or.inr (by omega))]
          exact u2_9 _ _ _ rfl (A_9 k_9 (by omega))) o0_9 o1 o2 (by rw [List.length_append, List.length_singleton]; exact o3_9) o4_9 (by rw [show ((j_9 + 1 : Nat) : Int) = (j_9 : Int) + 1 by omega]; exact o5_9))
    have hi_9 : i_9 < row.length := by omega
    obtain ⟨kx, x0_9, x1_9⟩ := kr i_9 hi_9
    have kx := fr_9 _ _ _ rfl (fun _ => by omega) kx
    by_cases q_9 : row[i_9] = ws[j_9]
    · have kzA := kz2
      rw [← q_9] at kzA
      refine mw2 c_9 hM (by omega) hy m w (row.length : Int) (ws.length : Int) (us.length : Int) (i_9 : Int) (j_9 : Int) ac t (row[i_9]) m0 m1 w0_9 w1_9 (by omega) (by omega) (by omega) (by omega) (by omega) (by omega) (by omega) (by omega) (by omega) (by omega) a0_9 a1_9 t0_9 t401 x0_9 x1_9 (by omega) (by omega) (by omega) kn_9' k2_9' k1_9' k3_9' kx kzA l0 l1 l2 l3 l4 l5 (fun l4 h4 z0 z1 e0_9 e1_9 u1_9 u2_9 u3 g0 g1 g2 g3_9 g4 g5_9 => ?_)
      have left_9 : us ++ (row[i_9] :: wv9 (row.drop (i_9 + 1)) (ws.drop (j_9 + 1))) = wv9 row ws := by
        rw [← eu]
        congr 1
        rw [List.drop_eq_getElem_cons hi_9, List.drop_eq_getElem_cons hj, wv9_c, if_pos q_9]
      have ll := congrArg List.length left_9
      rw [List.length_append, List.length_cons] at ll
      refine hp_stj (c := 129) hM (by decide +kernel) u1_9 (show ly_ths ly_TH 129 = some (.inl (.long, 3030, 0, 0)) from rfl) rfl (by omega) (by omega) (fun h5 y1 y2 y3 => ?_)
      rw [e0_9, e1_9, show (us.length : Int) + 3000 = 3000 + (us.length : Int) by omega] at y3
      have y3 : hp_put cst 33024 (3000 + (us.length : Int)) (row[i_9]) h4 h5 := y3
      exact mw8 c_9 hM (by omega) y1 m w (row.length : Int) (ws.length : Int) (us.length : Int) (i_9 : Int) (j_9 : Int) m0 m1 w0_9 w1_9 (by omega) (by omega) (by omega) (by omega) (by omega) (by omega) (by omega) (by omega) (by omega) (by omega) g0 g1 g2 g3_9 g4 g5_9 (fun l6 h6 v1_9 v2 v3 o0_9 o1 o2 o3_9 o4_9 o5_9 => ih_9 h6 l6 (i_9 + 1) (j_9 + 1) (us ++ [row[i_9]]) (by omega) (by omega) (by omega) (by rw [List.append_assoc]; exact left_9) v1_9 (nfs_tr fr_9 (nfs_tr (nfs_L u2_9) (nfs_tr (nfs_p y3 (by omega)) (nfs_L v2)))) (fun k_9 hk => by
        rw [List.length_append, List.length_singleton] at hk
        refine v2 _ _ _ rfl ?_
        by_cases z_9 : k_9 = us.length
        · subst z_9
          rw [List.getElem_append_right (Nat.le_refl _)]
          simp only [Nat.sub_self, List.getElem_singleton]
          exact y3.1
        · rw [List.getElem_append_left (by omega), y3.2 _ _ (Or.inr (by omega))]
          exact u2_9 _ _ _ rfl (A_9 k_9 (by omega))) o0_9 o1 o2 (by rw [List.length_append, List.length_singleton]; exact o3_9) (by rw [show ((i_9 + 1 : Nat) : Int) = (i_9 : Int) + 1 by omega]; exact o4_9) (by rw [show ((j_9 + 1 : Nat) : Int) = (j_9 : Int) + 1 by omega]; exact o5_9))
    have r3 := fr_9 _ _ _ rfl (fun z_9 => absurd z_9 (by decide)) (PT i_9 (j_9 + 1) (by omega) (by omega))
    have r4 := fr_9 _ _ _ rfl (fun z_9 => absurd z_9 (by decide)) (PT i_9 j_9 (by omega) (by omega))
    rw [show 9 * (i_9 : Int) + ((j_9 + 1 : Nat) : Int) = 9 * (i_9 : Int) + (j_9 : Int) + 1 by omega] at r3
    have p3_9 := lc9_l (row.drop i_9) (ws.drop (j_9 + 1))
    rw [List.length_drop, List.length_drop] at p3_9
    by_cases qq : lc9 (row.drop i_9) (ws.drop (j_9 + 1)) = lc9 (row.drop i_9) (ws.drop j_9)
    · refine mw3 c_9 hM (by omega) hy m w (row.length : Int) (ws.length : Int) (us.length : Int) (i_9 : Int) (j_9 : Int) ac t (row[i_9]) (ws[j_9]) (lc9 (row.drop i_9) (ws.drop j_9) : Int) m0 m1 w0_9 w1_9 (by omega) (by omega) (by omega) (by omega) (by omega) (by omega) (by omega) (by omega) (by omega) (by omega) a0_9 a1_9 t0_9 t401 x0_9 x1_9 b0 b1 (by omega) (by omega) (by omega) (by omega) (by omega) kn_9' k2_9' k1_9' k3_9' kx kz2 (hp_ne (by omega)) r4 (by rw [r3, qq]) l0 l1 l2 l3 l4 l5 (fun l4 h4 z0 z1 e0_9 e1_9 u1_9 u2_9 u3 g0 g1 g2 g3_9 g4 g5_9 => ?_)
      have left_9 : us ++ (ws[j_9] :: wv9 (row.drop (i_9)) (ws.drop (j_9 + 1))) = wv9 row ws := by
        rw [← eu]
        congr 1
        rw [List.drop_eq_getElem_cons hi_9, List.drop_eq_getElem_cons hj, wv9_c, if_neg q_9, if_pos (by rw [← List.drop_eq_getElem_cons hi_9, ← List.drop_eq_getElem_cons hj]; exact qq)]
      have ll := congrArg List.length left_9
      rw [List.length_append, List.length_cons] at ll
      refine hp_stj (c := 129) hM (by decide +kernel) u1_9 (show ly_ths ly_TH 129 = some (.inl (.long, 3030, 0, 0)) from rfl) rfl (by omega) (by omega) (fun h5 y1 y2 y3 => ?_)
      rw [e0_9, e1_9, show (us.length : Int) + 3000 = 3000 + (us.length : Int) by omega] at y3
      have y3 : hp_put cst 33024 (3000 + (us.length : Int)) (ws[j_9]) h4 h5 := y3
      exact mw9 c_9 hM (by omega) y1 m w (row.length : Int) (ws.length : Int) (us.length : Int) (i_9 : Int) (j_9 : Int) m0 m1 w0_9 w1_9 (by omega) (by omega) (by omega) (by omega) (by omega) (by omega) (by omega) (by omega) (by omega) (by omega) g0 g1 g2 g3_9 g4 g5_9 (fun l6 h6 v1_9 v2 v3 o0_9 o1 o2 o3_9 o4_9 o5_9 => ih_9 h6 l6 (i_9) (j_9 + 1) (us ++ [ws[j_9]]) (by omega) (by omega) (by omega) (by rw [List.append_assoc]; exact left_9) v1_9 (nfs_tr fr_9 (nfs_tr (nfs_L u2_9) (nfs_tr (nfs_p y3 (by omega)) (nfs_L v2)))) (fun k_9 hk => by
        rw [List.length_append, List.length_singleton] at hk
        refine v2 _ _ _ rfl ?_
        by_cases z_9 : k_9 = us.length
        · subst z_9
          rw [List.getElem_append_right (Nat.le_refl _)]
          simp only [Nat.sub_self, List.getElem_singleton]
          exact y3.1
        · rw [List.getElem_append_left (by omega), y3.2 _ _ (Or.inr (by omega))]
          exact u2_9 _ _ _ rfl (A_9 k_9 (by omega))) o0_9 o1 o2 (by rw [List.length_append, List.length_singleton]; exact o3_9) o4_9 (by rw [show ((j_9 + 1 : Nat) : Int) = (j_9 : Int) + 1 by omega]; exact o5_9))
    · refine mw5 c_9 hM (by omega) hy m w (row.length : Int) (ws.length : Int) (us.length : Int) (i_9 : Int) (j_9 : Int) ac t (row[i_9]) (ws[j_9]) (lc9 (row.drop i_9) (ws.drop j_9) : Int) (lc9 (row.drop i_9) (ws.drop (j_9 + 1)) : Int) m0 m1 w0_9 w1_9 (by omega) (by omega) (by omega) (by omega) (by omega) (by omega) (by omega) (by omega) (by omega) (by omega) a0_9 a1_9 t0_9 t401 x0_9 x1_9 b0 b1 (by omega) (by omega) (by omega) (by omega) (by omega) (by omega) (by omega) kn_9' k2_9' k1_9' k3_9' kx kz2 (hp_ne (by omega)) r4 r3 (hp_ne (by omega)) l0 l1 l2 l3 l4 l5 (fun l4 h4 z0 z1 e0_9 e1_9 u1_9 u2_9 u3 g0 g1 g2 g3_9 g4 g5_9 => ?_)
      have left_9 : us ++ (row[i_9] :: wv9 (row.drop (i_9 + 1)) (ws.drop (j_9))) = wv9 row ws := by
        rw [← eu]
        congr 1
        rw [List.drop_eq_getElem_cons hi_9, List.drop_eq_getElem_cons hj, wv9_c, if_neg q_9, if_neg (fun z_9 => qq (by rw [List.drop_eq_getElem_cons hi_9, List.drop_eq_getElem_cons hj]; exact z_9))]
      have ll := congrArg List.length left_9
      rw [List.length_append, List.length_cons] at ll
      refine hp_stj (c := 129) hM (by decide +kernel) u1_9 (show ly_ths ly_TH 129 = some (.inl (.long, 3030, 0, 0)) from rfl) rfl (by omega) (by omega) (fun h5 y1 y2 y3 => ?_)
      rw [e0_9, e1_9, show (us.length : Int) + 3000 = 3000 + (us.length : Int) by omega] at y3
      have y3 : hp_put cst 33024 (3000 + (us.length : Int)) (row[i_9]) h4 h5 := y3
      exact mwa c_9 hM (by omega) y1 m w (row.length : Int) (ws.length : Int) (us.length : Int) (i_9 : Int) (j_9 : Int) m0 m1 w0_9 w1_9 (by omega) (by omega) (by omega) (by omega) (by omega) (by omega) (by omega) (by omega) (by omega) (by omega) g0 g1 g2 g3_9 g4 g5_9 (fun l6 h6 v1_9 v2 v3 o0_9 o1 o2 o3_9 o4_9 o5_9 => ih_9 h6 l6 (i_9 + 1) (j_9) (us ++ [row[i_9]]) (by omega) (by omega) (by omega) (by rw [List.append_assoc]; exact left_9) v1_9 (nfs_tr fr_9 (nfs_tr (nfs_L u2_9) (nfs_tr (nfs_p y3 (by omega)) (nfs_L v2)))) (fun k_9 hk => by
        rw [List.length_append, List.length_singleton] at hk
        refine v2 _ _ _ rfl ?_
        by_cases z_9 : k_9 = us.length
        · subst z_9
          rw [List.getElem_append_right (Nat.le_refl _)]
          simp only [Nat.sub_self, List.getElem_singleton]
          exact y3.1
        · rw [List.getElem_append_left (by omega), y3.2 _ _ (Or.inr (by omega))]
          exact u2_9 _ _ _ rfl (A_9 k_9 (by omega))) o0_9 o1 o2 (by rw [List.length_append, List.length_singleton]; exact o3_9) (by rw [show ((i_9 + 1 : Nat) : Int) = (i_9 : Int) + 1 by omega]; exact o4_9) o5_9)
/-- mend of the reference -/
theorem mr_run {cst : am_K} {strs : List Nat} {D : Nat} {h0 : am_H} (cc : ∀ d, hp_C cst strs d) (hD : 10 ≤ D) (hy : ly_hy m_tt ly_TH h0) {X : List rX} (R : rA cst h0 X) (x30 : X.length ≤ 30) (wd : ∀ a_9 (ha_9 : a_9 < X.length), wD (X[a_9]).2.2.1) {xm : Int32} {sz : Int} (sz0 : 0 ≤ sz) (sz1 : sz ≤ 100) (ksz : ly_hv cst h0 20024 0 = some sz) (kc : ∀ j_9, 0 ≤ j_9 → j_9 < sz → ∃ su st, ly_hv cst h0 28416 j_9 = some su ∧ ly_hv cst h0 30464 j_9 = some st ∧ (su = 0 ∨ su = 1) ∧ -2147483648 ≤ st ∧ st ≤ 2147483647) {d y s wt : Int} {row : List Int} (kk : 0 ≤ xm.toInt → xm.toInt < sz → ly_hv cst h0 30208 xm.toInt = some d ∧ ly_hv cst h0 29696 xm.toInt = some y ∧ ly_hv cst h0 29184 xm.toInt = some s ∧ ly_hv cst h0 33536 xm.toInt = some wt ∧ (wt = 1 → wM cst h0 xm.toInt row)) (d0 : -9223372036854775808 ≤ d) (d1 : d ≤ 9223372036854775807) (y0 : -2147483648 ≤ y) (y1 : y ≤ 2147483647) (s0 : -2147483648 ≤ s) (s1 : s ≤ 2147483647) (bw : wt = 0 ∨ wt = 1) :
    ∃ r_9, am_Run cst m_cl m_tt m_P strs sx_bi (D + 1) 345 [.ref 94, .int xm] h0 r_9 ∧ (fun r_9 : am_Q => ∃ w_9 : Int32, r_9.1 = some (.int w_9) ∧ r_9.2.2.1 = 0 ∧ r_9.2.2.2 = 0 ∧ ly_hy m_tt ly_TH r_9.2.1 ∧ nfr cst xm.toInt [37376] h0 r_9.2.1 ∧ mdP X d y s wt row sz xm.toInt (ly_hv cst h0 28416 xm.toInt) (ly_hv cst h0 30464 xm.toInt) 0 w_9.toInt (nfs cst [37376] h0 r_9.2.1) (fun us => wM cst r_9.2.1 xm.toInt us ∧ ly_hv cst r_9.2.1 33536 xm.toInt = some 1)) r_9 := by
  obtain ⟨M_9, hM_9, hl⟩ := hp_M (mi := 345) (k := 2) (by decide +kernel)
  have c_9 : hp_C cst strs D := cc _
  have b0 := xm.le_toInt
  have b1 := xm.toInt_le
  have go_9 : hp_F cst strs (fun r_9 : am_Q => ∃ w_9 : Int32, r_9.1 = some (.int w_9) ∧ r_9.2.2.1 = 0 ∧ r_9.2.2.2 = 0 ∧ ly_hy m_tt ly_TH r_9.2.1 ∧ nfr cst xm.toInt [37376] h0 r_9.2.1 ∧ mdP X d y s wt row sz xm.toInt (ly_hv cst h0 28416 xm.toInt) (ly_hv cst h0 30464 xm.toInt) 0 w_9.toInt (nfs cst [37376] h0 r_9.2.1) (fun us => wM cst r_9.2.1 xm.toInt us ∧ ly_hv cst r_9.2.1 33536 xm.toInt = some 1)) D M_9 0 (lv_args 0 [.ref 94, .int xm]) [] h0 := by
    by_cases q1_9 : xm.toInt ≤ -1
    · exact mr1 c_9 hM_9 (by omega) hy xm.toInt sz b0 q1_9 sz0 sz1 ksz rfl ⟨xm, rfl, rfl⟩ (fun h5 a_9 ha_9 t1_9 t2_9 t3_9 => ⟨a_9, rfl, rfl, rfl, t1_9, nfr_L (hp_sub2 rfl t2_9), fun _ => ⟨ha_9, nfs_L (hp_sub2 rfl t2_9)⟩, fun z_9 => by have := z_9.1; omega⟩)
    by_cases q2_9 : sz ≤ xm.toInt
    · exact mr2 c_9 hM_9 (by omega) hy xm.toInt sz (by omega) b1 sz0 sz1 (by omega) ksz rfl ⟨xm, rfl, rfl⟩ (fun h5 a_9 ha_9 t1_9 t2_9 t3_9 => ⟨a_9, rfl, rfl, rfl, t1_9, nfr_L (hp_sub2 rfl t2_9), fun _ => ⟨ha_9, nfs_L (hp_sub2 rfl t2_9)⟩, fun z_9 => by have := z_9.2.1; omega⟩)
    obtain ⟨su, st, k1_9, k2_9, e1_9, e3_9, e4_9⟩ := kc xm.toInt (by omega) (by omega)
    obtain ⟨kd, ky, ks_9, kw, RW⟩ := kk (by omega) (by omega)
    rcases e1_9 with e1_9 | e1_9
    rotate_left
    · rw [e1_9] at k1_9
      have no_9 : ¬ (0 ≤ xm.toInt ∧ xm.toInt < sz ∧ ly_hv cst h0 28416 xm.toInt = some 0) := fun z_9 => by
        have := z_9.2.2
        rw [k1_9] at this
        exact absurd (Option.some.inj this) (by decide)
      exact mr3 c_9 hM_9 (by omega) hy xm.toInt sz (by omega) (by omega) sz0 sz1 (by omega) ksz k1_9 rfl ⟨xm, rfl, rfl⟩ (fun h5 a_9 ha_9 t1_9 t2_9 t3_9 => ⟨a_9, rfl, rfl, rfl, t1_9, nfr_L (hp_sub2 rfl t2_9), fun _ => ⟨ha_9, nfs_L (hp_sub2 rfl t2_9)⟩, fun z_9 => absurd z_9 no_9⟩)
    rw [e1_9] at k1_9
    have ok_9 : 0 ≤ xm.toInt ∧ xm.toInt < sz ∧ ly_hv cst h0 28416 xm.toInt = some 0 := ⟨by omega, by omega, k1_9⟩
    by_cases q5_9 : st = 0
    rotate_left
    · have ns : ly_hv cst h0 30464 xm.toInt ≠ some 0 := fun z_9 => by
        rw [k2_9] at z_9
        exact q5_9 (Option.some.inj z_9)
      by_cases q6_9 : st ≤ -1
      · exact mr40 c_9 hM_9 (by omega) hy xm.toInt sz st (by omega) (by omega) sz0 sz1 e3_9 q6_9 (by omega) ksz k1_9 k2_9 rfl ⟨xm, rfl, rfl⟩ (fun h5 a_9 ha_9 t1_9 t2_9 t3_9 => ⟨a_9, rfl, rfl, rfl, t1_9, nfr_L (hp_sub2 rfl t2_9), fun z_9 => absurd ok_9 z_9, fun _ => ⟨fun _ => ⟨ha_9, nfs_L (hp_sub2 rfl t2_9)⟩, fun z_9 => absurd z_9 ns⟩⟩)
      · exact mr41 c_9 hM_9 (by omega) hy xm.toInt sz st (by omega) (by omega) sz0 sz1 (by omega) e4_9 (by omega) ksz k1_9 k2_9 rfl ⟨xm, rfl, rfl⟩ (fun h5 a_9 ha_9 t1_9 t2_9 t3_9 => ⟨a_9, rfl, rfl, rfl, t1_9, nfr_L (hp_sub2 rfl t2_9), fun z_9 => absurd ok_9 z_9, fun _ => ⟨fun _ => ⟨ha_9, nfs_L (hp_sub2 rfl t2_9)⟩, fun z_9 => absurd z_9 ns⟩⟩)
    rw [q5_9] at k2_9
    by_cases q7_9 : wt = 0
    · rw [q7_9] at kw
      exact mr4t c_9 hM_9 (by omega) hy xm.toInt sz (by omega) (by omega) sz0 sz1 (by omega) ksz k1_9 k2_9 kw rfl ⟨xm, rfl, rfl⟩ (fun h5 a_9 ha_9 t1_9 t2_9 t3_9 => ⟨a_9, rfl, rfl, rfl, t1_9, nfr_L (hp_sub2 rfl t2_9), fun z_9 => absurd ok_9 z_9, fun _ => ⟨fun _ => ⟨ha_9, nfs_L (hp_sub2 rfl t2_9)⟩, fun _ z_9 => by omega⟩⟩)
    have q7_9 : wt = 1 := by omega
    have RW := RW q7_9
    rw [q7_9] at kw
    obtain ⟨mN, em⟩ : ∃ q_9 : Nat, xm.toInt = (q_9 : Int) := ⟨xm.toInt.toNat, by omega⟩
    refine mr5 c_9 hM_9 (by omega) hy xm.toInt sz (by omega) (by omega) sz0 sz1 (by omega) ksz k1_9 k2_9 kw rfl ⟨xm, rfl, rfl⟩ (fun l3 h3 z0 z1 z2 e0_9 e1_9' e2_9 v1_9 v2 v3 m0_9 m1_9' => ?_)
    have kd' := v2 _ _ _ rfl kd
    have ky' := v2 _ _ _ rfl ky
    have ks_9' := v2 _ _ _ rfl ks_9
    rw [em] at kd' ky' ks_9'
    have RA3 : rA cst h3 X := rA_k R (gk_fr v2 rfl rfl) (v2 _ _ _ rfl R.1)
    obtain ⟨r_9, hrun, w_9, r1_9, r2, r3, rhy, rfr, rnm⟩ := tl6_run (D := D - 1) cc (by omega) v1_9 RA3 x30 wd (m := mN) (by omega) kd' ky' ks_9' d0 d1 y0 y1 s0 s1 (xk := z2) (xz := z1) (xm := z0) e2_9 e1_9' (by rw [e0_9, em])
    rw [show D - 1 + 1 = D by omega] at hrun
    refine hp_call (mi := 345) (pc := 37) (tg := 282) (na := 4) (c := 78) (ci := 12) (st0 := [.int z0, .long z1, .int z2, .ref 94]) (st := []) (av := [.int z2, .long z1, .int z0]) hM_9 (by decide +kernel) v1_9 rfl rfl rfl (by decide) hrun r2 r3 ?_
    rw [r1_9]
    have F4 : ly_fr cst [] h0 r_9.2.1 := ly_fr_tr v2 rfr
    by_cases q8_9 : w_9.toInt = 0
    · exact mr6 c_9 hM_9 (by omega) rhy xm.toInt w_9 q8_9 (by omega) (by omega) m0_9 m1_9' (fun h5 a_9 ha_9 t1_9 t2_9 t3_9 => ⟨a_9, rfl, rfl, rfl, t1_9, nfr_L (hp_sub2 rfl (ly_fr_tr F4 t2_9)), fun z_9 => absurd ok_9 z_9, fun _ => ⟨fun z_9 => (by rcases z_9 with z_9 | z_9; exact absurd k2_9 z_9; omega), fun _ _ => ⟨w_9.toInt, rnm, Or.inl ⟨q8_9, ha_9, nfs_L (hp_sub2 rfl (ly_fr_tr F4 t2_9))⟩⟩⟩⟩)
    have nxt_9 : ∀ (l5 : am_L) (h5 : am_H) (z0 z1 : Int32) (z2 : Int64) (z3 : Int32), z0.toInt = s → z1.toInt = y → z2.toInt = d → z3.toInt = 1 → ly_hy m_tt ly_TH h5 → ly_fr cst [] r_9.2.1 h5 → r_9.2.1.length ≤ h5.length → hp_a l5 0 94 → hp_i l5 1 xm.toInt → hp_F cst strs (fun r_9 : am_Q => ∃ w_9 : Int32, r_9.1 = some (.int w_9) ∧ r_9.2.2.1 = 0 ∧ r_9.2.2.2 = 0 ∧ ly_hy m_tt ly_TH r_9.2.1 ∧ nfr cst xm.toInt [37376] h0 r_9.2.1 ∧ mdP X d y s wt row sz xm.toInt (ly_hv cst h0 28416 xm.toInt) (ly_hv cst h0 30464 xm.toInt) 0 w_9.toInt (nfs cst [37376] h0 r_9.2.1) (fun us => wM cst r_9.2.1 xm.toInt us ∧ ly_hv cst r_9.2.1 33536 xm.toInt = some 1)) D M_9 65 l5 [.int z0, .int z1, .long z2, .int z3, .ref 94] h5 := by
      intro l5 h5 z0 z1 z2 z3 f0_9 f1_9 f2_9 f3_9 t1_9 t2_9 t3_9 o0_9 o1
      have F5 : ly_fr cst [] h0 h5 := ly_fr_tr F4 t2_9
      have RA5 : rA cst h5 X := rA_k R (gk_fr F5 rfl rfl) (F5 _ _ _ rfl R.1)
      obtain ⟨rW, hrunW, wW, a1_9, a2, a3, ahy, afr', ares⟩ := lo_run (D := D - 4) cc (by omega) t1_9 RA5 x30 wd (y := y) (s := s) (k := 1) (d := d) (by omega) (by omega) (xk := z3) (xd := z2) (xy := z1) (xs := z0) f3_9 f2_9 f1_9 f0_9
      rw [show D - 4 + 4 = D by omega] at hrunW
      refine hp_call (mi := 345) (pc := 65) (tg := 284) (na := 5) (c := 78) (ci := 12) (st0 := [.int z0, .int z1, .long z2, .int z3, .ref 94]) (st := []) (av := [.int z3, .long z2, .int z1, .int z0]) hM_9 (by decide +kernel) t1_9 rfl rfl rfl (by decide) hrunW a2 a3 ?_
      rw [a1_9]
      have F6 : ly_fr cst [] h0 rW.2.1 := ly_fr_tr F5 afr'
      rw [show dz 1 d = d from if_pos (by decide)] at ares
      rcases ares with ⟨a_9', j_9', hf', eW⟩ | ⟨nf_9', eW⟩
      rotate_left
      · refine mr8 c_9 hM_9 (by omega) ahy xm.toInt wW eW (by omega) (by omega) o0_9 o1 (fun h7 a_9 ha_9 i1_9 i2_9 i3_9 => ⟨a_9, rfl, rfl, rfl, i1_9, nfr_L (hp_sub2 rfl (ly_fr_tr F6 i2_9)), fun z_9 => absurd ok_9 z_9, fun _ => ⟨fun z_9 => (by rcases z_9 with z_9 | z_9; exact absurd k2_9 z_9; omega), fun _ _ => ⟨w_9.toInt, rnm, Or.inr ⟨q8_9, [], Or.inr ⟨nf_9', rfl⟩, Or.inr ⟨?_, ?_, ?_, ?_⟩⟩⟩⟩⟩)
        · rw [pf9_b (Or.inr rfl)]
          exact RW.1
        · rw [ha_9, pf9_b (Or.inr rfl)]
          rfl
        · rw [wv9_0]
          exact wM_mv RW (ly_fr_tr F6 i2_9) rfl rfl
        · exact i2_9 _ _ _ rfl (F6 _ _ _ rfl kw)
      obtain ⟨⟨ha_9', -, ⟨hj', e1_9'', -⟩, -⟩, -⟩ := id hf'
      have lA' := (rc_ln R ha_9').2
      refine mr9 c_9 hM_9 (by omega) ahy xm.toInt (40 * (a_9' : Int) + (j_9' : Int)) wW eW (by omega) (by omega) (by omega) (by omega) o0_9 o1 (fun l7 h7 z4 z5 f4_9 f5_9 i1_9 i2_9 i3_9 p0_9 p1_9 p2_9 => ?_)
      have F7 : ly_fr cst [] h0 h7 := ly_fr_tr F6 i2_9
      have RA7 : rA cst h7 X := rA_k R (gk_fr F7 rfl rfl) (F7 _ _ _ rfl R.1)
      obtain ⟨tt, L7⟩ := wL_of i1_9 RA7 x30 ha_9' hj' e1_9''
      have R7 := wM_mv RW F7 rfl rfl
      have t330 := L7.2.2.2.2.2.1
      have t0_9 := L7.2.2.2.2.1
      obtain ⟨rB_9, hrunB, c1_9, c2_9, c3_9, chy, cfr, cT⟩ := my_run (D := D - 1) cc (by omega) i1_9 (m := xm.toInt) (by omega) (by omega) R7 L7 (by omega) (xm := z5) (xw := z4) f5_9 f4_9
      rw [show D - 1 + 1 = D by omega] at hrunB
      refine hp_call (mi := 345) (pc := 79) (tg := 346) (na := 3) (c := 78) (ci := 12) (st0 := [.int z4, .int z5, .ref 94]) (st := []) (av := [.int z5, .int z4]) hM_9 (by decide +kernel) i1_9 rfl rfl rfl (by decide) hrunB c2_9 c3_9 ?_
      rw [c1_9]
      have FB : ly_fr cst [37376] h0 rB_9.2.1 := ly_fr_tr (hp_sub2 rfl F7) cfr
      have RB := wM_mv R7 cfr rfl rfl
      have LB := wL_mv L7 cfr rfl rfl rfl rfl
      have kB := cT 0 0 (Nat.zero_le _) (Nat.zero_le _)
      rw [List.drop_zero, List.drop_zero] at kB
      have kB : ly_hv cst rB_9.2.1 37376 0 = some (lc9 row ((X[a_9']).2.2.1[j_9']).2.2.2 : Int) := kB
      have lc := lc9_l row ((X[a_9']).2.2.1[j_9']).2.2.2
      have wl := wv9_len _ row ((X[a_9']).2.2.1[j_9']).2.2.2 (Nat.le_refl _)
      have w8 := L7.2.2.2.2.2.2.1
      have n28_9 := RW.1
      have ep : pf9 row ((X[a_9']).2.2.1[j_9']).2.2.2 = ((X[a_9']).2.2.1[j_9']).2.2.2.length - lc9 row ((X[a_9']).2.2.1[j_9']).2.2.2 := rfl
      have LP_9 : lwP X d y s ((X[a_9']).2.2.1[j_9']).2.2.2 := Or.inl ⟨a_9', j_9', ha_9', hj', hf', rfl⟩
      have kcm := LB.2.2.2.2.2.2.2.2.1
      by_cases q_9 : 28 < row.length + pf9 row ((X[a_9']).2.2.1[j_9']).2.2.2
      · exact mrA c_9 hM_9 (by omega) chy xm.toInt (40 * (a_9' : Int) + (j_9' : Int)) (row.length : Int) (((X[a_9']).2.2.1[j_9']).2.2.2.length : Int) (lc9 row ((X[a_9']).2.2.1[j_9']).2.2.2 : Int) (by omega) (by omega) (by omega) (by omega) (by omega) (by omega) (by omega) (by omega) (by omega) (by omega) (by omega) RB.2.1 kcm kB p0_9 p1_9 p2_9 (fun h9 a_9 ha_9 j1 j2_9 j3_9 => ⟨a_9, rfl, rfl, rfl, j1, nfr_L (ly_fr_tr FB (hp_sub2 rfl j2_9)), fun z_9 => absurd ok_9 z_9, fun _ => ⟨fun z_9 => (by rcases z_9 with z_9 | z_9; exact absurd k2_9 z_9; omega), fun _ _ => ⟨w_9.toInt, rnm, Or.inr ⟨q8_9, ((X[a_9']).2.2.1[j_9']).2.2.2, LP_9, Or.inl ⟨q_9, ha_9, nfs_L (ly_fr_tr FB (hp_sub2 rfl j2_9))⟩⟩⟩⟩⟩)
      refine mrB c_9 hM_9 (by omega) chy xm.toInt (40 * (a_9' : Int) + (j_9' : Int)) (row.length : Int) (((X[a_9']).2.2.1[j_9']).2.2.2.length : Int) (lc9 row ((X[a_9']).2.2.1[j_9']).2.2.2 : Int) (by omega) (by omega) (by omega) (by omega) (by omega) (by omega) (by omega) (by omega) (by omega) (by omega) (by omega) RB.2.1 kcm kB p0_9 p1_9 p2_9 (fun l9 h9 j1 j2_9 j3_9 g0 g1 g2 g3_9 g4 g5_9 => ?_)
      refine hp_mono9 (mg_lp (hB := rB_9.2.1) cc hM_9 (by omega) (m := xm.toInt) (by omega) (by omega) RB LB (cfr _ _ _ rfl (F7 _ _ _ rfl kw)) cT (by omega) (row.length + ((X[a_9']).2.2.1[j_9']).2.2.2.length + 1) h9 l9 0 0 [] (by omega) (Nat.zero_le _) (Nat.zero_le _) (by rw [List.drop_zero, List.drop_zero, List.nil_append]) j1 (nfs_L j2_9) (fun k_9 hk => absurd hk (Nat.not_lt_zero _)) g0 g1 g2 g3_9 g4 g5_9) (fun r_9' z_9 => ?_)
      obtain ⟨a_9, y1', y2', y3', y4', y5', y6', y7', y8'⟩ := z_9
      refine ⟨a_9, y1', y2', y3', y4', nfr_tr (nfr_L FB) (fun r_9 i_9 v_9 _ x_9 y e_9 => y6' r_9 i_9 v_9 rfl x_9 y e_9), fun z_9 => absurd ok_9 z_9, fun _ => ⟨fun z_9 => (by rcases z_9 with z_9 | z_9; exact absurd k2_9 z_9; omega), fun _ _ => ⟨w_9.toInt, rnm, Or.inr ⟨q8_9, ((X[a_9']).2.2.1[j_9']).2.2.2, LP_9, Or.inr ⟨by omega, by omega, y7', y8'⟩⟩⟩⟩⟩
    by_cases q9_9 : w_9.toInt ≤ -1
    · exact mr70 c_9 hM_9 (by omega) rhy xm.toInt d y s w_9.toInt w_9 rfl (by omega) (by omega) d0 d1 y0 y1 s0 s1 w_9.le_toInt q9_9 (F4 _ _ _ rfl kd) (F4 _ _ _ rfl ky) (F4 _ _ _ rfl ks_9) m0_9 m1_9' (fun l5 h5 z0 z1 z2 z3 f0_9 f1_9 f2_9 f3_9 t1_9 t2_9 t3_9 o0_9 o1 => nxt_9 l5 h5 z0 z1 z2 z3 f0_9 f1_9 f2_9 f3_9 t1_9 t2_9 t3_9 o0_9 o1)
    · exact mr71 c_9 hM_9 (by omega) rhy xm.toInt d y s w_9.toInt w_9 rfl (by omega) (by omega) d0 d1 y0 y1 s0 s1 (by omega) w_9.toInt_le (F4 _ _ _ rfl kd) (F4 _ _ _ rfl ky) (F4 _ _ _ rfl ks_9) m0_9 m1_9' (fun l5 h5 z0 z1 z2 z3 f0_9 f1_9 f2_9 f3_9 t1_9 t2_9 t3_9 o0_9 o1 => nxt_9 l5 h5 z0 z1 z2 z3 f0_9 f1_9 f2_9 f3_9 t1_9 t2_9 t3_9 o0_9 o1)
  obtain ⟨n_9', r_9, hgo, w_9, r1_9, r2, r3, r4⟩ := go_9
  simp only [Nat.zero_add] at r2 r3
  exact ⟨r_9, Or.inr ⟨M_9, n_9', hM_9, hl, hgo⟩, w_9, r1_9, r2, r3, r4⟩

