/-! PRINTED by wip/p2/hp_wvi.py: weave, weaveIn, mend of the class -/
theorem wa0_k : hp_chk 122 0 2 [(0, (-9223372036854775808), 9223372036854775807), (1, 0, 27)] [] [(0, .inr (.inr (.inl (some 56)))), (1, .inr (.inl (0, [(0, 1)]))), (3, .inl (0, []))] [] [(10242, (0, []), (0, [(1, 1)]))] [] 2 [(23, ([], 2, [(0, (-9223372036854775808), 9223372036854775807), (1, 0, 27)], [], [(0, .inr (.inr (.inl (some 56)))), (1, .inr (.inl (0, [(0, 1)]))), (3, .inl (0, []))], [.inr (.inl (0, [(0, 1)])), .inl (0, [(1, 1)]), .inr (.inr (.inl (some 57)))], [(10242, (0, []), (0, [(1, 1)]))]))] [] = true := by decide +kernel
theorem wa0 {cst : am_K} {strs : List Nat} {Φ : am_Q → Prop} {D : Nat} {M : am_M} {h : am_H} {l : am_L} (c : hp_C cst strs D) (hM : m_P[122]? = some M) (hD : (2 : Int) ≤ (D : Int) + 1) (hy : ly_hy m_tt ly_TH h) (v n : Int) (b0 : (-9223372036854775808) ≤ v) (t0 : v ≤ 9223372036854775807) (b1 : 0 ≤ n) (t1 : n ≤ 27) (k0 : ly_hv cst h 10242 0 = some (n)) (l0 : hp_a l 0 56) (l1 : hp_j l 1 (v)) (l3 : hp_i l 3 0) (e0 : ∀ (l' : am_L) (h_9' : am_H) (y0 : Int64) (y1 : Int32), y0.toInt = (v) → y1.toInt = (n) → ly_hy m_tt ly_TH h_9' → ly_fr cst [] h h_9' → h.length ≤ h_9'.length → ly_hv cst h_9' 10242 0 = some (n) → hp_a l' 0 56 → hp_j l' 1 (v) → hp_i l' 3 0 → hp_F cst strs Φ D M 23 l' [.long y0, .int y1, .ref 57] h_9') : hp_F cst strs Φ D M 0 l [] h := by
  refine hp_arc c hM wa0_k hD [v, n] rfl hy (hp_Bc (z := v) rfl b0 t0 (hp_Bc (z := n) rfl b1 t1 hp_Bn)) hp_Fn (hp_Kc (zi := (0 + 0)) (zv := (0 + (1 * n + 0))) k0 rfl rfl (by omega) (by omega) hp_Kn) (hp_La l0 (hp_Lj (z := (0 + (1 * v + 0))) l1 rfl (by omega) (hp_Li (z := (0 + 0)) l3 rfl (by omega) hp_Ln))) trivial ?_ ?_
  · intro p_9 hp ys l' st_9' h_9' hys a1_9 a2 a3 gZ gL gS
    rcases List.mem_cons.mp hp with rfl | hp
    · obtain rfl := hp_y0 hys
      obtain ⟨y0, t0, rfl, q0, g0⟩ := hp_gSj (z := (0 + (1 * v + 0))) gS rfl
      obtain ⟨y1, t1, rfl, q1_9, g1⟩ := hp_gSi (z := (0 + (1 * n + 0))) g0 rfl
      obtain ⟨t2_9, rfl, g2⟩ := hp_gSa g1 (by decide)
      cases hp_gSn g2
      exact e0 l' h_9' y0 y1 (by omega) (by omega) a1_9 a2 a3 (hp_gK (zi := (0 + 0)) (zv := (0 + (1 * n + 0))) gZ.2.2.2 (List.mem_of_getElem? (i := 0) rfl) rfl rfl (by omega) (by omega)) (hp_gLa gL (List.mem_of_getElem? (i := 0) rfl) (by decide)) (hp_gLj (z := (0 + (1 * v + 0))) gL (List.mem_of_getElem? (i := 1) rfl) rfl (by omega)) (hp_gLi (z := (0 + 0)) gL (List.mem_of_getElem? (i := 2) rfl) rfl (by omega))
    cases hp
  · intro p_9 hp ys v h_9' hys a1_9 a2 a3 gZ gS
    cases hp
theorem wa1_k : hp_chk 122 24 2 [(0, (-9223372036854775808), 9223372036854775807), (1, 0, 27)] [] [(0, .inr (.inr (.inl (some 56)))), (1, .inr (.inl (0, [(0, 1)]))), (3, .inl (0, []))] [] [(10242, (0, []), (0, [(1, 1)]))] [] 2 [(33, ([], 2, [(0, (-9223372036854775808), 9223372036854775807), (1, 0, 27)], [], [(0, .inr (.inr (.inl (some 56)))), (1, .inr (.inl (0, [(0, 1)]))), (3, .inl (0, []))], [.inl (0, []), .inl (0, [(1, 1)]), .inr (.inr (.inl (some 58)))], [(10242, (0, []), (0, [(1, 1)]))]))] [] = true := by decide +kernel
theorem wa1 {cst : am_K} {strs : List Nat} {Φ : am_Q → Prop} {D : Nat} {M : am_M} {h : am_H} {l : am_L} (c : hp_C cst strs D) (hM : m_P[122]? = some M) (hD : (2 : Int) ≤ (D : Int) + 1) (hy : ly_hy m_tt ly_TH h) (v n : Int) (b0 : (-9223372036854775808) ≤ v) (t0 : v ≤ 9223372036854775807) (b1 : 0 ≤ n) (t1 : n ≤ 27) (k0 : ly_hv cst h 10242 0 = some (n)) (l0 : hp_a l 0 56) (l1 : hp_j l 1 (v)) (l3 : hp_i l 3 0) (e0 : ∀ (l' : am_L) (h_9' : am_H) (y0 : Int32) (y1 : Int32), y0.toInt = 0 → y1.toInt = (n) → ly_hy m_tt ly_TH h_9' → ly_fr cst [] h h_9' → h.length ≤ h_9'.length → ly_hv cst h_9' 10242 0 = some (n) → hp_a l' 0 56 → hp_j l' 1 (v) → hp_i l' 3 0 → hp_F cst strs Φ D M 33 l' [.int y0, .int y1, .ref 58] h_9') : hp_F cst strs Φ D M 24 l [] h := by
  refine hp_arc c hM wa1_k hD [v, n] rfl hy (hp_Bc (z := v) rfl b0 t0 (hp_Bc (z := n) rfl b1 t1 hp_Bn)) hp_Fn (hp_Kc (zi := (0 + 0)) (zv := (0 + (1 * n + 0))) k0 rfl rfl (by omega) (by omega) hp_Kn) (hp_La l0 (hp_Lj (z := (0 + (1 * v + 0))) l1 rfl (by omega) (hp_Li (z := (0 + 0)) l3 rfl (by omega) hp_Ln))) trivial ?_ ?_
  · intro p_9 hp ys l' st_9' h_9' hys a1_9 a2 a3 gZ gL gS
    rcases List.mem_cons.mp hp with rfl | hp
    · obtain rfl := hp_y0 hys
      obtain ⟨y0, t0, rfl, q0, g0⟩ := hp_gSi (z := (0 + 0)) gS rfl
      obtain ⟨y1, t1, rfl, q1_9, g1⟩ := hp_gSi (z := (0 + (1 * n + 0))) g0 rfl
      obtain ⟨t2_9, rfl, g2⟩ := hp_gSa g1 (by decide)
      cases hp_gSn g2
      exact e0 l' h_9' y0 y1 (by omega) (by omega) a1_9 a2 a3 (hp_gK (zi := (0 + 0)) (zv := (0 + (1 * n + 0))) gZ.2.2.2 (List.mem_of_getElem? (i := 0) rfl) rfl rfl (by omega) (by omega)) (hp_gLa gL (List.mem_of_getElem? (i := 0) rfl) (by decide)) (hp_gLj (z := (0 + (1 * v + 0))) gL (List.mem_of_getElem? (i := 1) rfl) rfl (by omega)) (hp_gLi (z := (0 + 0)) gL (List.mem_of_getElem? (i := 2) rfl) rfl (by omega))
    cases hp
  · intro p_9 hp ys v h_9' hys a1_9 a2 a3 gZ gS
    cases hp
theorem wa2_k : hp_chk 122 34 1 [(0, 0, 27)] [] [(0, .inr (.inr (.inl (some 56))))] [] [(10242, (0, []), (0, [(0, 1)]))] [10242] 2 [] [([], 1, [(0, 0, 27)], [], [], [.inl (1, [])], [(10242, (0, []), (1, [(0, 1)]))])] = true := by decide +kernel
theorem wa2 {cst : am_K} {strs : List Nat} {Φ : am_Q → Prop} {D : Nat} {M : am_M} {h : am_H} {l : am_L} (c : hp_C cst strs D) (hM : m_P[122]? = some M) (hD : (2 : Int) ≤ (D : Int) + 1) (hy : ly_hy m_tt ly_TH h) (n : Int) (b0 : 0 ≤ n) (t0 : n ≤ 27) (k0 : ly_hv cst h 10242 0 = some (n)) (l0 : hp_a l 0 56) (r0 : ∀ (h_9' : am_H) (y0 : Int32), y0.toInt = 1 → ly_hy m_tt ly_TH h_9' → ly_fr cst [10242] h h_9' → h.length ≤ h_9'.length → ly_hv cst h_9' 10242 0 = some (n + 1) → Φ (some (.int y0), h_9', 0, 0)) : hp_F cst strs Φ D M 34 l [] h := by
  refine hp_arc c hM wa2_k hD [n] rfl hy (hp_Bc (z := n) rfl b0 t0 hp_Bn) hp_Fn (hp_Kc (zi := (0 + 0)) (zv := (0 + (1 * n + 0))) k0 rfl rfl (by omega) (by omega) hp_Kn) (hp_La l0 hp_Ln) trivial ?_ ?_
  · intro p_9 hp ys l' st_9' h_9' hys a1_9 a2 a3 gZ gL gS
    cases hp
  · intro p_9 hp ys v_9 h_9' hys a1_9 a2 a3 gZ gS
    rcases List.mem_cons.mp hp with rfl | hp
    · obtain rfl := hp_y0 hys
      cases v_9 with
      | none => cases gS
      | some wz =>
        obtain ⟨y0, t0, s0_9, q0, -⟩ := hp_gSi (z := (1 + 0)) gS rfl
        cases s0_9
        exact r0 h_9' y0 (by omega) a1_9 a2 a3 (hp_gK (zi := (0 + 0)) (zv := (1 + (1 * n + 0))) gZ.2.2.2 (List.mem_of_getElem? (i := 0) rfl) rfl rfl (by omega) (by omega))
    cases hp
theorem wv0_k : hq_chk [60] 151 0 3 [(0, 0, 99), (1, (-1), 1239), (2, 0, 8)] [] [(0, .inr (.inr (.inl (some 44)))), (1, .inr (.inr (.inr (1, (0, [(0, 1)]))))), (2, .inl (0, [(1, 1)])), (3, .inl (0, [(2, 1)]))] [] [] [10242, 10243] 4 [(16, ([], 3, [(0, 0, 99), (1, (-1), 1239), (2, 0, 8)], [], [(0, .inr (.inr (.inl (some 44)))), (1, .inr (.inr (.inr (1, (0, [(0, 1)]))))), (2, .inl (0, [(1, 1)])), (3, .inl (0, [(2, 1)])), (4, .inl (0, [])), (5, .inl (0, [])), (6, .inl (0, []))], [], [(10242, (0, []), (0, []))]))] [] = true := by decide +kernel
theorem wv0 {cst : am_K} {strs : List Nat} {Φ : am_Q → Prop} {D : Nat} {M : am_M} {h : am_H} {l : am_L} (c : hp_C cst strs D) (hM : m_P[151]? = some M) (hD : (4 : Int) ≤ (D : Int) + 1) (hy : ly_hy m_tt ly_TH h) (m cq w : Int) (b0 : 0 ≤ m) (t0 : m ≤ 99) (b1 : (-1) ≤ cq) (t1 : cq ≤ 1239) (b2 : 0 ≤ w) (t2 : w ≤ 8) (l0 : hp_a l 0 44) (l1 : hp_mlj l 1 1 h.length (m)) (l2 : hp_i l 2 (cq)) (l3 : hp_i l 3 (w)) (e0 : ∀ (l' : am_L) (h_9' : am_H), ly_hy m_tt ly_TH h_9' → ly_fr cst [10242, 10243] h h_9' → h.length ≤ h_9'.length → ly_hv cst h_9' 10242 0 = some 0 → hp_a l' 0 44 → hp_mlj l' 1 1 h_9'.length (m) → hp_i l' 2 (cq) → hp_i l' 3 (w) → hp_i l' 4 0 → hp_i l' 5 0 → hp_i l' 6 0 → hp_F cst strs Φ D M 16 l' [] h_9') : hp_F cst strs Φ D M 0 l [] h := by
  refine hq_arc c hM wv0_k hD [m, cq, w] rfl hy (hp_Bc (z := m) rfl b0 t0 (hp_Bc (z := cq) rfl b1 t1 (hp_Bc (z := w) rfl b2 t2 hp_Bn))) hp_Fn hp_Kn (hp_La l0 (hp_Lmj (by decide) (z := (0 + (1 * m + 0))) l1 rfl (by omega) (hp_Li (z := (0 + (1 * cq + 0))) l2 rfl (by omega) (hp_Li (z := (0 + (1 * w + 0))) l3 rfl (by omega) hp_Ln)))) trivial ?_ ?_
  · intro p_9 hp ys l' st_9' h_9' hys a1_9 a2 a3 gZ gL gS
    rcases List.mem_cons.mp hp with rfl | hp
    · obtain rfl := hp_y0 hys
      cases hp_gSn gS
      exact e0 l' h_9' a1_9 a2 a3 (hp_gK (zi := (0 + 0)) (zv := (0 + 0)) gZ.2.2.2 (List.mem_of_getElem? (i := 0) rfl) rfl rfl (by omega) (by omega)) (hp_gLa gL (List.mem_of_getElem? (i := 0) rfl) (by decide)) (hp_gLmj (z := (0 + (1 * m + 0))) gL (List.mem_of_getElem? (i := 1) rfl) rfl (by omega)) (hp_gLi (z := (0 + (1 * cq + 0))) gL (List.mem_of_getElem? (i := 2) rfl) rfl (by omega)) (hp_gLi (z := (0 + (1 * w + 0))) gL (List.mem_of_getElem? (i := 3) rfl) rfl (by omega)) (hp_gLi (z := (0 + 0)) gL (List.mem_of_getElem? (i := 4) rfl) rfl (by omega)) (hp_gLi (z := (0 + 0)) gL (List.mem_of_getElem? (i := 5) rfl) rfl (by omega)) (hp_gLi (z := (0 + 0)) gL (List.mem_of_getElem? (i := 6) rfl) rfl (by omega))
    cases hp
  · intro p_9 hp ys v_9 h_9' hys a1_9 a2 a3 gZ gS
    cases hp
theorem wvA_k : hq_chk [146, 25, 125, 124, 150] 151 16 11 [(0, 0, 99), (1, 0, 1239), (2, 0, 8), (3, 0, 28), (4, 0, 27), (5, 0, 7), (6, 0, 27), (7, 0, 1240), (8, 0, 10240), (9, 0, 10240), (10, (-9223372036854775808), 9223372036854775807)] [((-1), [(2, 1), (5, (-1))]), ((-1), [(3, 1), (4, (-1))]), ((-1), [(1, (-1)), (7, 1)]), ((-1), [(5, (-1)), (8, (-1)), (9, 1)])] [(0, .inr (.inr (.inl (some 44)))), (1, .inr (.inr (.inr (1, (0, [(0, 1)]))))), (2, .inl (0, [(1, 1)])), (3, .inl (0, [(2, 1)])), (4, .inl (0, [(4, 1)])), (5, .inl (0, [(5, 1)])), (6, .inl (0, [(6, 1)]))] [] [(45570, (0, [(0, 1)]), (0, [(3, 1)])), (3588, (0, []), (0, [(7, 1)])), (5632, (0, [(1, 1)]), (0, [(8, 1)])), (5632, (1, [(1, 1)]), (0, [(9, 1)])), (45824, (0, [(0, 32), (4, 1)]), (0, [(10, 1)])), (5888, (0, [(5, 1), (8, 1)]), (0, [(10, 1)]))] [] 5 [(167, ([], 11, [(0, 0, 99), (1, 0, 1239), (2, 0, 8), (3, 0, 28), (4, 0, 27), (5, 0, 7), (6, 0, 27), (7, 0, 1240), (8, 0, 10240), (9, 0, 10240), (10, (-9223372036854775808), 9223372036854775807)], [], [(0, .inr (.inr (.inl (some 44)))), (1, .inr (.inr (.inr (1, (0, [(0, 1)]))))), (2, .inl (0, [(1, 1)])), (3, .inl (0, [(2, 1)])), (4, .inl (0, [(4, 1)])), (5, .inl (0, [(5, 1)])), (6, .inl (0, [(6, 1)])), (7, .inl (1, [])), (8, .inl (0, []))], [.inl (0, []), .inr (.inl (0, [(10, 1)])), .inr (.inr (.inl (some 56)))], []))] [] = true := by decide +kernel
theorem wvA {cst : am_K} {strs : List Nat} {Φ : am_Q → Prop} {D : Nat} {M : am_M} {h : am_H} {l : am_L} (c : hp_C cst strs D) (hM : m_P[151]? = some M) (hD : (5 : Int) ≤ (D : Int) + 1) (hy : ly_hy m_tt ly_TH h) (m cq w z i j n cl f g v : Int) (b0 : 0 ≤ m) (t0 : m ≤ 99) (b1 : 0 ≤ cq) (t1 : cq ≤ 1239) (b2 : 0 ≤ w) (t2 : w ≤ 8) (b3 : 0 ≤ z) (t3 : z ≤ 28) (b4 : 0 ≤ i) (t4 : i ≤ 27) (b5 : 0 ≤ j) (t5 : j ≤ 7) (b6 : 0 ≤ n) (t6 : n ≤ 27) (b7 : 0 ≤ cl) (t7 : cl ≤ 1240) (b8 : 0 ≤ f) (t8 : f ≤ 10240) (b9 : 0 ≤ g) (t9 : g ≤ 10240) (b10 : (-9223372036854775808) ≤ v) (t10 : v ≤ 9223372036854775807) (f0 : 0 ≤ (w - j - 1)) (f1 : 0 ≤ (z - i - 1)) (f2 : 0 ≤ (cl - cq - 1)) (f3 : 0 ≤ (g - f - j - 1)) (k0 : ly_hv cst h 45570 (m) = some (z)) (k1 : ly_hv cst h 3588 0 = some (cl)) (k2 : ly_hv cst h 5632 (cq) = some (f)) (k3 : ly_hv cst h 5632 (cq + 1) = some (g)) (k4 : ly_hv cst h 45824 (32 * m + i) = some (v)) (k5 : ly_hv cst h 5888 (f + j) = some (v)) (l0 : hp_a l 0 44) (l1 : hp_mlj l 1 1 h.length (m)) (l2 : hp_i l 2 (cq)) (l3 : hp_i l 3 (w)) (l4 : hp_i l 4 (i)) (l5 : hp_i l 5 (j)) (l6 : hp_i l 6 (n)) (e0 : ∀ (l' : am_L) (h_9' : am_H) (y0 : Int32) (y1 : Int64), y0.toInt = 0 → y1.toInt = (v) → ly_hy m_tt ly_TH h_9' → ly_fr cst [] h h_9' → h.length ≤ h_9'.length → hp_a l' 0 44 → hp_mlj l' 1 1 h_9'.length (m) → hp_i l' 2 (cq) → hp_i l' 3 (w) → hp_i l' 4 (i) → hp_i l' 5 (j) → hp_i l' 6 (n) → hp_i l' 7 1 → hp_i l' 8 0 → hp_F cst strs Φ D M 167 l' [.int y0, .long y1, .ref 56] h_9') : hp_F cst strs Φ D M 16 l [] h := by
  refine hq_arc c hM wvA_k hD [m, cq, w, z, i, j, n, cl, f, g, v] rfl hy (hp_Bc (z := m) rfl b0 t0 (hp_Bc (z := cq) rfl b1 t1 (hp_Bc (z := w) rfl b2 t2 (hp_Bc (z := z) rfl b3 t3 (hp_Bc (z := i) rfl b4 t4 (hp_Bc (z := j) rfl b5 t5 (hp_Bc (z := n) rfl b6 t6 (hp_Bc (z := cl) rfl b7 t7 (hp_Bc (z := f) rfl b8 t8 (hp_Bc (z := g) rfl b9 t9 (hp_Bc (z := v) rfl b10 t10 hp_Bn))))))))))) (hp_Fc (z := ((-1) + (1 * w + ((-1) * j + 0)))) rfl (by omega) (hp_Fc (z := ((-1) + (1 * z + ((-1) * i + 0)))) rfl (by omega) (hp_Fc (z := ((-1) + ((-1) * cq + (1 * cl + 0)))) rfl (by omega) (hp_Fc (z := ((-1) + ((-1) * j + ((-1) * f + (1 * g + 0))))) rfl (by omega) hp_Fn)))) (hp_Kc (zi := (0 + (1 * m + 0))) (zv := (0 + (1 * z + 0))) k0 rfl rfl (by omega) (by omega) (hp_Kc (zi := (0 + 0)) (zv := (0 + (1 * cl + 0))) k1 rfl rfl (by omega) (by omega) (hp_Kc (zi := (0 + (1 * cq + 0))) (zv := (0 + (1 * f + 0))) k2 rfl rfl (by omega) (by omega) (hp_Kc (zi := (1 + (1 * cq + 0))) (zv := (0 + (1 * g + 0))) k3 rfl rfl (by omega) (by omega) (hp_Kc (zi := (0 + (32 * m + (1 * i + 0)))) (zv := (0 + (1 * v + 0))) k4 rfl rfl (by omega) (by omega) (hp_Kc (zi := (0 + (1 * j + (1 * f + 0)))) (zv := (0 + (1 * v + 0))) k5 rfl rfl (by omega) (by omega) hp_Kn)))))) (hp_La l0 (hp_Lmj (by decide) (z := (0 + (1 * m + 0))) l1 rfl (by omega) (hp_Li (z := (0 + (1 * cq + 0))) l2 rfl (by omega) (hp_Li (z := (0 + (1 * w + 0))) l3 rfl (by omega) (hp_Li (z := (0 + (1 * i + 0))) l4 rfl (by omega) (hp_Li (z := (0 + (1 * j + 0))) l5 rfl (by omega) (hp_Li (z := (0 + (1 * n + 0))) l6 rfl (by omega) hp_Ln))))))) trivial ?_ ?_
  · intro p_9 hp ys l' st_9' h_9' hys a1_9 a2 a3 gZ gL gS
    rcases List.mem_cons.mp hp with rfl | hp
    · obtain rfl := hp_y0 hys
      obtain ⟨y0, t0, rfl, q0, g0⟩ := hp_gSi (z := (0 + 0)) gS rfl
      obtain ⟨y1, t1, rfl, q1_9, g1⟩ := hp_gSj (z := (0 + (1 * v + 0))) g0 rfl
      obtain ⟨t2, rfl, g2⟩ := hp_gSa g1 (by decide)
      cases hp_gSn g2
      exact e0 l' h_9' y0 y1 (by omega) (by omega) a1_9 a2 a3 (hp_gLa gL (List.mem_of_getElem? (i := 0) rfl) (by decide)) (hp_gLmj (z := (0 + (1 * m + 0))) gL (List.mem_of_getElem? (i := 1) rfl) rfl (by omega)) (hp_gLi (z := (0 + (1 * cq + 0))) gL (List.mem_of_getElem? (i := 2) rfl) rfl (by omega)) (hp_gLi (z := (0 + (1 * w + 0))) gL (List.mem_of_getElem? (i := 3) rfl) rfl (by omega)) (hp_gLi (z := (0 + (1 * i + 0))) gL (List.mem_of_getElem? (i := 4) rfl) rfl (by omega)) (hp_gLi (z := (0 + (1 * j + 0))) gL (List.mem_of_getElem? (i := 5) rfl) rfl (by omega)) (hp_gLi (z := (0 + (1 * n + 0))) gL (List.mem_of_getElem? (i := 6) rfl) rfl (by omega)) (hp_gLi (z := (1 + 0)) gL (List.mem_of_getElem? (i := 7) rfl) rfl (by omega)) (hp_gLi (z := (0 + 0)) gL (List.mem_of_getElem? (i := 8) rfl) rfl (by omega))
    cases hp
  · intro p_9 hp ys v h_9' hys a1_9 a2 a3 gZ gS
    cases hp
theorem wvB_k : hq_chk [146, 25, 125, 124, 150] 151 16 10 [(0, 0, 99), (1, 0, 1239), (2, 0, 8), (3, 0, 28), (4, 0, 7), (5, 0, 27), (6, 0, 1240), (7, 0, 10240), (8, 0, 10240), (9, (-9223372036854775808), 9223372036854775807)] [((-1), [(2, 1), (4, (-1))]), ((-1), [(1, (-1)), (6, 1)]), ((-1), [(4, (-1)), (7, (-1)), (8, 1)])] [(0, .inr (.inr (.inl (some 44)))), (1, .inr (.inr (.inr (1, (0, [(0, 1)]))))), (2, .inl (0, [(1, 1)])), (3, .inl (0, [(2, 1)])), (4, .inl (0, [(3, 1)])), (5, .inl (0, [(4, 1)])), (6, .inl (0, [(5, 1)]))] [] [(45570, (0, [(0, 1)]), (0, [(3, 1)])), (3588, (0, []), (0, [(6, 1)])), (5632, (0, [(1, 1)]), (0, [(7, 1)])), (5632, (1, [(1, 1)]), (0, [(8, 1)])), (5888, (0, [(4, 1), (7, 1)]), (0, [(9, 1)]))] [] 5 [(167, ([], 10, [(0, 0, 99), (1, 0, 1239), (2, 0, 8), (3, 0, 28), (4, 0, 7), (5, 0, 27), (6, 0, 1240), (7, 0, 10240), (8, 0, 10240), (9, (-9223372036854775808), 9223372036854775807)], [], [(0, .inr (.inr (.inl (some 44)))), (1, .inr (.inr (.inr (1, (0, [(0, 1)]))))), (2, .inl (0, [(1, 1)])), (3, .inl (0, [(2, 1)])), (4, .inl (0, [(3, 1)])), (5, .inl (0, [(4, 1)])), (6, .inl (0, [(5, 1)])), (7, .inl (0, [])), (8, .inl (1, []))], [.inl (0, []), .inr (.inl (0, [(9, 1)])), .inr (.inr (.inl (some 56)))], []))] [] = true := by decide +kernel
theorem wvB {cst : am_K} {strs : List Nat} {Φ : am_Q → Prop} {D : Nat} {M : am_M} {h : am_H} {l : am_L} (c : hp_C cst strs D) (hM : m_P[151]? = some M) (hD : (5 : Int) ≤ (D : Int) + 1) (hy : ly_hy m_tt ly_TH h) (m cq w z j n cl f g v : Int) (b0 : 0 ≤ m) (t0 : m ≤ 99) (b1 : 0 ≤ cq) (t1 : cq ≤ 1239) (b2 : 0 ≤ w) (t2 : w ≤ 8) (b3 : 0 ≤ z) (t3 : z ≤ 28) (b4 : 0 ≤ j) (t4 : j ≤ 7) (b5 : 0 ≤ n) (t5 : n ≤ 27) (b6 : 0 ≤ cl) (t6 : cl ≤ 1240) (b7 : 0 ≤ f) (t7 : f ≤ 10240) (b8 : 0 ≤ g) (t8 : g ≤ 10240) (b9 : (-9223372036854775808) ≤ v) (t9 : v ≤ 9223372036854775807) (f0 : 0 ≤ (w - j - 1)) (f1 : 0 ≤ (cl - cq - 1)) (f2 : 0 ≤ (g - f - j - 1)) (k0 : ly_hv cst h 45570 (m) = some (z)) (k1 : ly_hv cst h 3588 0 = some (cl)) (k2 : ly_hv cst h 5632 (cq) = some (f)) (k3 : ly_hv cst h 5632 (cq + 1) = some (g)) (k4 : ly_hv cst h 5888 (f + j) = some (v)) (l0 : hp_a l 0 44) (l1 : hp_mlj l 1 1 h.length (m)) (l2 : hp_i l 2 (cq)) (l3 : hp_i l 3 (w)) (l4 : hp_i l 4 (z)) (l5 : hp_i l 5 (j)) (l6 : hp_i l 6 (n)) (e0 : ∀ (l' : am_L) (h_9' : am_H) (y0 : Int32) (y1 : Int64), y0.toInt = 0 → y1.toInt = (v) → ly_hy m_tt ly_TH h_9' → ly_fr cst [] h h_9' → h.length ≤ h_9'.length → hp_a l' 0 44 → hp_mlj l' 1 1 h_9'.length (m) → hp_i l' 2 (cq) → hp_i l' 3 (w) → hp_i l' 4 (z) → hp_i l' 5 (j) → hp_i l' 6 (n) → hp_i l' 7 0 → hp_i l' 8 1 → hp_F cst strs Φ D M 167 l' [.int y0, .long y1, .ref 56] h_9') : hp_F cst strs Φ D M 16 l [] h := by
  refine hq_arc c hM wvB_k hD [m, cq, w, z, j, n, cl, f, g, v] rfl hy (hp_Bc (z := m) rfl b0 t0 (hp_Bc (z := cq) rfl b1 t1 (hp_Bc (z := w) rfl b2 t2 (hp_Bc (z := z) rfl b3 t3 (hp_Bc (z := j) rfl b4 t4 (hp_Bc (z := n) rfl b5 t5 (hp_Bc (z := cl) rfl b6 t6 (hp_Bc (z := f) rfl b7 t7 (hp_Bc (z := g) rfl b8 t8 (hp_Bc (z := v) rfl b9 t9 hp_Bn)))))))))) (hp_Fc (z := ((-1) + (1 * w + ((-1) * j + 0)))) rfl (by omega) (hp_Fc (z := ((-1) + ((-1) * cq + (1 * cl + 0)))) rfl (by omega) (hp_Fc (z := ((-1) + ((-1) * j + ((-1) * f + (1 * g + 0))))) rfl (by omega) hp_Fn))) (hp_Kc (zi := (0 + (1 * m + 0))) (zv := (0 + (1 * z + 0))) k0 rfl rfl (by omega) (by omega) (hp_Kc (zi := (0 + 0)) (zv := (0 + (1 * cl + 0))) k1 rfl rfl (by omega) (by omega) (hp_Kc (zi := (0 + (1 * cq + 0))) (zv := (0 + (1 * f + 0))) k2 rfl rfl (by omega) (by omega) (hp_Kc (zi := (1 + (1 * cq + 0))) (zv := (0 + (1 * g + 0))) k3 rfl rfl (by omega) (by omega) (hp_Kc (zi := (0 + (1 * j + (1 * f + 0)))) (zv := (0 + (1 * v + 0))) k4 rfl rfl (by omega) (by omega) hp_Kn))))) (hp_La l0 (hp_Lmj (by decide) (z := (0 + (1 * m + 0))) l1 rfl (by omega) (hp_Li (z := (0 + (1 * cq + 0))) l2 rfl (by omega) (hp_Li (z := (0 + (1 * w + 0))) l3 rfl (by omega) (hp_Li (z := (0 + (1 * z + 0))) l4 rfl (by omega) (hp_Li (z := (0 + (1 * j + 0))) l5 rfl (by omega) (hp_Li (z := (0 + (1 * n + 0))) l6 rfl (by omega) hp_Ln))))))) trivial ?_ ?_
  · intro p_9 hp ys l' st_9' h_9' hys a1_9 a2 a3 gZ gL gS
    rcases List.mem_cons.mp hp with rfl | hp
    · obtain rfl := hp_y0 hys
      obtain ⟨y0, t0, rfl, q0, g0⟩ := hp_gSi (z := (0 + 0)) gS rfl
      obtain ⟨y1, t1, rfl, q1_9, g1⟩ := hp_gSj (z := (0 + (1 * v + 0))) g0 rfl
      obtain ⟨t2, rfl, g2⟩ := hp_gSa g1 (by decide)
      cases hp_gSn g2
      exact e0 l' h_9' y0 y1 (by omega) (by omega) a1_9 a2 a3 (hp_gLa gL (List.mem_of_getElem? (i := 0) rfl) (by decide)) (hp_gLmj (z := (0 + (1 * m + 0))) gL (List.mem_of_getElem? (i := 1) rfl) rfl (by omega)) (hp_gLi (z := (0 + (1 * cq + 0))) gL (List.mem_of_getElem? (i := 2) rfl) rfl (by omega)) (hp_gLi (z := (0 + (1 * w + 0))) gL (List.mem_of_getElem? (i := 3) rfl) rfl (by omega)) (hp_gLi (z := (0 + (1 * z + 0))) gL (List.mem_of_getElem? (i := 4) rfl) rfl (by omega)) (hp_gLi (z := (0 + (1 * j + 0))) gL (List.mem_of_getElem? (i := 5) rfl) rfl (by omega)) (hp_gLi (z := (0 + (1 * n + 0))) gL (List.mem_of_getElem? (i := 6) rfl) rfl (by omega)) (hp_gLi (z := (0 + 0)) gL (List.mem_of_getElem? (i := 7) rfl) rfl (by omega)) (hp_gLi (z := (1 + 0)) gL (List.mem_of_getElem? (i := 8) rfl) rfl (by omega))
    cases hp
  · intro p_9 hp ys v h_9' hys a1_9 a2 a3 gZ gS
    cases hp
theorem wvC_k : hq_chk [146, 25, 125, 124, 150] 151 16 13 [(0, 0, 99), (1, 0, 1239), (2, 0, 8), (3, 0, 28), (4, 0, 27), (5, 0, 7), (6, 0, 27), (7, 0, 1240), (8, 0, 10240), (9, 0, 10240), (10, (-9223372036854775808), 9223372036854775807), (11, (-9223372036854775808), 9223372036854775807), (12, 0, 99)] [((-1), [(2, 1), (5, (-1))]), ((-1), [(3, 1), (4, (-1))]), ((-1), [(1, (-1)), (7, 1)]), ((-1), [(5, (-1)), (8, (-1)), (9, 1)])] [(0, .inr (.inr (.inl (some 44)))), (1, .inr (.inr (.inr (1, (0, [(0, 1)]))))), (2, .inl (0, [(1, 1)])), (3, .inl (0, [(2, 1)])), (4, .inl (0, [(4, 1)])), (5, .inl (0, [(5, 1)])), (6, .inl (0, [(6, 1)]))] [] [(45570, (0, [(0, 1)]), (0, [(3, 1)])), (3588, (0, []), (0, [(7, 1)])), (5632, (0, [(1, 1)]), (0, [(8, 1)])), (5632, (1, [(1, 1)]), (0, [(9, 1)])), (45824, (0, [(0, 32), (4, 1)]), (0, [(10, 1)])), (5888, (0, [(5, 1), (8, 1)]), (0, [(11, 1)])), (61000, (0, [(10, 1), (11, (-1))]), (1, [])), (9984, (1, [(4, 9), (5, 1)]), (0, [(12, 1)])), (9984, (0, [(4, 9), (5, 1)]), (1, [(12, 1)]))] [] 5 [(167, ([], 13, [(0, 0, 99), (1, 0, 1239), (2, 0, 8), (3, 0, 28), (4, 0, 27), (5, 0, 7), (6, 0, 27), (7, 0, 1240), (8, 0, 10240), (9, 0, 10240), (10, (-9223372036854775808), 9223372036854775807), (11, (-9223372036854775808), 9223372036854775807), (12, 0, 99)], [], [(0, .inr (.inr (.inl (some 44)))), (1, .inr (.inr (.inr (1, (0, [(0, 1)]))))), (2, .inl (0, [(1, 1)])), (3, .inl (0, [(2, 1)])), (4, .inl (0, [(4, 1)])), (5, .inl (0, [(5, 1)])), (6, .inl (0, [(6, 1)])), (7, .inl (0, [])), (8, .inl (1, []))], [.inl (0, []), .inr (.inl (0, [(11, 1)])), .inr (.inr (.inl (some 56)))], []))] [] = true := by decide +kernel
theorem wvC {cst : am_K} {strs : List Nat} {Φ : am_Q → Prop} {D : Nat} {M : am_M} {h : am_H} {l : am_L} (c : hp_C cst strs D) (hM : m_P[151]? = some M) (hD : (5 : Int) ≤ (D : Int) + 1) (hy : ly_hy m_tt ly_TH h) (m cq w z i j n cl f g u v x : Int) (b0 : 0 ≤ m) (t0 : m ≤ 99) (b1 : 0 ≤ cq) (t1 : cq ≤ 1239) (b2 : 0 ≤ w) (t2 : w ≤ 8) (b3 : 0 ≤ z) (t3 : z ≤ 28) (b4 : 0 ≤ i) (t4 : i ≤ 27) (b5 : 0 ≤ j) (t5 : j ≤ 7) (b6 : 0 ≤ n) (t6 : n ≤ 27) (b7 : 0 ≤ cl) (t7 : cl ≤ 1240) (b8 : 0 ≤ f) (t8 : f ≤ 10240) (b9 : 0 ≤ g) (t9 : g ≤ 10240) (b10 : (-9223372036854775808) ≤ u) (t10 : u ≤ 9223372036854775807) (b11 : (-9223372036854775808) ≤ v) (t11 : v ≤ 9223372036854775807) (b12 : 0 ≤ x) (t12 : x ≤ 99) (f0 : 0 ≤ (w - j - 1)) (f1 : 0 ≤ (z - i - 1)) (f2 : 0 ≤ (cl - cq - 1)) (f3 : 0 ≤ (g - f - j - 1)) (k0 : ly_hv cst h 45570 (m) = some (z)) (k1 : ly_hv cst h 3588 0 = some (cl)) (k2 : ly_hv cst h 5632 (cq) = some (f)) (k3 : ly_hv cst h 5632 (cq + 1) = some (g)) (k4 : ly_hv cst h 45824 (32 * m + i) = some (u)) (k5 : ly_hv cst h 5888 (f + j) = some (v)) (k6 : ly_hv cst h 61000 (u - v) = some 1) (k7 : ly_hv cst h 9984 (9 * i + j + 1) = some (x)) (k8 : ly_hv cst h 9984 (9 * i + j) = some (x + 1)) (l0 : hp_a l 0 44) (l1 : hp_mlj l 1 1 h.length (m)) (l2 : hp_i l 2 (cq)) (l3 : hp_i l 3 (w)) (l4 : hp_i l 4 (i)) (l5 : hp_i l 5 (j)) (l6 : hp_i l 6 (n)) (e0 : ∀ (l' : am_L) (h_9' : am_H) (y0 : Int32) (y1 : Int64), y0.toInt = 0 → y1.toInt = (v) → ly_hy m_tt ly_TH h_9' → ly_fr cst [] h h_9' → h.length ≤ h_9'.length → hp_a l' 0 44 → hp_mlj l' 1 1 h_9'.length (m) → hp_i l' 2 (cq) → hp_i l' 3 (w) → hp_i l' 4 (i) → hp_i l' 5 (j) → hp_i l' 6 (n) → hp_i l' 7 0 → hp_i l' 8 1 → hp_F cst strs Φ D M 167 l' [.int y0, .long y1, .ref 56] h_9') : hp_F cst strs Φ D M 16 l [] h := by
  refine hq_arc c hM wvC_k hD [m, cq, w, z, i, j, n, cl, f, g, u, v, x] rfl hy (hp_Bc (z := m) rfl b0 t0 (hp_Bc (z := cq) rfl b1 t1 (hp_Bc (z := w) rfl b2 t2 (hp_Bc (z := z) rfl b3 t3 (hp_Bc (z := i) rfl b4 t4 (hp_Bc (z := j) rfl b5 t5 (hp_Bc (z := n) rfl b6 t6 (hp_Bc (z := cl) rfl b7 t7 (hp_Bc (z := f) rfl b8 t8 (hp_Bc (z := g) rfl b9 t9 (hp_Bc (z := u) rfl b10 t10 (hp_Bc (z := v) rfl b11 t11 (hp_Bc (z := x) rfl b12 t12 hp_Bn))))))))))))) (hp_Fc (z := ((-1) + (1 * w + ((-1) * j + 0)))) rfl (by omega) (hp_Fc (z := ((-1) + (1 * z + ((-1) * i + 0)))) rfl (by omega) (hp_Fc (z := ((-1) + ((-1) * cq + (1 * cl + 0)))) rfl (by omega) (hp_Fc (z := ((-1) + ((-1) * j + ((-1) * f + (1 * g + 0))))) rfl (by omega) hp_Fn)))) (hp_Kc (zi := (0 + (1 * m + 0))) (zv := (0 + (1 * z + 0))) k0 rfl rfl (by omega) (by omega) (hp_Kc (zi := (0 + 0)) (zv := (0 + (1 * cl + 0))) k1 rfl rfl (by omega) (by omega) (hp_Kc (zi := (0 + (1 * cq + 0))) (zv := (0 + (1 * f + 0))) k2 rfl rfl (by omega) (by omega) (hp_Kc (zi := (1 + (1 * cq + 0))) (zv := (0 + (1 * g + 0))) k3 rfl rfl (by omega) (by omega) (hp_Kc (zi := (0 + (32 * m + (1 * i + 0)))) (zv := (0 + (1 * u + 0))) k4 rfl rfl (by omega) (by omega) (hp_Kc (zi := (0 + (1 * j + (1 * f + 0)))) (zv := (0 + (1 * v + 0))) k5 rfl rfl (by omega) (by omega) (hp_Kc (zi := (0 + (1 * u + ((-1) * v + 0)))) (zv := (1 + 0)) k6 rfl rfl (by omega) (by omega) (hp_Kc (zi := (1 + (9 * i + (1 * j + 0)))) (zv := (0 + (1 * x + 0))) k7 rfl rfl (by omega) (by omega) (hp_Kc (zi := (0 + (9 * i + (1 * j + 0)))) (zv := (1 + (1 * x + 0))) k8 rfl rfl (by omega) (by omega) hp_Kn))))))))) (hp_La l0 (hp_Lmj (by decide) (z := (0 + (1 * m + 0))) l1 rfl (by omega) (hp_Li (z := (0 + (1 * cq + 0))) l2 rfl (by omega) (hp_Li (z := (0 + (1 * w + 0))) l3 rfl (by omega) (hp_Li (z := (0 + (1 * i + 0))) l4 rfl (by omega) (hp_Li (z := (0 + (1 * j + 0))) l5 rfl (by omega) (hp_Li (z := (0 + (1 * n + 0))) l6 rfl (by omega) hp_Ln))))))) trivial ?_ ?_
  · intro p_9 hp ys l' st_9' h_9' hys a1_9 a2 a3 gZ gL gS
    rcases List.mem_cons.mp hp with rfl | hp
    · obtain rfl := hp_y0 hys
      obtain ⟨y0, t0, rfl, q0, g0⟩ := hp_gSi (z := (0 + 0)) gS rfl
      obtain ⟨y1, t1, rfl, q1_9, g1⟩ := hp_gSj (z := (0 + (1 * v + 0))) g0 rfl
      obtain ⟨t2, rfl, g2⟩ := hp_gSa g1 (by decide)
      cases hp_gSn g2
      exact e0 l' h_9' y0 y1 (by omega) (by omega) a1_9 a2 a3 (hp_gLa gL (List.mem_of_getElem? (i := 0) rfl) (by decide)) (hp_gLmj (z := (0 + (1 * m + 0))) gL (List.mem_of_getElem? (i := 1) rfl) rfl (by omega)) (hp_gLi (z := (0 + (1 * cq + 0))) gL (List.mem_of_getElem? (i := 2) rfl) rfl (by omega)) (hp_gLi (z := (0 + (1 * w + 0))) gL (List.mem_of_getElem? (i := 3) rfl) rfl (by omega)) (hp_gLi (z := (0 + (1 * i + 0))) gL (List.mem_of_getElem? (i := 4) rfl) rfl (by omega)) (hp_gLi (z := (0 + (1 * j + 0))) gL (List.mem_of_getElem? (i := 5) rfl) rfl (by omega)) (hp_gLi (z := (0 + (1 * n + 0))) gL (List.mem_of_getElem? (i := 6) rfl) rfl (by omega)) (hp_gLi (z := (0 + 0)) gL (List.mem_of_getElem? (i := 7) rfl) rfl (by omega)) (hp_gLi (z := (1 + 0)) gL (List.mem_of_getElem? (i := 8) rfl) rfl (by omega))
    cases hp
  · intro p_9 hp ys v h_9' hys a1_9 a2 a3 gZ gS
    cases hp
theorem wvD_k : hq_chk [146, 25, 125, 124, 150] 151 16 14 [(0, 0, 99), (1, 0, 1239), (2, 0, 8), (3, 0, 28), (4, 0, 27), (5, 0, 7), (6, 0, 27), (7, 0, 1240), (8, 0, 10240), (9, 0, 10240), (10, (-9223372036854775808), 9223372036854775807), (11, (-9223372036854775808), 9223372036854775807), (12, 0, 99), (13, 0, 99)] [((-1), [(2, 1), (5, (-1))]), ((-1), [(3, 1), (4, (-1))]), ((-1), [(1, (-1)), (7, 1)]), ((-1), [(5, (-1)), (8, (-1)), (9, 1)])] [(0, .inr (.inr (.inl (some 44)))), (1, .inr (.inr (.inr (1, (0, [(0, 1)]))))), (2, .inl (0, [(1, 1)])), (3, .inl (0, [(2, 1)])), (4, .inl (0, [(4, 1)])), (5, .inl (0, [(5, 1)])), (6, .inl (0, [(6, 1)]))] [] [(45570, (0, [(0, 1)]), (0, [(3, 1)])), (3588, (0, []), (0, [(7, 1)])), (5632, (0, [(1, 1)]), (0, [(8, 1)])), (5632, (1, [(1, 1)]), (0, [(9, 1)])), (45824, (0, [(0, 32), (4, 1)]), (0, [(10, 1)])), (5888, (0, [(5, 1), (8, 1)]), (0, [(11, 1)])), (61000, (0, [(10, 1), (11, (-1))]), (1, [])), (9984, (1, [(4, 9), (5, 1)]), (0, [(12, 1)])), (9984, (0, [(4, 9), (5, 1)]), (0, [(13, 1)])), (61000, (1, [(12, 1), (13, (-1))]), (1, []))] [] 5 [(167, ([], 14, [(0, 0, 99), (1, 0, 1239), (2, 0, 8), (3, 0, 28), (4, 0, 27), (5, 0, 7), (6, 0, 27), (7, 0, 1240), (8, 0, 10240), (9, 0, 10240), (10, (-9223372036854775808), 9223372036854775807), (11, (-9223372036854775808), 9223372036854775807), (12, 0, 99), (13, 0, 99)], [], [(0, .inr (.inr (.inl (some 44)))), (1, .inr (.inr (.inr (1, (0, [(0, 1)]))))), (2, .inl (0, [(1, 1)])), (3, .inl (0, [(2, 1)])), (4, .inl (0, [(4, 1)])), (5, .inl (0, [(5, 1)])), (6, .inl (0, [(6, 1)])), (7, .inl (0, [])), (8, .inl (0, []))], [.inl (0, []), .inr (.inl (0, [(10, 1)])), .inr (.inr (.inl (some 56)))], []))] [] = true := by decide +kernel
theorem wvD {cst : am_K} {strs : List Nat} {Φ : am_Q → Prop} {D : Nat} {M : am_M} {h : am_H} {l : am_L} (c : hp_C cst strs D) (hM : m_P[151]? = some M) (hD : (5 : Int) ≤ (D : Int) + 1) (hy : ly_hy m_tt ly_TH h) (m cq w z i j n cl f g u v x y : Int) (b0 : 0 ≤ m) (t0 : m ≤ 99) (b1 : 0 ≤ cq) (t1 : cq ≤ 1239) (b2 : 0 ≤ w) (t2 : w ≤ 8) (b3 : 0 ≤ z) (t3 : z ≤ 28) (b4 : 0 ≤ i) (t4 : i ≤ 27) (b5 : 0 ≤ j) (t5 : j ≤ 7) (b6 : 0 ≤ n) (t6 : n ≤ 27) (b7 : 0 ≤ cl) (t7 : cl ≤ 1240) (b8 : 0 ≤ f) (t8 : f ≤ 10240) (b9 : 0 ≤ g) (t9 : g ≤ 10240) (b10 : (-9223372036854775808) ≤ u) (t10 : u ≤ 9223372036854775807) (b11 : (-9223372036854775808) ≤ v) (t11 : v ≤ 9223372036854775807) (b12 : 0 ≤ x) (t12 : x ≤ 99) (b13 : 0 ≤ y) (t13 : y ≤ 99) (f0 : 0 ≤ (w - j - 1)) (f1 : 0 ≤ (z - i - 1)) (f2 : 0 ≤ (cl - cq - 1)) (f3 : 0 ≤ (g - f - j - 1)) (k0 : ly_hv cst h 45570 (m) = some (z)) (k1 : ly_hv cst h 3588 0 = some (cl)) (k2 : ly_hv cst h 5632 (cq) = some (f)) (k3 : ly_hv cst h 5632 (cq + 1) = some (g)) (k4 : ly_hv cst h 45824 (32 * m + i) = some (u)) (k5 : ly_hv cst h 5888 (f + j) = some (v)) (k6 : ly_hv cst h 61000 (u - v) = some 1) (k7 : ly_hv cst h 9984 (9 * i + j + 1) = some (x)) (k8 : ly_hv cst h 9984 (9 * i + j) = some (y)) (k9 : ly_hv cst h 61000 (x - y + 1) = some 1) (l0 : hp_a l 0 44) (l1 : hp_mlj l 1 1 h.length (m)) (l2 : hp_i l 2 (cq)) (l3 : hp_i l 3 (w)) (l4 : hp_i l 4 (i)) (l5 : hp_i l 5 (j)) (l6 : hp_i l 6 (n)) (e0 : ∀ (l' : am_L) (h_9' : am_H) (y0 : Int32) (y1 : Int64), y0.toInt = 0 → y1.toInt = (u) → ly_hy m_tt ly_TH h_9' → ly_fr cst [] h h_9' → h.length ≤ h_9'.length → hp_a l' 0 44 → hp_mlj l' 1 1 h_9'.length (m) → hp_i l' 2 (cq) → hp_i l' 3 (w) → hp_i l' 4 (i) → hp_i l' 5 (j) → hp_i l' 6 (n) → hp_i l' 7 0 → hp_i l' 8 0 → hp_F cst strs Φ D M 167 l' [.int y0, .long y1, .ref 56] h_9') : hp_F cst strs Φ D M 16 l [] h := by
  refine hq_arc c hM wvD_k hD [m, cq, w, z, i, j, n, cl, f, g, u, v, x, y] rfl hy (hp_Bc (z := m) rfl b0 t0 (hp_Bc (z := cq) rfl b1 t1 (hp_Bc (z := w) rfl b2 t2 (hp_Bc (z := z) rfl b3 t3 (hp_Bc (z := i) rfl b4 t4 (hp_Bc (z := j) rfl b5 t5 (hp_Bc (z := n) rfl b6 t6 (hp_Bc (z := cl) rfl b7 t7 (hp_Bc (z := f) rfl b8 t8 (hp_Bc (z := g) rfl b9 t9 (hp_Bc (z := u) rfl b10 t10 (hp_Bc (z := v) rfl b11 t11 (hp_Bc (z := x) rfl b12 t12 (hp_Bc (z := y) rfl b13 t13 hp_Bn)))))))))))))) (hp_Fc (z := ((-1) + (1 * w + ((-1) * j + 0)))) rfl (by omega) (hp_Fc (z := ((-1) + (1 * z + ((-1) * i + 0)))) rfl (by omega) (hp_Fc (z := ((-1) + ((-1) * cq + (1 * cl + 0)))) rfl (by omega) (hp_Fc (z := ((-1) + ((-1) * j + ((-1) * f + (1 * g + 0))))) rfl (by omega) hp_Fn)))) (hp_Kc (zi := (0 + (1 * m + 0))) (zv := (0 + (1 * z + 0))) k0 rfl rfl (by omega) (by omega) (hp_Kc (zi := (0 + 0)) (zv := (0 + (1 * cl + 0))) k1 rfl rfl (by omega) (by omega) (hp_Kc (zi := (0 + (1 * cq + 0))) (zv := (0 + (1 * f + 0))) k2 rfl rfl (by omega) (by omega) (hp_Kc (zi := (1 + (1 * cq + 0))) (zv := (0 + (1 * g + 0))) k3 rfl rfl (by omega) (by omega) (hp_Kc (zi := (0 + (32 * m + (1 * i + 0)))) (zv := (0 + (1 * u + 0))) k4 rfl rfl (by omega) (by omega) (hp_Kc (zi := (0 + (1 * j + (1 * f + 0)))) (zv := (0 + (1 * v + 0))) k5 rfl rfl (by omega) (by omega) (hp_Kc (zi := (0 + (1 * u + ((-1) * v + 0)))) (zv := (1 + 0)) k6 rfl rfl (by omega) (by omega) (hp_Kc (zi := (1 + (9 * i + (1 * j + 0)))) (zv := (0 + (1 * x + 0))) k7 rfl rfl (by omega) (by omega) (hp_Kc (zi := (0 + (9 * i + (1 * j + 0)))) (zv := (0 + (1 * y + 0))) k8 rfl rfl (by omega) (by omega) (hp_Kc (zi := (1 + (1 * x + ((-1) * y + 0)))) (zv := (1 + 0)) k9 rfl rfl (by omega) (by omega) hp_Kn)))))))))) (hp_La l0 (hp_Lmj (by decide) (z := (0 + (1 * m + 0))) l1 rfl (by omega) (hp_Li (z := (0 + (1 * cq + 0))) l2 rfl (by omega) (hp_Li (z := (0 + (1 * w + 0))) l3 rfl (by omega) (hp_Li (z := (0 + (1 * i + 0))) l4 rfl (by omega) (hp_Li (z := (0 + (1 * j + 0))) l5 rfl (by omega) (hp_Li (z := (0 + (1 * n + 0))) l6 rfl (by omega) hp_Ln))))))) trivial ?_ ?_
  · intro p_9 hp ys l' st_9' h_9' hys a1_9 a2 a3 gZ gL gS
    rcases List.mem_cons.mp hp with rfl | hp
    · obtain rfl := hp_y0 hys
      obtain ⟨y0, t0, rfl, q0, g0⟩ := hp_gSi (z := (0 + 0)) gS rfl
      obtain ⟨y1, t1, rfl, q1_9, g1⟩ := hp_gSj (z := (0 + (1 * u + 0))) g0 rfl
      obtain ⟨t2, rfl, g2⟩ := hp_gSa g1 (by decide)
      cases hp_gSn g2
      exact e0 l' h_9' y0 y1 (by omega) (by omega) a1_9 a2 a3 (hp_gLa gL (List.mem_of_getElem? (i := 0) rfl) (by decide)) (hp_gLmj (z := (0 + (1 * m + 0))) gL (List.mem_of_getElem? (i := 1) rfl) rfl (by omega)) (hp_gLi (z := (0 + (1 * cq + 0))) gL (List.mem_of_getElem? (i := 2) rfl) rfl (by omega)) (hp_gLi (z := (0 + (1 * w + 0))) gL (List.mem_of_getElem? (i := 3) rfl) rfl (by omega)) (hp_gLi (z := (0 + (1 * i + 0))) gL (List.mem_of_getElem? (i := 4) rfl) rfl (by omega)) (hp_gLi (z := (0 + (1 * j + 0))) gL (List.mem_of_getElem? (i := 5) rfl) rfl (by omega)) (hp_gLi (z := (0 + (1 * n + 0))) gL (List.mem_of_getElem? (i := 6) rfl) rfl (by omega)) (hp_gLi (z := (0 + 0)) gL (List.mem_of_getElem? (i := 7) rfl) rfl (by omega)) (hp_gLi (z := (0 + 0)) gL (List.mem_of_getElem? (i := 8) rfl) rfl (by omega))
    cases hp
  · intro p_9 hp ys v h_9' hys a1_9 a2 a3 gZ gS
    cases hp
theorem wvE_k : hq_chk [146, 25, 125, 124, 150] 151 16 7 [(0, 0, 99), (1, (-1), 1239), (2, 0, 8), (3, 0, 28), (4, 0, 27), (5, 0, 27), (6, (-9223372036854775808), 9223372036854775807)] [((-1), [(3, 1), (4, (-1))])] [(0, .inr (.inr (.inl (some 44)))), (1, .inr (.inr (.inr (1, (0, [(0, 1)]))))), (2, .inl (0, [(1, 1)])), (3, .inl (0, [(2, 1)])), (4, .inl (0, [(4, 1)])), (5, .inl (0, [(2, 1)])), (6, .inl (0, [(5, 1)]))] [] [(45570, (0, [(0, 1)]), (0, [(3, 1)])), (45824, (0, [(0, 32), (4, 1)]), (0, [(6, 1)]))] [] 5 [(167, ([], 7, [(0, 0, 99), (1, (-1), 1239), (2, 0, 8), (3, 0, 28), (4, 0, 27), (5, 0, 27), (6, (-9223372036854775808), 9223372036854775807)], [], [(0, .inr (.inr (.inl (some 44)))), (1, .inr (.inr (.inr (1, (0, [(0, 1)]))))), (2, .inl (0, [(1, 1)])), (3, .inl (0, [(2, 1)])), (4, .inl (0, [(4, 1)])), (5, .inl (0, [(2, 1)])), (6, .inl (0, [(5, 1)])), (7, .inl (0, [])), (8, .inl (0, []))], [.inl (0, []), .inr (.inl (0, [(6, 1)])), .inr (.inr (.inl (some 56)))], []))] [] = true := by decide +kernel
theorem wvE {cst : am_K} {strs : List Nat} {Φ : am_Q → Prop} {D : Nat} {M : am_M} {h : am_H} {l : am_L} (c : hp_C cst strs D) (hM : m_P[151]? = some M) (hD : (5 : Int) ≤ (D : Int) + 1) (hy : ly_hy m_tt ly_TH h) (m cq w z i n u : Int) (b0 : 0 ≤ m) (t0 : m ≤ 99) (b1 : (-1) ≤ cq) (t1 : cq ≤ 1239) (b2 : 0 ≤ w) (t2 : w ≤ 8) (b3 : 0 ≤ z) (t3 : z ≤ 28) (b4 : 0 ≤ i) (t4 : i ≤ 27) (b5 : 0 ≤ n) (t5 : n ≤ 27) (b6 : (-9223372036854775808) ≤ u) (t6 : u ≤ 9223372036854775807) (f0 : 0 ≤ (z - i - 1)) (k0 : ly_hv cst h 45570 (m) = some (z)) (k1 : ly_hv cst h 45824 (32 * m + i) = some (u)) (l0 : hp_a l 0 44) (l1 : hp_mlj l 1 1 h.length (m)) (l2 : hp_i l 2 (cq)) (l3 : hp_i l 3 (w)) (l4 : hp_i l 4 (i)) (l5 : hp_i l 5 (w)) (l6 : hp_i l 6 (n)) (e0 : ∀ (l' : am_L) (h_9' : am_H) (y0 : Int32) (y1 : Int64), y0.toInt = 0 → y1.toInt = (u) → ly_hy m_tt ly_TH h_9' → ly_fr cst [] h h_9' → h.length ≤ h_9'.length → hp_a l' 0 44 → hp_mlj l' 1 1 h_9'.length (m) → hp_i l' 2 (cq) → hp_i l' 3 (w) → hp_i l' 4 (i) → hp_i l' 5 (w) → hp_i l' 6 (n) → hp_i l' 7 0 → hp_i l' 8 0 → hp_F cst strs Φ D M 167 l' [.int y0, .long y1, .ref 56] h_9') : hp_F cst strs Φ D M 16 l [] h := by
  refine hq_arc c hM wvE_k hD [m, cq, w, z, i, n, u] rfl hy (hp_Bc (z := m) rfl b0 t0 (hp_Bc (z := cq) rfl b1 t1 (hp_Bc (z := w) rfl b2 t2 (hp_Bc (z := z) rfl b3 t3 (hp_Bc (z := i) rfl b4 t4 (hp_Bc (z := n) rfl b5 t5 (hp_Bc (z := u) rfl b6 t6 hp_Bn))))))) (hp_Fc (z := ((-1) + (1 * z + ((-1) * i + 0)))) rfl (by omega) hp_Fn) (hp_Kc (zi := (0 + (1 * m + 0))) (zv := (0 + (1 * z + 0))) k0 rfl rfl (by omega) (by omega) (hp_Kc (zi := (0 + (32 * m + (1 * i + 0)))) (zv := (0 + (1 * u + 0))) k1 rfl rfl (by omega) (by omega) hp_Kn)) (hp_La l0 (hp_Lmj (by decide) (z := (0 + (1 * m + 0))) l1 rfl (by omega) (hp_Li (z := (0 + (1 * cq + 0))) l2 rfl (by omega) (hp_Li (z := (0 + (1 * w + 0))) l3 rfl (by omega) (hp_Li (z := (0 + (1 * i + 0))) l4 rfl (by omega) (hp_Li (z := (0 + (1 * w + 0))) l5 rfl (by omega) (hp_Li (z := (0 + (1 * n + 0))) l6 rfl (by omega) hp_Ln))))))) trivial ?_ ?_
  · intro p_9 hp ys l' st_9' h_9' hys a1_9 a2 a3 gZ gL gS
    rcases List.mem_cons.mp hp with rfl | hp
    · obtain rfl := hp_y0 hys
      obtain ⟨y0, t0, rfl, q0, g0⟩ := hp_gSi (z := (0 + 0)) gS rfl
      obtain ⟨y1, t1, rfl, q1_9, g1⟩ := hp_gSj (z := (0 + (1 * u + 0))) g0 rfl
      obtain ⟨t2, rfl, g2⟩ := hp_gSa g1 (by decide)
      cases hp_gSn g2
      exact e0 l' h_9' y0 y1 (by omega) (by omega) a1_9 a2 a3 (hp_gLa gL (List.mem_of_getElem? (i := 0) rfl) (by decide)) (hp_gLmj (z := (0 + (1 * m + 0))) gL (List.mem_of_getElem? (i := 1) rfl) rfl (by omega)) (hp_gLi (z := (0 + (1 * cq + 0))) gL (List.mem_of_getElem? (i := 2) rfl) rfl (by omega)) (hp_gLi (z := (0 + (1 * w + 0))) gL (List.mem_of_getElem? (i := 3) rfl) rfl (by omega)) (hp_gLi (z := (0 + (1 * i + 0))) gL (List.mem_of_getElem? (i := 4) rfl) rfl (by omega)) (hp_gLi (z := (0 + (1 * w + 0))) gL (List.mem_of_getElem? (i := 5) rfl) rfl (by omega)) (hp_gLi (z := (0 + (1 * n + 0))) gL (List.mem_of_getElem? (i := 6) rfl) rfl (by omega)) (hp_gLi (z := (0 + 0)) gL (List.mem_of_getElem? (i := 7) rfl) rfl (by omega)) (hp_gLi (z := (0 + 0)) gL (List.mem_of_getElem? (i := 8) rfl) rfl (by omega))
    cases hp
  · intro p_9 hp ys v_9 h_9' hys a1_9 a2 a3 gZ gS
    cases hp
theorem wvF10_k : hp_chk 151 170 7 [(0, 0, 99), (1, (-1), 1239), (2, 0, 8), (3, 0, 28), (4, 0, 8), (5, 0, 27), (6, (-2147483648), 2147483647)] [] [(0, .inr (.inr (.inl (some 44)))), (1, .inr (.inr (.inr (1, (0, [(0, 1)]))))), (2, .inl (0, [(1, 1)])), (3, .inl (0, [(2, 1)])), (4, .inl (0, [(3, 1)])), (5, .inl (0, [(4, 1)])), (6, .inl (0, [(5, 1)])), (7, .inl (1, [])), (8, .inl (0, []))] [.inl (0, [(6, 1)])] [] [] 2 [(16, ([], 7, [(0, 0, 99), (1, (-1), 1239), (2, 0, 8), (3, 0, 28), (4, 0, 8), (5, 0, 27), (6, (-2147483648), 2147483647)], [], [(0, .inr (.inr (.inl (some 44)))), (1, .inr (.inr (.inr (1, (0, [(0, 1)]))))), (2, .inl (0, [(1, 1)])), (3, .inl (0, [(2, 1)])), (4, .inl (1, [(3, 1)])), (5, .inl (1, [(4, 1)])), (6, .inl (1, [(5, 1)]))], [], []))] [] = true := by decide +kernel
theorem wvF10 {cst : am_K} {strs : List Nat} {Φ : am_Q → Prop} {D : Nat} {M : am_M} {h : am_H} {l : am_L} (c : hp_C cst strs D) (hM : m_P[151]? = some M) (hD : (2 : Int) ≤ (D : Int) + 1) (hy : ly_hy m_tt ly_TH h) (m cq w i j n q : Int) (x0 : Int32) (hx0 : x0.toInt = (q)) (b0 : 0 ≤ m) (t0 : m ≤ 99) (b1 : (-1) ≤ cq) (t1 : cq ≤ 1239) (b2 : 0 ≤ w) (t2 : w ≤ 8) (b3 : 0 ≤ i) (t3 : i ≤ 28) (b4 : 0 ≤ j) (t4 : j ≤ 8) (b5 : 0 ≤ n) (t5 : n ≤ 27) (b6 : (-2147483648) ≤ q) (t6 : q ≤ 2147483647) (l0 : hp_a l 0 44) (l1 : hp_mlj l 1 1 h.length (m)) (l2 : hp_i l 2 (cq)) (l3 : hp_i l 3 (w)) (l4 : hp_i l 4 (i)) (l5 : hp_i l 5 (j)) (l6 : hp_i l 6 (n)) (l7 : hp_i l 7 1) (l8 : hp_i l 8 0) (e0 : ∀ (l' : am_L) (h_9' : am_H), ly_hy m_tt ly_TH h_9' → ly_fr cst [] h h_9' → h.length ≤ h_9'.length → hp_a l' 0 44 → hp_mlj l' 1 1 h_9'.length (m) → hp_i l' 2 (cq) → hp_i l' 3 (w) → hp_i l' 4 (i + 1) → hp_i l' 5 (j + 1) → hp_i l' 6 (n + 1) → hp_F cst strs Φ D M 16 l' [] h_9') : hp_F cst strs Φ D M 170 l [.int x0] h := by
  refine hp_arc c hM wvF10_k hD [m, cq, w, i, j, n, q] rfl hy (hp_Bc (z := m) rfl b0 t0 (hp_Bc (z := cq) rfl b1 t1 (hp_Bc (z := w) rfl b2 t2 (hp_Bc (z := i) rfl b3 t3 (hp_Bc (z := j) rfl b4 t4 (hp_Bc (z := n) rfl b5 t5 (hp_Bc (z := q) rfl b6 t6 hp_Bn))))))) hp_Fn hp_Kn (hp_La l0 (hp_Lmj (by decide) (z := (0 + (1 * m + 0))) l1 rfl (by omega) (hp_Li (z := (0 + (1 * cq + 0))) l2 rfl (by omega) (hp_Li (z := (0 + (1 * w + 0))) l3 rfl (by omega) (hp_Li (z := (0 + (1 * i + 0))) l4 rfl (by omega) (hp_Li (z := (0 + (1 * j + 0))) l5 rfl (by omega) (hp_Li (z := (0 + (1 * n + 0))) l6 rfl (by omega) (hp_Li (z := (1 + 0)) l7 rfl (by omega) (hp_Li (z := (0 + 0)) l8 rfl (by omega) hp_Ln))))))))) (hp_Si (z := (0 + (1 * q + 0))) rfl (by omega) trivial) ?_ ?_
  · intro p_9 hp ys l' st_9' h_9' hys a1_9 a2 a3 gZ gL gS
    rcases List.mem_cons.mp hp with rfl | hp
    · obtain rfl := hp_y0 hys
      cases hp_gSn gS
      exact e0 l' h_9' a1_9 a2 a3 (hp_gLa gL (List.mem_of_getElem? (i := 0) rfl) (by decide)) (hp_gLmj (z := (0 + (1 * m + 0))) gL (List.mem_of_getElem? (i := 1) rfl) rfl (by omega)) (hp_gLi (z := (0 + (1 * cq + 0))) gL (List.mem_of_getElem? (i := 2) rfl) rfl (by omega)) (hp_gLi (z := (0 + (1 * w + 0))) gL (List.mem_of_getElem? (i := 3) rfl) rfl (by omega)) (hp_gLi (z := (1 + (1 * i + 0))) gL (List.mem_of_getElem? (i := 4) rfl) rfl (by omega)) (hp_gLi (z := (1 + (1 * j + 0))) gL (List.mem_of_getElem? (i := 5) rfl) rfl (by omega)) (hp_gLi (z := (1 + (1 * n + 0))) gL (List.mem_of_getElem? (i := 6) rfl) rfl (by omega))
    cases hp
  · intro p_9 hp ys v_9 h_9' hys a1_9 a2 a3 gZ gS
    cases hp
theorem wvF01_k : hp_chk 151 170 7 [(0, 0, 99), (1, (-1), 1239), (2, 0, 8), (3, 0, 28), (4, 0, 8), (5, 0, 27), (6, (-2147483648), 2147483647)] [] [(0, .inr (.inr (.inl (some 44)))), (1, .inr (.inr (.inr (1, (0, [(0, 1)]))))), (2, .inl (0, [(1, 1)])), (3, .inl (0, [(2, 1)])), (4, .inl (0, [(3, 1)])), (5, .inl (0, [(4, 1)])), (6, .inl (0, [(5, 1)])), (7, .inl (0, [])), (8, .inl (1, []))] [.inl (0, [(6, 1)])] [] [] 2 [(16, ([], 7, [(0, 0, 99), (1, (-1), 1239), (2, 0, 8), (3, 0, 28), (4, 0, 8), (5, 0, 27), (6, (-2147483648), 2147483647)], [], [(0, .inr (.inr (.inl (some 44)))), (1, .inr (.inr (.inr (1, (0, [(0, 1)]))))), (2, .inl (0, [(1, 1)])), (3, .inl (0, [(2, 1)])), (4, .inl (0, [(3, 1)])), (5, .inl (1, [(4, 1)])), (6, .inl (1, [(5, 1)]))], [], []))] [] = true := by decide +kernel
theorem wvF01 {cst : am_K} {strs : List Nat} {Φ : am_Q → Prop} {D : Nat} {M : am_M} {h : am_H} {l : am_L} (c : hp_C cst strs D) (hM : m_P[151]? = some M) (hD : (2 : Int) ≤ (D : Int) + 1) (hy : ly_hy m_tt ly_TH h) (m cq w i j n q : Int) (x0 : Int32) (hx0 : x0.toInt = (q)) (b0 : 0 ≤ m) (t0 : m ≤ 99) (b1 : (-1) ≤ cq) (t1 : cq ≤ 1239) (b2 : 0 ≤ w) (t2 : w ≤ 8) (b3 : 0 ≤ i) (t3 : i ≤ 28) (b4 : 0 ≤ j) (t4 : j ≤ 8) (b5 : 0 ≤ n) (t5 : n ≤ 27) (b6 : (-2147483648) ≤ q) (t6 : q ≤ 2147483647) (l0 : hp_a l 0 44) (l1 : hp_mlj l 1 1 h.length (m)) (l2 : hp_i l 2 (cq)) (l3 : hp_i l 3 (w)) (l4 : hp_i l 4 (i)) (l5 : hp_i l 5 (j)) (l6 : hp_i l 6 (n)) (l7 : hp_i l 7 0) (l8 : hp_i l 8 1) (e0 : ∀ (l' : am_L) (h_9' : am_H), ly_hy m_tt ly_TH h_9' → ly_fr cst [] h h_9' → h.length ≤ h_9'.length → hp_a l' 0 44 → hp_mlj l' 1 1 h_9'.length (m) → hp_i l' 2 (cq) → hp_i l' 3 (w) → hp_i l' 4 (i) → hp_i l' 5 (j + 1) → hp_i l' 6 (n + 1) → hp_F cst strs Φ D M 16 l' [] h_9') : hp_F cst strs Φ D M 170 l [.int x0] h := by
  refine hp_arc c hM wvF01_k hD [m, cq, w, i, j, n, q] rfl hy (hp_Bc (z := m) rfl b0 t0 (hp_Bc (z := cq) rfl b1 t1 (hp_Bc (z := w) rfl b2 t2 (hp_Bc (z := i) rfl b3 t3 (hp_Bc (z := j) rfl b4 t4 (hp_Bc (z := n) rfl b5 t5 (hp_Bc (z := q) rfl b6 t6 hp_Bn))))))) hp_Fn hp_Kn (hp_La l0 (hp_Lmj (by decide) (z := (0 + (1 * m + 0))) l1 rfl (by omega) (hp_Li (z := (0 + (1 * cq + 0))) l2 rfl (by omega) (hp_Li (z := (0 + (1 * w + 0))) l3 rfl (by omega) (hp_Li (z := (0 + (1 * i + 0))) l4 rfl (by omega) (hp_Li (z := (0 + (1 * j + 0))) l5 rfl (by omega) (hp_Li (z := (0 + (1 * n + 0))) l6 rfl (by omega) (hp_Li (z := (0 + 0)) l7 rfl (by omega) (hp_Li (z := (1 + 0)) l8 rfl (by omega) hp_Ln))))))))) (hp_Si (z := (0 + (1 * q + 0))) rfl (by omega) trivial) ?_ ?_
  · intro p_9 hp ys l' st_9' h_9' hys a1_9 a2 a3 gZ gL gS
    rcases List.mem_cons.mp hp with rfl | hp
    · obtain rfl := hp_y0 hys
      cases hp_gSn gS
      exact e0 l' h_9' a1_9 a2 a3 (hp_gLa gL (List.mem_of_getElem? (i := 0) rfl) (by decide)) (hp_gLmj (z := (0 + (1 * m + 0))) gL (List.mem_of_getElem? (i := 1) rfl) rfl (by omega)) (hp_gLi (z := (0 + (1 * cq + 0))) gL (List.mem_of_getElem? (i := 2) rfl) rfl (by omega)) (hp_gLi (z := (0 + (1 * w + 0))) gL (List.mem_of_getElem? (i := 3) rfl) rfl (by omega)) (hp_gLi (z := (0 + (1 * i + 0))) gL (List.mem_of_getElem? (i := 4) rfl) rfl (by omega)) (hp_gLi (z := (1 + (1 * j + 0))) gL (List.mem_of_getElem? (i := 5) rfl) rfl (by omega)) (hp_gLi (z := (1 + (1 * n + 0))) gL (List.mem_of_getElem? (i := 6) rfl) rfl (by omega))
    cases hp
  · intro p_9 hp ys v_9 h_9' hys a1_9 a2 a3 gZ gS
    cases hp
theorem wvF00_k : hp_chk 151 170 7 [(0, 0, 99), (1, (-1), 1239), (2, 0, 8), (3, 0, 28), (4, 0, 8), (5, 0, 27), (6, (-2147483648), 2147483647)] [] [(0, .inr (.inr (.inl (some 44)))), (1, .inr (.inr (.inr (1, (0, [(0, 1)]))))), (2, .inl (0, [(1, 1)])), (3, .inl (0, [(2, 1)])), (4, .inl (0, [(3, 1)])), (5, .inl (0, [(4, 1)])), (6, .inl (0, [(5, 1)])), (7, .inl (0, [])), (8, .inl (0, []))] [.inl (0, [(6, 1)])] [] [] 2 [(16, ([], 7, [(0, 0, 99), (1, (-1), 1239), (2, 0, 8), (3, 0, 28), (4, 0, 8), (5, 0, 27), (6, (-2147483648), 2147483647)], [], [(0, .inr (.inr (.inl (some 44)))), (1, .inr (.inr (.inr (1, (0, [(0, 1)]))))), (2, .inl (0, [(1, 1)])), (3, .inl (0, [(2, 1)])), (4, .inl (1, [(3, 1)])), (5, .inl (0, [(4, 1)])), (6, .inl (1, [(5, 1)]))], [], []))] [] = true := by decide +kernel
theorem wvF00 {cst : am_K} {strs : List Nat} {Φ : am_Q → Prop} {D : Nat} {M : am_M} {h : am_H} {l : am_L} (c : hp_C cst strs D) (hM : m_P[151]? = some M) (hD : (2 : Int) ≤ (D : Int) + 1) (hy : ly_hy m_tt ly_TH h) (m cq w i j n q : Int) (x0 : Int32) (hx0 : x0.toInt = (q)) (b0 : 0 ≤ m) (t0 : m ≤ 99) (b1 : (-1) ≤ cq) (t1 : cq ≤ 1239) (b2 : 0 ≤ w) (t2 : w ≤ 8) (b3 : 0 ≤ i) (t3 : i ≤ 28) (b4 : 0 ≤ j) (t4 : j ≤ 8) (b5 : 0 ≤ n) (t5 : n ≤ 27) (b6 : (-2147483648) ≤ q) (t6 : q ≤ 2147483647) (l0 : hp_a l 0 44) (l1 : hp_mlj l 1 1 h.length (m)) (l2 : hp_i l 2 (cq)) (l3 : hp_i l 3 (w)) (l4 : hp_i l 4 (i)) (l5 : hp_i l 5 (j)) (l6 : hp_i l 6 (n)) (l7 : hp_i l 7 0) (l8 : hp_i l 8 0) (e0 : ∀ (l' : am_L) (h_9' : am_H), ly_hy m_tt ly_TH h_9' → ly_fr cst [] h h_9' → h.length ≤ h_9'.length → hp_a l' 0 44 → hp_mlj l' 1 1 h_9'.length (m) → hp_i l' 2 (cq) → hp_i l' 3 (w) → hp_i l' 4 (i + 1) → hp_i l' 5 (j) → hp_i l' 6 (n + 1) → hp_F cst strs Φ D M 16 l' [] h_9') : hp_F cst strs Φ D M 170 l [.int x0] h := by
  refine hp_arc c hM wvF00_k hD [m, cq, w, i, j, n, q] rfl hy (hp_Bc (z := m) rfl b0 t0 (hp_Bc (z := cq) rfl b1 t1 (hp_Bc (z := w) rfl b2 t2 (hp_Bc (z := i) rfl b3 t3 (hp_Bc (z := j) rfl b4 t4 (hp_Bc (z := n) rfl b5 t5 (hp_Bc (z := q) rfl b6 t6 hp_Bn))))))) hp_Fn hp_Kn (hp_La l0 (hp_Lmj (by decide) (z := (0 + (1 * m + 0))) l1 rfl (by omega) (hp_Li (z := (0 + (1 * cq + 0))) l2 rfl (by omega) (hp_Li (z := (0 + (1 * w + 0))) l3 rfl (by omega) (hp_Li (z := (0 + (1 * i + 0))) l4 rfl (by omega) (hp_Li (z := (0 + (1 * j + 0))) l5 rfl (by omega) (hp_Li (z := (0 + (1 * n + 0))) l6 rfl (by omega) (hp_Li (z := (0 + 0)) l7 rfl (by omega) (hp_Li (z := (0 + 0)) l8 rfl (by omega) hp_Ln))))))))) (hp_Si (z := (0 + (1 * q + 0))) rfl (by omega) trivial) ?_ ?_
  · intro p_9 hp ys l' st_9' h_9' hys a1_9 a2 a3 gZ gL gS
    rcases List.mem_cons.mp hp with rfl | hp
    · obtain rfl := hp_y0 hys
      cases hp_gSn gS
      exact e0 l' h_9' a1_9 a2 a3 (hp_gLa gL (List.mem_of_getElem? (i := 0) rfl) (by decide)) (hp_gLmj (z := (0 + (1 * m + 0))) gL (List.mem_of_getElem? (i := 1) rfl) rfl (by omega)) (hp_gLi (z := (0 + (1 * cq + 0))) gL (List.mem_of_getElem? (i := 2) rfl) rfl (by omega)) (hp_gLi (z := (0 + (1 * w + 0))) gL (List.mem_of_getElem? (i := 3) rfl) rfl (by omega)) (hp_gLi (z := (1 + (1 * i + 0))) gL (List.mem_of_getElem? (i := 4) rfl) rfl (by omega)) (hp_gLi (z := (0 + (1 * j + 0))) gL (List.mem_of_getElem? (i := 5) rfl) rfl (by omega)) (hp_gLi (z := (1 + (1 * n + 0))) gL (List.mem_of_getElem? (i := 6) rfl) rfl (by omega))
    cases hp
  · intro p_9 hp ys v_9 h_9' hys a1_9 a2 a3 gZ gS
    cases hp
theorem wvX_k : hp_chk 151 16 5 [(0, 0, 99), (1, (-1), 1239), (2, 0, 8), (3, 0, 28), (4, 0, 28)] [] [(0, .inr (.inr (.inl (some 44)))), (1, .inr (.inr (.inr (1, (0, [(0, 1)]))))), (2, .inl (0, [(1, 1)])), (3, .inl (0, [(2, 1)])), (4, .inl (0, [(3, 1)])), (5, .inl (0, [(2, 1)])), (6, .inl (0, [(4, 1)]))] [] [(45570, (0, [(0, 1)]), (0, [(3, 1)]))] [10243] 5 [] [([], 5, [(0, 0, 99), (1, (-1), 1239), (2, 0, 8), (3, 0, 28), (4, 0, 28)], [], [], [], [(10243, (0, []), (1, []))])] = true := by decide +kernel
theorem wvX {cst : am_K} {strs : List Nat} {Φ : am_Q → Prop} {D : Nat} {M : am_M} {h : am_H} {l : am_L} (c : hp_C cst strs D) (hM : m_P[151]? = some M) (hD : (5 : Int) ≤ (D : Int) + 1) (hy : ly_hy m_tt ly_TH h) (m cq w z n : Int) (b0 : 0 ≤ m) (t0 : m ≤ 99) (b1 : (-1) ≤ cq) (t1 : cq ≤ 1239) (b2 : 0 ≤ w) (t2 : w ≤ 8) (b3 : 0 ≤ z) (t3 : z ≤ 28) (b4 : 0 ≤ n) (t4 : n ≤ 28) (k0 : ly_hv cst h 45570 (m) = some (z)) (l0 : hp_a l 0 44) (l1 : hp_mlj l 1 1 h.length (m)) (l2 : hp_i l 2 (cq)) (l3 : hp_i l 3 (w)) (l4 : hp_i l 4 (z)) (l5 : hp_i l 5 (w)) (l6 : hp_i l 6 (n)) (r0 : ∀ (h_9' : am_H), ly_hy m_tt ly_TH h_9' → ly_fr cst [10243] h h_9' → h.length ≤ h_9'.length → ly_hv cst h_9' 10243 0 = some 1 → Φ (none, h_9', 0, 0)) : hp_F cst strs Φ D M 16 l [] h := by
  refine hp_arc c hM wvX_k hD [m, cq, w, z, n] rfl hy (hp_Bc (z := m) rfl b0 t0 (hp_Bc (z := cq) rfl b1 t1 (hp_Bc (z := w) rfl b2 t2 (hp_Bc (z := z) rfl b3 t3 (hp_Bc (z := n) rfl b4 t4 hp_Bn))))) hp_Fn (hp_Kc (zi := (0 + (1 * m + 0))) (zv := (0 + (1 * z + 0))) k0 rfl rfl (by omega) (by omega) hp_Kn) (hp_La l0 (hp_Lmj (by decide) (z := (0 + (1 * m + 0))) l1 rfl (by omega) (hp_Li (z := (0 + (1 * cq + 0))) l2 rfl (by omega) (hp_Li (z := (0 + (1 * w + 0))) l3 rfl (by omega) (hp_Li (z := (0 + (1 * z + 0))) l4 rfl (by omega) (hp_Li (z := (0 + (1 * w + 0))) l5 rfl (by omega) (hp_Li (z := (0 + (1 * n + 0))) l6 rfl (by omega) hp_Ln))))))) trivial ?_ ?_
  · intro p_9 hp ys l' st_9' h_9' hys a1_9 a2 a3 gZ gL gS
    cases hp
  · intro p_9 hp ys v_9 h_9' hys a1_9 a2 a3 gZ gS
    rcases List.mem_cons.mp hp with rfl | hp
    · obtain rfl := hp_y0 hys
      have sv := hp_gSn gS
      cases v_9 with
      | some wz => cases sv
      | none =>
        exact r0 h_9' a1_9 a2 a3 (hp_gK (zi := (0 + 0)) (zv := (1 + 0)) gZ.2.2.2 (List.mem_of_getElem? (i := 0) rfl) rfl rfl (by omega) (by omega))
    cases hp
theorem wi0_k : hp_chk 148 0 4 [(0, 0, 99), (1, (-9223372036854775808), 9223372036854775807), (2, (-2147483648), 2147483647), (3, (-2147483648), 2147483647)] [] [(0, .inr (.inr (.inl (some 44)))), (1, .inr (.inr (.inr (0, (0, [(0, 1)])))))] [] [(45312, (0, [(0, 1)]), (0, [(1, 1)])), (45317, (0, [(0, 1)]), (0, [(2, 1)])), (45315, (0, [(0, 1)]), (0, [(3, 1)]))] [] 2 [(17, ([], 4, [(0, 0, 99), (1, (-9223372036854775808), 9223372036854775807), (2, (-2147483648), 2147483647), (3, (-2147483648), 2147483647)], [], [(0, .inr (.inr (.inl (some 44)))), (1, .inr (.inr (.inr (0, (0, [(0, 1)])))))], [.inl (0, [(3, 1)]), .inl (0, [(2, 1)]), .inr (.inl (0, [(1, 1)])), .inl (1, []), .inr (.inr (.inl (some 30)))], []))] [] = true := by decide +kernel
theorem wi0 {cst : am_K} {strs : List Nat} {Φ : am_Q → Prop} {D : Nat} {M : am_M} {h : am_H} {l : am_L} (c : hp_C cst strs D) (hM : m_P[148]? = some M) (hD : (2 : Int) ≤ (D : Int) + 1) (hy : ly_hy m_tt ly_TH h) (m d y s : Int) (b0 : 0 ≤ m) (t0 : m ≤ 99) (b1 : (-9223372036854775808) ≤ d) (t1 : d ≤ 9223372036854775807) (b2 : (-2147483648) ≤ y) (t2 : y ≤ 2147483647) (b3 : (-2147483648) ≤ s) (t3 : s ≤ 2147483647) (k0 : ly_hv cst h 45312 (m) = some (d)) (k1 : ly_hv cst h 45317 (m) = some (y)) (k2 : ly_hv cst h 45315 (m) = some (s)) (l0 : hp_a l 0 44) (l1 : hp_ml l 1 h.length (m)) (e0 : ∀ (l' : am_L) (h_9' : am_H) (y0 : Int32) (y1 : Int32) (y2 : Int64) (y3 : Int32), y0.toInt = (s) → y1.toInt = (y) → y2.toInt = (d) → y3.toInt = 1 → ly_hy m_tt ly_TH h_9' → ly_fr cst [] h h_9' → h.length ≤ h_9'.length → hp_a l' 0 44 → hp_ml l' 1 h_9'.length (m) → hp_F cst strs Φ D M 17 l' [.int y0, .int y1, .long y2, .int y3, .ref 30] h_9') : hp_F cst strs Φ D M 0 l [] h := by
  refine hp_arc c hM wi0_k hD [m, d, y, s] rfl hy (hp_Bc (z := m) rfl b0 t0 (hp_Bc (z := d) rfl b1 t1 (hp_Bc (z := y) rfl b2 t2 (hp_Bc (z := s) rfl b3 t3 hp_Bn)))) hp_Fn (hp_Kc (zi := (0 + (1 * m + 0))) (zv := (0 + (1 * d + 0))) k0 rfl rfl (by omega) (by omega) (hp_Kc (zi := (0 + (1 * m + 0))) (zv := (0 + (1 * y + 0))) k1 rfl rfl (by omega) (by omega) (hp_Kc (zi := (0 + (1 * m + 0))) (zv := (0 + (1 * s + 0))) k2 rfl rfl (by omega) (by omega) hp_Kn))) (hp_La l0 (hp_Lm (z := (0 + (1 * m + 0))) l1 rfl (by omega) hp_Ln)) trivial ?_ ?_
  · intro p_9 hp ys l' st_9' h_9' hys a1_9 a2 a3 gZ gL gS
    rcases List.mem_cons.mp hp with rfl | hp
    · obtain rfl := hp_y0 hys
      obtain ⟨y0, t0, rfl, q0, g0⟩ := hp_gSi (z := (0 + (1 * s + 0))) gS rfl
      obtain ⟨y1, t1, rfl, q1_9, g1⟩ := hp_gSi (z := (0 + (1 * y + 0))) g0 rfl
      obtain ⟨y2, t2, rfl, q2_9, g2⟩ := hp_gSj (z := (0 + (1 * d + 0))) g1 rfl
      obtain ⟨y3, t3, rfl, q3_9, g3_9⟩ := hp_gSi (z := (1 + 0)) g2 rfl
      obtain ⟨t4_9, rfl, g4⟩ := hp_gSa g3_9 (by decide)
      cases hp_gSn g4
      exact e0 l' h_9' y0 y1 y2 y3 (by omega) (by omega) (by omega) (by omega) a1_9 a2 a3 (hp_gLa gL (List.mem_of_getElem? (i := 0) rfl) (by decide)) (hp_gLm (z := (0 + (1 * m + 0))) gL (List.mem_of_getElem? (i := 1) rfl) rfl (by omega))
    cases hp
  · intro p_9 hp ys v_9 h_9' hys a1_9 a2 a3 gZ gS
    cases hp
theorem wi1_k : hq_chk [124, 44] 148 20 5 [(0, 0, 99), (1, 0, 1239), (2, 0, 1240), (3, 0, 10240), (4, 0, 8)] [((-1), [(1, (-1)), (2, 1)])] [(0, .inr (.inr (.inl (some 44)))), (1, .inr (.inr (.inr (0, (0, [(0, 1)])))))] [.inl (0, [(1, 1)])] [(3588, (0, []), (0, [(2, 1)])), (5632, (0, [(1, 1)]), (0, [(3, 1)])), (5632, (1, [(1, 1)]), (0, [(3, 1), (4, 1)]))] [] 5 [(42, ([], 5, [(0, 0, 99), (1, 0, 1239), (2, 0, 1240), (3, 0, 10240), (4, 0, 8)], [], [(0, .inr (.inr (.inl (some 44)))), (1, .inr (.inr (.inr (0, (0, [(0, 1)]))))), (2, .inl (0, [(1, 1)])), (3, .inl (0, [(4, 1)]))], [.inl (0, [(4, 1)]), .inl (0, [(1, 1)]), .inr (.inr (.inr (1, (0, [(0, 1)])))), .inr (.inr (.inl (some 44)))], []))] [] = true := by decide +kernel
theorem wi1 {cst : am_K} {strs : List Nat} {Φ : am_Q → Prop} {D : Nat} {M : am_M} {h : am_H} {l : am_L} (c : hp_C cst strs D) (hM : m_P[148]? = some M) (hD : (5 : Int) ≤ (D : Int) + 1) (hy : ly_hy m_tt ly_TH h) (m cq cl f w : Int) (x0 : Int32) (hx0 : x0.toInt = (cq)) (b0 : 0 ≤ m) (t0 : m ≤ 99) (b1 : 0 ≤ cq) (t1 : cq ≤ 1239) (b2 : 0 ≤ cl) (t2 : cl ≤ 1240) (b3 : 0 ≤ f) (t3 : f ≤ 10240) (b4 : 0 ≤ w) (t4 : w ≤ 8) (f0 : 0 ≤ (cl - cq - 1)) (k0 : ly_hv cst h 3588 0 = some (cl)) (k1 : ly_hv cst h 5632 (cq) = some (f)) (k2 : ly_hv cst h 5632 (cq + 1) = some (f + w)) (l0 : hp_a l 0 44) (l1 : hp_ml l 1 h.length (m)) (e0 : ∀ (l' : am_L) (h_9' : am_H) (y0 : Int32) (y1 : Int32) (y2 : Nat), y0.toInt = (w) → y1.toInt = (cq) → (y2 : Int) = (m) → 177 + 19 * (y2 + 1) ≤ h_9'.length → ly_hy m_tt ly_TH h_9' → ly_fr cst [] h h_9' → h.length ≤ h_9'.length → hp_a l' 0 44 → hp_ml l' 1 h_9'.length (m) → hp_i l' 2 (cq) → hp_i l' 3 (w) → hp_F cst strs Φ D M 42 l' [.int y0, .int y1, .ref (16 + (177 + 19 * y2 + 1)), .ref 44] h_9') : hp_F cst strs Φ D M 20 l [.int x0] h := by
  refine hq_arc c hM wi1_k hD [m, cq, cl, f, w] rfl hy (hp_Bc (z := m) rfl b0 t0 (hp_Bc (z := cq) rfl b1 t1 (hp_Bc (z := cl) rfl b2 t2 (hp_Bc (z := f) rfl b3 t3 (hp_Bc (z := w) rfl b4 t4 hp_Bn))))) (hp_Fc (z := ((-1) + ((-1) * cq + (1 * cl + 0)))) rfl (by omega) hp_Fn) (hp_Kc (zi := (0 + 0)) (zv := (0 + (1 * cl + 0))) k0 rfl rfl (by omega) (by omega) (hp_Kc (zi := (0 + (1 * cq + 0))) (zv := (0 + (1 * f + 0))) k1 rfl rfl (by omega) (by omega) (hp_Kc (zi := (1 + (1 * cq + 0))) (zv := (0 + (1 * f + (1 * w + 0)))) k2 rfl rfl (by omega) (by omega) hp_Kn))) (hp_La l0 (hp_Lm (z := (0 + (1 * m + 0))) l1 rfl (by omega) hp_Ln)) (hp_Si (z := (0 + (1 * cq + 0))) rfl (by omega) trivial) ?_ ?_
  · intro p_9 hp ys l' st_9' h_9' hys a1_9 a2 a3 gZ gL gS
    rcases List.mem_cons.mp hp with rfl | hp
    · obtain rfl := hp_y0 hys
      obtain ⟨y0, t0, rfl, q0, g0⟩ := hp_gSi (z := (0 + (1 * w + 0))) gS rfl
      obtain ⟨y1, t1, rfl, q1_9, g1⟩ := hp_gSi (z := (0 + (1 * cq + 0))) g0 rfl
      obtain ⟨y2, t2, rfl, q2_9, p2_9, g2⟩ := hp_gSmj (z := (0 + (1 * m + 0))) g1 rfl
      obtain ⟨t3, rfl, g3_9⟩ := hp_gSa g2 (by decide)
      cases hp_gSn g3_9
      exact e0 l' h_9' y0 y1 y2 (by omega) (by omega) (by omega) p2_9 a1_9 a2 a3 (hp_gLa gL (List.mem_of_getElem? (i := 0) rfl) (by decide)) (hp_gLm (z := (0 + (1 * m + 0))) gL (List.mem_of_getElem? (i := 1) rfl) rfl (by omega)) (hp_gLi (z := (0 + (1 * cq + 0))) gL (List.mem_of_getElem? (i := 2) rfl) rfl (by omega)) (hp_gLi (z := (0 + (1 * w + 0))) gL (List.mem_of_getElem? (i := 3) rfl) rfl (by omega))
    cases hp
  · intro p_9 hp ys v_9 h_9' hys a1_9 a2 a3 gZ gS
    cases hp
theorem wi1n_k : hq_chk [124, 44] 148 20 1 [(0, 0, 99)] [] [(0, .inr (.inr (.inl (some 44)))), (1, .inr (.inr (.inr (0, (0, [(0, 1)])))))] [.inl ((-1), [])] [] [] 5 [(42, ([], 1, [(0, 0, 99)], [], [(0, .inr (.inr (.inl (some 44)))), (1, .inr (.inr (.inr (0, (0, [(0, 1)]))))), (2, .inl ((-1), [])), (3, .inl (0, []))], [.inl (0, []), .inl ((-1), []), .inr (.inr (.inr (1, (0, [(0, 1)])))), .inr (.inr (.inl (some 44)))], []))] [] = true := by decide +kernel
theorem wi1n {cst : am_K} {strs : List Nat} {Φ : am_Q → Prop} {D : Nat} {M : am_M} {h : am_H} {l : am_L} (c : hp_C cst strs D) (hM : m_P[148]? = some M) (hD : (5 : Int) ≤ (D : Int) + 1) (hy : ly_hy m_tt ly_TH h) (m : Int) (x0 : Int32) (hx0 : x0.toInt = (-1)) (b0 : 0 ≤ m) (t0 : m ≤ 99) (l0 : hp_a l 0 44) (l1 : hp_ml l 1 h.length (m)) (e0 : ∀ (l' : am_L) (h_9' : am_H) (y0 : Int32) (y1 : Int32) (y2 : Nat), y0.toInt = 0 → y1.toInt = (-1) → (y2 : Int) = (m) → 177 + 19 * (y2 + 1) ≤ h_9'.length → ly_hy m_tt ly_TH h_9' → ly_fr cst [] h h_9' → h.length ≤ h_9'.length → hp_a l' 0 44 → hp_ml l' 1 h_9'.length (m) → hp_i l' 2 (-1) → hp_i l' 3 0 → hp_F cst strs Φ D M 42 l' [.int y0, .int y1, .ref (16 + (177 + 19 * y2 + 1)), .ref 44] h_9') : hp_F cst strs Φ D M 20 l [.int x0] h := by
  refine hq_arc c hM wi1n_k hD [m] rfl hy (hp_Bc (z := m) rfl b0 t0 hp_Bn) hp_Fn hp_Kn (hp_La l0 (hp_Lm (z := (0 + (1 * m + 0))) l1 rfl (by omega) hp_Ln)) (hp_Si (z := ((-1) + 0)) rfl (by omega) trivial) ?_ ?_
  · intro p_9 hp ys l' st_9' h_9' hys a1_9 a2 a3 gZ gL gS
    rcases List.mem_cons.mp hp with rfl | hp
    · obtain rfl := hp_y0 hys
      obtain ⟨y0, t0, rfl, q0, g0⟩ := hp_gSi (z := (0 + 0)) gS rfl
      obtain ⟨y1, t1_9, rfl, q1_9, g1⟩ := hp_gSi (z := ((-1) + 0)) g0 rfl
      obtain ⟨y2, t2_9, rfl, q2_9, p2_9, g2⟩ := hp_gSmj (z := (0 + (1 * m + 0))) g1 rfl
      obtain ⟨t3_9, rfl, g3_9⟩ := hp_gSa g2 (by decide)
      cases hp_gSn g3_9
      exact e0 l' h_9' y0 y1 y2 (by omega) (by omega) (by omega) p2_9 a1_9 a2 a3 (hp_gLa gL (List.mem_of_getElem? (i := 0) rfl) (by decide)) (hp_gLm (z := (0 + (1 * m + 0))) gL (List.mem_of_getElem? (i := 1) rfl) rfl (by omega)) (hp_gLi (z := ((-1) + 0)) gL (List.mem_of_getElem? (i := 2) rfl) rfl (by omega)) (hp_gLi (z := (0 + 0)) gL (List.mem_of_getElem? (i := 3) rfl) rfl (by omega))
    cases hp
  · intro p_9 hp ys v_9 h_9' hys a1_9 a2 a3 gZ gS
    cases hp
theorem wi2_k : hp_chk 148 45 5 [(0, 0, 99), (1, (-1), 1239), (2, 0, 8), (3, 0, 28), (4, 0, 8)] [((-29), [(3, 1), (4, 1)])] [(0, .inr (.inr (.inl (some 44)))), (1, .inr (.inr (.inr (0, (0, [(0, 1)]))))), (2, .inl (0, [(1, 1)])), (3, .inl (0, [(2, 1)]))] [] [(9984, (0, []), (0, [(4, 1)])), (45570, (0, [(0, 1)]), (0, [(3, 1)]))] [] 2 [] [([], 5, [(0, 0, 99), (1, (-1), 1239), (2, 0, 8), (3, 0, 28), (4, 0, 8)], [], [], [.inl ((-3), [])], [])] = true := by decide +kernel
theorem wi2 {cst : am_K} {strs : List Nat} {Φ : am_Q → Prop} {D : Nat} {M : am_M} {h : am_H} {l : am_L} (c : hp_C cst strs D) (hM : m_P[148]? = some M) (hD : (2 : Int) ≤ (D : Int) + 1) (hy : ly_hy m_tt ly_TH h) (m cq w z p : Int) (b0 : 0 ≤ m) (t0 : m ≤ 99) (b1 : (-1) ≤ cq) (t1 : cq ≤ 1239) (b2 : 0 ≤ w) (t2 : w ≤ 8) (b3 : 0 ≤ z) (t3 : z ≤ 28) (b4 : 0 ≤ p) (t4 : p ≤ 8) (f0 : 0 ≤ (z + p - 29)) (k0 : ly_hv cst h 9984 0 = some (p)) (k1 : ly_hv cst h 45570 (m) = some (z)) (l0 : hp_a l 0 44) (l1 : hp_ml l 1 h.length (m)) (l2 : hp_i l 2 (cq)) (l3 : hp_i l 3 (w)) (r0 : ∀ (h_9' : am_H) (y0 : Int32), y0.toInt = (-3) → ly_hy m_tt ly_TH h_9' → ly_fr cst [] h h_9' → h.length ≤ h_9'.length → Φ (some (.int y0), h_9', 0, 0)) : hp_F cst strs Φ D M 45 l [] h := by
  refine hp_arc c hM wi2_k hD [m, cq, w, z, p] rfl hy (hp_Bc (z := m) rfl b0 t0 (hp_Bc (z := cq) rfl b1 t1 (hp_Bc (z := w) rfl b2 t2 (hp_Bc (z := z) rfl b3 t3 (hp_Bc (z := p) rfl b4 t4 hp_Bn))))) (hp_Fc (z := ((-29) + (1 * z + (1 * p + 0)))) rfl (by omega) hp_Fn) (hp_Kc (zi := (0 + 0)) (zv := (0 + (1 * p + 0))) k0 rfl rfl (by omega) (by omega) (hp_Kc (zi := (0 + (1 * m + 0))) (zv := (0 + (1 * z + 0))) k1 rfl rfl (by omega) (by omega) hp_Kn)) (hp_La l0 (hp_Lm (z := (0 + (1 * m + 0))) l1 rfl (by omega) (hp_Li (z := (0 + (1 * cq + 0))) l2 rfl (by omega) (hp_Li (z := (0 + (1 * w + 0))) l3 rfl (by omega) hp_Ln)))) trivial ?_ ?_
  · intro p hp ys l' st_9' h_9' hys a1_9 a2 a3 gZ gL gS
    cases hp
  · intro p hp ys v_9 h_9' hys a1_9 a2 a3 gZ gS
    rcases List.mem_cons.mp hp with rfl | hp
    · obtain rfl := hp_y0 hys
      cases v_9 with
      | none => cases gS
      | some wz =>
        obtain ⟨y0, t0, s0_9, q0, -⟩ := hp_gSi (z := ((-3) + 0)) gS rfl
        cases s0_9
        exact r0 h_9' y0 (by omega) a1_9 a2 a3
    cases hp
theorem wi3_k : hp_chk 148 45 5 [(0, 0, 99), (1, (-1), 1239), (2, 0, 8), (3, 0, 28), (4, 0, 8)] [(28, [(3, (-1)), (4, (-1))])] [(0, .inr (.inr (.inl (some 44)))), (1, .inr (.inr (.inr (0, (0, [(0, 1)]))))), (2, .inl (0, [(1, 1)])), (3, .inl (0, [(2, 1)]))] [] [(9984, (0, []), (0, [(4, 1)])), (45570, (0, [(0, 1)]), (0, [(3, 1)]))] [] 2 [(78, ([], 5, [(0, 0, 99), (1, (-1), 1239), (2, 0, 8), (3, 0, 28), (4, 0, 8)], [], [(0, .inr (.inr (.inl (some 44)))), (1, .inr (.inr (.inr (0, (0, [(0, 1)]))))), (2, .inl (0, [(1, 1)])), (3, .inl (0, [(2, 1)])), (4, .inl (0, [(4, 1)]))], [.inl (0, [(2, 1)]), .inl (0, [(1, 1)]), .inr (.inr (.inr (1, (0, [(0, 1)])))), .inr (.inr (.inl (some 44)))], []))] [] = true := by decide +kernel
theorem wi3 {cst : am_K} {strs : List Nat} {Φ : am_Q → Prop} {D : Nat} {M : am_M} {h : am_H} {l : am_L} (c : hp_C cst strs D) (hM : m_P[148]? = some M) (hD : (2 : Int) ≤ (D : Int) + 1) (hy : ly_hy m_tt ly_TH h) (m cq w z p : Int) (b0 : 0 ≤ m) (t0 : m ≤ 99) (b1 : (-1) ≤ cq) (t1 : cq ≤ 1239) (b2 : 0 ≤ w) (t2 : w ≤ 8) (b3 : 0 ≤ z) (t3 : z ≤ 28) (b4 : 0 ≤ p) (t4 : p ≤ 8) (f0 : 0 ≤ (-z - p + 28)) (k0 : ly_hv cst h 9984 0 = some (p)) (k1 : ly_hv cst h 45570 (m) = some (z)) (l0 : hp_a l 0 44) (l1 : hp_ml l 1 h.length (m)) (l2 : hp_i l 2 (cq)) (l3 : hp_i l 3 (w)) (e0 : ∀ (l' : am_L) (h_9' : am_H) (y0 : Int32) (y1 : Int32) (y2 : Nat), y0.toInt = (w) → y1.toInt = (cq) → (y2 : Int) = (m) → 177 + 19 * (y2 + 1) ≤ h_9'.length → ly_hy m_tt ly_TH h_9' → ly_fr cst [] h h_9' → h.length ≤ h_9'.length → hp_a l' 0 44 → hp_ml l' 1 h_9'.length (m) → hp_i l' 2 (cq) → hp_i l' 3 (w) → hp_i l' 4 (p) → hp_F cst strs Φ D M 78 l' [.int y0, .int y1, .ref (16 + (177 + 19 * y2 + 1)), .ref 44] h_9') : hp_F cst strs Φ D M 45 l [] h := by
  refine hp_arc c hM wi3_k hD [m, cq, w, z, p] rfl hy (hp_Bc (z := m) rfl b0 t0 (hp_Bc (z := cq) rfl b1 t1 (hp_Bc (z := w) rfl b2 t2 (hp_Bc (z := z) rfl b3 t3 (hp_Bc (z := p) rfl b4 t4 hp_Bn))))) (hp_Fc (z := (28 + ((-1) * z + ((-1) * p + 0)))) rfl (by omega) hp_Fn) (hp_Kc (zi := (0 + 0)) (zv := (0 + (1 * p + 0))) k0 rfl rfl (by omega) (by omega) (hp_Kc (zi := (0 + (1 * m + 0))) (zv := (0 + (1 * z + 0))) k1 rfl rfl (by omega) (by omega) hp_Kn)) (hp_La l0 (hp_Lm (z := (0 + (1 * m + 0))) l1 rfl (by omega) (hp_Li (z := (0 + (1 * cq + 0))) l2 rfl (by omega) (hp_Li (z := (0 + (1 * w + 0))) l3 rfl (by omega) hp_Ln)))) trivial ?_ ?_
  · intro p hp ys l' st_9' h_9' hys a1_9 a2 a3 gZ gL gS
    rcases List.mem_cons.mp hp with rfl | hp
    · obtain rfl := hp_y0 hys
      obtain ⟨y0, t0, rfl, q0, g0⟩ := hp_gSi (z := (0 + (1 * w + 0))) gS rfl
      obtain ⟨y1, t1, rfl, q1_9, g1⟩ := hp_gSi (z := (0 + (1 * cq + 0))) g0 rfl
      obtain ⟨y2, t2, rfl, q2_9, p2_9, g2⟩ := hp_gSmj (z := (0 + (1 * m + 0))) g1 rfl
      obtain ⟨t3, rfl, g3_9⟩ := hp_gSa g2 (by decide)
      cases hp_gSn g3_9
      exact e0 l' h_9' y0 y1 y2 (by omega) (by omega) (by omega) p2_9 a1_9 a2 a3 (hp_gLa gL (List.mem_of_getElem? (i := 0) rfl) (by decide)) (hp_gLm (z := (0 + (1 * m + 0))) gL (List.mem_of_getElem? (i := 1) rfl) rfl (by omega)) (hp_gLi (z := (0 + (1 * cq + 0))) gL (List.mem_of_getElem? (i := 2) rfl) rfl (by omega)) (hp_gLi (z := (0 + (1 * w + 0))) gL (List.mem_of_getElem? (i := 3) rfl) rfl (by omega)) (hp_gLi (z := (0 + (1 * p + 0))) gL (List.mem_of_getElem? (i := 4) rfl) rfl (by omega))
    cases hp
  · intro p hp ys v_9 h_9' hys a1_9 a2 a3 gZ gS
    cases hp
theorem wi4_k : hp_chk 148 81 4 [(0, 0, 99), (1, (-1), 1239), (2, 0, 8), (3, 0, 8)] [] [(0, .inr (.inr (.inl (some 44)))), (1, .inr (.inr (.inr (0, (0, [(0, 1)]))))), (2, .inl (0, [(1, 1)])), (3, .inl (0, [(2, 1)])), (4, .inl (0, [(3, 1)]))] [] [] [] 2 [(89, ([], 4, [(0, 0, 99), (1, (-1), 1239), (2, 0, 8), (3, 0, 8)], [], [(0, .inr (.inr (.inl (some 44)))), (1, .inr (.inr (.inr (0, (0, [(0, 1)]))))), (2, .inl (0, [(1, 1)])), (3, .inl (0, [(2, 1)])), (4, .inl (0, [(3, 1)]))], [.inr (.inr (.inl (some 56))), .inr (.inr (.inr (1, (0, [(0, 1)]))))], []))] [] = true := by decide +kernel
theorem wi4 {cst : am_K} {strs : List Nat} {Φ : am_Q → Prop} {D : Nat} {M : am_M} {h : am_H} {l : am_L} (c : hp_C cst strs D) (hM : m_P[148]? = some M) (hD : (2 : Int) ≤ (D : Int) + 1) (hy : ly_hy m_tt ly_TH h) (m cq w p : Int) (b0 : 0 ≤ m) (t0 : m ≤ 99) (b1 : (-1) ≤ cq) (t1 : cq ≤ 1239) (b2 : 0 ≤ w) (t2 : w ≤ 8) (b3 : 0 ≤ p) (t3 : p ≤ 8) (l0 : hp_a l 0 44) (l1 : hp_ml l 1 h.length (m)) (l2 : hp_i l 2 (cq)) (l3 : hp_i l 3 (w)) (l4 : hp_i l 4 (p)) (e0 : ∀ (l' : am_L) (h_9' : am_H) (y1 : Nat), (y1 : Int) = (m) → 177 + 19 * (y1 + 1) ≤ h_9'.length → ly_hy m_tt ly_TH h_9' → ly_fr cst [] h h_9' → h.length ≤ h_9'.length → hp_a l' 0 44 → hp_ml l' 1 h_9'.length (m) → hp_i l' 2 (cq) → hp_i l' 3 (w) → hp_i l' 4 (p) → hp_F cst strs Φ D M 89 l' [.ref 56, .ref (16 + (177 + 19 * y1 + 1))] h_9') : hp_F cst strs Φ D M 81 l [] h := by
  refine hp_arc c hM wi4_k hD [m, cq, w, p] rfl hy (hp_Bc (z := m) rfl b0 t0 (hp_Bc (z := cq) rfl b1 t1 (hp_Bc (z := w) rfl b2 t2 (hp_Bc (z := p) rfl b3 t3 hp_Bn)))) hp_Fn hp_Kn (hp_La l0 (hp_Lm (z := (0 + (1 * m + 0))) l1 rfl (by omega) (hp_Li (z := (0 + (1 * cq + 0))) l2 rfl (by omega) (hp_Li (z := (0 + (1 * w + 0))) l3 rfl (by omega) (hp_Li (z := (0 + (1 * p + 0))) l4 rfl (by omega) hp_Ln))))) trivial ?_ ?_
  · intro p hp ys l' st_9' h_9' hys a1_9 a2 a3 gZ gL gS
    rcases List.mem_cons.mp hp with rfl | hp
    · obtain rfl := hp_y0 hys
      obtain ⟨t0, rfl, g0⟩ := hp_gSa gS (by decide)
      obtain ⟨y1, t1, rfl, q1_9, p1_9, g1⟩ := hp_gSmj (z := (0 + (1 * m + 0))) g0 rfl
      cases hp_gSn g1
      exact e0 l' h_9' y1 (by omega) p1_9 a1_9 a2 a3 (hp_gLa gL (List.mem_of_getElem? (i := 0) rfl) (by decide)) (hp_gLm (z := (0 + (1 * m + 0))) gL (List.mem_of_getElem? (i := 1) rfl) rfl (by omega)) (hp_gLi (z := (0 + (1 * cq + 0))) gL (List.mem_of_getElem? (i := 2) rfl) rfl (by omega)) (hp_gLi (z := (0 + (1 * w + 0))) gL (List.mem_of_getElem? (i := 3) rfl) rfl (by omega)) (hp_gLi (z := (0 + (1 * p + 0))) gL (List.mem_of_getElem? (i := 4) rfl) rfl (by omega))
    cases hp
  · intro p hp ys v_9 h_9' hys a1_9 a2 a3 gZ gS
    cases hp
theorem wi5_k : hp_chk 148 92 4 [(0, 0, 99), (1, (-1), 1239), (2, 0, 8), (3, 0, 8)] [] [(0, .inr (.inr (.inl (some 44)))), (1, .inr (.inr (.inr (0, (0, [(0, 1)]))))), (2, .inl (0, [(1, 1)])), (3, .inl (0, [(2, 1)])), (4, .inl (0, [(3, 1)]))] [] [] [] 2 [] [([], 4, [(0, 0, 99), (1, (-1), 1239), (2, 0, 8), (3, 0, 8)], [], [], [.inl (0, [(3, 1)])], [])] = true := by decide +kernel
theorem wi5 {cst : am_K} {strs : List Nat} {Φ : am_Q → Prop} {D : Nat} {M : am_M} {h : am_H} {l : am_L} (c : hp_C cst strs D) (hM : m_P[148]? = some M) (hD : (2 : Int) ≤ (D : Int) + 1) (hy : ly_hy m_tt ly_TH h) (m cq w p : Int) (b0 : 0 ≤ m) (t0 : m ≤ 99) (b1 : (-1) ≤ cq) (t1 : cq ≤ 1239) (b2 : 0 ≤ w) (t2 : w ≤ 8) (b3 : 0 ≤ p) (t3 : p ≤ 8) (l0 : hp_a l 0 44) (l1 : hp_ml l 1 h.length (m)) (l2 : hp_i l 2 (cq)) (l3 : hp_i l 3 (w)) (l4 : hp_i l 4 (p)) (r0 : ∀ (h_9' : am_H) (y0 : Int32), y0.toInt = (p) → ly_hy m_tt ly_TH h_9' → ly_fr cst [] h h_9' → h.length ≤ h_9'.length → Φ (some (.int y0), h_9', 0, 0)) : hp_F cst strs Φ D M 92 l [] h := by
  refine hp_arc c hM wi5_k hD [m, cq, w, p] rfl hy (hp_Bc (z := m) rfl b0 t0 (hp_Bc (z := cq) rfl b1 t1 (hp_Bc (z := w) rfl b2 t2 (hp_Bc (z := p) rfl b3 t3 hp_Bn)))) hp_Fn hp_Kn (hp_La l0 (hp_Lm (z := (0 + (1 * m + 0))) l1 rfl (by omega) (hp_Li (z := (0 + (1 * cq + 0))) l2 rfl (by omega) (hp_Li (z := (0 + (1 * w + 0))) l3 rfl (by omega) (hp_Li (z := (0 + (1 * p + 0))) l4 rfl (by omega) hp_Ln))))) trivial ?_ ?_
  · intro p hp ys l' st_9' h_9' hys a1_9 a2 a3 gZ gL gS
    cases hp
  · intro p hp ys v_9 h_9' hys a1_9 a2 a3 gZ gS
    rcases List.mem_cons.mp hp with rfl | hp
    · obtain rfl := hp_y0 hys
      cases v_9 with
      | none => cases gS
      | some wz =>
        obtain ⟨y0, t0, s0_9, q0, -⟩ := hp_gSi (z := (0 + (1 * p + 0))) gS rfl
        cases s0_9
        exact r0 h_9' y0 (by omega) a1_9 a2 a3
    cases hp
theorem mqx0_k : hq_chk [139] 147 0 2 [(0, (-2147483648), (-1)), (1, 0, 100)] [] [(0, .inr (.inr (.inl (some 16)))), (1, .inl (0, [(0, 1)]))] [] [(7170, (0, []), (0, [(1, 1)]))] [] 8 [] [([], 2, [(0, (-2147483648), (-1)), (1, 0, 100)], [], [], [.inl ((-2), [])], [])] = true := by decide +kernel
theorem mqx0 {cst : am_K} {strs : List Nat} {Φ : am_Q → Prop} {D : Nat} {M : am_M} {h : am_H} {l : am_L} (c : hp_C cst strs D) (hM : m_P[147]? = some M) (hD : (8 : Int) ≤ (D : Int) + 1) (hy : ly_hy m_tt ly_TH h) (m s : Int) (b0 : (-2147483648) ≤ m) (t0 : m ≤ (-1)) (b1 : 0 ≤ s) (t1 : s ≤ 100) (k0 : ly_hv cst h 7170 0 = some (s)) (l0 : hp_a l 0 16) (l1 : hp_i l 1 (m)) (r0 : ∀ (h_9' : am_H) (y0 : Int32), y0.toInt = (-2) → ly_hy m_tt ly_TH h_9' → ly_fr cst [] h h_9' → h.length ≤ h_9'.length → Φ (some (.int y0), h_9', 0, 0)) : hp_F cst strs Φ D M 0 l [] h := by
  refine hq_arc c hM mqx0_k hD [m, s] rfl hy (hp_Bc (z := m) rfl b0 t0 (hp_Bc (z := s) rfl b1 t1 hp_Bn)) hp_Fn (hp_Kc (zi := (0 + 0)) (zv := (0 + (1 * s + 0))) k0 rfl rfl (by omega) (by omega) hp_Kn) (hp_La l0 (hp_Li (z := (0 + (1 * m + 0))) l1 rfl (by omega) hp_Ln)) trivial ?_ ?_
  · intro p_9 hp ys l' st_9' h_9' hys a1_9 a2 a3 gZ gL gS
    cases hp
  · intro p_9 hp ys v_9 h_9' hys a1_9 a2 a3 gZ gS
    rcases List.mem_cons.mp hp with rfl | hp
    · obtain rfl := hp_y0 hys
      cases v_9 with
      | none => cases gS
      | some wz =>
        obtain ⟨y0, t0, s0_9, q0, -⟩ := hp_gSi (z := ((-2) + 0)) gS rfl
        cases s0_9
        exact r0 h_9' y0 (by omega) a1_9 a2 a3
    cases hp
theorem mqx1_k : hq_chk [139] 147 0 2 [(0, 0, 2147483647), (1, 0, 100)] [(0, [(0, 1), (1, (-1))])] [(0, .inr (.inr (.inl (some 16)))), (1, .inl (0, [(0, 1)]))] [] [(7170, (0, []), (0, [(1, 1)]))] [] 8 [] [([], 2, [(0, 0, 2147483647), (1, 0, 100)], [], [], [.inl ((-2), [])], [])] = true := by decide +kernel
theorem mqx1 {cst : am_K} {strs : List Nat} {Φ : am_Q → Prop} {D : Nat} {M : am_M} {h : am_H} {l : am_L} (c : hp_C cst strs D) (hM : m_P[147]? = some M) (hD : (8 : Int) ≤ (D : Int) + 1) (hy : ly_hy m_tt ly_TH h) (m s : Int) (b0 : 0 ≤ m) (t0 : m ≤ 2147483647) (b1 : 0 ≤ s) (t1 : s ≤ 100) (f0 : 0 ≤ (m - s)) (k0 : ly_hv cst h 7170 0 = some (s)) (l0 : hp_a l 0 16) (l1 : hp_i l 1 (m)) (r0 : ∀ (h_9' : am_H) (y0 : Int32), y0.toInt = (-2) → ly_hy m_tt ly_TH h_9' → ly_fr cst [] h h_9' → h.length ≤ h_9'.length → Φ (some (.int y0), h_9', 0, 0)) : hp_F cst strs Φ D M 0 l [] h := by
  refine hq_arc c hM mqx1_k hD [m, s] rfl hy (hp_Bc (z := m) rfl b0 t0 (hp_Bc (z := s) rfl b1 t1 hp_Bn)) (hp_Fc (z := (0 + (1 * m + ((-1) * s + 0)))) rfl (by omega) hp_Fn) (hp_Kc (zi := (0 + 0)) (zv := (0 + (1 * s + 0))) k0 rfl rfl (by omega) (by omega) hp_Kn) (hp_La l0 (hp_Li (z := (0 + (1 * m + 0))) l1 rfl (by omega) hp_Ln)) trivial ?_ ?_
  · intro p_9 hp ys l' st_9' h_9' hys a1_9 a2 a3 gZ gL gS
    cases hp
  · intro p_9 hp ys v_9 h_9' hys a1_9 a2 a3 gZ gS
    rcases List.mem_cons.mp hp with rfl | hp
    · obtain rfl := hp_y0 hys
      cases v_9 with
      | none => cases gS
      | some wz =>
        obtain ⟨y0, t0, s0_9, q0, -⟩ := hp_gSi (z := ((-2) + 0)) gS rfl
        cases s0_9
        exact r0 h_9' y0 (by omega) a1_9 a2 a3
    cases hp
theorem mqx20_k : hq_chk [139] 147 0 3 [(0, 0, 99), (1, 0, 100), (2, (-2147483648), (-2))] [((-1), [(0, (-1)), (1, 1)])] [(0, .inr (.inr (.inl (some 16)))), (1, .inl (0, [(0, 1)]))] [] [(7170, (0, []), (0, [(1, 1)])), (7424, (0, [(0, 1)]), (1, [])), (45313, (0, [(0, 1)]), (0, [(2, 1)]))] [] 8 [] [([], 3, [(0, 0, 99), (1, 0, 100), (2, (-2147483648), (-2))], [], [], [.inl ((-2), [])], [])] = true := by decide +kernel
theorem mqx20 {cst : am_K} {strs : List Nat} {Φ : am_Q → Prop} {D : Nat} {M : am_M} {h : am_H} {l : am_L} (c : hp_C cst strs D) (hM : m_P[147]? = some M) (hD : (8 : Int) ≤ (D : Int) + 1) (hy : ly_hy m_tt ly_TH h) (m s q : Int) (b0 : 0 ≤ m) (t0 : m ≤ 99) (b1 : 0 ≤ s) (t1 : s ≤ 100) (b2 : (-2147483648) ≤ q) (t2 : q ≤ (-2)) (f0 : 0 ≤ (s - m - 1)) (k0 : ly_hv cst h 7170 0 = some (s)) (k1 : ly_hv cst h 7424 (m) = some 1) (k2 : ly_hv cst h 45313 (m) = some (q)) (l0 : hp_a l 0 16) (l1 : hp_i l 1 (m)) (r0 : ∀ (h_9' : am_H) (y0 : Int32), y0.toInt = (-2) → ly_hy m_tt ly_TH h_9' → ly_fr cst [] h h_9' → h.length ≤ h_9'.length → Φ (some (.int y0), h_9', 0, 0)) : hp_F cst strs Φ D M 0 l [] h := by
  refine hq_arc c hM mqx20_k hD [m, s, q] rfl hy (hp_Bc (z := m) rfl b0 t0 (hp_Bc (z := s) rfl b1 t1 (hp_Bc (z := q) rfl b2 t2 hp_Bn))) (hp_Fc (z := ((-1) + ((-1) * m + (1 * s + 0)))) rfl (by omega) hp_Fn) (hp_Kc (zi := (0 + 0)) (zv := (0 + (1 * s + 0))) k0 rfl rfl (by omega) (by omega) (hp_Kc (zi := (0 + (1 * m + 0))) (zv := (1 + 0)) k1 rfl rfl (by omega) (by omega) (hp_Kc (zi := (0 + (1 * m + 0))) (zv := (0 + (1 * q + 0))) k2 rfl rfl (by omega) (by omega) hp_Kn))) (hp_La l0 (hp_Li (z := (0 + (1 * m + 0))) l1 rfl (by omega) hp_Ln)) trivial ?_ ?_
  · intro p_9 hp ys l' st_9' h_9' hys a1_9 a2 a3 gZ gL gS
    cases hp
  · intro p_9 hp ys v_9 h_9' hys a1_9 a2 a3 gZ gS
    rcases List.mem_cons.mp hp with rfl | hp
    · obtain rfl := hp_y0 hys
      cases v_9 with
      | none => cases gS
      | some wz =>
        obtain ⟨y0, t0, s0_9, q0, -⟩ := hp_gSi (z := ((-2) + 0)) gS rfl
        cases s0_9
        exact r0 h_9' y0 (by omega) a1_9 a2 a3
    cases hp
theorem mqx21_k : hq_chk [139] 147 0 3 [(0, 0, 99), (1, 0, 100), (2, 0, 2147483647)] [((-1), [(0, (-1)), (1, 1)])] [(0, .inr (.inr (.inl (some 16)))), (1, .inl (0, [(0, 1)]))] [] [(7170, (0, []), (0, [(1, 1)])), (7424, (0, [(0, 1)]), (1, [])), (45313, (0, [(0, 1)]), (0, [(2, 1)]))] [] 8 [] [([], 3, [(0, 0, 99), (1, 0, 100), (2, 0, 2147483647)], [], [], [.inl ((-2), [])], [])] = true := by decide +kernel
theorem mqx21 {cst : am_K} {strs : List Nat} {Φ : am_Q → Prop} {D : Nat} {M : am_M} {h : am_H} {l : am_L} (c : hp_C cst strs D) (hM : m_P[147]? = some M) (hD : (8 : Int) ≤ (D : Int) + 1) (hy : ly_hy m_tt ly_TH h) (m s q : Int) (b0 : 0 ≤ m) (t0 : m ≤ 99) (b1 : 0 ≤ s) (t1 : s ≤ 100) (b2 : 0 ≤ q) (t2 : q ≤ 2147483647) (f0 : 0 ≤ (s - m - 1)) (k0 : ly_hv cst h 7170 0 = some (s)) (k1 : ly_hv cst h 7424 (m) = some 1) (k2 : ly_hv cst h 45313 (m) = some (q)) (l0 : hp_a l 0 16) (l1 : hp_i l 1 (m)) (r0 : ∀ (h_9' : am_H) (y0 : Int32), y0.toInt = (-2) → ly_hy m_tt ly_TH h_9' → ly_fr cst [] h h_9' → h.length ≤ h_9'.length → Φ (some (.int y0), h_9', 0, 0)) : hp_F cst strs Φ D M 0 l [] h := by
  refine hq_arc c hM mqx21_k hD [m, s, q] rfl hy (hp_Bc (z := m) rfl b0 t0 (hp_Bc (z := s) rfl b1 t1 (hp_Bc (z := q) rfl b2 t2 hp_Bn))) (hp_Fc (z := ((-1) + ((-1) * m + (1 * s + 0)))) rfl (by omega) hp_Fn) (hp_Kc (zi := (0 + 0)) (zv := (0 + (1 * s + 0))) k0 rfl rfl (by omega) (by omega) (hp_Kc (zi := (0 + (1 * m + 0))) (zv := (1 + 0)) k1 rfl rfl (by omega) (by omega) (hp_Kc (zi := (0 + (1 * m + 0))) (zv := (0 + (1 * q + 0))) k2 rfl rfl (by omega) (by omega) hp_Kn))) (hp_La l0 (hp_Li (z := (0 + (1 * m + 0))) l1 rfl (by omega) hp_Ln)) trivial ?_ ?_
  · intro p_9 hp ys l' st_9' h_9' hys a1_9 a2 a3 gZ gL gS
    cases hp
  · intro p_9 hp ys v_9 h_9' hys a1_9 a2 a3 gZ gS
    rcases List.mem_cons.mp hp with rfl | hp
    · obtain rfl := hp_y0 hys
      cases v_9 with
      | none => cases gS
      | some wz =>
        obtain ⟨y0, t0, s0_9, q0, -⟩ := hp_gSi (z := ((-2) + 0)) gS rfl
        cases s0_9
        exact r0 h_9' y0 (by omega) a1_9 a2 a3
    cases hp
theorem mqx30_k : hq_chk [139] 147 0 3 [(0, 0, 99), (1, 0, 100), (2, (-2147483648), (-1))] [((-1), [(0, (-1)), (1, 1)])] [(0, .inr (.inr (.inl (some 16)))), (1, .inl (0, [(0, 1)]))] [] [(7170, (0, []), (0, [(1, 1)])), (7424, (0, [(0, 1)]), (1, [])), (45313, (0, [(0, 1)]), ((-1), [])), (45319, (0, [(0, 1)]), (0, [(2, 1)]))] [] 8 [] [([], 3, [(0, 0, 99), (1, 0, 100), (2, (-2147483648), (-1))], [], [], [.inl ((-4), [])], [])] = true := by decide +kernel
theorem mqx30 {cst : am_K} {strs : List Nat} {Φ : am_Q → Prop} {D : Nat} {M : am_M} {h : am_H} {l : am_L} (c : hp_C cst strs D) (hM : m_P[147]? = some M) (hD : (8 : Int) ≤ (D : Int) + 1) (hy : ly_hy m_tt ly_TH h) (m s v : Int) (b0 : 0 ≤ m) (t0 : m ≤ 99) (b1 : 0 ≤ s) (t1 : s ≤ 100) (b2 : (-2147483648) ≤ v) (t2 : v ≤ (-1)) (f0 : 0 ≤ (s - m - 1)) (k0 : ly_hv cst h 7170 0 = some (s)) (k1 : ly_hv cst h 7424 (m) = some 1) (k2 : ly_hv cst h 45313 (m) = some (-1)) (k3 : ly_hv cst h 45319 (m) = some (v)) (l0 : hp_a l 0 16) (l1 : hp_i l 1 (m)) (r0 : ∀ (h_9' : am_H) (y0 : Int32), y0.toInt = (-4) → ly_hy m_tt ly_TH h_9' → ly_fr cst [] h h_9' → h.length ≤ h_9'.length → Φ (some (.int y0), h_9', 0, 0)) : hp_F cst strs Φ D M 0 l [] h := by
  refine hq_arc c hM mqx30_k hD [m, s, v] rfl hy (hp_Bc (z := m) rfl b0 t0 (hp_Bc (z := s) rfl b1 t1 (hp_Bc (z := v) rfl b2 t2 hp_Bn))) (hp_Fc (z := ((-1) + ((-1) * m + (1 * s + 0)))) rfl (by omega) hp_Fn) (hp_Kc (zi := (0 + 0)) (zv := (0 + (1 * s + 0))) k0 rfl rfl (by omega) (by omega) (hp_Kc (zi := (0 + (1 * m + 0))) (zv := (1 + 0)) k1 rfl rfl (by omega) (by omega) (hp_Kc (zi := (0 + (1 * m + 0))) (zv := ((-1) + 0)) k2 rfl rfl (by omega) (by omega) (hp_Kc (zi := (0 + (1 * m + 0))) (zv := (0 + (1 * v + 0))) k3 rfl rfl (by omega) (by omega) hp_Kn)))) (hp_La l0 (hp_Li (z := (0 + (1 * m + 0))) l1 rfl (by omega) hp_Ln)) trivial ?_ ?_
  · intro p_9 hp ys l' st_9' h_9' hys a1_9 a2 a3 gZ gL gS
    cases hp
  · intro p_9 hp ys v h_9' hys a1_9 a2 a3 gZ gS
    rcases List.mem_cons.mp hp with rfl | hp
    · obtain rfl := hp_y0 hys
      cases v with
      | none => cases gS
      | some wz =>
        obtain ⟨y0, t0, s0_9, q0, -⟩ := hp_gSi (z := ((-4) + 0)) gS rfl
        cases s0_9
        exact r0 h_9' y0 (by omega) a1_9 a2 a3
    cases hp
theorem mqx31_k : hq_chk [139] 147 0 3 [(0, 0, 99), (1, 0, 100), (2, 1, 2147483647)] [((-1), [(0, (-1)), (1, 1)])] [(0, .inr (.inr (.inl (some 16)))), (1, .inl (0, [(0, 1)]))] [] [(7170, (0, []), (0, [(1, 1)])), (7424, (0, [(0, 1)]), (1, [])), (45313, (0, [(0, 1)]), ((-1), [])), (45319, (0, [(0, 1)]), (0, [(2, 1)]))] [] 8 [] [([], 3, [(0, 0, 99), (1, 0, 100), (2, 1, 2147483647)], [], [], [.inl ((-4), [])], [])] = true := by decide +kernel
theorem mqx31 {cst : am_K} {strs : List Nat} {Φ : am_Q → Prop} {D : Nat} {M : am_M} {h : am_H} {l : am_L} (c : hp_C cst strs D) (hM : m_P[147]? = some M) (hD : (8 : Int) ≤ (D : Int) + 1) (hy : ly_hy m_tt ly_TH h) (m s v : Int) (b0 : 0 ≤ m) (t0 : m ≤ 99) (b1 : 0 ≤ s) (t1 : s ≤ 100) (b2 : 1 ≤ v) (t2 : v ≤ 2147483647) (f0 : 0 ≤ (s - m - 1)) (k0 : ly_hv cst h 7170 0 = some (s)) (k1 : ly_hv cst h 7424 (m) = some 1) (k2 : ly_hv cst h 45313 (m) = some (-1)) (k3 : ly_hv cst h 45319 (m) = some (v)) (l0 : hp_a l 0 16) (l1 : hp_i l 1 (m)) (r0 : ∀ (h_9' : am_H) (y0 : Int32), y0.toInt = (-4) → ly_hy m_tt ly_TH h_9' → ly_fr cst [] h h_9' → h.length ≤ h_9'.length → Φ (some (.int y0), h_9', 0, 0)) : hp_F cst strs Φ D M 0 l [] h := by
  refine hq_arc c hM mqx31_k hD [m, s, v] rfl hy (hp_Bc (z := m) rfl b0 t0 (hp_Bc (z := s) rfl b1 t1 (hp_Bc (z := v) rfl b2 t2 hp_Bn))) (hp_Fc (z := ((-1) + ((-1) * m + (1 * s + 0)))) rfl (by omega) hp_Fn) (hp_Kc (zi := (0 + 0)) (zv := (0 + (1 * s + 0))) k0 rfl rfl (by omega) (by omega) (hp_Kc (zi := (0 + (1 * m + 0))) (zv := (1 + 0)) k1 rfl rfl (by omega) (by omega) (hp_Kc (zi := (0 + (1 * m + 0))) (zv := ((-1) + 0)) k2 rfl rfl (by omega) (by omega) (hp_Kc (zi := (0 + (1 * m + 0))) (zv := (0 + (1 * v + 0))) k3 rfl rfl (by omega) (by omega) hp_Kn)))) (hp_La l0 (hp_Li (z := (0 + (1 * m + 0))) l1 rfl (by omega) hp_Ln)) trivial ?_ ?_
  · intro p_9 hp ys l' st_9' h_9' hys a1_9 a2 a3 gZ gL gS
    cases hp
  · intro p_9 hp ys v h_9' hys a1_9 a2 a3 gZ gS
    rcases List.mem_cons.mp hp with rfl | hp
    · obtain rfl := hp_y0 hys
      cases v with
      | none => cases gS
      | some wz =>
        obtain ⟨y0, t0, s0_9, q0, -⟩ := hp_gSi (z := ((-4) + 0)) gS rfl
        cases s0_9
        exact r0 h_9' y0 (by omega) a1_9 a2 a3
    cases hp
theorem mqx4_k : hq_chk [139] 147 0 2 [(0, 0, 99), (1, 0, 100)] [((-1), [(0, (-1)), (1, 1)])] [(0, .inr (.inr (.inl (some 16)))), (1, .inl (0, [(0, 1)]))] [] [(7170, (0, []), (0, [(1, 1)])), (7424, (0, [(0, 1)]), (1, [])), (45313, (0, [(0, 1)]), ((-1), [])), (45319, (0, [(0, 1)]), (0, [])), (45571, (0, [(0, 1)]), (0, []))] [] 8 [] [([], 2, [(0, 0, 99), (1, 0, 100)], [], [], [.inl ((-4), [])], [])] = true := by decide +kernel
theorem mqx4 {cst : am_K} {strs : List Nat} {Φ : am_Q → Prop} {D : Nat} {M : am_M} {h : am_H} {l : am_L} (c : hp_C cst strs D) (hM : m_P[147]? = some M) (hD : (8 : Int) ≤ (D : Int) + 1) (hy : ly_hy m_tt ly_TH h) (m s : Int) (b0 : 0 ≤ m) (t0 : m ≤ 99) (b1 : 0 ≤ s) (t1 : s ≤ 100) (f0 : 0 ≤ (s - m - 1)) (k0 : ly_hv cst h 7170 0 = some (s)) (k1 : ly_hv cst h 7424 (m) = some 1) (k2 : ly_hv cst h 45313 (m) = some (-1)) (k3 : ly_hv cst h 45319 (m) = some 0) (k4 : ly_hv cst h 45571 (m) = some 0) (l0 : hp_a l 0 16) (l1 : hp_i l 1 (m)) (r0 : ∀ (h_9' : am_H) (y0 : Int32), y0.toInt = (-4) → ly_hy m_tt ly_TH h_9' → ly_fr cst [] h h_9' → h.length ≤ h_9'.length → Φ (some (.int y0), h_9', 0, 0)) : hp_F cst strs Φ D M 0 l [] h := by
  refine hq_arc c hM mqx4_k hD [m, s] rfl hy (hp_Bc (z := m) rfl b0 t0 (hp_Bc (z := s) rfl b1 t1 hp_Bn)) (hp_Fc (z := ((-1) + ((-1) * m + (1 * s + 0)))) rfl (by omega) hp_Fn) (hp_Kc (zi := (0 + 0)) (zv := (0 + (1 * s + 0))) k0 rfl rfl (by omega) (by omega) (hp_Kc (zi := (0 + (1 * m + 0))) (zv := (1 + 0)) k1 rfl rfl (by omega) (by omega) (hp_Kc (zi := (0 + (1 * m + 0))) (zv := ((-1) + 0)) k2 rfl rfl (by omega) (by omega) (hp_Kc (zi := (0 + (1 * m + 0))) (zv := (0 + 0)) k3 rfl rfl (by omega) (by omega) (hp_Kc (zi := (0 + (1 * m + 0))) (zv := (0 + 0)) k4 rfl rfl (by omega) (by omega) hp_Kn))))) (hp_La l0 (hp_Li (z := (0 + (1 * m + 0))) l1 rfl (by omega) hp_Ln)) trivial ?_ ?_
  · intro p_9 hp ys l' st_9' h_9' hys a1_9 a2 a3 gZ gL gS
    cases hp
  · intro p_9 hp ys v_9 h_9' hys a1_9 a2 a3 gZ gS
    rcases List.mem_cons.mp hp with rfl | hp
    · obtain rfl := hp_y0 hys
      cases v_9 with
      | none => cases gS
      | some wz =>
        obtain ⟨y0, t0, s0_9, q0, -⟩ := hp_gSi (z := ((-4) + 0)) gS rfl
        cases s0_9
        exact r0 h_9' y0 (by omega) a1_9 a2 a3
    cases hp
theorem mqx5_k : hq_chk [139] 147 0 2 [(0, 0, 99), (1, 0, 100)] [((-1), [(0, (-1)), (1, 1)])] [(0, .inr (.inr (.inl (some 16)))), (1, .inl (0, [(0, 1)]))] [] [(7170, (0, []), (0, [(1, 1)])), (7424, (0, [(0, 1)]), (1, [])), (45313, (0, [(0, 1)]), ((-1), [])), (45319, (0, [(0, 1)]), (0, [])), (45571, (0, [(0, 1)]), (1, []))] [] 8 [(43, ([], 2, [(0, 0, 99), (1, 0, 100)], [], [(0, .inr (.inr (.inl (some 16)))), (1, .inl (0, [(0, 1)])), (2, .inr (.inr (.inr (0, (0, [(0, 1)])))))], [.inl (6, []), .inr (.inr (.inr (0, (0, [(0, 1)])))), .inr (.inr (.inl (some 44)))], []))] [] = true := by decide +kernel
theorem mqx5 {cst : am_K} {strs : List Nat} {Φ : am_Q → Prop} {D : Nat} {M : am_M} {h : am_H} {l : am_L} (c : hp_C cst strs D) (hM : m_P[147]? = some M) (hD : (8 : Int) ≤ (D : Int) + 1) (hy : ly_hy m_tt ly_TH h) (m s : Int) (b0 : 0 ≤ m) (t0 : m ≤ 99) (b1 : 0 ≤ s) (t1 : s ≤ 100) (f0 : 0 ≤ (s - m - 1)) (k0 : ly_hv cst h 7170 0 = some (s)) (k1 : ly_hv cst h 7424 (m) = some 1) (k2 : ly_hv cst h 45313 (m) = some (-1)) (k3 : ly_hv cst h 45319 (m) = some 0) (k4 : ly_hv cst h 45571 (m) = some 1) (l0 : hp_a l 0 16) (l1 : hp_i l 1 (m)) (e0 : ∀ (l' : am_L) (h_9' : am_H) (y0 : Int32) (y1 : Nat), y0.toInt = 6 → (y1 : Int) = (m) → 177 + 19 * (y1 + 1) ≤ h_9'.length → ly_hy m_tt ly_TH h_9' → ly_fr cst [] h h_9' → h.length ≤ h_9'.length → hp_a l' 0 16 → hp_i l' 1 (m) → hp_ml l' 2 h_9'.length (m) → hp_F cst strs Φ D M 43 l' [.int y0, .ref (16 + (177 + 19 * y1 + 0)), .ref 44] h_9') : hp_F cst strs Φ D M 0 l [] h := by
  refine hq_arc c hM mqx5_k hD [m, s] rfl hy (hp_Bc (z := m) rfl b0 t0 (hp_Bc (z := s) rfl b1 t1 hp_Bn)) (hp_Fc (z := ((-1) + ((-1) * m + (1 * s + 0)))) rfl (by omega) hp_Fn) (hp_Kc (zi := (0 + 0)) (zv := (0 + (1 * s + 0))) k0 rfl rfl (by omega) (by omega) (hp_Kc (zi := (0 + (1 * m + 0))) (zv := (1 + 0)) k1 rfl rfl (by omega) (by omega) (hp_Kc (zi := (0 + (1 * m + 0))) (zv := ((-1) + 0)) k2 rfl rfl (by omega) (by omega) (hp_Kc (zi := (0 + (1 * m + 0))) (zv := (0 + 0)) k3 rfl rfl (by omega) (by omega) (hp_Kc (zi := (0 + (1 * m + 0))) (zv := (1 + 0)) k4 rfl rfl (by omega) (by omega) hp_Kn))))) (hp_La l0 (hp_Li (z := (0 + (1 * m + 0))) l1 rfl (by omega) hp_Ln)) trivial ?_ ?_
  · intro p_9 hp ys l' st_9' h_9' hys a1_9 a2 a3 gZ gL gS
    rcases List.mem_cons.mp hp with rfl | hp
    · obtain rfl := hp_y0 hys
      obtain ⟨y0, t0, rfl, q0, g0⟩ := hp_gSi (z := (6 + 0)) gS rfl
      obtain ⟨y1, t1, rfl, q1_9, p1_9, g1⟩ := hp_gSm (z := (0 + (1 * m + 0))) g0 rfl
      obtain ⟨t2_9, rfl, g2⟩ := hp_gSa g1 (by decide)
      cases hp_gSn g2
      exact e0 l' h_9' y0 y1 (by omega) (by omega) p1_9 a1_9 a2 a3 (hp_gLa gL (List.mem_of_getElem? (i := 0) rfl) (by decide)) (hp_gLi (z := (0 + (1 * m + 0))) gL (List.mem_of_getElem? (i := 1) rfl) rfl (by omega)) (hp_gLm (z := (0 + (1 * m + 0))) gL (List.mem_of_getElem? (i := 2) rfl) rfl (by omega))
    cases hp
  · intro p_9 hp ys v_9 h_9' hys a1_9 a2 a3 gZ gS
    cases hp
theorem mqx6_k : hp_chk 147 46 1 [(0, 0, 99)] [] [(0, .inr (.inr (.inl (some 16)))), (1, .inl (0, [(0, 1)])), (2, .inr (.inr (.inr (0, (0, [(0, 1)])))))] [.inl (0, [])] [] [] 2 [] [([], 1, [(0, 0, 99)], [], [], [.inl ((-1), [])], [])] = true := by decide +kernel
theorem mqx6 {cst : am_K} {strs : List Nat} {Φ : am_Q → Prop} {D : Nat} {M : am_M} {h : am_H} {l : am_L} (c : hp_C cst strs D) (hM : m_P[147]? = some M) (hD : (2 : Int) ≤ (D : Int) + 1) (hy : ly_hy m_tt ly_TH h) (m : Int) (x0 : Int32) (hx0 : x0.toInt = 0) (b0 : 0 ≤ m) (t0 : m ≤ 99) (l0 : hp_a l 0 16) (l1 : hp_i l 1 (m)) (l2 : hp_ml l 2 h.length (m)) (r0 : ∀ (h_9' : am_H) (y0 : Int32), y0.toInt = (-1) → ly_hy m_tt ly_TH h_9' → ly_fr cst [] h h_9' → h.length ≤ h_9'.length → Φ (some (.int y0), h_9', 0, 0)) : hp_F cst strs Φ D M 46 l [.int x0] h := by
  refine hp_arc c hM mqx6_k hD [m] rfl hy (hp_Bc (z := m) rfl b0 t0 hp_Bn) hp_Fn hp_Kn (hp_La l0 (hp_Li (z := (0 + (1 * m + 0))) l1 rfl (by omega) (hp_Lm (z := (0 + (1 * m + 0))) l2 rfl (by omega) hp_Ln))) (hp_Si (z := (0 + 0)) rfl (by omega) trivial) ?_ ?_
  · intro p_9 hp ys l' st_9' h_9' hys a1_9 a2 a3 gZ gL gS
    cases hp
  · intro p_9 hp ys v_9 h_9' hys a1_9 a2 a3 gZ gS
    rcases List.mem_cons.mp hp with rfl | hp
    · obtain rfl := hp_y0 hys
      cases v_9 with
      | none => cases gS
      | some wz =>
        obtain ⟨y0, t0, s0_9, q0, -⟩ := hp_gSi (z := ((-1) + 0)) gS rfl
        cases s0_9
        exact r0 h_9' y0 (by omega) a1_9 a2 a3
    cases hp
theorem mqx70_k : hp_chk 147 46 2 [(0, 0, 99), (1, (-2147483648), (-1))] [] [(0, .inr (.inr (.inl (some 16)))), (1, .inl (0, [(0, 1)])), (2, .inr (.inr (.inr (0, (0, [(0, 1)])))))] [.inl (0, [(1, 1)])] [] [] 2 [(58, ([], 2, [(0, 0, 99), (1, (-2147483648), (-1))], [], [(0, .inr (.inr (.inl (some 16)))), (1, .inl (0, [(0, 1)])), (2, .inr (.inr (.inr (0, (0, [(0, 1)])))))], [.inr (.inr (.inr (0, (0, [(0, 1)])))), .inr (.inr (.inl (some 44)))], []))] [] = true := by decide +kernel
theorem mqx70 {cst : am_K} {strs : List Nat} {Φ : am_Q → Prop} {D : Nat} {M : am_M} {h : am_H} {l : am_L} (c : hp_C cst strs D) (hM : m_P[147]? = some M) (hD : (2 : Int) ≤ (D : Int) + 1) (hy : ly_hy m_tt ly_TH h) (m v : Int) (x0 : Int32) (hx0 : x0.toInt = (v)) (b0 : 0 ≤ m) (t0 : m ≤ 99) (b1 : (-2147483648) ≤ v) (t1 : v ≤ (-1)) (l0 : hp_a l 0 16) (l1 : hp_i l 1 (m)) (l2 : hp_ml l 2 h.length (m)) (e0 : ∀ (l' : am_L) (h_9' : am_H) (y0 : Nat), (y0 : Int) = (m) → 177 + 19 * (y0 + 1) ≤ h_9'.length → ly_hy m_tt ly_TH h_9' → ly_fr cst [] h h_9' → h.length ≤ h_9'.length → hp_a l' 0 16 → hp_i l' 1 (m) → hp_ml l' 2 h_9'.length (m) → hp_F cst strs Φ D M 58 l' [.ref (16 + (177 + 19 * y0 + 0)), .ref 44] h_9') : hp_F cst strs Φ D M 46 l [.int x0] h := by
  refine hp_arc c hM mqx70_k hD [m, v] rfl hy (hp_Bc (z := m) rfl b0 t0 (hp_Bc (z := v) rfl b1 t1 hp_Bn)) hp_Fn hp_Kn (hp_La l0 (hp_Li (z := (0 + (1 * m + 0))) l1 rfl (by omega) (hp_Lm (z := (0 + (1 * m + 0))) l2 rfl (by omega) hp_Ln))) (hp_Si (z := (0 + (1 * v + 0))) rfl (by omega) trivial) ?_ ?_
  · intro p_9 hp ys l' st_9' h_9' hys a1_9 a2 a3 gZ gL gS
    rcases List.mem_cons.mp hp with rfl | hp
    · obtain rfl := hp_y0 hys
      obtain ⟨y0, t0, rfl, q0, p0_9, g0⟩ := hp_gSm (z := (0 + (1 * m + 0))) gS rfl
      obtain ⟨t1, rfl, g1⟩ := hp_gSa g0 (by decide)
      cases hp_gSn g1
      exact e0 l' h_9' y0 (by omega) p0_9 a1_9 a2 a3 (hp_gLa gL (List.mem_of_getElem? (i := 0) rfl) (by decide)) (hp_gLi (z := (0 + (1 * m + 0))) gL (List.mem_of_getElem? (i := 1) rfl) rfl (by omega)) (hp_gLm (z := (0 + (1 * m + 0))) gL (List.mem_of_getElem? (i := 2) rfl) rfl (by omega))
    cases hp
  · intro p_9 hp ys v h_9' hys a1_9 a2 a3 gZ gS
    cases hp
theorem mqx71_k : hp_chk 147 46 2 [(0, 0, 99), (1, 1, 2147483647)] [] [(0, .inr (.inr (.inl (some 16)))), (1, .inl (0, [(0, 1)])), (2, .inr (.inr (.inr (0, (0, [(0, 1)])))))] [.inl (0, [(1, 1)])] [] [] 2 [(58, ([], 2, [(0, 0, 99), (1, 1, 2147483647)], [], [(0, .inr (.inr (.inl (some 16)))), (1, .inl (0, [(0, 1)])), (2, .inr (.inr (.inr (0, (0, [(0, 1)])))))], [.inr (.inr (.inr (0, (0, [(0, 1)])))), .inr (.inr (.inl (some 44)))], []))] [] = true := by decide +kernel
theorem mqx71 {cst : am_K} {strs : List Nat} {Φ : am_Q → Prop} {D : Nat} {M : am_M} {h : am_H} {l : am_L} (c : hp_C cst strs D) (hM : m_P[147]? = some M) (hD : (2 : Int) ≤ (D : Int) + 1) (hy : ly_hy m_tt ly_TH h) (m v : Int) (x0 : Int32) (hx0 : x0.toInt = (v)) (b0 : 0 ≤ m) (t0 : m ≤ 99) (b1 : 1 ≤ v) (t1 : v ≤ 2147483647) (l0 : hp_a l 0 16) (l1 : hp_i l 1 (m)) (l2 : hp_ml l 2 h.length (m)) (e0 : ∀ (l' : am_L) (h_9' : am_H) (y0 : Nat), (y0 : Int) = (m) → 177 + 19 * (y0 + 1) ≤ h_9'.length → ly_hy m_tt ly_TH h_9' → ly_fr cst [] h h_9' → h.length ≤ h_9'.length → hp_a l' 0 16 → hp_i l' 1 (m) → hp_ml l' 2 h_9'.length (m) → hp_F cst strs Φ D M 58 l' [.ref (16 + (177 + 19 * y0 + 0)), .ref 44] h_9') : hp_F cst strs Φ D M 46 l [.int x0] h := by
  refine hp_arc c hM mqx71_k hD [m, v] rfl hy (hp_Bc (z := m) rfl b0 t0 (hp_Bc (z := v) rfl b1 t1 hp_Bn)) hp_Fn hp_Kn (hp_La l0 (hp_Li (z := (0 + (1 * m + 0))) l1 rfl (by omega) (hp_Lm (z := (0 + (1 * m + 0))) l2 rfl (by omega) hp_Ln))) (hp_Si (z := (0 + (1 * v + 0))) rfl (by omega) trivial) ?_ ?_
  · intro p_9 hp ys l' st_9' h_9' hys a1_9 a2 a3 gZ gL gS
    rcases List.mem_cons.mp hp with rfl | hp
    · obtain rfl := hp_y0 hys
      obtain ⟨y0, t0, rfl, q0, p0_9, g0⟩ := hp_gSm (z := (0 + (1 * m + 0))) gS rfl
      obtain ⟨t1, rfl, g1⟩ := hp_gSa g0 (by decide)
      cases hp_gSn g1
      exact e0 l' h_9' y0 (by omega) p0_9 a1_9 a2 a3 (hp_gLa gL (List.mem_of_getElem? (i := 0) rfl) (by decide)) (hp_gLi (z := (0 + (1 * m + 0))) gL (List.mem_of_getElem? (i := 1) rfl) rfl (by omega)) (hp_gLm (z := (0 + (1 * m + 0))) gL (List.mem_of_getElem? (i := 2) rfl) rfl (by omega))
    cases hp
  · intro p_9 hp ys v h_9' hys a1_9 a2 a3 gZ gS
    cases hp
theorem mqx8_k : hp_chk 147 61 1 [(0, (-2147483648), 2147483647)] [] [(0, .inr (.inr (.inl (some 16))))] [.inl (0, [(0, 1)])] [] [] 2 [] [([], 1, [(0, (-2147483648), 2147483647)], [], [], [.inl (0, [(0, 1)])], [])] = true := by decide +kernel
theorem mqx8 {cst : am_K} {strs : List Nat} {Φ : am_Q → Prop} {D : Nat} {M : am_M} {h : am_H} {l : am_L} (c : hp_C cst strs D) (hM : m_P[147]? = some M) (hD : (2 : Int) ≤ (D : Int) + 1) (hy : ly_hy m_tt ly_TH h) (v : Int) (x0 : Int32) (hx0 : x0.toInt = (v)) (b0 : (-2147483648) ≤ v) (t0 : v ≤ 2147483647) (l0 : hp_a l 0 16) (r0 : ∀ (h_9' : am_H) (y0 : Int32), y0.toInt = (v) → ly_hy m_tt ly_TH h_9' → ly_fr cst [] h h_9' → h.length ≤ h_9'.length → Φ (some (.int y0), h_9', 0, 0)) : hp_F cst strs Φ D M 61 l [.int x0] h := by
  refine hp_arc c hM mqx8_k hD [v] rfl hy (hp_Bc (z := v) rfl b0 t0 hp_Bn) hp_Fn hp_Kn (hp_La l0 hp_Ln) (hp_Si (z := (0 + (1 * v + 0))) rfl (by omega) trivial) ?_ ?_
  · intro p_9 hp ys l' st_9' h_9' hys a1_9 a2 a3 gZ gL gS
    cases hp
  · intro p_9 hp ys v h_9' hys a1_9 a2 a3 gZ gS
    rcases List.mem_cons.mp hp with rfl | hp
    · obtain rfl := hp_y0 hys
      cases v with
      | none => cases gS
      | some wz =>
        obtain ⟨y0, t0, s0_9, q0, -⟩ := hp_gSi (z := (0 + (1 * v + 0))) gS rfl
        cases s0_9
        exact r0 h_9' y0 (by omega) a1_9 a2 a3
    cases hp
/-- add to woven -/
theorem wad_run {cst : am_K} {strs : List Nat} {D : Nat} {h0 : am_H} (cc : ∀ d_9, hp_C cst strs d_9) (hD : 1 ≤ D) (hy : ly_hy m_tt ly_TH h0) {us zs : List Int} (nl : us.length < 28) (lz : zs.length = us.length) (kz : ly_hv cst h0 10242 0 = some (us.length : Int)) (A : fn_N cst h0 10496 0 us) (A' : fn_N cst h0 10752 0 zs) {xv : Int64} {xw : Int32} {v : Int} (ev : xv.toInt = v) (ew : xw.toInt = 0) :
    ∃ r_9, am_Run cst m_cl m_tt m_P strs sx_bi (D + 1) 122 [.ref 56, .long xv, .int xw] h0 r_9 ∧ (fun r_9 : am_Q => ∃ a_9 : Int32, r_9.1 = some (.int a_9) ∧ r_9.2.2.1 = 0 ∧ r_9.2.2.2 = 0 ∧ ly_hy m_tt ly_TH r_9.2.1 ∧ ly_fr cst [10242, 10496, 10752] h0 r_9.2.1 ∧ ly_hv cst r_9.2.1 10242 0 = some ((us ++ [v]).length : Int) ∧ fn_N cst r_9.2.1 10496 0 (us ++ [v]) ∧ fn_N cst r_9.2.1 10752 0 (zs ++ [0])) r_9 := by
  obtain ⟨M_9, hM_9, hl⟩ := hp_M (mi := 122) (k := 4) (by decide +kernel)
  have c_9 : hp_C cst strs D := cc _
  have v0_9 : -9223372036854775808 ≤ v := by rw [← ev]; exact xv.le_toInt
  have v1_9 : v ≤ 9223372036854775807 := by rw [← ev]; exact xv.toInt_le
  have go_9 : hp_F cst strs (fun r_9 : am_Q => ∃ a_9 : Int32, r_9.1 = some (.int a_9) ∧ r_9.2.2.1 = 0 ∧ r_9.2.2.2 = 0 ∧ ly_hy m_tt ly_TH r_9.2.1 ∧ ly_fr cst [10242, 10496, 10752] h0 r_9.2.1 ∧ ly_hv cst r_9.2.1 10242 0 = some ((us ++ [v]).length : Int) ∧ fn_N cst r_9.2.1 10496 0 (us ++ [v]) ∧ fn_N cst r_9.2.1 10752 0 (zs ++ [0])) D M_9 0 (lv_args 0 [.ref 56, .long xv, .int xw]) [] h0 := by
    refine wa0 c_9 hM_9 (by omega) hy v (us.length : Int) v0_9 v1_9 (by omega) (by omega) kz rfl ⟨xv, rfl, ev⟩ ⟨xw, rfl, ew⟩ (fun l1 h1 z0 z1 e0_9 e1_9 u1_9 u2_9 u3 k1_9 g0 g1 g3_9 => ?_)
    refine hp_stj (c := 41) hM_9 (by decide +kernel) u1_9 (show ly_ths ly_TH 41 = some (.inl (.long, 28, 0, 0)) from rfl) rfl (by omega) (by omega) (fun h2 y1 y2 y3 => ?_)
    rw [e0_9, e1_9] at y3
    have y3 : hp_put cst 10496 (0 + (us.length : Int)) v h1 h2 := by rw [Int.zero_add]; exact y3
    refine wa1 c_9 hM_9 (by omega) y1 v (us.length : Int) v0_9 v1_9 (by omega) (by omega) (by rw [y3.2 _ _ (Or.inl (by decide))]; exact k1_9) g0 g1 g3_9 (fun l3 h3 z3 z4 e3_9 e4_9 o1 o2 o3_9 k3_9 n0_9 n1_9 n3_9 => ?_)
    refine hp_st (c := 42) hM_9 (by decide +kernel) o1 (show ly_ths ly_TH 42 = some (.inl (.int, 28, -2147483648, 2147483647)) from rfl) rfl (by omega) (by omega) (by omega) (by omega) (fun h4 x1_9 x2_9 x3 => ?_)
    rw [e3_9, e4_9] at x3
    have x3 : hp_put cst 10752 (0 + (zs.length : Int)) 0 h3 h4 := by rw [Int.zero_add, lz]; exact x3
    refine wa2 c_9 hM_9 (by omega) x1_9 (us.length : Int) (by omega) (by omega) (by rw [x3.2 _ _ (Or.inl (by decide))]; exact k3_9) n0_9 (fun h5 a_9 ha_9 t1_9 t2_9 t3_9 kz5 => ⟨a_9, rfl, rfl, rfl, t1_9, ly_fr_tr (hp_sub2 rfl u2_9) (ly_fr_tr (hp_put_fr rfl y3) (ly_fr_tr (hp_sub2 rfl o2) (ly_fr_tr (hp_put_fr rfl x3) (hp_sub2 rfl t2_9)))), ?_, ?_, ?_⟩)
    · rw [List.length_append, List.length_singleton]
      exact kz5
    · have B2 := fn_mv (fn_put (fn_mv A u2_9 rfl) y3) o2 rfl
      have B3 : fn_N cst h4 10496 0 (us ++ [v]) := fun k_9 hk => by rw [x3.2 _ _ (Or.inl (by decide))]; exact B2 k_9 hk
      exact fn_mv B3 t2_9 rfl
    · have B1 : fn_N cst h2 10752 0 zs := fun k_9 hk => by rw [y3.2 _ _ (Or.inl (by decide))]; exact u2_9 _ _ _ rfl (A' k_9 hk)
      exact fn_mv (fn_put (fn_mv B1 o2 rfl) x3) t2_9 rfl
  obtain ⟨n_9', r_9, hgo, w_9, r1_9, r2, r3, r4⟩ := go_9
  simp only [Nat.zero_add] at r2 r3
  exact ⟨r_9, Or.inr ⟨M_9, n_9', hM_9, hl, hgo⟩, w_9, r1_9, r2, r3, r4⟩
/-- weave -/
theorem wv_run {cst : am_K} {strs : List Nat} {D : Nat} {h0 : am_H} (cc : ∀ d_9, hp_C cst strs d_9) (hD : 6 ≤ D) (hy0 : ly_hy m_tt ly_TH h0) {m : Nat} (m1 : (m : Int) ≤ 99) (hm : 177 + 19 * (m + 1) ≤ h0.length) {row ws : List Int} (R : wR cst h0 (m : Int) row) {cx : Int} (I : wI cst h0 cx ws) (w8 : ws.length ≤ 8) (wb : ∀ k_9 (hk : k_9 < ws.length), -9223372036854775808 ≤ ws[k_9] ∧ ws[k_9] ≤ 9223372036854775807) (cx1 : cx ≤ 1239) (PT : ∀ (a_9 b_9 : Nat), a_9 ≤ row.length → b_9 ≤ ws.length → ly_hv cst h0 9984 (9 * (a_9 : Int) + (b_9 : Int)) = some (pf9 (row.drop a_9) (ws.drop b_9) : Int)) (w28 : (wv9 row ws).length ≤ 28) {xc xw : Int32} (ec : xc.toInt = cx) (ew : xw.toInt = (ws.length : Int)) :
    ∃ r_9, am_Run cst m_cl m_tt m_P strs sx_bi (D + 1) 151 [.ref 44, .ref (16 + (177 + 19 * m + 1)), .int xc, .int xw] h0 r_9 ∧ (fun r_9 : am_Q => r_9.1 = none ∧ r_9.2.2.1 = 0 ∧ r_9.2.2.2 = 0 ∧ ly_hy m_tt ly_TH r_9.2.1 ∧ ly_fr cst [10242, 10243, 10496, 10752] h0 r_9.2.1 ∧ ly_hv cst r_9.2.1 10242 0 = some ((wv9 row ws).length : Int) ∧ ly_hv cst r_9.2.1 10243 0 = some 1 ∧ fn_N cst r_9.2.1 10496 0 (wv9 row ws) ∧ ∃ zs : List Int, zs.length = (wv9 row ws).length ∧ (∀ v_9 ∈ zs, v_9 = 0) ∧ fn_N cst r_9.2.1 10752 0 zs) r_9 := by
  obtain ⟨M_9, hM_9, hl⟩ := hp_M (mi := 151) (k := 4) (by decide +kernel)
  have c_9 : hp_C cst strs D := cc _
  obtain ⟨n28_9, kn_9, kr⟩ := R
  have cx0 : -1 ≤ cx := by rcases I with z_9 | z_9 <;> omega
  have lp : ∀ (Q_9 : Nat) (h_9 : am_H) (l : am_L) (i_9 j_9 : Nat) (us zs : List Int), (row.length - i_9) + (ws.length - j_9) < Q_9 → i_9 ≤ row.length → j_9 ≤ ws.length → us ++ wv9 (row.drop i_9) (ws.drop j_9) = wv9 row ws → zs.length = us.length → (∀ v_9 ∈ zs, v_9 = 0) → ly_hy m_tt ly_TH h_9 → ly_fr cst [10242, 10243, 10496, 10752] h0 h_9 → ly_hv cst h_9 10242 0 = some (us.length : Int) → fn_N cst h_9 10496 0 us → fn_N cst h_9 10752 0 zs → hp_a l 0 44 → hp_mlj l 1 1 h_9.length (m : Int) → hp_i l 2 cx → hp_i l 3 (ws.length : Int) → hp_i l 4 (i_9 : Int) → hp_i l 5 (j_9 : Int) → hp_i l 6 (us.length : Int) → hp_F cst strs (fun r_9 : am_Q => r_9.1 = none ∧ r_9.2.2.1 = 0 ∧ r_9.2.2.2 = 0 ∧ ly_hy m_tt ly_TH r_9.2.1 ∧ ly_fr cst [10242, 10243, 10496, 10752] h0 r_9.2.1 ∧ ly_hv cst r_9.2.1 10242 0 = some ((wv9 row ws).length : Int) ∧ ly_hv cst r_9.2.1 10243 0 = some 1 ∧ fn_N cst r_9.2.1 10496 0 (wv9 row ws) ∧ ∃ zs : List Int, zs.length = (wv9 row ws).length ∧ (∀ v_9 ∈ zs, v_9 = 0) ∧ fn_N cst r_9.2.1 10752 0 zs) D M_9 16 l [] h_9 := by
    intro Q_9
    induction Q_9 with
    | zero => intro h_9 l i_9 j_9 us zs hQ; omega
    | succ Q_9 ih_9 =>
      intro h_9 l i_9 j_9 us zs hQ hi_9' hj' eu lz z0' hy fr_9 kz A_9 A_9' l0 l1 l2 l3 l4 l5 l6
      have lu := congrArg List.length eu
      rw [List.length_append] at lu
      by_cases ej : j_9 = ws.length
      · by_cases ei : i_9 = row.length
        · have eu' : us = wv9 row ws := by
            rw [ei, ej, List.drop_eq_nil_of_le (Nat.le_refl _), wv9_n, List.drop_eq_nil_of_le (Nat.le_refl _), List.append_nil] at eu
            exact eu
          rw [ei] at l4
          rw [ej] at l5
          refine wvX c_9 hM_9 (by omega) hy (m : Int) cx (ws.length : Int) (row.length : Int) (us.length : Int) (by omega) m1 cx0 cx1 (by omega) (by omega) (by omega) (by omega) (by omega) (by omega) (fr_9 _ _ _ rfl kn_9) l0 l1 l2 l3 l4 l5 l6 (fun h3 u1_9 u2_9 u3 k3_9 => ⟨rfl, rfl, rfl, u1_9, ly_fr_tr fr_9 (hp_sub2 rfl u2_9), ?_, k3_9, ?_, zs, ?_, z0', fn_mv A_9' u2_9 rfl⟩)
          · rw [← eu']
            exact u2_9 _ _ _ rfl kz
          · rw [← eu']
            exact fn_mv A_9 u2_9 rfl
          · rw [← eu']
            exact lz
        have hi_9 : i_9 < row.length := by omega
        obtain ⟨kx, x0_9, x1_9⟩ := kr i_9 hi_9
        have kx := fr_9 _ _ _ rfl kx
        have ln : us.length < 28 := by
          rw [ej, List.drop_eq_nil_of_le (show ws.length ≤ ws.length from Nat.le_refl _), wv9_0, List.length_drop] at lu
          omega
        refine wvE c_9 hM_9 (by omega) hy (m : Int) cx (ws.length : Int) (row.length : Int) (i_9 : Int) (us.length : Int) (row[i_9]) (by omega) m1 cx0 cx1 (by omega) (by omega) (by omega) (by omega) (by omega) (by omega) (by omega) (by omega) x0_9 x1_9 (by omega) (fr_9 _ _ _ rfl kn_9) kx l0 l1 l2 l3 l4 (by rw [← ej]; exact l5) l6 (fun l4 h4 z0 z1 e0_9 e1_9 u1_9 u2_9 u3 g0 g1 g2 g3_9 g4 g5_9 g6 g7 g8 => ?_)
        have left_9 : us ++ (row[i_9] :: wv9 (row.drop (i_9 + 1)) (ws.drop (j_9))) = wv9 row ws := by
          rw [← eu]
          congr 1
          rw [List.drop_eq_nil_of_le (show ws.length ≤ j_9 by omega), wv9_0, wv9_0, List.drop_eq_getElem_cons hi_9]
        have ll := congrArg List.length left_9
        rw [List.length_append, List.length_cons] at ll
        obtain ⟨r_9, hrun, a_9, r1_9, r2, r3, rhy, rfr, rk, rN_9, rZ⟩ := wad_run (D := D - 1) cc (by omega) u1_9 (us := us) (zs := zs) (by omega) lz (u2_9 _ _ _ rfl kz) (fn_mv A_9 u2_9 rfl) (fn_mv A_9' u2_9 rfl) (xv := z1) (xw := z0) e1_9 e0_9
        rw [show D - 1 + 1 = D by omega] at hrun
        refine hp_call (mi := 151) (pc := 167) (tg := 122) (na := 3) (c := 40) (ci := 6) (st0 := [.int z0, .long z1, .ref 56]) (st := []) (av := [.long z1, .int z0]) hM_9 (by decide +kernel) u1_9 rfl rfl rfl (by decide) hrun r2 r3 ?_
        rw [r1_9]
        have le4 := hp_len2 rfr rfl
        exact wvF00 c_9 hM_9 (by omega) rhy (m : Int) cx (ws.length : Int) (i_9 : Int) (j_9 : Int) (us.length : Int) a_9.toInt a_9 rfl (by omega) m1 cx0 cx1 (by omega) (by omega) (by omega) (by omega) (by omega) (by omega) (by omega) (by omega) a_9.le_toInt a_9.toInt_le g0 (hp_mljm g1 le4) g2 g3_9 g4 (by rw [ej]; exact g5_9) g6 g7 g8 (fun l6 h6 v1_9 v2 v3 o0_9 o1 o2 o3_9 o4_9 o5_9 o6 => ih_9 h6 l6 (i_9 + 1) (j_9) (us ++ [row[i_9]]) (zs ++ [0]) (by omega) (by omega) (by omega) (by rw [List.append_assoc]; exact left_9) (by rw [List.length_append, List.length_append, lz]; rfl) (fun w_9 hw => by
          rcases List.mem_append.mp hw with hw | hw
          · exact z0' w_9 hw
          · exact List.mem_singleton.mp hw) v1_9 (ly_fr_tr fr_9 (ly_fr_tr (hp_sub2 rfl u2_9) (ly_fr_tr (hp_sub2 rfl rfr) (hp_sub2 rfl v2)))) (v2 _ _ _ rfl rk) (fn_mv rN_9 v2 rfl) (fn_mv rZ v2 rfl) o0_9 o1 o2 o3_9 (by rw [show ((i_9 + 1 : Nat) : Int) = (i_9 : Int) + 1 by omega]; exact o4_9) o5_9 (by rw [List.length_append, List.length_singleton]; exact o6))
      have hj : j_9 < ws.length := by omega
      rcases I with ⟨z1, z2⟩ | ⟨z1, z2⟩
      · rw [z2] at hj
        exact absurd hj (Nat.not_lt_zero _)
      obtain ⟨cl, f_9, a1_9, a2, a3, a4, a5, a6, a7, a8, a9⟩ := z2
      obtain ⟨b0, b1⟩ := wb j_9 hj
      have kz2 := fr_9 _ _ _ rfl (a9 j_9 hj)
      have wl := wv9_len _ (row.drop i_9) (ws.drop j_9) (Nat.le_refl _)
      have lc := lc9_le _ (row.drop i_9) (ws.drop j_9) (Nat.le_refl _)
      rw [List.length_drop, List.length_drop] at wl lc
      have ln : us.length < 28 := by omega
      by_cases ei : i_9 = row.length
      · refine wvB c_9 hM_9 (by omega) hy (m : Int) cx (ws.length : Int) (row.length : Int) (j_9 : Int) (us.length : Int) cl f_9 (f_9 + (ws.length : Int)) (ws[j_9]) (by omega) m1 z1 cx1 (by omega) (by omega) (by omega) (by omega) (by omega) (by omega) (by omega) (by omega) (by omega) a4 a7 (by omega) (by omega) a8 b0 b1 (by omega) (by omega) (by omega) (fr_9 _ _ _ rfl kn_9) (fr_9 _ _ _ rfl a1_9) (fr_9 _ _ _ rfl a5) (fr_9 _ _ _ rfl a6) kz2 l0 l1 l2 l3 (by rw [← ei]; exact l4) l5 l6 (fun l4 h4 z0 z1 e0_9 e1_9 u1_9 u2_9 u3 g0 g1 g2 g3_9 g4 g5_9 g6 g7 g8 => ?_)
        have left_9 : us ++ (ws[j_9] :: wv9 (row.drop (i_9)) (ws.drop (j_9 + 1))) = wv9 row ws := by
          rw [← eu]
          congr 1
          rw [List.drop_eq_nil_of_le (show row.length ≤ i_9 by omega), wv9_n, wv9_n, List.drop_eq_getElem_cons hj]
        have ll := congrArg List.length left_9
        rw [List.length_append, List.length_cons] at ll
        obtain ⟨r_9, hrun, a_9, r1_9, r2, r3, rhy, rfr, rk, rN_9, rZ⟩ := wad_run (D := D - 1) cc (by omega) u1_9 (us := us) (zs := zs) (by omega) lz (u2_9 _ _ _ rfl kz) (fn_mv A_9 u2_9 rfl) (fn_mv A_9' u2_9 rfl) (xv := z1) (xw := z0) e1_9 e0_9
        rw [show D - 1 + 1 = D by omega] at hrun
        refine hp_call (mi := 151) (pc := 167) (tg := 122) (na := 3) (c := 40) (ci := 6) (st0 := [.int z0, .long z1, .ref 56]) (st := []) (av := [.long z1, .int z0]) hM_9 (by decide +kernel) u1_9 rfl rfl rfl (by decide) hrun r2 r3 ?_
        rw [r1_9]
        have le4 := hp_len2 rfr rfl
        exact wvF01 c_9 hM_9 (by omega) rhy (m : Int) cx (ws.length : Int) (i_9 : Int) (j_9 : Int) (us.length : Int) a_9.toInt a_9 rfl (by omega) m1 cx0 cx1 (by omega) (by omega) (by omega) (by omega) (by omega) (by omega) (by omega) (by omega) a_9.le_toInt a_9.toInt_le g0 (hp_mljm g1 le4) g2 g3_9 (by rw [ei]; exact g4) g5_9 g6 g7 g8 (fun l6 h6 v1_9 v2 v3 o0_9 o1 o2 o3_9 o4_9 o5_9 o6 => ih_9 h6 l6 (i_9) (j_9 + 1) (us ++ [ws[j_9]]) (zs ++ [0]) (by omega) (by omega) (by omega) (by rw [List.append_assoc]; exact left_9) (by rw [List.length_append, List.length_append, lz]; rfl) (fun w_9 hw => by
          rcases List.mem_append.mp hw with hw | hw
          · exact z0' w_9 hw
          · exact List.mem_singleton.mp hw) v1_9 (ly_fr_tr fr_9 (ly_fr_tr (hp_sub2 rfl u2_9) (ly_fr_tr (hp_sub2 rfl rfr) (hp_sub2 rfl v2)))) (v2 _ _ _ rfl rk) (fn_mv rN_9 v2 rfl) (fn_mv rZ v2 rfl) o0_9 o1 o2 o3_9 o4_9 (by rw [show ((j_9 + 1 : Nat) : Int) = (j_9 : Int) + 1 by omega]; exact o5_9) (by rw [List.length_append, List.length_singleton]; exact o6))
      have hi_9 : i_9 < row.length := by omega
      obtain ⟨kx, x0_9, x1_9⟩ := kr i_9 hi_9
      have kx := fr_9 _ _ _ rfl kx
      by_cases q_9 : row[i_9] = ws[j_9]
      · have kzA := kz2
        rw [← q_9] at kzA
        refine wvA c_9 hM_9 (by omega) hy (m : Int) cx (ws.length : Int) (row.length : Int) (i_9 : Int) (j_9 : Int) (us.length : Int) cl f_9 (f_9 + (ws.length : Int)) (row[i_9]) (by omega) m1 z1 cx1 (by omega) (by omega) (by omega) (by omega) (by omega) (by omega) (by omega) (by omega) (by omega) (by omega) (by omega) a4 a7 (by omega) (by omega) a8 x0_9 x1_9 (by omega) (by omega) (by omega) (by omega) (fr_9 _ _ _ rfl kn_9) (fr_9 _ _ _ rfl a1_9) (fr_9 _ _ _ rfl a5) (fr_9 _ _ _ rfl a6) kx kzA l0 l1 l2 l3 l4 l5 l6 (fun l4 h4 z0 z1 e0_9 e1_9 u1_9 u2_9 u3 g0 g1 g2 g3_9 g4 g5_9 g6 g7 g8 => ?_)
        have left_9 : us ++ (row[i_9] :: wv9 (row.drop (i_9 + 1)) (ws.drop (j_9 + 1))) = wv9 row ws := by
          rw [← eu]
          congr 1
          rw [List.drop_eq_getElem_cons hi_9, List.drop_eq_getElem_cons hj, wv9_c, if_pos q_9]
        have ll := congrArg List.length left_9
        rw [List.length_append, List.length_cons] at ll
        obtain ⟨r_9, hrun, a_9, r1_9, r2, r3, rhy, rfr, rk, rN_9, rZ⟩ := wad_run (D := D - 1) cc (by omega) u1_9 (us := us) (zs := zs) (by omega) lz (u2_9 _ _ _ rfl kz) (fn_mv A_9 u2_9 rfl) (fn_mv A_9' u2_9 rfl) (xv := z1) (xw := z0) e1_9 e0_9
        rw [show D - 1 + 1 = D by omega] at hrun
        refine hp_call (mi := 151) (pc := 167) (tg := 122) (na := 3) (c := 40) (ci := 6) (st0 := [.int z0, .long z1, .ref 56]) (st := []) (av := [.long z1, .int z0]) hM_9 (by decide +kernel) u1_9 rfl rfl rfl (by decide) hrun r2 r3 ?_
        rw [r1_9]
        have le4 := hp_len2 rfr rfl
        exact wvF10 c_9 hM_9 (by omega) rhy (m : Int) cx (ws.length : Int) (i_9 : Int) (j_9 : Int) (us.length : Int) a_9.toInt a_9 rfl (by omega) m1 cx0 cx1 (by omega) (by omega) (by omega) (by omega) (by omega) (by omega) (by omega) (by omega) a_9.le_toInt a_9.toInt_le g0 (hp_mljm g1 le4) g2 g3_9 g4 g5_9 g6 g7 g8 (fun l6 h6 v1_9 v2 v3 o0_9 o1 o2 o3_9 o4_9 o5_9 o6 => ih_9 h6 l6 (i_9 + 1) (j_9 + 1) (us ++ [row[i_9]]) (zs ++ [0]) (by omega) (by omega) (by omega) (by rw [List.append_assoc]; exact left_9) (by rw [List.length_append, List.length_append, lz]; rfl) (fun w_9 hw => by
          rcases List.mem_append.mp hw with hw | hw
          · exact z0' w_9 hw
          · exact List.mem_singleton.mp hw) v1_9 (ly_fr_tr fr_9 (ly_fr_tr (hp_sub2 rfl u2_9) (ly_fr_tr (hp_sub2 rfl rfr) (hp_sub2 rfl v2)))) (v2 _ _ _ rfl rk) (fn_mv rN_9 v2 rfl) (fn_mv rZ v2 rfl) o0_9 o1 o2 o3_9 (by rw [show ((i_9 + 1 : Nat) : Int) = (i_9 : Int) + 1 by omega]; exact o4_9) (by rw [show ((j_9 + 1 : Nat) : Int) = (j_9 : Int) + 1 by omega]; exact o5_9) (by rw [List.length_append, List.length_singleton]; exact o6))
      have r3 := fr_9 _ _ _ rfl (PT i_9 (j_9 + 1) (by omega) (by omega))
      have r4 := fr_9 _ _ _ rfl (PT i_9 j_9 (by omega) (by omega))
      rw [show 9 * (i_9 : Int) + ((j_9 + 1 : Nat) : Int) = 9 * (i_9 : Int) + (j_9 : Int) + 1 by omega] at r3
      have p3_9 := pf9_le (row.drop i_9) (ws.drop (j_9 + 1))
      have p4_9 := pf9_le (row.drop i_9) (ws.drop j_9)
      rw [List.length_drop] at p3_9 p4_9
      have pw := pf9_w (x := row[i_9]) (y := ws[j_9]) (xs := row.drop (i_9 + 1)) (ys := ws.drop (j_9 + 1))
      rw [← List.drop_eq_getElem_cons hi_9, ← List.drop_eq_getElem_cons hj] at pw
      by_cases qq : pf9 (row.drop i_9) (ws.drop (j_9 + 1)) + 1 = pf9 (row.drop i_9) (ws.drop j_9)
      · refine wvC c_9 hM_9 (by omega) hy (m : Int) cx (ws.length : Int) (row.length : Int) (i_9 : Int) (j_9 : Int) (us.length : Int) cl f_9 (f_9 + (ws.length : Int)) (row[i_9]) (ws[j_9]) (pf9 (row.drop i_9) (ws.drop (j_9 + 1)) : Int) (by omega) m1 z1 cx1 (by omega) (by omega) (by omega) (by omega) (by omega) (by omega) (by omega) (by omega) (by omega) (by omega) (by omega) a4 a7 (by omega) (by omega) a8 x0_9 x1_9 b0 b1 (by omega) (by omega) (by omega) (by omega) (by omega) (by omega) (fr_9 _ _ _ rfl kn_9) (fr_9 _ _ _ rfl a1_9) (fr_9 _ _ _ rfl a5) (fr_9 _ _ _ rfl a6) kx kz2 (hp_ne (by omega)) r3 (by rw [r4]; congr 1; omega) l0 l1 l2 l3 l4 l5 l6 (fun l4 h4 z0 z1 e0_9 e1_9 u1_9 u2_9 u3 g0 g1 g2 g3_9 g4 g5_9 g6 g7 g8 => ?_)
        have left_9 : us ++ (ws[j_9] :: wv9 (row.drop (i_9)) (ws.drop (j_9 + 1))) = wv9 row ws := by
          rw [← eu]
          congr 1
          rw [List.drop_eq_getElem_cons hi_9, List.drop_eq_getElem_cons hj, wv9_c, if_neg q_9, if_pos (by rw [← List.drop_eq_getElem_cons hi_9, ← List.drop_eq_getElem_cons hj]; exact pw.mp qq)]
        have ll := congrArg List.length left_9
        rw [List.length_append, List.length_cons] at ll
        obtain ⟨r_9, hrun, a_9, r1_9, r2, r3, rhy, rfr, rk, rN_9, rZ⟩ := wad_run (D := D - 1) cc (by omega) u1_9 (us := us) (zs := zs) (by omega) lz (u2_9 _ _ _ rfl kz) (fn_mv A_9 u2_9 rfl) (fn_mv A_9' u2_9 rfl) (xv := z1) (xw := z0) e1_9 e0_9
        rw [show D - 1 + 1 = D by omega] at hrun
        refine hp_call (mi := 151) (pc := 167) (tg := 122) (na := 3) (c := 40) (ci := 6) (st0 := [.int z0, .long z1, .ref 56]) (st := []) (av := [.long z1, .int z0]) hM_9 (by decide +kernel) u1_9 rfl rfl rfl (by decide) hrun r2 r3 ?_
        rw [r1_9]
        have le4 := hp_len2 rfr rfl
        exact wvF01 c_9 hM_9 (by omega) rhy (m : Int) cx (ws.length : Int) (i_9 : Int) (j_9 : Int) (us.length : Int) a_9.toInt a_9 rfl (by omega) m1 cx0 cx1 (by omega) (by omega) (by omega) (by omega) (by omega) (by omega) (by omega) (by omega) a_9.le_toInt a_9.toInt_le g0 (hp_mljm g1 le4) g2 g3_9 g4 g5_9 g6 g7 g8 (fun l6 h6 v1_9 v2 v3 o0_9 o1 o2 o3_9 o4_9 o5_9 o6 => ih_9 h6 l6 (i_9) (j_9 + 1) (us ++ [ws[j_9]]) (zs ++ [0]) (by omega) (by omega) (by omega) (by rw [List.append_assoc]; exact left_9) (by rw [List.length_append, List.length_append, lz]; rfl) (fun w_9 hw => by
          rcases List.mem_append.mp hw with hw | hw
          · exact z0' w_9 hw
          · exact List.mem_singleton.mp hw) v1_9 (ly_fr_tr fr_9 (ly_fr_tr (hp_sub2 rfl u2_9) (ly_fr_tr (hp_sub2 rfl rfr) (hp_sub2 rfl v2)))) (v2 _ _ _ rfl rk) (fn_mv rN_9 v2 rfl) (fn_mv rZ v2 rfl) o0_9 o1 o2 o3_9 o4_9 (by rw [show ((j_9 + 1 : Nat) : Int) = (j_9 : Int) + 1 by omega]; exact o5_9) (by rw [List.length_append, List.length_singleton]; exact o6))
      · refine wvD c_9 hM_9 (by omega) hy (m : Int) cx (ws.length : Int) (row.length : Int) (i_9 : Int) (j_9 : Int) (us.length : Int) cl f_9 (f_9 + (ws.length : Int)) (row[i_9]) (ws[j_9]) (pf9 (row.drop i_9) (ws.drop (j_9 + 1)) : Int) (pf9 (row.drop i_9) (ws.drop j_9) : Int) (by omega) m1 z1 cx1 (by omega) (by omega) (by omega) (by omega) (by omega) (by omega) (by omega) (by omega) (by omega) (by omega) (by omega) a4 a7 (by omega) (by omega) a8 x0_9 x1_9 b0 b1 (by omega) (by omega) (by omega) (by omega) (by omega) (by omega) (by omega) (by omega) (fr_9 _ _ _ rfl kn_9) (fr_9 _ _ _ rfl a1_9) (fr_9 _ _ _ rfl a5) (fr_9 _ _ _ rfl a6) kx kz2 (hp_ne (by omega)) r3 r4 (hp_ne (by omega)) l0 l1 l2 l3 l4 l5 l6 (fun l4 h4 z0 z1 e0_9 e1_9 u1_9 u2_9 u3 g0 g1 g2 g3_9 g4 g5_9 g6 g7 g8 => ?_)
        have left_9 : us ++ (row[i_9] :: wv9 (row.drop (i_9 + 1)) (ws.drop (j_9))) = wv9 row ws := by
          rw [← eu]
          congr 1
          rw [List.drop_eq_getElem_cons hi_9, List.drop_eq_getElem_cons hj, wv9_c, if_neg q_9, if_neg (fun z_9 => qq (pw.mpr (by rw [List.drop_eq_getElem_cons hi_9, List.drop_eq_getElem_cons hj]; exact z_9)))]
        have ll := congrArg List.length left_9
        rw [List.length_append, List.length_cons] at ll
        obtain ⟨r_9, hrun, a_9, r1_9, r2, r3, rhy, rfr, rk, rN_9, rZ⟩ := wad_run (D := D - 1) cc (by omega) u1_9 (us := us) (zs := zs) (by omega) lz (u2_9 _ _ _ rfl kz) (fn_mv A_9 u2_9 rfl) (fn_mv A_9' u2_9 rfl) (xv := z1) (xw := z0) e1_9 e0_9
        rw [show D - 1 + 1 = D by omega] at hrun
        refine hp_call (mi := 151) (pc := 167) (tg := 122) (na := 3) (c := 40) (ci := 6) (st0 := [.int z0, .long z1, .ref 56]) (st := []) (av := [.long z1, .int z0]) hM_9 (by decide +kernel) u1_9 rfl rfl rfl (by decide) hrun r2 r3 ?_
        rw [r1_9]
        have le4 := hp_len2 rfr rfl
        exact wvF00 c_9 hM_9 (by omega) rhy (m : Int) cx (ws.length : Int) (i_9 : Int) (j_9 : Int) (us.length : Int) a_9.toInt a_9 rfl (by omega) m1 cx0 cx1 (by omega) (by omega) (by omega) (by omega) (by omega) (by omega) (by omega) (by omega) a_9.le_toInt a_9.toInt_le g0 (hp_mljm g1 le4) g2 g3_9 g4 g5_9 g6 g7 g8 (fun l6 h6 v1_9 v2 v3 o0_9 o1 o2 o3_9 o4_9 o5_9 o6 => ih_9 h6 l6 (i_9 + 1) (j_9) (us ++ [row[i_9]]) (zs ++ [0]) (by omega) (by omega) (by omega) (by rw [List.append_assoc]; exact left_9) (by rw [List.length_append, List.length_append, lz]; rfl) (fun w_9 hw => by
          rcases List.mem_append.mp hw with hw | hw
          · exact z0' w_9 hw
          · exact List.mem_singleton.mp hw) v1_9 (ly_fr_tr fr_9 (ly_fr_tr (hp_sub2 rfl u2_9) (ly_fr_tr (hp_sub2 rfl rfr) (hp_sub2 rfl v2)))) (v2 _ _ _ rfl rk) (fn_mv rN_9 v2 rfl) (fn_mv rZ v2 rfl) o0_9 o1 o2 o3_9 (by rw [show ((i_9 + 1 : Nat) : Int) = (i_9 : Int) + 1 by omega]; exact o4_9) o5_9 (by rw [List.length_append, List.length_singleton]; exact o6))
  have go_9 : hp_F cst strs (fun r_9 : am_Q => r_9.1 = none ∧ r_9.2.2.1 = 0 ∧ r_9.2.2.2 = 0 ∧ ly_hy m_tt ly_TH r_9.2.1 ∧ ly_fr cst [10242, 10243, 10496, 10752] h0 r_9.2.1 ∧ ly_hv cst r_9.2.1 10242 0 = some ((wv9 row ws).length : Int) ∧ ly_hv cst r_9.2.1 10243 0 = some 1 ∧ fn_N cst r_9.2.1 10496 0 (wv9 row ws) ∧ ∃ zs : List Int, zs.length = (wv9 row ws).length ∧ (∀ v_9 ∈ zs, v_9 = 0) ∧ fn_N cst r_9.2.1 10752 0 zs) D M_9 0 (lv_args 0 [.ref 44, .ref (16 + (177 + 19 * m + 1)), .int xc, .int xw]) [] h0 := wv0 c_9 hM_9 (by omega) hy0 (m : Int) cx (ws.length : Int) (by omega) m1 cx0 cx1 (by omega) (by omega) rfl ⟨m, rfl, rfl, hm⟩ ⟨xc, rfl, ec⟩ ⟨xw, rfl, ew⟩ (fun l1 h1 u1_9 u2_9 u3 k1_9 g0 g1 g2 g3_9 g4 g5_9 g6 => lp (row.length + ws.length + 1) h1 l1 0 0 [] [] (by omega) (Nat.zero_le _) (Nat.zero_le _) (by rw [List.drop_zero, List.drop_zero, List.nil_append]) rfl (fun v_9 hv => by cases hv) u1_9 (hp_sub2 rfl u2_9) k1_9 (fun k_9 hk => absurd hk (Nat.not_lt_zero _)) (fun k_9 hk => absurd hk (Nat.not_lt_zero _)) g0 g1 g2 g3_9 g4 g5_9 g6)
  obtain ⟨n_9', r_9, hgo, r1_9, r2, r3, r4⟩ := go_9
  simp only [Nat.zero_add] at r2 r3
  exact ⟨r_9, Or.inr ⟨M_9, n_9', hM_9, hl, hgo⟩, r1_9, r2, r3, r4⟩

/-- the words that the law asks for -/
def lwP (X : List rX) (d y s : Int) (ws : List Int) : Prop := (∃ (a j : Nat) (ha : a < X.length) (hj : j < (X[a]).2.2.1.length), inF X 1 d y s a j ∧ ws = ((X[a]).2.2.1[j]).2.2.2) ∨ (noF X 1 d y s ∧ ws = [])
theorem lwP_u {X : List rX} {d y s : Int} {ws ws' : List Int} (A : lwP X d y s ws) (B : lwP X d y s ws') : ws = ws' := by
  rcases A with ⟨a_9, j_9, ha_9, hj, f1_9, e1_9⟩ | ⟨n1_9, e1_9⟩
  · rcases B with ⟨a2, j2_9, ha2, hj2, f2_9, e2_9⟩ | ⟨n2_9, e2_9⟩
    · obtain ⟨z1, z2⟩ := inF_u f1_9 f2_9
      subst z1
      subst z2
      rw [e1_9, e2_9]
    · exact absurd f1_9.1 (n2_9 a_9 j_9)
  · rcases B with ⟨a2, j2_9, ha2, hj2, f2_9, e2_9⟩ | ⟨n2_9, e2_9⟩
    · exact absurd f2_9.1 (n1_9 a2 j2_9)
    · rw [e1_9, e2_9]
abbrev wi_mods : List Nat := [9984, 10242, 10243, 10496, 10752]
/-- weaveIn -/
theorem wi_run {cst : am_K} {strs : List Nat} {D : Nat} {h0 : am_H} (cc : ∀ d, hp_C cst strs d) (hD : 9 ≤ D) (hy : ly_hy m_tt ly_TH h0) {X : List rX} {i0 : List Int} (I : LC cst h0 X i0) (x30 : X.length ≤ 30) (g12 : (fX X).length ≤ 1240) (P : ∀ a_9 (ha_9 : a_9 < X.length), ra_l (X[a_9])) {m : Nat} (m1 : (m : Int) ≤ 99) (hm : 177 + 19 * (m + 1) ≤ h0.length) {d y s : Int} (kd : ly_hv cst h0 45312 (m : Int) = some d) (ky : ly_hv cst h0 45317 (m : Int) = some y) (ks : ly_hv cst h0 45315 (m : Int) = some s) (d0 : -9223372036854775808 ≤ d) (d1 : d ≤ 9223372036854775807) (y0 : -2147483648 ≤ y) (y1 : y ≤ 2147483647) (s0 : -2147483648 ≤ s) (s1 : s ≤ 2147483647) {row : List Int} (R : wR cst h0 (m : Int) row) :
    ∃ r_9, am_Run cst m_cl m_tt m_P strs sx_bi (D + 1) 148 [.ref 44, .ref (16 + (177 + 19 * m + 0))] h0 r_9 ∧ (fun r_9 : am_Q => ∃ w_9 : Int32, r_9.1 = some (.int w_9) ∧ r_9.2.2.1 = 0 ∧ r_9.2.2.2 = 0 ∧ ly_hy m_tt ly_TH r_9.2.1 ∧ ∃ ws_9, lwP X d y s ws_9 ∧ ((28 < row.length + pf9 row ws_9 ∧ w_9.toInt = -3 ∧ ly_fr cst wi_mods h0 r_9.2.1) ∨ (row.length + pf9 row ws_9 ≤ 28 ∧ w_9.toInt = (pf9 row ws_9 : Int) ∧ mfr cst 45568 (m : Int) wi_mods h0 r_9.2.1 ∧ wR cst r_9.2.1 (m : Int) (wv9 row ws_9) ∧ ly_hv cst r_9.2.1 45571 (m : Int) = some 1))) r_9 := by
  obtain ⟨M_9, hM_9, hl⟩ := hp_M (mi := 148) (k := 2) (by decide +kernel)
  have c_9 : hp_C cst strs D := cc _
  -- behind the clause
  have tail_9 : ∀ (l3 : am_L) (h3 : am_H) (z0 z1 : Int32) (ws_9 : List Int) (cx : Int), lwP X d y s ws_9 → ws_9.length ≤ 8 → (∀ k_9 (hk : k_9 < ws_9.length), -9223372036854775808 ≤ ws_9[k_9] ∧ ws_9[k_9] ≤ 9223372036854775807) → wI cst h3 cx ws_9 → -1 ≤ cx → cx ≤ 1239 → z0.toInt = (ws_9.length : Int) → z1.toInt = cx → ly_hy m_tt ly_TH h3 → ly_fr cst [] h0 h3 → 177 + 19 * (m + 1) ≤ h3.length → hp_a l3 0 44 → hp_ml l3 1 h3.length (m : Int) → hp_i l3 2 cx → hp_i l3 3 (ws_9.length : Int) → hp_F cst strs (fun r_9 : am_Q => ∃ w_9 : Int32, r_9.1 = some (.int w_9) ∧ r_9.2.2.1 = 0 ∧ r_9.2.2.2 = 0 ∧ ly_hy m_tt ly_TH r_9.2.1 ∧ ∃ ws_9, lwP X d y s ws_9 ∧ ((28 < row.length + pf9 row ws_9 ∧ w_9.toInt = -3 ∧ ly_fr cst wi_mods h0 r_9.2.1) ∨ (row.length + pf9 row ws_9 ≤ 28 ∧ w_9.toInt = (pf9 row ws_9 : Int) ∧ mfr cst 45568 (m : Int) wi_mods h0 r_9.2.1 ∧ wR cst r_9.2.1 (m : Int) (wv9 row ws_9) ∧ ly_hv cst r_9.2.1 45571 (m : Int) = some 1))) D M_9 42 l3 [.int z0, .int z1, .ref (16 + (177 + 19 * m + 1)), .ref 44] h3 := by
    intro l3 h3 z0 z1 ws_9 cx LP_9 w8 wb WI cx0 cx1 e0_9 e1_9 hy3 F3 hm3 n0_9 n1_9 n2_9 n3_9
    obtain ⟨r_9, hrun, r1_9, r2, r3, rhy, rfr, rT⟩ := cpi_run (D := D - 1) cc (by omega) hy3 m1 hm3 (wR_mv R F3 rfl rfl) WI w8 wb cx1 (xc := z1) (xw := z0) e1_9 e0_9
    rw [show D - 1 + 1 = D by omega] at hrun
    refine hp_call (mi := 148) (pc := 42) (tg := 149) (na := 4) (c := 28) (ci := 5) (st0 := [.int z0, .int z1, .ref (16 + (177 + 19 * m + 1)), .ref 44]) (st := []) (av := [.ref (16 + (177 + 19 * m + 1)), .int z1, .int z0]) hM_9 (by decide +kernel) hy3 rfl rfl rfl (by decide) hrun r2 r3 ?_
    rw [r1_9]
    have F4 : ly_fr cst wi_mods h0 r_9.2.1 := ly_fr_tr (hp_sub2 rfl F3) (hp_sub2 rfl rfr)
    have le4 := hp_len2 rfr rfl
    have n1_9' := hp_mlm n1_9 le4
    have R4 := wR_mv (wR_mv R F3 rfl rfl) rfr rfl rfl
    have k0_9 := rT 0 0 (Nat.zero_le _) (Nat.zero_le _)
    rw [List.drop_zero, List.drop_zero] at k0_9
    have k0_9 : ly_hv cst r_9.2.1 9984 0 = some (pf9 row ws_9 : Int) := k0_9
    have p8_9 := pf9_le row ws_9
    have n28_9 := R4.1
    have wl := wv9_len _ row ws_9 (Nat.le_refl _)
    have lc := lc9_le _ row ws_9 (Nat.le_refl _)
    have ep : pf9 row ws_9 = ws_9.length - lc9 row ws_9 := rfl
    by_cases q_9 : 28 < row.length + pf9 row ws_9
    · exact wi2 c_9 hM_9 (by omega) rhy (m : Int) cx (ws_9.length : Int) (row.length : Int) (pf9 row ws_9 : Int) (by omega) m1 cx0 cx1 (by omega) (by omega) (by omega) (by omega) (by omega) (by omega) (by omega) k0_9 R4.2.1 n0_9 n1_9' n2_9 n3_9 (fun h5 a_9 ha_9 t1_9 t2_9 t3_9 => ⟨a_9, rfl, rfl, rfl, t1_9, ws_9, LP_9, Or.inl ⟨q_9, ha_9, ly_fr_tr F4 (hp_sub2 rfl t2_9)⟩⟩)
    refine wi3 c_9 hM_9 (by omega) rhy (m : Int) cx (ws_9.length : Int) (row.length : Int) (pf9 row ws_9 : Int) (by omega) m1 cx0 cx1 (by omega) (by omega) (by omega) (by omega) (by omega) (by omega) (by omega) k0_9 R4.2.1 n0_9 n1_9' n2_9 n3_9 (fun l5 h5 z2 z3 z4 e2_9 e3_9 e4_9 el t1_9 t2_9 t3_9 o0_9 o1 o2 o3_9 o4_9 => ?_)
    have ym : z4 = m := by omega
    rw [ym] at el
    rw [ym]
    have WI5 := wI_mv (wI_mv WI rfr rfl rfl rfl) t2_9 rfl rfl rfl
    obtain ⟨r6, hrun6, s1_9', s2_9', s3_9', shy, sfr, sk, st_9', sN_9, zs, sz1, sz2, sZ⟩ := wv_run (D := D - 1) cc (by omega) t1_9 m1 el (wR_mv R4 t2_9 rfl rfl) WI5 w8 wb cx1 (fun a_9 b_9 ha_9 hb_9 => t2_9 _ _ _ rfl (rT a_9 b_9 ha_9 hb_9)) (by omega) (xc := z3) (xw := z2) e3_9 e2_9
    rw [show D - 1 + 1 = D by omega] at hrun6
    refine hp_call (mi := 148) (pc := 78) (tg := 151) (na := 4) (c := 28) (ci := 5) (st0 := [.int z2, .int z3, .ref (16 + (177 + 19 * m + 1)), .ref 44]) (st := []) (av := [.ref (16 + (177 + 19 * m + 1)), .int z3, .int z2]) hM_9 (by decide +kernel) t1_9 rfl rfl rfl (by decide) hrun6 s2_9' s3_9' ?_
    rw [s1_9']
    have le6 := hp_len2 sfr rfl
    have F6 : ly_fr cst wi_mods h0 r6.2.1 := ly_fr_tr F4 (ly_fr_tr (hp_sub2 rfl t2_9) (hp_sub2 rfl sfr))
    refine wi4 c_9 hM_9 (by omega) shy (m : Int) cx (ws_9.length : Int) (pf9 row ws_9 : Int) (by omega) m1 cx0 cx1 (by omega) (by omega) (by omega) (by omega) o0_9 (hp_mlm o1 le6) o2 o3_9 o4_9 (fun l7 h7 z5 e5_9 el7 v1_9 v2 v3 i0_9' i1_9 i2_9 i3_9 i4_9 => ?_)
    have ym7 : z5 = m := by omega
    rw [ym7] at el7
    rw [ym7]
    have nb : ∀ v_9 ∈ wv9 row ws_9, -9223372036854775808 ≤ v_9 ∧ v_9 ≤ 9223372036854775807 := fun v_9 hv => by
      obtain ⟨i_9, hi_9, e_9⟩ := List.mem_iff_getElem.mp hv
      have kn_9 := sN_9 i_9 hi_9
      rw [Int.zero_add, e_9] at kn_9
      obtain ⟨w_9, kw', w0_9, w1_9⟩ := hp_rowj (cst := cst) (i := (i_9 : Int)) shy (show ly_ths ly_TH 41 = some (.inl (.long, 28, 0, 0)) from rfl) (by omega) (by omega)
      have kw' : ly_hv cst r6.2.1 10496 (i_9 : Int) = some w_9 := kw'
      have ew := Option.some.inj (kn_9.symm.trans kw')
      have w0_9 : -9223372036854775808 ≤ w_9 := w0_9
      have w1_9 : w_9 ≤ 9223372036854775807 := w1_9
      omega
    obtain ⟨r8, hrun8, a1_9, a2, a3, ahy, afr', ak, at_9_9', aN_9, aV⟩ := cf1_run (D := D - 1) cc (by omega) v1_9 m1 el7 (ns := wv9 row ws_9) (vs := zs) (by omega) sz1 nb (fun v_9 hv => by rw [sz2 v_9 hv]; decide) (v2 _ _ _ rfl sk) (v2 _ _ _ rfl st_9') (by decide) (by decide) (fn_mv sN_9 v2 rfl) (fn_mv sZ v2 rfl)
    rw [show D - 1 + 1 = D by omega] at hrun8
    refine hp_callm (mi := 148) (pc := 89) (tg := 142) (na := 2) (m := m) (j := 1) (ci := 6) (st0 := [.ref 56, .ref (16 + (177 + 19 * m + 1))]) (st := []) (av := [.ref 56]) hM_9 (by decide +kernel) v1_9 rfl el7 rfl rfl (by decide) hrun8 a2 a3 ?_
    rw [a1_9]
    have le8 := mfr_len afr' rfl (by decide)
    exact wi5 c_9 hM_9 (by omega) ahy (m : Int) cx (ws_9.length : Int) (pf9 row ws_9 : Int) (by omega) m1 cx0 cx1 (by omega) (by omega) (by omega) (by omega) i0_9' (hp_mlm i1_9 le8) i2_9 i3_9 i4_9 (fun h9 a_9 ha_9 j1 j2_9 j3_9 => ⟨a_9, rfl, rfl, rfl, j1, ws_9, LP_9, Or.inr ⟨by omega, ha_9, mfr_tr (mfr_L (ly_fr_tr F6 (hp_sub2 rfl v2))) (mfr_tr (mfr_sub rfl afr') (mfr_L (hp_sub2 rfl j2_9))), ⟨by omega, j2_9 _ _ _ rfl ak, fun i_9 hi_9 => ⟨j2_9 _ _ _ rfl (aN_9 i_9 hi_9), nb _ (List.getElem_mem hi_9)⟩⟩, j2_9 _ _ _ rfl at_9_9'⟩⟩)
  have go_9 : hp_F cst strs (fun r_9 : am_Q => ∃ w_9 : Int32, r_9.1 = some (.int w_9) ∧ r_9.2.2.1 = 0 ∧ r_9.2.2.2 = 0 ∧ ly_hy m_tt ly_TH r_9.2.1 ∧ ∃ ws_9, lwP X d y s ws_9 ∧ ((28 < row.length + pf9 row ws_9 ∧ w_9.toInt = -3 ∧ ly_fr cst wi_mods h0 r_9.2.1) ∨ (row.length + pf9 row ws_9 ≤ 28 ∧ w_9.toInt = (pf9 row ws_9 : Int) ∧ mfr cst 45568 (m : Int) wi_mods h0 r_9.2.1 ∧ wR cst r_9.2.1 (m : Int) (wv9 row ws_9) ∧ ly_hv cst r_9.2.1 45571 (m : Int) = some 1))) D M_9 0 (lv_args 0 [.ref 44, .ref (16 + (177 + 19 * m + 0))]) [] h0 := by
    refine wi0 c_9 hM_9 (by omega) hy (m : Int) d y s (by omega) m1 d0 d1 y0 y1 s0 s1 kd ky ks rfl ⟨m, rfl, rfl, hm⟩ (fun l1 h1 z0 z1 z2 z3 e0_9 e1_9 e2_9 e3_9 u1_9 u2_9 u3 g0 g1 => ?_)
    obtain ⟨r_9, hrun, w_9, r1_9, r2, r3, rhy, rfr, rres⟩ := fo_run (D := D - 3) cc (by omega) u1_9 (LC_mv I u2_9 rfl) x30 g12 (k := 1) (d := d) (y := y) (s := s) (by decide) (by decide) (xk := z3) (xd := z2) (xy := z1) (xs := z0) e3_9 e2_9 e1_9 e0_9
    rw [show D - 3 + 3 = D by omega] at hrun
    refine hp_call (mi := 148) (pc := 17) (tg := 53) (na := 5) (c := 14) (ci := 3) (st0 := [.int z0, .int z1, .long z2, .int z3, .ref 30]) (st := []) (av := [.int z3, .long z2, .int z1, .int z0]) hM_9 (by decide +kernel) u1_9 rfl rfl rfl (by decide) hrun r2 r3 ?_
    rw [r1_9]
    have F2 : ly_fr cst [] h0 r_9.2.1 := ly_fr_tr u2_9 rfr
    have g1' := hp_mlm g1 (hp_len2 rfr rfl)
    rcases rres with ⟨a_9, j_9, hF, ew⟩ | ⟨nF, ew⟩
    · obtain ⟨⟨ha_9, _, ⟨hj, e1_9', _⟩, _⟩, _⟩ := id hF
      have I2_9 := LC_mv I F2 rfl
      have CI_9 := cI_of rhy I2_9 g12 ha_9 hj
      obtain ⟨p1_9, -, -, -, -, -, p7_9⟩ := P a_9 ha_9
      obtain ⟨-, w8, -⟩ := (p7_9 j_9 hj (by omega)).2 e1_9'
      have le_9 := fX_le X a_9 ha_9
      have wb : ∀ k_9 (hk : k_9 < ((X[a_9]).2.2.1[j_9]).2.2.2.length), -9223372036854775808 ≤ ((X[a_9]).2.2.1[j_9]).2.2.2[k_9] ∧ ((X[a_9]).2.2.1[j_9]).2.2.2[k_9] ≤ 9223372036854775807 := fun k_9 hk => by
        obtain ⟨cl, f_9, a1_9, a2, a3, a4, a5, a6, a7, a8, a9⟩ := CI_9
        obtain ⟨v_9, kw', w0_9, w1_9⟩ := hp_rowj (cst := cst) (i := f_9 + (k_9 : Int)) rhy (show ly_ths ly_TH 23 = some (.inl (.long, 10240, 0, 0)) from rfl) (by omega) (by omega)
        have kw' : ly_hv cst r_9.2.1 5888 (f_9 + (k_9 : Int)) = some v_9 := kw'
        have ev_9 := Option.some.inj ((a9 k_9 hk).symm.trans kw')
        have w0_9 : -9223372036854775808 ≤ v_9 := w0_9
        have w1_9 : v_9 ≤ 9223372036854775807 := w1_9
        omega
      have CI_9' := CI_9
      obtain ⟨cl, f_9, a1_9, a2, a3, a4, a5, a6, a7, a8, a9⟩ := CI_9'
      refine wi1 c_9 hM_9 (by omega) rhy (m : Int) (((fX (X.take a_9)).length : Int) + (j_9 : Int)) cl f_9 (((X[a_9]).2.2.1[j_9]).2.2.2.length : Int) w_9 ew (by omega) m1 a2 (by omega) (by omega) a4 a7 (by omega) (by omega) (by omega) (by omega) a1_9 a5 a6 g0 g1' (fun l3 h3 z4 z5 z6 f0_9 f1_9 f2_9 el v1_9 v2 v3 n0_9 n1_9 n2_9 n3_9 => ?_)
      have ym : z6 = m := by omega
      rw [ym] at el
      rw [ym]
      exact tail_9 l3 h3 z4 z5 _ _ (Or.inl ⟨a_9, j_9, ha_9, hj, hF, rfl⟩) w8 wb (Or.inr ⟨a2, cI_mv CI_9 v2 rfl rfl rfl⟩) (by omega) (by omega) f0_9 f1_9 v1_9 (ly_fr_tr F2 v2) el n0_9 n1_9 n2_9 n3_9
    · refine wi1n c_9 hM_9 (by omega) rhy (m : Int) w_9 ew (by omega) m1 g0 g1' (fun l3 h3 z4 z5 z6 f0_9 f1_9 f2_9 el v1_9 v2 v3 n0_9 n1_9 n2_9 n3_9 => ?_)
      have ym : z6 = m := by omega
      rw [ym] at el
      rw [ym]
      exact tail_9 l3 h3 z4 z5 [] (-1) (Or.inr ⟨nF, rfl⟩) (by decide) (fun k_9 hk => absurd hk (Nat.not_lt_zero _)) (Or.inl ⟨rfl, rfl⟩) (by decide) (by decide) f0_9 f1_9 v1_9 (ly_fr_tr F2 v2) el n0_9 n1_9 n2_9 n3_9
  obtain ⟨n_9', r_9, hgo, w_9, r1_9, r2, r3, r4⟩ := go_9
  simp only [Nat.zero_add] at r2 r3
  exact ⟨r_9, Or.inr ⟨M_9, n_9', hM_9, hl, hgo⟩, w_9, r1_9, r2, r3, r4⟩
/-- what mend answers and what it leaves -/
def mdP (X : List rX) (d y s wt : Int) (row : List Int) (sz m : Int) (su st : Option Int) (cr a : Int) (keep : Prop) (laid : List Int → Prop) : Prop := (¬ (0 ≤ m ∧ m < sz ∧ su = some cr) → a = -2 ∧ keep) ∧ ((0 ≤ m ∧ m < sz ∧ su = some cr) → ((st ≠ some 0 ∨ wt = 0) → a = -4 ∧ keep) ∧ (st = some 0 → wt = 1 → ∃ v, nmP X 6 d y s v ∧ ((v = 0 ∧ a = -1 ∧ keep) ∨ (v ≠ 0 ∧ ∃ ws, lwP X d y s ws ∧ ((28 < row.length + pf9 row ws ∧ a = -3 ∧ keep) ∨ (row.length + pf9 row ws ≤ 28 ∧ a = (pf9 row ws : Int) ∧ laid (wv9 row ws)))))))
/-- mend of the class -/
theorem mqx_run {cst : am_K} {strs : List Nat} {D : Nat} {h0 : am_H} (cc : ∀ d, hp_C cst strs d) (hD : 10 ≤ D) (hy : ly_hy m_tt ly_TH h0) {X : List rX} {i0 : List Int} (I : LC cst h0 X i0) (x30 : X.length ≤ 30) (g12 : (fX X).length ≤ 1240) (P : ∀ a_9 (ha_9 : a_9 < X.length), ra_l (X[a_9])) {xm : Int32} {sz : Int} (sz0 : 0 ≤ sz) (sz1 : sz ≤ 100) (ksz : ly_hv cst h0 7170 0 = some sz) (ko : ∀ j_9, 0 ≤ j_9 → j_9 < sz → ly_hv cst h0 7424 j_9 = some 1) (kc : ∀ j_9, 0 ≤ j_9 → j_9 < sz → ∃ su st, ly_hv cst h0 45313 j_9 = some su ∧ ly_hv cst h0 45319 j_9 = some st ∧ -2147483648 ≤ su ∧ su ≤ 2147483647 ∧ -2147483648 ≤ st ∧ st ≤ 2147483647) {d y s wt : Int} {row : List Int} (kk : 0 ≤ xm.toInt → xm.toInt < sz → ly_hv cst h0 45312 xm.toInt = some d ∧ ly_hv cst h0 45317 xm.toInt = some y ∧ ly_hv cst h0 45315 xm.toInt = some s ∧ ly_hv cst h0 45571 xm.toInt = some wt ∧ (wt = 1 → wR cst h0 xm.toInt row)) (d0 : -9223372036854775808 ≤ d) (d1 : d ≤ 9223372036854775807) (y0 : -2147483648 ≤ y) (y1 : y ≤ 2147483647) (s0 : -2147483648 ≤ s) (s1 : s ≤ 2147483647) (bw : wt = 0 ∨ wt = 1) :
    ∃ r_9, am_Run cst m_cl m_tt m_P strs sx_bi (D + 1) 147 [.ref 16, .int xm] h0 r_9 ∧ (fun r_9 : am_Q => ∃ w_9 : Int32, r_9.1 = some (.int w_9) ∧ r_9.2.2.1 = 0 ∧ r_9.2.2.2 = 0 ∧ ly_hy m_tt ly_TH r_9.2.1 ∧ mfr cst 45568 xm.toInt wi_mods h0 r_9.2.1 ∧ mdP X d y s wt row sz xm.toInt (ly_hv cst h0 45313 xm.toInt) (ly_hv cst h0 45319 xm.toInt) (-1) w_9.toInt (ly_fr cst wi_mods h0 r_9.2.1) (fun us => wR cst r_9.2.1 xm.toInt us ∧ ly_hv cst r_9.2.1 45571 xm.toInt = some 1)) r_9 := by
  obtain ⟨M_9, hM_9, hl⟩ := hp_M (mi := 147) (k := 2) (by decide +kernel)
  have c_9 : hp_C cst strs D := cc _
  have b0 := xm.le_toInt
  have b1 := xm.toInt_le
  have go_9 : hp_F cst strs (fun r_9 : am_Q => ∃ w_9 : Int32, r_9.1 = some (.int w_9) ∧ r_9.2.2.1 = 0 ∧ r_9.2.2.2 = 0 ∧ ly_hy m_tt ly_TH r_9.2.1 ∧ mfr cst 45568 xm.toInt wi_mods h0 r_9.2.1 ∧ mdP X d y s wt row sz xm.toInt (ly_hv cst h0 45313 xm.toInt) (ly_hv cst h0 45319 xm.toInt) (-1) w_9.toInt (ly_fr cst wi_mods h0 r_9.2.1) (fun us => wR cst r_9.2.1 xm.toInt us ∧ ly_hv cst r_9.2.1 45571 xm.toInt = some 1)) D M_9 0 (lv_args 0 [.ref 16, .int xm]) [] h0 := by
    by_cases q1_9 : xm.toInt ≤ -1
    · exact mqx0 c_9 hM_9 (by omega) hy xm.toInt sz b0 q1_9 sz0 sz1 ksz rfl ⟨xm, rfl, rfl⟩ (fun h5 a_9 ha_9 t1_9 t2_9 t3_9 => ⟨a_9, rfl, rfl, rfl, t1_9, mfr_L (hp_sub2 rfl t2_9), fun _ => ⟨ha_9, hp_sub2 rfl t2_9⟩, fun z_9 => by have := z_9.1; omega⟩)
    by_cases q2_9 : sz ≤ xm.toInt
    · exact mqx1 c_9 hM_9 (by omega) hy xm.toInt sz (by omega) b1 sz0 sz1 (by omega) ksz rfl ⟨xm, rfl, rfl⟩ (fun h5 a_9 ha_9 t1_9 t2_9 t3_9 => ⟨a_9, rfl, rfl, rfl, t1_9, mfr_L (hp_sub2 rfl t2_9), fun _ => ⟨ha_9, hp_sub2 rfl t2_9⟩, fun z_9 => by have := z_9.2.1; omega⟩)
    obtain ⟨su, st, k1_9, k2_9, e1_9, e2_9, e3_9, e4_9⟩ := kc xm.toInt (by omega) (by omega)
    have ko' := ko xm.toInt (by omega) (by omega)
    obtain ⟨kd, ky, ks_9, kw, R_9⟩ := kk (by omega) (by omega)
    by_cases q3_9 : su = -1
    rotate_left
    · have no_9 : ¬ (0 ≤ xm.toInt ∧ xm.toInt < sz ∧ ly_hv cst h0 45313 xm.toInt = some (-1)) := fun z_9 => by
        have := z_9.2.2
        rw [k1_9] at this
        exact q3_9 (Option.some.inj this)
      by_cases q4_9 : su ≤ -2
      · exact mqx20 c_9 hM_9 (by omega) hy xm.toInt sz su (by omega) (by omega) sz0 sz1 e1_9 q4_9 (by omega) ksz ko' k1_9 rfl ⟨xm, rfl, rfl⟩ (fun h5 a_9 ha_9 t1_9 t2_9 t3_9 => ⟨a_9, rfl, rfl, rfl, t1_9, mfr_L (hp_sub2 rfl t2_9), fun _ => ⟨ha_9, hp_sub2 rfl t2_9⟩, fun z_9 => absurd z_9 no_9⟩)
      · exact mqx21 c_9 hM_9 (by omega) hy xm.toInt sz su (by omega) (by omega) sz0 sz1 (by omega) e2_9 (by omega) ksz ko' k1_9 rfl ⟨xm, rfl, rfl⟩ (fun h5 a_9 ha_9 t1_9 t2_9 t3_9 => ⟨a_9, rfl, rfl, rfl, t1_9, mfr_L (hp_sub2 rfl t2_9), fun _ => ⟨ha_9, hp_sub2 rfl t2_9⟩, fun z_9 => absurd z_9 no_9⟩)
    rw [q3_9] at k1_9
    have ok_9 : 0 ≤ xm.toInt ∧ xm.toInt < sz ∧ ly_hv cst h0 45313 xm.toInt = some (-1) := ⟨by omega, by omega, k1_9⟩
    by_cases q5_9 : st = 0
    rotate_left
    · have ns : ly_hv cst h0 45319 xm.toInt ≠ some 0 := fun z_9 => by
        rw [k2_9] at z_9
        exact q5_9 (Option.some.inj z_9)
      by_cases q6_9 : st ≤ -1
      · exact mqx30 c_9 hM_9 (by omega) hy xm.toInt sz st (by omega) (by omega) sz0 sz1 e3_9 q6_9 (by omega) ksz ko' k1_9 k2_9 rfl ⟨xm, rfl, rfl⟩ (fun h5 a_9 ha_9 t1_9 t2_9 t3_9 => ⟨a_9, rfl, rfl, rfl, t1_9, mfr_L (hp_sub2 rfl t2_9), fun z_9 => absurd ok_9 z_9, fun _ => ⟨fun _ => ⟨ha_9, hp_sub2 rfl t2_9⟩, fun z_9 => absurd z_9 ns⟩⟩)
      · exact mqx31 c_9 hM_9 (by omega) hy xm.toInt sz st (by omega) (by omega) sz0 sz1 (by omega) e4_9 (by omega) ksz ko' k1_9 k2_9 rfl ⟨xm, rfl, rfl⟩ (fun h5 a_9 ha_9 t1_9 t2_9 t3_9 => ⟨a_9, rfl, rfl, rfl, t1_9, mfr_L (hp_sub2 rfl t2_9), fun z_9 => absurd ok_9 z_9, fun _ => ⟨fun _ => ⟨ha_9, hp_sub2 rfl t2_9⟩, fun z_9 => absurd z_9 ns⟩⟩)
    rw [q5_9] at k2_9
    by_cases q7_9 : wt = 0
    · rw [q7_9] at kw
      exact mqx4 c_9 hM_9 (by omega) hy xm.toInt sz (by omega) (by omega) sz0 sz1 (by omega) ksz ko' k1_9 k2_9 kw rfl ⟨xm, rfl, rfl⟩ (fun h5 a_9 ha_9 t1_9 t2_9 t3_9 => ⟨a_9, rfl, rfl, rfl, t1_9, mfr_L (hp_sub2 rfl t2_9), fun z_9 => absurd ok_9 z_9, fun _ => ⟨fun _ => ⟨ha_9, hp_sub2 rfl t2_9⟩, fun _ z_9 => by omega⟩⟩)
    have q7_9 : wt = 1 := by omega
    have R_9 := R_9 q7_9
    rw [q7_9] at kw
    obtain ⟨mN, em⟩ : ∃ q_9 : Nat, xm.toInt = (q_9 : Int) := ⟨xm.toInt.toNat, by omega⟩
    refine mqx5 c_9 hM_9 (by omega) hy xm.toInt sz (by omega) (by omega) sz0 sz1 (by omega) ksz ko' k1_9 k2_9 kw rfl ⟨xm, rfl, rfl⟩ (fun l3 h3 z0 z1 e0_9 e1_9' el v1_9 v2 v3 m0_9 m1_9' m2_9 => ?_)
    have ym : z1 = mN := by omega
    rw [ym] at el
    rw [ym]
    rw [em] at kd ky ks_9 R_9
    obtain ⟨r_9, hrun, w_9, r1_9, r2, r3, rhy, rfr, rnm⟩ := lm6_run (D := D - 1) cc (by omega) v1_9 (LC_mv I v2 rfl) x30 g12 (m := mN) (by omega) el (v2 _ _ _ rfl kd) (v2 _ _ _ rfl ky) (v2 _ _ _ rfl ks_9) d0 d1 y0 y1 s0 s1 (xk := z0) e0_9
    rw [show D - 1 + 1 = D by omega] at hrun
    refine hp_call (mi := 147) (pc := 43) (tg := 51) (na := 3) (c := 28) (ci := 5) (st0 := [.int z0, .ref (16 + (177 + 19 * mN + 0)), .ref 44]) (st := []) (av := [.ref (16 + (177 + 19 * mN + 0)), .int z0]) hM_9 (by decide +kernel) v1_9 rfl rfl rfl (by decide) hrun r2 r3 ?_
    rw [r1_9]
    have F4 : ly_fr cst [] h0 r_9.2.1 := ly_fr_tr v2 rfr
    have m2_9' := hp_mlm m2_9 (hp_len2 rfr rfl)
    by_cases q8_9 : w_9.toInt = 0
    · exact mqx6 c_9 hM_9 (by omega) rhy xm.toInt w_9 q8_9 (by omega) (by omega) m0_9 m1_9' m2_9' (fun h5 a_9 ha_9 t1_9 t2_9 t3_9 => ⟨a_9, rfl, rfl, rfl, t1_9, mfr_L (hp_sub2 rfl (ly_fr_tr F4 t2_9)), fun z_9 => absurd ok_9 z_9, fun _ => ⟨fun z_9 => (by rcases z_9 with z_9 | z_9; exact absurd k2_9 z_9; omega), fun _ _ => ⟨w_9.toInt, rnm, Or.inl ⟨q8_9, ha_9, hp_sub2 rfl (ly_fr_tr F4 t2_9)⟩⟩⟩⟩)
    have nxt_9 : ∀ (l5 : am_L) (h5 : am_H) (z2 : Nat), (z2 : Int) = xm.toInt → 177 + 19 * (z2 + 1) ≤ h5.length → ly_hy m_tt ly_TH h5 → ly_fr cst [] r_9.2.1 h5 → r_9.2.1.length ≤ h5.length → hp_a l5 0 16 → hp_i l5 1 xm.toInt → hp_ml l5 2 h5.length xm.toInt → hp_F cst strs (fun r_9 : am_Q => ∃ w_9 : Int32, r_9.1 = some (.int w_9) ∧ r_9.2.2.1 = 0 ∧ r_9.2.2.2 = 0 ∧ ly_hy m_tt ly_TH r_9.2.1 ∧ mfr cst 45568 xm.toInt wi_mods h0 r_9.2.1 ∧ mdP X d y s wt row sz xm.toInt (ly_hv cst h0 45313 xm.toInt) (ly_hv cst h0 45319 xm.toInt) (-1) w_9.toInt (ly_fr cst wi_mods h0 r_9.2.1) (fun us => wR cst r_9.2.1 xm.toInt us ∧ ly_hv cst r_9.2.1 45571 xm.toInt = some 1)) D M_9 58 l5 [.ref (16 + (177 + 19 * z2 + 0)), .ref 44] h5 := by
      intro l5 h5 z2 e2_9' el5 t1_9 t2_9 t3_9 o0_9 o1 o2
      have ym5 : z2 = mN := by omega
      rw [ym5] at el5
      rw [ym5]
      have F5 : ly_fr cst [] h0 h5 := ly_fr_tr F4 t2_9
      obtain ⟨r6, hrun6, w6_9, s1_9', s2_9', s3_9', shy, ws_9, LP_9, sres⟩ := wi_run (D := D - 1) cc (by omega) t1_9 (LC_mv I F5 rfl) x30 g12 P (m := mN) (by omega) el5 (F5 _ _ _ rfl kd) (F5 _ _ _ rfl ky) (F5 _ _ _ rfl ks_9) d0 d1 y0 y1 s0 s1 (wR_mv R_9 F5 rfl rfl)
      rw [show D - 1 + 1 = D by omega] at hrun6
      refine hp_call (mi := 147) (pc := 58) (tg := 148) (na := 2) (c := 28) (ci := 5) (st0 := [.ref (16 + (177 + 19 * mN + 0)), .ref 44]) (st := []) (av := [.ref (16 + (177 + 19 * mN + 0))]) hM_9 (by decide +kernel) t1_9 rfl rfl rfl (by decide) hrun6 s2_9' s3_9' ?_
      rw [s1_9']
      refine mqx8 c_9 hM_9 (by omega) shy w6_9.toInt w6_9 rfl w6_9.le_toInt w6_9.toInt_le o0_9 (fun h7 a_9 ha_9 y1' y2' y3' => ?_)
      rcases sres with ⟨qa, ew, fr6⟩ | ⟨qa, ew, fr6, R6, T6⟩
      · have F7 : ly_fr cst wi_mods h0 h7 := ly_fr_tr (hp_sub2 rfl F5) (ly_fr_tr fr6 (hp_sub2 rfl y2'))
        exact ⟨a_9, rfl, rfl, rfl, y1', mfr_L F7, fun z_9 => absurd ok_9 z_9, fun _ => ⟨fun z_9 => (by rcases z_9 with z_9 | z_9; exact absurd k2_9 z_9; omega), fun _ _ => ⟨w_9.toInt, rnm, Or.inr ⟨q8_9, ws_9, LP_9, Or.inl ⟨qa, by rw [ha_9, ew], F7⟩⟩⟩⟩⟩
      · refine ⟨a_9, rfl, rfl, rfl, y1', ?_, fun z_9 => absurd ok_9 z_9, fun _ => ⟨fun z_9 => (by rcases z_9 with z_9 | z_9; exact absurd k2_9 z_9; omega), fun _ _ => ⟨w_9.toInt, rnm, Or.inr ⟨q8_9, ws_9, LP_9, Or.inr ⟨qa, by rw [ha_9, ew], ?_⟩⟩⟩⟩⟩
        · rw [em]
          exact mfr_tr (mfr_L (hp_sub2 rfl F5)) (mfr_tr fr6 (mfr_L (hp_sub2 rfl y2')))
        · rw [em]
          exact ⟨wR_mv R6 y2' rfl rfl, y2' _ _ _ rfl T6⟩
    by_cases q9_9 : w_9.toInt ≤ -1
    · exact mqx70 c_9 hM_9 (by omega) rhy xm.toInt w_9.toInt w_9 rfl (by omega) (by omega) w_9.le_toInt q9_9 m0_9 m1_9' m2_9' (fun l5 h5 z2 e2_9' el5 t1_9 t2_9 t3_9 o0_9 o1 o2 => nxt_9 l5 h5 z2 e2_9' el5 t1_9 t2_9 t3_9 o0_9 o1 o2)
    · exact mqx71 c_9 hM_9 (by omega) rhy xm.toInt w_9.toInt w_9 rfl (by omega) (by omega) (by omega) w_9.toInt_le m0_9 m1_9' m2_9' (fun l5 h5 z2 e2_9' el5 t1_9 t2_9 t3_9 o0_9 o1 o2 => nxt_9 l5 h5 z2 e2_9' el5 t1_9 t2_9 t3_9 o0_9 o1 o2)
  obtain ⟨n_9', r_9, hgo, w_9, r1_9, r2, r3, r4⟩ := go_9
  simp only [Nat.zero_add] at r2 r3
  exact ⟨r_9, Or.inr ⟨M_9, n_9', hM_9, hl, hgo⟩, w_9, r1_9, r2, r3, r4⟩

