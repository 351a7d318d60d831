/-! PRINTED by wip/p2/hp_land.py: landOf and landOn of class and reference, exactly -/
theorem xl0_k : hp_chk 66 0 3 [(0, (-2147483648), 2147483647), (1, (-2147483648), 2147483647), (2, (-2147483648), 2147483647)] [] [(0, .inr (.inr (.inl (some 22)))), (1, .inl (0, [(0, 1)])), (2, .inl (0, [(1, 1)])), (3, .inl (0, [(2, 1)]))] [] [] [] 2 [(9, ([], 3, [(0, (-2147483648), 2147483647), (1, (-2147483648), 2147483647), (2, (-2147483648), 2147483647)], [], [(0, .inr (.inr (.inl (some 22)))), (1, .inl (0, [(0, 1)])), (2, .inl (0, [(1, 1)])), (3, .inl (0, [(2, 1)])), (4, .inl (0, [])), (5, .inl ((-1), [])), (6, .inl (0, []))], [], []))] [] = true := by decide +kernel
theorem xl0 {cst : am_K} {strs : List Nat} {Φ : am_Q → Prop} {D : Nat} {M : am_M} {h : am_H} {l : am_L} (c : hp_C cst strs D) (hM : m_P[66]? = some M) (hD : (2 : Int) ≤ (D : Int) + 1) (hy : ly_hy m_tt ly_TH h) (p y z : Int) (b0 : (-2147483648) ≤ p) (t0 : p ≤ 2147483647) (b1 : (-2147483648) ≤ y) (t1 : y ≤ 2147483647) (b2 : (-2147483648) ≤ z) (t2 : z ≤ 2147483647) (l0 : hp_a l 0 22) (l1 : hp_i l 1 (p)) (l2 : hp_i l 2 (y)) (l3 : hp_i l 3 (z)) (e0 : ∀ (l' : am_L) (h' : am_H), ly_hy m_tt ly_TH h' → ly_fr cst [] h h' → h.length ≤ h'.length → hp_a l' 0 22 → hp_i l' 1 (p) → hp_i l' 2 (y) → hp_i l' 3 (z) → hp_i l' 4 0 → hp_i l' 5 (-1) → hp_i l' 6 0 → hp_F cst strs Φ D M 9 l' [] h') : hp_F cst strs Φ D M 0 l [] h := by
  refine hp_arc c hM xl0_k hD [p, y, z] rfl hy (hp_Bc (z := p) rfl b0 t0 (hp_Bc (z := y) rfl b1 t1 (hp_Bc (z := z) rfl b2 t2 hp_Bn))) hp_Fn hp_Kn (hp_La l0 (hp_Li (z := (0 + (1 * p + 0))) l1 rfl (by omega) (hp_Li (z := (0 + (1 * y + 0))) l2 rfl (by omega) (hp_Li (z := (0 + (1 * z + 0))) l3 rfl (by omega) hp_Ln)))) trivial ?_ ?_
  · intro p hp ys l' st' h' hys a1 a2 a3 gZ gL gS
    rcases List.mem_cons.mp hp with rfl | hp
    · obtain rfl := hp_y0 hys
      cases hp_gSn gS
      exact e0 l' h' a1 a2 a3 (hp_gLa gL (List.mem_of_getElem? (i := 0) rfl) (by decide)) (hp_gLi (z := (0 + (1 * p + 0))) gL (List.mem_of_getElem? (i := 1) rfl) rfl (by omega)) (hp_gLi (z := (0 + (1 * y + 0))) gL (List.mem_of_getElem? (i := 2) rfl) rfl (by omega)) (hp_gLi (z := (0 + (1 * z + 0))) gL (List.mem_of_getElem? (i := 3) rfl) rfl (by omega)) (hp_gLi (z := (0 + 0)) gL (List.mem_of_getElem? (i := 4) rfl) rfl (by omega)) (hp_gLi (z := ((-1) + 0)) gL (List.mem_of_getElem? (i := 5) rfl) rfl (by omega)) (hp_gLi (z := (0 + 0)) gL (List.mem_of_getElem? (i := 6) rfl) rfl (by omega))
    cases hp
  · intro p hp ys v h' hys a1 a2 a3 gZ gS
    cases hp
theorem xla_k : hp_chk 66 9 10 [(0, (-2147483648), 2147483647), (1, (-2147483648), 2147483647), (2, (-2147483648), 2147483647), (3, (-2147483648), 2147483647), (4, (-1), 2147483647), (5, 0, 300), (6, 0, 299), (7, (-2147483648), 2147483647), (8, (-2147483648), 2147483647), (9, (-2147483648), 2147483647)] [((-1), [(5, 1), (6, (-1))]), (0, [(2, 1), (8, (-1))]), (0, [(1, 1), (9, (-1))]), (0, [(4, (-1)), (9, 1)])] [(0, .inr (.inr (.inl (some 22)))), (1, .inl (0, [(0, 1)])), (2, .inl (0, [(1, 1)])), (3, .inl (0, [(2, 1)])), (4, .inl (0, [(3, 1)])), (5, .inl (0, [(4, 1)])), (6, .inl (0, [(6, 1)]))] [] [(1537, (0, []), (0, [(5, 1)])), (2304, (0, [(6, 1)]), (0, [])), (2560, (0, [(6, 1)]), (0, [(0, 1)])), (3328, (0, [(6, 1)]), (0, [(8, 1)])), (3072, (0, [(6, 1)]), (0, [(9, 1)])), (2816, (0, [(6, 1)]), (0, [(7, 1)]))] [] 2 [(9, ([], 10, [(0, (-2147483648), 2147483647), (1, (-2147483648), 2147483647), (2, (-2147483648), 2147483647), (3, (-2147483648), 2147483647), (4, (-1), 2147483647), (5, 0, 300), (6, 0, 299), (7, (-2147483648), 2147483647), (8, (-2147483648), 2147483647), (9, (-2147483648), 2147483647)], [], [(0, .inr (.inr (.inl (some 22)))), (1, .inl (0, [(0, 1)])), (2, .inl (0, [(1, 1)])), (3, .inl (0, [(2, 1)])), (4, .inl (0, [(7, 1)])), (5, .inl (0, [(9, 1)])), (6, .inl (1, [(6, 1)]))], [], []))] [] = true := by decide +kernel
theorem xla {cst : am_K} {strs : List Nat} {Φ : am_Q → Prop} {D : Nat} {M : am_M} {h : am_H} {l : am_L} (c : hp_C cst strs D) (hM : m_P[66]? = some M) (hD : (2 : Int) ≤ (D : Int) + 1) (hy : ly_hy m_tt ly_TH h) (p y z m w t i am c1 e1 : Int) (b0 : (-2147483648) ≤ p) (t0 : p ≤ 2147483647) (b1 : (-2147483648) ≤ y) (t1 : y ≤ 2147483647) (b2 : (-2147483648) ≤ z) (t2 : z ≤ 2147483647) (b3 : (-2147483648) ≤ m) (t3 : m ≤ 2147483647) (b4 : (-1) ≤ w) (t4 : w ≤ 2147483647) (b5 : 0 ≤ t) (t5 : t ≤ 300) (b6 : 0 ≤ i) (t6 : i ≤ 299) (b7 : (-2147483648) ≤ am) (t7 : am ≤ 2147483647) (b8 : (-2147483648) ≤ c1) (t8 : c1 ≤ 2147483647) (b9 : (-2147483648) ≤ e1) (t9 : e1 ≤ 2147483647) (f0 : 0 ≤ (t - i - 1)) (f1 : 0 ≤ (z - c1)) (f2 : 0 ≤ (y - e1)) (f3 : 0 ≤ (e1 - w)) (k0 : ly_hv cst h 1537 0 = some (t)) (k1 : ly_hv cst h 2304 (i) = some 0) (k2 : ly_hv cst h 2560 (i) = some (p)) (k3 : ly_hv cst h 3328 (i) = some (c1)) (k4 : ly_hv cst h 3072 (i) = some (e1)) (k5 : ly_hv cst h 2816 (i) = some (am)) (l0 : hp_a l 0 22) (l1 : hp_i l 1 (p)) (l2 : hp_i l 2 (y)) (l3 : hp_i l 3 (z)) (l4 : hp_i l 4 (m)) (l5 : hp_i l 5 (w)) (l6 : hp_i l 6 (i)) (e0 : ∀ (l' : am_L) (h' : am_H), ly_hy m_tt ly_TH h' → ly_fr cst [] h h' → h.length ≤ h'.length → hp_a l' 0 22 → hp_i l' 1 (p) → hp_i l' 2 (y) → hp_i l' 3 (z) → hp_i l' 4 (am) → hp_i l' 5 (e1) → hp_i l' 6 (i + 1) → hp_F cst strs Φ D M 9 l' [] h') : hp_F cst strs Φ D M 9 l [] h := by
  refine hp_arc c hM xla_k hD [p, y, z, m, w, t, i, am, c1, e1] rfl hy (hp_Bc (z := p) rfl b0 t0 (hp_Bc (z := y) rfl b1 t1 (hp_Bc (z := z) rfl b2 t2 (hp_Bc (z := m) rfl b3 t3 (hp_Bc (z := w) rfl b4 t4 (hp_Bc (z := t) rfl b5 t5 (hp_Bc (z := i) rfl b6 t6 (hp_Bc (z := am) rfl b7 t7 (hp_Bc (z := c1) rfl b8 t8 (hp_Bc (z := e1) rfl b9 t9 hp_Bn)))))))))) (hp_Fc (z := ((-1) + (1 * t + ((-1) * i + 0)))) rfl (by omega) (hp_Fc (z := (0 + (1 * z + ((-1) * c1 + 0)))) rfl (by omega) (hp_Fc (z := (0 + (1 * y + ((-1) * e1 + 0)))) rfl (by omega) (hp_Fc (z := (0 + ((-1) * w + (1 * e1 + 0)))) rfl (by omega) hp_Fn)))) (hp_Kc (zi := (0 + 0)) (zv := (0 + (1 * t + 0))) k0 rfl rfl (by omega) (by omega) (hp_Kc (zi := (0 + (1 * i + 0))) (zv := (0 + 0)) k1 rfl rfl (by omega) (by omega) (hp_Kc (zi := (0 + (1 * i + 0))) (zv := (0 + (1 * p + 0))) k2 rfl rfl (by omega) (by omega) (hp_Kc (zi := (0 + (1 * i + 0))) (zv := (0 + (1 * c1 + 0))) k3 rfl rfl (by omega) (by omega) (hp_Kc (zi := (0 + (1 * i + 0))) (zv := (0 + (1 * e1 + 0))) k4 rfl rfl (by omega) (by omega) (hp_Kc (zi := (0 + (1 * i + 0))) (zv := (0 + (1 * am + 0))) k5 rfl rfl (by omega) (by omega) hp_Kn)))))) (hp_La l0 (hp_Li (z := (0 + (1 * p + 0))) l1 rfl (by omega) (hp_Li (z := (0 + (1 * y + 0))) l2 rfl (by omega) (hp_Li (z := (0 + (1 * z + 0))) l3 rfl (by omega) (hp_Li (z := (0 + (1 * m + 0))) l4 rfl (by omega) (hp_Li (z := (0 + (1 * w + 0))) l5 rfl (by omega) (hp_Li (z := (0 + (1 * i + 0))) l6 rfl (by omega) hp_Ln))))))) trivial ?_ ?_
  · intro p hp ys l' st' h' hys a1 a2 a3 gZ gL gS
    rcases List.mem_cons.mp hp with rfl | hp
    · obtain rfl := hp_y0 hys
      cases hp_gSn gS
      exact e0 l' h' a1 a2 a3 (hp_gLa gL (List.mem_of_getElem? (i := 0) rfl) (by decide)) (hp_gLi (z := (0 + (1 * p + 0))) gL (List.mem_of_getElem? (i := 1) rfl) rfl (by omega)) (hp_gLi (z := (0 + (1 * y + 0))) gL (List.mem_of_getElem? (i := 2) rfl) rfl (by omega)) (hp_gLi (z := (0 + (1 * z + 0))) gL (List.mem_of_getElem? (i := 3) rfl) rfl (by omega)) (hp_gLi (z := (0 + (1 * am + 0))) gL (List.mem_of_getElem? (i := 4) rfl) rfl (by omega)) (hp_gLi (z := (0 + (1 * e1 + 0))) gL (List.mem_of_getElem? (i := 5) rfl) rfl (by omega)) (hp_gLi (z := (1 + (1 * i + 0))) gL (List.mem_of_getElem? (i := 6) rfl) rfl (by omega))
    cases hp
  · intro p hp ys v h' hys a1 a2 a3 gZ gS
    cases hp
theorem xlb_k : hp_chk 66 9 8 [(0, (-2147483648), 2147483647), (1, (-2147483648), 2147483647), (2, (-2147483648), 2147483647), (3, (-2147483648), 2147483647), (4, (-1), 2147483647), (5, 0, 300), (6, 0, 299), (7, (-2147483648), 2147483647)] [((-1), [(5, 1), (6, (-1))])] [(0, .inr (.inr (.inl (some 22)))), (1, .inl (0, [(0, 1)])), (2, .inl (0, [(1, 1)])), (3, .inl (0, [(2, 1)])), (4, .inl (0, [(3, 1)])), (5, .inl (0, [(4, 1)])), (6, .inl (0, [(6, 1)]))] [] [(1537, (0, []), (0, [(5, 1)])), (2304, (0, [(6, 1)]), (0, [(7, 1)])), (61000, (0, [(7, 1)]), (1, []))] [] 2 [(9, ([], 8, [(0, (-2147483648), 2147483647), (1, (-2147483648), 2147483647), (2, (-2147483648), 2147483647), (3, (-2147483648), 2147483647), (4, (-1), 2147483647), (5, 0, 300), (6, 0, 299), (7, (-2147483648), 2147483647)], [], [(0, .inr (.inr (.inl (some 22)))), (1, .inl (0, [(0, 1)])), (2, .inl (0, [(1, 1)])), (3, .inl (0, [(2, 1)])), (4, .inl (0, [(3, 1)])), (5, .inl (0, [(4, 1)])), (6, .inl (1, [(6, 1)]))], [], []))] [] = true := by decide +kernel
theorem xlb {cst : am_K} {strs : List Nat} {Φ : am_Q → Prop} {D : Nat} {M : am_M} {h : am_H} {l : am_L} (c : hp_C cst strs D) (hM : m_P[66]? = some M) (hD : (2 : Int) ≤ (D : Int) + 1) (hy : ly_hy m_tt ly_TH h) (p y z m w t i a : Int) (b0 : (-2147483648) ≤ p) (t0 : p ≤ 2147483647) (b1 : (-2147483648) ≤ y) (t1 : y ≤ 2147483647) (b2 : (-2147483648) ≤ z) (t2 : z ≤ 2147483647) (b3 : (-2147483648) ≤ m) (t3 : m ≤ 2147483647) (b4 : (-1) ≤ w) (t4 : w ≤ 2147483647) (b5 : 0 ≤ t) (t5 : t ≤ 300) (b6 : 0 ≤ i) (t6 : i ≤ 299) (b7 : (-2147483648) ≤ a) (t7 : a ≤ 2147483647) (f0 : 0 ≤ (t - i - 1)) (k0 : ly_hv cst h 1537 0 = some (t)) (k1 : ly_hv cst h 2304 (i) = some (a)) (k2 : ly_hv cst h 61000 (a) = some 1) (l0 : hp_a l 0 22) (l1 : hp_i l 1 (p)) (l2 : hp_i l 2 (y)) (l3 : hp_i l 3 (z)) (l4 : hp_i l 4 (m)) (l5 : hp_i l 5 (w)) (l6 : hp_i l 6 (i)) (e0 : ∀ (l' : am_L) (h' : am_H), ly_hy m_tt ly_TH h' → ly_fr cst [] h h' → h.length ≤ h'.length → hp_a l' 0 22 → hp_i l' 1 (p) → hp_i l' 2 (y) → hp_i l' 3 (z) → hp_i l' 4 (m) → hp_i l' 5 (w) → hp_i l' 6 (i + 1) → hp_F cst strs Φ D M 9 l' [] h') : hp_F cst strs Φ D M 9 l [] h := by
  refine hp_arc c hM xlb_k hD [p, y, z, m, w, t, i, a] rfl hy (hp_Bc (z := p) rfl b0 t0 (hp_Bc (z := y) rfl b1 t1 (hp_Bc (z := z) rfl b2 t2 (hp_Bc (z := m) rfl b3 t3 (hp_Bc (z := w) rfl b4 t4 (hp_Bc (z := t) rfl b5 t5 (hp_Bc (z := i) rfl b6 t6 (hp_Bc (z := a) rfl b7 t7 hp_Bn)))))))) (hp_Fc (z := ((-1) + (1 * t + ((-1) * i + 0)))) rfl (by omega) hp_Fn) (hp_Kc (zi := (0 + 0)) (zv := (0 + (1 * t + 0))) k0 rfl rfl (by omega) (by omega) (hp_Kc (zi := (0 + (1 * i + 0))) (zv := (0 + (1 * a + 0))) k1 rfl rfl (by omega) (by omega) (hp_Kc (zi := (0 + (1 * a + 0))) (zv := (1 + 0)) k2 rfl rfl (by omega) (by omega) hp_Kn))) (hp_La l0 (hp_Li (z := (0 + (1 * p + 0))) l1 rfl (by omega) (hp_Li (z := (0 + (1 * y + 0))) l2 rfl (by omega) (hp_Li (z := (0 + (1 * z + 0))) l3 rfl (by omega) (hp_Li (z := (0 + (1 * m + 0))) l4 rfl (by omega) (hp_Li (z := (0 + (1 * w + 0))) l5 rfl (by omega) (hp_Li (z := (0 + (1 * i + 0))) l6 rfl (by omega) hp_Ln))))))) trivial ?_ ?_
  · intro p hp ys l' st' h' hys a1 a2 a3 gZ gL gS
    rcases List.mem_cons.mp hp with rfl | hp
    · obtain rfl := hp_y0 hys
      cases hp_gSn gS
      exact e0 l' h' a1 a2 a3 (hp_gLa gL (List.mem_of_getElem? (i := 0) rfl) (by decide)) (hp_gLi (z := (0 + (1 * p + 0))) gL (List.mem_of_getElem? (i := 1) rfl) rfl (by omega)) (hp_gLi (z := (0 + (1 * y + 0))) gL (List.mem_of_getElem? (i := 2) rfl) rfl (by omega)) (hp_gLi (z := (0 + (1 * z + 0))) gL (List.mem_of_getElem? (i := 3) rfl) rfl (by omega)) (hp_gLi (z := (0 + (1 * m + 0))) gL (List.mem_of_getElem? (i := 4) rfl) rfl (by omega)) (hp_gLi (z := (0 + (1 * w + 0))) gL (List.mem_of_getElem? (i := 5) rfl) rfl (by omega)) (hp_gLi (z := (1 + (1 * i + 0))) gL (List.mem_of_getElem? (i := 6) rfl) rfl (by omega))
    cases hp
  · intro p hp ys v h' hys a1 a2 a3 gZ gS
    cases hp
theorem xlc_k : hp_chk 66 9 8 [(0, (-2147483648), 2147483647), (1, (-2147483648), 2147483647), (2, (-2147483648), 2147483647), (3, (-2147483648), 2147483647), (4, (-1), 2147483647), (5, 0, 300), (6, 0, 299), (7, (-2147483648), 2147483647)] [((-1), [(5, 1), (6, (-1))])] [(0, .inr (.inr (.inl (some 22)))), (1, .inl (0, [(0, 1)])), (2, .inl (0, [(1, 1)])), (3, .inl (0, [(2, 1)])), (4, .inl (0, [(3, 1)])), (5, .inl (0, [(4, 1)])), (6, .inl (0, [(6, 1)]))] [] [(1537, (0, []), (0, [(5, 1)])), (2304, (0, [(6, 1)]), (0, [])), (2560, (0, [(6, 1)]), (0, [(7, 1)])), (61000, (0, [(0, (-1)), (7, 1)]), (1, []))] [] 2 [(9, ([], 8, [(0, (-2147483648), 2147483647), (1, (-2147483648), 2147483647), (2, (-2147483648), 2147483647), (3, (-2147483648), 2147483647), (4, (-1), 2147483647), (5, 0, 300), (6, 0, 299), (7, (-2147483648), 2147483647)], [], [(0, .inr (.inr (.inl (some 22)))), (1, .inl (0, [(0, 1)])), (2, .inl (0, [(1, 1)])), (3, .inl (0, [(2, 1)])), (4, .inl (0, [(3, 1)])), (5, .inl (0, [(4, 1)])), (6, .inl (1, [(6, 1)]))], [], []))] [] = true := by decide +kernel
theorem xlc {cst : am_K} {strs : List Nat} {Φ : am_Q → Prop} {D : Nat} {M : am_M} {h : am_H} {l : am_L} (c : hp_C cst strs D) (hM : m_P[66]? = some M) (hD : (2 : Int) ≤ (D : Int) + 1) (hy : ly_hy m_tt ly_TH h) (p y z m w t i b : Int) (b0 : (-2147483648) ≤ p) (t0 : p ≤ 2147483647) (b1 : (-2147483648) ≤ y) (t1 : y ≤ 2147483647) (b2 : (-2147483648) ≤ z) (t2 : z ≤ 2147483647) (b3 : (-2147483648) ≤ m) (t3 : m ≤ 2147483647) (b4 : (-1) ≤ w) (t4 : w ≤ 2147483647) (b5 : 0 ≤ t) (t5 : t ≤ 300) (b6 : 0 ≤ i) (t6 : i ≤ 299) (b7 : (-2147483648) ≤ b) (t7 : b ≤ 2147483647) (f0 : 0 ≤ (t - i - 1)) (k0 : ly_hv cst h 1537 0 = some (t)) (k1 : ly_hv cst h 2304 (i) = some 0) (k2 : ly_hv cst h 2560 (i) = some (b)) (k3 : ly_hv cst h 61000 (b - p) = some 1) (l0 : hp_a l 0 22) (l1 : hp_i l 1 (p)) (l2 : hp_i l 2 (y)) (l3 : hp_i l 3 (z)) (l4 : hp_i l 4 (m)) (l5 : hp_i l 5 (w)) (l6 : hp_i l 6 (i)) (e0 : ∀ (l' : am_L) (h' : am_H), ly_hy m_tt ly_TH h' → ly_fr cst [] h h' → h.length ≤ h'.length → hp_a l' 0 22 → hp_i l' 1 (p) → hp_i l' 2 (y) → hp_i l' 3 (z) → hp_i l' 4 (m) → hp_i l' 5 (w) → hp_i l' 6 (i + 1) → hp_F cst strs Φ D M 9 l' [] h') : hp_F cst strs Φ D M 9 l [] h := by
  refine hp_arc c hM xlc_k hD [p, y, z, m, w, t, i, b] rfl hy (hp_Bc (z := p) rfl b0 t0 (hp_Bc (z := y) rfl b1 t1 (hp_Bc (z := z) rfl b2 t2 (hp_Bc (z := m) rfl b3 t3 (hp_Bc (z := w) rfl b4 t4 (hp_Bc (z := t) rfl b5 t5 (hp_Bc (z := i) rfl b6 t6 (hp_Bc (z := b) rfl b7 t7 hp_Bn)))))))) (hp_Fc (z := ((-1) + (1 * t + ((-1) * i + 0)))) rfl (by omega) hp_Fn) (hp_Kc (zi := (0 + 0)) (zv := (0 + (1 * t + 0))) k0 rfl rfl (by omega) (by omega) (hp_Kc (zi := (0 + (1 * i + 0))) (zv := (0 + 0)) k1 rfl rfl (by omega) (by omega) (hp_Kc (zi := (0 + (1 * i + 0))) (zv := (0 + (1 * b + 0))) k2 rfl rfl (by omega) (by omega) (hp_Kc (zi := (0 + ((-1) * p + (1 * b + 0)))) (zv := (1 + 0)) k3 rfl rfl (by omega) (by omega) hp_Kn)))) (hp_La l0 (hp_Li (z := (0 + (1 * p + 0))) l1 rfl (by omega) (hp_Li (z := (0 + (1 * y + 0))) l2 rfl (by omega) (hp_Li (z := (0 + (1 * z + 0))) l3 rfl (by omega) (hp_Li (z := (0 + (1 * m + 0))) l4 rfl (by omega) (hp_Li (z := (0 + (1 * w + 0))) l5 rfl (by omega) (hp_Li (z := (0 + (1 * i + 0))) l6 rfl (by omega) hp_Ln))))))) trivial ?_ ?_
  · intro p hp ys l' st' h' hys a1 a2 a3 gZ gL gS
    rcases List.mem_cons.mp hp with rfl | hp
    · obtain rfl := hp_y0 hys
      cases hp_gSn gS
      exact e0 l' h' a1 a2 a3 (hp_gLa gL (List.mem_of_getElem? (i := 0) rfl) (by decide)) (hp_gLi (z := (0 + (1 * p + 0))) gL (List.mem_of_getElem? (i := 1) rfl) rfl (by omega)) (hp_gLi (z := (0 + (1 * y + 0))) gL (List.mem_of_getElem? (i := 2) rfl) rfl (by omega)) (hp_gLi (z := (0 + (1 * z + 0))) gL (List.mem_of_getElem? (i := 3) rfl) rfl (by omega)) (hp_gLi (z := (0 + (1 * m + 0))) gL (List.mem_of_getElem? (i := 4) rfl) rfl (by omega)) (hp_gLi (z := (0 + (1 * w + 0))) gL (List.mem_of_getElem? (i := 5) rfl) rfl (by omega)) (hp_gLi (z := (1 + (1 * i + 0))) gL (List.mem_of_getElem? (i := 6) rfl) rfl (by omega))
    cases hp
  · intro p hp ys v h' hys a1 a2 a3 gZ gS
    cases hp
theorem xld_k : hp_chk 66 9 8 [(0, (-2147483648), 2147483647), (1, (-2147483648), 2147483647), (2, (-2147483648), 2147483647), (3, (-2147483648), 2147483647), (4, (-1), 2147483647), (5, 0, 300), (6, 0, 299), (7, (-2147483648), 2147483647)] [((-1), [(5, 1), (6, (-1))]), ((-1), [(2, (-1)), (7, 1)])] [(0, .inr (.inr (.inl (some 22)))), (1, .inl (0, [(0, 1)])), (2, .inl (0, [(1, 1)])), (3, .inl (0, [(2, 1)])), (4, .inl (0, [(3, 1)])), (5, .inl (0, [(4, 1)])), (6, .inl (0, [(6, 1)]))] [] [(1537, (0, []), (0, [(5, 1)])), (2304, (0, [(6, 1)]), (0, [])), (2560, (0, [(6, 1)]), (0, [(0, 1)])), (3328, (0, [(6, 1)]), (0, [(7, 1)]))] [] 2 [(9, ([], 8, [(0, (-2147483648), 2147483647), (1, (-2147483648), 2147483647), (2, (-2147483648), 2147483647), (3, (-2147483648), 2147483647), (4, (-1), 2147483647), (5, 0, 300), (6, 0, 299), (7, (-2147483648), 2147483647)], [], [(0, .inr (.inr (.inl (some 22)))), (1, .inl (0, [(0, 1)])), (2, .inl (0, [(1, 1)])), (3, .inl (0, [(2, 1)])), (4, .inl (0, [(3, 1)])), (5, .inl (0, [(4, 1)])), (6, .inl (1, [(6, 1)]))], [], []))] [] = true := by decide +kernel
theorem xld {cst : am_K} {strs : List Nat} {Φ : am_Q → Prop} {D : Nat} {M : am_M} {h : am_H} {l : am_L} (c : hp_C cst strs D) (hM : m_P[66]? = some M) (hD : (2 : Int) ≤ (D : Int) + 1) (hy : ly_hy m_tt ly_TH h) (p y z m w t i c1 : Int) (b0 : (-2147483648) ≤ p) (t0 : p ≤ 2147483647) (b1 : (-2147483648) ≤ y) (t1 : y ≤ 2147483647) (b2 : (-2147483648) ≤ z) (t2 : z ≤ 2147483647) (b3 : (-2147483648) ≤ m) (t3 : m ≤ 2147483647) (b4 : (-1) ≤ w) (t4 : w ≤ 2147483647) (b5 : 0 ≤ t) (t5 : t ≤ 300) (b6 : 0 ≤ i) (t6 : i ≤ 299) (b7 : (-2147483648) ≤ c1) (t7 : c1 ≤ 2147483647) (f0 : 0 ≤ (t - i - 1)) (f1 : 0 ≤ (c1 - z - 1)) (k0 : ly_hv cst h 1537 0 = some (t)) (k1 : ly_hv cst h 2304 (i) = some 0) (k2 : ly_hv cst h 2560 (i) = some (p)) (k3 : ly_hv cst h 3328 (i) = some (c1)) (l0 : hp_a l 0 22) (l1 : hp_i l 1 (p)) (l2 : hp_i l 2 (y)) (l3 : hp_i l 3 (z)) (l4 : hp_i l 4 (m)) (l5 : hp_i l 5 (w)) (l6 : hp_i l 6 (i)) (e0 : ∀ (l' : am_L) (h' : am_H), ly_hy m_tt ly_TH h' → ly_fr cst [] h h' → h.length ≤ h'.length → hp_a l' 0 22 → hp_i l' 1 (p) → hp_i l' 2 (y) → hp_i l' 3 (z) → hp_i l' 4 (m) → hp_i l' 5 (w) → hp_i l' 6 (i + 1) → hp_F cst strs Φ D M 9 l' [] h') : hp_F cst strs Φ D M 9 l [] h := by
  refine hp_arc c hM xld_k hD [p, y, z, m, w, t, i, c1] rfl hy (hp_Bc (z := p) rfl b0 t0 (hp_Bc (z := y) rfl b1 t1 (hp_Bc (z := z) rfl b2 t2 (hp_Bc (z := m) rfl b3 t3 (hp_Bc (z := w) rfl b4 t4 (hp_Bc (z := t) rfl b5 t5 (hp_Bc (z := i) rfl b6 t6 (hp_Bc (z := c1) rfl b7 t7 hp_Bn)))))))) (hp_Fc (z := ((-1) + (1 * t + ((-1) * i + 0)))) rfl (by omega) (hp_Fc (z := ((-1) + ((-1) * z + (1 * c1 + 0)))) rfl (by omega) hp_Fn)) (hp_Kc (zi := (0 + 0)) (zv := (0 + (1 * t + 0))) k0 rfl rfl (by omega) (by omega) (hp_Kc (zi := (0 + (1 * i + 0))) (zv := (0 + 0)) k1 rfl rfl (by omega) (by omega) (hp_Kc (zi := (0 + (1 * i + 0))) (zv := (0 + (1 * p + 0))) k2 rfl rfl (by omega) (by omega) (hp_Kc (zi := (0 + (1 * i + 0))) (zv := (0 + (1 * c1 + 0))) k3 rfl rfl (by omega) (by omega) hp_Kn)))) (hp_La l0 (hp_Li (z := (0 + (1 * p + 0))) l1 rfl (by omega) (hp_Li (z := (0 + (1 * y + 0))) l2 rfl (by omega) (hp_Li (z := (0 + (1 * z + 0))) l3 rfl (by omega) (hp_Li (z := (0 + (1 * m + 0))) l4 rfl (by omega) (hp_Li (z := (0 + (1 * w + 0))) l5 rfl (by omega) (hp_Li (z := (0 + (1 * i + 0))) l6 rfl (by omega) hp_Ln))))))) trivial ?_ ?_
  · intro p hp ys l' st' h' hys a1 a2 a3 gZ gL gS
    rcases List.mem_cons.mp hp with rfl | hp
    · obtain rfl := hp_y0 hys
      cases hp_gSn gS
      exact e0 l' h' a1 a2 a3 (hp_gLa gL (List.mem_of_getElem? (i := 0) rfl) (by decide)) (hp_gLi (z := (0 + (1 * p + 0))) gL (List.mem_of_getElem? (i := 1) rfl) rfl (by omega)) (hp_gLi (z := (0 + (1 * y + 0))) gL (List.mem_of_getElem? (i := 2) rfl) rfl (by omega)) (hp_gLi (z := (0 + (1 * z + 0))) gL (List.mem_of_getElem? (i := 3) rfl) rfl (by omega)) (hp_gLi (z := (0 + (1 * m + 0))) gL (List.mem_of_getElem? (i := 4) rfl) rfl (by omega)) (hp_gLi (z := (0 + (1 * w + 0))) gL (List.mem_of_getElem? (i := 5) rfl) rfl (by omega)) (hp_gLi (z := (1 + (1 * i + 0))) gL (List.mem_of_getElem? (i := 6) rfl) rfl (by omega))
    cases hp
  · intro p hp ys v h' hys a1 a2 a3 gZ gS
    cases hp
theorem xle_k : hp_chk 66 9 9 [(0, (-2147483648), 2147483647), (1, (-2147483648), 2147483647), (2, (-2147483648), 2147483647), (3, (-2147483648), 2147483647), (4, (-1), 2147483647), (5, 0, 300), (6, 0, 299), (7, (-2147483648), 2147483647), (8, (-2147483648), 2147483647)] [((-1), [(5, 1), (6, (-1))]), (0, [(2, 1), (7, (-1))]), ((-1), [(1, (-1)), (8, 1)])] [(0, .inr (.inr (.inl (some 22)))), (1, .inl (0, [(0, 1)])), (2, .inl (0, [(1, 1)])), (3, .inl (0, [(2, 1)])), (4, .inl (0, [(3, 1)])), (5, .inl (0, [(4, 1)])), (6, .inl (0, [(6, 1)]))] [] [(1537, (0, []), (0, [(5, 1)])), (2304, (0, [(6, 1)]), (0, [])), (2560, (0, [(6, 1)]), (0, [(0, 1)])), (3328, (0, [(6, 1)]), (0, [(7, 1)])), (3072, (0, [(6, 1)]), (0, [(8, 1)]))] [] 2 [(9, ([], 9, [(0, (-2147483648), 2147483647), (1, (-2147483648), 2147483647), (2, (-2147483648), 2147483647), (3, (-2147483648), 2147483647), (4, (-1), 2147483647), (5, 0, 300), (6, 0, 299), (7, (-2147483648), 2147483647), (8, (-2147483648), 2147483647)], [], [(0, .inr (.inr (.inl (some 22)))), (1, .inl (0, [(0, 1)])), (2, .inl (0, [(1, 1)])), (3, .inl (0, [(2, 1)])), (4, .inl (0, [(3, 1)])), (5, .inl (0, [(4, 1)])), (6, .inl (1, [(6, 1)]))], [], []))] [] = true := by decide +kernel
theorem xle {cst : am_K} {strs : List Nat} {Φ : am_Q → Prop} {D : Nat} {M : am_M} {h : am_H} {l : am_L} (c : hp_C cst strs D) (hM : m_P[66]? = some M) (hD : (2 : Int) ≤ (D : Int) + 1) (hy : ly_hy m_tt ly_TH h) (p y z m w t i c1 e1 : Int) (b0 : (-2147483648) ≤ p) (t0 : p ≤ 2147483647) (b1 : (-2147483648) ≤ y) (t1 : y ≤ 2147483647) (b2 : (-2147483648) ≤ z) (t2 : z ≤ 2147483647) (b3 : (-2147483648) ≤ m) (t3 : m ≤ 2147483647) (b4 : (-1) ≤ w) (t4 : w ≤ 2147483647) (b5 : 0 ≤ t) (t5 : t ≤ 300) (b6 : 0 ≤ i) (t6 : i ≤ 299) (b7 : (-2147483648) ≤ c1) (t7 : c1 ≤ 2147483647) (b8 : (-2147483648) ≤ e1) (t8 : e1 ≤ 2147483647) (f0 : 0 ≤ (t - i - 1)) (f1 : 0 ≤ (z - c1)) (f2 : 0 ≤ (e1 - y - 1)) (k0 : ly_hv cst h 1537 0 = some (t)) (k1 : ly_hv cst h 2304 (i) = some 0) (k2 : ly_hv cst h 2560 (i) = some (p)) (k3 : ly_hv cst h 3328 (i) = some (c1)) (k4 : ly_hv cst h 3072 (i) = some (e1)) (l0 : hp_a l 0 22) (l1 : hp_i l 1 (p)) (l2 : hp_i l 2 (y)) (l3 : hp_i l 3 (z)) (l4 : hp_i l 4 (m)) (l5 : hp_i l 5 (w)) (l6 : hp_i l 6 (i)) (e0 : ∀ (l' : am_L) (h' : am_H), ly_hy m_tt ly_TH h' → ly_fr cst [] h h' → h.length ≤ h'.length → hp_a l' 0 22 → hp_i l' 1 (p) → hp_i l' 2 (y) → hp_i l' 3 (z) → hp_i l' 4 (m) → hp_i l' 5 (w) → hp_i l' 6 (i + 1) → hp_F cst strs Φ D M 9 l' [] h') : hp_F cst strs Φ D M 9 l [] h := by
  refine hp_arc c hM xle_k hD [p, y, z, m, w, t, i, c1, e1] rfl hy (hp_Bc (z := p) rfl b0 t0 (hp_Bc (z := y) rfl b1 t1 (hp_Bc (z := z) rfl b2 t2 (hp_Bc (z := m) rfl b3 t3 (hp_Bc (z := w) rfl b4 t4 (hp_Bc (z := t) rfl b5 t5 (hp_Bc (z := i) rfl b6 t6 (hp_Bc (z := c1) rfl b7 t7 (hp_Bc (z := e1) rfl b8 t8 hp_Bn))))))))) (hp_Fc (z := ((-1) + (1 * t + ((-1) * i + 0)))) rfl (by omega) (hp_Fc (z := (0 + (1 * z + ((-1) * c1 + 0)))) rfl (by omega) (hp_Fc (z := ((-1) + ((-1) * y + (1 * e1 + 0)))) rfl (by omega) hp_Fn))) (hp_Kc (zi := (0 + 0)) (zv := (0 + (1 * t + 0))) k0 rfl rfl (by omega) (by omega) (hp_Kc (zi := (0 + (1 * i + 0))) (zv := (0 + 0)) k1 rfl rfl (by omega) (by omega) (hp_Kc (zi := (0 + (1 * i + 0))) (zv := (0 + (1 * p + 0))) k2 rfl rfl (by omega) (by omega) (hp_Kc (zi := (0 + (1 * i + 0))) (zv := (0 + (1 * c1 + 0))) k3 rfl rfl (by omega) (by omega) (hp_Kc (zi := (0 + (1 * i + 0))) (zv := (0 + (1 * e1 + 0))) k4 rfl rfl (by omega) (by omega) hp_Kn))))) (hp_La l0 (hp_Li (z := (0 + (1 * p + 0))) l1 rfl (by omega) (hp_Li (z := (0 + (1 * y + 0))) l2 rfl (by omega) (hp_Li (z := (0 + (1 * z + 0))) l3 rfl (by omega) (hp_Li (z := (0 + (1 * m + 0))) l4 rfl (by omega) (hp_Li (z := (0 + (1 * w + 0))) l5 rfl (by omega) (hp_Li (z := (0 + (1 * i + 0))) l6 rfl (by omega) hp_Ln))))))) trivial ?_ ?_
  · intro p hp ys l' st' h' hys a1 a2 a3 gZ gL gS
    rcases List.mem_cons.mp hp with rfl | hp
    · obtain rfl := hp_y0 hys
      cases hp_gSn gS
      exact e0 l' h' a1 a2 a3 (hp_gLa gL (List.mem_of_getElem? (i := 0) rfl) (by decide)) (hp_gLi (z := (0 + (1 * p + 0))) gL (List.mem_of_getElem? (i := 1) rfl) rfl (by omega)) (hp_gLi (z := (0 + (1 * y + 0))) gL (List.mem_of_getElem? (i := 2) rfl) rfl (by omega)) (hp_gLi (z := (0 + (1 * z + 0))) gL (List.mem_of_getElem? (i := 3) rfl) rfl (by omega)) (hp_gLi (z := (0 + (1 * m + 0))) gL (List.mem_of_getElem? (i := 4) rfl) rfl (by omega)) (hp_gLi (z := (0 + (1 * w + 0))) gL (List.mem_of_getElem? (i := 5) rfl) rfl (by omega)) (hp_gLi (z := (1 + (1 * i + 0))) gL (List.mem_of_getElem? (i := 6) rfl) rfl (by omega))
    cases hp
  · intro p hp ys v h' hys a1 a2 a3 gZ gS
    cases hp
theorem xlg_k : hp_chk 66 9 9 [(0, (-2147483648), 2147483647), (1, (-2147483648), 2147483647), (2, (-2147483648), 2147483647), (3, (-2147483648), 2147483647), (4, (-1), 2147483647), (5, 0, 300), (6, 0, 299), (7, (-2147483648), 2147483647), (8, (-2147483648), 2147483647)] [((-1), [(5, 1), (6, (-1))]), (0, [(2, 1), (7, (-1))]), ((-1), [(4, 1), (8, (-1))])] [(0, .inr (.inr (.inl (some 22)))), (1, .inl (0, [(0, 1)])), (2, .inl (0, [(1, 1)])), (3, .inl (0, [(2, 1)])), (4, .inl (0, [(3, 1)])), (5, .inl (0, [(4, 1)])), (6, .inl (0, [(6, 1)]))] [] [(1537, (0, []), (0, [(5, 1)])), (2304, (0, [(6, 1)]), (0, [])), (2560, (0, [(6, 1)]), (0, [(0, 1)])), (3328, (0, [(6, 1)]), (0, [(7, 1)])), (3072, (0, [(6, 1)]), (0, [(8, 1)]))] [] 2 [(9, ([], 9, [(0, (-2147483648), 2147483647), (1, (-2147483648), 2147483647), (2, (-2147483648), 2147483647), (3, (-2147483648), 2147483647), (4, (-1), 2147483647), (5, 0, 300), (6, 0, 299), (7, (-2147483648), 2147483647), (8, (-2147483648), 2147483647)], [], [(0, .inr (.inr (.inl (some 22)))), (1, .inl (0, [(0, 1)])), (2, .inl (0, [(1, 1)])), (3, .inl (0, [(2, 1)])), (4, .inl (0, [(3, 1)])), (5, .inl (0, [(4, 1)])), (6, .inl (1, [(6, 1)]))], [], []))] [] = true := by decide +kernel
theorem xlg {cst : am_K} {strs : List Nat} {Φ : am_Q → Prop} {D : Nat} {M : am_M} {h : am_H} {l : am_L} (c : hp_C cst strs D) (hM : m_P[66]? = some M) (hD : (2 : Int) ≤ (D : Int) + 1) (hy : ly_hy m_tt ly_TH h) (p y z m w t i c1 e1 : Int) (b0 : (-2147483648) ≤ p) (t0 : p ≤ 2147483647) (b1 : (-2147483648) ≤ y) (t1 : y ≤ 2147483647) (b2 : (-2147483648) ≤ z) (t2 : z ≤ 2147483647) (b3 : (-2147483648) ≤ m) (t3 : m ≤ 2147483647) (b4 : (-1) ≤ w) (t4 : w ≤ 2147483647) (b5 : 0 ≤ t) (t5 : t ≤ 300) (b6 : 0 ≤ i) (t6 : i ≤ 299) (b7 : (-2147483648) ≤ c1) (t7 : c1 ≤ 2147483647) (b8 : (-2147483648) ≤ e1) (t8 : e1 ≤ 2147483647) (f0 : 0 ≤ (t - i - 1)) (f1 : 0 ≤ (z - c1)) (f2 : 0 ≤ (w - e1 - 1)) (k0 : ly_hv cst h 1537 0 = some (t)) (k1 : ly_hv cst h 2304 (i) = some 0) (k2 : ly_hv cst h 2560 (i) = some (p)) (k3 : ly_hv cst h 3328 (i) = some (c1)) (k4 : ly_hv cst h 3072 (i) = some (e1)) (l0 : hp_a l 0 22) (l1 : hp_i l 1 (p)) (l2 : hp_i l 2 (y)) (l3 : hp_i l 3 (z)) (l4 : hp_i l 4 (m)) (l5 : hp_i l 5 (w)) (l6 : hp_i l 6 (i)) (e0 : ∀ (l' : am_L) (h' : am_H), ly_hy m_tt ly_TH h' → ly_fr cst [] h h' → h.length ≤ h'.length → hp_a l' 0 22 → hp_i l' 1 (p) → hp_i l' 2 (y) → hp_i l' 3 (z) → hp_i l' 4 (m) → hp_i l' 5 (w) → hp_i l' 6 (i + 1) → hp_F cst strs Φ D M 9 l' [] h') : hp_F cst strs Φ D M 9 l [] h := by
  refine hp_arc c hM xlg_k hD [p, y, z, m, w, t, i, c1, e1] rfl hy (hp_Bc (z := p) rfl b0 t0 (hp_Bc (z := y) rfl b1 t1 (hp_Bc (z := z) rfl b2 t2 (hp_Bc (z := m) rfl b3 t3 (hp_Bc (z := w) rfl b4 t4 (hp_Bc (z := t) rfl b5 t5 (hp_Bc (z := i) rfl b6 t6 (hp_Bc (z := c1) rfl b7 t7 (hp_Bc (z := e1) rfl b8 t8 hp_Bn))))))))) (hp_Fc (z := ((-1) + (1 * t + ((-1) * i + 0)))) rfl (by omega) (hp_Fc (z := (0 + (1 * z + ((-1) * c1 + 0)))) rfl (by omega) (hp_Fc (z := ((-1) + (1 * w + ((-1) * e1 + 0)))) rfl (by omega) hp_Fn))) (hp_Kc (zi := (0 + 0)) (zv := (0 + (1 * t + 0))) k0 rfl rfl (by omega) (by omega) (hp_Kc (zi := (0 + (1 * i + 0))) (zv := (0 + 0)) k1 rfl rfl (by omega) (by omega) (hp_Kc (zi := (0 + (1 * i + 0))) (zv := (0 + (1 * p + 0))) k2 rfl rfl (by omega) (by omega) (hp_Kc (zi := (0 + (1 * i + 0))) (zv := (0 + (1 * c1 + 0))) k3 rfl rfl (by omega) (by omega) (hp_Kc (zi := (0 + (1 * i + 0))) (zv := (0 + (1 * e1 + 0))) k4 rfl rfl (by omega) (by omega) hp_Kn))))) (hp_La l0 (hp_Li (z := (0 + (1 * p + 0))) l1 rfl (by omega) (hp_Li (z := (0 + (1 * y + 0))) l2 rfl (by omega) (hp_Li (z := (0 + (1 * z + 0))) l3 rfl (by omega) (hp_Li (z := (0 + (1 * m + 0))) l4 rfl (by omega) (hp_Li (z := (0 + (1 * w + 0))) l5 rfl (by omega) (hp_Li (z := (0 + (1 * i + 0))) l6 rfl (by omega) hp_Ln))))))) trivial ?_ ?_
  · intro p hp ys l' st' h' hys a1 a2 a3 gZ gL gS
    rcases List.mem_cons.mp hp with rfl | hp
    · obtain rfl := hp_y0 hys
      cases hp_gSn gS
      exact e0 l' h' a1 a2 a3 (hp_gLa gL (List.mem_of_getElem? (i := 0) rfl) (by decide)) (hp_gLi (z := (0 + (1 * p + 0))) gL (List.mem_of_getElem? (i := 1) rfl) rfl (by omega)) (hp_gLi (z := (0 + (1 * y + 0))) gL (List.mem_of_getElem? (i := 2) rfl) rfl (by omega)) (hp_gLi (z := (0 + (1 * z + 0))) gL (List.mem_of_getElem? (i := 3) rfl) rfl (by omega)) (hp_gLi (z := (0 + (1 * m + 0))) gL (List.mem_of_getElem? (i := 4) rfl) rfl (by omega)) (hp_gLi (z := (0 + (1 * w + 0))) gL (List.mem_of_getElem? (i := 5) rfl) rfl (by omega)) (hp_gLi (z := (1 + (1 * i + 0))) gL (List.mem_of_getElem? (i := 6) rfl) rfl (by omega))
    cases hp
  · intro p hp ys v h' hys a1 a2 a3 gZ gS
    cases hp
theorem xlf_k : hp_chk 66 9 6 [(0, (-2147483648), 2147483647), (1, (-2147483648), 2147483647), (2, (-2147483648), 2147483647), (3, (-2147483648), 2147483647), (4, (-1), 2147483647), (5, 0, 300)] [] [(0, .inr (.inr (.inl (some 22)))), (1, .inl (0, [(0, 1)])), (2, .inl (0, [(1, 1)])), (3, .inl (0, [(2, 1)])), (4, .inl (0, [(3, 1)])), (5, .inl (0, [(4, 1)])), (6, .inl (0, [(5, 1)]))] [] [(1537, (0, []), (0, [(5, 1)]))] [] 2 [] [([], 6, [(0, (-2147483648), 2147483647), (1, (-2147483648), 2147483647), (2, (-2147483648), 2147483647), (3, (-2147483648), 2147483647), (4, (-1), 2147483647), (5, 0, 300)], [], [], [.inl (0, [(3, 1)])], [])] = true := by decide +kernel
theorem xlf {cst : am_K} {strs : List Nat} {Φ : am_Q → Prop} {D : Nat} {M : am_M} {h : am_H} {l : am_L} (c : hp_C cst strs D) (hM : m_P[66]? = some M) (hD : (2 : Int) ≤ (D : Int) + 1) (hy : ly_hy m_tt ly_TH h) (p y z m w t : Int) (b0 : (-2147483648) ≤ p) (t0 : p ≤ 2147483647) (b1 : (-2147483648) ≤ y) (t1 : y ≤ 2147483647) (b2 : (-2147483648) ≤ z) (t2 : z ≤ 2147483647) (b3 : (-2147483648) ≤ m) (t3 : m ≤ 2147483647) (b4 : (-1) ≤ w) (t4 : w ≤ 2147483647) (b5 : 0 ≤ t) (t5 : t ≤ 300) (k0 : ly_hv cst h 1537 0 = some (t)) (l0 : hp_a l 0 22) (l1 : hp_i l 1 (p)) (l2 : hp_i l 2 (y)) (l3 : hp_i l 3 (z)) (l4 : hp_i l 4 (m)) (l5 : hp_i l 5 (w)) (l6 : hp_i l 6 (t)) (r0 : ∀ (h' : am_H) (y0 : Int32), y0.toInt = (m) → ly_hy m_tt ly_TH h' → ly_fr cst [] h h' → h.length ≤ h'.length → Φ (some (.int y0), h', 0, 0)) : hp_F cst strs Φ D M 9 l [] h := by
  refine hp_arc c hM xlf_k hD [p, y, z, m, w, t] rfl hy (hp_Bc (z := p) rfl b0 t0 (hp_Bc (z := y) rfl b1 t1 (hp_Bc (z := z) rfl b2 t2 (hp_Bc (z := m) rfl b3 t3 (hp_Bc (z := w) rfl b4 t4 (hp_Bc (z := t) rfl b5 t5 hp_Bn)))))) hp_Fn (hp_Kc (zi := (0 + 0)) (zv := (0 + (1 * t + 0))) k0 rfl rfl (by omega) (by omega) hp_Kn) (hp_La l0 (hp_Li (z := (0 + (1 * p + 0))) l1 rfl (by omega) (hp_Li (z := (0 + (1 * y + 0))) l2 rfl (by omega) (hp_Li (z := (0 + (1 * z + 0))) l3 rfl (by omega) (hp_Li (z := (0 + (1 * m + 0))) l4 rfl (by omega) (hp_Li (z := (0 + (1 * w + 0))) l5 rfl (by omega) (hp_Li (z := (0 + (1 * t + 0))) l6 rfl (by omega) hp_Ln))))))) trivial ?_ ?_
  · intro p hp ys l' st' h' hys a1 a2 a3 gZ gL gS
    cases hp
  · intro p hp ys v h' hys a1 a2 a3 gZ gS
    rcases List.mem_cons.mp hp with rfl | hp
    · obtain rfl := hp_y0 hys
      cases v with
      | none => cases gS
      | some w =>
        obtain ⟨y0, t0, s0, q0, -⟩ := hp_gSi (z := (0 + (1 * m + 0))) gS rfl
        cases s0
        exact r0 h' y0 (by omega) a1 a2 a3
    cases hp
theorem xm0_k : hp_chk 292 0 3 [(0, (-2147483648), 2147483647), (1, (-2147483648), 2147483647), (2, (-2147483648), 2147483647)] [] [(0, .inr (.inr (.inl (some 94)))), (1, .inl (0, [(0, 1)])), (2, .inl (0, [(1, 1)])), (3, .inl (0, [(2, 1)]))] [] [] [] 2 [(6, ([], 3, [(0, (-2147483648), 2147483647), (1, (-2147483648), 2147483647), (2, (-2147483648), 2147483647)], [], [(0, .inr (.inr (.inl (some 94)))), (1, .inl (0, [(0, 1)])), (2, .inl (0, [(1, 1)])), (3, .inl (0, [(2, 1)])), (4, .inl ((-1), [])), (5, .inl (0, []))], [], []))] [] = true := by decide +kernel
theorem xm0 {cst : am_K} {strs : List Nat} {Φ : am_Q → Prop} {D : Nat} {M : am_M} {h : am_H} {l : am_L} (c : hp_C cst strs D) (hM : m_P[292]? = some M) (hD : (2 : Int) ≤ (D : Int) + 1) (hy : ly_hy m_tt ly_TH h) (p y z : Int) (b0 : (-2147483648) ≤ p) (t0 : p ≤ 2147483647) (b1 : (-2147483648) ≤ y) (t1 : y ≤ 2147483647) (b2 : (-2147483648) ≤ z) (t2 : z ≤ 2147483647) (l0 : hp_a l 0 94) (l1 : hp_i l 1 (p)) (l2 : hp_i l 2 (y)) (l3 : hp_i l 3 (z)) (e0 : ∀ (l' : am_L) (h' : am_H), ly_hy m_tt ly_TH h' → ly_fr cst [] h h' → h.length ≤ h'.length → hp_a l' 0 94 → hp_i l' 1 (p) → hp_i l' 2 (y) → hp_i l' 3 (z) → hp_i l' 4 (-1) → hp_i l' 5 0 → hp_F cst strs Φ D M 6 l' [] h') : hp_F cst strs Φ D M 0 l [] h := by
  refine hp_arc c hM xm0_k hD [p, y, z] rfl hy (hp_Bc (z := p) rfl b0 t0 (hp_Bc (z := y) rfl b1 t1 (hp_Bc (z := z) rfl b2 t2 hp_Bn))) hp_Fn hp_Kn (hp_La l0 (hp_Li (z := (0 + (1 * p + 0))) l1 rfl (by omega) (hp_Li (z := (0 + (1 * y + 0))) l2 rfl (by omega) (hp_Li (z := (0 + (1 * z + 0))) l3 rfl (by omega) hp_Ln)))) trivial ?_ ?_
  · intro p hp ys l' st' h' hys a1 a2 a3 gZ gL gS
    rcases List.mem_cons.mp hp with rfl | hp
    · obtain rfl := hp_y0 hys
      cases hp_gSn gS
      exact e0 l' h' a1 a2 a3 (hp_gLa gL (List.mem_of_getElem? (i := 0) rfl) (by decide)) (hp_gLi (z := (0 + (1 * p + 0))) gL (List.mem_of_getElem? (i := 1) rfl) rfl (by omega)) (hp_gLi (z := (0 + (1 * y + 0))) gL (List.mem_of_getElem? (i := 2) rfl) rfl (by omega)) (hp_gLi (z := (0 + (1 * z + 0))) gL (List.mem_of_getElem? (i := 3) rfl) rfl (by omega)) (hp_gLi (z := ((-1) + 0)) gL (List.mem_of_getElem? (i := 4) rfl) rfl (by omega)) (hp_gLi (z := (0 + 0)) gL (List.mem_of_getElem? (i := 5) rfl) rfl (by omega))
    cases hp
  · intro p hp ys v h' hys a1 a2 a3 gZ gS
    cases hp
theorem xma_k : hp_chk 292 6 7 [(0, (-2147483648), 2147483647), (1, (-2147483648), 2147483647), (2, (-2147483648), 2147483647), (3, 0, 300), (4, 0, 299), (5, (-2147483648), 2147483647), (6, (-2147483648), 2147483647)] [((-1), [(3, 1), (4, (-1))]), (0, [(2, 1), (5, (-1))]), (0, [(1, 1), (6, (-1))])] [(0, .inr (.inr (.inl (some 94)))), (1, .inl (0, [(0, 1)])), (2, .inl (0, [(1, 1)])), (3, .inl (0, [(2, 1)])), (4, .inl ((-1), [])), (5, .inl (0, [(4, 1)]))] [] [(19982, (0, []), (0, [(3, 1)])), (21248, (0, [(4, 1)]), (0, [])), (21504, (0, [(4, 1)]), (0, [(0, 1)])), (22528, (0, [(4, 1)]), (0, [(5, 1)])), (22272, (0, [(4, 1)]), (0, [(6, 1)]))] [] 2 [(6, ([], 7, [(0, (-2147483648), 2147483647), (1, (-2147483648), 2147483647), (2, (-2147483648), 2147483647), (3, 0, 300), (4, 0, 299), (5, (-2147483648), 2147483647), (6, (-2147483648), 2147483647)], [], [(0, .inr (.inr (.inl (some 94)))), (1, .inl (0, [(0, 1)])), (2, .inl (0, [(1, 1)])), (3, .inl (0, [(2, 1)])), (4, .inl (0, [(4, 1)])), (5, .inl (1, [(4, 1)]))], [], []))] [] = true := by decide +kernel
theorem xma {cst : am_K} {strs : List Nat} {Φ : am_Q → Prop} {D : Nat} {M : am_M} {h : am_H} {l : am_L} (c : hp_C cst strs D) (hM : m_P[292]? = some M) (hD : (2 : Int) ≤ (D : Int) + 1) (hy : ly_hy m_tt ly_TH h) (p y z t i c1 e1 : Int) (b0 : (-2147483648) ≤ p) (t0 : p ≤ 2147483647) (b1 : (-2147483648) ≤ y) (t1 : y ≤ 2147483647) (b2 : (-2147483648) ≤ z) (t2 : z ≤ 2147483647) (b3 : 0 ≤ t) (t3 : t ≤ 300) (b4 : 0 ≤ i) (t4 : i ≤ 299) (b5 : (-2147483648) ≤ c1) (t5 : c1 ≤ 2147483647) (b6 : (-2147483648) ≤ e1) (t6 : e1 ≤ 2147483647) (f0 : 0 ≤ (t - i - 1)) (f1 : 0 ≤ (z - c1)) (f2 : 0 ≤ (y - e1)) (k0 : ly_hv cst h 19982 0 = some (t)) (k1 : ly_hv cst h 21248 (i) = some 0) (k2 : ly_hv cst h 21504 (i) = some (p)) (k3 : ly_hv cst h 22528 (i) = some (c1)) (k4 : ly_hv cst h 22272 (i) = some (e1)) (l0 : hp_a l 0 94) (l1 : hp_i l 1 (p)) (l2 : hp_i l 2 (y)) (l3 : hp_i l 3 (z)) (l4 : hp_i l 4 (-1)) (l5 : hp_i l 5 (i)) (e0 : ∀ (l' : am_L) (h' : am_H), ly_hy m_tt ly_TH h' → ly_fr cst [] h h' → h.length ≤ h'.length → hp_a l' 0 94 → hp_i l' 1 (p) → hp_i l' 2 (y) → hp_i l' 3 (z) → hp_i l' 4 (i) → hp_i l' 5 (i + 1) → hp_F cst strs Φ D M 6 l' [] h') : hp_F cst strs Φ D M 6 l [] h := by
  refine hp_arc c hM xma_k hD [p, y, z, t, i, c1, e1] rfl hy (hp_Bc (z := p) rfl b0 t0 (hp_Bc (z := y) rfl b1 t1 (hp_Bc (z := z) rfl b2 t2 (hp_Bc (z := t) rfl b3 t3 (hp_Bc (z := i) rfl b4 t4 (hp_Bc (z := c1) rfl b5 t5 (hp_Bc (z := e1) rfl b6 t6 hp_Bn))))))) (hp_Fc (z := ((-1) + (1 * t + ((-1) * i + 0)))) rfl (by omega) (hp_Fc (z := (0 + (1 * z + ((-1) * c1 + 0)))) rfl (by omega) (hp_Fc (z := (0 + (1 * y + ((-1) * e1 + 0)))) rfl (by omega) hp_Fn))) (hp_Kc (zi := (0 + 0)) (zv := (0 + (1 * t + 0))) k0 rfl rfl (by omega) (by omega) (hp_Kc (zi := (0 + (1 * i + 0))) (zv := (0 + 0)) k1 rfl rfl (by omega) (by omega) (hp_Kc (zi := (0 + (1 * i + 0))) (zv := (0 + (1 * p + 0))) k2 rfl rfl (by omega) (by omega) (hp_Kc (zi := (0 + (1 * i + 0))) (zv := (0 + (1 * c1 + 0))) k3 rfl rfl (by omega) (by omega) (hp_Kc (zi := (0 + (1 * i + 0))) (zv := (0 + (1 * e1 + 0))) k4 rfl rfl (by omega) (by omega) hp_Kn))))) (hp_La l0 (hp_Li (z := (0 + (1 * p + 0))) l1 rfl (by omega) (hp_Li (z := (0 + (1 * y + 0))) l2 rfl (by omega) (hp_Li (z := (0 + (1 * z + 0))) l3 rfl (by omega) (hp_Li (z := ((-1) + 0)) l4 rfl (by omega) (hp_Li (z := (0 + (1 * i + 0))) l5 rfl (by omega) hp_Ln)))))) trivial ?_ ?_
  · intro p hp ys l' st' h' hys a1 a2 a3 gZ gL gS
    rcases List.mem_cons.mp hp with rfl | hp
    · obtain rfl := hp_y0 hys
      cases hp_gSn gS
      exact e0 l' h' a1 a2 a3 (hp_gLa gL (List.mem_of_getElem? (i := 0) rfl) (by decide)) (hp_gLi (z := (0 + (1 * p + 0))) gL (List.mem_of_getElem? (i := 1) rfl) rfl (by omega)) (hp_gLi (z := (0 + (1 * y + 0))) gL (List.mem_of_getElem? (i := 2) rfl) rfl (by omega)) (hp_gLi (z := (0 + (1 * z + 0))) gL (List.mem_of_getElem? (i := 3) rfl) rfl (by omega)) (hp_gLi (z := (0 + (1 * i + 0))) gL (List.mem_of_getElem? (i := 4) rfl) rfl (by omega)) (hp_gLi (z := (1 + (1 * i + 0))) gL (List.mem_of_getElem? (i := 5) rfl) rfl (by omega))
    cases hp
  · intro p hp ys v h' hys a1 a2 a3 gZ gS
    cases hp
theorem xmh_k : hp_chk 292 6 9 [(0, (-2147483648), 2147483647), (1, (-2147483648), 2147483647), (2, (-2147483648), 2147483647), (3, 0, 299), (4, 0, 300), (5, 0, 299), (6, (-2147483648), 2147483647), (7, (-2147483648), 2147483647), (8, (-2147483648), 2147483647)] [((-1), [(4, 1), (5, (-1))]), (0, [(2, 1), (6, (-1))]), (0, [(1, 1), (7, (-1))]), (0, [(7, 1), (8, (-1))])] [(0, .inr (.inr (.inl (some 94)))), (1, .inl (0, [(0, 1)])), (2, .inl (0, [(1, 1)])), (3, .inl (0, [(2, 1)])), (4, .inl (0, [(3, 1)])), (5, .inl (0, [(5, 1)]))] [] [(19982, (0, []), (0, [(4, 1)])), (21248, (0, [(5, 1)]), (0, [])), (21504, (0, [(5, 1)]), (0, [(0, 1)])), (22528, (0, [(5, 1)]), (0, [(6, 1)])), (22272, (0, [(5, 1)]), (0, [(7, 1)])), (22272, (0, [(3, 1)]), (0, [(8, 1)]))] [] 2 [(6, ([], 9, [(0, (-2147483648), 2147483647), (1, (-2147483648), 2147483647), (2, (-2147483648), 2147483647), (3, 0, 299), (4, 0, 300), (5, 0, 299), (6, (-2147483648), 2147483647), (7, (-2147483648), 2147483647), (8, (-2147483648), 2147483647)], [], [(0, .inr (.inr (.inl (some 94)))), (1, .inl (0, [(0, 1)])), (2, .inl (0, [(1, 1)])), (3, .inl (0, [(2, 1)])), (4, .inl (0, [(5, 1)])), (5, .inl (1, [(5, 1)]))], [], []))] [] = true := by decide +kernel
theorem xmh {cst : am_K} {strs : List Nat} {Φ : am_Q → Prop} {D : Nat} {M : am_M} {h : am_H} {l : am_L} (c : hp_C cst strs D) (hM : m_P[292]? = some M) (hD : (2 : Int) ≤ (D : Int) + 1) (hy : ly_hy m_tt ly_TH h) (p y z b t i c1 e1 e2 : Int) (b0 : (-2147483648) ≤ p) (t0 : p ≤ 2147483647) (b1 : (-2147483648) ≤ y) (t1 : y ≤ 2147483647) (b2 : (-2147483648) ≤ z) (t2 : z ≤ 2147483647) (b3 : 0 ≤ b) (t3 : b ≤ 299) (b4 : 0 ≤ t) (t4 : t ≤ 300) (b5 : 0 ≤ i) (t5 : i ≤ 299) (b6 : (-2147483648) ≤ c1) (t6 : c1 ≤ 2147483647) (b7 : (-2147483648) ≤ e1) (t7 : e1 ≤ 2147483647) (b8 : (-2147483648) ≤ e2) (t8 : e2 ≤ 2147483647) (f0 : 0 ≤ (t - i - 1)) (f1 : 0 ≤ (z - c1)) (f2 : 0 ≤ (y - e1)) (f3 : 0 ≤ (e1 - e2)) (k0 : ly_hv cst h 19982 0 = some (t)) (k1 : ly_hv cst h 21248 (i) = some 0) (k2 : ly_hv cst h 21504 (i) = some (p)) (k3 : ly_hv cst h 22528 (i) = some (c1)) (k4 : ly_hv cst h 22272 (i) = some (e1)) (k5 : ly_hv cst h 22272 (b) = some (e2)) (l0 : hp_a l 0 94) (l1 : hp_i l 1 (p)) (l2 : hp_i l 2 (y)) (l3 : hp_i l 3 (z)) (l4 : hp_i l 4 (b)) (l5 : hp_i l 5 (i)) (e0 : ∀ (l' : am_L) (h' : am_H), ly_hy m_tt ly_TH h' → ly_fr cst [] h h' → h.length ≤ h'.length → hp_a l' 0 94 → hp_i l' 1 (p) → hp_i l' 2 (y) → hp_i l' 3 (z) → hp_i l' 4 (i) → hp_i l' 5 (i + 1) → hp_F cst strs Φ D M 6 l' [] h') : hp_F cst strs Φ D M 6 l [] h := by
  refine hp_arc c hM xmh_k hD [p, y, z, b, t, i, c1, e1, e2] rfl hy (hp_Bc (z := p) rfl b0 t0 (hp_Bc (z := y) rfl b1 t1 (hp_Bc (z := z) rfl b2 t2 (hp_Bc (z := b) rfl b3 t3 (hp_Bc (z := t) rfl b4 t4 (hp_Bc (z := i) rfl b5 t5 (hp_Bc (z := c1) rfl b6 t6 (hp_Bc (z := e1) rfl b7 t7 (hp_Bc (z := e2) rfl b8 t8 hp_Bn))))))))) (hp_Fc (z := ((-1) + (1 * t + ((-1) * i + 0)))) rfl (by omega) (hp_Fc (z := (0 + (1 * z + ((-1) * c1 + 0)))) rfl (by omega) (hp_Fc (z := (0 + (1 * y + ((-1) * e1 + 0)))) rfl (by omega) (hp_Fc (z := (0 + (1 * e1 + ((-1) * e2 + 0)))) rfl (by omega) hp_Fn)))) (hp_Kc (zi := (0 + 0)) (zv := (0 + (1 * t + 0))) k0 rfl rfl (by omega) (by omega) (hp_Kc (zi := (0 + (1 * i + 0))) (zv := (0 + 0)) k1 rfl rfl (by omega) (by omega) (hp_Kc (zi := (0 + (1 * i + 0))) (zv := (0 + (1 * p + 0))) k2 rfl rfl (by omega) (by omega) (hp_Kc (zi := (0 + (1 * i + 0))) (zv := (0 + (1 * c1 + 0))) k3 rfl rfl (by omega) (by omega) (hp_Kc (zi := (0 + (1 * i + 0))) (zv := (0 + (1 * e1 + 0))) k4 rfl rfl (by omega) (by omega) (hp_Kc (zi := (0 + (1 * b + 0))) (zv := (0 + (1 * e2 + 0))) k5 rfl rfl (by omega) (by omega) hp_Kn)))))) (hp_La l0 (hp_Li (z := (0 + (1 * p + 0))) l1 rfl (by omega) (hp_Li (z := (0 + (1 * y + 0))) l2 rfl (by omega) (hp_Li (z := (0 + (1 * z + 0))) l3 rfl (by omega) (hp_Li (z := (0 + (1 * b + 0))) l4 rfl (by omega) (hp_Li (z := (0 + (1 * i + 0))) l5 rfl (by omega) hp_Ln)))))) trivial ?_ ?_
  · intro p hp ys l' st' h' hys a1 a2 a3 gZ gL gS
    rcases List.mem_cons.mp hp with rfl | hp
    · obtain rfl := hp_y0 hys
      cases hp_gSn gS
      exact e0 l' h' a1 a2 a3 (hp_gLa gL (List.mem_of_getElem? (i := 0) rfl) (by decide)) (hp_gLi (z := (0 + (1 * p + 0))) gL (List.mem_of_getElem? (i := 1) rfl) rfl (by omega)) (hp_gLi (z := (0 + (1 * y + 0))) gL (List.mem_of_getElem? (i := 2) rfl) rfl (by omega)) (hp_gLi (z := (0 + (1 * z + 0))) gL (List.mem_of_getElem? (i := 3) rfl) rfl (by omega)) (hp_gLi (z := (0 + (1 * i + 0))) gL (List.mem_of_getElem? (i := 4) rfl) rfl (by omega)) (hp_gLi (z := (1 + (1 * i + 0))) gL (List.mem_of_getElem? (i := 5) rfl) rfl (by omega))
    cases hp
  · intro p hp ys v h' hys a1 a2 a3 gZ gS
    cases hp
theorem xmg_k : hp_chk 292 6 9 [(0, (-2147483648), 2147483647), (1, (-2147483648), 2147483647), (2, (-2147483648), 2147483647), (3, 0, 299), (4, 0, 300), (5, 0, 299), (6, (-2147483648), 2147483647), (7, (-2147483648), 2147483647), (8, (-2147483648), 2147483647)] [((-1), [(4, 1), (5, (-1))]), (0, [(2, 1), (6, (-1))]), (0, [(1, 1), (7, (-1))]), ((-1), [(7, (-1)), (8, 1)])] [(0, .inr (.inr (.inl (some 94)))), (1, .inl (0, [(0, 1)])), (2, .inl (0, [(1, 1)])), (3, .inl (0, [(2, 1)])), (4, .inl (0, [(3, 1)])), (5, .inl (0, [(5, 1)]))] [] [(19982, (0, []), (0, [(4, 1)])), (21248, (0, [(5, 1)]), (0, [])), (21504, (0, [(5, 1)]), (0, [(0, 1)])), (22528, (0, [(5, 1)]), (0, [(6, 1)])), (22272, (0, [(5, 1)]), (0, [(7, 1)])), (22272, (0, [(3, 1)]), (0, [(8, 1)]))] [] 2 [(6, ([], 9, [(0, (-2147483648), 2147483647), (1, (-2147483648), 2147483647), (2, (-2147483648), 2147483647), (3, 0, 299), (4, 0, 300), (5, 0, 299), (6, (-2147483648), 2147483647), (7, (-2147483648), 2147483647), (8, (-2147483648), 2147483647)], [], [(0, .inr (.inr (.inl (some 94)))), (1, .inl (0, [(0, 1)])), (2, .inl (0, [(1, 1)])), (3, .inl (0, [(2, 1)])), (4, .inl (0, [(3, 1)])), (5, .inl (1, [(5, 1)]))], [], []))] [] = true := by decide +kernel
theorem xmg {cst : am_K} {strs : List Nat} {Φ : am_Q → Prop} {D : Nat} {M : am_M} {h : am_H} {l : am_L} (c : hp_C cst strs D) (hM : m_P[292]? = some M) (hD : (2 : Int) ≤ (D : Int) + 1) (hy : ly_hy m_tt ly_TH h) (p y z b t i c1 e1 e2 : Int) (b0 : (-2147483648) ≤ p) (t0 : p ≤ 2147483647) (b1 : (-2147483648) ≤ y) (t1 : y ≤ 2147483647) (b2 : (-2147483648) ≤ z) (t2 : z ≤ 2147483647) (b3 : 0 ≤ b) (t3 : b ≤ 299) (b4 : 0 ≤ t) (t4 : t ≤ 300) (b5 : 0 ≤ i) (t5 : i ≤ 299) (b6 : (-2147483648) ≤ c1) (t6 : c1 ≤ 2147483647) (b7 : (-2147483648) ≤ e1) (t7 : e1 ≤ 2147483647) (b8 : (-2147483648) ≤ e2) (t8 : e2 ≤ 2147483647) (f0 : 0 ≤ (t - i - 1)) (f1 : 0 ≤ (z - c1)) (f2 : 0 ≤ (y - e1)) (f3 : 0 ≤ (e2 - e1 - 1)) (k0 : ly_hv cst h 19982 0 = some (t)) (k1 : ly_hv cst h 21248 (i) = some 0) (k2 : ly_hv cst h 21504 (i) = some (p)) (k3 : ly_hv cst h 22528 (i) = some (c1)) (k4 : ly_hv cst h 22272 (i) = some (e1)) (k5 : ly_hv cst h 22272 (b) = some (e2)) (l0 : hp_a l 0 94) (l1 : hp_i l 1 (p)) (l2 : hp_i l 2 (y)) (l3 : hp_i l 3 (z)) (l4 : hp_i l 4 (b)) (l5 : hp_i l 5 (i)) (e0 : ∀ (l' : am_L) (h' : am_H), ly_hy m_tt ly_TH h' → ly_fr cst [] h h' → h.length ≤ h'.length → hp_a l' 0 94 → hp_i l' 1 (p) → hp_i l' 2 (y) → hp_i l' 3 (z) → hp_i l' 4 (b) → hp_i l' 5 (i + 1) → hp_F cst strs Φ D M 6 l' [] h') : hp_F cst strs Φ D M 6 l [] h := by
  refine hp_arc c hM xmg_k hD [p, y, z, b, t, i, c1, e1, e2] rfl hy (hp_Bc (z := p) rfl b0 t0 (hp_Bc (z := y) rfl b1 t1 (hp_Bc (z := z) rfl b2 t2 (hp_Bc (z := b) rfl b3 t3 (hp_Bc (z := t) rfl b4 t4 (hp_Bc (z := i) rfl b5 t5 (hp_Bc (z := c1) rfl b6 t6 (hp_Bc (z := e1) rfl b7 t7 (hp_Bc (z := e2) rfl b8 t8 hp_Bn))))))))) (hp_Fc (z := ((-1) + (1 * t + ((-1) * i + 0)))) rfl (by omega) (hp_Fc (z := (0 + (1 * z + ((-1) * c1 + 0)))) rfl (by omega) (hp_Fc (z := (0 + (1 * y + ((-1) * e1 + 0)))) rfl (by omega) (hp_Fc (z := ((-1) + ((-1) * e1 + (1 * e2 + 0)))) rfl (by omega) hp_Fn)))) (hp_Kc (zi := (0 + 0)) (zv := (0 + (1 * t + 0))) k0 rfl rfl (by omega) (by omega) (hp_Kc (zi := (0 + (1 * i + 0))) (zv := (0 + 0)) k1 rfl rfl (by omega) (by omega) (hp_Kc (zi := (0 + (1 * i + 0))) (zv := (0 + (1 * p + 0))) k2 rfl rfl (by omega) (by omega) (hp_Kc (zi := (0 + (1 * i + 0))) (zv := (0 + (1 * c1 + 0))) k3 rfl rfl (by omega) (by omega) (hp_Kc (zi := (0 + (1 * i + 0))) (zv := (0 + (1 * e1 + 0))) k4 rfl rfl (by omega) (by omega) (hp_Kc (zi := (0 + (1 * b + 0))) (zv := (0 + (1 * e2 + 0))) k5 rfl rfl (by omega) (by omega) hp_Kn)))))) (hp_La l0 (hp_Li (z := (0 + (1 * p + 0))) l1 rfl (by omega) (hp_Li (z := (0 + (1 * y + 0))) l2 rfl (by omega) (hp_Li (z := (0 + (1 * z + 0))) l3 rfl (by omega) (hp_Li (z := (0 + (1 * b + 0))) l4 rfl (by omega) (hp_Li (z := (0 + (1 * i + 0))) l5 rfl (by omega) hp_Ln)))))) trivial ?_ ?_
  · intro p hp ys l' st' h' hys a1 a2 a3 gZ gL gS
    rcases List.mem_cons.mp hp with rfl | hp
    · obtain rfl := hp_y0 hys
      cases hp_gSn gS
      exact e0 l' h' a1 a2 a3 (hp_gLa gL (List.mem_of_getElem? (i := 0) rfl) (by decide)) (hp_gLi (z := (0 + (1 * p + 0))) gL (List.mem_of_getElem? (i := 1) rfl) rfl (by omega)) (hp_gLi (z := (0 + (1 * y + 0))) gL (List.mem_of_getElem? (i := 2) rfl) rfl (by omega)) (hp_gLi (z := (0 + (1 * z + 0))) gL (List.mem_of_getElem? (i := 3) rfl) rfl (by omega)) (hp_gLi (z := (0 + (1 * b + 0))) gL (List.mem_of_getElem? (i := 4) rfl) rfl (by omega)) (hp_gLi (z := (1 + (1 * i + 0))) gL (List.mem_of_getElem? (i := 5) rfl) rfl (by omega))
    cases hp
  · intro p hp ys v h' hys a1 a2 a3 gZ gS
    cases hp
theorem xmb_k : hp_chk 292 6 7 [(0, (-2147483648), 2147483647), (1, (-2147483648), 2147483647), (2, (-2147483648), 2147483647), (3, (-1), 299), (4, 0, 300), (5, 0, 299), (6, (-2147483648), 2147483647)] [((-1), [(4, 1), (5, (-1))])] [(0, .inr (.inr (.inl (some 94)))), (1, .inl (0, [(0, 1)])), (2, .inl (0, [(1, 1)])), (3, .inl (0, [(2, 1)])), (4, .inl (0, [(3, 1)])), (5, .inl (0, [(5, 1)]))] [] [(19982, (0, []), (0, [(4, 1)])), (21248, (0, [(5, 1)]), (0, [(6, 1)])), (61000, (0, [(6, 1)]), (1, []))] [] 2 [(6, ([], 7, [(0, (-2147483648), 2147483647), (1, (-2147483648), 2147483647), (2, (-2147483648), 2147483647), (3, (-1), 299), (4, 0, 300), (5, 0, 299), (6, (-2147483648), 2147483647)], [], [(0, .inr (.inr (.inl (some 94)))), (1, .inl (0, [(0, 1)])), (2, .inl (0, [(1, 1)])), (3, .inl (0, [(2, 1)])), (4, .inl (0, [(3, 1)])), (5, .inl (1, [(5, 1)]))], [], []))] [] = true := by decide +kernel
theorem xmb {cst : am_K} {strs : List Nat} {Φ : am_Q → Prop} {D : Nat} {M : am_M} {h : am_H} {l : am_L} (c : hp_C cst strs D) (hM : m_P[292]? = some M) (hD : (2 : Int) ≤ (D : Int) + 1) (hy : ly_hy m_tt ly_TH h) (p y z b t i a : Int) (b0 : (-2147483648) ≤ p) (t0 : p ≤ 2147483647) (b1 : (-2147483648) ≤ y) (t1 : y ≤ 2147483647) (b2 : (-2147483648) ≤ z) (t2 : z ≤ 2147483647) (b3 : (-1) ≤ b) (t3 : b ≤ 299) (b4 : 0 ≤ t) (t4 : t ≤ 300) (b5 : 0 ≤ i) (t5 : i ≤ 299) (b6 : (-2147483648) ≤ a) (t6 : a ≤ 2147483647) (f0 : 0 ≤ (t - i - 1)) (k0 : ly_hv cst h 19982 0 = some (t)) (k1 : ly_hv cst h 21248 (i) = some (a)) (k2 : ly_hv cst h 61000 (a) = some 1) (l0 : hp_a l 0 94) (l1 : hp_i l 1 (p)) (l2 : hp_i l 2 (y)) (l3 : hp_i l 3 (z)) (l4 : hp_i l 4 (b)) (l5 : hp_i l 5 (i)) (e0 : ∀ (l' : am_L) (h' : am_H), ly_hy m_tt ly_TH h' → ly_fr cst [] h h' → h.length ≤ h'.length → hp_a l' 0 94 → hp_i l' 1 (p) → hp_i l' 2 (y) → hp_i l' 3 (z) → hp_i l' 4 (b) → hp_i l' 5 (i + 1) → hp_F cst strs Φ D M 6 l' [] h') : hp_F cst strs Φ D M 6 l [] h := by
  refine hp_arc c hM xmb_k hD [p, y, z, b, t, i, a] rfl hy (hp_Bc (z := p) rfl b0 t0 (hp_Bc (z := y) rfl b1 t1 (hp_Bc (z := z) rfl b2 t2 (hp_Bc (z := b) rfl b3 t3 (hp_Bc (z := t) rfl b4 t4 (hp_Bc (z := i) rfl b5 t5 (hp_Bc (z := a) rfl b6 t6 hp_Bn))))))) (hp_Fc (z := ((-1) + (1 * t + ((-1) * i + 0)))) rfl (by omega) hp_Fn) (hp_Kc (zi := (0 + 0)) (zv := (0 + (1 * t + 0))) k0 rfl rfl (by omega) (by omega) (hp_Kc (zi := (0 + (1 * i + 0))) (zv := (0 + (1 * a + 0))) k1 rfl rfl (by omega) (by omega) (hp_Kc (zi := (0 + (1 * a + 0))) (zv := (1 + 0)) k2 rfl rfl (by omega) (by omega) hp_Kn))) (hp_La l0 (hp_Li (z := (0 + (1 * p + 0))) l1 rfl (by omega) (hp_Li (z := (0 + (1 * y + 0))) l2 rfl (by omega) (hp_Li (z := (0 + (1 * z + 0))) l3 rfl (by omega) (hp_Li (z := (0 + (1 * b + 0))) l4 rfl (by omega) (hp_Li (z := (0 + (1 * i + 0))) l5 rfl (by omega) hp_Ln)))))) trivial ?_ ?_
  · intro p hp ys l' st' h' hys a1 a2 a3 gZ gL gS
    rcases List.mem_cons.mp hp with rfl | hp
    · obtain rfl := hp_y0 hys
      cases hp_gSn gS
      exact e0 l' h' a1 a2 a3 (hp_gLa gL (List.mem_of_getElem? (i := 0) rfl) (by decide)) (hp_gLi (z := (0 + (1 * p + 0))) gL (List.mem_of_getElem? (i := 1) rfl) rfl (by omega)) (hp_gLi (z := (0 + (1 * y + 0))) gL (List.mem_of_getElem? (i := 2) rfl) rfl (by omega)) (hp_gLi (z := (0 + (1 * z + 0))) gL (List.mem_of_getElem? (i := 3) rfl) rfl (by omega)) (hp_gLi (z := (0 + (1 * b + 0))) gL (List.mem_of_getElem? (i := 4) rfl) rfl (by omega)) (hp_gLi (z := (1 + (1 * i + 0))) gL (List.mem_of_getElem? (i := 5) rfl) rfl (by omega))
    cases hp
  · intro p hp ys v h' hys a1 a2 a3 gZ gS
    cases hp
theorem xmc_k : hp_chk 292 6 7 [(0, (-2147483648), 2147483647), (1, (-2147483648), 2147483647), (2, (-2147483648), 2147483647), (3, (-1), 299), (4, 0, 300), (5, 0, 299), (6, (-2147483648), 2147483647)] [((-1), [(4, 1), (5, (-1))])] [(0, .inr (.inr (.inl (some 94)))), (1, .inl (0, [(0, 1)])), (2, .inl (0, [(1, 1)])), (3, .inl (0, [(2, 1)])), (4, .inl (0, [(3, 1)])), (5, .inl (0, [(5, 1)]))] [] [(19982, (0, []), (0, [(4, 1)])), (21248, (0, [(5, 1)]), (0, [])), (21504, (0, [(5, 1)]), (0, [(6, 1)])), (61000, (0, [(0, (-1)), (6, 1)]), (1, []))] [] 2 [(6, ([], 7, [(0, (-2147483648), 2147483647), (1, (-2147483648), 2147483647), (2, (-2147483648), 2147483647), (3, (-1), 299), (4, 0, 300), (5, 0, 299), (6, (-2147483648), 2147483647)], [], [(0, .inr (.inr (.inl (some 94)))), (1, .inl (0, [(0, 1)])), (2, .inl (0, [(1, 1)])), (3, .inl (0, [(2, 1)])), (4, .inl (0, [(3, 1)])), (5, .inl (1, [(5, 1)]))], [], []))] [] = true := by decide +kernel
theorem xmc {cst : am_K} {strs : List Nat} {Φ : am_Q → Prop} {D : Nat} {M : am_M} {h : am_H} {l : am_L} (c : hp_C cst strs D) (hM : m_P[292]? = some M) (hD : (2 : Int) ≤ (D : Int) + 1) (hy : ly_hy m_tt ly_TH h) (p y z b t i a : Int) (b0 : (-2147483648) ≤ p) (t0 : p ≤ 2147483647) (b1 : (-2147483648) ≤ y) (t1 : y ≤ 2147483647) (b2 : (-2147483648) ≤ z) (t2 : z ≤ 2147483647) (b3 : (-1) ≤ b) (t3 : b ≤ 299) (b4 : 0 ≤ t) (t4 : t ≤ 300) (b5 : 0 ≤ i) (t5 : i ≤ 299) (b6 : (-2147483648) ≤ a) (t6 : a ≤ 2147483647) (f0 : 0 ≤ (t - i - 1)) (k0 : ly_hv cst h 19982 0 = some (t)) (k1 : ly_hv cst h 21248 (i) = some 0) (k2 : ly_hv cst h 21504 (i) = some (a)) (k3 : ly_hv cst h 61000 (a - p) = some 1) (l0 : hp_a l 0 94) (l1 : hp_i l 1 (p)) (l2 : hp_i l 2 (y)) (l3 : hp_i l 3 (z)) (l4 : hp_i l 4 (b)) (l5 : hp_i l 5 (i)) (e0 : ∀ (l' : am_L) (h' : am_H), ly_hy m_tt ly_TH h' → ly_fr cst [] h h' → h.length ≤ h'.length → hp_a l' 0 94 → hp_i l' 1 (p) → hp_i l' 2 (y) → hp_i l' 3 (z) → hp_i l' 4 (b) → hp_i l' 5 (i + 1) → hp_F cst strs Φ D M 6 l' [] h') : hp_F cst strs Φ D M 6 l [] h := by
  refine hp_arc c hM xmc_k hD [p, y, z, b, t, i, a] rfl hy (hp_Bc (z := p) rfl b0 t0 (hp_Bc (z := y) rfl b1 t1 (hp_Bc (z := z) rfl b2 t2 (hp_Bc (z := b) rfl b3 t3 (hp_Bc (z := t) rfl b4 t4 (hp_Bc (z := i) rfl b5 t5 (hp_Bc (z := a) rfl b6 t6 hp_Bn))))))) (hp_Fc (z := ((-1) + (1 * t + ((-1) * i + 0)))) rfl (by omega) hp_Fn) (hp_Kc (zi := (0 + 0)) (zv := (0 + (1 * t + 0))) k0 rfl rfl (by omega) (by omega) (hp_Kc (zi := (0 + (1 * i + 0))) (zv := (0 + 0)) k1 rfl rfl (by omega) (by omega) (hp_Kc (zi := (0 + (1 * i + 0))) (zv := (0 + (1 * a + 0))) k2 rfl rfl (by omega) (by omega) (hp_Kc (zi := (0 + ((-1) * p + (1 * a + 0)))) (zv := (1 + 0)) k3 rfl rfl (by omega) (by omega) hp_Kn)))) (hp_La l0 (hp_Li (z := (0 + (1 * p + 0))) l1 rfl (by omega) (hp_Li (z := (0 + (1 * y + 0))) l2 rfl (by omega) (hp_Li (z := (0 + (1 * z + 0))) l3 rfl (by omega) (hp_Li (z := (0 + (1 * b + 0))) l4 rfl (by omega) (hp_Li (z := (0 + (1 * i + 0))) l5 rfl (by omega) hp_Ln)))))) trivial ?_ ?_
  · intro p hp ys l' st' h' hys a1 a2 a3 gZ gL gS
    rcases List.mem_cons.mp hp with rfl | hp
    · obtain rfl := hp_y0 hys
      cases hp_gSn gS
      exact e0 l' h' a1 a2 a3 (hp_gLa gL (List.mem_of_getElem? (i := 0) rfl) (by decide)) (hp_gLi (z := (0 + (1 * p + 0))) gL (List.mem_of_getElem? (i := 1) rfl) rfl (by omega)) (hp_gLi (z := (0 + (1 * y + 0))) gL (List.mem_of_getElem? (i := 2) rfl) rfl (by omega)) (hp_gLi (z := (0 + (1 * z + 0))) gL (List.mem_of_getElem? (i := 3) rfl) rfl (by omega)) (hp_gLi (z := (0 + (1 * b + 0))) gL (List.mem_of_getElem? (i := 4) rfl) rfl (by omega)) (hp_gLi (z := (1 + (1 * i + 0))) gL (List.mem_of_getElem? (i := 5) rfl) rfl (by omega))
    cases hp
  · intro p hp ys v h' hys a1 a2 a3 gZ gS
    cases hp
theorem xmd_k : hp_chk 292 6 7 [(0, (-2147483648), 2147483647), (1, (-2147483648), 2147483647), (2, (-2147483648), 2147483647), (3, (-1), 299), (4, 0, 300), (5, 0, 299), (6, (-2147483648), 2147483647)] [((-1), [(4, 1), (5, (-1))]), ((-1), [(2, (-1)), (6, 1)])] [(0, .inr (.inr (.inl (some 94)))), (1, .inl (0, [(0, 1)])), (2, .inl (0, [(1, 1)])), (3, .inl (0, [(2, 1)])), (4, .inl (0, [(3, 1)])), (5, .inl (0, [(5, 1)]))] [] [(19982, (0, []), (0, [(4, 1)])), (21248, (0, [(5, 1)]), (0, [])), (21504, (0, [(5, 1)]), (0, [(0, 1)])), (22528, (0, [(5, 1)]), (0, [(6, 1)]))] [] 2 [(6, ([], 7, [(0, (-2147483648), 2147483647), (1, (-2147483648), 2147483647), (2, (-2147483648), 2147483647), (3, (-1), 299), (4, 0, 300), (5, 0, 299), (6, (-2147483648), 2147483647)], [], [(0, .inr (.inr (.inl (some 94)))), (1, .inl (0, [(0, 1)])), (2, .inl (0, [(1, 1)])), (3, .inl (0, [(2, 1)])), (4, .inl (0, [(3, 1)])), (5, .inl (1, [(5, 1)]))], [], []))] [] = true := by decide +kernel
theorem xmd {cst : am_K} {strs : List Nat} {Φ : am_Q → Prop} {D : Nat} {M : am_M} {h : am_H} {l : am_L} (c : hp_C cst strs D) (hM : m_P[292]? = some M) (hD : (2 : Int) ≤ (D : Int) + 1) (hy : ly_hy m_tt ly_TH h) (p y z b t i c1 : Int) (b0 : (-2147483648) ≤ p) (t0 : p ≤ 2147483647) (b1 : (-2147483648) ≤ y) (t1 : y ≤ 2147483647) (b2 : (-2147483648) ≤ z) (t2 : z ≤ 2147483647) (b3 : (-1) ≤ b) (t3 : b ≤ 299) (b4 : 0 ≤ t) (t4 : t ≤ 300) (b5 : 0 ≤ i) (t5 : i ≤ 299) (b6 : (-2147483648) ≤ c1) (t6 : c1 ≤ 2147483647) (f0 : 0 ≤ (t - i - 1)) (f1 : 0 ≤ (c1 - z - 1)) (k0 : ly_hv cst h 19982 0 = some (t)) (k1 : ly_hv cst h 21248 (i) = some 0) (k2 : ly_hv cst h 21504 (i) = some (p)) (k3 : ly_hv cst h 22528 (i) = some (c1)) (l0 : hp_a l 0 94) (l1 : hp_i l 1 (p)) (l2 : hp_i l 2 (y)) (l3 : hp_i l 3 (z)) (l4 : hp_i l 4 (b)) (l5 : hp_i l 5 (i)) (e0 : ∀ (l' : am_L) (h' : am_H), ly_hy m_tt ly_TH h' → ly_fr cst [] h h' → h.length ≤ h'.length → hp_a l' 0 94 → hp_i l' 1 (p) → hp_i l' 2 (y) → hp_i l' 3 (z) → hp_i l' 4 (b) → hp_i l' 5 (i + 1) → hp_F cst strs Φ D M 6 l' [] h') : hp_F cst strs Φ D M 6 l [] h := by
  refine hp_arc c hM xmd_k hD [p, y, z, b, t, i, c1] rfl hy (hp_Bc (z := p) rfl b0 t0 (hp_Bc (z := y) rfl b1 t1 (hp_Bc (z := z) rfl b2 t2 (hp_Bc (z := b) rfl b3 t3 (hp_Bc (z := t) rfl b4 t4 (hp_Bc (z := i) rfl b5 t5 (hp_Bc (z := c1) rfl b6 t6 hp_Bn))))))) (hp_Fc (z := ((-1) + (1 * t + ((-1) * i + 0)))) rfl (by omega) (hp_Fc (z := ((-1) + ((-1) * z + (1 * c1 + 0)))) rfl (by omega) hp_Fn)) (hp_Kc (zi := (0 + 0)) (zv := (0 + (1 * t + 0))) k0 rfl rfl (by omega) (by omega) (hp_Kc (zi := (0 + (1 * i + 0))) (zv := (0 + 0)) k1 rfl rfl (by omega) (by omega) (hp_Kc (zi := (0 + (1 * i + 0))) (zv := (0 + (1 * p + 0))) k2 rfl rfl (by omega) (by omega) (hp_Kc (zi := (0 + (1 * i + 0))) (zv := (0 + (1 * c1 + 0))) k3 rfl rfl (by omega) (by omega) hp_Kn)))) (hp_La l0 (hp_Li (z := (0 + (1 * p + 0))) l1 rfl (by omega) (hp_Li (z := (0 + (1 * y + 0))) l2 rfl (by omega) (hp_Li (z := (0 + (1 * z + 0))) l3 rfl (by omega) (hp_Li (z := (0 + (1 * b + 0))) l4 rfl (by omega) (hp_Li (z := (0 + (1 * i + 0))) l5 rfl (by omega) hp_Ln)))))) trivial ?_ ?_
  · intro p hp ys l' st' h' hys a1 a2 a3 gZ gL gS
    rcases List.mem_cons.mp hp with rfl | hp
    · obtain rfl := hp_y0 hys
      cases hp_gSn gS
      exact e0 l' h' a1 a2 a3 (hp_gLa gL (List.mem_of_getElem? (i := 0) rfl) (by decide)) (hp_gLi (z := (0 + (1 * p + 0))) gL (List.mem_of_getElem? (i := 1) rfl) rfl (by omega)) (hp_gLi (z := (0 + (1 * y + 0))) gL (List.mem_of_getElem? (i := 2) rfl) rfl (by omega)) (hp_gLi (z := (0 + (1 * z + 0))) gL (List.mem_of_getElem? (i := 3) rfl) rfl (by omega)) (hp_gLi (z := (0 + (1 * b + 0))) gL (List.mem_of_getElem? (i := 4) rfl) rfl (by omega)) (hp_gLi (z := (1 + (1 * i + 0))) gL (List.mem_of_getElem? (i := 5) rfl) rfl (by omega))
    cases hp
  · intro p hp ys v h' hys a1 a2 a3 gZ gS
    cases hp
theorem xme_k : hp_chk 292 6 8 [(0, (-2147483648), 2147483647), (1, (-2147483648), 2147483647), (2, (-2147483648), 2147483647), (3, (-1), 299), (4, 0, 300), (5, 0, 299), (6, (-2147483648), 2147483647), (7, (-2147483648), 2147483647)] [((-1), [(4, 1), (5, (-1))]), (0, [(2, 1), (6, (-1))]), ((-1), [(1, (-1)), (7, 1)])] [(0, .inr (.inr (.inl (some 94)))), (1, .inl (0, [(0, 1)])), (2, .inl (0, [(1, 1)])), (3, .inl (0, [(2, 1)])), (4, .inl (0, [(3, 1)])), (5, .inl (0, [(5, 1)]))] [] [(19982, (0, []), (0, [(4, 1)])), (21248, (0, [(5, 1)]), (0, [])), (21504, (0, [(5, 1)]), (0, [(0, 1)])), (22528, (0, [(5, 1)]), (0, [(6, 1)])), (22272, (0, [(5, 1)]), (0, [(7, 1)]))] [] 2 [(6, ([], 8, [(0, (-2147483648), 2147483647), (1, (-2147483648), 2147483647), (2, (-2147483648), 2147483647), (3, (-1), 299), (4, 0, 300), (5, 0, 299), (6, (-2147483648), 2147483647), (7, (-2147483648), 2147483647)], [], [(0, .inr (.inr (.inl (some 94)))), (1, .inl (0, [(0, 1)])), (2, .inl (0, [(1, 1)])), (3, .inl (0, [(2, 1)])), (4, .inl (0, [(3, 1)])), (5, .inl (1, [(5, 1)]))], [], []))] [] = true := by decide +kernel
theorem xme {cst : am_K} {strs : List Nat} {Φ : am_Q → Prop} {D : Nat} {M : am_M} {h : am_H} {l : am_L} (c : hp_C cst strs D) (hM : m_P[292]? = some M) (hD : (2 : Int) ≤ (D : Int) + 1) (hy : ly_hy m_tt ly_TH h) (p y z b t i c1 e1 : Int) (b0 : (-2147483648) ≤ p) (t0 : p ≤ 2147483647) (b1 : (-2147483648) ≤ y) (t1 : y ≤ 2147483647) (b2 : (-2147483648) ≤ z) (t2 : z ≤ 2147483647) (b3 : (-1) ≤ b) (t3 : b ≤ 299) (b4 : 0 ≤ t) (t4 : t ≤ 300) (b5 : 0 ≤ i) (t5 : i ≤ 299) (b6 : (-2147483648) ≤ c1) (t6 : c1 ≤ 2147483647) (b7 : (-2147483648) ≤ e1) (t7 : e1 ≤ 2147483647) (f0 : 0 ≤ (t - i - 1)) (f1 : 0 ≤ (z - c1)) (f2 : 0 ≤ (e1 - y - 1)) (k0 : ly_hv cst h 19982 0 = some (t)) (k1 : ly_hv cst h 21248 (i) = some 0) (k2 : ly_hv cst h 21504 (i) = some (p)) (k3 : ly_hv cst h 22528 (i) = some (c1)) (k4 : ly_hv cst h 22272 (i) = some (e1)) (l0 : hp_a l 0 94) (l1 : hp_i l 1 (p)) (l2 : hp_i l 2 (y)) (l3 : hp_i l 3 (z)) (l4 : hp_i l 4 (b)) (l5 : hp_i l 5 (i)) (e0 : ∀ (l' : am_L) (h' : am_H), ly_hy m_tt ly_TH h' → ly_fr cst [] h h' → h.length ≤ h'.length → hp_a l' 0 94 → hp_i l' 1 (p) → hp_i l' 2 (y) → hp_i l' 3 (z) → hp_i l' 4 (b) → hp_i l' 5 (i + 1) → hp_F cst strs Φ D M 6 l' [] h') : hp_F cst strs Φ D M 6 l [] h := by
  refine hp_arc c hM xme_k hD [p, y, z, b, t, i, c1, e1] rfl hy (hp_Bc (z := p) rfl b0 t0 (hp_Bc (z := y) rfl b1 t1 (hp_Bc (z := z) rfl b2 t2 (hp_Bc (z := b) rfl b3 t3 (hp_Bc (z := t) rfl b4 t4 (hp_Bc (z := i) rfl b5 t5 (hp_Bc (z := c1) rfl b6 t6 (hp_Bc (z := e1) rfl b7 t7 hp_Bn)))))))) (hp_Fc (z := ((-1) + (1 * t + ((-1) * i + 0)))) rfl (by omega) (hp_Fc (z := (0 + (1 * z + ((-1) * c1 + 0)))) rfl (by omega) (hp_Fc (z := ((-1) + ((-1) * y + (1 * e1 + 0)))) rfl (by omega) hp_Fn))) (hp_Kc (zi := (0 + 0)) (zv := (0 + (1 * t + 0))) k0 rfl rfl (by omega) (by omega) (hp_Kc (zi := (0 + (1 * i + 0))) (zv := (0 + 0)) k1 rfl rfl (by omega) (by omega) (hp_Kc (zi := (0 + (1 * i + 0))) (zv := (0 + (1 * p + 0))) k2 rfl rfl (by omega) (by omega) (hp_Kc (zi := (0 + (1 * i + 0))) (zv := (0 + (1 * c1 + 0))) k3 rfl rfl (by omega) (by omega) (hp_Kc (zi := (0 + (1 * i + 0))) (zv := (0 + (1 * e1 + 0))) k4 rfl rfl (by omega) (by omega) hp_Kn))))) (hp_La l0 (hp_Li (z := (0 + (1 * p + 0))) l1 rfl (by omega) (hp_Li (z := (0 + (1 * y + 0))) l2 rfl (by omega) (hp_Li (z := (0 + (1 * z + 0))) l3 rfl (by omega) (hp_Li (z := (0 + (1 * b + 0))) l4 rfl (by omega) (hp_Li (z := (0 + (1 * i + 0))) l5 rfl (by omega) hp_Ln)))))) trivial ?_ ?_
  · intro p hp ys l' st' h' hys a1 a2 a3 gZ gL gS
    rcases List.mem_cons.mp hp with rfl | hp
    · obtain rfl := hp_y0 hys
      cases hp_gSn gS
      exact e0 l' h' a1 a2 a3 (hp_gLa gL (List.mem_of_getElem? (i := 0) rfl) (by decide)) (hp_gLi (z := (0 + (1 * p + 0))) gL (List.mem_of_getElem? (i := 1) rfl) rfl (by omega)) (hp_gLi (z := (0 + (1 * y + 0))) gL (List.mem_of_getElem? (i := 2) rfl) rfl (by omega)) (hp_gLi (z := (0 + (1 * z + 0))) gL (List.mem_of_getElem? (i := 3) rfl) rfl (by omega)) (hp_gLi (z := (0 + (1 * b + 0))) gL (List.mem_of_getElem? (i := 4) rfl) rfl (by omega)) (hp_gLi (z := (1 + (1 * i + 0))) gL (List.mem_of_getElem? (i := 5) rfl) rfl (by omega))
    cases hp
  · intro p hp ys v h' hys a1 a2 a3 gZ gS
    cases hp
theorem xmf_k : hp_chk 292 6 4 [(0, (-2147483648), 2147483647), (1, (-2147483648), 2147483647), (2, (-2147483648), 2147483647), (3, 0, 300)] [] [(0, .inr (.inr (.inl (some 94)))), (1, .inl (0, [(0, 1)])), (2, .inl (0, [(1, 1)])), (3, .inl (0, [(2, 1)])), (4, .inl ((-1), [])), (5, .inl (0, [(3, 1)]))] [] [(19982, (0, []), (0, [(3, 1)]))] [] 2 [] [([], 4, [(0, (-2147483648), 2147483647), (1, (-2147483648), 2147483647), (2, (-2147483648), 2147483647), (3, 0, 300)], [], [], [.inl (0, [])], [])] = true := by decide +kernel
theorem xmf {cst : am_K} {strs : List Nat} {Φ : am_Q → Prop} {D : Nat} {M : am_M} {h : am_H} {l : am_L} (c : hp_C cst strs D) (hM : m_P[292]? = some M) (hD : (2 : Int) ≤ (D : Int) + 1) (hy : ly_hy m_tt ly_TH h) (p y z t : Int) (b0 : (-2147483648) ≤ p) (t0 : p ≤ 2147483647) (b1 : (-2147483648) ≤ y) (t1 : y ≤ 2147483647) (b2 : (-2147483648) ≤ z) (t2 : z ≤ 2147483647) (b3 : 0 ≤ t) (t3 : t ≤ 300) (k0 : ly_hv cst h 19982 0 = some (t)) (l0 : hp_a l 0 94) (l1 : hp_i l 1 (p)) (l2 : hp_i l 2 (y)) (l3 : hp_i l 3 (z)) (l4 : hp_i l 4 (-1)) (l5 : hp_i l 5 (t)) (r0 : ∀ (h' : am_H) (y0 : Int32), y0.toInt = 0 → ly_hy m_tt ly_TH h' → ly_fr cst [] h h' → h.length ≤ h'.length → Φ (some (.int y0), h', 0, 0)) : hp_F cst strs Φ D M 6 l [] h := by
  refine hp_arc c hM xmf_k hD [p, y, z, t] rfl hy (hp_Bc (z := p) rfl b0 t0 (hp_Bc (z := y) rfl b1 t1 (hp_Bc (z := z) rfl b2 t2 (hp_Bc (z := t) rfl b3 t3 hp_Bn)))) hp_Fn (hp_Kc (zi := (0 + 0)) (zv := (0 + (1 * t + 0))) k0 rfl rfl (by omega) (by omega) hp_Kn) (hp_La l0 (hp_Li (z := (0 + (1 * p + 0))) l1 rfl (by omega) (hp_Li (z := (0 + (1 * y + 0))) l2 rfl (by omega) (hp_Li (z := (0 + (1 * z + 0))) l3 rfl (by omega) (hp_Li (z := ((-1) + 0)) l4 rfl (by omega) (hp_Li (z := (0 + (1 * t + 0))) l5 rfl (by omega) hp_Ln)))))) trivial ?_ ?_
  · intro p hp ys l' st' h' hys a1 a2 a3 gZ gL gS
    cases hp
  · intro p hp ys v h' hys a1 a2 a3 gZ gS
    rcases List.mem_cons.mp hp with rfl | hp
    · obtain rfl := hp_y0 hys
      cases v with
      | none => cases gS
      | some w =>
        obtain ⟨y0, t0, s0, q0, -⟩ := hp_gSi (z := (0 + 0)) gS rfl
        cases s0
        exact r0 h' y0 (by omega) a1 a2 a3
    cases hp
theorem xmi_k : hp_chk 292 6 6 [(0, (-2147483648), 2147483647), (1, (-2147483648), 2147483647), (2, (-2147483648), 2147483647), (3, 0, 299), (4, 0, 300), (5, (-2147483648), 2147483647)] [] [(0, .inr (.inr (.inl (some 94)))), (1, .inl (0, [(0, 1)])), (2, .inl (0, [(1, 1)])), (3, .inl (0, [(2, 1)])), (4, .inl (0, [(3, 1)])), (5, .inl (0, [(4, 1)]))] [] [(19982, (0, []), (0, [(4, 1)])), (22016, (0, [(3, 1)]), (0, [(5, 1)]))] [] 2 [] [([], 6, [(0, (-2147483648), 2147483647), (1, (-2147483648), 2147483647), (2, (-2147483648), 2147483647), (3, 0, 299), (4, 0, 300), (5, (-2147483648), 2147483647)], [], [], [.inl (0, [(5, 1)])], [])] = true := by decide +kernel
theorem xmi {cst : am_K} {strs : List Nat} {Φ : am_Q → Prop} {D : Nat} {M : am_M} {h : am_H} {l : am_L} (c : hp_C cst strs D) (hM : m_P[292]? = some M) (hD : (2 : Int) ≤ (D : Int) + 1) (hy : ly_hy m_tt ly_TH h) (p y z b t a : Int) (b0 : (-2147483648) ≤ p) (t0 : p ≤ 2147483647) (b1 : (-2147483648) ≤ y) (t1 : y ≤ 2147483647) (b2 : (-2147483648) ≤ z) (t2 : z ≤ 2147483647) (b3 : 0 ≤ b) (t3 : b ≤ 299) (b4 : 0 ≤ t) (t4 : t ≤ 300) (b5 : (-2147483648) ≤ a) (t5 : a ≤ 2147483647) (k0 : ly_hv cst h 19982 0 = some (t)) (k1 : ly_hv cst h 22016 (b) = some (a)) (l0 : hp_a l 0 94) (l1 : hp_i l 1 (p)) (l2 : hp_i l 2 (y)) (l3 : hp_i l 3 (z)) (l4 : hp_i l 4 (b)) (l5 : hp_i l 5 (t)) (r0 : ∀ (h' : am_H) (y0 : Int32), y0.toInt = (a) → ly_hy m_tt ly_TH h' → ly_fr cst [] h h' → h.length ≤ h'.length → Φ (some (.int y0), h', 0, 0)) : hp_F cst strs Φ D M 6 l [] h := by
  refine hp_arc c hM xmi_k hD [p, y, z, b, t, a] rfl hy (hp_Bc (z := p) rfl b0 t0 (hp_Bc (z := y) rfl b1 t1 (hp_Bc (z := z) rfl b2 t2 (hp_Bc (z := b) rfl b3 t3 (hp_Bc (z := t) rfl b4 t4 (hp_Bc (z := a) rfl b5 t5 hp_Bn)))))) hp_Fn (hp_Kc (zi := (0 + 0)) (zv := (0 + (1 * t + 0))) k0 rfl rfl (by omega) (by omega) (hp_Kc (zi := (0 + (1 * b + 0))) (zv := (0 + (1 * a + 0))) k1 rfl rfl (by omega) (by omega) hp_Kn)) (hp_La l0 (hp_Li (z := (0 + (1 * p + 0))) l1 rfl (by omega) (hp_Li (z := (0 + (1 * y + 0))) l2 rfl (by omega) (hp_Li (z := (0 + (1 * z + 0))) l3 rfl (by omega) (hp_Li (z := (0 + (1 * b + 0))) l4 rfl (by omega) (hp_Li (z := (0 + (1 * t + 0))) l5 rfl (by omega) hp_Ln)))))) trivial ?_ ?_
  · intro p hp ys l' st' h' hys a1 a2 a3 gZ gL gS
    cases hp
  · intro p hp ys v h' hys a1 a2 a3 gZ gS
    rcases List.mem_cons.mp hp with rfl | hp
    · obtain rfl := hp_y0 hys
      cases v with
      | none => cases gS
      | some w =>
        obtain ⟨y0, t0, s0, q0, -⟩ := hp_gSi (z := (0 + (1 * a + 0))) gS rfl
        cases s0
        exact r0 h' y0 (by omega) a1 a2 a3
    cases hp
theorem xlo0_k : hp_chk 65 0 4 [(0, (-2147483648), (-1)), (1, (-2147483648), 2147483647), (2, (-2147483648), 2147483647), (3, 0, 120)] [] [(0, .inr (.inr (.inl (some 16)))), (1, .inl (0, [(0, 1)])), (2, .inl (0, [(1, 1)])), (3, .inl (0, [(2, 1)]))] [] [(1536, (0, []), (0, [(3, 1)]))] [] 4 [] [([], 4, [(0, (-2147483648), (-1)), (1, (-2147483648), 2147483647), (2, (-2147483648), 2147483647), (3, 0, 120)], [], [], [.inl ((-2), [])], [])] = true := by decide +kernel
theorem xlo0 {cst : am_K} {strs : List Nat} {Φ : am_Q → Prop} {D : Nat} {M : am_M} {h : am_H} {l : am_L} (c : hp_C cst strs D) (hM : m_P[65]? = some M) (hD : (4 : Int) ≤ (D : Int) + 1) (hy : ly_hy m_tt ly_TH h) (p y z u : Int) (b0 : (-2147483648) ≤ p) (t0 : p ≤ (-1)) (b1 : (-2147483648) ≤ y) (t1 : y ≤ 2147483647) (b2 : (-2147483648) ≤ z) (t2 : z ≤ 2147483647) (b3 : 0 ≤ u) (t3 : u ≤ 120) (k0 : ly_hv cst h 1536 0 = some (u)) (l0 : hp_a l 0 16) (l1 : hp_i l 1 (p)) (l2 : hp_i l 2 (y)) (l3 : hp_i l 3 (z)) (r0 : ∀ (h' : am_H) (y0 : Int32), y0.toInt = (-2) → ly_hy m_tt ly_TH h' → ly_fr cst [] h h' → h.length ≤ h'.length → Φ (some (.int y0), h', 0, 0)) : hp_F cst strs Φ D M 0 l [] h := by
  refine hp_arc c hM xlo0_k hD [p, y, z, u] rfl hy (hp_Bc (z := p) rfl b0 t0 (hp_Bc (z := y) rfl b1 t1 (hp_Bc (z := z) rfl b2 t2 (hp_Bc (z := u) rfl b3 t3 hp_Bn)))) hp_Fn (hp_Kc (zi := (0 + 0)) (zv := (0 + (1 * u + 0))) k0 rfl rfl (by omega) (by omega) hp_Kn) (hp_La l0 (hp_Li (z := (0 + (1 * p + 0))) l1 rfl (by omega) (hp_Li (z := (0 + (1 * y + 0))) l2 rfl (by omega) (hp_Li (z := (0 + (1 * z + 0))) l3 rfl (by omega) hp_Ln)))) trivial ?_ ?_
  · intro p hp ys l' st' h' hys a1 a2 a3 gZ gL gS
    cases hp
  · intro p hp ys v h' hys a1 a2 a3 gZ gS
    rcases List.mem_cons.mp hp with rfl | hp
    · obtain rfl := hp_y0 hys
      cases v with
      | none => cases gS
      | some w =>
        obtain ⟨y0, t0, s0, q0, -⟩ := hp_gSi (z := ((-2) + 0)) gS rfl
        cases s0
        exact r0 h' y0 (by omega) a1 a2 a3
    cases hp
theorem xlo1_k : hp_chk 65 0 4 [(0, 0, 2147483647), (1, (-2147483648), 2147483647), (2, (-2147483648), 2147483647), (3, 0, 120)] [(0, [(0, 1), (3, (-1))])] [(0, .inr (.inr (.inl (some 16)))), (1, .inl (0, [(0, 1)])), (2, .inl (0, [(1, 1)])), (3, .inl (0, [(2, 1)]))] [] [(1536, (0, []), (0, [(3, 1)]))] [] 4 [] [([], 4, [(0, 0, 2147483647), (1, (-2147483648), 2147483647), (2, (-2147483648), 2147483647), (3, 0, 120)], [], [], [.inl ((-2), [])], [])] = true := by decide +kernel
theorem xlo1 {cst : am_K} {strs : List Nat} {Φ : am_Q → Prop} {D : Nat} {M : am_M} {h : am_H} {l : am_L} (c : hp_C cst strs D) (hM : m_P[65]? = some M) (hD : (4 : Int) ≤ (D : Int) + 1) (hy : ly_hy m_tt ly_TH h) (p y z u : Int) (b0 : 0 ≤ p) (t0 : p ≤ 2147483647) (b1 : (-2147483648) ≤ y) (t1 : y ≤ 2147483647) (b2 : (-2147483648) ≤ z) (t2 : z ≤ 2147483647) (b3 : 0 ≤ u) (t3 : u ≤ 120) (f0 : 0 ≤ (p - u)) (k0 : ly_hv cst h 1536 0 = some (u)) (l0 : hp_a l 0 16) (l1 : hp_i l 1 (p)) (l2 : hp_i l 2 (y)) (l3 : hp_i l 3 (z)) (r0 : ∀ (h' : am_H) (y0 : Int32), y0.toInt = (-2) → ly_hy m_tt ly_TH h' → ly_fr cst [] h h' → h.length ≤ h'.length → Φ (some (.int y0), h', 0, 0)) : hp_F cst strs Φ D M 0 l [] h := by
  refine hp_arc c hM xlo1_k hD [p, y, z, u] rfl hy (hp_Bc (z := p) rfl b0 t0 (hp_Bc (z := y) rfl b1 t1 (hp_Bc (z := z) rfl b2 t2 (hp_Bc (z := u) rfl b3 t3 hp_Bn)))) (hp_Fc (z := (0 + (1 * p + ((-1) * u + 0)))) rfl (by omega) hp_Fn) (hp_Kc (zi := (0 + 0)) (zv := (0 + (1 * u + 0))) k0 rfl rfl (by omega) (by omega) hp_Kn) (hp_La l0 (hp_Li (z := (0 + (1 * p + 0))) l1 rfl (by omega) (hp_Li (z := (0 + (1 * y + 0))) l2 rfl (by omega) (hp_Li (z := (0 + (1 * z + 0))) l3 rfl (by omega) hp_Ln)))) trivial ?_ ?_
  · intro p hp ys l' st' h' hys a1 a2 a3 gZ gL gS
    cases hp
  · intro p hp ys v h' hys a1 a2 a3 gZ gS
    rcases List.mem_cons.mp hp with rfl | hp
    · obtain rfl := hp_y0 hys
      cases v with
      | none => cases gS
      | some w =>
        obtain ⟨y0, t0, s0, q0, -⟩ := hp_gSi (z := ((-2) + 0)) gS rfl
        cases s0
        exact r0 h' y0 (by omega) a1 a2 a3
    cases hp
theorem xlo2_k : hp_chk 65 0 4 [(0, 0, 119), (1, (-2147483648), (-1)), (2, (-2147483648), 2147483647), (3, 0, 120)] [((-1), [(0, (-1)), (3, 1)])] [(0, .inr (.inr (.inl (some 16)))), (1, .inl (0, [(0, 1)])), (2, .inl (0, [(1, 1)])), (3, .inl (0, [(2, 1)]))] [] [(1536, (0, []), (0, [(3, 1)]))] [] 4 [] [([], 4, [(0, 0, 119), (1, (-2147483648), (-1)), (2, (-2147483648), 2147483647), (3, 0, 120)], [], [], [.inl ((-2), [])], [])] = true := by decide +kernel
theorem xlo2 {cst : am_K} {strs : List Nat} {Φ : am_Q → Prop} {D : Nat} {M : am_M} {h : am_H} {l : am_L} (c : hp_C cst strs D) (hM : m_P[65]? = some M) (hD : (4 : Int) ≤ (D : Int) + 1) (hy : ly_hy m_tt ly_TH h) (p y z u : Int) (b0 : 0 ≤ p) (t0 : p ≤ 119) (b1 : (-2147483648) ≤ y) (t1 : y ≤ (-1)) (b2 : (-2147483648) ≤ z) (t2 : z ≤ 2147483647) (b3 : 0 ≤ u) (t3 : u ≤ 120) (f0 : 0 ≤ (u - p - 1)) (k0 : ly_hv cst h 1536 0 = some (u)) (l0 : hp_a l 0 16) (l1 : hp_i l 1 (p)) (l2 : hp_i l 2 (y)) (l3 : hp_i l 3 (z)) (r0 : ∀ (h' : am_H) (y0 : Int32), y0.toInt = (-2) → ly_hy m_tt ly_TH h' → ly_fr cst [] h h' → h.length ≤ h'.length → Φ (some (.int y0), h', 0, 0)) : hp_F cst strs Φ D M 0 l [] h := by
  refine hp_arc c hM xlo2_k hD [p, y, z, u] rfl hy (hp_Bc (z := p) rfl b0 t0 (hp_Bc (z := y) rfl b1 t1 (hp_Bc (z := z) rfl b2 t2 (hp_Bc (z := u) rfl b3 t3 hp_Bn)))) (hp_Fc (z := ((-1) + ((-1) * p + (1 * u + 0)))) rfl (by omega) hp_Fn) (hp_Kc (zi := (0 + 0)) (zv := (0 + (1 * u + 0))) k0 rfl rfl (by omega) (by omega) hp_Kn) (hp_La l0 (hp_Li (z := (0 + (1 * p + 0))) l1 rfl (by omega) (hp_Li (z := (0 + (1 * y + 0))) l2 rfl (by omega) (hp_Li (z := (0 + (1 * z + 0))) l3 rfl (by omega) hp_Ln)))) trivial ?_ ?_
  · intro p hp ys l' st' h' hys a1 a2 a3 gZ gL gS
    cases hp
  · intro p hp ys v h' hys a1 a2 a3 gZ gS
    rcases List.mem_cons.mp hp with rfl | hp
    · obtain rfl := hp_y0 hys
      cases v with
      | none => cases gS
      | some w =>
        obtain ⟨y0, t0, s0, q0, -⟩ := hp_gSi (z := ((-2) + 0)) gS rfl
        cases s0
        exact r0 h' y0 (by omega) a1 a2 a3
    cases hp
theorem xlo3_k : hp_chk 65 0 4 [(0, 0, 119), (1, 400, 2147483647), (2, (-2147483648), 2147483647), (3, 0, 120)] [((-1), [(0, (-1)), (3, 1)])] [(0, .inr (.inr (.inl (some 16)))), (1, .inl (0, [(0, 1)])), (2, .inl (0, [(1, 1)])), (3, .inl (0, [(2, 1)]))] [] [(1536, (0, []), (0, [(3, 1)]))] [] 4 [] [([], 4, [(0, 0, 119), (1, 400, 2147483647), (2, (-2147483648), 2147483647), (3, 0, 120)], [], [], [.inl ((-2), [])], [])] = true := by decide +kernel
theorem xlo3 {cst : am_K} {strs : List Nat} {Φ : am_Q → Prop} {D : Nat} {M : am_M} {h : am_H} {l : am_L} (c : hp_C cst strs D) (hM : m_P[65]? = some M) (hD : (4 : Int) ≤ (D : Int) + 1) (hy : ly_hy m_tt ly_TH h) (p y z u : Int) (b0 : 0 ≤ p) (t0 : p ≤ 119) (b1 : 400 ≤ y) (t1 : y ≤ 2147483647) (b2 : (-2147483648) ≤ z) (t2 : z ≤ 2147483647) (b3 : 0 ≤ u) (t3 : u ≤ 120) (f0 : 0 ≤ (u - p - 1)) (k0 : ly_hv cst h 1536 0 = some (u)) (l0 : hp_a l 0 16) (l1 : hp_i l 1 (p)) (l2 : hp_i l 2 (y)) (l3 : hp_i l 3 (z)) (r0 : ∀ (h' : am_H) (y0 : Int32), y0.toInt = (-2) → ly_hy m_tt ly_TH h' → ly_fr cst [] h h' → h.length ≤ h'.length → Φ (some (.int y0), h', 0, 0)) : hp_F cst strs Φ D M 0 l [] h := by
  refine hp_arc c hM xlo3_k hD [p, y, z, u] rfl hy (hp_Bc (z := p) rfl b0 t0 (hp_Bc (z := y) rfl b1 t1 (hp_Bc (z := z) rfl b2 t2 (hp_Bc (z := u) rfl b3 t3 hp_Bn)))) (hp_Fc (z := ((-1) + ((-1) * p + (1 * u + 0)))) rfl (by omega) hp_Fn) (hp_Kc (zi := (0 + 0)) (zv := (0 + (1 * u + 0))) k0 rfl rfl (by omega) (by omega) hp_Kn) (hp_La l0 (hp_Li (z := (0 + (1 * p + 0))) l1 rfl (by omega) (hp_Li (z := (0 + (1 * y + 0))) l2 rfl (by omega) (hp_Li (z := (0 + (1 * z + 0))) l3 rfl (by omega) hp_Ln)))) trivial ?_ ?_
  · intro p hp ys l' st' h' hys a1 a2 a3 gZ gL gS
    cases hp
  · intro p hp ys v h' hys a1 a2 a3 gZ gS
    rcases List.mem_cons.mp hp with rfl | hp
    · obtain rfl := hp_y0 hys
      cases v with
      | none => cases gS
      | some w =>
        obtain ⟨y0, t0, s0, q0, -⟩ := hp_gSi (z := ((-2) + 0)) gS rfl
        cases s0
        exact r0 h' y0 (by omega) a1 a2 a3
    cases hp
theorem xlo4_k : hp_chk 65 0 4 [(0, 0, 119), (1, 0, 399), (2, (-2147483648), (-1)), (3, 0, 120)] [((-1), [(0, (-1)), (3, 1)])] [(0, .inr (.inr (.inl (some 16)))), (1, .inl (0, [(0, 1)])), (2, .inl (0, [(1, 1)])), (3, .inl (0, [(2, 1)]))] [] [(1536, (0, []), (0, [(3, 1)]))] [] 4 [] [([], 4, [(0, 0, 119), (1, 0, 399), (2, (-2147483648), (-1)), (3, 0, 120)], [], [], [.inl ((-2), [])], [])] = true := by decide +kernel
theorem xlo4 {cst : am_K} {strs : List Nat} {Φ : am_Q → Prop} {D : Nat} {M : am_M} {h : am_H} {l : am_L} (c : hp_C cst strs D) (hM : m_P[65]? = some M) (hD : (4 : Int) ≤ (D : Int) + 1) (hy : ly_hy m_tt ly_TH h) (p y z u : Int) (b0 : 0 ≤ p) (t0 : p ≤ 119) (b1 : 0 ≤ y) (t1 : y ≤ 399) (b2 : (-2147483648) ≤ z) (t2 : z ≤ (-1)) (b3 : 0 ≤ u) (t3 : u ≤ 120) (f0 : 0 ≤ (u - p - 1)) (k0 : ly_hv cst h 1536 0 = some (u)) (l0 : hp_a l 0 16) (l1 : hp_i l 1 (p)) (l2 : hp_i l 2 (y)) (l3 : hp_i l 3 (z)) (r0 : ∀ (h' : am_H) (y0 : Int32), y0.toInt = (-2) → ly_hy m_tt ly_TH h' → ly_fr cst [] h h' → h.length ≤ h'.length → Φ (some (.int y0), h', 0, 0)) : hp_F cst strs Φ D M 0 l [] h := by
  refine hp_arc c hM xlo4_k hD [p, y, z, u] rfl hy (hp_Bc (z := p) rfl b0 t0 (hp_Bc (z := y) rfl b1 t1 (hp_Bc (z := z) rfl b2 t2 (hp_Bc (z := u) rfl b3 t3 hp_Bn)))) (hp_Fc (z := ((-1) + ((-1) * p + (1 * u + 0)))) rfl (by omega) hp_Fn) (hp_Kc (zi := (0 + 0)) (zv := (0 + (1 * u + 0))) k0 rfl rfl (by omega) (by omega) hp_Kn) (hp_La l0 (hp_Li (z := (0 + (1 * p + 0))) l1 rfl (by omega) (hp_Li (z := (0 + (1 * y + 0))) l2 rfl (by omega) (hp_Li (z := (0 + (1 * z + 0))) l3 rfl (by omega) hp_Ln)))) trivial ?_ ?_
  · intro p hp ys l' st' h' hys a1 a2 a3 gZ gL gS
    cases hp
  · intro p hp ys v h' hys a1 a2 a3 gZ gS
    rcases List.mem_cons.mp hp with rfl | hp
    · obtain rfl := hp_y0 hys
      cases v with
      | none => cases gS
      | some w =>
        obtain ⟨y0, t0, s0, q0, -⟩ := hp_gSi (z := ((-2) + 0)) gS rfl
        cases s0
        exact r0 h' y0 (by omega) a1 a2 a3
    cases hp
theorem xlo5_k : hp_chk 65 0 4 [(0, 0, 119), (1, 0, 399), (2, 400, 2147483647), (3, 0, 120)] [((-1), [(0, (-1)), (3, 1)])] [(0, .inr (.inr (.inl (some 16)))), (1, .inl (0, [(0, 1)])), (2, .inl (0, [(1, 1)])), (3, .inl (0, [(2, 1)]))] [] [(1536, (0, []), (0, [(3, 1)]))] [] 4 [] [([], 4, [(0, 0, 119), (1, 0, 399), (2, 400, 2147483647), (3, 0, 120)], [], [], [.inl ((-2), [])], [])] = true := by decide +kernel
theorem xlo5 {cst : am_K} {strs : List Nat} {Φ : am_Q → Prop} {D : Nat} {M : am_M} {h : am_H} {l : am_L} (c : hp_C cst strs D) (hM : m_P[65]? = some M) (hD : (4 : Int) ≤ (D : Int) + 1) (hy : ly_hy m_tt ly_TH h) (p y z u : Int) (b0 : 0 ≤ p) (t0 : p ≤ 119) (b1 : 0 ≤ y) (t1 : y ≤ 399) (b2 : 400 ≤ z) (t2 : z ≤ 2147483647) (b3 : 0 ≤ u) (t3 : u ≤ 120) (f0 : 0 ≤ (u - p - 1)) (k0 : ly_hv cst h 1536 0 = some (u)) (l0 : hp_a l 0 16) (l1 : hp_i l 1 (p)) (l2 : hp_i l 2 (y)) (l3 : hp_i l 3 (z)) (r0 : ∀ (h' : am_H) (y0 : Int32), y0.toInt = (-2) → ly_hy m_tt ly_TH h' → ly_fr cst [] h h' → h.length ≤ h'.length → Φ (some (.int y0), h', 0, 0)) : hp_F cst strs Φ D M 0 l [] h := by
  refine hp_arc c hM xlo5_k hD [p, y, z, u] rfl hy (hp_Bc (z := p) rfl b0 t0 (hp_Bc (z := y) rfl b1 t1 (hp_Bc (z := z) rfl b2 t2 (hp_Bc (z := u) rfl b3 t3 hp_Bn)))) (hp_Fc (z := ((-1) + ((-1) * p + (1 * u + 0)))) rfl (by omega) hp_Fn) (hp_Kc (zi := (0 + 0)) (zv := (0 + (1 * u + 0))) k0 rfl rfl (by omega) (by omega) hp_Kn) (hp_La l0 (hp_Li (z := (0 + (1 * p + 0))) l1 rfl (by omega) (hp_Li (z := (0 + (1 * y + 0))) l2 rfl (by omega) (hp_Li (z := (0 + (1 * z + 0))) l3 rfl (by omega) hp_Ln)))) trivial ?_ ?_
  · intro p hp ys l' st' h' hys a1 a2 a3 gZ gL gS
    cases hp
  · intro p hp ys v h' hys a1 a2 a3 gZ gS
    rcases List.mem_cons.mp hp with rfl | hp
    · obtain rfl := hp_y0 hys
      cases v with
      | none => cases gS
      | some w =>
        obtain ⟨y0, t0, s0, q0, -⟩ := hp_gSi (z := ((-2) + 0)) gS rfl
        cases s0
        exact r0 h' y0 (by omega) a1 a2 a3
    cases hp
theorem xlo6_k : hp_chk 65 0 4 [(0, 0, 119), (1, 0, 399), (2, 0, 399), (3, 0, 120)] [((-1), [(0, (-1)), (3, 1)])] [(0, .inr (.inr (.inl (some 16)))), (1, .inl (0, [(0, 1)])), (2, .inl (0, [(1, 1)])), (3, .inl (0, [(2, 1)]))] [] [(1536, (0, []), (0, [(3, 1)]))] [] 4 [(35, ([], 4, [(0, 0, 119), (1, 0, 399), (2, 0, 399), (3, 0, 120)], [], [(0, .inr (.inr (.inl (some 16))))], [.inl (0, [(2, 1)]), .inl (0, [(1, 1)]), .inl (0, [(0, 1)]), .inr (.inr (.inl (some 22)))], []))] [] = true := by decide +kernel
theorem xlo6 {cst : am_K} {strs : List Nat} {Φ : am_Q → Prop} {D : Nat} {M : am_M} {h : am_H} {l : am_L} (c : hp_C cst strs D) (hM : m_P[65]? = some M) (hD : (4 : Int) ≤ (D : Int) + 1) (hy : ly_hy m_tt ly_TH h) (p y z u : Int) (b0 : 0 ≤ p) (t0 : p ≤ 119) (b1 : 0 ≤ y) (t1 : y ≤ 399) (b2 : 0 ≤ z) (t2 : z ≤ 399) (b3 : 0 ≤ u) (t3 : u ≤ 120) (f0 : 0 ≤ (u - p - 1)) (k0 : ly_hv cst h 1536 0 = some (u)) (l0 : hp_a l 0 16) (l1 : hp_i l 1 (p)) (l2 : hp_i l 2 (y)) (l3 : hp_i l 3 (z)) (e0 : ∀ (l' : am_L) (h' : am_H) (y0 : Int32) (y1 : Int32) (y2 : Int32), y0.toInt = (z) → y1.toInt = (y) → y2.toInt = (p) → ly_hy m_tt ly_TH h' → ly_fr cst [] h h' → h.length ≤ h'.length → hp_a l' 0 16 → hp_F cst strs Φ D M 35 l' [.int y0, .int y1, .int y2, .ref 22] h') : hp_F cst strs Φ D M 0 l [] h := by
  refine hp_arc c hM xlo6_k hD [p, y, z, u] rfl hy (hp_Bc (z := p) rfl b0 t0 (hp_Bc (z := y) rfl b1 t1 (hp_Bc (z := z) rfl b2 t2 (hp_Bc (z := u) rfl b3 t3 hp_Bn)))) (hp_Fc (z := ((-1) + ((-1) * p + (1 * u + 0)))) rfl (by omega) hp_Fn) (hp_Kc (zi := (0 + 0)) (zv := (0 + (1 * u + 0))) k0 rfl rfl (by omega) (by omega) hp_Kn) (hp_La l0 (hp_Li (z := (0 + (1 * p + 0))) l1 rfl (by omega) (hp_Li (z := (0 + (1 * y + 0))) l2 rfl (by omega) (hp_Li (z := (0 + (1 * z + 0))) l3 rfl (by omega) hp_Ln)))) trivial ?_ ?_
  · intro p hp ys l' st' h' hys a1 a2 a3 gZ gL gS
    rcases List.mem_cons.mp hp with rfl | hp
    · obtain rfl := hp_y0 hys
      obtain ⟨y0, t0, rfl, q0, g0⟩ := hp_gSi (z := (0 + (1 * z + 0))) gS rfl
      obtain ⟨y1, t1, rfl, q1, g1⟩ := hp_gSi (z := (0 + (1 * y + 0))) g0 rfl
      obtain ⟨y2, t2, rfl, q2, g2⟩ := hp_gSi (z := (0 + (1 * p + 0))) g1 rfl
      obtain ⟨t3, rfl, g3⟩ := hp_gSa g2 (by decide)
      cases hp_gSn g3
      exact e0 l' h' y0 y1 y2 (by omega) (by omega) (by omega) a1 a2 a3 (hp_gLa gL (List.mem_of_getElem? (i := 0) rfl) (by decide))
    cases hp
  · intro p hp ys v h' hys a1 a2 a3 gZ gS
    cases hp
theorem xlo7_k : hp_chk 65 38 1 [(0, (-2147483648), 2147483647)] [] [(0, .inr (.inr (.inl (some 16))))] [.inl (0, [(0, 1)])] [] [] 2 [] [([], 1, [(0, (-2147483648), 2147483647)], [], [], [.inl (0, [(0, 1)])], [])] = true := by decide +kernel
theorem xlo7 {cst : am_K} {strs : List Nat} {Φ : am_Q → Prop} {D : Nat} {M : am_M} {h : am_H} {l : am_L} (c : hp_C cst strs D) (hM : m_P[65]? = some M) (hD : (2 : Int) ≤ (D : Int) + 1) (hy : ly_hy m_tt ly_TH h) (a : Int) (x0 : Int32) (hx0 : x0.toInt = (a)) (b0 : (-2147483648) ≤ a) (t0 : a ≤ 2147483647) (l0 : hp_a l 0 16) (r0 : ∀ (h' : am_H) (y0 : Int32), y0.toInt = (a) → ly_hy m_tt ly_TH h' → ly_fr cst [] h h' → h.length ≤ h'.length → Φ (some (.int y0), h', 0, 0)) : hp_F cst strs Φ D M 38 l [.int x0] h := by
  refine hp_arc c hM xlo7_k hD [a] rfl hy (hp_Bc (z := a) rfl b0 t0 hp_Bn) hp_Fn hp_Kn (hp_La l0 hp_Ln) (hp_Si (z := (0 + (1 * a + 0))) rfl (by omega) trivial) ?_ ?_
  · intro p hp ys l' st' h' hys a1 a2 a3 gZ gL gS
    cases hp
  · intro p hp ys v h' hys a1 a2 a3 gZ gS
    rcases List.mem_cons.mp hp with rfl | hp
    · obtain rfl := hp_y0 hys
      cases v with
      | none => cases gS
      | some w =>
        obtain ⟨y0, t0, s0, q0, -⟩ := hp_gSi (z := (0 + (1 * a + 0))) gS rfl
        cases s0
        exact r0 h' y0 (by omega) a1 a2 a3
    cases hp
theorem xmo0_k : hp_chk 291 0 4 [(0, (-2147483648), (-1)), (1, (-2147483648), 2147483647), (2, (-2147483648), 2147483647), (3, 0, 120)] [] [(0, .inr (.inr (.inl (some 94)))), (1, .inl (0, [(0, 1)])), (2, .inl (0, [(1, 1)])), (3, .inl (0, [(2, 1)]))] [] [(19978, (0, []), (0, [(3, 1)]))] [] 4 [] [([], 4, [(0, (-2147483648), (-1)), (1, (-2147483648), 2147483647), (2, (-2147483648), 2147483647), (3, 0, 120)], [], [], [.inl ((-2), [])], [])] = true := by decide +kernel
theorem xmo0 {cst : am_K} {strs : List Nat} {Φ : am_Q → Prop} {D : Nat} {M : am_M} {h : am_H} {l : am_L} (c : hp_C cst strs D) (hM : m_P[291]? = some M) (hD : (4 : Int) ≤ (D : Int) + 1) (hy : ly_hy m_tt ly_TH h) (p y z u : Int) (b0 : (-2147483648) ≤ p) (t0 : p ≤ (-1)) (b1 : (-2147483648) ≤ y) (t1 : y ≤ 2147483647) (b2 : (-2147483648) ≤ z) (t2 : z ≤ 2147483647) (b3 : 0 ≤ u) (t3 : u ≤ 120) (k0 : ly_hv cst h 19978 0 = some (u)) (l0 : hp_a l 0 94) (l1 : hp_i l 1 (p)) (l2 : hp_i l 2 (y)) (l3 : hp_i l 3 (z)) (r0 : ∀ (h' : am_H) (y0 : Int32), y0.toInt = (-2) → ly_hy m_tt ly_TH h' → ly_fr cst [] h h' → h.length ≤ h'.length → Φ (some (.int y0), h', 0, 0)) : hp_F cst strs Φ D M 0 l [] h := by
  refine hp_arc c hM xmo0_k hD [p, y, z, u] rfl hy (hp_Bc (z := p) rfl b0 t0 (hp_Bc (z := y) rfl b1 t1 (hp_Bc (z := z) rfl b2 t2 (hp_Bc (z := u) rfl b3 t3 hp_Bn)))) hp_Fn (hp_Kc (zi := (0 + 0)) (zv := (0 + (1 * u + 0))) k0 rfl rfl (by omega) (by omega) hp_Kn) (hp_La l0 (hp_Li (z := (0 + (1 * p + 0))) l1 rfl (by omega) (hp_Li (z := (0 + (1 * y + 0))) l2 rfl (by omega) (hp_Li (z := (0 + (1 * z + 0))) l3 rfl (by omega) hp_Ln)))) trivial ?_ ?_
  · intro p hp ys l' st' h' hys a1 a2 a3 gZ gL gS
    cases hp
  · intro p hp ys v h' hys a1 a2 a3 gZ gS
    rcases List.mem_cons.mp hp with rfl | hp
    · obtain rfl := hp_y0 hys
      cases v with
      | none => cases gS
      | some w =>
        obtain ⟨y0, t0, s0, q0, -⟩ := hp_gSi (z := ((-2) + 0)) gS rfl
        cases s0
        exact r0 h' y0 (by omega) a1 a2 a3
    cases hp
theorem xmo1_k : hp_chk 291 0 4 [(0, 0, 2147483647), (1, (-2147483648), 2147483647), (2, (-2147483648), 2147483647), (3, 0, 120)] [(0, [(0, 1), (3, (-1))])] [(0, .inr (.inr (.inl (some 94)))), (1, .inl (0, [(0, 1)])), (2, .inl (0, [(1, 1)])), (3, .inl (0, [(2, 1)]))] [] [(19978, (0, []), (0, [(3, 1)]))] [] 4 [] [([], 4, [(0, 0, 2147483647), (1, (-2147483648), 2147483647), (2, (-2147483648), 2147483647), (3, 0, 120)], [], [], [.inl ((-2), [])], [])] = true := by decide +kernel
theorem xmo1 {cst : am_K} {strs : List Nat} {Φ : am_Q → Prop} {D : Nat} {M : am_M} {h : am_H} {l : am_L} (c : hp_C cst strs D) (hM : m_P[291]? = some M) (hD : (4 : Int) ≤ (D : Int) + 1) (hy : ly_hy m_tt ly_TH h) (p y z u : Int) (b0 : 0 ≤ p) (t0 : p ≤ 2147483647) (b1 : (-2147483648) ≤ y) (t1 : y ≤ 2147483647) (b2 : (-2147483648) ≤ z) (t2 : z ≤ 2147483647) (b3 : 0 ≤ u) (t3 : u ≤ 120) (f0 : 0 ≤ (p - u)) (k0 : ly_hv cst h 19978 0 = some (u)) (l0 : hp_a l 0 94) (l1 : hp_i l 1 (p)) (l2 : hp_i l 2 (y)) (l3 : hp_i l 3 (z)) (r0 : ∀ (h' : am_H) (y0 : Int32), y0.toInt = (-2) → ly_hy m_tt ly_TH h' → ly_fr cst [] h h' → h.length ≤ h'.length → Φ (some (.int y0), h', 0, 0)) : hp_F cst strs Φ D M 0 l [] h := by
  refine hp_arc c hM xmo1_k hD [p, y, z, u] rfl hy (hp_Bc (z := p) rfl b0 t0 (hp_Bc (z := y) rfl b1 t1 (hp_Bc (z := z) rfl b2 t2 (hp_Bc (z := u) rfl b3 t3 hp_Bn)))) (hp_Fc (z := (0 + (1 * p + ((-1) * u + 0)))) rfl (by omega) hp_Fn) (hp_Kc (zi := (0 + 0)) (zv := (0 + (1 * u + 0))) k0 rfl rfl (by omega) (by omega) hp_Kn) (hp_La l0 (hp_Li (z := (0 + (1 * p + 0))) l1 rfl (by omega) (hp_Li (z := (0 + (1 * y + 0))) l2 rfl (by omega) (hp_Li (z := (0 + (1 * z + 0))) l3 rfl (by omega) hp_Ln)))) trivial ?_ ?_
  · intro p hp ys l' st' h' hys a1 a2 a3 gZ gL gS
    cases hp
  · intro p hp ys v h' hys a1 a2 a3 gZ gS
    rcases List.mem_cons.mp hp with rfl | hp
    · obtain rfl := hp_y0 hys
      cases v with
      | none => cases gS
      | some w =>
        obtain ⟨y0, t0, s0, q0, -⟩ := hp_gSi (z := ((-2) + 0)) gS rfl
        cases s0
        exact r0 h' y0 (by omega) a1 a2 a3
    cases hp
theorem xmo2_k : hp_chk 291 0 4 [(0, 0, 119), (1, (-2147483648), (-1)), (2, (-2147483648), 2147483647), (3, 0, 120)] [((-1), [(0, (-1)), (3, 1)])] [(0, .inr (.inr (.inl (some 94)))), (1, .inl (0, [(0, 1)])), (2, .inl (0, [(1, 1)])), (3, .inl (0, [(2, 1)]))] [] [(19978, (0, []), (0, [(3, 1)]))] [] 4 [] [([], 4, [(0, 0, 119), (1, (-2147483648), (-1)), (2, (-2147483648), 2147483647), (3, 0, 120)], [], [], [.inl ((-2), [])], [])] = true := by decide +kernel
theorem xmo2 {cst : am_K} {strs : List Nat} {Φ : am_Q → Prop} {D : Nat} {M : am_M} {h : am_H} {l : am_L} (c : hp_C cst strs D) (hM : m_P[291]? = some M) (hD : (4 : Int) ≤ (D : Int) + 1) (hy : ly_hy m_tt ly_TH h) (p y z u : Int) (b0 : 0 ≤ p) (t0 : p ≤ 119) (b1 : (-2147483648) ≤ y) (t1 : y ≤ (-1)) (b2 : (-2147483648) ≤ z) (t2 : z ≤ 2147483647) (b3 : 0 ≤ u) (t3 : u ≤ 120) (f0 : 0 ≤ (u - p - 1)) (k0 : ly_hv cst h 19978 0 = some (u)) (l0 : hp_a l 0 94) (l1 : hp_i l 1 (p)) (l2 : hp_i l 2 (y)) (l3 : hp_i l 3 (z)) (r0 : ∀ (h' : am_H) (y0 : Int32), y0.toInt = (-2) → ly_hy m_tt ly_TH h' → ly_fr cst [] h h' → h.length ≤ h'.length → Φ (some (.int y0), h', 0, 0)) : hp_F cst strs Φ D M 0 l [] h := by
  refine hp_arc c hM xmo2_k hD [p, y, z, u] rfl hy (hp_Bc (z := p) rfl b0 t0 (hp_Bc (z := y) rfl b1 t1 (hp_Bc (z := z) rfl b2 t2 (hp_Bc (z := u) rfl b3 t3 hp_Bn)))) (hp_Fc (z := ((-1) + ((-1) * p + (1 * u + 0)))) rfl (by omega) hp_Fn) (hp_Kc (zi := (0 + 0)) (zv := (0 + (1 * u + 0))) k0 rfl rfl (by omega) (by omega) hp_Kn) (hp_La l0 (hp_Li (z := (0 + (1 * p + 0))) l1 rfl (by omega) (hp_Li (z := (0 + (1 * y + 0))) l2 rfl (by omega) (hp_Li (z := (0 + (1 * z + 0))) l3 rfl (by omega) hp_Ln)))) trivial ?_ ?_
  · intro p hp ys l' st' h' hys a1 a2 a3 gZ gL gS
    cases hp
  · intro p hp ys v h' hys a1 a2 a3 gZ gS
    rcases List.mem_cons.mp hp with rfl | hp
    · obtain rfl := hp_y0 hys
      cases v with
      | none => cases gS
      | some w =>
        obtain ⟨y0, t0, s0, q0, -⟩ := hp_gSi (z := ((-2) + 0)) gS rfl
        cases s0
        exact r0 h' y0 (by omega) a1 a2 a3
    cases hp
theorem xmo3_k : hp_chk 291 0 4 [(0, 0, 119), (1, 400, 2147483647), (2, (-2147483648), 2147483647), (3, 0, 120)] [((-1), [(0, (-1)), (3, 1)])] [(0, .inr (.inr (.inl (some 94)))), (1, .inl (0, [(0, 1)])), (2, .inl (0, [(1, 1)])), (3, .inl (0, [(2, 1)]))] [] [(19978, (0, []), (0, [(3, 1)]))] [] 4 [] [([], 4, [(0, 0, 119), (1, 400, 2147483647), (2, (-2147483648), 2147483647), (3, 0, 120)], [], [], [.inl ((-2), [])], [])] = true := by decide +kernel
theorem xmo3 {cst : am_K} {strs : List Nat} {Φ : am_Q → Prop} {D : Nat} {M : am_M} {h : am_H} {l : am_L} (c : hp_C cst strs D) (hM : m_P[291]? = some M) (hD : (4 : Int) ≤ (D : Int) + 1) (hy : ly_hy m_tt ly_TH h) (p y z u : Int) (b0 : 0 ≤ p) (t0 : p ≤ 119) (b1 : 400 ≤ y) (t1 : y ≤ 2147483647) (b2 : (-2147483648) ≤ z) (t2 : z ≤ 2147483647) (b3 : 0 ≤ u) (t3 : u ≤ 120) (f0 : 0 ≤ (u - p - 1)) (k0 : ly_hv cst h 19978 0 = some (u)) (l0 : hp_a l 0 94) (l1 : hp_i l 1 (p)) (l2 : hp_i l 2 (y)) (l3 : hp_i l 3 (z)) (r0 : ∀ (h' : am_H) (y0 : Int32), y0.toInt = (-2) → ly_hy m_tt ly_TH h' → ly_fr cst [] h h' → h.length ≤ h'.length → Φ (some (.int y0), h', 0, 0)) : hp_F cst strs Φ D M 0 l [] h := by
  refine hp_arc c hM xmo3_k hD [p, y, z, u] rfl hy (hp_Bc (z := p) rfl b0 t0 (hp_Bc (z := y) rfl b1 t1 (hp_Bc (z := z) rfl b2 t2 (hp_Bc (z := u) rfl b3 t3 hp_Bn)))) (hp_Fc (z := ((-1) + ((-1) * p + (1 * u + 0)))) rfl (by omega) hp_Fn) (hp_Kc (zi := (0 + 0)) (zv := (0 + (1 * u + 0))) k0 rfl rfl (by omega) (by omega) hp_Kn) (hp_La l0 (hp_Li (z := (0 + (1 * p + 0))) l1 rfl (by omega) (hp_Li (z := (0 + (1 * y + 0))) l2 rfl (by omega) (hp_Li (z := (0 + (1 * z + 0))) l3 rfl (by omega) hp_Ln)))) trivial ?_ ?_
  · intro p hp ys l' st' h' hys a1 a2 a3 gZ gL gS
    cases hp
  · intro p hp ys v h' hys a1 a2 a3 gZ gS
    rcases List.mem_cons.mp hp with rfl | hp
    · obtain rfl := hp_y0 hys
      cases v with
      | none => cases gS
      | some w =>
        obtain ⟨y0, t0, s0, q0, -⟩ := hp_gSi (z := ((-2) + 0)) gS rfl
        cases s0
        exact r0 h' y0 (by omega) a1 a2 a3
    cases hp
theorem xmo4_k : hp_chk 291 0 4 [(0, 0, 119), (1, 0, 399), (2, (-2147483648), (-1)), (3, 0, 120)] [((-1), [(0, (-1)), (3, 1)])] [(0, .inr (.inr (.inl (some 94)))), (1, .inl (0, [(0, 1)])), (2, .inl (0, [(1, 1)])), (3, .inl (0, [(2, 1)]))] [] [(19978, (0, []), (0, [(3, 1)]))] [] 4 [] [([], 4, [(0, 0, 119), (1, 0, 399), (2, (-2147483648), (-1)), (3, 0, 120)], [], [], [.inl ((-2), [])], [])] = true := by decide +kernel
theorem xmo4 {cst : am_K} {strs : List Nat} {Φ : am_Q → Prop} {D : Nat} {M : am_M} {h : am_H} {l : am_L} (c : hp_C cst strs D) (hM : m_P[291]? = some M) (hD : (4 : Int) ≤ (D : Int) + 1) (hy : ly_hy m_tt ly_TH h) (p y z u : Int) (b0 : 0 ≤ p) (t0 : p ≤ 119) (b1 : 0 ≤ y) (t1 : y ≤ 399) (b2 : (-2147483648) ≤ z) (t2 : z ≤ (-1)) (b3 : 0 ≤ u) (t3 : u ≤ 120) (f0 : 0 ≤ (u - p - 1)) (k0 : ly_hv cst h 19978 0 = some (u)) (l0 : hp_a l 0 94) (l1 : hp_i l 1 (p)) (l2 : hp_i l 2 (y)) (l3 : hp_i l 3 (z)) (r0 : ∀ (h' : am_H) (y0 : Int32), y0.toInt = (-2) → ly_hy m_tt ly_TH h' → ly_fr cst [] h h' → h.length ≤ h'.length → Φ (some (.int y0), h', 0, 0)) : hp_F cst strs Φ D M 0 l [] h := by
  refine hp_arc c hM xmo4_k hD [p, y, z, u] rfl hy (hp_Bc (z := p) rfl b0 t0 (hp_Bc (z := y) rfl b1 t1 (hp_Bc (z := z) rfl b2 t2 (hp_Bc (z := u) rfl b3 t3 hp_Bn)))) (hp_Fc (z := ((-1) + ((-1) * p + (1 * u + 0)))) rfl (by omega) hp_Fn) (hp_Kc (zi := (0 + 0)) (zv := (0 + (1 * u + 0))) k0 rfl rfl (by omega) (by omega) hp_Kn) (hp_La l0 (hp_Li (z := (0 + (1 * p + 0))) l1 rfl (by omega) (hp_Li (z := (0 + (1 * y + 0))) l2 rfl (by omega) (hp_Li (z := (0 + (1 * z + 0))) l3 rfl (by omega) hp_Ln)))) trivial ?_ ?_
  · intro p hp ys l' st' h' hys a1 a2 a3 gZ gL gS
    cases hp
  · intro p hp ys v h' hys a1 a2 a3 gZ gS
    rcases List.mem_cons.mp hp with rfl | hp
    · obtain rfl := hp_y0 hys
      cases v with
      | none => cases gS
      | some w =>
        obtain ⟨y0, t0, s0, q0, -⟩ := hp_gSi (z := ((-2) + 0)) gS rfl
        cases s0
        exact r0 h' y0 (by omega) a1 a2 a3
    cases hp
theorem xmo5_k : hp_chk 291 0 4 [(0, 0, 119), (1, 0, 399), (2, 400, 2147483647), (3, 0, 120)] [((-1), [(0, (-1)), (3, 1)])] [(0, .inr (.inr (.inl (some 94)))), (1, .inl (0, [(0, 1)])), (2, .inl (0, [(1, 1)])), (3, .inl (0, [(2, 1)]))] [] [(19978, (0, []), (0, [(3, 1)]))] [] 4 [] [([], 4, [(0, 0, 119), (1, 0, 399), (2, 400, 2147483647), (3, 0, 120)], [], [], [.inl ((-2), [])], [])] = true := by decide +kernel
theorem xmo5 {cst : am_K} {strs : List Nat} {Φ : am_Q → Prop} {D : Nat} {M : am_M} {h : am_H} {l : am_L} (c : hp_C cst strs D) (hM : m_P[291]? = some M) (hD : (4 : Int) ≤ (D : Int) + 1) (hy : ly_hy m_tt ly_TH h) (p y z u : Int) (b0 : 0 ≤ p) (t0 : p ≤ 119) (b1 : 0 ≤ y) (t1 : y ≤ 399) (b2 : 400 ≤ z) (t2 : z ≤ 2147483647) (b3 : 0 ≤ u) (t3 : u ≤ 120) (f0 : 0 ≤ (u - p - 1)) (k0 : ly_hv cst h 19978 0 = some (u)) (l0 : hp_a l 0 94) (l1 : hp_i l 1 (p)) (l2 : hp_i l 2 (y)) (l3 : hp_i l 3 (z)) (r0 : ∀ (h' : am_H) (y0 : Int32), y0.toInt = (-2) → ly_hy m_tt ly_TH h' → ly_fr cst [] h h' → h.length ≤ h'.length → Φ (some (.int y0), h', 0, 0)) : hp_F cst strs Φ D M 0 l [] h := by
  refine hp_arc c hM xmo5_k hD [p, y, z, u] rfl hy (hp_Bc (z := p) rfl b0 t0 (hp_Bc (z := y) rfl b1 t1 (hp_Bc (z := z) rfl b2 t2 (hp_Bc (z := u) rfl b3 t3 hp_Bn)))) (hp_Fc (z := ((-1) + ((-1) * p + (1 * u + 0)))) rfl (by omega) hp_Fn) (hp_Kc (zi := (0 + 0)) (zv := (0 + (1 * u + 0))) k0 rfl rfl (by omega) (by omega) hp_Kn) (hp_La l0 (hp_Li (z := (0 + (1 * p + 0))) l1 rfl (by omega) (hp_Li (z := (0 + (1 * y + 0))) l2 rfl (by omega) (hp_Li (z := (0 + (1 * z + 0))) l3 rfl (by omega) hp_Ln)))) trivial ?_ ?_
  · intro p hp ys l' st' h' hys a1 a2 a3 gZ gL gS
    cases hp
  · intro p hp ys v h' hys a1 a2 a3 gZ gS
    rcases List.mem_cons.mp hp with rfl | hp
    · obtain rfl := hp_y0 hys
      cases v with
      | none => cases gS
      | some w =>
        obtain ⟨y0, t0, s0, q0, -⟩ := hp_gSi (z := ((-2) + 0)) gS rfl
        cases s0
        exact r0 h' y0 (by omega) a1 a2 a3
    cases hp
theorem xmo6_k : hp_chk 291 0 4 [(0, 0, 119), (1, 0, 399), (2, 0, 399), (3, 0, 120)] [((-1), [(0, (-1)), (3, 1)])] [(0, .inr (.inr (.inl (some 94)))), (1, .inl (0, [(0, 1)])), (2, .inl (0, [(1, 1)])), (3, .inl (0, [(2, 1)]))] [] [(19978, (0, []), (0, [(3, 1)]))] [] 4 [(26, ([], 4, [(0, 0, 119), (1, 0, 399), (2, 0, 399), (3, 0, 120)], [], [(0, .inr (.inr (.inl (some 94))))], [.inl (0, [(2, 1)]), .inl (0, [(1, 1)]), .inl (0, [(0, 1)]), .inr (.inr (.inl (some 94)))], []))] [] = true := by decide +kernel
theorem xmo6 {cst : am_K} {strs : List Nat} {Φ : am_Q → Prop} {D : Nat} {M : am_M} {h : am_H} {l : am_L} (c : hp_C cst strs D) (hM : m_P[291]? = some M) (hD : (4 : Int) ≤ (D : Int) + 1) (hy : ly_hy m_tt ly_TH h) (p y z u : Int) (b0 : 0 ≤ p) (t0 : p ≤ 119) (b1 : 0 ≤ y) (t1 : y ≤ 399) (b2 : 0 ≤ z) (t2 : z ≤ 399) (b3 : 0 ≤ u) (t3 : u ≤ 120) (f0 : 0 ≤ (u - p - 1)) (k0 : ly_hv cst h 19978 0 = some (u)) (l0 : hp_a l 0 94) (l1 : hp_i l 1 (p)) (l2 : hp_i l 2 (y)) (l3 : hp_i l 3 (z)) (e0 : ∀ (l' : am_L) (h' : am_H) (y0 : Int32) (y1 : Int32) (y2 : Int32), y0.toInt = (z) → y1.toInt = (y) → y2.toInt = (p) → ly_hy m_tt ly_TH h' → ly_fr cst [] h h' → h.length ≤ h'.length → hp_a l' 0 94 → hp_F cst strs Φ D M 26 l' [.int y0, .int y1, .int y2, .ref 94] h') : hp_F cst strs Φ D M 0 l [] h := by
  refine hp_arc c hM xmo6_k hD [p, y, z, u] rfl hy (hp_Bc (z := p) rfl b0 t0 (hp_Bc (z := y) rfl b1 t1 (hp_Bc (z := z) rfl b2 t2 (hp_Bc (z := u) rfl b3 t3 hp_Bn)))) (hp_Fc (z := ((-1) + ((-1) * p + (1 * u + 0)))) rfl (by omega) hp_Fn) (hp_Kc (zi := (0 + 0)) (zv := (0 + (1 * u + 0))) k0 rfl rfl (by omega) (by omega) hp_Kn) (hp_La l0 (hp_Li (z := (0 + (1 * p + 0))) l1 rfl (by omega) (hp_Li (z := (0 + (1 * y + 0))) l2 rfl (by omega) (hp_Li (z := (0 + (1 * z + 0))) l3 rfl (by omega) hp_Ln)))) trivial ?_ ?_
  · intro p hp ys l' st' h' hys a1 a2 a3 gZ gL gS
    rcases List.mem_cons.mp hp with rfl | hp
    · obtain rfl := hp_y0 hys
      obtain ⟨y0, t0, rfl, q0, g0⟩ := hp_gSi (z := (0 + (1 * z + 0))) gS rfl
      obtain ⟨y1, t1, rfl, q1, g1⟩ := hp_gSi (z := (0 + (1 * y + 0))) g0 rfl
      obtain ⟨y2, t2, rfl, q2, g2⟩ := hp_gSi (z := (0 + (1 * p + 0))) g1 rfl
      obtain ⟨t3, rfl, g3⟩ := hp_gSa g2 (by decide)
      cases hp_gSn g3
      exact e0 l' h' y0 y1 y2 (by omega) (by omega) (by omega) a1 a2 a3 (hp_gLa gL (List.mem_of_getElem? (i := 0) rfl) (by decide))
    cases hp
  · intro p hp ys v h' hys a1 a2 a3 gZ gS
    cases hp
theorem xmo7_k : hp_chk 291 29 1 [(0, (-2147483648), 2147483647)] [] [(0, .inr (.inr (.inl (some 94))))] [.inl (0, [(0, 1)])] [] [] 2 [] [([], 1, [(0, (-2147483648), 2147483647)], [], [], [.inl (0, [(0, 1)])], [])] = true := by decide +kernel
theorem xmo7 {cst : am_K} {strs : List Nat} {Φ : am_Q → Prop} {D : Nat} {M : am_M} {h : am_H} {l : am_L} (c : hp_C cst strs D) (hM : m_P[291]? = some M) (hD : (2 : Int) ≤ (D : Int) + 1) (hy : ly_hy m_tt ly_TH h) (a : Int) (x0 : Int32) (hx0 : x0.toInt = (a)) (b0 : (-2147483648) ≤ a) (t0 : a ≤ 2147483647) (l0 : hp_a l 0 94) (r0 : ∀ (h' : am_H) (y0 : Int32), y0.toInt = (a) → ly_hy m_tt ly_TH h' → ly_fr cst [] h h' → h.length ≤ h'.length → Φ (some (.int y0), h', 0, 0)) : hp_F cst strs Φ D M 29 l [.int x0] h := by
  refine hp_arc c hM xmo7_k hD [a] rfl hy (hp_Bc (z := a) rfl b0 t0 hp_Bn) hp_Fn hp_Kn (hp_La l0 hp_Ln) (hp_Si (z := (0 + (1 * a + 0))) rfl (by omega) trivial) ?_ ?_
  · intro p hp ys l' st' h' hys a1 a2 a3 gZ gL gS
    cases hp
  · intro p hp ys v h' hys a1 a2 a3 gZ gS
    rcases List.mem_cons.mp hp with rfl | hp
    · obtain rfl := hp_y0 hys
      cases v with
      | none => cases gS
      | some w =>
        obtain ⟨y0, t0, s0, q0, -⟩ := hp_gSi (z := (0 + (1 * a + 0))) gS rfl
        cases s0
        exact r0 h' y0 (by omega) a1 a2 a3
    cases hp
/-- a telling of land that counts -/
def ld_m (fK fO fN fF : Int → Option Int) (p y z k : Int) : Prop := fK k = some 0 ∧ fO k = some p ∧ (∃ a, fN k = some a ∧ a ≤ z) ∧ ∃ b, fF k = some b ∧ b ≤ y
/-- the last of the latest ones below i -/
def lb (m : Int → Prop) (fF : Int → Option Int) (i b : Int) : Prop := (b = -1 ∧ ∀ k, 0 ≤ k → k < i → ¬ m k) ∨ (0 ≤ b ∧ b < i ∧ m b ∧ ∃ e, fF b = some e ∧ ∀ k, 0 ≤ k → k < i → m k → ∃ e', fF k = some e' ∧ (e' < e ∨ (e' = e ∧ k ≤ b)))
theorem lb_0 (m : Int → Prop) (fF : Int → Option Int) : lb m fF 0 (-1) := Or.inl ⟨rfl, fun k k0 k1 => by omega⟩
theorem lb_no {m : Int → Prop} {fF : Int → Option Int} {i b : Int} (H : lb m fF i b) (no : ¬ m i) : lb m fF (i + 1) b := by
  rcases H with ⟨e, H⟩ | ⟨b0, b1, mb, e, fe, H⟩
  · exact Or.inl ⟨e, fun k k0 k1 => if q : k = i then q ▸ no else H k k0 (by omega)⟩
  · refine Or.inr ⟨b0, by omega, mb, e, fe, fun k k0 k1 mk => ?_⟩
    by_cases q : k = i
    · subst q
      exact absurd mk no
    · exact H k k0 (by omega) mk
theorem lb_first {m : Int → Prop} {fF : Int → Option Int} {i e : Int} (i0 : 0 ≤ i) (H : lb m fF i (-1)) (mi : m i) (fe : fF i = some e) : lb m fF (i + 1) i := by
  rcases H with ⟨-, H⟩ | ⟨b0, -⟩
  · refine Or.inr ⟨i0, by omega, mi, e, fe, fun k k0 k1 mk => ?_⟩
    by_cases q : k = i
    · subst q
      exact ⟨e, fe, Or.inr ⟨rfl, by omega⟩⟩
    · exact absurd mk (H k k0 (by omega))
  · omega
theorem lb_yes {m : Int → Prop} {fF : Int → Option Int} {i b e e2 : Int} (i0 : 0 ≤ i) (H : lb m fF i b) (hb : 0 ≤ b) (mi : m i) (fe : fF i = some e) (fb : fF b = some e2) (h : e2 ≤ e) : lb m fF (i + 1) i := by
  rcases H with ⟨q, -⟩ | ⟨b0, b1, mb, e3, fe3, H⟩
  · omega
  · rw [fb] at fe3
    cases fe3
    refine Or.inr ⟨i0, by omega, mi, e, fe, fun k k0 k1 mk => ?_⟩
    by_cases q : k = i
    · subst q
      exact ⟨e, fe, Or.inr ⟨rfl, by omega⟩⟩
    · obtain ⟨e', h1, h2⟩ := H k k0 (by omega) mk
      exact ⟨e', h1, by omega⟩
theorem lb_low {m : Int → Prop} {fF : Int → Option Int} {i b e e2 : Int} (H : lb m fF i b) (hb : 0 ≤ b) (fe : fF i = some e) (fb : fF b = some e2) (h : e < e2) : lb m fF (i + 1) b := by
  rcases H with ⟨q, -⟩ | ⟨b0, b1, mb, e3, fe3, H⟩
  · omega
  · rw [fb] at fe3
    cases fe3
    refine Or.inr ⟨b0, by omega, mb, e2, fb, fun k k0 k1 mk => ?_⟩
    by_cases q : k = i
    · subst q
      exact ⟨e, fe, Or.inl h⟩
    · exact H k k0 (by omega) mk
theorem lb_uni {m : Int → Prop} {fF : Int → Option Int} {i b b' : Int} (H : lb m fF i b) (H' : lb m fF i b') : b = b' := by
  rcases H with ⟨q, H⟩ | ⟨b0, b1, mb, e, fe, H⟩
  · rcases H' with ⟨q', -⟩ | ⟨c0, c1, mc, -⟩
    · omega
    · exact absurd mc (H b' c0 c1)
  · rcases H' with ⟨q', H'⟩ | ⟨c0, c1, mc, e', fe', H'⟩
    · exact absurd mb (H' b b0 b1)
    · obtain ⟨a1, h1, h2⟩ := H b' c0 c1 mc
      obtain ⟨a2, h3, h4⟩ := H' b b0 b1 mb
      rw [fe'] at h1
      rw [fe] at h3
      cases h1
      cases h3
      omega
theorem lb_tr {m m' : Int → Prop} {fF gF : Int → Option Int} {i b : Int} (hm : ∀ k, m k ↔ m' k) (hf : ∀ k, m k → fF k = gF k) (H : lb m fF i b) : lb m' gF i b := by
  rcases H with ⟨q, H⟩ | ⟨b0, b1, mb, e, fe, H⟩
  · exact Or.inl ⟨q, fun k k0 k1 mk => H k k0 k1 ((hm k).mpr mk)⟩
  · refine Or.inr ⟨b0, b1, (hm b).mp mb, e, by rw [← hf b mb]; exact fe, fun k k0 k1 mk => ?_⟩
    obtain ⟨e', h1, h2⟩ := H k k0 k1 ((hm k).mpr mk)
    exact ⟨e', by rw [← hf k ((hm k).mpr mk)]; exact h1, h2⟩
/-- what the answer is -/
def ld_a (fK fO fA fN fF : Int → Option Int) (t p y z a : Int) : Prop := ∃ b, lb (ld_m fK fO fN fF p y z) fF t b ∧ (b = -1 → a = 0) ∧ (0 ≤ b → fA b = some a)
theorem ld_uni {fK fO fA fN fF gK gO gA gN gF : Int → Option Int} {t p y z a a' : Int} (eA : fA = gA) (hm : ∀ k, ld_m fK fO fN fF p y z k ↔ ld_m gK gO gN gF p y z k) (hf : ∀ k, ld_m fK fO fN fF p y z k → fF k = gF k) (H : ld_a fK fO fA fN fF t p y z a) (H' : ld_a gK gO gA gN gF t p y z a') : a = a' := by
  obtain ⟨b, h1, h2, h3⟩ := H
  obtain ⟨b', g1, g2, g3⟩ := H'
  have e := lb_uni (lb_tr hm hf h1) g1
  subst e
  subst eA
  by_cases q : b = -1
  · rw [h2 q, g2 q]
  · have b0 : 0 ≤ b := by
      rcases h1 with ⟨q', -⟩ | ⟨b0, -⟩
      · exact absurd q' q
      · exact b0
    exact Option.some.inj ((h3 b0).symm.trans (g3 b0))
/-- what the class has on its way: nothing yet, or day and pounds of the best -/
def xl_s (fA fF : Int → Option Int) (b m w : Int) : Prop := (b = -1 ∧ m = 0 ∧ w = -1) ∨ (0 ≤ b ∧ fA b = some m ∧ fF b = some w)
theorem xl_loop {cst : am_K} {strs : List Nat} {D : Nat} {M : am_M} {h0 : am_H} (c : hp_C cst strs D) (hM : m_P[66]? = some M) (hD : (2 : Int) ≤ (D : Int) + 1) {t p y z : Int} (t0 : 0 ≤ t) (t1 : t ≤ 300) (p0 : -2147483648 ≤ p) (p1 : p ≤ 2147483647) (y0 : -2147483648 ≤ y) (y1 : y ≤ 2147483647) (z0 : -2147483648 ≤ z) (z1 : z ≤ 2147483647) (hy0 : ly_hy m_tt ly_TH h0) (hF : ∀ k e, ly_hv cst h0 2304 k = some 0 → ly_hv cst h0 3072 k = some e → 0 ≤ e) : ∀ (N : Nat) (h : am_H) (l : am_L) (i b m w : Int), (t - i).toNat < N → 0 ≤ i → i ≤ t → ly_hy m_tt ly_TH h → ly_fr cst [] h0 h → ly_hv cst h 1537 0 = some t → lb (ld_m (ly_hv cst h0 2304) (ly_hv cst h0 2560) (ly_hv cst h0 3328) (ly_hv cst h0 3072) p y z) (ly_hv cst h0 3072) i b → xl_s (ly_hv cst h0 2816) (ly_hv cst h0 3072) b m w → -2147483648 ≤ m → m ≤ 2147483647 → -1 ≤ w → w ≤ 2147483647 → hp_a l 0 22 → hp_i l 1 p → hp_i l 2 y → hp_i l 3 z → hp_i l 4 m → hp_i l 5 w → hp_i l 6 i → hp_F cst strs (dd_Φ cst h0 (fun a => ld_a (ly_hv cst h0 2304) (ly_hv cst h0 2560) (ly_hv cst h0 2816) (ly_hv cst h0 3328) (ly_hv cst h0 3072) t p y z a)) D M 9 l [] h := by
  intro N
  induction N with
  | zero => intro h l i b m w hN; omega
  | succ N ih =>
    intro h l i b m w hN i0 i1 hy fr kt hb hs m0 m1 w0 w1 l0 l1 l2 l3 l4 l5 l6
    have eK : ly_hv cst h 2304 = ly_hv cst h0 2304 := hp_same (show ly_ths ly_TH 9 = some (.inl (.int, 300, -2147483648, 2147483647)) from rfl) rfl hy0 hy fr
    have eO : ly_hv cst h 2560 = ly_hv cst h0 2560 := hp_same (show ly_ths ly_TH 10 = some (.inl (.int, 300, -2147483648, 2147483647)) from rfl) rfl hy0 hy fr
    have eA : ly_hv cst h 2816 = ly_hv cst h0 2816 := hp_same (show ly_ths ly_TH 11 = some (.inl (.int, 300, -2147483648, 2147483647)) from rfl) rfl hy0 hy fr
    have eF : ly_hv cst h 3072 = ly_hv cst h0 3072 := hp_same (show ly_ths ly_TH 12 = some (.inl (.int, 300, -2147483648, 2147483647)) from rfl) rfl hy0 hy fr
    have eN : ly_hv cst h 3328 = ly_hv cst h0 3328 := hp_same (show ly_ths ly_TH 13 = some (.inl (.int, 300, -2147483648, 2147483647)) from rfl) rfl hy0 hy fr
    by_cases hi : i = t
    · subst hi
      exact xlf c hM hD hy p y z m w i p0 p1 y0 y1 z0 z1 m0 m1 w0 w1 t0 t1 kt l0 l1 l2 l3 l4 l5 l6 (fun h2 a ha u1 u2 u3 => ⟨a, rfl, rfl, rfl, u1, ly_fr_tr fr u2, b, hb, fun q => by
        rw [ha]
        rcases hs with ⟨-, s2, -⟩ | ⟨s1, -⟩
        · exact s2
        · omega, fun q => by
        rw [ha]
        rcases hs with ⟨s1, -⟩ | ⟨-, s2, -⟩
        · omega
        · exact s2⟩)
    · skip
      obtain ⟨xa, ka, a0, a1⟩ := hp_row (cst := cst) (i := i) hy (show ly_ths ly_TH 9 = some (.inl (.int, 300, -2147483648, 2147483647)) from rfl) i0 (by omega)
      have ka' : ly_hv cst h0 2304 i = some xa := by rw [← eK]; exact ka
      obtain ⟨xb, kb, b0, b1⟩ := hp_row (cst := cst) (i := i) hy (show ly_ths ly_TH 10 = some (.inl (.int, 300, -2147483648, 2147483647)) from rfl) i0 (by omega)
      have kb' : ly_hv cst h0 2560 i = some xb := by rw [← eO]; exact kb
      obtain ⟨xg, kg, g0, g1⟩ := hp_row (cst := cst) (i := i) hy (show ly_ths ly_TH 13 = some (.inl (.int, 300, -2147483648, 2147483647)) from rfl) i0 (by omega)
      have kg' : ly_hv cst h0 3328 i = some xg := by rw [← eN]; exact kg
      obtain ⟨xe, ke, e0, e1⟩ := hp_row (cst := cst) (i := i) hy (show ly_ths ly_TH 12 = some (.inl (.int, 300, -2147483648, 2147483647)) from rfl) i0 (by omega)
      have ke' : ly_hv cst h0 3072 i = some xe := by rw [← eF]; exact ke
      obtain ⟨xd, kd, d0, d1⟩ := hp_row (cst := cst) (i := i) hy (show ly_ths ly_TH 11 = some (.inl (.int, 300, -2147483648, 2147483647)) from rfl) i0 (by omega)
      have kd' : ly_hv cst h0 2816 i = some xd := by rw [← eA]; exact kd
      have next : (¬ (ld_m (ly_hv cst h0 2304) (ly_hv cst h0 2560) (ly_hv cst h0 3328) (ly_hv cst h0 3072) p y z) i) → ∀ (l2' : am_L) (h2 : am_H), ly_hy m_tt ly_TH h2 → ly_fr cst [] h h2 → h.length ≤ h2.length → hp_a l2' 0 22 → hp_i l2' 1 p → hp_i l2' 2 y → hp_i l2' 3 z → hp_i l2' 4 m → hp_i l2' 5 w → hp_i l2' 6 (i + 1) → hp_F cst strs (dd_Φ cst h0 (fun a => ld_a (ly_hv cst h0 2304) (ly_hv cst h0 2560) (ly_hv cst h0 2816) (ly_hv cst h0 3328) (ly_hv cst h0 3072) t p y z a)) D M 9 l2' [] h2 := fun nm l2' h2 u1 u2 u3 v0 v1 v2 v3 v4 v5 v6 => ih h2 l2' (i + 1) b m w (by omega) (by omega) (by omega) u1 (ly_fr_tr fr u2) (u2 _ _ _ rfl kt) (lb_no hb nm) hs m0 m1 w0 w1 v0 v1 v2 v3 v4 v5 v6
      by_cases qa : xa = 0
      rotate_left
      · exact xlb c hM hD hy p y z m w t i xa p0 p1 y0 y1 z0 z1 m0 m1 w0 w1 t0 t1 i0 (by omega) a0 a1 (by omega) kt ka (hp_ne (by omega)) l0 l1 l2 l3 l4 l5 l6 (next (fun m => by
          have := m.1
          rw [ka'] at this
          cases this
          exact qa rfl))
      subst qa
      by_cases qb : xb = p
      rotate_left
      · exact xlc c hM hD hy p y z m w t i xb p0 p1 y0 y1 z0 z1 m0 m1 w0 w1 t0 t1 i0 (by omega) b0 b1 (by omega) kt ka kb (hp_ne (by omega)) l0 l1 l2 l3 l4 l5 l6 (next (fun m => by
          have := m.2.1
          rw [kb'] at this
          cases this
          exact qb rfl))
      subst qb
      by_cases qc : xg ≤ z
      rotate_left
      · exact xld c hM hD hy xb y z m w t i xg p0 p1 y0 y1 z0 z1 m0 m1 w0 w1 t0 t1 i0 (by omega) g0 g1 (by omega) (by omega) kt ka kb kg l0 l1 l2 l3 l4 l5 l6 (next (fun m => by
          obtain ⟨-, -, ⟨b', hb', lb'⟩, -⟩ := m
          rw [kg'] at hb'
          cases hb'
          exact qc lb'))
      by_cases qd : xe ≤ y
      rotate_left
      · exact xle c hM hD hy xb y z m w t i xg xe p0 p1 y0 y1 z0 z1 m0 m1 w0 w1 t0 t1 i0 (by omega) g0 g1 e0 e1 (by omega) (by omega) (by omega) kt ka kb kg ke l0 l1 l2 l3 l4 l5 l6 (next (fun m => by
          obtain ⟨-, -, -, b', hb', lb'⟩ := m
          rw [ke'] at hb'
          cases hb'
          exact qd lb'))
      have mi : (ld_m (ly_hv cst h0 2304) (ly_hv cst h0 2560) (ly_hv cst h0 3328) (ly_hv cst h0 3072) xb y z) i := ⟨ka', kb', ⟨xg, kg', qc⟩, ⟨xe, ke', qd⟩⟩
      have pos := hF i xe ka' ke'
      by_cases qe : w ≤ xe
      · exact xla c hM hD hy xb y z m w t i xd xg xe p0 p1 y0 y1 z0 z1 m0 m1 w0 w1 t0 t1 i0 (by omega) d0 d1 g0 g1 e0 e1 (by omega) (by omega) (by omega) (by omega) kt ka kb kg ke kd l0 l1 l2 l3 l4 l5 l6 (fun l2' h2 u1 u2 u3 v0 v1 v2 v3 v4 v5 v6 => ih h2 l2' (i + 1) i xd xe (by omega) (by omega) (by omega) u1 (ly_fr_tr fr u2) (u2 _ _ _ rfl kt) (by
          rcases hs with ⟨s1, -, -⟩ | ⟨s1, s2, s3⟩
          · subst s1
            exact lb_first i0 hb mi ke'
          · exact lb_yes i0 hb s1 mi ke' s3 qe) (Or.inr ⟨i0, kd', ke'⟩) d0 d1 (by omega) e1 v0 v1 v2 v3 v4 v5 v6)
      · exact xlg c hM hD hy xb y z m w t i xg xe p0 p1 y0 y1 z0 z1 m0 m1 w0 w1 t0 t1 i0 (by omega) g0 g1 e0 e1 (by omega) (by omega) (by omega) kt ka kb kg ke l0 l1 l2 l3 l4 l5 l6 (fun l2' h2 u1 u2 u3 v0 v1 v2 v3 v4 v5 v6 => ih h2 l2' (i + 1) b m w (by omega) (by omega) (by omega) u1 (ly_fr_tr fr u2) (u2 _ _ _ rfl kt) (by
          rcases hs with ⟨s1, s2, s3⟩ | ⟨s1, s2, s3⟩
          · omega
          · exact lb_low hb s1 ke' s3 (by omega)) hs m0 m1 w0 w1 v0 v1 v2 v3 v4 v5 v6)
theorem xm_loop {cst : am_K} {strs : List Nat} {D : Nat} {M : am_M} {h0 : am_H} (c : hp_C cst strs D) (hM : m_P[292]? = some M) (hD : (2 : Int) ≤ (D : Int) + 1) {t p y z : Int} (t0 : 0 ≤ t) (t1 : t ≤ 300) (p0 : -2147483648 ≤ p) (p1 : p ≤ 2147483647) (y0 : -2147483648 ≤ y) (y1 : y ≤ 2147483647) (z0 : -2147483648 ≤ z) (z1 : z ≤ 2147483647) (hy0 : ly_hy m_tt ly_TH h0) : ∀ (N : Nat) (h : am_H) (l : am_L) (i b : Int), (t - i).toNat < N → 0 ≤ i → i ≤ t → ly_hy m_tt ly_TH h → ly_fr cst [] h0 h → ly_hv cst h 19982 0 = some t → lb (ld_m (ly_hv cst h0 21248) (ly_hv cst h0 21504) (ly_hv cst h0 22528) (ly_hv cst h0 22272) p y z) (ly_hv cst h0 22272) i b → hp_a l 0 94 → hp_i l 1 p → hp_i l 2 y → hp_i l 3 z → hp_i l 4 b → hp_i l 5 i → hp_F cst strs (dd_Φ cst h0 (fun a => ld_a (ly_hv cst h0 21248) (ly_hv cst h0 21504) (ly_hv cst h0 22016) (ly_hv cst h0 22528) (ly_hv cst h0 22272) t p y z a)) D M 6 l [] h := by
  intro N
  induction N with
  | zero => intro h l i b hN; omega
  | succ N ih =>
    intro h l i b hN i0 i1 hy fr kt hb l0 l1 l2 l3 l4 l5
    have bb : b = -1 ∨ (0 ≤ b ∧ b < i) := by
      rcases hb with ⟨q, -⟩ | ⟨q1, q2, -⟩
      · exact Or.inl q
      · exact Or.inr ⟨q1, q2⟩
    have eK : ly_hv cst h 21248 = ly_hv cst h0 21248 := hp_same (show ly_ths ly_TH 83 = some (.inl (.int, 300, -2147483648, 2147483647)) from rfl) rfl hy0 hy fr
    have eO : ly_hv cst h 21504 = ly_hv cst h0 21504 := hp_same (show ly_ths ly_TH 84 = some (.inl (.int, 300, -2147483648, 2147483647)) from rfl) rfl hy0 hy fr
    have eA : ly_hv cst h 22016 = ly_hv cst h0 22016 := hp_same (show ly_ths ly_TH 86 = some (.inl (.int, 300, -2147483648, 2147483647)) from rfl) rfl hy0 hy fr
    have eF : ly_hv cst h 22272 = ly_hv cst h0 22272 := hp_same (show ly_ths ly_TH 87 = some (.inl (.int, 300, -2147483648, 2147483647)) from rfl) rfl hy0 hy fr
    have eN : ly_hv cst h 22528 = ly_hv cst h0 22528 := hp_same (show ly_ths ly_TH 88 = some (.inl (.int, 300, -2147483648, 2147483647)) from rfl) rfl hy0 hy fr
    by_cases hi : i = t
    · subst hi
      rcases bb with q | ⟨q1, q2⟩
      · subst q
        exact xmf c hM hD hy p y z i p0 p1 y0 y1 z0 z1 t0 t1 kt l0 l1 l2 l3 l4 l5 (fun h2 a ha u1 u2 u3 => ⟨a, rfl, rfl, rfl, u1, ly_fr_tr fr u2, -1, hb, fun _ => ha, fun q => by omega⟩)
      · obtain ⟨xd, kd, d0, d1⟩ := hp_row (cst := cst) (i := b) hy (show ly_ths ly_TH 86 = some (.inl (.int, 300, -2147483648, 2147483647)) from rfl) q1 (by omega)
        exact xmi c hM hD hy p y z b i xd p0 p1 y0 y1 z0 z1 q1 (by omega) t0 t1 d0 d1 kt kd l0 l1 l2 l3 l4 l5 (fun h2 a ha u1 u2 u3 => ⟨a, rfl, rfl, rfl, u1, ly_fr_tr fr u2, b, hb, fun q => by omega, fun _ => by rw [ha, ← eA]; exact kd⟩)
    · skip
      obtain ⟨xa, ka, a0, a1⟩ := hp_row (cst := cst) (i := i) hy (show ly_ths ly_TH 83 = some (.inl (.int, 300, -2147483648, 2147483647)) from rfl) i0 (by omega)
      have ka' : ly_hv cst h0 21248 i = some xa := by rw [← eK]; exact ka
      obtain ⟨xb, kb, b0, b1⟩ := hp_row (cst := cst) (i := i) hy (show ly_ths ly_TH 84 = some (.inl (.int, 300, -2147483648, 2147483647)) from rfl) i0 (by omega)
      have kb' : ly_hv cst h0 21504 i = some xb := by rw [← eO]; exact kb
      obtain ⟨xg, kg, g0, g1⟩ := hp_row (cst := cst) (i := i) hy (show ly_ths ly_TH 88 = some (.inl (.int, 300, -2147483648, 2147483647)) from rfl) i0 (by omega)
      have kg' : ly_hv cst h0 22528 i = some xg := by rw [← eN]; exact kg
      obtain ⟨xe, ke, e0, e1⟩ := hp_row (cst := cst) (i := i) hy (show ly_ths ly_TH 87 = some (.inl (.int, 300, -2147483648, 2147483647)) from rfl) i0 (by omega)
      have ke' : ly_hv cst h0 22272 i = some xe := by rw [← eF]; exact ke
      obtain ⟨xd, kd, d0, d1⟩ := hp_row (cst := cst) (i := i) hy (show ly_ths ly_TH 86 = some (.inl (.int, 300, -2147483648, 2147483647)) from rfl) i0 (by omega)
      have kd' : ly_hv cst h0 22016 i = some xd := by rw [← eA]; exact kd
      have next : (¬ (ld_m (ly_hv cst h0 21248) (ly_hv cst h0 21504) (ly_hv cst h0 22528) (ly_hv cst h0 22272) p y z) i) → ∀ (l2' : am_L) (h2 : am_H), ly_hy m_tt ly_TH h2 → ly_fr cst [] h h2 → h.length ≤ h2.length → hp_a l2' 0 94 → hp_i l2' 1 p → hp_i l2' 2 y → hp_i l2' 3 z → hp_i l2' 4 b → hp_i l2' 5 (i + 1) → hp_F cst strs (dd_Φ cst h0 (fun a => ld_a (ly_hv cst h0 21248) (ly_hv cst h0 21504) (ly_hv cst h0 22016) (ly_hv cst h0 22528) (ly_hv cst h0 22272) t p y z a)) D M 6 l2' [] h2 := fun nm l2' h2 u1 u2 u3 v0 v1 v2 v3 v4 v5 => ih h2 l2' (i + 1) b (by omega) (by omega) (by omega) u1 (ly_fr_tr fr u2) (u2 _ _ _ rfl kt) (lb_no hb nm) v0 v1 v2 v3 v4 v5
      by_cases qa : xa = 0
      rotate_left
      · exact xmb c hM hD hy p y z b t i xa p0 p1 y0 y1 z0 z1 (by omega) (by omega) t0 t1 i0 (by omega) a0 a1 (by omega) kt ka (hp_ne (by omega)) l0 l1 l2 l3 l4 l5 (next (fun m => by
          have := m.1
          rw [ka'] at this
          cases this
          exact qa rfl))
      subst qa
      by_cases qb : xb = p
      rotate_left
      · exact xmc c hM hD hy p y z b t i xb p0 p1 y0 y1 z0 z1 (by omega) (by omega) t0 t1 i0 (by omega) b0 b1 (by omega) kt ka kb (hp_ne (by omega)) l0 l1 l2 l3 l4 l5 (next (fun m => by
          have := m.2.1
          rw [kb'] at this
          cases this
          exact qb rfl))
      subst qb
      by_cases qc : xg ≤ z
      rotate_left
      · exact xmd c hM hD hy xb y z b t i xg p0 p1 y0 y1 z0 z1 (by omega) (by omega) t0 t1 i0 (by omega) g0 g1 (by omega) (by omega) kt ka kb kg l0 l1 l2 l3 l4 l5 (next (fun m => by
          obtain ⟨-, -, ⟨b', hb', lb'⟩, -⟩ := m
          rw [kg'] at hb'
          cases hb'
          exact qc lb'))
      by_cases qd : xe ≤ y
      rotate_left
      · exact xme c hM hD hy xb y z b t i xg xe p0 p1 y0 y1 z0 z1 (by omega) (by omega) t0 t1 i0 (by omega) g0 g1 e0 e1 (by omega) (by omega) (by omega) kt ka kb kg ke l0 l1 l2 l3 l4 l5 (next (fun m => by
          obtain ⟨-, -, -, b', hb', lb'⟩ := m
          rw [ke'] at hb'
          cases hb'
          exact qd lb'))
      have mi : (ld_m (ly_hv cst h0 21248) (ly_hv cst h0 21504) (ly_hv cst h0 22528) (ly_hv cst h0 22272) xb y z) i := ⟨ka', kb', ⟨xg, kg', qc⟩, ⟨xe, ke', qd⟩⟩
      rcases bb with q | ⟨q1, q2⟩
      · subst q
        exact xma c hM hD hy xb y z t i xg xe p0 p1 y0 y1 z0 z1 t0 t1 i0 (by omega) g0 g1 e0 e1 (by omega) (by omega) (by omega) kt ka kb kg ke l0 l1 l2 l3 l4 l5 (fun l2' h2 u1 u2 u3 v0 v1 v2 v3 v4 v5 => ih h2 l2' (i + 1) i (by omega) (by omega) (by omega) u1 (ly_fr_tr fr u2) (u2 _ _ _ rfl kt) (lb_first i0 hb mi ke') v0 v1 v2 v3 v4 v5)
      · obtain ⟨xf, kf, f0, f1⟩ := hp_row (cst := cst) (i := b) hy (show ly_ths ly_TH 87 = some (.inl (.int, 300, -2147483648, 2147483647)) from rfl) q1 (by omega)
        have kf' : ly_hv cst h0 22272 b = some xf := by rw [← eF]; exact kf
        by_cases qe : xf ≤ xe
        · exact xmh c hM hD hy xb y z b t i xg xe xf p0 p1 y0 y1 z0 z1 q1 (by omega) t0 t1 i0 (by omega) g0 g1 e0 e1 f0 f1 (by omega) (by omega) (by omega) (by omega) kt ka kb kg ke kf l0 l1 l2 l3 l4 l5 (fun l2' h2 u1 u2 u3 v0 v1 v2 v3 v4 v5 => ih h2 l2' (i + 1) i (by omega) (by omega) (by omega) u1 (ly_fr_tr fr u2) (u2 _ _ _ rfl kt) (lb_yes i0 hb q1 mi ke' kf' qe) v0 v1 v2 v3 v4 v5)
        · exact xmg c hM hD hy xb y z b t i xg xe xf p0 p1 y0 y1 z0 z1 q1 (by omega) t0 t1 i0 (by omega) g0 g1 e0 e1 f0 f1 (by omega) (by omega) (by omega) (by omega) kt ka kb kg ke kf l0 l1 l2 l3 l4 l5 (fun l2' h2 u1 u2 u3 v0 v1 v2 v3 v4 v5 => ih h2 l2' (i + 1) b (by omega) (by omega) (by omega) u1 (ly_fr_tr fr u2) (u2 _ _ _ rfl kt) (lb_low hb q1 ke' kf' (by omega)) v0 v1 v2 v3 v4 v5)
theorem xl_run {cst : am_K} {strs : List Nat} {D : Nat} {h : am_H} (c : hp_C cst strs D) (hD : (2 : Int) ≤ (D : Int) + 1) (hy : ly_hy m_tt ly_TH h) {xp xy xz : Int32} {t : Int} (t0 : 0 ≤ t) (t1 : t ≤ 300) (kt : ly_hv cst h 1537 0 = some t) (hF : ∀ k e, ly_hv cst h 2304 k = some 0 → ly_hv cst h 3072 k = some e → 0 ≤ e) :
    ∃ r, am_Run cst m_cl m_tt m_P strs sx_bi (D + 1) 66 [.ref 22, .int xp, .int xy, .int xz] h r ∧ dd_Φ cst h (fun a => ld_a (ly_hv cst h 2304) (ly_hv cst h 2560) (ly_hv cst h 2816) (ly_hv cst h 3328) (ly_hv cst h 3072) t xp.toInt xy.toInt xz.toInt a) r := by
  obtain ⟨M, hM, hl⟩ := hp_M (mi := 66) (k := 4) (by decide +kernel)
  have go : hp_F cst strs (dd_Φ cst h (fun a => ld_a (ly_hv cst h 2304) (ly_hv cst h 2560) (ly_hv cst h 2816) (ly_hv cst h 3328) (ly_hv cst h 3072) t xp.toInt xy.toInt xz.toInt a)) D M 0 (lv_args 0 [.ref 22, .int xp, .int xy, .int xz]) [] h :=
    xl0 c hM hD hy xp.toInt xy.toInt xz.toInt xp.le_toInt xp.toInt_le xy.le_toInt xy.toInt_le xz.le_toInt xz.toInt_le rfl ⟨xp, rfl, rfl⟩ ⟨xy, rfl, rfl⟩ ⟨xz, rfl, rfl⟩ (fun l' h2 u1 u2 u3 w0 w1 w2 w3 w4 w5 w6 => xl_loop c hM hD t0 t1 xp.le_toInt xp.toInt_le xy.le_toInt xy.toInt_le xz.le_toInt xz.toInt_le hy hF ((t - 0).toNat + 1) h2 l' 0 (-1) 0 (-1) (Nat.lt_succ_self _) (by omega) t0 u1 u2 (u2 _ _ _ rfl kt) (lb_0 _ _) (Or.inl ⟨rfl, rfl, rfl⟩) (by omega) (by omega) (by omega) (by omega) w0 w1 w2 w3 w4 w5 w6)
  obtain ⟨n, r, hgo, a, r1, r2, r3, r4⟩ := go
  simp only [Nat.zero_add] at r2 r3
  exact ⟨r, Or.inr ⟨M, n, hM, hl, hgo⟩, a, r1, r2, r3, r4⟩
theorem xl_on {cst : am_K} {strs : List Nat} {D : Nat} {h : am_H} (c1 : hp_C cst strs D) (c : hp_C cst strs (D + 1)) (hD : (3 : Int) ≤ (D : Int) + 1) (hy : ly_hy m_tt ly_TH h) {xp xy xz : Int32} {t u : Int} (t0 : 0 ≤ t) (t1 : t ≤ 300) (kt : ly_hv cst h 1537 0 = some t) (u0 : 0 ≤ u) (u1 : u ≤ 120) (ku : ly_hv cst h 1536 0 = some u) (hF : ∀ k e, ly_hv cst h 2304 k = some 0 → ly_hv cst h 3072 k = some e → 0 ≤ e) :
    ∃ r, am_Run cst m_cl m_tt m_P strs sx_bi (D + 1 + 1) 65 [.ref 16, .int xp, .int xy, .int xz] h r ∧ dd_Φ cst h (fun a => (¬ dd_ok xp.toInt xy.toInt xz.toInt u → a = -2) ∧ (dd_ok xp.toInt xy.toInt xz.toInt u → ld_a (ly_hv cst h 2304) (ly_hv cst h 2560) (ly_hv cst h 2816) (ly_hv cst h 3328) (ly_hv cst h 3072) t xp.toInt xy.toInt xz.toInt a)) r := by
  obtain ⟨M, hM, hl⟩ := hp_M (mi := 65) (k := 4) (by decide +kernel)
  have a0 := xp.le_toInt
  have a1 := xp.toInt_le
  have b0 := xy.le_toInt
  have b1 := xy.toInt_le
  have e0 := xz.le_toInt
  have e1 := xz.toInt_le
  have go : hp_F cst strs (dd_Φ cst h (fun a => (¬ dd_ok xp.toInt xy.toInt xz.toInt u → a = -2) ∧ (dd_ok xp.toInt xy.toInt xz.toInt u → ld_a (ly_hv cst h 2304) (ly_hv cst h 2560) (ly_hv cst h 2816) (ly_hv cst h 3328) (ly_hv cst h 3072) t xp.toInt xy.toInt xz.toInt a))) (D + 1) M 0 (lv_args 0 [.ref 16, .int xp, .int xy, .int xz]) [] h := by
    have no : ¬ dd_ok xp.toInt xy.toInt xz.toInt u → ∀ (h2 : am_H) (w : Int32), w.toInt = -2 → ly_hy m_tt ly_TH h2 → ly_fr cst [] h h2 → h.length ≤ h2.length → dd_Φ cst h (fun a => (¬ dd_ok xp.toInt xy.toInt xz.toInt u → a = -2) ∧ (dd_ok xp.toInt xy.toInt xz.toInt u → ld_a (ly_hv cst h 2304) (ly_hv cst h 2560) (ly_hv cst h 2816) (ly_hv cst h 3328) (ly_hv cst h 3072) t xp.toInt xy.toInt xz.toInt a)) (some (.int w), h2, 0, 0) := fun nk h2 w hw g1 g2 g3 => ⟨w, rfl, rfl, rfl, g1, g2, fun _ => hw, fun ok => absurd ok nk⟩
    by_cases p1 : xp.toInt ≤ -1
    · exact xlo0 c hM (by omega) hy xp.toInt xy.toInt xz.toInt u a0 p1 b0 b1 e0 e1 u0 u1 ku rfl ⟨xp, rfl, rfl⟩ ⟨xy, rfl, rfl⟩ ⟨xz, rfl, rfl⟩ (no (fun k => by have := k.1; omega))
    by_cases p2 : u ≤ xp.toInt
    · exact xlo1 c hM (by omega) hy xp.toInt xy.toInt xz.toInt u (by omega) a1 b0 b1 e0 e1 u0 u1 (by omega) ku rfl ⟨xp, rfl, rfl⟩ ⟨xy, rfl, rfl⟩ ⟨xz, rfl, rfl⟩ (no (fun k => by have := k.2.1; omega))
    by_cases p3 : xy.toInt ≤ -1
    · exact xlo2 c hM (by omega) hy xp.toInt xy.toInt xz.toInt u (by omega) (by omega) b0 p3 e0 e1 u0 u1 (by omega) ku rfl ⟨xp, rfl, rfl⟩ ⟨xy, rfl, rfl⟩ ⟨xz, rfl, rfl⟩ (no (fun k => by have := k.2.2.1; omega))
    by_cases p4 : 400 ≤ xy.toInt
    · exact xlo3 c hM (by omega) hy xp.toInt xy.toInt xz.toInt u (by omega) (by omega) p4 b1 e0 e1 u0 u1 (by omega) ku rfl ⟨xp, rfl, rfl⟩ ⟨xy, rfl, rfl⟩ ⟨xz, rfl, rfl⟩ (no (fun k => by have := k.2.2.2.1; omega))
    by_cases p5 : xz.toInt ≤ -1
    · exact xlo4 c hM (by omega) hy xp.toInt xy.toInt xz.toInt u (by omega) (by omega) (by omega) (by omega) e0 p5 u0 u1 (by omega) ku rfl ⟨xp, rfl, rfl⟩ ⟨xy, rfl, rfl⟩ ⟨xz, rfl, rfl⟩ (no (fun k => by have := k.2.2.2.2.1; omega))
    by_cases p6 : 400 ≤ xz.toInt
    · exact xlo5 c hM (by omega) hy xp.toInt xy.toInt xz.toInt u (by omega) (by omega) (by omega) (by omega) p6 e1 u0 u1 (by omega) ku rfl ⟨xp, rfl, rfl⟩ ⟨xy, rfl, rfl⟩ ⟨xz, rfl, rfl⟩ (no (fun k => by have := k.2.2.2.2.2; omega))
    have ok : dd_ok xp.toInt xy.toInt xz.toInt u := ⟨by omega, by omega, by omega, by omega, by omega, by omega⟩
    refine xlo6 c hM (by omega) hy xp.toInt xy.toInt xz.toInt u (by omega) (by omega) (by omega) (by omega) (by omega) (by omega) u0 u1 (by omega) ku rfl ⟨xp, rfl, rfl⟩ ⟨xy, rfl, rfl⟩ ⟨xz, rfl, rfl⟩ (fun l' h2 w0 w1 w2 f0 f1 f2 g1 g2 g3 j0 => ?_)
    have s0 : ly_hv cst h2 2304 = ly_hv cst h 2304 := hp_same (show ly_ths ly_TH 9 = some (.inl (.int, 300, -2147483648, 2147483647)) from rfl) rfl hy g1 g2
    have s1 : ly_hv cst h2 2560 = ly_hv cst h 2560 := hp_same (show ly_ths ly_TH 10 = some (.inl (.int, 300, -2147483648, 2147483647)) from rfl) rfl hy g1 g2
    have s2 : ly_hv cst h2 2816 = ly_hv cst h 2816 := hp_same (show ly_ths ly_TH 11 = some (.inl (.int, 300, -2147483648, 2147483647)) from rfl) rfl hy g1 g2
    have s3 : ly_hv cst h2 3328 = ly_hv cst h 3328 := hp_same (show ly_ths ly_TH 13 = some (.inl (.int, 300, -2147483648, 2147483647)) from rfl) rfl hy g1 g2
    have s4 : ly_hv cst h2 3072 = ly_hv cst h 3072 := hp_same (show ly_ths ly_TH 12 = some (.inl (.int, 300, -2147483648, 2147483647)) from rfl) rfl hy g1 g2
    obtain ⟨r, hrun, a, r1, r2, r3, rhy, rfr, ra⟩ := xl_run (xp := w2) (xy := w1) (xz := w0) c1 (by omega) g1 t0 t1 (g2 _ _ _ rfl kt) (fun k e => by rw [s0, s4]; exact hF k e)
    refine hp_call (mi := 65) (pc := 35) (tg := 66) (na := 4) (c := 6) (ci := 2) (st0 := [.int w0, .int w1, .int w2, .ref 22]) (st := []) (av := [.int w2, .int w1, .int w0]) hM (by decide +kernel) g1 rfl rfl rfl (by decide) hrun r2 r3 ?_
    rw [r1]
    rw [f0, f1, f2, s0, s1, s2, s3, s4] at ra
    exact xlo7 c hM (by omega) rhy a.toInt a rfl a.le_toInt a.toInt_le j0 (fun h3 w hw v1 v2 v3 => ⟨w, rfl, rfl, rfl, v1, ly_fr_tr g2 (ly_fr_tr rfr v2), fun nk => absurd ok nk, fun _ => by rw [hw]; exact ra⟩)
  obtain ⟨n, r, hgo, a, r1, r2, r3, r4⟩ := go
  simp only [Nat.zero_add] at r2 r3
  exact ⟨r, Or.inr ⟨M, n, hM, hl, hgo⟩, a, r1, r2, r3, r4⟩
theorem xm_run {cst : am_K} {strs : List Nat} {D : Nat} {h : am_H} (c : hp_C cst strs D) (hD : (2 : Int) ≤ (D : Int) + 1) (hy : ly_hy m_tt ly_TH h) {xp xy xz : Int32} {t : Int} (t0 : 0 ≤ t) (t1 : t ≤ 300) (kt : ly_hv cst h 19982 0 = some t) :
    ∃ r, am_Run cst m_cl m_tt m_P strs sx_bi (D + 1) 292 [.ref 94, .int xp, .int xy, .int xz] h r ∧ dd_Φ cst h (fun a => ld_a (ly_hv cst h 21248) (ly_hv cst h 21504) (ly_hv cst h 22016) (ly_hv cst h 22528) (ly_hv cst h 22272) t xp.toInt xy.toInt xz.toInt a) r := by
  obtain ⟨M, hM, hl⟩ := hp_M (mi := 292) (k := 4) (by decide +kernel)
  have go : hp_F cst strs (dd_Φ cst h (fun a => ld_a (ly_hv cst h 21248) (ly_hv cst h 21504) (ly_hv cst h 22016) (ly_hv cst h 22528) (ly_hv cst h 22272) t xp.toInt xy.toInt xz.toInt a)) D M 0 (lv_args 0 [.ref 94, .int xp, .int xy, .int xz]) [] h :=
    xm0 c hM hD hy xp.toInt xy.toInt xz.toInt xp.le_toInt xp.toInt_le xy.le_toInt xy.toInt_le xz.le_toInt xz.toInt_le rfl ⟨xp, rfl, rfl⟩ ⟨xy, rfl, rfl⟩ ⟨xz, rfl, rfl⟩ (fun l' h2 u1 u2 u3 w0 w1 w2 w3 w4 w5 => xm_loop c hM hD t0 t1 xp.le_toInt xp.toInt_le xy.le_toInt xy.toInt_le xz.le_toInt xz.toInt_le hy ((t - 0).toNat + 1) h2 l' 0 (-1) (Nat.lt_succ_self _) (by omega) t0 u1 u2 (u2 _ _ _ rfl kt) (lb_0 _ _) w0 w1 w2 w3 w4 w5)
  obtain ⟨n, r, hgo, a, r1, r2, r3, r4⟩ := go
  simp only [Nat.zero_add] at r2 r3
  exact ⟨r, Or.inr ⟨M, n, hM, hl, hgo⟩, a, r1, r2, r3, r4⟩
theorem xm_on {cst : am_K} {strs : List Nat} {D : Nat} {h : am_H} (c1 : hp_C cst strs D) (c : hp_C cst strs (D + 1)) (hD : (3 : Int) ≤ (D : Int) + 1) (hy : ly_hy m_tt ly_TH h) {xp xy xz : Int32} {t u : Int} (t0 : 0 ≤ t) (t1 : t ≤ 300) (kt : ly_hv cst h 19982 0 = some t) (u0 : 0 ≤ u) (u1 : u ≤ 120) (ku : ly_hv cst h 19978 0 = some u) :
    ∃ r, am_Run cst m_cl m_tt m_P strs sx_bi (D + 1 + 1) 291 [.ref 94, .int xp, .int xy, .int xz] h r ∧ dd_Φ cst h (fun a => (¬ dd_ok xp.toInt xy.toInt xz.toInt u → a = -2) ∧ (dd_ok xp.toInt xy.toInt xz.toInt u → ld_a (ly_hv cst h 21248) (ly_hv cst h 21504) (ly_hv cst h 22016) (ly_hv cst h 22528) (ly_hv cst h 22272) t xp.toInt xy.toInt xz.toInt a)) r := by
  obtain ⟨M, hM, hl⟩ := hp_M (mi := 291) (k := 4) (by decide +kernel)
  have a0 := xp.le_toInt
  have a1 := xp.toInt_le
  have b0 := xy.le_toInt
  have b1 := xy.toInt_le
  have e0 := xz.le_toInt
  have e1 := xz.toInt_le
  have go : hp_F cst strs (dd_Φ cst h (fun a => (¬ dd_ok xp.toInt xy.toInt xz.toInt u → a = -2) ∧ (dd_ok xp.toInt xy.toInt xz.toInt u → ld_a (ly_hv cst h 21248) (ly_hv cst h 21504) (ly_hv cst h 22016) (ly_hv cst h 22528) (ly_hv cst h 22272) t xp.toInt xy.toInt xz.toInt a))) (D + 1) M 0 (lv_args 0 [.ref 94, .int xp, .int xy, .int xz]) [] h := by
    have no : ¬ dd_ok xp.toInt xy.toInt xz.toInt u → ∀ (h2 : am_H) (w : Int32), w.toInt = -2 → ly_hy m_tt ly_TH h2 → ly_fr cst [] h h2 → h.length ≤ h2.length → dd_Φ cst h (fun a => (¬ dd_ok xp.toInt xy.toInt xz.toInt u → a = -2) ∧ (dd_ok xp.toInt xy.toInt xz.toInt u → ld_a (ly_hv cst h 21248) (ly_hv cst h 21504) (ly_hv cst h 22016) (ly_hv cst h 22528) (ly_hv cst h 22272) t xp.toInt xy.toInt xz.toInt a)) (some (.int w), h2, 0, 0) := fun nk h2 w hw g1 g2 g3 => ⟨w, rfl, rfl, rfl, g1, g2, fun _ => hw, fun ok => absurd ok nk⟩
    by_cases p1 : xp.toInt ≤ -1
    · exact xmo0 c hM (by omega) hy xp.toInt xy.toInt xz.toInt u a0 p1 b0 b1 e0 e1 u0 u1 ku rfl ⟨xp, rfl, rfl⟩ ⟨xy, rfl, rfl⟩ ⟨xz, rfl, rfl⟩ (no (fun k => by have := k.1; omega))
    by_cases p2 : u ≤ xp.toInt
    · exact xmo1 c hM (by omega) hy xp.toInt xy.toInt xz.toInt u (by omega) a1 b0 b1 e0 e1 u0 u1 (by omega) ku rfl ⟨xp, rfl, rfl⟩ ⟨xy, rfl, rfl⟩ ⟨xz, rfl, rfl⟩ (no (fun k => by have := k.2.1; omega))
    by_cases p3 : xy.toInt ≤ -1
    · exact xmo2 c hM (by omega) hy xp.toInt xy.toInt xz.toInt u (by omega) (by omega) b0 p3 e0 e1 u0 u1 (by omega) ku rfl ⟨xp, rfl, rfl⟩ ⟨xy, rfl, rfl⟩ ⟨xz, rfl, rfl⟩ (no (fun k => by have := k.2.2.1; omega))
    by_cases p4 : 400 ≤ xy.toInt
    · exact xmo3 c hM (by omega) hy xp.toInt xy.toInt xz.toInt u (by omega) (by omega) p4 b1 e0 e1 u0 u1 (by omega) ku rfl ⟨xp, rfl, rfl⟩ ⟨xy, rfl, rfl⟩ ⟨xz, rfl, rfl⟩ (no (fun k => by have := k.2.2.2.1; omega))
    by_cases p5 : xz.toInt ≤ -1
    · exact xmo4 c hM (by omega) hy xp.toInt xy.toInt xz.toInt u (by omega) (by omega) (by omega) (by omega) e0 p5 u0 u1 (by omega) ku rfl ⟨xp, rfl, rfl⟩ ⟨xy, rfl, rfl⟩ ⟨xz, rfl, rfl⟩ (no (fun k => by have := k.2.2.2.2.1; omega))
    by_cases p6 : 400 ≤ xz.toInt
    · exact xmo5 c hM (by omega) hy xp.toInt xy.toInt xz.toInt u (by omega) (by omega) (by omega) (by omega) p6 e1 u0 u1 (by omega) ku rfl ⟨xp, rfl, rfl⟩ ⟨xy, rfl, rfl⟩ ⟨xz, rfl, rfl⟩ (no (fun k => by have := k.2.2.2.2.2; omega))
    have ok : dd_ok xp.toInt xy.toInt xz.toInt u := ⟨by omega, by omega, by omega, by omega, by omega, by omega⟩
    refine xmo6 c hM (by omega) hy xp.toInt xy.toInt xz.toInt u (by omega) (by omega) (by omega) (by omega) (by omega) (by omega) u0 u1 (by omega) ku rfl ⟨xp, rfl, rfl⟩ ⟨xy, rfl, rfl⟩ ⟨xz, rfl, rfl⟩ (fun l' h2 w0 w1 w2 f0 f1 f2 g1 g2 g3 j0 => ?_)
    have s0 : ly_hv cst h2 21248 = ly_hv cst h 21248 := hp_same (show ly_ths ly_TH 83 = some (.inl (.int, 300, -2147483648, 2147483647)) from rfl) rfl hy g1 g2
    have s1 : ly_hv cst h2 21504 = ly_hv cst h 21504 := hp_same (show ly_ths ly_TH 84 = some (.inl (.int, 300, -2147483648, 2147483647)) from rfl) rfl hy g1 g2
    have s2 : ly_hv cst h2 22016 = ly_hv cst h 22016 := hp_same (show ly_ths ly_TH 86 = some (.inl (.int, 300, -2147483648, 2147483647)) from rfl) rfl hy g1 g2
    have s3 : ly_hv cst h2 22528 = ly_hv cst h 22528 := hp_same (show ly_ths ly_TH 88 = some (.inl (.int, 300, -2147483648, 2147483647)) from rfl) rfl hy g1 g2
    have s4 : ly_hv cst h2 22272 = ly_hv cst h 22272 := hp_same (show ly_ths ly_TH 87 = some (.inl (.int, 300, -2147483648, 2147483647)) from rfl) rfl hy g1 g2
    obtain ⟨r, hrun, a, r1, r2, r3, rhy, rfr, ra⟩ := xm_run (xp := w2) (xy := w1) (xz := w0) c1 (by omega) g1 t0 t1 (g2 _ _ _ rfl kt)
    refine hp_call (mi := 291) (pc := 26) (tg := 292) (na := 4) (c := 78) (ci := 12) (st0 := [.int w0, .int w1, .int w2, .ref 94]) (st := []) (av := [.int w2, .int w1, .int w0]) hM (by decide +kernel) g1 rfl rfl rfl (by decide) hrun r2 r3 ?_
    rw [r1]
    rw [f0, f1, f2, s0, s1, s2, s3, s4] at ra
    exact xmo7 c hM (by omega) rhy a.toInt a rfl a.le_toInt a.toInt_le j0 (fun h3 w hw v1 v2 v3 => ⟨w, rfl, rfl, rfl, v1, ly_fr_tr g2 (ly_fr_tr rfr v2), fun nk => absurd ok nk, fun _ => by rw [hw]; exact ra⟩)
  obtain ⟨n, r, hgo, a, r1, r2, r3, r4⟩ := go
  simp only [Nat.zero_add] at r2 r3
  exact ⟨r, Or.inr ⟨M, n, hM, hl, hgo⟩, a, r1, r2, r3, r4⟩
