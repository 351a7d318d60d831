/-! PRINTED by wip/p2/hp_dead.py: isDead and deadOn of class and reference, exactly -/
theorem dc0_k : hp_chk 33 0 3 [(0, (-2147483648), 2147483647), (1, (-2147483648), 2147483647), (2, (-2147483648), 2147483647)] [] [(0, .inr (.inr (.inl (some 22)))), (1, .inl (0, [(0, 1)])), (2, .inl (0, [(1, 1)])), (3, .inl (0, [(2, 1)]))] [] [] [] 2 [(3, ([], 3, [(0, (-2147483648), 2147483647), (1, (-2147483648), 2147483647), (2, (-2147483648), 2147483647)], [], [(0, .inr (.inr (.inl (some 22)))), (1, .inl (0, [(0, 1)])), (2, .inl (0, [(1, 1)])), (3, .inl (0, [(2, 1)])), (4, .inl (0, []))], [], []))] [] = true := by decide +kernel
theorem dc0 {cst : am_K} {strs : List Nat} {Φ : am_Q → Prop} {D : Nat} {M : am_M} {h : am_H} {l : am_L} (c : hp_C cst strs D) (hM : m_P[33]? = some M) (hD : (2 : Int) ≤ (D : Int) + 1) (hy : ly_hy m_tt ly_TH h) (p y z : Int) (b0 : (-2147483648) ≤ p) (t0 : p ≤ 2147483647) (b1 : (-2147483648) ≤ y) (t1 : y ≤ 2147483647) (b2 : (-2147483648) ≤ z) (t2 : z ≤ 2147483647) (l0 : hp_a l 0 22) (l1 : hp_i l 1 (p)) (l2 : hp_i l 2 (y)) (l3 : hp_i l 3 (z)) (e0 : ∀ (l' : am_L) (h' : am_H), ly_hy m_tt ly_TH h' → ly_fr cst [] h h' → h.length ≤ h'.length → hp_a l' 0 22 → hp_i l' 1 (p) → hp_i l' 2 (y) → hp_i l' 3 (z) → hp_i l' 4 0 → hp_F cst strs Φ D M 3 l' [] h') : hp_F cst strs Φ D M 0 l [] h := by
  refine hp_arc c hM dc0_k hD [p, y, z] rfl hy (hp_Bc (z := p) rfl b0 t0 (hp_Bc (z := y) rfl b1 t1 (hp_Bc (z := z) rfl b2 t2 hp_Bn))) hp_Fn hp_Kn (hp_La l0 (hp_Li (z := (0 + (1 * p + 0))) l1 rfl (by omega) (hp_Li (z := (0 + (1 * y + 0))) l2 rfl (by omega) (hp_Li (z := (0 + (1 * z + 0))) l3 rfl (by omega) hp_Ln)))) trivial ?_ ?_
  · intro p hp ys l' st' h' hys a1 a2 a3 gZ gL gS
    rcases List.mem_cons.mp hp with rfl | hp
    · obtain rfl := hp_y0 hys
      cases hp_gSn gS
      exact e0 l' h' a1 a2 a3 (hp_gLa gL (List.mem_of_getElem? (i := 0) rfl) (by decide)) (hp_gLi (z := (0 + (1 * p + 0))) gL (List.mem_of_getElem? (i := 1) rfl) rfl (by omega)) (hp_gLi (z := (0 + (1 * y + 0))) gL (List.mem_of_getElem? (i := 2) rfl) rfl (by omega)) (hp_gLi (z := (0 + (1 * z + 0))) gL (List.mem_of_getElem? (i := 3) rfl) rfl (by omega)) (hp_gLi (z := (0 + 0)) gL (List.mem_of_getElem? (i := 4) rfl) rfl (by omega))
    cases hp
  · intro p hp ys v h' hys a1 a2 a3 gZ gS
    cases hp
theorem dca_k : hp_chk 33 3 7 [(0, (-2147483648), 2147483647), (1, (-2147483648), 2147483647), (2, (-2147483648), 2147483647), (3, 0, 300), (4, 0, 299), (5, (-2147483648), 2147483647), (6, (-2147483648), 2147483647)] [((-1), [(3, 1), (4, (-1))]), (0, [(2, 1), (5, (-1))]), (0, [(1, 1), (6, (-1))])] [(0, .inr (.inr (.inl (some 22)))), (1, .inl (0, [(0, 1)])), (2, .inl (0, [(1, 1)])), (3, .inl (0, [(2, 1)])), (4, .inl (0, [(4, 1)]))] [] [(1537, (0, []), (0, [(3, 1)])), (2304, (0, [(4, 1)]), (1, [])), (2560, (0, [(4, 1)]), (0, [(0, 1)])), (3328, (0, [(4, 1)]), (0, [(5, 1)])), (3072, (0, [(4, 1)]), (0, [(6, 1)]))] [] 2 [] [([], 7, [(0, (-2147483648), 2147483647), (1, (-2147483648), 2147483647), (2, (-2147483648), 2147483647), (3, 0, 300), (4, 0, 299), (5, (-2147483648), 2147483647), (6, (-2147483648), 2147483647)], [], [], [.inl (1, [])], [])] = true := by decide +kernel
theorem dca {cst : am_K} {strs : List Nat} {Φ : am_Q → Prop} {D : Nat} {M : am_M} {h : am_H} {l : am_L} (c : hp_C cst strs D) (hM : m_P[33]? = some M) (hD : (2 : Int) ≤ (D : Int) + 1) (hy : ly_hy m_tt ly_TH h) (p y z t i c1 e1 : Int) (b0 : (-2147483648) ≤ p) (t0 : p ≤ 2147483647) (b1 : (-2147483648) ≤ y) (t1 : y ≤ 2147483647) (b2 : (-2147483648) ≤ z) (t2 : z ≤ 2147483647) (b3 : 0 ≤ t) (t3 : t ≤ 300) (b4 : 0 ≤ i) (t4 : i ≤ 299) (b5 : (-2147483648) ≤ c1) (t5 : c1 ≤ 2147483647) (b6 : (-2147483648) ≤ e1) (t6 : e1 ≤ 2147483647) (f0 : 0 ≤ (t - i - 1)) (f1 : 0 ≤ (z - c1)) (f2 : 0 ≤ (y - e1)) (k0 : ly_hv cst h 1537 0 = some (t)) (k1 : ly_hv cst h 2304 (i) = some 1) (k2 : ly_hv cst h 2560 (i) = some (p)) (k3 : ly_hv cst h 3328 (i) = some (c1)) (k4 : ly_hv cst h 3072 (i) = some (e1)) (l0 : hp_a l 0 22) (l1 : hp_i l 1 (p)) (l2 : hp_i l 2 (y)) (l3 : hp_i l 3 (z)) (l4 : hp_i l 4 (i)) (r0 : ∀ (h' : am_H) (y0 : Int32), y0.toInt = 1 → ly_hy m_tt ly_TH h' → ly_fr cst [] h h' → h.length ≤ h'.length → Φ (some (.int y0), h', 0, 0)) : hp_F cst strs Φ D M 3 l [] h := by
  refine hp_arc c hM dca_k hD [p, y, z, t, i, c1, e1] rfl hy (hp_Bc (z := p) rfl b0 t0 (hp_Bc (z := y) rfl b1 t1 (hp_Bc (z := z) rfl b2 t2 (hp_Bc (z := t) rfl b3 t3 (hp_Bc (z := i) rfl b4 t4 (hp_Bc (z := c1) rfl b5 t5 (hp_Bc (z := e1) rfl b6 t6 hp_Bn))))))) (hp_Fc (z := ((-1) + (1 * t + ((-1) * i + 0)))) rfl (by omega) (hp_Fc (z := (0 + (1 * z + ((-1) * c1 + 0)))) rfl (by omega) (hp_Fc (z := (0 + (1 * y + ((-1) * e1 + 0)))) rfl (by omega) hp_Fn))) (hp_Kc (zi := (0 + 0)) (zv := (0 + (1 * t + 0))) k0 rfl rfl (by omega) (by omega) (hp_Kc (zi := (0 + (1 * i + 0))) (zv := (1 + 0)) k1 rfl rfl (by omega) (by omega) (hp_Kc (zi := (0 + (1 * i + 0))) (zv := (0 + (1 * p + 0))) k2 rfl rfl (by omega) (by omega) (hp_Kc (zi := (0 + (1 * i + 0))) (zv := (0 + (1 * c1 + 0))) k3 rfl rfl (by omega) (by omega) (hp_Kc (zi := (0 + (1 * i + 0))) (zv := (0 + (1 * e1 + 0))) k4 rfl rfl (by omega) (by omega) hp_Kn))))) (hp_La l0 (hp_Li (z := (0 + (1 * p + 0))) l1 rfl (by omega) (hp_Li (z := (0 + (1 * y + 0))) l2 rfl (by omega) (hp_Li (z := (0 + (1 * z + 0))) l3 rfl (by omega) (hp_Li (z := (0 + (1 * i + 0))) l4 rfl (by omega) hp_Ln))))) trivial ?_ ?_
  · intro p hp ys l' st' h' hys a1 a2 a3 gZ gL gS
    cases hp
  · intro p hp ys v h' hys a1 a2 a3 gZ gS
    rcases List.mem_cons.mp hp with rfl | hp
    · obtain rfl := hp_y0 hys
      cases v with
      | none => cases gS
      | some w =>
        obtain ⟨y0, t0, s0, q0, -⟩ := hp_gSi (z := (1 + 0)) gS rfl
        cases s0
        exact r0 h' y0 (by omega) a1 a2 a3
    cases hp
theorem dcb_k : hp_chk 33 3 6 [(0, (-2147483648), 2147483647), (1, (-2147483648), 2147483647), (2, (-2147483648), 2147483647), (3, 0, 300), (4, 0, 299), (5, (-2147483648), 2147483647)] [((-1), [(3, 1), (4, (-1))])] [(0, .inr (.inr (.inl (some 22)))), (1, .inl (0, [(0, 1)])), (2, .inl (0, [(1, 1)])), (3, .inl (0, [(2, 1)])), (4, .inl (0, [(4, 1)]))] [] [(1537, (0, []), (0, [(3, 1)])), (2304, (0, [(4, 1)]), (0, [(5, 1)])), (61000, ((-1), [(5, 1)]), (1, []))] [] 2 [(3, ([], 6, [(0, (-2147483648), 2147483647), (1, (-2147483648), 2147483647), (2, (-2147483648), 2147483647), (3, 0, 300), (4, 0, 299), (5, (-2147483648), 2147483647)], [], [(0, .inr (.inr (.inl (some 22)))), (1, .inl (0, [(0, 1)])), (2, .inl (0, [(1, 1)])), (3, .inl (0, [(2, 1)])), (4, .inl (1, [(4, 1)]))], [], []))] [] = true := by decide +kernel
theorem dcb {cst : am_K} {strs : List Nat} {Φ : am_Q → Prop} {D : Nat} {M : am_M} {h : am_H} {l : am_L} (c : hp_C cst strs D) (hM : m_P[33]? = some M) (hD : (2 : Int) ≤ (D : Int) + 1) (hy : ly_hy m_tt ly_TH h) (p y z t i a : Int) (b0 : (-2147483648) ≤ p) (t0 : p ≤ 2147483647) (b1 : (-2147483648) ≤ y) (t1 : y ≤ 2147483647) (b2 : (-2147483648) ≤ z) (t2 : z ≤ 2147483647) (b3 : 0 ≤ t) (t3 : t ≤ 300) (b4 : 0 ≤ i) (t4 : i ≤ 299) (b5 : (-2147483648) ≤ a) (t5 : a ≤ 2147483647) (f0 : 0 ≤ (t - i - 1)) (k0 : ly_hv cst h 1537 0 = some (t)) (k1 : ly_hv cst h 2304 (i) = some (a)) (k2 : ly_hv cst h 61000 (a - 1) = some 1) (l0 : hp_a l 0 22) (l1 : hp_i l 1 (p)) (l2 : hp_i l 2 (y)) (l3 : hp_i l 3 (z)) (l4 : hp_i l 4 (i)) (e0 : ∀ (l' : am_L) (h' : am_H), ly_hy m_tt ly_TH h' → ly_fr cst [] h h' → h.length ≤ h'.length → hp_a l' 0 22 → hp_i l' 1 (p) → hp_i l' 2 (y) → hp_i l' 3 (z) → hp_i l' 4 (i + 1) → hp_F cst strs Φ D M 3 l' [] h') : hp_F cst strs Φ D M 3 l [] h := by
  refine hp_arc c hM dcb_k hD [p, y, z, t, i, a] rfl hy (hp_Bc (z := p) rfl b0 t0 (hp_Bc (z := y) rfl b1 t1 (hp_Bc (z := z) rfl b2 t2 (hp_Bc (z := t) rfl b3 t3 (hp_Bc (z := i) rfl b4 t4 (hp_Bc (z := a) rfl b5 t5 hp_Bn)))))) (hp_Fc (z := ((-1) + (1 * t + ((-1) * i + 0)))) rfl (by omega) hp_Fn) (hp_Kc (zi := (0 + 0)) (zv := (0 + (1 * t + 0))) k0 rfl rfl (by omega) (by omega) (hp_Kc (zi := (0 + (1 * i + 0))) (zv := (0 + (1 * a + 0))) k1 rfl rfl (by omega) (by omega) (hp_Kc (zi := ((-1) + (1 * a + 0))) (zv := (1 + 0)) k2 rfl rfl (by omega) (by omega) hp_Kn))) (hp_La l0 (hp_Li (z := (0 + (1 * p + 0))) l1 rfl (by omega) (hp_Li (z := (0 + (1 * y + 0))) l2 rfl (by omega) (hp_Li (z := (0 + (1 * z + 0))) l3 rfl (by omega) (hp_Li (z := (0 + (1 * i + 0))) l4 rfl (by omega) hp_Ln))))) trivial ?_ ?_
  · intro p hp ys l' st' h' hys a1 a2 a3 gZ gL gS
    rcases List.mem_cons.mp hp with rfl | hp
    · obtain rfl := hp_y0 hys
      cases hp_gSn gS
      exact e0 l' h' a1 a2 a3 (hp_gLa gL (List.mem_of_getElem? (i := 0) rfl) (by decide)) (hp_gLi (z := (0 + (1 * p + 0))) gL (List.mem_of_getElem? (i := 1) rfl) rfl (by omega)) (hp_gLi (z := (0 + (1 * y + 0))) gL (List.mem_of_getElem? (i := 2) rfl) rfl (by omega)) (hp_gLi (z := (0 + (1 * z + 0))) gL (List.mem_of_getElem? (i := 3) rfl) rfl (by omega)) (hp_gLi (z := (1 + (1 * i + 0))) gL (List.mem_of_getElem? (i := 4) rfl) rfl (by omega))
    cases hp
  · intro p hp ys v h' hys a1 a2 a3 gZ gS
    cases hp
theorem dcc_k : hp_chk 33 3 6 [(0, (-2147483648), 2147483647), (1, (-2147483648), 2147483647), (2, (-2147483648), 2147483647), (3, 0, 300), (4, 0, 299), (5, (-2147483648), 2147483647)] [((-1), [(3, 1), (4, (-1))])] [(0, .inr (.inr (.inl (some 22)))), (1, .inl (0, [(0, 1)])), (2, .inl (0, [(1, 1)])), (3, .inl (0, [(2, 1)])), (4, .inl (0, [(4, 1)]))] [] [(1537, (0, []), (0, [(3, 1)])), (2304, (0, [(4, 1)]), (1, [])), (2560, (0, [(4, 1)]), (0, [(5, 1)])), (61000, (0, [(0, (-1)), (5, 1)]), (1, []))] [] 2 [(3, ([], 6, [(0, (-2147483648), 2147483647), (1, (-2147483648), 2147483647), (2, (-2147483648), 2147483647), (3, 0, 300), (4, 0, 299), (5, (-2147483648), 2147483647)], [], [(0, .inr (.inr (.inl (some 22)))), (1, .inl (0, [(0, 1)])), (2, .inl (0, [(1, 1)])), (3, .inl (0, [(2, 1)])), (4, .inl (1, [(4, 1)]))], [], []))] [] = true := by decide +kernel
theorem dcc {cst : am_K} {strs : List Nat} {Φ : am_Q → Prop} {D : Nat} {M : am_M} {h : am_H} {l : am_L} (c : hp_C cst strs D) (hM : m_P[33]? = some M) (hD : (2 : Int) ≤ (D : Int) + 1) (hy : ly_hy m_tt ly_TH h) (p y z t i b : Int) (b0 : (-2147483648) ≤ p) (t0 : p ≤ 2147483647) (b1 : (-2147483648) ≤ y) (t1 : y ≤ 2147483647) (b2 : (-2147483648) ≤ z) (t2 : z ≤ 2147483647) (b3 : 0 ≤ t) (t3 : t ≤ 300) (b4 : 0 ≤ i) (t4 : i ≤ 299) (b5 : (-2147483648) ≤ b) (t5 : b ≤ 2147483647) (f0 : 0 ≤ (t - i - 1)) (k0 : ly_hv cst h 1537 0 = some (t)) (k1 : ly_hv cst h 2304 (i) = some 1) (k2 : ly_hv cst h 2560 (i) = some (b)) (k3 : ly_hv cst h 61000 (b - p) = some 1) (l0 : hp_a l 0 22) (l1 : hp_i l 1 (p)) (l2 : hp_i l 2 (y)) (l3 : hp_i l 3 (z)) (l4 : hp_i l 4 (i)) (e0 : ∀ (l' : am_L) (h' : am_H), ly_hy m_tt ly_TH h' → ly_fr cst [] h h' → h.length ≤ h'.length → hp_a l' 0 22 → hp_i l' 1 (p) → hp_i l' 2 (y) → hp_i l' 3 (z) → hp_i l' 4 (i + 1) → hp_F cst strs Φ D M 3 l' [] h') : hp_F cst strs Φ D M 3 l [] h := by
  refine hp_arc c hM dcc_k hD [p, y, z, t, i, b] rfl hy (hp_Bc (z := p) rfl b0 t0 (hp_Bc (z := y) rfl b1 t1 (hp_Bc (z := z) rfl b2 t2 (hp_Bc (z := t) rfl b3 t3 (hp_Bc (z := i) rfl b4 t4 (hp_Bc (z := b) rfl b5 t5 hp_Bn)))))) (hp_Fc (z := ((-1) + (1 * t + ((-1) * i + 0)))) rfl (by omega) hp_Fn) (hp_Kc (zi := (0 + 0)) (zv := (0 + (1 * t + 0))) k0 rfl rfl (by omega) (by omega) (hp_Kc (zi := (0 + (1 * i + 0))) (zv := (1 + 0)) k1 rfl rfl (by omega) (by omega) (hp_Kc (zi := (0 + (1 * i + 0))) (zv := (0 + (1 * b + 0))) k2 rfl rfl (by omega) (by omega) (hp_Kc (zi := (0 + ((-1) * p + (1 * b + 0)))) (zv := (1 + 0)) k3 rfl rfl (by omega) (by omega) hp_Kn)))) (hp_La l0 (hp_Li (z := (0 + (1 * p + 0))) l1 rfl (by omega) (hp_Li (z := (0 + (1 * y + 0))) l2 rfl (by omega) (hp_Li (z := (0 + (1 * z + 0))) l3 rfl (by omega) (hp_Li (z := (0 + (1 * i + 0))) l4 rfl (by omega) hp_Ln))))) trivial ?_ ?_
  · intro p hp ys l' st' h' hys a1 a2 a3 gZ gL gS
    rcases List.mem_cons.mp hp with rfl | hp
    · obtain rfl := hp_y0 hys
      cases hp_gSn gS
      exact e0 l' h' a1 a2 a3 (hp_gLa gL (List.mem_of_getElem? (i := 0) rfl) (by decide)) (hp_gLi (z := (0 + (1 * p + 0))) gL (List.mem_of_getElem? (i := 1) rfl) rfl (by omega)) (hp_gLi (z := (0 + (1 * y + 0))) gL (List.mem_of_getElem? (i := 2) rfl) rfl (by omega)) (hp_gLi (z := (0 + (1 * z + 0))) gL (List.mem_of_getElem? (i := 3) rfl) rfl (by omega)) (hp_gLi (z := (1 + (1 * i + 0))) gL (List.mem_of_getElem? (i := 4) rfl) rfl (by omega))
    cases hp
  · intro p hp ys v h' hys a1 a2 a3 gZ gS
    cases hp
theorem dcd_k : hp_chk 33 3 6 [(0, (-2147483648), 2147483647), (1, (-2147483648), 2147483647), (2, (-2147483648), 2147483647), (3, 0, 300), (4, 0, 299), (5, (-2147483648), 2147483647)] [((-1), [(3, 1), (4, (-1))]), ((-1), [(2, (-1)), (5, 1)])] [(0, .inr (.inr (.inl (some 22)))), (1, .inl (0, [(0, 1)])), (2, .inl (0, [(1, 1)])), (3, .inl (0, [(2, 1)])), (4, .inl (0, [(4, 1)]))] [] [(1537, (0, []), (0, [(3, 1)])), (2304, (0, [(4, 1)]), (1, [])), (2560, (0, [(4, 1)]), (0, [(0, 1)])), (3328, (0, [(4, 1)]), (0, [(5, 1)]))] [] 2 [(3, ([], 6, [(0, (-2147483648), 2147483647), (1, (-2147483648), 2147483647), (2, (-2147483648), 2147483647), (3, 0, 300), (4, 0, 299), (5, (-2147483648), 2147483647)], [], [(0, .inr (.inr (.inl (some 22)))), (1, .inl (0, [(0, 1)])), (2, .inl (0, [(1, 1)])), (3, .inl (0, [(2, 1)])), (4, .inl (1, [(4, 1)]))], [], []))] [] = true := by decide +kernel
theorem dcd {cst : am_K} {strs : List Nat} {Φ : am_Q → Prop} {D : Nat} {M : am_M} {h : am_H} {l : am_L} (c : hp_C cst strs D) (hM : m_P[33]? = some M) (hD : (2 : Int) ≤ (D : Int) + 1) (hy : ly_hy m_tt ly_TH h) (p y z t i c1 : Int) (b0 : (-2147483648) ≤ p) (t0 : p ≤ 2147483647) (b1 : (-2147483648) ≤ y) (t1 : y ≤ 2147483647) (b2 : (-2147483648) ≤ z) (t2 : z ≤ 2147483647) (b3 : 0 ≤ t) (t3 : t ≤ 300) (b4 : 0 ≤ i) (t4 : i ≤ 299) (b5 : (-2147483648) ≤ c1) (t5 : c1 ≤ 2147483647) (f0 : 0 ≤ (t - i - 1)) (f1 : 0 ≤ (c1 - z - 1)) (k0 : ly_hv cst h 1537 0 = some (t)) (k1 : ly_hv cst h 2304 (i) = some 1) (k2 : ly_hv cst h 2560 (i) = some (p)) (k3 : ly_hv cst h 3328 (i) = some (c1)) (l0 : hp_a l 0 22) (l1 : hp_i l 1 (p)) (l2 : hp_i l 2 (y)) (l3 : hp_i l 3 (z)) (l4 : hp_i l 4 (i)) (e0 : ∀ (l' : am_L) (h' : am_H), ly_hy m_tt ly_TH h' → ly_fr cst [] h h' → h.length ≤ h'.length → hp_a l' 0 22 → hp_i l' 1 (p) → hp_i l' 2 (y) → hp_i l' 3 (z) → hp_i l' 4 (i + 1) → hp_F cst strs Φ D M 3 l' [] h') : hp_F cst strs Φ D M 3 l [] h := by
  refine hp_arc c hM dcd_k hD [p, y, z, t, i, c1] rfl hy (hp_Bc (z := p) rfl b0 t0 (hp_Bc (z := y) rfl b1 t1 (hp_Bc (z := z) rfl b2 t2 (hp_Bc (z := t) rfl b3 t3 (hp_Bc (z := i) rfl b4 t4 (hp_Bc (z := c1) rfl b5 t5 hp_Bn)))))) (hp_Fc (z := ((-1) + (1 * t + ((-1) * i + 0)))) rfl (by omega) (hp_Fc (z := ((-1) + ((-1) * z + (1 * c1 + 0)))) rfl (by omega) hp_Fn)) (hp_Kc (zi := (0 + 0)) (zv := (0 + (1 * t + 0))) k0 rfl rfl (by omega) (by omega) (hp_Kc (zi := (0 + (1 * i + 0))) (zv := (1 + 0)) k1 rfl rfl (by omega) (by omega) (hp_Kc (zi := (0 + (1 * i + 0))) (zv := (0 + (1 * p + 0))) k2 rfl rfl (by omega) (by omega) (hp_Kc (zi := (0 + (1 * i + 0))) (zv := (0 + (1 * c1 + 0))) k3 rfl rfl (by omega) (by omega) hp_Kn)))) (hp_La l0 (hp_Li (z := (0 + (1 * p + 0))) l1 rfl (by omega) (hp_Li (z := (0 + (1 * y + 0))) l2 rfl (by omega) (hp_Li (z := (0 + (1 * z + 0))) l3 rfl (by omega) (hp_Li (z := (0 + (1 * i + 0))) l4 rfl (by omega) hp_Ln))))) trivial ?_ ?_
  · intro p hp ys l' st' h' hys a1 a2 a3 gZ gL gS
    rcases List.mem_cons.mp hp with rfl | hp
    · obtain rfl := hp_y0 hys
      cases hp_gSn gS
      exact e0 l' h' a1 a2 a3 (hp_gLa gL (List.mem_of_getElem? (i := 0) rfl) (by decide)) (hp_gLi (z := (0 + (1 * p + 0))) gL (List.mem_of_getElem? (i := 1) rfl) rfl (by omega)) (hp_gLi (z := (0 + (1 * y + 0))) gL (List.mem_of_getElem? (i := 2) rfl) rfl (by omega)) (hp_gLi (z := (0 + (1 * z + 0))) gL (List.mem_of_getElem? (i := 3) rfl) rfl (by omega)) (hp_gLi (z := (1 + (1 * i + 0))) gL (List.mem_of_getElem? (i := 4) rfl) rfl (by omega))
    cases hp
  · intro p hp ys v h' hys a1 a2 a3 gZ gS
    cases hp
theorem dce_k : hp_chk 33 3 7 [(0, (-2147483648), 2147483647), (1, (-2147483648), 2147483647), (2, (-2147483648), 2147483647), (3, 0, 300), (4, 0, 299), (5, (-2147483648), 2147483647), (6, (-2147483648), 2147483647)] [((-1), [(3, 1), (4, (-1))]), (0, [(2, 1), (5, (-1))]), ((-1), [(1, (-1)), (6, 1)])] [(0, .inr (.inr (.inl (some 22)))), (1, .inl (0, [(0, 1)])), (2, .inl (0, [(1, 1)])), (3, .inl (0, [(2, 1)])), (4, .inl (0, [(4, 1)]))] [] [(1537, (0, []), (0, [(3, 1)])), (2304, (0, [(4, 1)]), (1, [])), (2560, (0, [(4, 1)]), (0, [(0, 1)])), (3328, (0, [(4, 1)]), (0, [(5, 1)])), (3072, (0, [(4, 1)]), (0, [(6, 1)]))] [] 2 [(3, ([], 7, [(0, (-2147483648), 2147483647), (1, (-2147483648), 2147483647), (2, (-2147483648), 2147483647), (3, 0, 300), (4, 0, 299), (5, (-2147483648), 2147483647), (6, (-2147483648), 2147483647)], [], [(0, .inr (.inr (.inl (some 22)))), (1, .inl (0, [(0, 1)])), (2, .inl (0, [(1, 1)])), (3, .inl (0, [(2, 1)])), (4, .inl (1, [(4, 1)]))], [], []))] [] = true := by decide +kernel
theorem dce {cst : am_K} {strs : List Nat} {Φ : am_Q → Prop} {D : Nat} {M : am_M} {h : am_H} {l : am_L} (c : hp_C cst strs D) (hM : m_P[33]? = some M) (hD : (2 : Int) ≤ (D : Int) + 1) (hy : ly_hy m_tt ly_TH h) (p y z t i c1 e1 : Int) (b0 : (-2147483648) ≤ p) (t0 : p ≤ 2147483647) (b1 : (-2147483648) ≤ y) (t1 : y ≤ 2147483647) (b2 : (-2147483648) ≤ z) (t2 : z ≤ 2147483647) (b3 : 0 ≤ t) (t3 : t ≤ 300) (b4 : 0 ≤ i) (t4 : i ≤ 299) (b5 : (-2147483648) ≤ c1) (t5 : c1 ≤ 2147483647) (b6 : (-2147483648) ≤ e1) (t6 : e1 ≤ 2147483647) (f0 : 0 ≤ (t - i - 1)) (f1 : 0 ≤ (z - c1)) (f2 : 0 ≤ (e1 - y - 1)) (k0 : ly_hv cst h 1537 0 = some (t)) (k1 : ly_hv cst h 2304 (i) = some 1) (k2 : ly_hv cst h 2560 (i) = some (p)) (k3 : ly_hv cst h 3328 (i) = some (c1)) (k4 : ly_hv cst h 3072 (i) = some (e1)) (l0 : hp_a l 0 22) (l1 : hp_i l 1 (p)) (l2 : hp_i l 2 (y)) (l3 : hp_i l 3 (z)) (l4 : hp_i l 4 (i)) (e0 : ∀ (l' : am_L) (h' : am_H), ly_hy m_tt ly_TH h' → ly_fr cst [] h h' → h.length ≤ h'.length → hp_a l' 0 22 → hp_i l' 1 (p) → hp_i l' 2 (y) → hp_i l' 3 (z) → hp_i l' 4 (i + 1) → hp_F cst strs Φ D M 3 l' [] h') : hp_F cst strs Φ D M 3 l [] h := by
  refine hp_arc c hM dce_k hD [p, y, z, t, i, c1, e1] rfl hy (hp_Bc (z := p) rfl b0 t0 (hp_Bc (z := y) rfl b1 t1 (hp_Bc (z := z) rfl b2 t2 (hp_Bc (z := t) rfl b3 t3 (hp_Bc (z := i) rfl b4 t4 (hp_Bc (z := c1) rfl b5 t5 (hp_Bc (z := e1) rfl b6 t6 hp_Bn))))))) (hp_Fc (z := ((-1) + (1 * t + ((-1) * i + 0)))) rfl (by omega) (hp_Fc (z := (0 + (1 * z + ((-1) * c1 + 0)))) rfl (by omega) (hp_Fc (z := ((-1) + ((-1) * y + (1 * e1 + 0)))) rfl (by omega) hp_Fn))) (hp_Kc (zi := (0 + 0)) (zv := (0 + (1 * t + 0))) k0 rfl rfl (by omega) (by omega) (hp_Kc (zi := (0 + (1 * i + 0))) (zv := (1 + 0)) k1 rfl rfl (by omega) (by omega) (hp_Kc (zi := (0 + (1 * i + 0))) (zv := (0 + (1 * p + 0))) k2 rfl rfl (by omega) (by omega) (hp_Kc (zi := (0 + (1 * i + 0))) (zv := (0 + (1 * c1 + 0))) k3 rfl rfl (by omega) (by omega) (hp_Kc (zi := (0 + (1 * i + 0))) (zv := (0 + (1 * e1 + 0))) k4 rfl rfl (by omega) (by omega) hp_Kn))))) (hp_La l0 (hp_Li (z := (0 + (1 * p + 0))) l1 rfl (by omega) (hp_Li (z := (0 + (1 * y + 0))) l2 rfl (by omega) (hp_Li (z := (0 + (1 * z + 0))) l3 rfl (by omega) (hp_Li (z := (0 + (1 * i + 0))) l4 rfl (by omega) hp_Ln))))) trivial ?_ ?_
  · intro p hp ys l' st' h' hys a1 a2 a3 gZ gL gS
    rcases List.mem_cons.mp hp with rfl | hp
    · obtain rfl := hp_y0 hys
      cases hp_gSn gS
      exact e0 l' h' a1 a2 a3 (hp_gLa gL (List.mem_of_getElem? (i := 0) rfl) (by decide)) (hp_gLi (z := (0 + (1 * p + 0))) gL (List.mem_of_getElem? (i := 1) rfl) rfl (by omega)) (hp_gLi (z := (0 + (1 * y + 0))) gL (List.mem_of_getElem? (i := 2) rfl) rfl (by omega)) (hp_gLi (z := (0 + (1 * z + 0))) gL (List.mem_of_getElem? (i := 3) rfl) rfl (by omega)) (hp_gLi (z := (1 + (1 * i + 0))) gL (List.mem_of_getElem? (i := 4) rfl) rfl (by omega))
    cases hp
  · intro p hp ys v h' hys a1 a2 a3 gZ gS
    cases hp
theorem dcf_k : hp_chk 33 3 4 [(0, (-2147483648), 2147483647), (1, (-2147483648), 2147483647), (2, (-2147483648), 2147483647), (3, 0, 300)] [] [(0, .inr (.inr (.inl (some 22)))), (1, .inl (0, [(0, 1)])), (2, .inl (0, [(1, 1)])), (3, .inl (0, [(2, 1)])), (4, .inl (0, [(3, 1)]))] [] [(1537, (0, []), (0, [(3, 1)]))] [] 2 [] [([], 4, [(0, (-2147483648), 2147483647), (1, (-2147483648), 2147483647), (2, (-2147483648), 2147483647), (3, 0, 300)], [], [], [.inl (0, [])], [])] = true := by decide +kernel
theorem dcf {cst : am_K} {strs : List Nat} {Φ : am_Q → Prop} {D : Nat} {M : am_M} {h : am_H} {l : am_L} (c : hp_C cst strs D) (hM : m_P[33]? = some M) (hD : (2 : Int) ≤ (D : Int) + 1) (hy : ly_hy m_tt ly_TH h) (p y z t : Int) (b0 : (-2147483648) ≤ p) (t0 : p ≤ 2147483647) (b1 : (-2147483648) ≤ y) (t1 : y ≤ 2147483647) (b2 : (-2147483648) ≤ z) (t2 : z ≤ 2147483647) (b3 : 0 ≤ t) (t3 : t ≤ 300) (k0 : ly_hv cst h 1537 0 = some (t)) (l0 : hp_a l 0 22) (l1 : hp_i l 1 (p)) (l2 : hp_i l 2 (y)) (l3 : hp_i l 3 (z)) (l4 : hp_i l 4 (t)) (r0 : ∀ (h' : am_H) (y0 : Int32), y0.toInt = 0 → ly_hy m_tt ly_TH h' → ly_fr cst [] h h' → h.length ≤ h'.length → Φ (some (.int y0), h', 0, 0)) : hp_F cst strs Φ D M 3 l [] h := by
  refine hp_arc c hM dcf_k hD [p, y, z, t] rfl hy (hp_Bc (z := p) rfl b0 t0 (hp_Bc (z := y) rfl b1 t1 (hp_Bc (z := z) rfl b2 t2 (hp_Bc (z := t) rfl b3 t3 hp_Bn)))) hp_Fn (hp_Kc (zi := (0 + 0)) (zv := (0 + (1 * t + 0))) k0 rfl rfl (by omega) (by omega) hp_Kn) (hp_La l0 (hp_Li (z := (0 + (1 * p + 0))) l1 rfl (by omega) (hp_Li (z := (0 + (1 * y + 0))) l2 rfl (by omega) (hp_Li (z := (0 + (1 * z + 0))) l3 rfl (by omega) (hp_Li (z := (0 + (1 * t + 0))) l4 rfl (by omega) hp_Ln))))) trivial ?_ ?_
  · intro p hp ys l' st' h' hys a1 a2 a3 gZ gL gS
    cases hp
  · intro p hp ys v h' hys a1 a2 a3 gZ gS
    rcases List.mem_cons.mp hp with rfl | hp
    · obtain rfl := hp_y0 hys
      cases v with
      | none => cases gS
      | some w =>
        obtain ⟨y0, t0, s0, q0, -⟩ := hp_gSi (z := (0 + 0)) gS rfl
        cases s0
        exact r0 h' y0 (by omega) a1 a2 a3
    cases hp
theorem dco0_k : hp_chk 67 0 4 [(0, (-2147483648), (-1)), (1, (-2147483648), 2147483647), (2, (-2147483648), 2147483647), (3, 0, 120)] [] [(0, .inr (.inr (.inl (some 16)))), (1, .inl (0, [(0, 1)])), (2, .inl (0, [(1, 1)])), (3, .inl (0, [(2, 1)]))] [] [(1536, (0, []), (0, [(3, 1)]))] [] 4 [] [([], 4, [(0, (-2147483648), (-1)), (1, (-2147483648), 2147483647), (2, (-2147483648), 2147483647), (3, 0, 120)], [], [], [.inl ((-2), [])], [])] = true := by decide +kernel
theorem dco0 {cst : am_K} {strs : List Nat} {Φ : am_Q → Prop} {D : Nat} {M : am_M} {h : am_H} {l : am_L} (c : hp_C cst strs D) (hM : m_P[67]? = some M) (hD : (4 : Int) ≤ (D : Int) + 1) (hy : ly_hy m_tt ly_TH h) (p y z u : Int) (b0 : (-2147483648) ≤ p) (t0 : p ≤ (-1)) (b1 : (-2147483648) ≤ y) (t1 : y ≤ 2147483647) (b2 : (-2147483648) ≤ z) (t2 : z ≤ 2147483647) (b3 : 0 ≤ u) (t3 : u ≤ 120) (k0 : ly_hv cst h 1536 0 = some (u)) (l0 : hp_a l 0 16) (l1 : hp_i l 1 (p)) (l2 : hp_i l 2 (y)) (l3 : hp_i l 3 (z)) (r0 : ∀ (h' : am_H) (y0 : Int32), y0.toInt = (-2) → ly_hy m_tt ly_TH h' → ly_fr cst [] h h' → h.length ≤ h'.length → Φ (some (.int y0), h', 0, 0)) : hp_F cst strs Φ D M 0 l [] h := by
  refine hp_arc c hM dco0_k hD [p, y, z, u] rfl hy (hp_Bc (z := p) rfl b0 t0 (hp_Bc (z := y) rfl b1 t1 (hp_Bc (z := z) rfl b2 t2 (hp_Bc (z := u) rfl b3 t3 hp_Bn)))) hp_Fn (hp_Kc (zi := (0 + 0)) (zv := (0 + (1 * u + 0))) k0 rfl rfl (by omega) (by omega) hp_Kn) (hp_La l0 (hp_Li (z := (0 + (1 * p + 0))) l1 rfl (by omega) (hp_Li (z := (0 + (1 * y + 0))) l2 rfl (by omega) (hp_Li (z := (0 + (1 * z + 0))) l3 rfl (by omega) hp_Ln)))) trivial ?_ ?_
  · intro p hp ys l' st' h' hys a1 a2 a3 gZ gL gS
    cases hp
  · intro p hp ys v h' hys a1 a2 a3 gZ gS
    rcases List.mem_cons.mp hp with rfl | hp
    · obtain rfl := hp_y0 hys
      cases v with
      | none => cases gS
      | some w =>
        obtain ⟨y0, t0, s0, q0, -⟩ := hp_gSi (z := ((-2) + 0)) gS rfl
        cases s0
        exact r0 h' y0 (by omega) a1 a2 a3
    cases hp
theorem dco1_k : hp_chk 67 0 4 [(0, 0, 2147483647), (1, (-2147483648), 2147483647), (2, (-2147483648), 2147483647), (3, 0, 120)] [(0, [(0, 1), (3, (-1))])] [(0, .inr (.inr (.inl (some 16)))), (1, .inl (0, [(0, 1)])), (2, .inl (0, [(1, 1)])), (3, .inl (0, [(2, 1)]))] [] [(1536, (0, []), (0, [(3, 1)]))] [] 4 [] [([], 4, [(0, 0, 2147483647), (1, (-2147483648), 2147483647), (2, (-2147483648), 2147483647), (3, 0, 120)], [], [], [.inl ((-2), [])], [])] = true := by decide +kernel
theorem dco1 {cst : am_K} {strs : List Nat} {Φ : am_Q → Prop} {D : Nat} {M : am_M} {h : am_H} {l : am_L} (c : hp_C cst strs D) (hM : m_P[67]? = some M) (hD : (4 : Int) ≤ (D : Int) + 1) (hy : ly_hy m_tt ly_TH h) (p y z u : Int) (b0 : 0 ≤ p) (t0 : p ≤ 2147483647) (b1 : (-2147483648) ≤ y) (t1 : y ≤ 2147483647) (b2 : (-2147483648) ≤ z) (t2 : z ≤ 2147483647) (b3 : 0 ≤ u) (t3 : u ≤ 120) (f0 : 0 ≤ (p - u)) (k0 : ly_hv cst h 1536 0 = some (u)) (l0 : hp_a l 0 16) (l1 : hp_i l 1 (p)) (l2 : hp_i l 2 (y)) (l3 : hp_i l 3 (z)) (r0 : ∀ (h' : am_H) (y0 : Int32), y0.toInt = (-2) → ly_hy m_tt ly_TH h' → ly_fr cst [] h h' → h.length ≤ h'.length → Φ (some (.int y0), h', 0, 0)) : hp_F cst strs Φ D M 0 l [] h := by
  refine hp_arc c hM dco1_k hD [p, y, z, u] rfl hy (hp_Bc (z := p) rfl b0 t0 (hp_Bc (z := y) rfl b1 t1 (hp_Bc (z := z) rfl b2 t2 (hp_Bc (z := u) rfl b3 t3 hp_Bn)))) (hp_Fc (z := (0 + (1 * p + ((-1) * u + 0)))) rfl (by omega) hp_Fn) (hp_Kc (zi := (0 + 0)) (zv := (0 + (1 * u + 0))) k0 rfl rfl (by omega) (by omega) hp_Kn) (hp_La l0 (hp_Li (z := (0 + (1 * p + 0))) l1 rfl (by omega) (hp_Li (z := (0 + (1 * y + 0))) l2 rfl (by omega) (hp_Li (z := (0 + (1 * z + 0))) l3 rfl (by omega) hp_Ln)))) trivial ?_ ?_
  · intro p hp ys l' st' h' hys a1 a2 a3 gZ gL gS
    cases hp
  · intro p hp ys v h' hys a1 a2 a3 gZ gS
    rcases List.mem_cons.mp hp with rfl | hp
    · obtain rfl := hp_y0 hys
      cases v with
      | none => cases gS
      | some w =>
        obtain ⟨y0, t0, s0, q0, -⟩ := hp_gSi (z := ((-2) + 0)) gS rfl
        cases s0
        exact r0 h' y0 (by omega) a1 a2 a3
    cases hp
theorem dco2_k : hp_chk 67 0 4 [(0, 0, 119), (1, (-2147483648), (-1)), (2, (-2147483648), 2147483647), (3, 0, 120)] [((-1), [(0, (-1)), (3, 1)])] [(0, .inr (.inr (.inl (some 16)))), (1, .inl (0, [(0, 1)])), (2, .inl (0, [(1, 1)])), (3, .inl (0, [(2, 1)]))] [] [(1536, (0, []), (0, [(3, 1)]))] [] 4 [] [([], 4, [(0, 0, 119), (1, (-2147483648), (-1)), (2, (-2147483648), 2147483647), (3, 0, 120)], [], [], [.inl ((-2), [])], [])] = true := by decide +kernel
theorem dco2 {cst : am_K} {strs : List Nat} {Φ : am_Q → Prop} {D : Nat} {M : am_M} {h : am_H} {l : am_L} (c : hp_C cst strs D) (hM : m_P[67]? = some M) (hD : (4 : Int) ≤ (D : Int) + 1) (hy : ly_hy m_tt ly_TH h) (p y z u : Int) (b0 : 0 ≤ p) (t0 : p ≤ 119) (b1 : (-2147483648) ≤ y) (t1 : y ≤ (-1)) (b2 : (-2147483648) ≤ z) (t2 : z ≤ 2147483647) (b3 : 0 ≤ u) (t3 : u ≤ 120) (f0 : 0 ≤ (u - p - 1)) (k0 : ly_hv cst h 1536 0 = some (u)) (l0 : hp_a l 0 16) (l1 : hp_i l 1 (p)) (l2 : hp_i l 2 (y)) (l3 : hp_i l 3 (z)) (r0 : ∀ (h' : am_H) (y0 : Int32), y0.toInt = (-2) → ly_hy m_tt ly_TH h' → ly_fr cst [] h h' → h.length ≤ h'.length → Φ (some (.int y0), h', 0, 0)) : hp_F cst strs Φ D M 0 l [] h := by
  refine hp_arc c hM dco2_k hD [p, y, z, u] rfl hy (hp_Bc (z := p) rfl b0 t0 (hp_Bc (z := y) rfl b1 t1 (hp_Bc (z := z) rfl b2 t2 (hp_Bc (z := u) rfl b3 t3 hp_Bn)))) (hp_Fc (z := ((-1) + ((-1) * p + (1 * u + 0)))) rfl (by omega) hp_Fn) (hp_Kc (zi := (0 + 0)) (zv := (0 + (1 * u + 0))) k0 rfl rfl (by omega) (by omega) hp_Kn) (hp_La l0 (hp_Li (z := (0 + (1 * p + 0))) l1 rfl (by omega) (hp_Li (z := (0 + (1 * y + 0))) l2 rfl (by omega) (hp_Li (z := (0 + (1 * z + 0))) l3 rfl (by omega) hp_Ln)))) trivial ?_ ?_
  · intro p hp ys l' st' h' hys a1 a2 a3 gZ gL gS
    cases hp
  · intro p hp ys v h' hys a1 a2 a3 gZ gS
    rcases List.mem_cons.mp hp with rfl | hp
    · obtain rfl := hp_y0 hys
      cases v with
      | none => cases gS
      | some w =>
        obtain ⟨y0, t0, s0, q0, -⟩ := hp_gSi (z := ((-2) + 0)) gS rfl
        cases s0
        exact r0 h' y0 (by omega) a1 a2 a3
    cases hp
theorem dco3_k : hp_chk 67 0 4 [(0, 0, 119), (1, 400, 2147483647), (2, (-2147483648), 2147483647), (3, 0, 120)] [((-1), [(0, (-1)), (3, 1)])] [(0, .inr (.inr (.inl (some 16)))), (1, .inl (0, [(0, 1)])), (2, .inl (0, [(1, 1)])), (3, .inl (0, [(2, 1)]))] [] [(1536, (0, []), (0, [(3, 1)]))] [] 4 [] [([], 4, [(0, 0, 119), (1, 400, 2147483647), (2, (-2147483648), 2147483647), (3, 0, 120)], [], [], [.inl ((-2), [])], [])] = true := by decide +kernel
theorem dco3 {cst : am_K} {strs : List Nat} {Φ : am_Q → Prop} {D : Nat} {M : am_M} {h : am_H} {l : am_L} (c : hp_C cst strs D) (hM : m_P[67]? = some M) (hD : (4 : Int) ≤ (D : Int) + 1) (hy : ly_hy m_tt ly_TH h) (p y z u : Int) (b0 : 0 ≤ p) (t0 : p ≤ 119) (b1 : 400 ≤ y) (t1 : y ≤ 2147483647) (b2 : (-2147483648) ≤ z) (t2 : z ≤ 2147483647) (b3 : 0 ≤ u) (t3 : u ≤ 120) (f0 : 0 ≤ (u - p - 1)) (k0 : ly_hv cst h 1536 0 = some (u)) (l0 : hp_a l 0 16) (l1 : hp_i l 1 (p)) (l2 : hp_i l 2 (y)) (l3 : hp_i l 3 (z)) (r0 : ∀ (h' : am_H) (y0 : Int32), y0.toInt = (-2) → ly_hy m_tt ly_TH h' → ly_fr cst [] h h' → h.length ≤ h'.length → Φ (some (.int y0), h', 0, 0)) : hp_F cst strs Φ D M 0 l [] h := by
  refine hp_arc c hM dco3_k hD [p, y, z, u] rfl hy (hp_Bc (z := p) rfl b0 t0 (hp_Bc (z := y) rfl b1 t1 (hp_Bc (z := z) rfl b2 t2 (hp_Bc (z := u) rfl b3 t3 hp_Bn)))) (hp_Fc (z := ((-1) + ((-1) * p + (1 * u + 0)))) rfl (by omega) hp_Fn) (hp_Kc (zi := (0 + 0)) (zv := (0 + (1 * u + 0))) k0 rfl rfl (by omega) (by omega) hp_Kn) (hp_La l0 (hp_Li (z := (0 + (1 * p + 0))) l1 rfl (by omega) (hp_Li (z := (0 + (1 * y + 0))) l2 rfl (by omega) (hp_Li (z := (0 + (1 * z + 0))) l3 rfl (by omega) hp_Ln)))) trivial ?_ ?_
  · intro p hp ys l' st' h' hys a1 a2 a3 gZ gL gS
    cases hp
  · intro p hp ys v h' hys a1 a2 a3 gZ gS
    rcases List.mem_cons.mp hp with rfl | hp
    · obtain rfl := hp_y0 hys
      cases v with
      | none => cases gS
      | some w =>
        obtain ⟨y0, t0, s0, q0, -⟩ := hp_gSi (z := ((-2) + 0)) gS rfl
        cases s0
        exact r0 h' y0 (by omega) a1 a2 a3
    cases hp
theorem dco4_k : hp_chk 67 0 4 [(0, 0, 119), (1, 0, 399), (2, (-2147483648), (-1)), (3, 0, 120)] [((-1), [(0, (-1)), (3, 1)])] [(0, .inr (.inr (.inl (some 16)))), (1, .inl (0, [(0, 1)])), (2, .inl (0, [(1, 1)])), (3, .inl (0, [(2, 1)]))] [] [(1536, (0, []), (0, [(3, 1)]))] [] 4 [] [([], 4, [(0, 0, 119), (1, 0, 399), (2, (-2147483648), (-1)), (3, 0, 120)], [], [], [.inl ((-2), [])], [])] = true := by decide +kernel
theorem dco4 {cst : am_K} {strs : List Nat} {Φ : am_Q → Prop} {D : Nat} {M : am_M} {h : am_H} {l : am_L} (c : hp_C cst strs D) (hM : m_P[67]? = some M) (hD : (4 : Int) ≤ (D : Int) + 1) (hy : ly_hy m_tt ly_TH h) (p y z u : Int) (b0 : 0 ≤ p) (t0 : p ≤ 119) (b1 : 0 ≤ y) (t1 : y ≤ 399) (b2 : (-2147483648) ≤ z) (t2 : z ≤ (-1)) (b3 : 0 ≤ u) (t3 : u ≤ 120) (f0 : 0 ≤ (u - p - 1)) (k0 : ly_hv cst h 1536 0 = some (u)) (l0 : hp_a l 0 16) (l1 : hp_i l 1 (p)) (l2 : hp_i l 2 (y)) (l3 : hp_i l 3 (z)) (r0 : ∀ (h' : am_H) (y0 : Int32), y0.toInt = (-2) → ly_hy m_tt ly_TH h' → ly_fr cst [] h h' → h.length ≤ h'.length → Φ (some (.int y0), h', 0, 0)) : hp_F cst strs Φ D M 0 l [] h := by
  refine hp_arc c hM dco4_k hD [p, y, z, u] rfl hy (hp_Bc (z := p) rfl b0 t0 (hp_Bc (z := y) rfl b1 t1 (hp_Bc (z := z) rfl b2 t2 (hp_Bc (z := u) rfl b3 t3 hp_Bn)))) (hp_Fc (z := ((-1) + ((-1) * p + (1 * u + 0)))) rfl (by omega) hp_Fn) (hp_Kc (zi := (0 + 0)) (zv := (0 + (1 * u + 0))) k0 rfl rfl (by omega) (by omega) hp_Kn) (hp_La l0 (hp_Li (z := (0 + (1 * p + 0))) l1 rfl (by omega) (hp_Li (z := (0 + (1 * y + 0))) l2 rfl (by omega) (hp_Li (z := (0 + (1 * z + 0))) l3 rfl (by omega) hp_Ln)))) trivial ?_ ?_
  · intro p hp ys l' st' h' hys a1 a2 a3 gZ gL gS
    cases hp
  · intro p hp ys v h' hys a1 a2 a3 gZ gS
    rcases List.mem_cons.mp hp with rfl | hp
    · obtain rfl := hp_y0 hys
      cases v with
      | none => cases gS
      | some w =>
        obtain ⟨y0, t0, s0, q0, -⟩ := hp_gSi (z := ((-2) + 0)) gS rfl
        cases s0
        exact r0 h' y0 (by omega) a1 a2 a3
    cases hp
theorem dco5_k : hp_chk 67 0 4 [(0, 0, 119), (1, 0, 399), (2, 400, 2147483647), (3, 0, 120)] [((-1), [(0, (-1)), (3, 1)])] [(0, .inr (.inr (.inl (some 16)))), (1, .inl (0, [(0, 1)])), (2, .inl (0, [(1, 1)])), (3, .inl (0, [(2, 1)]))] [] [(1536, (0, []), (0, [(3, 1)]))] [] 4 [] [([], 4, [(0, 0, 119), (1, 0, 399), (2, 400, 2147483647), (3, 0, 120)], [], [], [.inl ((-2), [])], [])] = true := by decide +kernel
theorem dco5 {cst : am_K} {strs : List Nat} {Φ : am_Q → Prop} {D : Nat} {M : am_M} {h : am_H} {l : am_L} (c : hp_C cst strs D) (hM : m_P[67]? = some M) (hD : (4 : Int) ≤ (D : Int) + 1) (hy : ly_hy m_tt ly_TH h) (p y z u : Int) (b0 : 0 ≤ p) (t0 : p ≤ 119) (b1 : 0 ≤ y) (t1 : y ≤ 399) (b2 : 400 ≤ z) (t2 : z ≤ 2147483647) (b3 : 0 ≤ u) (t3 : u ≤ 120) (f0 : 0 ≤ (u - p - 1)) (k0 : ly_hv cst h 1536 0 = some (u)) (l0 : hp_a l 0 16) (l1 : hp_i l 1 (p)) (l2 : hp_i l 2 (y)) (l3 : hp_i l 3 (z)) (r0 : ∀ (h' : am_H) (y0 : Int32), y0.toInt = (-2) → ly_hy m_tt ly_TH h' → ly_fr cst [] h h' → h.length ≤ h'.length → Φ (some (.int y0), h', 0, 0)) : hp_F cst strs Φ D M 0 l [] h := by
  refine hp_arc c hM dco5_k hD [p, y, z, u] rfl hy (hp_Bc (z := p) rfl b0 t0 (hp_Bc (z := y) rfl b1 t1 (hp_Bc (z := z) rfl b2 t2 (hp_Bc (z := u) rfl b3 t3 hp_Bn)))) (hp_Fc (z := ((-1) + ((-1) * p + (1 * u + 0)))) rfl (by omega) hp_Fn) (hp_Kc (zi := (0 + 0)) (zv := (0 + (1 * u + 0))) k0 rfl rfl (by omega) (by omega) hp_Kn) (hp_La l0 (hp_Li (z := (0 + (1 * p + 0))) l1 rfl (by omega) (hp_Li (z := (0 + (1 * y + 0))) l2 rfl (by omega) (hp_Li (z := (0 + (1 * z + 0))) l3 rfl (by omega) hp_Ln)))) trivial ?_ ?_
  · intro p hp ys l' st' h' hys a1 a2 a3 gZ gL gS
    cases hp
  · intro p hp ys v h' hys a1 a2 a3 gZ gS
    rcases List.mem_cons.mp hp with rfl | hp
    · obtain rfl := hp_y0 hys
      cases v with
      | none => cases gS
      | some w =>
        obtain ⟨y0, t0, s0, q0, -⟩ := hp_gSi (z := ((-2) + 0)) gS rfl
        cases s0
        exact r0 h' y0 (by omega) a1 a2 a3
    cases hp
theorem dco6_k : hp_chk 67 0 4 [(0, 0, 119), (1, 0, 399), (2, 0, 399), (3, 0, 120)] [((-1), [(0, (-1)), (3, 1)])] [(0, .inr (.inr (.inl (some 16)))), (1, .inl (0, [(0, 1)])), (2, .inl (0, [(1, 1)])), (3, .inl (0, [(2, 1)]))] [] [(1536, (0, []), (0, [(3, 1)]))] [] 4 [(35, ([], 4, [(0, 0, 119), (1, 0, 399), (2, 0, 399), (3, 0, 120)], [], [(0, .inr (.inr (.inl (some 16))))], [.inl (0, [(2, 1)]), .inl (0, [(1, 1)]), .inl (0, [(0, 1)]), .inr (.inr (.inl (some 22)))], []))] [] = true := by decide +kernel
theorem dco6 {cst : am_K} {strs : List Nat} {Φ : am_Q → Prop} {D : Nat} {M : am_M} {h : am_H} {l : am_L} (c : hp_C cst strs D) (hM : m_P[67]? = some M) (hD : (4 : Int) ≤ (D : Int) + 1) (hy : ly_hy m_tt ly_TH h) (p y z u : Int) (b0 : 0 ≤ p) (t0 : p ≤ 119) (b1 : 0 ≤ y) (t1 : y ≤ 399) (b2 : 0 ≤ z) (t2 : z ≤ 399) (b3 : 0 ≤ u) (t3 : u ≤ 120) (f0 : 0 ≤ (u - p - 1)) (k0 : ly_hv cst h 1536 0 = some (u)) (l0 : hp_a l 0 16) (l1 : hp_i l 1 (p)) (l2 : hp_i l 2 (y)) (l3 : hp_i l 3 (z)) (e0 : ∀ (l' : am_L) (h' : am_H) (y0 : Int32) (y1 : Int32) (y2 : Int32), y0.toInt = (z) → y1.toInt = (y) → y2.toInt = (p) → ly_hy m_tt ly_TH h' → ly_fr cst [] h h' → h.length ≤ h'.length → hp_a l' 0 16 → hp_F cst strs Φ D M 35 l' [.int y0, .int y1, .int y2, .ref 22] h') : hp_F cst strs Φ D M 0 l [] h := by
  refine hp_arc c hM dco6_k hD [p, y, z, u] rfl hy (hp_Bc (z := p) rfl b0 t0 (hp_Bc (z := y) rfl b1 t1 (hp_Bc (z := z) rfl b2 t2 (hp_Bc (z := u) rfl b3 t3 hp_Bn)))) (hp_Fc (z := ((-1) + ((-1) * p + (1 * u + 0)))) rfl (by omega) hp_Fn) (hp_Kc (zi := (0 + 0)) (zv := (0 + (1 * u + 0))) k0 rfl rfl (by omega) (by omega) hp_Kn) (hp_La l0 (hp_Li (z := (0 + (1 * p + 0))) l1 rfl (by omega) (hp_Li (z := (0 + (1 * y + 0))) l2 rfl (by omega) (hp_Li (z := (0 + (1 * z + 0))) l3 rfl (by omega) hp_Ln)))) trivial ?_ ?_
  · intro p hp ys l' st' h' hys a1 a2 a3 gZ gL gS
    rcases List.mem_cons.mp hp with rfl | hp
    · obtain rfl := hp_y0 hys
      obtain ⟨y0, t0, rfl, q0, g0⟩ := hp_gSi (z := (0 + (1 * z + 0))) gS rfl
      obtain ⟨y1, t1, rfl, q1, g1⟩ := hp_gSi (z := (0 + (1 * y + 0))) g0 rfl
      obtain ⟨y2, t2, rfl, q2, g2⟩ := hp_gSi (z := (0 + (1 * p + 0))) g1 rfl
      obtain ⟨t3, rfl, g3⟩ := hp_gSa g2 (by decide)
      cases hp_gSn g3
      exact e0 l' h' y0 y1 y2 (by omega) (by omega) (by omega) a1 a2 a3 (hp_gLa gL (List.mem_of_getElem? (i := 0) rfl) (by decide))
    cases hp
  · intro p hp ys v h' hys a1 a2 a3 gZ gS
    cases hp
theorem dco7_k : hp_chk 67 38 0 [] [] [(0, .inr (.inr (.inl (some 16))))] [.inl (1, [])] [] [] 2 [] [([], 0, [], [], [], [.inl (1, [])], [])] = true := by decide +kernel
theorem dco7 {cst : am_K} {strs : List Nat} {Φ : am_Q → Prop} {D : Nat} {M : am_M} {h : am_H} {l : am_L} (c : hp_C cst strs D) (hM : m_P[67]? = some M) (hD : (2 : Int) ≤ (D : Int) + 1) (hy : ly_hy m_tt ly_TH h) (x0 : Int32) (hx0 : x0.toInt = 1) (l0 : hp_a l 0 16) (r0 : ∀ (h' : am_H) (y0 : Int32), y0.toInt = 1 → ly_hy m_tt ly_TH h' → ly_fr cst [] h h' → h.length ≤ h'.length → Φ (some (.int y0), h', 0, 0)) : hp_F cst strs Φ D M 38 l [.int x0] h := by
  refine hp_arc c hM dco7_k hD [] rfl hy hp_Bn hp_Fn hp_Kn (hp_La l0 hp_Ln) (hp_Si (z := (1 + 0)) rfl (by omega) trivial) ?_ ?_
  · intro p hp ys l' st' h' hys a1 a2 a3 gZ gL gS
    cases hp
  · intro p hp ys v h' hys a1 a2 a3 gZ gS
    rcases List.mem_cons.mp hp with rfl | hp
    · obtain rfl := hp_y0 hys
      cases v with
      | none => cases gS
      | some w =>
        obtain ⟨y0, t0, s0, q0, -⟩ := hp_gSi (z := (1 + 0)) gS rfl
        cases s0
        exact r0 h' y0 (by omega) a1 a2 a3
    cases hp
theorem dco8_k : hp_chk 67 38 0 [] [] [(0, .inr (.inr (.inl (some 16))))] [.inl (0, [])] [] [] 2 [] [([], 0, [], [], [], [.inl (0, [])], [])] = true := by decide +kernel
theorem dco8 {cst : am_K} {strs : List Nat} {Φ : am_Q → Prop} {D : Nat} {M : am_M} {h : am_H} {l : am_L} (c : hp_C cst strs D) (hM : m_P[67]? = some M) (hD : (2 : Int) ≤ (D : Int) + 1) (hy : ly_hy m_tt ly_TH h) (x0 : Int32) (hx0 : x0.toInt = 0) (l0 : hp_a l 0 16) (r0 : ∀ (h' : am_H) (y0 : Int32), y0.toInt = 0 → ly_hy m_tt ly_TH h' → ly_fr cst [] h h' → h.length ≤ h'.length → Φ (some (.int y0), h', 0, 0)) : hp_F cst strs Φ D M 38 l [.int x0] h := by
  refine hp_arc c hM dco8_k hD [] rfl hy hp_Bn hp_Fn hp_Kn (hp_La l0 hp_Ln) (hp_Si (z := (0 + 0)) rfl (by omega) trivial) ?_ ?_
  · intro p hp ys l' st' h' hys a1 a2 a3 gZ gL gS
    cases hp
  · intro p hp ys v h' hys a1 a2 a3 gZ gS
    rcases List.mem_cons.mp hp with rfl | hp
    · obtain rfl := hp_y0 hys
      cases v with
      | none => cases gS
      | some w =>
        obtain ⟨y0, t0, s0, q0, -⟩ := hp_gSi (z := (0 + 0)) gS rfl
        cases s0
        exact r0 h' y0 (by omega) a1 a2 a3
    cases hp
theorem dm0_k : hp_chk 294 0 3 [(0, (-2147483648), 2147483647), (1, (-2147483648), 2147483647), (2, (-2147483648), 2147483647)] [] [(0, .inr (.inr (.inl (some 94)))), (1, .inl (0, [(0, 1)])), (2, .inl (0, [(1, 1)])), (3, .inl (0, [(2, 1)]))] [] [] [] 2 [(3, ([], 3, [(0, (-2147483648), 2147483647), (1, (-2147483648), 2147483647), (2, (-2147483648), 2147483647)], [], [(0, .inr (.inr (.inl (some 94)))), (1, .inl (0, [(0, 1)])), (2, .inl (0, [(1, 1)])), (3, .inl (0, [(2, 1)])), (4, .inl (0, []))], [], []))] [] = true := by decide +kernel
theorem dm0 {cst : am_K} {strs : List Nat} {Φ : am_Q → Prop} {D : Nat} {M : am_M} {h : am_H} {l : am_L} (c : hp_C cst strs D) (hM : m_P[294]? = some M) (hD : (2 : Int) ≤ (D : Int) + 1) (hy : ly_hy m_tt ly_TH h) (p y z : Int) (b0 : (-2147483648) ≤ p) (t0 : p ≤ 2147483647) (b1 : (-2147483648) ≤ y) (t1 : y ≤ 2147483647) (b2 : (-2147483648) ≤ z) (t2 : z ≤ 2147483647) (l0 : hp_a l 0 94) (l1 : hp_i l 1 (p)) (l2 : hp_i l 2 (y)) (l3 : hp_i l 3 (z)) (e0 : ∀ (l' : am_L) (h' : am_H), ly_hy m_tt ly_TH h' → ly_fr cst [] h h' → h.length ≤ h'.length → hp_a l' 0 94 → hp_i l' 1 (p) → hp_i l' 2 (y) → hp_i l' 3 (z) → hp_i l' 4 0 → hp_F cst strs Φ D M 3 l' [] h') : hp_F cst strs Φ D M 0 l [] h := by
  refine hp_arc c hM dm0_k hD [p, y, z] rfl hy (hp_Bc (z := p) rfl b0 t0 (hp_Bc (z := y) rfl b1 t1 (hp_Bc (z := z) rfl b2 t2 hp_Bn))) hp_Fn hp_Kn (hp_La l0 (hp_Li (z := (0 + (1 * p + 0))) l1 rfl (by omega) (hp_Li (z := (0 + (1 * y + 0))) l2 rfl (by omega) (hp_Li (z := (0 + (1 * z + 0))) l3 rfl (by omega) hp_Ln)))) trivial ?_ ?_
  · intro p hp ys l' st' h' hys a1 a2 a3 gZ gL gS
    rcases List.mem_cons.mp hp with rfl | hp
    · obtain rfl := hp_y0 hys
      cases hp_gSn gS
      exact e0 l' h' a1 a2 a3 (hp_gLa gL (List.mem_of_getElem? (i := 0) rfl) (by decide)) (hp_gLi (z := (0 + (1 * p + 0))) gL (List.mem_of_getElem? (i := 1) rfl) rfl (by omega)) (hp_gLi (z := (0 + (1 * y + 0))) gL (List.mem_of_getElem? (i := 2) rfl) rfl (by omega)) (hp_gLi (z := (0 + (1 * z + 0))) gL (List.mem_of_getElem? (i := 3) rfl) rfl (by omega)) (hp_gLi (z := (0 + 0)) gL (List.mem_of_getElem? (i := 4) rfl) rfl (by omega))
    cases hp
  · intro p hp ys v h' hys a1 a2 a3 gZ gS
    cases hp
theorem dma_k : hp_chk 294 3 7 [(0, (-2147483648), 2147483647), (1, (-2147483648), 2147483647), (2, (-2147483648), 2147483647), (3, 0, 300), (4, 0, 299), (5, (-2147483648), 2147483647), (6, (-2147483648), 2147483647)] [((-1), [(3, 1), (4, (-1))]), (0, [(2, 1), (5, (-1))]), (0, [(1, 1), (6, (-1))])] [(0, .inr (.inr (.inl (some 94)))), (1, .inl (0, [(0, 1)])), (2, .inl (0, [(1, 1)])), (3, .inl (0, [(2, 1)])), (4, .inl (0, [(4, 1)]))] [] [(19982, (0, []), (0, [(3, 1)])), (21248, (0, [(4, 1)]), (1, [])), (21504, (0, [(4, 1)]), (0, [(0, 1)])), (22528, (0, [(4, 1)]), (0, [(5, 1)])), (22272, (0, [(4, 1)]), (0, [(6, 1)]))] [] 2 [] [([], 7, [(0, (-2147483648), 2147483647), (1, (-2147483648), 2147483647), (2, (-2147483648), 2147483647), (3, 0, 300), (4, 0, 299), (5, (-2147483648), 2147483647), (6, (-2147483648), 2147483647)], [], [], [.inl (1, [])], [])] = true := by decide +kernel
theorem dma {cst : am_K} {strs : List Nat} {Φ : am_Q → Prop} {D : Nat} {M : am_M} {h : am_H} {l : am_L} (c : hp_C cst strs D) (hM : m_P[294]? = some M) (hD : (2 : Int) ≤ (D : Int) + 1) (hy : ly_hy m_tt ly_TH h) (p y z t i c1 e1 : Int) (b0 : (-2147483648) ≤ p) (t0 : p ≤ 2147483647) (b1 : (-2147483648) ≤ y) (t1 : y ≤ 2147483647) (b2 : (-2147483648) ≤ z) (t2 : z ≤ 2147483647) (b3 : 0 ≤ t) (t3 : t ≤ 300) (b4 : 0 ≤ i) (t4 : i ≤ 299) (b5 : (-2147483648) ≤ c1) (t5 : c1 ≤ 2147483647) (b6 : (-2147483648) ≤ e1) (t6 : e1 ≤ 2147483647) (f0 : 0 ≤ (t - i - 1)) (f1 : 0 ≤ (z - c1)) (f2 : 0 ≤ (y - e1)) (k0 : ly_hv cst h 19982 0 = some (t)) (k1 : ly_hv cst h 21248 (i) = some 1) (k2 : ly_hv cst h 21504 (i) = some (p)) (k3 : ly_hv cst h 22528 (i) = some (c1)) (k4 : ly_hv cst h 22272 (i) = some (e1)) (l0 : hp_a l 0 94) (l1 : hp_i l 1 (p)) (l2 : hp_i l 2 (y)) (l3 : hp_i l 3 (z)) (l4 : hp_i l 4 (i)) (r0 : ∀ (h' : am_H) (y0 : Int32), y0.toInt = 1 → ly_hy m_tt ly_TH h' → ly_fr cst [] h h' → h.length ≤ h'.length → Φ (some (.int y0), h', 0, 0)) : hp_F cst strs Φ D M 3 l [] h := by
  refine hp_arc c hM dma_k hD [p, y, z, t, i, c1, e1] rfl hy (hp_Bc (z := p) rfl b0 t0 (hp_Bc (z := y) rfl b1 t1 (hp_Bc (z := z) rfl b2 t2 (hp_Bc (z := t) rfl b3 t3 (hp_Bc (z := i) rfl b4 t4 (hp_Bc (z := c1) rfl b5 t5 (hp_Bc (z := e1) rfl b6 t6 hp_Bn))))))) (hp_Fc (z := ((-1) + (1 * t + ((-1) * i + 0)))) rfl (by omega) (hp_Fc (z := (0 + (1 * z + ((-1) * c1 + 0)))) rfl (by omega) (hp_Fc (z := (0 + (1 * y + ((-1) * e1 + 0)))) rfl (by omega) hp_Fn))) (hp_Kc (zi := (0 + 0)) (zv := (0 + (1 * t + 0))) k0 rfl rfl (by omega) (by omega) (hp_Kc (zi := (0 + (1 * i + 0))) (zv := (1 + 0)) k1 rfl rfl (by omega) (by omega) (hp_Kc (zi := (0 + (1 * i + 0))) (zv := (0 + (1 * p + 0))) k2 rfl rfl (by omega) (by omega) (hp_Kc (zi := (0 + (1 * i + 0))) (zv := (0 + (1 * c1 + 0))) k3 rfl rfl (by omega) (by omega) (hp_Kc (zi := (0 + (1 * i + 0))) (zv := (0 + (1 * e1 + 0))) k4 rfl rfl (by omega) (by omega) hp_Kn))))) (hp_La l0 (hp_Li (z := (0 + (1 * p + 0))) l1 rfl (by omega) (hp_Li (z := (0 + (1 * y + 0))) l2 rfl (by omega) (hp_Li (z := (0 + (1 * z + 0))) l3 rfl (by omega) (hp_Li (z := (0 + (1 * i + 0))) l4 rfl (by omega) hp_Ln))))) trivial ?_ ?_
  · intro p hp ys l' st' h' hys a1 a2 a3 gZ gL gS
    cases hp
  · intro p hp ys v h' hys a1 a2 a3 gZ gS
    rcases List.mem_cons.mp hp with rfl | hp
    · obtain rfl := hp_y0 hys
      cases v with
      | none => cases gS
      | some w =>
        obtain ⟨y0, t0, s0, q0, -⟩ := hp_gSi (z := (1 + 0)) gS rfl
        cases s0
        exact r0 h' y0 (by omega) a1 a2 a3
    cases hp
theorem dmb_k : hp_chk 294 3 6 [(0, (-2147483648), 2147483647), (1, (-2147483648), 2147483647), (2, (-2147483648), 2147483647), (3, 0, 300), (4, 0, 299), (5, (-2147483648), 2147483647)] [((-1), [(3, 1), (4, (-1))])] [(0, .inr (.inr (.inl (some 94)))), (1, .inl (0, [(0, 1)])), (2, .inl (0, [(1, 1)])), (3, .inl (0, [(2, 1)])), (4, .inl (0, [(4, 1)]))] [] [(19982, (0, []), (0, [(3, 1)])), (21248, (0, [(4, 1)]), (0, [(5, 1)])), (61000, ((-1), [(5, 1)]), (1, []))] [] 2 [(3, ([], 6, [(0, (-2147483648), 2147483647), (1, (-2147483648), 2147483647), (2, (-2147483648), 2147483647), (3, 0, 300), (4, 0, 299), (5, (-2147483648), 2147483647)], [], [(0, .inr (.inr (.inl (some 94)))), (1, .inl (0, [(0, 1)])), (2, .inl (0, [(1, 1)])), (3, .inl (0, [(2, 1)])), (4, .inl (1, [(4, 1)]))], [], []))] [] = true := by decide +kernel
theorem dmb {cst : am_K} {strs : List Nat} {Φ : am_Q → Prop} {D : Nat} {M : am_M} {h : am_H} {l : am_L} (c : hp_C cst strs D) (hM : m_P[294]? = some M) (hD : (2 : Int) ≤ (D : Int) + 1) (hy : ly_hy m_tt ly_TH h) (p y z t i a : Int) (b0 : (-2147483648) ≤ p) (t0 : p ≤ 2147483647) (b1 : (-2147483648) ≤ y) (t1 : y ≤ 2147483647) (b2 : (-2147483648) ≤ z) (t2 : z ≤ 2147483647) (b3 : 0 ≤ t) (t3 : t ≤ 300) (b4 : 0 ≤ i) (t4 : i ≤ 299) (b5 : (-2147483648) ≤ a) (t5 : a ≤ 2147483647) (f0 : 0 ≤ (t - i - 1)) (k0 : ly_hv cst h 19982 0 = some (t)) (k1 : ly_hv cst h 21248 (i) = some (a)) (k2 : ly_hv cst h 61000 (a - 1) = some 1) (l0 : hp_a l 0 94) (l1 : hp_i l 1 (p)) (l2 : hp_i l 2 (y)) (l3 : hp_i l 3 (z)) (l4 : hp_i l 4 (i)) (e0 : ∀ (l' : am_L) (h' : am_H), ly_hy m_tt ly_TH h' → ly_fr cst [] h h' → h.length ≤ h'.length → hp_a l' 0 94 → hp_i l' 1 (p) → hp_i l' 2 (y) → hp_i l' 3 (z) → hp_i l' 4 (i + 1) → hp_F cst strs Φ D M 3 l' [] h') : hp_F cst strs Φ D M 3 l [] h := by
  refine hp_arc c hM dmb_k hD [p, y, z, t, i, a] rfl hy (hp_Bc (z := p) rfl b0 t0 (hp_Bc (z := y) rfl b1 t1 (hp_Bc (z := z) rfl b2 t2 (hp_Bc (z := t) rfl b3 t3 (hp_Bc (z := i) rfl b4 t4 (hp_Bc (z := a) rfl b5 t5 hp_Bn)))))) (hp_Fc (z := ((-1) + (1 * t + ((-1) * i + 0)))) rfl (by omega) hp_Fn) (hp_Kc (zi := (0 + 0)) (zv := (0 + (1 * t + 0))) k0 rfl rfl (by omega) (by omega) (hp_Kc (zi := (0 + (1 * i + 0))) (zv := (0 + (1 * a + 0))) k1 rfl rfl (by omega) (by omega) (hp_Kc (zi := ((-1) + (1 * a + 0))) (zv := (1 + 0)) k2 rfl rfl (by omega) (by omega) hp_Kn))) (hp_La l0 (hp_Li (z := (0 + (1 * p + 0))) l1 rfl (by omega) (hp_Li (z := (0 + (1 * y + 0))) l2 rfl (by omega) (hp_Li (z := (0 + (1 * z + 0))) l3 rfl (by omega) (hp_Li (z := (0 + (1 * i + 0))) l4 rfl (by omega) hp_Ln))))) trivial ?_ ?_
  · intro p hp ys l' st' h' hys a1 a2 a3 gZ gL gS
    rcases List.mem_cons.mp hp with rfl | hp
    · obtain rfl := hp_y0 hys
      cases hp_gSn gS
      exact e0 l' h' a1 a2 a3 (hp_gLa gL (List.mem_of_getElem? (i := 0) rfl) (by decide)) (hp_gLi (z := (0 + (1 * p + 0))) gL (List.mem_of_getElem? (i := 1) rfl) rfl (by omega)) (hp_gLi (z := (0 + (1 * y + 0))) gL (List.mem_of_getElem? (i := 2) rfl) rfl (by omega)) (hp_gLi (z := (0 + (1 * z + 0))) gL (List.mem_of_getElem? (i := 3) rfl) rfl (by omega)) (hp_gLi (z := (1 + (1 * i + 0))) gL (List.mem_of_getElem? (i := 4) rfl) rfl (by omega))
    cases hp
  · intro p hp ys v h' hys a1 a2 a3 gZ gS
    cases hp
theorem dmc_k : hp_chk 294 3 6 [(0, (-2147483648), 2147483647), (1, (-2147483648), 2147483647), (2, (-2147483648), 2147483647), (3, 0, 300), (4, 0, 299), (5, (-2147483648), 2147483647)] [((-1), [(3, 1), (4, (-1))])] [(0, .inr (.inr (.inl (some 94)))), (1, .inl (0, [(0, 1)])), (2, .inl (0, [(1, 1)])), (3, .inl (0, [(2, 1)])), (4, .inl (0, [(4, 1)]))] [] [(19982, (0, []), (0, [(3, 1)])), (21248, (0, [(4, 1)]), (1, [])), (21504, (0, [(4, 1)]), (0, [(5, 1)])), (61000, (0, [(0, (-1)), (5, 1)]), (1, []))] [] 2 [(3, ([], 6, [(0, (-2147483648), 2147483647), (1, (-2147483648), 2147483647), (2, (-2147483648), 2147483647), (3, 0, 300), (4, 0, 299), (5, (-2147483648), 2147483647)], [], [(0, .inr (.inr (.inl (some 94)))), (1, .inl (0, [(0, 1)])), (2, .inl (0, [(1, 1)])), (3, .inl (0, [(2, 1)])), (4, .inl (1, [(4, 1)]))], [], []))] [] = true := by decide +kernel
theorem dmc {cst : am_K} {strs : List Nat} {Φ : am_Q → Prop} {D : Nat} {M : am_M} {h : am_H} {l : am_L} (c : hp_C cst strs D) (hM : m_P[294]? = some M) (hD : (2 : Int) ≤ (D : Int) + 1) (hy : ly_hy m_tt ly_TH h) (p y z t i b : Int) (b0 : (-2147483648) ≤ p) (t0 : p ≤ 2147483647) (b1 : (-2147483648) ≤ y) (t1 : y ≤ 2147483647) (b2 : (-2147483648) ≤ z) (t2 : z ≤ 2147483647) (b3 : 0 ≤ t) (t3 : t ≤ 300) (b4 : 0 ≤ i) (t4 : i ≤ 299) (b5 : (-2147483648) ≤ b) (t5 : b ≤ 2147483647) (f0 : 0 ≤ (t - i - 1)) (k0 : ly_hv cst h 19982 0 = some (t)) (k1 : ly_hv cst h 21248 (i) = some 1) (k2 : ly_hv cst h 21504 (i) = some (b)) (k3 : ly_hv cst h 61000 (b - p) = some 1) (l0 : hp_a l 0 94) (l1 : hp_i l 1 (p)) (l2 : hp_i l 2 (y)) (l3 : hp_i l 3 (z)) (l4 : hp_i l 4 (i)) (e0 : ∀ (l' : am_L) (h' : am_H), ly_hy m_tt ly_TH h' → ly_fr cst [] h h' → h.length ≤ h'.length → hp_a l' 0 94 → hp_i l' 1 (p) → hp_i l' 2 (y) → hp_i l' 3 (z) → hp_i l' 4 (i + 1) → hp_F cst strs Φ D M 3 l' [] h') : hp_F cst strs Φ D M 3 l [] h := by
  refine hp_arc c hM dmc_k hD [p, y, z, t, i, b] rfl hy (hp_Bc (z := p) rfl b0 t0 (hp_Bc (z := y) rfl b1 t1 (hp_Bc (z := z) rfl b2 t2 (hp_Bc (z := t) rfl b3 t3 (hp_Bc (z := i) rfl b4 t4 (hp_Bc (z := b) rfl b5 t5 hp_Bn)))))) (hp_Fc (z := ((-1) + (1 * t + ((-1) * i + 0)))) rfl (by omega) hp_Fn) (hp_Kc (zi := (0 + 0)) (zv := (0 + (1 * t + 0))) k0 rfl rfl (by omega) (by omega) (hp_Kc (zi := (0 + (1 * i + 0))) (zv := (1 + 0)) k1 rfl rfl (by omega) (by omega) (hp_Kc (zi := (0 + (1 * i + 0))) (zv := (0 + (1 * b + 0))) k2 rfl rfl (by omega) (by omega) (hp_Kc (zi := (0 + ((-1) * p + (1 * b + 0)))) (zv := (1 + 0)) k3 rfl rfl (by omega) (by omega) hp_Kn)))) (hp_La l0 (hp_Li (z := (0 + (1 * p + 0))) l1 rfl (by omega) (hp_Li (z := (0 + (1 * y + 0))) l2 rfl (by omega) (hp_Li (z := (0 + (1 * z + 0))) l3 rfl (by omega) (hp_Li (z := (0 + (1 * i + 0))) l4 rfl (by omega) hp_Ln))))) trivial ?_ ?_
  · intro p hp ys l' st' h' hys a1 a2 a3 gZ gL gS
    rcases List.mem_cons.mp hp with rfl | hp
    · obtain rfl := hp_y0 hys
      cases hp_gSn gS
      exact e0 l' h' a1 a2 a3 (hp_gLa gL (List.mem_of_getElem? (i := 0) rfl) (by decide)) (hp_gLi (z := (0 + (1 * p + 0))) gL (List.mem_of_getElem? (i := 1) rfl) rfl (by omega)) (hp_gLi (z := (0 + (1 * y + 0))) gL (List.mem_of_getElem? (i := 2) rfl) rfl (by omega)) (hp_gLi (z := (0 + (1 * z + 0))) gL (List.mem_of_getElem? (i := 3) rfl) rfl (by omega)) (hp_gLi (z := (1 + (1 * i + 0))) gL (List.mem_of_getElem? (i := 4) rfl) rfl (by omega))
    cases hp
  · intro p hp ys v h' hys a1 a2 a3 gZ gS
    cases hp
theorem dmd_k : hp_chk 294 3 6 [(0, (-2147483648), 2147483647), (1, (-2147483648), 2147483647), (2, (-2147483648), 2147483647), (3, 0, 300), (4, 0, 299), (5, (-2147483648), 2147483647)] [((-1), [(3, 1), (4, (-1))]), ((-1), [(2, (-1)), (5, 1)])] [(0, .inr (.inr (.inl (some 94)))), (1, .inl (0, [(0, 1)])), (2, .inl (0, [(1, 1)])), (3, .inl (0, [(2, 1)])), (4, .inl (0, [(4, 1)]))] [] [(19982, (0, []), (0, [(3, 1)])), (21248, (0, [(4, 1)]), (1, [])), (21504, (0, [(4, 1)]), (0, [(0, 1)])), (22528, (0, [(4, 1)]), (0, [(5, 1)]))] [] 2 [(3, ([], 6, [(0, (-2147483648), 2147483647), (1, (-2147483648), 2147483647), (2, (-2147483648), 2147483647), (3, 0, 300), (4, 0, 299), (5, (-2147483648), 2147483647)], [], [(0, .inr (.inr (.inl (some 94)))), (1, .inl (0, [(0, 1)])), (2, .inl (0, [(1, 1)])), (3, .inl (0, [(2, 1)])), (4, .inl (1, [(4, 1)]))], [], []))] [] = true := by decide +kernel
theorem dmd {cst : am_K} {strs : List Nat} {Φ : am_Q → Prop} {D : Nat} {M : am_M} {h : am_H} {l : am_L} (c : hp_C cst strs D) (hM : m_P[294]? = some M) (hD : (2 : Int) ≤ (D : Int) + 1) (hy : ly_hy m_tt ly_TH h) (p y z t i c1 : Int) (b0 : (-2147483648) ≤ p) (t0 : p ≤ 2147483647) (b1 : (-2147483648) ≤ y) (t1 : y ≤ 2147483647) (b2 : (-2147483648) ≤ z) (t2 : z ≤ 2147483647) (b3 : 0 ≤ t) (t3 : t ≤ 300) (b4 : 0 ≤ i) (t4 : i ≤ 299) (b5 : (-2147483648) ≤ c1) (t5 : c1 ≤ 2147483647) (f0 : 0 ≤ (t - i - 1)) (f1 : 0 ≤ (c1 - z - 1)) (k0 : ly_hv cst h 19982 0 = some (t)) (k1 : ly_hv cst h 21248 (i) = some 1) (k2 : ly_hv cst h 21504 (i) = some (p)) (k3 : ly_hv cst h 22528 (i) = some (c1)) (l0 : hp_a l 0 94) (l1 : hp_i l 1 (p)) (l2 : hp_i l 2 (y)) (l3 : hp_i l 3 (z)) (l4 : hp_i l 4 (i)) (e0 : ∀ (l' : am_L) (h' : am_H), ly_hy m_tt ly_TH h' → ly_fr cst [] h h' → h.length ≤ h'.length → hp_a l' 0 94 → hp_i l' 1 (p) → hp_i l' 2 (y) → hp_i l' 3 (z) → hp_i l' 4 (i + 1) → hp_F cst strs Φ D M 3 l' [] h') : hp_F cst strs Φ D M 3 l [] h := by
  refine hp_arc c hM dmd_k hD [p, y, z, t, i, c1] rfl hy (hp_Bc (z := p) rfl b0 t0 (hp_Bc (z := y) rfl b1 t1 (hp_Bc (z := z) rfl b2 t2 (hp_Bc (z := t) rfl b3 t3 (hp_Bc (z := i) rfl b4 t4 (hp_Bc (z := c1) rfl b5 t5 hp_Bn)))))) (hp_Fc (z := ((-1) + (1 * t + ((-1) * i + 0)))) rfl (by omega) (hp_Fc (z := ((-1) + ((-1) * z + (1 * c1 + 0)))) rfl (by omega) hp_Fn)) (hp_Kc (zi := (0 + 0)) (zv := (0 + (1 * t + 0))) k0 rfl rfl (by omega) (by omega) (hp_Kc (zi := (0 + (1 * i + 0))) (zv := (1 + 0)) k1 rfl rfl (by omega) (by omega) (hp_Kc (zi := (0 + (1 * i + 0))) (zv := (0 + (1 * p + 0))) k2 rfl rfl (by omega) (by omega) (hp_Kc (zi := (0 + (1 * i + 0))) (zv := (0 + (1 * c1 + 0))) k3 rfl rfl (by omega) (by omega) hp_Kn)))) (hp_La l0 (hp_Li (z := (0 + (1 * p + 0))) l1 rfl (by omega) (hp_Li (z := (0 + (1 * y + 0))) l2 rfl (by omega) (hp_Li (z := (0 + (1 * z + 0))) l3 rfl (by omega) (hp_Li (z := (0 + (1 * i + 0))) l4 rfl (by omega) hp_Ln))))) trivial ?_ ?_
  · intro p hp ys l' st' h' hys a1 a2 a3 gZ gL gS
    rcases List.mem_cons.mp hp with rfl | hp
    · obtain rfl := hp_y0 hys
      cases hp_gSn gS
      exact e0 l' h' a1 a2 a3 (hp_gLa gL (List.mem_of_getElem? (i := 0) rfl) (by decide)) (hp_gLi (z := (0 + (1 * p + 0))) gL (List.mem_of_getElem? (i := 1) rfl) rfl (by omega)) (hp_gLi (z := (0 + (1 * y + 0))) gL (List.mem_of_getElem? (i := 2) rfl) rfl (by omega)) (hp_gLi (z := (0 + (1 * z + 0))) gL (List.mem_of_getElem? (i := 3) rfl) rfl (by omega)) (hp_gLi (z := (1 + (1 * i + 0))) gL (List.mem_of_getElem? (i := 4) rfl) rfl (by omega))
    cases hp
  · intro p hp ys v h' hys a1 a2 a3 gZ gS
    cases hp
theorem dme_k : hp_chk 294 3 7 [(0, (-2147483648), 2147483647), (1, (-2147483648), 2147483647), (2, (-2147483648), 2147483647), (3, 0, 300), (4, 0, 299), (5, (-2147483648), 2147483647), (6, (-2147483648), 2147483647)] [((-1), [(3, 1), (4, (-1))]), (0, [(2, 1), (5, (-1))]), ((-1), [(1, (-1)), (6, 1)])] [(0, .inr (.inr (.inl (some 94)))), (1, .inl (0, [(0, 1)])), (2, .inl (0, [(1, 1)])), (3, .inl (0, [(2, 1)])), (4, .inl (0, [(4, 1)]))] [] [(19982, (0, []), (0, [(3, 1)])), (21248, (0, [(4, 1)]), (1, [])), (21504, (0, [(4, 1)]), (0, [(0, 1)])), (22528, (0, [(4, 1)]), (0, [(5, 1)])), (22272, (0, [(4, 1)]), (0, [(6, 1)]))] [] 2 [(3, ([], 7, [(0, (-2147483648), 2147483647), (1, (-2147483648), 2147483647), (2, (-2147483648), 2147483647), (3, 0, 300), (4, 0, 299), (5, (-2147483648), 2147483647), (6, (-2147483648), 2147483647)], [], [(0, .inr (.inr (.inl (some 94)))), (1, .inl (0, [(0, 1)])), (2, .inl (0, [(1, 1)])), (3, .inl (0, [(2, 1)])), (4, .inl (1, [(4, 1)]))], [], []))] [] = true := by decide +kernel
theorem dme {cst : am_K} {strs : List Nat} {Φ : am_Q → Prop} {D : Nat} {M : am_M} {h : am_H} {l : am_L} (c : hp_C cst strs D) (hM : m_P[294]? = some M) (hD : (2 : Int) ≤ (D : Int) + 1) (hy : ly_hy m_tt ly_TH h) (p y z t i c1 e1 : Int) (b0 : (-2147483648) ≤ p) (t0 : p ≤ 2147483647) (b1 : (-2147483648) ≤ y) (t1 : y ≤ 2147483647) (b2 : (-2147483648) ≤ z) (t2 : z ≤ 2147483647) (b3 : 0 ≤ t) (t3 : t ≤ 300) (b4 : 0 ≤ i) (t4 : i ≤ 299) (b5 : (-2147483648) ≤ c1) (t5 : c1 ≤ 2147483647) (b6 : (-2147483648) ≤ e1) (t6 : e1 ≤ 2147483647) (f0 : 0 ≤ (t - i - 1)) (f1 : 0 ≤ (z - c1)) (f2 : 0 ≤ (e1 - y - 1)) (k0 : ly_hv cst h 19982 0 = some (t)) (k1 : ly_hv cst h 21248 (i) = some 1) (k2 : ly_hv cst h 21504 (i) = some (p)) (k3 : ly_hv cst h 22528 (i) = some (c1)) (k4 : ly_hv cst h 22272 (i) = some (e1)) (l0 : hp_a l 0 94) (l1 : hp_i l 1 (p)) (l2 : hp_i l 2 (y)) (l3 : hp_i l 3 (z)) (l4 : hp_i l 4 (i)) (e0 : ∀ (l' : am_L) (h' : am_H), ly_hy m_tt ly_TH h' → ly_fr cst [] h h' → h.length ≤ h'.length → hp_a l' 0 94 → hp_i l' 1 (p) → hp_i l' 2 (y) → hp_i l' 3 (z) → hp_i l' 4 (i + 1) → hp_F cst strs Φ D M 3 l' [] h') : hp_F cst strs Φ D M 3 l [] h := by
  refine hp_arc c hM dme_k hD [p, y, z, t, i, c1, e1] rfl hy (hp_Bc (z := p) rfl b0 t0 (hp_Bc (z := y) rfl b1 t1 (hp_Bc (z := z) rfl b2 t2 (hp_Bc (z := t) rfl b3 t3 (hp_Bc (z := i) rfl b4 t4 (hp_Bc (z := c1) rfl b5 t5 (hp_Bc (z := e1) rfl b6 t6 hp_Bn))))))) (hp_Fc (z := ((-1) + (1 * t + ((-1) * i + 0)))) rfl (by omega) (hp_Fc (z := (0 + (1 * z + ((-1) * c1 + 0)))) rfl (by omega) (hp_Fc (z := ((-1) + ((-1) * y + (1 * e1 + 0)))) rfl (by omega) hp_Fn))) (hp_Kc (zi := (0 + 0)) (zv := (0 + (1 * t + 0))) k0 rfl rfl (by omega) (by omega) (hp_Kc (zi := (0 + (1 * i + 0))) (zv := (1 + 0)) k1 rfl rfl (by omega) (by omega) (hp_Kc (zi := (0 + (1 * i + 0))) (zv := (0 + (1 * p + 0))) k2 rfl rfl (by omega) (by omega) (hp_Kc (zi := (0 + (1 * i + 0))) (zv := (0 + (1 * c1 + 0))) k3 rfl rfl (by omega) (by omega) (hp_Kc (zi := (0 + (1 * i + 0))) (zv := (0 + (1 * e1 + 0))) k4 rfl rfl (by omega) (by omega) hp_Kn))))) (hp_La l0 (hp_Li (z := (0 + (1 * p + 0))) l1 rfl (by omega) (hp_Li (z := (0 + (1 * y + 0))) l2 rfl (by omega) (hp_Li (z := (0 + (1 * z + 0))) l3 rfl (by omega) (hp_Li (z := (0 + (1 * i + 0))) l4 rfl (by omega) hp_Ln))))) trivial ?_ ?_
  · intro p hp ys l' st' h' hys a1 a2 a3 gZ gL gS
    rcases List.mem_cons.mp hp with rfl | hp
    · obtain rfl := hp_y0 hys
      cases hp_gSn gS
      exact e0 l' h' a1 a2 a3 (hp_gLa gL (List.mem_of_getElem? (i := 0) rfl) (by decide)) (hp_gLi (z := (0 + (1 * p + 0))) gL (List.mem_of_getElem? (i := 1) rfl) rfl (by omega)) (hp_gLi (z := (0 + (1 * y + 0))) gL (List.mem_of_getElem? (i := 2) rfl) rfl (by omega)) (hp_gLi (z := (0 + (1 * z + 0))) gL (List.mem_of_getElem? (i := 3) rfl) rfl (by omega)) (hp_gLi (z := (1 + (1 * i + 0))) gL (List.mem_of_getElem? (i := 4) rfl) rfl (by omega))
    cases hp
  · intro p hp ys v h' hys a1 a2 a3 gZ gS
    cases hp
theorem dmf_k : hp_chk 294 3 4 [(0, (-2147483648), 2147483647), (1, (-2147483648), 2147483647), (2, (-2147483648), 2147483647), (3, 0, 300)] [] [(0, .inr (.inr (.inl (some 94)))), (1, .inl (0, [(0, 1)])), (2, .inl (0, [(1, 1)])), (3, .inl (0, [(2, 1)])), (4, .inl (0, [(3, 1)]))] [] [(19982, (0, []), (0, [(3, 1)]))] [] 2 [] [([], 4, [(0, (-2147483648), 2147483647), (1, (-2147483648), 2147483647), (2, (-2147483648), 2147483647), (3, 0, 300)], [], [], [.inl (0, [])], [])] = true := by decide +kernel
theorem dmf {cst : am_K} {strs : List Nat} {Φ : am_Q → Prop} {D : Nat} {M : am_M} {h : am_H} {l : am_L} (c : hp_C cst strs D) (hM : m_P[294]? = some M) (hD : (2 : Int) ≤ (D : Int) + 1) (hy : ly_hy m_tt ly_TH h) (p y z t : Int) (b0 : (-2147483648) ≤ p) (t0 : p ≤ 2147483647) (b1 : (-2147483648) ≤ y) (t1 : y ≤ 2147483647) (b2 : (-2147483648) ≤ z) (t2 : z ≤ 2147483647) (b3 : 0 ≤ t) (t3 : t ≤ 300) (k0 : ly_hv cst h 19982 0 = some (t)) (l0 : hp_a l 0 94) (l1 : hp_i l 1 (p)) (l2 : hp_i l 2 (y)) (l3 : hp_i l 3 (z)) (l4 : hp_i l 4 (t)) (r0 : ∀ (h' : am_H) (y0 : Int32), y0.toInt = 0 → ly_hy m_tt ly_TH h' → ly_fr cst [] h h' → h.length ≤ h'.length → Φ (some (.int y0), h', 0, 0)) : hp_F cst strs Φ D M 3 l [] h := by
  refine hp_arc c hM dmf_k hD [p, y, z, t] rfl hy (hp_Bc (z := p) rfl b0 t0 (hp_Bc (z := y) rfl b1 t1 (hp_Bc (z := z) rfl b2 t2 (hp_Bc (z := t) rfl b3 t3 hp_Bn)))) hp_Fn (hp_Kc (zi := (0 + 0)) (zv := (0 + (1 * t + 0))) k0 rfl rfl (by omega) (by omega) hp_Kn) (hp_La l0 (hp_Li (z := (0 + (1 * p + 0))) l1 rfl (by omega) (hp_Li (z := (0 + (1 * y + 0))) l2 rfl (by omega) (hp_Li (z := (0 + (1 * z + 0))) l3 rfl (by omega) (hp_Li (z := (0 + (1 * t + 0))) l4 rfl (by omega) hp_Ln))))) trivial ?_ ?_
  · intro p hp ys l' st' h' hys a1 a2 a3 gZ gL gS
    cases hp
  · intro p hp ys v h' hys a1 a2 a3 gZ gS
    rcases List.mem_cons.mp hp with rfl | hp
    · obtain rfl := hp_y0 hys
      cases v with
      | none => cases gS
      | some w =>
        obtain ⟨y0, t0, s0, q0, -⟩ := hp_gSi (z := (0 + 0)) gS rfl
        cases s0
        exact r0 h' y0 (by omega) a1 a2 a3
    cases hp
theorem dmo0_k : hp_chk 293 0 4 [(0, (-2147483648), (-1)), (1, (-2147483648), 2147483647), (2, (-2147483648), 2147483647), (3, 0, 120)] [] [(0, .inr (.inr (.inl (some 94)))), (1, .inl (0, [(0, 1)])), (2, .inl (0, [(1, 1)])), (3, .inl (0, [(2, 1)]))] [] [(19978, (0, []), (0, [(3, 1)]))] [] 4 [] [([], 4, [(0, (-2147483648), (-1)), (1, (-2147483648), 2147483647), (2, (-2147483648), 2147483647), (3, 0, 120)], [], [], [.inl ((-2), [])], [])] = true := by decide +kernel
theorem dmo0 {cst : am_K} {strs : List Nat} {Φ : am_Q → Prop} {D : Nat} {M : am_M} {h : am_H} {l : am_L} (c : hp_C cst strs D) (hM : m_P[293]? = some M) (hD : (4 : Int) ≤ (D : Int) + 1) (hy : ly_hy m_tt ly_TH h) (p y z u : Int) (b0 : (-2147483648) ≤ p) (t0 : p ≤ (-1)) (b1 : (-2147483648) ≤ y) (t1 : y ≤ 2147483647) (b2 : (-2147483648) ≤ z) (t2 : z ≤ 2147483647) (b3 : 0 ≤ u) (t3 : u ≤ 120) (k0 : ly_hv cst h 19978 0 = some (u)) (l0 : hp_a l 0 94) (l1 : hp_i l 1 (p)) (l2 : hp_i l 2 (y)) (l3 : hp_i l 3 (z)) (r0 : ∀ (h' : am_H) (y0 : Int32), y0.toInt = (-2) → ly_hy m_tt ly_TH h' → ly_fr cst [] h h' → h.length ≤ h'.length → Φ (some (.int y0), h', 0, 0)) : hp_F cst strs Φ D M 0 l [] h := by
  refine hp_arc c hM dmo0_k hD [p, y, z, u] rfl hy (hp_Bc (z := p) rfl b0 t0 (hp_Bc (z := y) rfl b1 t1 (hp_Bc (z := z) rfl b2 t2 (hp_Bc (z := u) rfl b3 t3 hp_Bn)))) hp_Fn (hp_Kc (zi := (0 + 0)) (zv := (0 + (1 * u + 0))) k0 rfl rfl (by omega) (by omega) hp_Kn) (hp_La l0 (hp_Li (z := (0 + (1 * p + 0))) l1 rfl (by omega) (hp_Li (z := (0 + (1 * y + 0))) l2 rfl (by omega) (hp_Li (z := (0 + (1 * z + 0))) l3 rfl (by omega) hp_Ln)))) trivial ?_ ?_
  · intro p hp ys l' st' h' hys a1 a2 a3 gZ gL gS
    cases hp
  · intro p hp ys v h' hys a1 a2 a3 gZ gS
    rcases List.mem_cons.mp hp with rfl | hp
    · obtain rfl := hp_y0 hys
      cases v with
      | none => cases gS
      | some w =>
        obtain ⟨y0, t0, s0, q0, -⟩ := hp_gSi (z := ((-2) + 0)) gS rfl
        cases s0
        exact r0 h' y0 (by omega) a1 a2 a3
    cases hp
theorem dmo1_k : hp_chk 293 0 4 [(0, 0, 2147483647), (1, (-2147483648), 2147483647), (2, (-2147483648), 2147483647), (3, 0, 120)] [(0, [(0, 1), (3, (-1))])] [(0, .inr (.inr (.inl (some 94)))), (1, .inl (0, [(0, 1)])), (2, .inl (0, [(1, 1)])), (3, .inl (0, [(2, 1)]))] [] [(19978, (0, []), (0, [(3, 1)]))] [] 4 [] [([], 4, [(0, 0, 2147483647), (1, (-2147483648), 2147483647), (2, (-2147483648), 2147483647), (3, 0, 120)], [], [], [.inl ((-2), [])], [])] = true := by decide +kernel
theorem dmo1 {cst : am_K} {strs : List Nat} {Φ : am_Q → Prop} {D : Nat} {M : am_M} {h : am_H} {l : am_L} (c : hp_C cst strs D) (hM : m_P[293]? = some M) (hD : (4 : Int) ≤ (D : Int) + 1) (hy : ly_hy m_tt ly_TH h) (p y z u : Int) (b0 : 0 ≤ p) (t0 : p ≤ 2147483647) (b1 : (-2147483648) ≤ y) (t1 : y ≤ 2147483647) (b2 : (-2147483648) ≤ z) (t2 : z ≤ 2147483647) (b3 : 0 ≤ u) (t3 : u ≤ 120) (f0 : 0 ≤ (p - u)) (k0 : ly_hv cst h 19978 0 = some (u)) (l0 : hp_a l 0 94) (l1 : hp_i l 1 (p)) (l2 : hp_i l 2 (y)) (l3 : hp_i l 3 (z)) (r0 : ∀ (h' : am_H) (y0 : Int32), y0.toInt = (-2) → ly_hy m_tt ly_TH h' → ly_fr cst [] h h' → h.length ≤ h'.length → Φ (some (.int y0), h', 0, 0)) : hp_F cst strs Φ D M 0 l [] h := by
  refine hp_arc c hM dmo1_k hD [p, y, z, u] rfl hy (hp_Bc (z := p) rfl b0 t0 (hp_Bc (z := y) rfl b1 t1 (hp_Bc (z := z) rfl b2 t2 (hp_Bc (z := u) rfl b3 t3 hp_Bn)))) (hp_Fc (z := (0 + (1 * p + ((-1) * u + 0)))) rfl (by omega) hp_Fn) (hp_Kc (zi := (0 + 0)) (zv := (0 + (1 * u + 0))) k0 rfl rfl (by omega) (by omega) hp_Kn) (hp_La l0 (hp_Li (z := (0 + (1 * p + 0))) l1 rfl (by omega) (hp_Li (z := (0 + (1 * y + 0))) l2 rfl (by omega) (hp_Li (z := (0 + (1 * z + 0))) l3 rfl (by omega) hp_Ln)))) trivial ?_ ?_
  · intro p hp ys l' st' h' hys a1 a2 a3 gZ gL gS
    cases hp
  · intro p hp ys v h' hys a1 a2 a3 gZ gS
    rcases List.mem_cons.mp hp with rfl | hp
    · obtain rfl := hp_y0 hys
      cases v with
      | none => cases gS
      | some w =>
        obtain ⟨y0, t0, s0, q0, -⟩ := hp_gSi (z := ((-2) + 0)) gS rfl
        cases s0
        exact r0 h' y0 (by omega) a1 a2 a3
    cases hp
theorem dmo2_k : hp_chk 293 0 4 [(0, 0, 119), (1, (-2147483648), (-1)), (2, (-2147483648), 2147483647), (3, 0, 120)] [((-1), [(0, (-1)), (3, 1)])] [(0, .inr (.inr (.inl (some 94)))), (1, .inl (0, [(0, 1)])), (2, .inl (0, [(1, 1)])), (3, .inl (0, [(2, 1)]))] [] [(19978, (0, []), (0, [(3, 1)]))] [] 4 [] [([], 4, [(0, 0, 119), (1, (-2147483648), (-1)), (2, (-2147483648), 2147483647), (3, 0, 120)], [], [], [.inl ((-2), [])], [])] = true := by decide +kernel
theorem dmo2 {cst : am_K} {strs : List Nat} {Φ : am_Q → Prop} {D : Nat} {M : am_M} {h : am_H} {l : am_L} (c : hp_C cst strs D) (hM : m_P[293]? = some M) (hD : (4 : Int) ≤ (D : Int) + 1) (hy : ly_hy m_tt ly_TH h) (p y z u : Int) (b0 : 0 ≤ p) (t0 : p ≤ 119) (b1 : (-2147483648) ≤ y) (t1 : y ≤ (-1)) (b2 : (-2147483648) ≤ z) (t2 : z ≤ 2147483647) (b3 : 0 ≤ u) (t3 : u ≤ 120) (f0 : 0 ≤ (u - p - 1)) (k0 : ly_hv cst h 19978 0 = some (u)) (l0 : hp_a l 0 94) (l1 : hp_i l 1 (p)) (l2 : hp_i l 2 (y)) (l3 : hp_i l 3 (z)) (r0 : ∀ (h' : am_H) (y0 : Int32), y0.toInt = (-2) → ly_hy m_tt ly_TH h' → ly_fr cst [] h h' → h.length ≤ h'.length → Φ (some (.int y0), h', 0, 0)) : hp_F cst strs Φ D M 0 l [] h := by
  refine hp_arc c hM dmo2_k hD [p, y, z, u] rfl hy (hp_Bc (z := p) rfl b0 t0 (hp_Bc (z := y) rfl b1 t1 (hp_Bc (z := z) rfl b2 t2 (hp_Bc (z := u) rfl b3 t3 hp_Bn)))) (hp_Fc (z := ((-1) + ((-1) * p + (1 * u + 0)))) rfl (by omega) hp_Fn) (hp_Kc (zi := (0 + 0)) (zv := (0 + (1 * u + 0))) k0 rfl rfl (by omega) (by omega) hp_Kn) (hp_La l0 (hp_Li (z := (0 + (1 * p + 0))) l1 rfl (by omega) (hp_Li (z := (0 + (1 * y + 0))) l2 rfl (by omega) (hp_Li (z := (0 + (1 * z + 0))) l3 rfl (by omega) hp_Ln)))) trivial ?_ ?_
  · intro p hp ys l' st' h' hys a1 a2 a3 gZ gL gS
    cases hp
  · intro p hp ys v h' hys a1 a2 a3 gZ gS
    rcases List.mem_cons.mp hp with rfl | hp
    · obtain rfl := hp_y0 hys
      cases v with
      | none => cases gS
      | some w =>
        obtain ⟨y0, t0, s0, q0, -⟩ := hp_gSi (z := ((-2) + 0)) gS rfl
        cases s0
        exact r0 h' y0 (by omega) a1 a2 a3
    cases hp
theorem dmo3_k : hp_chk 293 0 4 [(0, 0, 119), (1, 400, 2147483647), (2, (-2147483648), 2147483647), (3, 0, 120)] [((-1), [(0, (-1)), (3, 1)])] [(0, .inr (.inr (.inl (some 94)))), (1, .inl (0, [(0, 1)])), (2, .inl (0, [(1, 1)])), (3, .inl (0, [(2, 1)]))] [] [(19978, (0, []), (0, [(3, 1)]))] [] 4 [] [([], 4, [(0, 0, 119), (1, 400, 2147483647), (2, (-2147483648), 2147483647), (3, 0, 120)], [], [], [.inl ((-2), [])], [])] = true := by decide +kernel
theorem dmo3 {cst : am_K} {strs : List Nat} {Φ : am_Q → Prop} {D : Nat} {M : am_M} {h : am_H} {l : am_L} (c : hp_C cst strs D) (hM : m_P[293]? = some M) (hD : (4 : Int) ≤ (D : Int) + 1) (hy : ly_hy m_tt ly_TH h) (p y z u : Int) (b0 : 0 ≤ p) (t0 : p ≤ 119) (b1 : 400 ≤ y) (t1 : y ≤ 2147483647) (b2 : (-2147483648) ≤ z) (t2 : z ≤ 2147483647) (b3 : 0 ≤ u) (t3 : u ≤ 120) (f0 : 0 ≤ (u - p - 1)) (k0 : ly_hv cst h 19978 0 = some (u)) (l0 : hp_a l 0 94) (l1 : hp_i l 1 (p)) (l2 : hp_i l 2 (y)) (l3 : hp_i l 3 (z)) (r0 : ∀ (h' : am_H) (y0 : Int32), y0.toInt = (-2) → ly_hy m_tt ly_TH h' → ly_fr cst [] h h' → h.length ≤ h'.length → Φ (some (.int y0), h', 0, 0)) : hp_F cst strs Φ D M 0 l [] h := by
  refine hp_arc c hM dmo3_k hD [p, y, z, u] rfl hy (hp_Bc (z := p) rfl b0 t0 (hp_Bc (z := y) rfl b1 t1 (hp_Bc (z := z) rfl b2 t2 (hp_Bc (z := u) rfl b3 t3 hp_Bn)))) (hp_Fc (z := ((-1) + ((-1) * p + (1 * u + 0)))) rfl (by omega) hp_Fn) (hp_Kc (zi := (0 + 0)) (zv := (0 + (1 * u + 0))) k0 rfl rfl (by omega) (by omega) hp_Kn) (hp_La l0 (hp_Li (z := (0 + (1 * p + 0))) l1 rfl (by omega) (hp_Li (z := (0 + (1 * y + 0))) l2 rfl (by omega) (hp_Li (z := (0 + (1 * z + 0))) l3 rfl (by omega) hp_Ln)))) trivial ?_ ?_
  · intro p hp ys l' st' h' hys a1 a2 a3 gZ gL gS
    cases hp
  · intro p hp ys v h' hys a1 a2 a3 gZ gS
    rcases List.mem_cons.mp hp with rfl | hp
    · obtain rfl := hp_y0 hys
      cases v with
      | none => cases gS
      | some w =>
        obtain ⟨y0, t0, s0, q0, -⟩ := hp_gSi (z := ((-2) + 0)) gS rfl
        cases s0
        exact r0 h' y0 (by omega) a1 a2 a3
    cases hp
theorem dmo4_k : hp_chk 293 0 4 [(0, 0, 119), (1, 0, 399), (2, (-2147483648), (-1)), (3, 0, 120)] [((-1), [(0, (-1)), (3, 1)])] [(0, .inr (.inr (.inl (some 94)))), (1, .inl (0, [(0, 1)])), (2, .inl (0, [(1, 1)])), (3, .inl (0, [(2, 1)]))] [] [(19978, (0, []), (0, [(3, 1)]))] [] 4 [] [([], 4, [(0, 0, 119), (1, 0, 399), (2, (-2147483648), (-1)), (3, 0, 120)], [], [], [.inl ((-2), [])], [])] = true := by decide +kernel
theorem dmo4 {cst : am_K} {strs : List Nat} {Φ : am_Q → Prop} {D : Nat} {M : am_M} {h : am_H} {l : am_L} (c : hp_C cst strs D) (hM : m_P[293]? = some M) (hD : (4 : Int) ≤ (D : Int) + 1) (hy : ly_hy m_tt ly_TH h) (p y z u : Int) (b0 : 0 ≤ p) (t0 : p ≤ 119) (b1 : 0 ≤ y) (t1 : y ≤ 399) (b2 : (-2147483648) ≤ z) (t2 : z ≤ (-1)) (b3 : 0 ≤ u) (t3 : u ≤ 120) (f0 : 0 ≤ (u - p - 1)) (k0 : ly_hv cst h 19978 0 = some (u)) (l0 : hp_a l 0 94) (l1 : hp_i l 1 (p)) (l2 : hp_i l 2 (y)) (l3 : hp_i l 3 (z)) (r0 : ∀ (h' : am_H) (y0 : Int32), y0.toInt = (-2) → ly_hy m_tt ly_TH h' → ly_fr cst [] h h' → h.length ≤ h'.length → Φ (some (.int y0), h', 0, 0)) : hp_F cst strs Φ D M 0 l [] h := by
  refine hp_arc c hM dmo4_k hD [p, y, z, u] rfl hy (hp_Bc (z := p) rfl b0 t0 (hp_Bc (z := y) rfl b1 t1 (hp_Bc (z := z) rfl b2 t2 (hp_Bc (z := u) rfl b3 t3 hp_Bn)))) (hp_Fc (z := ((-1) + ((-1) * p + (1 * u + 0)))) rfl (by omega) hp_Fn) (hp_Kc (zi := (0 + 0)) (zv := (0 + (1 * u + 0))) k0 rfl rfl (by omega) (by omega) hp_Kn) (hp_La l0 (hp_Li (z := (0 + (1 * p + 0))) l1 rfl (by omega) (hp_Li (z := (0 + (1 * y + 0))) l2 rfl (by omega) (hp_Li (z := (0 + (1 * z + 0))) l3 rfl (by omega) hp_Ln)))) trivial ?_ ?_
  · intro p hp ys l' st' h' hys a1 a2 a3 gZ gL gS
    cases hp
  · intro p hp ys v h' hys a1 a2 a3 gZ gS
    rcases List.mem_cons.mp hp with rfl | hp
    · obtain rfl := hp_y0 hys
      cases v with
      | none => cases gS
      | some w =>
        obtain ⟨y0, t0, s0, q0, -⟩ := hp_gSi (z := ((-2) + 0)) gS rfl
        cases s0
        exact r0 h' y0 (by omega) a1 a2 a3
    cases hp
theorem dmo5_k : hp_chk 293 0 4 [(0, 0, 119), (1, 0, 399), (2, 400, 2147483647), (3, 0, 120)] [((-1), [(0, (-1)), (3, 1)])] [(0, .inr (.inr (.inl (some 94)))), (1, .inl (0, [(0, 1)])), (2, .inl (0, [(1, 1)])), (3, .inl (0, [(2, 1)]))] [] [(19978, (0, []), (0, [(3, 1)]))] [] 4 [] [([], 4, [(0, 0, 119), (1, 0, 399), (2, 400, 2147483647), (3, 0, 120)], [], [], [.inl ((-2), [])], [])] = true := by decide +kernel
theorem dmo5 {cst : am_K} {strs : List Nat} {Φ : am_Q → Prop} {D : Nat} {M : am_M} {h : am_H} {l : am_L} (c : hp_C cst strs D) (hM : m_P[293]? = some M) (hD : (4 : Int) ≤ (D : Int) + 1) (hy : ly_hy m_tt ly_TH h) (p y z u : Int) (b0 : 0 ≤ p) (t0 : p ≤ 119) (b1 : 0 ≤ y) (t1 : y ≤ 399) (b2 : 400 ≤ z) (t2 : z ≤ 2147483647) (b3 : 0 ≤ u) (t3 : u ≤ 120) (f0 : 0 ≤ (u - p - 1)) (k0 : ly_hv cst h 19978 0 = some (u)) (l0 : hp_a l 0 94) (l1 : hp_i l 1 (p)) (l2 : hp_i l 2 (y)) (l3 : hp_i l 3 (z)) (r0 : ∀ (h' : am_H) (y0 : Int32), y0.toInt = (-2) → ly_hy m_tt ly_TH h' → ly_fr cst [] h h' → h.length ≤ h'.length → Φ (some (.int y0), h', 0, 0)) : hp_F cst strs Φ D M 0 l [] h := by
  refine hp_arc c hM dmo5_k hD [p, y, z, u] rfl hy (hp_Bc (z := p) rfl b0 t0 (hp_Bc (z := y) rfl b1 t1 (hp_Bc (z := z) rfl b2 t2 (hp_Bc (z := u) rfl b3 t3 hp_Bn)))) (hp_Fc (z := ((-1) + ((-1) * p + (1 * u + 0)))) rfl (by omega) hp_Fn) (hp_Kc (zi := (0 + 0)) (zv := (0 + (1 * u + 0))) k0 rfl rfl (by omega) (by omega) hp_Kn) (hp_La l0 (hp_Li (z := (0 + (1 * p + 0))) l1 rfl (by omega) (hp_Li (z := (0 + (1 * y + 0))) l2 rfl (by omega) (hp_Li (z := (0 + (1 * z + 0))) l3 rfl (by omega) hp_Ln)))) trivial ?_ ?_
  · intro p hp ys l' st' h' hys a1 a2 a3 gZ gL gS
    cases hp
  · intro p hp ys v h' hys a1 a2 a3 gZ gS
    rcases List.mem_cons.mp hp with rfl | hp
    · obtain rfl := hp_y0 hys
      cases v with
      | none => cases gS
      | some w =>
        obtain ⟨y0, t0, s0, q0, -⟩ := hp_gSi (z := ((-2) + 0)) gS rfl
        cases s0
        exact r0 h' y0 (by omega) a1 a2 a3
    cases hp
theorem dmo6_k : hp_chk 293 0 4 [(0, 0, 119), (1, 0, 399), (2, 0, 399), (3, 0, 120)] [((-1), [(0, (-1)), (3, 1)])] [(0, .inr (.inr (.inl (some 94)))), (1, .inl (0, [(0, 1)])), (2, .inl (0, [(1, 1)])), (3, .inl (0, [(2, 1)]))] [] [(19978, (0, []), (0, [(3, 1)]))] [] 4 [(26, ([], 4, [(0, 0, 119), (1, 0, 399), (2, 0, 399), (3, 0, 120)], [], [(0, .inr (.inr (.inl (some 94))))], [.inl (0, [(2, 1)]), .inl (0, [(1, 1)]), .inl (0, [(0, 1)]), .inr (.inr (.inl (some 94)))], []))] [] = true := by decide +kernel
theorem dmo6 {cst : am_K} {strs : List Nat} {Φ : am_Q → Prop} {D : Nat} {M : am_M} {h : am_H} {l : am_L} (c : hp_C cst strs D) (hM : m_P[293]? = some M) (hD : (4 : Int) ≤ (D : Int) + 1) (hy : ly_hy m_tt ly_TH h) (p y z u : Int) (b0 : 0 ≤ p) (t0 : p ≤ 119) (b1 : 0 ≤ y) (t1 : y ≤ 399) (b2 : 0 ≤ z) (t2 : z ≤ 399) (b3 : 0 ≤ u) (t3 : u ≤ 120) (f0 : 0 ≤ (u - p - 1)) (k0 : ly_hv cst h 19978 0 = some (u)) (l0 : hp_a l 0 94) (l1 : hp_i l 1 (p)) (l2 : hp_i l 2 (y)) (l3 : hp_i l 3 (z)) (e0 : ∀ (l' : am_L) (h' : am_H) (y0 : Int32) (y1 : Int32) (y2 : Int32), y0.toInt = (z) → y1.toInt = (y) → y2.toInt = (p) → ly_hy m_tt ly_TH h' → ly_fr cst [] h h' → h.length ≤ h'.length → hp_a l' 0 94 → hp_F cst strs Φ D M 26 l' [.int y0, .int y1, .int y2, .ref 94] h') : hp_F cst strs Φ D M 0 l [] h := by
  refine hp_arc c hM dmo6_k hD [p, y, z, u] rfl hy (hp_Bc (z := p) rfl b0 t0 (hp_Bc (z := y) rfl b1 t1 (hp_Bc (z := z) rfl b2 t2 (hp_Bc (z := u) rfl b3 t3 hp_Bn)))) (hp_Fc (z := ((-1) + ((-1) * p + (1 * u + 0)))) rfl (by omega) hp_Fn) (hp_Kc (zi := (0 + 0)) (zv := (0 + (1 * u + 0))) k0 rfl rfl (by omega) (by omega) hp_Kn) (hp_La l0 (hp_Li (z := (0 + (1 * p + 0))) l1 rfl (by omega) (hp_Li (z := (0 + (1 * y + 0))) l2 rfl (by omega) (hp_Li (z := (0 + (1 * z + 0))) l3 rfl (by omega) hp_Ln)))) trivial ?_ ?_
  · intro p hp ys l' st' h' hys a1 a2 a3 gZ gL gS
    rcases List.mem_cons.mp hp with rfl | hp
    · obtain rfl := hp_y0 hys
      obtain ⟨y0, t0, rfl, q0, g0⟩ := hp_gSi (z := (0 + (1 * z + 0))) gS rfl
      obtain ⟨y1, t1, rfl, q1, g1⟩ := hp_gSi (z := (0 + (1 * y + 0))) g0 rfl
      obtain ⟨y2, t2, rfl, q2, g2⟩ := hp_gSi (z := (0 + (1 * p + 0))) g1 rfl
      obtain ⟨t3, rfl, g3⟩ := hp_gSa g2 (by decide)
      cases hp_gSn g3
      exact e0 l' h' y0 y1 y2 (by omega) (by omega) (by omega) a1 a2 a3 (hp_gLa gL (List.mem_of_getElem? (i := 0) rfl) (by decide))
    cases hp
  · intro p hp ys v h' hys a1 a2 a3 gZ gS
    cases hp
theorem dmo7_k : hp_chk 293 29 0 [] [] [(0, .inr (.inr (.inl (some 94))))] [.inl (1, [])] [] [] 2 [] [([], 0, [], [], [], [.inl (1, [])], [])] = true := by decide +kernel
theorem dmo7 {cst : am_K} {strs : List Nat} {Φ : am_Q → Prop} {D : Nat} {M : am_M} {h : am_H} {l : am_L} (c : hp_C cst strs D) (hM : m_P[293]? = some M) (hD : (2 : Int) ≤ (D : Int) + 1) (hy : ly_hy m_tt ly_TH h) (x0 : Int32) (hx0 : x0.toInt = 1) (l0 : hp_a l 0 94) (r0 : ∀ (h' : am_H) (y0 : Int32), y0.toInt = 1 → ly_hy m_tt ly_TH h' → ly_fr cst [] h h' → h.length ≤ h'.length → Φ (some (.int y0), h', 0, 0)) : hp_F cst strs Φ D M 29 l [.int x0] h := by
  refine hp_arc c hM dmo7_k hD [] rfl hy hp_Bn hp_Fn hp_Kn (hp_La l0 hp_Ln) (hp_Si (z := (1 + 0)) rfl (by omega) trivial) ?_ ?_
  · intro p hp ys l' st' h' hys a1 a2 a3 gZ gL gS
    cases hp
  · intro p hp ys v h' hys a1 a2 a3 gZ gS
    rcases List.mem_cons.mp hp with rfl | hp
    · obtain rfl := hp_y0 hys
      cases v with
      | none => cases gS
      | some w =>
        obtain ⟨y0, t0, s0, q0, -⟩ := hp_gSi (z := (1 + 0)) gS rfl
        cases s0
        exact r0 h' y0 (by omega) a1 a2 a3
    cases hp
theorem dmo8_k : hp_chk 293 29 0 [] [] [(0, .inr (.inr (.inl (some 94))))] [.inl (0, [])] [] [] 2 [] [([], 0, [], [], [], [.inl (0, [])], [])] = true := by decide +kernel
theorem dmo8 {cst : am_K} {strs : List Nat} {Φ : am_Q → Prop} {D : Nat} {M : am_M} {h : am_H} {l : am_L} (c : hp_C cst strs D) (hM : m_P[293]? = some M) (hD : (2 : Int) ≤ (D : Int) + 1) (hy : ly_hy m_tt ly_TH h) (x0 : Int32) (hx0 : x0.toInt = 0) (l0 : hp_a l 0 94) (r0 : ∀ (h' : am_H) (y0 : Int32), y0.toInt = 0 → ly_hy m_tt ly_TH h' → ly_fr cst [] h h' → h.length ≤ h'.length → Φ (some (.int y0), h', 0, 0)) : hp_F cst strs Φ D M 29 l [.int x0] h := by
  refine hp_arc c hM dmo8_k hD [] rfl hy hp_Bn hp_Fn hp_Kn (hp_La l0 hp_Ln) (hp_Si (z := (0 + 0)) rfl (by omega) trivial) ?_ ?_
  · intro p hp ys l' st' h' hys a1 a2 a3 gZ gL gS
    cases hp
  · intro p hp ys v h' hys a1 a2 a3 gZ gS
    rcases List.mem_cons.mp hp with rfl | hp
    · obtain rfl := hp_y0 hys
      cases v with
      | none => cases gS
      | some w =>
        obtain ⟨y0, t0, s0, q0, -⟩ := hp_gSi (z := (0 + 0)) gS rfl
        cases s0
        exact r0 h' y0 (by omega) a1 a2 a3
    cases hp
def dd_m (fK fO fN fF : Int → Option Int) (p y z k : Int) : Prop := fK k = some 1 ∧ fO k = some p ∧ (∃ a, fN k = some a ∧ a ≤ z) ∧ ∃ b, fF k = some b ∧ b ≤ y
def dd (fK fO fN fF : Int → Option Int) (t p y z : Int) : Prop := ∃ k, 0 ≤ k ∧ k < t ∧ dd_m fK fO fN fF p y z k
def dd_ok (p y z u : Int) : Prop := 0 ≤ p ∧ p < u ∧ 0 ≤ y ∧ y ≤ 399 ∧ 0 ≤ z ∧ z ≤ 399
/-- an answer that leaves all as it stands -/
def dd_Φ (cst : am_K) (h : am_H) (P : Int → Prop) (r : am_Q) : Prop := ∃ a : Int32, r.1 = some (.int a) ∧ r.2.2.1 = 0 ∧ r.2.2.2 = 0 ∧ ly_hy m_tt ly_TH r.2.1 ∧ ly_fr cst [] h r.2.1 ∧ P a.toInt
theorem dc_loop {cst : am_K} {strs : List Nat} {D : Nat} {M : am_M} {h0 : am_H} (c : hp_C cst strs D) (hM : m_P[33]? = some M) (hD : (2 : Int) ≤ (D : Int) + 1) {t p y z : Int} (t0 : 0 ≤ t) (t1 : t ≤ 300) (p0 : -2147483648 ≤ p) (p1 : p ≤ 2147483647) (y0 : -2147483648 ≤ y) (y1 : y ≤ 2147483647) (z0 : -2147483648 ≤ z) (z1 : z ≤ 2147483647) (hy0 : ly_hy m_tt ly_TH h0) : ∀ (N : Nat) (h : am_H) (l : am_L) (i : Int), (t - i).toNat < N → 0 ≤ i → i ≤ t → ly_hy m_tt ly_TH h → ly_fr cst [] h0 h → ly_hv cst h 1537 0 = some t → (∀ k, 0 ≤ k → k < i → ¬ dd_m (ly_hv cst h0 2304) (ly_hv cst h0 2560) (ly_hv cst h0 3328) (ly_hv cst h0 3072) p y z k) → hp_a l 0 22 → hp_i l 1 p → hp_i l 2 y → hp_i l 3 z → hp_i l 4 i → hp_F cst strs (dd_Φ cst h0 (fun a => (dd (ly_hv cst h0 2304) (ly_hv cst h0 2560) (ly_hv cst h0 3328) (ly_hv cst h0 3072) t p y z → a = 1) ∧ (¬ dd (ly_hv cst h0 2304) (ly_hv cst h0 2560) (ly_hv cst h0 3328) (ly_hv cst h0 3072) t p y z → a = 0))) D M 3 l [] h := by
  intro N
  induction N with
  | zero => intro h l i hN; omega
  | succ N ih =>
    intro h l i hN i0 i1 hy fr kt no l0 l1 l2 l3 l4
    have eK : ly_hv cst h 2304 = ly_hv cst h0 2304 := hp_same (show ly_ths ly_TH 9 = some (.inl (.int, 300, -2147483648, 2147483647)) from rfl) rfl hy0 hy fr
    have eO : ly_hv cst h 2560 = ly_hv cst h0 2560 := hp_same (show ly_ths ly_TH 10 = some (.inl (.int, 300, -2147483648, 2147483647)) from rfl) rfl hy0 hy fr
    have eN : ly_hv cst h 3328 = ly_hv cst h0 3328 := hp_same (show ly_ths ly_TH 13 = some (.inl (.int, 300, -2147483648, 2147483647)) from rfl) rfl hy0 hy fr
    have eF : ly_hv cst h 3072 = ly_hv cst h0 3072 := hp_same (show ly_ths ly_TH 12 = some (.inl (.int, 300, -2147483648, 2147483647)) from rfl) rfl hy0 hy fr
    by_cases hi : i = t
    · subst hi
      exact dcf c hM hD hy p y z i p0 p1 y0 y1 z0 z1 t0 t1 kt l0 l1 l2 l3 l4 (fun h2 a ha u1 u2 u3 => ⟨a, rfl, rfl, rfl, u1, ly_fr_tr fr u2, fun ⟨k, k0, k1, km⟩ => absurd km (no k k0 k1), fun _ => ha⟩)
    · obtain ⟨a, ka, a0, a1⟩ := hp_row (cst := cst) (i := i) hy (show ly_ths ly_TH 9 = some (.inl (.int, 300, -2147483648, 2147483647)) from rfl) i0 (by omega)
      obtain ⟨b, kb, b0, b1⟩ := hp_row (cst := cst) (i := i) hy (show ly_ths ly_TH 10 = some (.inl (.int, 300, -2147483648, 2147483647)) from rfl) i0 (by omega)
      obtain ⟨g, kg, g0, g1⟩ := hp_row (cst := cst) (i := i) hy (show ly_ths ly_TH 13 = some (.inl (.int, 300, -2147483648, 2147483647)) from rfl) i0 (by omega)
      obtain ⟨e, ke, e0, e1⟩ := hp_row (cst := cst) (i := i) hy (show ly_ths ly_TH 12 = some (.inl (.int, 300, -2147483648, 2147483647)) from rfl) i0 (by omega)
      have ka' : ly_hv cst h0 2304 i = some a := by rw [← eK]; exact ka
      have kb' : ly_hv cst h0 2560 i = some b := by rw [← eO]; exact kb
      have kg' : ly_hv cst h0 3328 i = some g := by rw [← eN]; exact kg
      have ke' : ly_hv cst h0 3072 i = some e := by rw [← eF]; exact ke
      have next : (¬ dd_m (ly_hv cst h0 2304) (ly_hv cst h0 2560) (ly_hv cst h0 3328) (ly_hv cst h0 3072) p y z i) → ∀ (l2' : am_L) (h2 : am_H), ly_hy m_tt ly_TH h2 → ly_fr cst [] h h2 → h.length ≤ h2.length → hp_a l2' 0 22 → hp_i l2' 1 p → hp_i l2' 2 y → hp_i l2' 3 z → hp_i l2' 4 (i + 1) → hp_F cst strs (dd_Φ cst h0 (fun a => (dd (ly_hv cst h0 2304) (ly_hv cst h0 2560) (ly_hv cst h0 3328) (ly_hv cst h0 3072) t p y z → a = 1) ∧ (¬ dd (ly_hv cst h0 2304) (ly_hv cst h0 2560) (ly_hv cst h0 3328) (ly_hv cst h0 3072) t p y z → a = 0))) D M 3 l2' [] h2 := fun nm l2' h2 u1 u2 u3 w0 w1 w2 w3 w4 => ih h2 l2' (i + 1) (by omega) (by omega) (by omega) u1 (ly_fr_tr fr u2) (u2 _ _ _ rfl kt) (fun k k0 k1 => if q : k = i then q ▸ nm else no k k0 (by omega)) w0 w1 w2 w3 w4
      by_cases qa : a = 1
      · subst qa
        by_cases qb : b = p
        · subst qb
          by_cases qc : g ≤ z
          · by_cases qd : e ≤ y
            · exact dca c hM hD hy b y z t i g e p0 p1 y0 y1 z0 z1 t0 t1 i0 (by omega) g0 g1 e0 e1 (by omega) (by omega) (by omega) kt ka kb kg ke l0 l1 l2 l3 l4 (fun h2 a ha u1 u2 u3 => ⟨a, rfl, rfl, rfl, u1, ly_fr_tr fr u2, fun _ => ha, fun nd => absurd ⟨i, i0, by omega, ka', kb', ⟨g, kg', qc⟩, ⟨e, ke', qd⟩⟩ nd⟩)
            · exact dce c hM hD hy b y z t i g e p0 p1 y0 y1 z0 z1 t0 t1 i0 (by omega) g0 g1 e0 e1 (by omega) (by omega) (by omega) kt ka kb kg ke l0 l1 l2 l3 l4 (next (fun m => by
                obtain ⟨-, -, -, b', hb', lb'⟩ := m
                rw [ke'] at hb'
                cases hb'
                exact qd lb'))
          · exact dcd c hM hD hy b y z t i g p0 p1 y0 y1 z0 z1 t0 t1 i0 (by omega) g0 g1 (by omega) (by omega) kt ka kb kg l0 l1 l2 l3 l4 (next (fun m => by
              obtain ⟨-, -, ⟨b', hb', lb'⟩, -⟩ := m
              rw [kg'] at hb'
              cases hb'
              exact qc lb'))
        · exact dcc c hM hD hy p y z t i b p0 p1 y0 y1 z0 z1 t0 t1 i0 (by omega) b0 b1 (by omega) kt ka kb (hp_ne (by omega)) l0 l1 l2 l3 l4 (next (fun m => by
            have := m.2.1
            rw [kb'] at this
            cases this
            exact qb rfl))
      · exact dcb c hM hD hy p y z t i a p0 p1 y0 y1 z0 z1 t0 t1 i0 (by omega) a0 a1 (by omega) kt ka (hp_ne (by omega)) l0 l1 l2 l3 l4 (next (fun m => by
          have := m.1
          rw [ka'] at this
          cases this
          exact qa rfl))
theorem dm_loop {cst : am_K} {strs : List Nat} {D : Nat} {M : am_M} {h0 : am_H} (c : hp_C cst strs D) (hM : m_P[294]? = some M) (hD : (2 : Int) ≤ (D : Int) + 1) {t p y z : Int} (t0 : 0 ≤ t) (t1 : t ≤ 300) (p0 : -2147483648 ≤ p) (p1 : p ≤ 2147483647) (y0 : -2147483648 ≤ y) (y1 : y ≤ 2147483647) (z0 : -2147483648 ≤ z) (z1 : z ≤ 2147483647) (hy0 : ly_hy m_tt ly_TH h0) : ∀ (N : Nat) (h : am_H) (l : am_L) (i : Int), (t - i).toNat < N → 0 ≤ i → i ≤ t → ly_hy m_tt ly_TH h → ly_fr cst [] h0 h → ly_hv cst h 19982 0 = some t → (∀ k, 0 ≤ k → k < i → ¬ dd_m (ly_hv cst h0 21248) (ly_hv cst h0 21504) (ly_hv cst h0 22528) (ly_hv cst h0 22272) p y z k) → hp_a l 0 94 → hp_i l 1 p → hp_i l 2 y → hp_i l 3 z → hp_i l 4 i → hp_F cst strs (dd_Φ cst h0 (fun a => (dd (ly_hv cst h0 21248) (ly_hv cst h0 21504) (ly_hv cst h0 22528) (ly_hv cst h0 22272) t p y z → a = 1) ∧ (¬ dd (ly_hv cst h0 21248) (ly_hv cst h0 21504) (ly_hv cst h0 22528) (ly_hv cst h0 22272) t p y z → a = 0))) D M 3 l [] h := by
  intro N
  induction N with
  | zero => intro h l i hN; omega
  | succ N ih =>
    intro h l i hN i0 i1 hy fr kt no l0 l1 l2 l3 l4
    have eK : ly_hv cst h 21248 = ly_hv cst h0 21248 := hp_same (show ly_ths ly_TH 83 = some (.inl (.int, 300, -2147483648, 2147483647)) from rfl) rfl hy0 hy fr
    have eO : ly_hv cst h 21504 = ly_hv cst h0 21504 := hp_same (show ly_ths ly_TH 84 = some (.inl (.int, 300, -2147483648, 2147483647)) from rfl) rfl hy0 hy fr
    have eN : ly_hv cst h 22528 = ly_hv cst h0 22528 := hp_same (show ly_ths ly_TH 88 = some (.inl (.int, 300, -2147483648, 2147483647)) from rfl) rfl hy0 hy fr
    have eF : ly_hv cst h 22272 = ly_hv cst h0 22272 := hp_same (show ly_ths ly_TH 87 = some (.inl (.int, 300, -2147483648, 2147483647)) from rfl) rfl hy0 hy fr
    by_cases hi : i = t
    · subst hi
      exact dmf c hM hD hy p y z i p0 p1 y0 y1 z0 z1 t0 t1 kt l0 l1 l2 l3 l4 (fun h2 a ha u1 u2 u3 => ⟨a, rfl, rfl, rfl, u1, ly_fr_tr fr u2, fun ⟨k, k0, k1, km⟩ => absurd km (no k k0 k1), fun _ => ha⟩)
    · obtain ⟨a, ka, a0, a1⟩ := hp_row (cst := cst) (i := i) hy (show ly_ths ly_TH 83 = some (.inl (.int, 300, -2147483648, 2147483647)) from rfl) i0 (by omega)
      obtain ⟨b, kb, b0, b1⟩ := hp_row (cst := cst) (i := i) hy (show ly_ths ly_TH 84 = some (.inl (.int, 300, -2147483648, 2147483647)) from rfl) i0 (by omega)
      obtain ⟨g, kg, g0, g1⟩ := hp_row (cst := cst) (i := i) hy (show ly_ths ly_TH 88 = some (.inl (.int, 300, -2147483648, 2147483647)) from rfl) i0 (by omega)
      obtain ⟨e, ke, e0, e1⟩ := hp_row (cst := cst) (i := i) hy (show ly_ths ly_TH 87 = some (.inl (.int, 300, -2147483648, 2147483647)) from rfl) i0 (by omega)
      have ka' : ly_hv cst h0 21248 i = some a := by rw [← eK]; exact ka
      have kb' : ly_hv cst h0 21504 i = some b := by rw [← eO]; exact kb
      have kg' : ly_hv cst h0 22528 i = some g := by rw [← eN]; exact kg
      have ke' : ly_hv cst h0 22272 i = some e := by rw [← eF]; exact ke
      have next : (¬ dd_m (ly_hv cst h0 21248) (ly_hv cst h0 21504) (ly_hv cst h0 22528) (ly_hv cst h0 22272) p y z i) → ∀ (l2' : am_L) (h2 : am_H), ly_hy m_tt ly_TH h2 → ly_fr cst [] h h2 → h.length ≤ h2.length → hp_a l2' 0 94 → hp_i l2' 1 p → hp_i l2' 2 y → hp_i l2' 3 z → hp_i l2' 4 (i + 1) → hp_F cst strs (dd_Φ cst h0 (fun a => (dd (ly_hv cst h0 21248) (ly_hv cst h0 21504) (ly_hv cst h0 22528) (ly_hv cst h0 22272) t p y z → a = 1) ∧ (¬ dd (ly_hv cst h0 21248) (ly_hv cst h0 21504) (ly_hv cst h0 22528) (ly_hv cst h0 22272) t p y z → a = 0))) D M 3 l2' [] h2 := fun nm l2' h2 u1 u2 u3 w0 w1 w2 w3 w4 => ih h2 l2' (i + 1) (by omega) (by omega) (by omega) u1 (ly_fr_tr fr u2) (u2 _ _ _ rfl kt) (fun k k0 k1 => if q : k = i then q ▸ nm else no k k0 (by omega)) w0 w1 w2 w3 w4
      by_cases qa : a = 1
      · subst qa
        by_cases qb : b = p
        · subst qb
          by_cases qc : g ≤ z
          · by_cases qd : e ≤ y
            · exact dma c hM hD hy b y z t i g e p0 p1 y0 y1 z0 z1 t0 t1 i0 (by omega) g0 g1 e0 e1 (by omega) (by omega) (by omega) kt ka kb kg ke l0 l1 l2 l3 l4 (fun h2 a ha u1 u2 u3 => ⟨a, rfl, rfl, rfl, u1, ly_fr_tr fr u2, fun _ => ha, fun nd => absurd ⟨i, i0, by omega, ka', kb', ⟨g, kg', qc⟩, ⟨e, ke', qd⟩⟩ nd⟩)
            · exact dme c hM hD hy b y z t i g e p0 p1 y0 y1 z0 z1 t0 t1 i0 (by omega) g0 g1 e0 e1 (by omega) (by omega) (by omega) kt ka kb kg ke l0 l1 l2 l3 l4 (next (fun m => by
                obtain ⟨-, -, -, b', hb', lb'⟩ := m
                rw [ke'] at hb'
                cases hb'
                exact qd lb'))
          · exact dmd c hM hD hy b y z t i g p0 p1 y0 y1 z0 z1 t0 t1 i0 (by omega) g0 g1 (by omega) (by omega) kt ka kb kg l0 l1 l2 l3 l4 (next (fun m => by
              obtain ⟨-, -, ⟨b', hb', lb'⟩, -⟩ := m
              rw [kg'] at hb'
              cases hb'
              exact qc lb'))
        · exact dmc c hM hD hy p y z t i b p0 p1 y0 y1 z0 z1 t0 t1 i0 (by omega) b0 b1 (by omega) kt ka kb (hp_ne (by omega)) l0 l1 l2 l3 l4 (next (fun m => by
            have := m.2.1
            rw [kb'] at this
            cases this
            exact qb rfl))
      · exact dmb c hM hD hy p y z t i a p0 p1 y0 y1 z0 z1 t0 t1 i0 (by omega) a0 a1 (by omega) kt ka (hp_ne (by omega)) l0 l1 l2 l3 l4 (next (fun m => by
          have := m.1
          rw [ka'] at this
          cases this
          exact qa rfl))
theorem dc_run {cst : am_K} {strs : List Nat} {D : Nat} {h : am_H} (c : hp_C cst strs D) (hD : (2 : Int) ≤ (D : Int) + 1) (hy : ly_hy m_tt ly_TH h) {xp xy xz : Int32} {t : Int} (t0 : 0 ≤ t) (t1 : t ≤ 300) (kt : ly_hv cst h 1537 0 = some t) :
    ∃ r, am_Run cst m_cl m_tt m_P strs sx_bi (D + 1) 33 [.ref 22, .int xp, .int xy, .int xz] h r ∧ dd_Φ cst h (fun a => (dd (ly_hv cst h 2304) (ly_hv cst h 2560) (ly_hv cst h 3328) (ly_hv cst h 3072) t xp.toInt xy.toInt xz.toInt → a = 1) ∧ (¬ dd (ly_hv cst h 2304) (ly_hv cst h 2560) (ly_hv cst h 3328) (ly_hv cst h 3072) t xp.toInt xy.toInt xz.toInt → a = 0)) r := by
  obtain ⟨M, hM, hl⟩ := hp_M (mi := 33) (k := 4) (by decide +kernel)
  have go : hp_F cst strs (dd_Φ cst h (fun a => (dd (ly_hv cst h 2304) (ly_hv cst h 2560) (ly_hv cst h 3328) (ly_hv cst h 3072) t xp.toInt xy.toInt xz.toInt → a = 1) ∧ (¬ dd (ly_hv cst h 2304) (ly_hv cst h 2560) (ly_hv cst h 3328) (ly_hv cst h 3072) t xp.toInt xy.toInt xz.toInt → a = 0))) D M 0 (lv_args 0 [.ref 22, .int xp, .int xy, .int xz]) [] h :=
    dc0 c hM hD hy xp.toInt xy.toInt xz.toInt xp.le_toInt xp.toInt_le xy.le_toInt xy.toInt_le xz.le_toInt xz.toInt_le rfl ⟨xp, rfl, rfl⟩ ⟨xy, rfl, rfl⟩ ⟨xz, rfl, rfl⟩ (fun l' h2 u1 u2 u3 w0 w1 w2 w3 w4 => dc_loop c hM hD t0 t1 xp.le_toInt xp.toInt_le xy.le_toInt xy.toInt_le xz.le_toInt xz.toInt_le hy ((t - 0).toNat + 1) h2 l' 0 (Nat.lt_succ_self _) (by omega) t0 u1 u2 (u2 _ _ _ rfl kt) (fun k k0 k1 => by omega) w0 w1 w2 w3 w4)
  obtain ⟨n, r, hgo, a, r1, r2, r3, r4⟩ := go
  simp only [Nat.zero_add] at r2 r3
  exact ⟨r, Or.inr ⟨M, n, hM, hl, hgo⟩, a, r1, r2, r3, r4⟩
theorem dc_on {cst : am_K} {strs : List Nat} {D : Nat} {h : am_H} (c1 : hp_C cst strs D) (c : hp_C cst strs (D + 1)) (hD : (3 : Int) ≤ (D : Int) + 1) (hy : ly_hy m_tt ly_TH h) {xp xy xz : Int32} {t u : Int} (t0 : 0 ≤ t) (t1 : t ≤ 300) (kt : ly_hv cst h 1537 0 = some t) (u0 : 0 ≤ u) (u1 : u ≤ 120) (ku : ly_hv cst h 1536 0 = some u) :
    ∃ r, am_Run cst m_cl m_tt m_P strs sx_bi (D + 1 + 1) 67 [.ref 16, .int xp, .int xy, .int xz] h r ∧ dd_Φ cst h (fun a => (¬ dd_ok xp.toInt xy.toInt xz.toInt u → a = -2) ∧ (dd_ok xp.toInt xy.toInt xz.toInt u → (dd (ly_hv cst h 2304) (ly_hv cst h 2560) (ly_hv cst h 3328) (ly_hv cst h 3072) t xp.toInt xy.toInt xz.toInt → a = 1) ∧ (¬ dd (ly_hv cst h 2304) (ly_hv cst h 2560) (ly_hv cst h 3328) (ly_hv cst h 3072) t xp.toInt xy.toInt xz.toInt → a = 0))) r := by
  obtain ⟨M, hM, hl⟩ := hp_M (mi := 67) (k := 4) (by decide +kernel)
  have a0 := xp.le_toInt
  have a1 := xp.toInt_le
  have b0 := xy.le_toInt
  have b1 := xy.toInt_le
  have e0 := xz.le_toInt
  have e1 := xz.toInt_le
  have go : hp_F cst strs (dd_Φ cst h (fun a => (¬ dd_ok xp.toInt xy.toInt xz.toInt u → a = -2) ∧ (dd_ok xp.toInt xy.toInt xz.toInt u → (dd (ly_hv cst h 2304) (ly_hv cst h 2560) (ly_hv cst h 3328) (ly_hv cst h 3072) t xp.toInt xy.toInt xz.toInt → a = 1) ∧ (¬ dd (ly_hv cst h 2304) (ly_hv cst h 2560) (ly_hv cst h 3328) (ly_hv cst h 3072) t xp.toInt xy.toInt xz.toInt → a = 0)))) (D + 1) M 0 (lv_args 0 [.ref 16, .int xp, .int xy, .int xz]) [] h := by
    have no : ¬ dd_ok xp.toInt xy.toInt xz.toInt u → ∀ (h2 : am_H) (w : Int32), w.toInt = -2 → ly_hy m_tt ly_TH h2 → ly_fr cst [] h h2 → h.length ≤ h2.length → dd_Φ cst h (fun a => (¬ dd_ok xp.toInt xy.toInt xz.toInt u → a = -2) ∧ (dd_ok xp.toInt xy.toInt xz.toInt u → (dd (ly_hv cst h 2304) (ly_hv cst h 2560) (ly_hv cst h 3328) (ly_hv cst h 3072) t xp.toInt xy.toInt xz.toInt → a = 1) ∧ (¬ dd (ly_hv cst h 2304) (ly_hv cst h 2560) (ly_hv cst h 3328) (ly_hv cst h 3072) t xp.toInt xy.toInt xz.toInt → a = 0))) (some (.int w), h2, 0, 0) := fun nk h2 w hw g1 g2 g3 => ⟨w, rfl, rfl, rfl, g1, g2, fun _ => hw, fun ok => absurd ok nk⟩
    by_cases p1 : xp.toInt ≤ -1
    · exact dco0 c hM (by omega) hy xp.toInt xy.toInt xz.toInt u a0 p1 b0 b1 e0 e1 u0 u1 ku rfl ⟨xp, rfl, rfl⟩ ⟨xy, rfl, rfl⟩ ⟨xz, rfl, rfl⟩ (no (fun k => by have := k.1; omega))
    by_cases p2 : u ≤ xp.toInt
    · exact dco1 c hM (by omega) hy xp.toInt xy.toInt xz.toInt u (by omega) a1 b0 b1 e0 e1 u0 u1 (by omega) ku rfl ⟨xp, rfl, rfl⟩ ⟨xy, rfl, rfl⟩ ⟨xz, rfl, rfl⟩ (no (fun k => by have := k.2.1; omega))
    by_cases p3 : xy.toInt ≤ -1
    · exact dco2 c hM (by omega) hy xp.toInt xy.toInt xz.toInt u (by omega) (by omega) b0 p3 e0 e1 u0 u1 (by omega) ku rfl ⟨xp, rfl, rfl⟩ ⟨xy, rfl, rfl⟩ ⟨xz, rfl, rfl⟩ (no (fun k => by have := k.2.2.1; omega))
    by_cases p4 : 400 ≤ xy.toInt
    · exact dco3 c hM (by omega) hy xp.toInt xy.toInt xz.toInt u (by omega) (by omega) p4 b1 e0 e1 u0 u1 (by omega) ku rfl ⟨xp, rfl, rfl⟩ ⟨xy, rfl, rfl⟩ ⟨xz, rfl, rfl⟩ (no (fun k => by have := k.2.2.2.1; omega))
    by_cases p5 : xz.toInt ≤ -1
    · exact dco4 c hM (by omega) hy xp.toInt xy.toInt xz.toInt u (by omega) (by omega) (by omega) (by omega) e0 p5 u0 u1 (by omega) ku rfl ⟨xp, rfl, rfl⟩ ⟨xy, rfl, rfl⟩ ⟨xz, rfl, rfl⟩ (no (fun k => by have := k.2.2.2.2.1; omega))
    by_cases p6 : 400 ≤ xz.toInt
    · exact dco5 c hM (by omega) hy xp.toInt xy.toInt xz.toInt u (by omega) (by omega) (by omega) (by omega) p6 e1 u0 u1 (by omega) ku rfl ⟨xp, rfl, rfl⟩ ⟨xy, rfl, rfl⟩ ⟨xz, rfl, rfl⟩ (no (fun k => by have := k.2.2.2.2.2; omega))
    have ok : dd_ok xp.toInt xy.toInt xz.toInt u := ⟨by omega, by omega, by omega, by omega, by omega, by omega⟩
    refine dco6 c hM (by omega) hy xp.toInt xy.toInt xz.toInt u (by omega) (by omega) (by omega) (by omega) (by omega) (by omega) u0 u1 (by omega) ku rfl ⟨xp, rfl, rfl⟩ ⟨xy, rfl, rfl⟩ ⟨xz, rfl, rfl⟩ (fun l' h2 w0 w1 w2 f0 f1 f2 g1 g2 g3 j0 => ?_)
    obtain ⟨r, hrun, a, r1, r2, r3, rhy, rfr, ra⟩ := dc_run (xp := w2) (xy := w1) (xz := w0) c1 (by omega) g1 t0 t1 (g2 _ _ _ rfl kt)
    refine hp_call (mi := 67) (pc := 35) (tg := 33) (na := 4) (c := 6) (ci := 2) (st0 := [.int w0, .int w1, .int w2, .ref 22]) (st := []) (av := [.int w2, .int w1, .int w0]) hM (by decide +kernel) g1 rfl rfl rfl (by decide) hrun r2 r3 ?_
    rw [r1]
    rw [f0, f1, f2, hp_same (show ly_ths ly_TH 9 = some (.inl (.int, 300, -2147483648, 2147483647)) from rfl) rfl hy g1 g2, hp_same (show ly_ths ly_TH 10 = some (.inl (.int, 300, -2147483648, 2147483647)) from rfl) rfl hy g1 g2, hp_same (show ly_ths ly_TH 13 = some (.inl (.int, 300, -2147483648, 2147483647)) from rfl) rfl hy g1 g2, hp_same (show ly_ths ly_TH 12 = some (.inl (.int, 300, -2147483648, 2147483647)) from rfl) rfl hy g1 g2] at ra
    by_cases q : dd (ly_hv cst h 2304) (ly_hv cst h 2560) (ly_hv cst h 3328) (ly_hv cst h 3072) t xp.toInt xy.toInt xz.toInt
    · exact dco7 c hM (by omega) rhy a (ra.1 q) j0 (fun h3 w hw v1 v2 v3 => ⟨w, rfl, rfl, rfl, v1, ly_fr_tr g2 (ly_fr_tr rfr v2), fun nk => absurd ok nk, fun _ => ⟨fun _ => hw, fun nq => absurd q nq⟩⟩)
    · exact dco8 c hM (by omega) rhy a (ra.2 q) j0 (fun h3 w hw v1 v2 v3 => ⟨w, rfl, rfl, rfl, v1, ly_fr_tr g2 (ly_fr_tr rfr v2), fun nk => absurd ok nk, fun _ => ⟨fun nq => absurd nq q, fun _ => hw⟩⟩)
  obtain ⟨n, r, hgo, a, r1, r2, r3, r4⟩ := go
  simp only [Nat.zero_add] at r2 r3
  exact ⟨r, Or.inr ⟨M, n, hM, hl, hgo⟩, a, r1, r2, r3, r4⟩
theorem dm_run {cst : am_K} {strs : List Nat} {D : Nat} {h : am_H} (c : hp_C cst strs D) (hD : (2 : Int) ≤ (D : Int) + 1) (hy : ly_hy m_tt ly_TH h) {xp xy xz : Int32} {t : Int} (t0 : 0 ≤ t) (t1 : t ≤ 300) (kt : ly_hv cst h 19982 0 = some t) :
    ∃ r, am_Run cst m_cl m_tt m_P strs sx_bi (D + 1) 294 [.ref 94, .int xp, .int xy, .int xz] h r ∧ dd_Φ cst h (fun a => (dd (ly_hv cst h 21248) (ly_hv cst h 21504) (ly_hv cst h 22528) (ly_hv cst h 22272) t xp.toInt xy.toInt xz.toInt → a = 1) ∧ (¬ dd (ly_hv cst h 21248) (ly_hv cst h 21504) (ly_hv cst h 22528) (ly_hv cst h 22272) t xp.toInt xy.toInt xz.toInt → a = 0)) r := by
  obtain ⟨M, hM, hl⟩ := hp_M (mi := 294) (k := 4) (by decide +kernel)
  have go : hp_F cst strs (dd_Φ cst h (fun a => (dd (ly_hv cst h 21248) (ly_hv cst h 21504) (ly_hv cst h 22528) (ly_hv cst h 22272) t xp.toInt xy.toInt xz.toInt → a = 1) ∧ (¬ dd (ly_hv cst h 21248) (ly_hv cst h 21504) (ly_hv cst h 22528) (ly_hv cst h 22272) t xp.toInt xy.toInt xz.toInt → a = 0))) D M 0 (lv_args 0 [.ref 94, .int xp, .int xy, .int xz]) [] h :=
    dm0 c hM hD hy xp.toInt xy.toInt xz.toInt xp.le_toInt xp.toInt_le xy.le_toInt xy.toInt_le xz.le_toInt xz.toInt_le rfl ⟨xp, rfl, rfl⟩ ⟨xy, rfl, rfl⟩ ⟨xz, rfl, rfl⟩ (fun l' h2 u1 u2 u3 w0 w1 w2 w3 w4 => dm_loop c hM hD t0 t1 xp.le_toInt xp.toInt_le xy.le_toInt xy.toInt_le xz.le_toInt xz.toInt_le hy ((t - 0).toNat + 1) h2 l' 0 (Nat.lt_succ_self _) (by omega) t0 u1 u2 (u2 _ _ _ rfl kt) (fun k k0 k1 => by omega) w0 w1 w2 w3 w4)
  obtain ⟨n, r, hgo, a, r1, r2, r3, r4⟩ := go
  simp only [Nat.zero_add] at r2 r3
  exact ⟨r, Or.inr ⟨M, n, hM, hl, hgo⟩, a, r1, r2, r3, r4⟩
theorem dm_on {cst : am_K} {strs : List Nat} {D : Nat} {h : am_H} (c1 : hp_C cst strs D) (c : hp_C cst strs (D + 1)) (hD : (3 : Int) ≤ (D : Int) + 1) (hy : ly_hy m_tt ly_TH h) {xp xy xz : Int32} {t u : Int} (t0 : 0 ≤ t) (t1 : t ≤ 300) (kt : ly_hv cst h 19982 0 = some t) (u0 : 0 ≤ u) (u1 : u ≤ 120) (ku : ly_hv cst h 19978 0 = some u) :
    ∃ r, am_Run cst m_cl m_tt m_P strs sx_bi (D + 1 + 1) 293 [.ref 94, .int xp, .int xy, .int xz] h r ∧ dd_Φ cst h (fun a => (¬ dd_ok xp.toInt xy.toInt xz.toInt u → a = -2) ∧ (dd_ok xp.toInt xy.toInt xz.toInt u → (dd (ly_hv cst h 21248) (ly_hv cst h 21504) (ly_hv cst h 22528) (ly_hv cst h 22272) t xp.toInt xy.toInt xz.toInt → a = 1) ∧ (¬ dd (ly_hv cst h 21248) (ly_hv cst h 21504) (ly_hv cst h 22528) (ly_hv cst h 22272) t xp.toInt xy.toInt xz.toInt → a = 0))) r := by
  obtain ⟨M, hM, hl⟩ := hp_M (mi := 293) (k := 4) (by decide +kernel)
  have a0 := xp.le_toInt
  have a1 := xp.toInt_le
  have b0 := xy.le_toInt
  have b1 := xy.toInt_le
  have e0 := xz.le_toInt
  have e1 := xz.toInt_le
  have go : hp_F cst strs (dd_Φ cst h (fun a => (¬ dd_ok xp.toInt xy.toInt xz.toInt u → a = -2) ∧ (dd_ok xp.toInt xy.toInt xz.toInt u → (dd (ly_hv cst h 21248) (ly_hv cst h 21504) (ly_hv cst h 22528) (ly_hv cst h 22272) t xp.toInt xy.toInt xz.toInt → a = 1) ∧ (¬ dd (ly_hv cst h 21248) (ly_hv cst h 21504) (ly_hv cst h 22528) (ly_hv cst h 22272) t xp.toInt xy.toInt xz.toInt → a = 0)))) (D + 1) M 0 (lv_args 0 [.ref 94, .int xp, .int xy, .int xz]) [] h := by
    have no : ¬ dd_ok xp.toInt xy.toInt xz.toInt u → ∀ (h2 : am_H) (w : Int32), w.toInt = -2 → ly_hy m_tt ly_TH h2 → ly_fr cst [] h h2 → h.length ≤ h2.length → dd_Φ cst h (fun a => (¬ dd_ok xp.toInt xy.toInt xz.toInt u → a = -2) ∧ (dd_ok xp.toInt xy.toInt xz.toInt u → (dd (ly_hv cst h 21248) (ly_hv cst h 21504) (ly_hv cst h 22528) (ly_hv cst h 22272) t xp.toInt xy.toInt xz.toInt → a = 1) ∧ (¬ dd (ly_hv cst h 21248) (ly_hv cst h 21504) (ly_hv cst h 22528) (ly_hv cst h 22272) t xp.toInt xy.toInt xz.toInt → a = 0))) (some (.int w), h2, 0, 0) := fun nk h2 w hw g1 g2 g3 => ⟨w, rfl, rfl, rfl, g1, g2, fun _ => hw, fun ok => absurd ok nk⟩
    by_cases p1 : xp.toInt ≤ -1
    · exact dmo0 c hM (by omega) hy xp.toInt xy.toInt xz.toInt u a0 p1 b0 b1 e0 e1 u0 u1 ku rfl ⟨xp, rfl, rfl⟩ ⟨xy, rfl, rfl⟩ ⟨xz, rfl, rfl⟩ (no (fun k => by have := k.1; omega))
    by_cases p2 : u ≤ xp.toInt
    · exact dmo1 c hM (by omega) hy xp.toInt xy.toInt xz.toInt u (by omega) a1 b0 b1 e0 e1 u0 u1 (by omega) ku rfl ⟨xp, rfl, rfl⟩ ⟨xy, rfl, rfl⟩ ⟨xz, rfl, rfl⟩ (no (fun k => by have := k.2.1; omega))
    by_cases p3 : xy.toInt ≤ -1
    · exact dmo2 c hM (by omega) hy xp.toInt xy.toInt xz.toInt u (by omega) (by omega) b0 p3 e0 e1 u0 u1 (by omega) ku rfl ⟨xp, rfl, rfl⟩ ⟨xy, rfl, rfl⟩ ⟨xz, rfl, rfl⟩ (no (fun k => by have := k.2.2.1; omega))
    by_cases p4 : 400 ≤ xy.toInt
    · exact dmo3 c hM (by omega) hy xp.toInt xy.toInt xz.toInt u (by omega) (by omega) p4 b1 e0 e1 u0 u1 (by omega) ku rfl ⟨xp, rfl, rfl⟩ ⟨xy, rfl, rfl⟩ ⟨xz, rfl, rfl⟩ (no (fun k => by have := k.2.2.2.1; omega))
    by_cases p5 : xz.toInt ≤ -1
    · exact dmo4 c hM (by omega) hy xp.toInt xy.toInt xz.toInt u (by omega) (by omega) (by omega) (by omega) e0 p5 u0 u1 (by omega) ku rfl ⟨xp, rfl, rfl⟩ ⟨xy, rfl, rfl⟩ ⟨xz, rfl, rfl⟩ (no (fun k => by have := k.2.2.2.2.1; omega))
    by_cases p6 : 400 ≤ xz.toInt
    · exact dmo5 c hM (by omega) hy xp.toInt xy.toInt xz.toInt u (by omega) (by omega) (by omega) (by omega) p6 e1 u0 u1 (by omega) ku rfl ⟨xp, rfl, rfl⟩ ⟨xy, rfl, rfl⟩ ⟨xz, rfl, rfl⟩ (no (fun k => by have := k.2.2.2.2.2; omega))
    have ok : dd_ok xp.toInt xy.toInt xz.toInt u := ⟨by omega, by omega, by omega, by omega, by omega, by omega⟩
    refine dmo6 c hM (by omega) hy xp.toInt xy.toInt xz.toInt u (by omega) (by omega) (by omega) (by omega) (by omega) (by omega) u0 u1 (by omega) ku rfl ⟨xp, rfl, rfl⟩ ⟨xy, rfl, rfl⟩ ⟨xz, rfl, rfl⟩ (fun l' h2 w0 w1 w2 f0 f1 f2 g1 g2 g3 j0 => ?_)
    obtain ⟨r, hrun, a, r1, r2, r3, rhy, rfr, ra⟩ := dm_run (xp := w2) (xy := w1) (xz := w0) c1 (by omega) g1 t0 t1 (g2 _ _ _ rfl kt)
    refine hp_call (mi := 293) (pc := 26) (tg := 294) (na := 4) (c := 78) (ci := 12) (st0 := [.int w0, .int w1, .int w2, .ref 94]) (st := []) (av := [.int w2, .int w1, .int w0]) hM (by decide +kernel) g1 rfl rfl rfl (by decide) hrun r2 r3 ?_
    rw [r1]
    rw [f0, f1, f2, hp_same (show ly_ths ly_TH 83 = some (.inl (.int, 300, -2147483648, 2147483647)) from rfl) rfl hy g1 g2, hp_same (show ly_ths ly_TH 84 = some (.inl (.int, 300, -2147483648, 2147483647)) from rfl) rfl hy g1 g2, hp_same (show ly_ths ly_TH 88 = some (.inl (.int, 300, -2147483648, 2147483647)) from rfl) rfl hy g1 g2, hp_same (show ly_ths ly_TH 87 = some (.inl (.int, 300, -2147483648, 2147483647)) from rfl) rfl hy g1 g2] at ra
    by_cases q : dd (ly_hv cst h 21248) (ly_hv cst h 21504) (ly_hv cst h 22528) (ly_hv cst h 22272) t xp.toInt xy.toInt xz.toInt
    · exact dmo7 c hM (by omega) rhy a (ra.1 q) j0 (fun h3 w hw v1 v2 v3 => ⟨w, rfl, rfl, rfl, v1, ly_fr_tr g2 (ly_fr_tr rfr v2), fun nk => absurd ok nk, fun _ => ⟨fun _ => hw, fun nq => absurd q nq⟩⟩)
    · exact dmo8 c hM (by omega) rhy a (ra.2 q) j0 (fun h3 w hw v1 v2 v3 => ⟨w, rfl, rfl, rfl, v1, ly_fr_tr g2 (ly_fr_tr rfr v2), fun nk => absurd ok nk, fun _ => ⟨fun nq => absurd nq q, fun _ => hw⟩⟩)
  obtain ⟨n, r, hgo, a, r1, r2, r3, r4⟩ := go
  simp only [Nat.zero_add] at r2 r3
  exact ⟨r, Or.inr ⟨M, n, hM, hl, hgo⟩, a, r1, r2, r3, r4⟩
