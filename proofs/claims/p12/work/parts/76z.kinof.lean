/-! PRINTED by wip/p2/hp_kinof.py: kinOf and kinOn of class and reference, exactly -/
theorem yk0_k : hp_chk 69 0 4 [(0, 0, 119), (1, 0, 119), (2, (-2147483648), 2147483647), (3, 0, 300)] [((-1), [(0, (-1)), (1, 1)])] [(0, .inr (.inr (.inl (some 22)))), (1, .inl (0, [(0, 1)])), (2, .inl (0, [(1, 1)])), (3, .inl (0, [(2, 1)]))] [] [(1537, (0, []), (0, [(3, 1)]))] [] 4 [(15, ([], 4, [(0, 0, 119), (1, 0, 119), (2, (-2147483648), 2147483647), (3, 0, 300)], [], [(0, .inr (.inr (.inl (some 22)))), (3, .inl (0, [(2, 1)])), (4, .inl (0, [(0, 120), (1, 1)])), (5, .inl ((-1), [(3, 1)]))], [], []))] [] = true := by decide +kernel
theorem yk0 {cst : am_K} {strs : List Nat} {Φ : am_Q → Prop} {D : Nat} {M : am_M} {h : am_H} {l : am_L} (c : hp_C cst strs D) (hM : m_P[69]? = some M) (hD : (4 : Int) ≤ (D : Int) + 1) (hy : ly_hy m_tt ly_TH h) (p q z t : Int) (b0 : 0 ≤ p) (t0 : p ≤ 119) (b1 : 0 ≤ q) (t1 : q ≤ 119) (b2 : (-2147483648) ≤ z) (t2 : z ≤ 2147483647) (b3 : 0 ≤ t) (t3 : t ≤ 300) (f0 : 0 ≤ (q - p - 1)) (k0 : ly_hv cst h 1537 0 = some (t)) (l0 : hp_a l 0 22) (l1 : hp_i l 1 (p)) (l2 : hp_i l 2 (q)) (l3 : hp_i l 3 (z)) (e0 : ∀ (l' : am_L) (h' : am_H), ly_hy m_tt ly_TH h' → ly_fr cst [] h h' → h.length ≤ h'.length → hp_a l' 0 22 → hp_i l' 3 (z) → hp_i l' 4 (120 * p + q) → hp_i l' 5 (t - 1) → hp_F cst strs Φ D M 15 l' [] h') : hp_F cst strs Φ D M 0 l [] h := by
  refine hp_arc c hM yk0_k hD [p, q, z, t] rfl hy (hp_Bc (z := p) rfl b0 t0 (hp_Bc (z := q) rfl b1 t1 (hp_Bc (z := z) rfl b2 t2 (hp_Bc (z := t) rfl b3 t3 hp_Bn)))) (hp_Fc (z := ((-1) + ((-1) * p + (1 * q + 0)))) rfl (by omega) hp_Fn) (hp_Kc (zi := (0 + 0)) (zv := (0 + (1 * t + 0))) k0 rfl rfl (by omega) (by omega) hp_Kn) (hp_La l0 (hp_Li (z := (0 + (1 * p + 0))) l1 rfl (by omega) (hp_Li (z := (0 + (1 * q + 0))) l2 rfl (by omega) (hp_Li (z := (0 + (1 * z + 0))) l3 rfl (by omega) hp_Ln)))) trivial ?_ ?_
  · intro p hp ys l' st' h' hys a1 a2 a3 gZ gL gS
    rcases List.mem_cons.mp hp with rfl | hp
    · obtain rfl := hp_y0 hys
      cases hp_gSn gS
      exact e0 l' h' a1 a2 a3 (hp_gLa gL (List.mem_of_getElem? (i := 0) rfl) (by decide)) (hp_gLi (z := (0 + (1 * z + 0))) gL (List.mem_of_getElem? (i := 1) rfl) rfl (by omega)) (hp_gLi (z := (0 + (120 * p + (1 * q + 0)))) gL (List.mem_of_getElem? (i := 2) rfl) rfl (by omega)) (hp_gLi (z := ((-1) + (1 * t + 0))) gL (List.mem_of_getElem? (i := 3) rfl) rfl (by omega))
    cases hp
  · intro p hp ys v h' hys a1 a2 a3 gZ gS
    cases hp
theorem yk1_k : hp_chk 69 0 4 [(0, 0, 119), (1, 0, 119), (2, (-2147483648), 2147483647), (3, 0, 300)] [((-1), [(0, 1), (1, (-1))])] [(0, .inr (.inr (.inl (some 22)))), (1, .inl (0, [(0, 1)])), (2, .inl (0, [(1, 1)])), (3, .inl (0, [(2, 1)]))] [] [(1537, (0, []), (0, [(3, 1)]))] [] 4 [(15, ([], 4, [(0, 0, 119), (1, 0, 119), (2, (-2147483648), 2147483647), (3, 0, 300)], [], [(0, .inr (.inr (.inl (some 22)))), (3, .inl (0, [(2, 1)])), (4, .inl (0, [(0, 1), (1, 120)])), (5, .inl ((-1), [(3, 1)]))], [], []))] [] = true := by decide +kernel
theorem yk1 {cst : am_K} {strs : List Nat} {Φ : am_Q → Prop} {D : Nat} {M : am_M} {h : am_H} {l : am_L} (c : hp_C cst strs D) (hM : m_P[69]? = some M) (hD : (4 : Int) ≤ (D : Int) + 1) (hy : ly_hy m_tt ly_TH h) (p q z t : Int) (b0 : 0 ≤ p) (t0 : p ≤ 119) (b1 : 0 ≤ q) (t1 : q ≤ 119) (b2 : (-2147483648) ≤ z) (t2 : z ≤ 2147483647) (b3 : 0 ≤ t) (t3 : t ≤ 300) (f0 : 0 ≤ (p - q - 1)) (k0 : ly_hv cst h 1537 0 = some (t)) (l0 : hp_a l 0 22) (l1 : hp_i l 1 (p)) (l2 : hp_i l 2 (q)) (l3 : hp_i l 3 (z)) (e0 : ∀ (l' : am_L) (h' : am_H), ly_hy m_tt ly_TH h' → ly_fr cst [] h h' → h.length ≤ h'.length → hp_a l' 0 22 → hp_i l' 3 (z) → hp_i l' 4 (120 * q + p) → hp_i l' 5 (t - 1) → hp_F cst strs Φ D M 15 l' [] h') : hp_F cst strs Φ D M 0 l [] h := by
  refine hp_arc c hM yk1_k hD [p, q, z, t] rfl hy (hp_Bc (z := p) rfl b0 t0 (hp_Bc (z := q) rfl b1 t1 (hp_Bc (z := z) rfl b2 t2 (hp_Bc (z := t) rfl b3 t3 hp_Bn)))) (hp_Fc (z := ((-1) + (1 * p + ((-1) * q + 0)))) rfl (by omega) hp_Fn) (hp_Kc (zi := (0 + 0)) (zv := (0 + (1 * t + 0))) k0 rfl rfl (by omega) (by omega) hp_Kn) (hp_La l0 (hp_Li (z := (0 + (1 * p + 0))) l1 rfl (by omega) (hp_Li (z := (0 + (1 * q + 0))) l2 rfl (by omega) (hp_Li (z := (0 + (1 * z + 0))) l3 rfl (by omega) hp_Ln)))) trivial ?_ ?_
  · intro p hp ys l' st' h' hys a1 a2 a3 gZ gL gS
    rcases List.mem_cons.mp hp with rfl | hp
    · obtain rfl := hp_y0 hys
      cases hp_gSn gS
      exact e0 l' h' a1 a2 a3 (hp_gLa gL (List.mem_of_getElem? (i := 0) rfl) (by decide)) (hp_gLi (z := (0 + (1 * z + 0))) gL (List.mem_of_getElem? (i := 1) rfl) rfl (by omega)) (hp_gLi (z := (0 + (1 * p + (120 * q + 0)))) gL (List.mem_of_getElem? (i := 2) rfl) rfl (by omega)) (hp_gLi (z := ((-1) + (1 * t + 0))) gL (List.mem_of_getElem? (i := 3) rfl) rfl (by omega))
    cases hp
  · intro p hp ys v h' hys a1 a2 a3 gZ gS
    cases hp
theorem yka_k : hp_chk 69 15 6 [(0, (-2147483648), 2147483647), (1, 0, 14399), (2, 0, 300), (3, 0, 299), (4, (-2147483648), 2147483647), (5, (-2147483648), 2147483647)] [((-1), [(2, 1), (3, (-1))]), (0, [(0, 1), (4, (-1))])] [(0, .inr (.inr (.inl (some 22)))), (3, .inl (0, [(0, 1)])), (4, .inl (0, [(1, 1)])), (5, .inl (0, [(3, 1)]))] [] [(2304, (0, [(3, 1)]), (2, [])), (2560, (0, [(3, 1)]), (0, [(1, 1)])), (3328, (0, [(3, 1)]), (0, [(4, 1)])), (2816, (0, [(3, 1)]), (0, [(5, 1)]))] [] 2 [] [([], 6, [(0, (-2147483648), 2147483647), (1, 0, 14399), (2, 0, 300), (3, 0, 299), (4, (-2147483648), 2147483647), (5, (-2147483648), 2147483647)], [], [], [.inl (0, [(5, 1)])], [])] = true := by decide +kernel
theorem yka {cst : am_K} {strs : List Nat} {Φ : am_Q → Prop} {D : Nat} {M : am_M} {h : am_H} {l : am_L} (c : hp_C cst strs D) (hM : m_P[69]? = some M) (hD : (2 : Int) ≤ (D : Int) + 1) (hy : ly_hy m_tt ly_TH h) (z w t i c1 am : Int) (b0 : (-2147483648) ≤ z) (t0 : z ≤ 2147483647) (b1 : 0 ≤ w) (t1 : w ≤ 14399) (b2 : 0 ≤ t) (t2 : t ≤ 300) (b3 : 0 ≤ i) (t3 : i ≤ 299) (b4 : (-2147483648) ≤ c1) (t4 : c1 ≤ 2147483647) (b5 : (-2147483648) ≤ am) (t5 : am ≤ 2147483647) (f0 : 0 ≤ (t - i - 1)) (f1 : 0 ≤ (z - c1)) (k0 : ly_hv cst h 2304 (i) = some 2) (k1 : ly_hv cst h 2560 (i) = some (w)) (k2 : ly_hv cst h 3328 (i) = some (c1)) (k3 : ly_hv cst h 2816 (i) = some (am)) (l0 : hp_a l 0 22) (l3 : hp_i l 3 (z)) (l4 : hp_i l 4 (w)) (l5 : hp_i l 5 (i)) (r0 : ∀ (h' : am_H) (y0 : Int32), y0.toInt = (am) → ly_hy m_tt ly_TH h' → ly_fr cst [] h h' → h.length ≤ h'.length → Φ (some (.int y0), h', 0, 0)) : hp_F cst strs Φ D M 15 l [] h := by
  refine hp_arc c hM yka_k hD [z, w, t, i, c1, am] rfl hy (hp_Bc (z := z) rfl b0 t0 (hp_Bc (z := w) rfl b1 t1 (hp_Bc (z := t) rfl b2 t2 (hp_Bc (z := i) rfl b3 t3 (hp_Bc (z := c1) rfl b4 t4 (hp_Bc (z := am) rfl b5 t5 hp_Bn)))))) (hp_Fc (z := ((-1) + (1 * t + ((-1) * i + 0)))) rfl (by omega) (hp_Fc (z := (0 + (1 * z + ((-1) * c1 + 0)))) rfl (by omega) hp_Fn)) (hp_Kc (zi := (0 + (1 * i + 0))) (zv := (2 + 0)) k0 rfl rfl (by omega) (by omega) (hp_Kc (zi := (0 + (1 * i + 0))) (zv := (0 + (1 * w + 0))) k1 rfl rfl (by omega) (by omega) (hp_Kc (zi := (0 + (1 * i + 0))) (zv := (0 + (1 * c1 + 0))) k2 rfl rfl (by omega) (by omega) (hp_Kc (zi := (0 + (1 * i + 0))) (zv := (0 + (1 * am + 0))) k3 rfl rfl (by omega) (by omega) hp_Kn)))) (hp_La l0 (hp_Li (z := (0 + (1 * z + 0))) l3 rfl (by omega) (hp_Li (z := (0 + (1 * w + 0))) l4 rfl (by omega) (hp_Li (z := (0 + (1 * i + 0))) l5 rfl (by omega) hp_Ln)))) trivial ?_ ?_
  · intro p hp ys l' st' h' hys a1 a2 a3 gZ gL gS
    cases hp
  · intro p hp ys v h' hys a1 a2 a3 gZ gS
    rcases List.mem_cons.mp hp with rfl | hp
    · obtain rfl := hp_y0 hys
      cases v with
      | none => cases gS
      | some w =>
        obtain ⟨y0, t0, s0, q0, -⟩ := hp_gSi (z := (0 + (1 * am + 0))) gS rfl
        cases s0
        exact r0 h' y0 (by omega) a1 a2 a3
    cases hp
theorem ykb_k : hp_chk 69 15 5 [(0, (-2147483648), 2147483647), (1, 0, 14399), (2, 0, 300), (3, 0, 299), (4, (-2147483648), 2147483647)] [((-1), [(2, 1), (3, (-1))])] [(0, .inr (.inr (.inl (some 22)))), (3, .inl (0, [(0, 1)])), (4, .inl (0, [(1, 1)])), (5, .inl (0, [(3, 1)]))] [] [(2304, (0, [(3, 1)]), (0, [(4, 1)])), (61000, ((-2), [(4, 1)]), (1, []))] [] 2 [(15, ([], 5, [(0, (-2147483648), 2147483647), (1, 0, 14399), (2, 0, 300), (3, 0, 299), (4, (-2147483648), 2147483647)], [], [(0, .inr (.inr (.inl (some 22)))), (3, .inl (0, [(0, 1)])), (4, .inl (0, [(1, 1)])), (5, .inl ((-1), [(3, 1)]))], [], []))] [] = true := by decide +kernel
theorem ykb {cst : am_K} {strs : List Nat} {Φ : am_Q → Prop} {D : Nat} {M : am_M} {h : am_H} {l : am_L} (c : hp_C cst strs D) (hM : m_P[69]? = some M) (hD : (2 : Int) ≤ (D : Int) + 1) (hy : ly_hy m_tt ly_TH h) (z w t i a : Int) (b0 : (-2147483648) ≤ z) (t0 : z ≤ 2147483647) (b1 : 0 ≤ w) (t1 : w ≤ 14399) (b2 : 0 ≤ t) (t2 : t ≤ 300) (b3 : 0 ≤ i) (t3 : i ≤ 299) (b4 : (-2147483648) ≤ a) (t4 : a ≤ 2147483647) (f0 : 0 ≤ (t - i - 1)) (k0 : ly_hv cst h 2304 (i) = some (a)) (k1 : ly_hv cst h 61000 (a - 2) = some 1) (l0 : hp_a l 0 22) (l3 : hp_i l 3 (z)) (l4 : hp_i l 4 (w)) (l5 : hp_i l 5 (i)) (e0 : ∀ (l' : am_L) (h' : am_H), ly_hy m_tt ly_TH h' → ly_fr cst [] h h' → h.length ≤ h'.length → hp_a l' 0 22 → hp_i l' 3 (z) → hp_i l' 4 (w) → hp_i l' 5 (i - 1) → hp_F cst strs Φ D M 15 l' [] h') : hp_F cst strs Φ D M 15 l [] h := by
  refine hp_arc c hM ykb_k hD [z, w, t, i, a] rfl hy (hp_Bc (z := z) rfl b0 t0 (hp_Bc (z := w) rfl b1 t1 (hp_Bc (z := t) rfl b2 t2 (hp_Bc (z := i) rfl b3 t3 (hp_Bc (z := a) rfl b4 t4 hp_Bn))))) (hp_Fc (z := ((-1) + (1 * t + ((-1) * i + 0)))) rfl (by omega) hp_Fn) (hp_Kc (zi := (0 + (1 * i + 0))) (zv := (0 + (1 * a + 0))) k0 rfl rfl (by omega) (by omega) (hp_Kc (zi := ((-2) + (1 * a + 0))) (zv := (1 + 0)) k1 rfl rfl (by omega) (by omega) hp_Kn)) (hp_La l0 (hp_Li (z := (0 + (1 * z + 0))) l3 rfl (by omega) (hp_Li (z := (0 + (1 * w + 0))) l4 rfl (by omega) (hp_Li (z := (0 + (1 * i + 0))) l5 rfl (by omega) hp_Ln)))) trivial ?_ ?_
  · intro p hp ys l' st' h' hys a1 a2 a3 gZ gL gS
    rcases List.mem_cons.mp hp with rfl | hp
    · obtain rfl := hp_y0 hys
      cases hp_gSn gS
      exact e0 l' h' a1 a2 a3 (hp_gLa gL (List.mem_of_getElem? (i := 0) rfl) (by decide)) (hp_gLi (z := (0 + (1 * z + 0))) gL (List.mem_of_getElem? (i := 1) rfl) rfl (by omega)) (hp_gLi (z := (0 + (1 * w + 0))) gL (List.mem_of_getElem? (i := 2) rfl) rfl (by omega)) (hp_gLi (z := ((-1) + (1 * i + 0))) gL (List.mem_of_getElem? (i := 3) rfl) rfl (by omega))
    cases hp
  · intro p hp ys v h' hys a1 a2 a3 gZ gS
    cases hp
theorem ykc_k : hp_chk 69 15 5 [(0, (-2147483648), 2147483647), (1, 0, 14399), (2, 0, 300), (3, 0, 299), (4, (-2147483648), 2147483647)] [((-1), [(2, 1), (3, (-1))])] [(0, .inr (.inr (.inl (some 22)))), (3, .inl (0, [(0, 1)])), (4, .inl (0, [(1, 1)])), (5, .inl (0, [(3, 1)]))] [] [(2304, (0, [(3, 1)]), (2, [])), (2560, (0, [(3, 1)]), (0, [(4, 1)])), (61000, (0, [(1, (-1)), (4, 1)]), (1, []))] [] 2 [(15, ([], 5, [(0, (-2147483648), 2147483647), (1, 0, 14399), (2, 0, 300), (3, 0, 299), (4, (-2147483648), 2147483647)], [], [(0, .inr (.inr (.inl (some 22)))), (3, .inl (0, [(0, 1)])), (4, .inl (0, [(1, 1)])), (5, .inl ((-1), [(3, 1)]))], [], []))] [] = true := by decide +kernel
theorem ykc {cst : am_K} {strs : List Nat} {Φ : am_Q → Prop} {D : Nat} {M : am_M} {h : am_H} {l : am_L} (c : hp_C cst strs D) (hM : m_P[69]? = some M) (hD : (2 : Int) ≤ (D : Int) + 1) (hy : ly_hy m_tt ly_TH h) (z w t i a : Int) (b0 : (-2147483648) ≤ z) (t0 : z ≤ 2147483647) (b1 : 0 ≤ w) (t1 : w ≤ 14399) (b2 : 0 ≤ t) (t2 : t ≤ 300) (b3 : 0 ≤ i) (t3 : i ≤ 299) (b4 : (-2147483648) ≤ a) (t4 : a ≤ 2147483647) (f0 : 0 ≤ (t - i - 1)) (k0 : ly_hv cst h 2304 (i) = some 2) (k1 : ly_hv cst h 2560 (i) = some (a)) (k2 : ly_hv cst h 61000 (a - w) = some 1) (l0 : hp_a l 0 22) (l3 : hp_i l 3 (z)) (l4 : hp_i l 4 (w)) (l5 : hp_i l 5 (i)) (e0 : ∀ (l' : am_L) (h' : am_H), ly_hy m_tt ly_TH h' → ly_fr cst [] h h' → h.length ≤ h'.length → hp_a l' 0 22 → hp_i l' 3 (z) → hp_i l' 4 (w) → hp_i l' 5 (i - 1) → hp_F cst strs Φ D M 15 l' [] h') : hp_F cst strs Φ D M 15 l [] h := by
  refine hp_arc c hM ykc_k hD [z, w, t, i, a] rfl hy (hp_Bc (z := z) rfl b0 t0 (hp_Bc (z := w) rfl b1 t1 (hp_Bc (z := t) rfl b2 t2 (hp_Bc (z := i) rfl b3 t3 (hp_Bc (z := a) rfl b4 t4 hp_Bn))))) (hp_Fc (z := ((-1) + (1 * t + ((-1) * i + 0)))) rfl (by omega) hp_Fn) (hp_Kc (zi := (0 + (1 * i + 0))) (zv := (2 + 0)) k0 rfl rfl (by omega) (by omega) (hp_Kc (zi := (0 + (1 * i + 0))) (zv := (0 + (1 * a + 0))) k1 rfl rfl (by omega) (by omega) (hp_Kc (zi := (0 + ((-1) * w + (1 * a + 0)))) (zv := (1 + 0)) k2 rfl rfl (by omega) (by omega) hp_Kn))) (hp_La l0 (hp_Li (z := (0 + (1 * z + 0))) l3 rfl (by omega) (hp_Li (z := (0 + (1 * w + 0))) l4 rfl (by omega) (hp_Li (z := (0 + (1 * i + 0))) l5 rfl (by omega) hp_Ln)))) trivial ?_ ?_
  · intro p hp ys l' st' h' hys a1 a2 a3 gZ gL gS
    rcases List.mem_cons.mp hp with rfl | hp
    · obtain rfl := hp_y0 hys
      cases hp_gSn gS
      exact e0 l' h' a1 a2 a3 (hp_gLa gL (List.mem_of_getElem? (i := 0) rfl) (by decide)) (hp_gLi (z := (0 + (1 * z + 0))) gL (List.mem_of_getElem? (i := 1) rfl) rfl (by omega)) (hp_gLi (z := (0 + (1 * w + 0))) gL (List.mem_of_getElem? (i := 2) rfl) rfl (by omega)) (hp_gLi (z := ((-1) + (1 * i + 0))) gL (List.mem_of_getElem? (i := 3) rfl) rfl (by omega))
    cases hp
  · intro p hp ys v h' hys a1 a2 a3 gZ gS
    cases hp
theorem ykd_k : hp_chk 69 15 5 [(0, (-2147483648), 2147483647), (1, 0, 14399), (2, 0, 300), (3, 0, 299), (4, (-2147483648), 2147483647)] [((-1), [(2, 1), (3, (-1))]), ((-1), [(0, (-1)), (4, 1)])] [(0, .inr (.inr (.inl (some 22)))), (3, .inl (0, [(0, 1)])), (4, .inl (0, [(1, 1)])), (5, .inl (0, [(3, 1)]))] [] [(2304, (0, [(3, 1)]), (2, [])), (2560, (0, [(3, 1)]), (0, [(1, 1)])), (3328, (0, [(3, 1)]), (0, [(4, 1)]))] [] 2 [(15, ([], 5, [(0, (-2147483648), 2147483647), (1, 0, 14399), (2, 0, 300), (3, 0, 299), (4, (-2147483648), 2147483647)], [], [(0, .inr (.inr (.inl (some 22)))), (3, .inl (0, [(0, 1)])), (4, .inl (0, [(1, 1)])), (5, .inl ((-1), [(3, 1)]))], [], []))] [] = true := by decide +kernel
theorem ykd {cst : am_K} {strs : List Nat} {Φ : am_Q → Prop} {D : Nat} {M : am_M} {h : am_H} {l : am_L} (c : hp_C cst strs D) (hM : m_P[69]? = some M) (hD : (2 : Int) ≤ (D : Int) + 1) (hy : ly_hy m_tt ly_TH h) (z w t i c1 : Int) (b0 : (-2147483648) ≤ z) (t0 : z ≤ 2147483647) (b1 : 0 ≤ w) (t1 : w ≤ 14399) (b2 : 0 ≤ t) (t2 : t ≤ 300) (b3 : 0 ≤ i) (t3 : i ≤ 299) (b4 : (-2147483648) ≤ c1) (t4 : c1 ≤ 2147483647) (f0 : 0 ≤ (t - i - 1)) (f1 : 0 ≤ (c1 - z - 1)) (k0 : ly_hv cst h 2304 (i) = some 2) (k1 : ly_hv cst h 2560 (i) = some (w)) (k2 : ly_hv cst h 3328 (i) = some (c1)) (l0 : hp_a l 0 22) (l3 : hp_i l 3 (z)) (l4 : hp_i l 4 (w)) (l5 : hp_i l 5 (i)) (e0 : ∀ (l' : am_L) (h' : am_H), ly_hy m_tt ly_TH h' → ly_fr cst [] h h' → h.length ≤ h'.length → hp_a l' 0 22 → hp_i l' 3 (z) → hp_i l' 4 (w) → hp_i l' 5 (i - 1) → hp_F cst strs Φ D M 15 l' [] h') : hp_F cst strs Φ D M 15 l [] h := by
  refine hp_arc c hM ykd_k hD [z, w, t, i, c1] rfl hy (hp_Bc (z := z) rfl b0 t0 (hp_Bc (z := w) rfl b1 t1 (hp_Bc (z := t) rfl b2 t2 (hp_Bc (z := i) rfl b3 t3 (hp_Bc (z := c1) rfl b4 t4 hp_Bn))))) (hp_Fc (z := ((-1) + (1 * t + ((-1) * i + 0)))) rfl (by omega) (hp_Fc (z := ((-1) + ((-1) * z + (1 * c1 + 0)))) rfl (by omega) hp_Fn)) (hp_Kc (zi := (0 + (1 * i + 0))) (zv := (2 + 0)) k0 rfl rfl (by omega) (by omega) (hp_Kc (zi := (0 + (1 * i + 0))) (zv := (0 + (1 * w + 0))) k1 rfl rfl (by omega) (by omega) (hp_Kc (zi := (0 + (1 * i + 0))) (zv := (0 + (1 * c1 + 0))) k2 rfl rfl (by omega) (by omega) hp_Kn))) (hp_La l0 (hp_Li (z := (0 + (1 * z + 0))) l3 rfl (by omega) (hp_Li (z := (0 + (1 * w + 0))) l4 rfl (by omega) (hp_Li (z := (0 + (1 * i + 0))) l5 rfl (by omega) hp_Ln)))) trivial ?_ ?_
  · intro p hp ys l' st' h' hys a1 a2 a3 gZ gL gS
    rcases List.mem_cons.mp hp with rfl | hp
    · obtain rfl := hp_y0 hys
      cases hp_gSn gS
      exact e0 l' h' a1 a2 a3 (hp_gLa gL (List.mem_of_getElem? (i := 0) rfl) (by decide)) (hp_gLi (z := (0 + (1 * z + 0))) gL (List.mem_of_getElem? (i := 1) rfl) rfl (by omega)) (hp_gLi (z := (0 + (1 * w + 0))) gL (List.mem_of_getElem? (i := 2) rfl) rfl (by omega)) (hp_gLi (z := ((-1) + (1 * i + 0))) gL (List.mem_of_getElem? (i := 3) rfl) rfl (by omega))
    cases hp
  · intro p hp ys v h' hys a1 a2 a3 gZ gS
    cases hp
theorem ykf_k : hp_chk 69 15 2 [(0, (-2147483648), 2147483647), (1, 0, 14399)] [] [(0, .inr (.inr (.inl (some 22)))), (3, .inl (0, [(0, 1)])), (4, .inl (0, [(1, 1)])), (5, .inl ((-1), []))] [] [] [] 2 [] [([], 2, [(0, (-2147483648), 2147483647), (1, 0, 14399)], [], [], [.inl (0, [])], [])] = true := by decide +kernel
theorem ykf {cst : am_K} {strs : List Nat} {Φ : am_Q → Prop} {D : Nat} {M : am_M} {h : am_H} {l : am_L} (c : hp_C cst strs D) (hM : m_P[69]? = some M) (hD : (2 : Int) ≤ (D : Int) + 1) (hy : ly_hy m_tt ly_TH h) (z w : Int) (b0 : (-2147483648) ≤ z) (t0 : z ≤ 2147483647) (b1 : 0 ≤ w) (t1 : w ≤ 14399) (l0 : hp_a l 0 22) (l3 : hp_i l 3 (z)) (l4 : hp_i l 4 (w)) (l5 : hp_i l 5 (-1)) (r0 : ∀ (h' : am_H) (y0 : Int32), y0.toInt = 0 → ly_hy m_tt ly_TH h' → ly_fr cst [] h h' → h.length ≤ h'.length → Φ (some (.int y0), h', 0, 0)) : hp_F cst strs Φ D M 15 l [] h := by
  refine hp_arc c hM ykf_k hD [z, w] rfl hy (hp_Bc (z := z) rfl b0 t0 (hp_Bc (z := w) rfl b1 t1 hp_Bn)) hp_Fn hp_Kn (hp_La l0 (hp_Li (z := (0 + (1 * z + 0))) l3 rfl (by omega) (hp_Li (z := (0 + (1 * w + 0))) l4 rfl (by omega) (hp_Li (z := ((-1) + 0)) l5 rfl (by omega) hp_Ln)))) trivial ?_ ?_
  · intro p hp ys l' st' h' hys a1 a2 a3 gZ gL gS
    cases hp
  · intro p hp ys v h' hys a1 a2 a3 gZ gS
    rcases List.mem_cons.mp hp with rfl | hp
    · obtain rfl := hp_y0 hys
      cases v with
      | none => cases gS
      | some w =>
        obtain ⟨y0, t0, s0, q0, -⟩ := hp_gSi (z := (0 + 0)) gS rfl
        cases s0
        exact r0 h' y0 (by omega) a1 a2 a3
    cases hp
theorem yr0_k : hp_chk 296 0 3 [(0, 0, 119), (1, 0, 119), (2, (-2147483648), 2147483647)] [] [(0, .inr (.inr (.inl (some 94)))), (1, .inl (0, [(0, 1)])), (2, .inl (0, [(1, 1)])), (3, .inl (0, [(2, 1)]))] [] [] [] 2 [(6, ([], 3, [(0, 0, 119), (1, 0, 119), (2, (-2147483648), 2147483647)], [], [(0, .inr (.inr (.inl (some 94)))), (1, .inl (0, [(0, 1)])), (2, .inl (0, [(1, 1)])), (3, .inl (0, [(2, 1)])), (4, .inl (0, [])), (5, .inl (0, []))], [], []))] [] = true := by decide +kernel
theorem yr0 {cst : am_K} {strs : List Nat} {Φ : am_Q → Prop} {D : Nat} {M : am_M} {h : am_H} {l : am_L} (c : hp_C cst strs D) (hM : m_P[296]? = some M) (hD : (2 : Int) ≤ (D : Int) + 1) (hy : ly_hy m_tt ly_TH h) (p q z : Int) (b0 : 0 ≤ p) (t0 : p ≤ 119) (b1 : 0 ≤ q) (t1 : q ≤ 119) (b2 : (-2147483648) ≤ z) (t2 : z ≤ 2147483647) (l0 : hp_a l 0 94) (l1 : hp_i l 1 (p)) (l2 : hp_i l 2 (q)) (l3 : hp_i l 3 (z)) (e0 : ∀ (l' : am_L) (h' : am_H), ly_hy m_tt ly_TH h' → ly_fr cst [] h h' → h.length ≤ h'.length → hp_a l' 0 94 → hp_i l' 1 (p) → hp_i l' 2 (q) → hp_i l' 3 (z) → hp_i l' 4 0 → hp_i l' 5 0 → hp_F cst strs Φ D M 6 l' [] h') : hp_F cst strs Φ D M 0 l [] h := by
  refine hp_arc c hM yr0_k hD [p, q, z] rfl hy (hp_Bc (z := p) rfl b0 t0 (hp_Bc (z := q) rfl b1 t1 (hp_Bc (z := z) rfl b2 t2 hp_Bn))) hp_Fn hp_Kn (hp_La l0 (hp_Li (z := (0 + (1 * p + 0))) l1 rfl (by omega) (hp_Li (z := (0 + (1 * q + 0))) l2 rfl (by omega) (hp_Li (z := (0 + (1 * z + 0))) l3 rfl (by omega) hp_Ln)))) trivial ?_ ?_
  · intro p hp ys l' st' h' hys a1 a2 a3 gZ gL gS
    rcases List.mem_cons.mp hp with rfl | hp
    · obtain rfl := hp_y0 hys
      cases hp_gSn gS
      exact e0 l' h' a1 a2 a3 (hp_gLa gL (List.mem_of_getElem? (i := 0) rfl) (by decide)) (hp_gLi (z := (0 + (1 * p + 0))) gL (List.mem_of_getElem? (i := 1) rfl) rfl (by omega)) (hp_gLi (z := (0 + (1 * q + 0))) gL (List.mem_of_getElem? (i := 2) rfl) rfl (by omega)) (hp_gLi (z := (0 + (1 * z + 0))) gL (List.mem_of_getElem? (i := 3) rfl) rfl (by omega)) (hp_gLi (z := (0 + 0)) gL (List.mem_of_getElem? (i := 4) rfl) rfl (by omega)) (hp_gLi (z := (0 + 0)) gL (List.mem_of_getElem? (i := 5) rfl) rfl (by omega))
    cases hp
  · intro p hp ys v h' hys a1 a2 a3 gZ gS
    cases hp
theorem yra_k : hp_chk 296 6 8 [(0, 0, 119), (1, 0, 119), (2, (-2147483648), 2147483647), (3, (-2147483648), 2147483647), (4, 0, 300), (5, 0, 299), (6, (-2147483648), 2147483647), (7, (-2147483648), 2147483647)] [((-1), [(4, 1), (5, (-1))]), (0, [(2, 1), (6, (-1))])] [(0, .inr (.inr (.inl (some 94)))), (1, .inl (0, [(0, 1)])), (2, .inl (0, [(1, 1)])), (3, .inl (0, [(2, 1)])), (4, .inl (0, [(3, 1)])), (5, .inl (0, [(5, 1)]))] [] [(19982, (0, []), (0, [(4, 1)])), (21248, (0, [(5, 1)]), (2, [])), (22528, (0, [(5, 1)]), (0, [(6, 1)])), (21504, (0, [(5, 1)]), (0, [(0, 1)])), (21760, (0, [(5, 1)]), (0, [(1, 1)])), (22016, (0, [(5, 1)]), (0, [(7, 1)])), (61000, (0, [(0, 1), (1, (-1))]), (1, [])), (61000, (0, [(0, (-1)), (1, 1)]), (1, []))] [] 2 [(6, ([], 8, [(0, 0, 119), (1, 0, 119), (2, (-2147483648), 2147483647), (3, (-2147483648), 2147483647), (4, 0, 300), (5, 0, 299), (6, (-2147483648), 2147483647), (7, (-2147483648), 2147483647)], [], [(0, .inr (.inr (.inl (some 94)))), (1, .inl (0, [(0, 1)])), (2, .inl (0, [(1, 1)])), (3, .inl (0, [(2, 1)])), (4, .inl (0, [(7, 1)])), (5, .inl (1, [(5, 1)]))], [], []))] [] = true := by decide +kernel
theorem yra {cst : am_K} {strs : List Nat} {Φ : am_Q → Prop} {D : Nat} {M : am_M} {h : am_H} {l : am_L} (c : hp_C cst strs D) (hM : m_P[296]? = some M) (hD : (2 : Int) ≤ (D : Int) + 1) (hy : ly_hy m_tt ly_TH h) (p q z m t i c1 am : Int) (b0 : 0 ≤ p) (t0 : p ≤ 119) (b1 : 0 ≤ q) (t1 : q ≤ 119) (b2 : (-2147483648) ≤ z) (t2 : z ≤ 2147483647) (b3 : (-2147483648) ≤ m) (t3 : m ≤ 2147483647) (b4 : 0 ≤ t) (t4 : t ≤ 300) (b5 : 0 ≤ i) (t5 : i ≤ 299) (b6 : (-2147483648) ≤ c1) (t6 : c1 ≤ 2147483647) (b7 : (-2147483648) ≤ am) (t7 : am ≤ 2147483647) (f0 : 0 ≤ (t - i - 1)) (f1 : 0 ≤ (z - c1)) (k0 : ly_hv cst h 19982 0 = some (t)) (k1 : ly_hv cst h 21248 (i) = some 2) (k2 : ly_hv cst h 22528 (i) = some (c1)) (k3 : ly_hv cst h 21504 (i) = some (p)) (k4 : ly_hv cst h 21760 (i) = some (q)) (k5 : ly_hv cst h 22016 (i) = some (am)) (k6 : ly_hv cst h 61000 (p - q) = some 1) (k7 : ly_hv cst h 61000 (q - p) = some 1) (l0 : hp_a l 0 94) (l1 : hp_i l 1 (p)) (l2 : hp_i l 2 (q)) (l3 : hp_i l 3 (z)) (l4 : hp_i l 4 (m)) (l5 : hp_i l 5 (i)) (e0 : ∀ (l' : am_L) (h' : am_H), ly_hy m_tt ly_TH h' → ly_fr cst [] h h' → h.length ≤ h'.length → hp_a l' 0 94 → hp_i l' 1 (p) → hp_i l' 2 (q) → hp_i l' 3 (z) → hp_i l' 4 (am) → hp_i l' 5 (i + 1) → hp_F cst strs Φ D M 6 l' [] h') : hp_F cst strs Φ D M 6 l [] h := by
  refine hp_arc c hM yra_k hD [p, q, z, m, t, i, c1, am] rfl hy (hp_Bc (z := p) rfl b0 t0 (hp_Bc (z := q) rfl b1 t1 (hp_Bc (z := z) rfl b2 t2 (hp_Bc (z := m) rfl b3 t3 (hp_Bc (z := t) rfl b4 t4 (hp_Bc (z := i) rfl b5 t5 (hp_Bc (z := c1) rfl b6 t6 (hp_Bc (z := am) rfl b7 t7 hp_Bn)))))))) (hp_Fc (z := ((-1) + (1 * t + ((-1) * i + 0)))) rfl (by omega) (hp_Fc (z := (0 + (1 * z + ((-1) * c1 + 0)))) rfl (by omega) hp_Fn)) (hp_Kc (zi := (0 + 0)) (zv := (0 + (1 * t + 0))) k0 rfl rfl (by omega) (by omega) (hp_Kc (zi := (0 + (1 * i + 0))) (zv := (2 + 0)) k1 rfl rfl (by omega) (by omega) (hp_Kc (zi := (0 + (1 * i + 0))) (zv := (0 + (1 * c1 + 0))) k2 rfl rfl (by omega) (by omega) (hp_Kc (zi := (0 + (1 * i + 0))) (zv := (0 + (1 * p + 0))) k3 rfl rfl (by omega) (by omega) (hp_Kc (zi := (0 + (1 * i + 0))) (zv := (0 + (1 * q + 0))) k4 rfl rfl (by omega) (by omega) (hp_Kc (zi := (0 + (1 * i + 0))) (zv := (0 + (1 * am + 0))) k5 rfl rfl (by omega) (by omega) (hp_Kc (zi := (0 + (1 * p + ((-1) * q + 0)))) (zv := (1 + 0)) k6 rfl rfl (by omega) (by omega) (hp_Kc (zi := (0 + ((-1) * p + (1 * q + 0)))) (zv := (1 + 0)) k7 rfl rfl (by omega) (by omega) hp_Kn)))))))) (hp_La l0 (hp_Li (z := (0 + (1 * p + 0))) l1 rfl (by omega) (hp_Li (z := (0 + (1 * q + 0))) l2 rfl (by omega) (hp_Li (z := (0 + (1 * z + 0))) l3 rfl (by omega) (hp_Li (z := (0 + (1 * m + 0))) l4 rfl (by omega) (hp_Li (z := (0 + (1 * i + 0))) l5 rfl (by omega) hp_Ln)))))) trivial ?_ ?_
  · intro p hp ys l' st' h' hys a1 a2 a3 gZ gL gS
    rcases List.mem_cons.mp hp with rfl | hp
    · obtain rfl := hp_y0 hys
      cases hp_gSn gS
      exact e0 l' h' a1 a2 a3 (hp_gLa gL (List.mem_of_getElem? (i := 0) rfl) (by decide)) (hp_gLi (z := (0 + (1 * p + 0))) gL (List.mem_of_getElem? (i := 1) rfl) rfl (by omega)) (hp_gLi (z := (0 + (1 * q + 0))) gL (List.mem_of_getElem? (i := 2) rfl) rfl (by omega)) (hp_gLi (z := (0 + (1 * z + 0))) gL (List.mem_of_getElem? (i := 3) rfl) rfl (by omega)) (hp_gLi (z := (0 + (1 * am + 0))) gL (List.mem_of_getElem? (i := 4) rfl) rfl (by omega)) (hp_gLi (z := (1 + (1 * i + 0))) gL (List.mem_of_getElem? (i := 5) rfl) rfl (by omega))
    cases hp
  · intro p hp ys v h' hys a1 a2 a3 gZ gS
    cases hp
theorem yre_k : hp_chk 296 6 8 [(0, 0, 119), (1, 0, 119), (2, (-2147483648), 2147483647), (3, (-2147483648), 2147483647), (4, 0, 300), (5, 0, 299), (6, (-2147483648), 2147483647), (7, (-2147483648), 2147483647)] [((-1), [(4, 1), (5, (-1))]), (0, [(2, 1), (6, (-1))])] [(0, .inr (.inr (.inl (some 94)))), (1, .inl (0, [(0, 1)])), (2, .inl (0, [(1, 1)])), (3, .inl (0, [(2, 1)])), (4, .inl (0, [(3, 1)])), (5, .inl (0, [(5, 1)]))] [] [(19982, (0, []), (0, [(4, 1)])), (21248, (0, [(5, 1)]), (2, [])), (22528, (0, [(5, 1)]), (0, [(6, 1)])), (21504, (0, [(5, 1)]), (0, [(1, 1)])), (21760, (0, [(5, 1)]), (0, [(0, 1)])), (22016, (0, [(5, 1)]), (0, [(7, 1)])), (61000, (0, [(0, 1), (1, (-1))]), (1, [])), (61000, (0, [(0, (-1)), (1, 1)]), (1, []))] [] 2 [(6, ([], 8, [(0, 0, 119), (1, 0, 119), (2, (-2147483648), 2147483647), (3, (-2147483648), 2147483647), (4, 0, 300), (5, 0, 299), (6, (-2147483648), 2147483647), (7, (-2147483648), 2147483647)], [], [(0, .inr (.inr (.inl (some 94)))), (1, .inl (0, [(0, 1)])), (2, .inl (0, [(1, 1)])), (3, .inl (0, [(2, 1)])), (4, .inl (0, [(7, 1)])), (5, .inl (1, [(5, 1)]))], [], []))] [] = true := by decide +kernel
theorem yre {cst : am_K} {strs : List Nat} {Φ : am_Q → Prop} {D : Nat} {M : am_M} {h : am_H} {l : am_L} (c : hp_C cst strs D) (hM : m_P[296]? = some M) (hD : (2 : Int) ≤ (D : Int) + 1) (hy : ly_hy m_tt ly_TH h) (p q z m t i c1 am : Int) (b0 : 0 ≤ p) (t0 : p ≤ 119) (b1 : 0 ≤ q) (t1 : q ≤ 119) (b2 : (-2147483648) ≤ z) (t2 : z ≤ 2147483647) (b3 : (-2147483648) ≤ m) (t3 : m ≤ 2147483647) (b4 : 0 ≤ t) (t4 : t ≤ 300) (b5 : 0 ≤ i) (t5 : i ≤ 299) (b6 : (-2147483648) ≤ c1) (t6 : c1 ≤ 2147483647) (b7 : (-2147483648) ≤ am) (t7 : am ≤ 2147483647) (f0 : 0 ≤ (t - i - 1)) (f1 : 0 ≤ (z - c1)) (k0 : ly_hv cst h 19982 0 = some (t)) (k1 : ly_hv cst h 21248 (i) = some 2) (k2 : ly_hv cst h 22528 (i) = some (c1)) (k3 : ly_hv cst h 21504 (i) = some (q)) (k4 : ly_hv cst h 21760 (i) = some (p)) (k5 : ly_hv cst h 22016 (i) = some (am)) (k6 : ly_hv cst h 61000 (p - q) = some 1) (k7 : ly_hv cst h 61000 (q - p) = some 1) (l0 : hp_a l 0 94) (l1 : hp_i l 1 (p)) (l2 : hp_i l 2 (q)) (l3 : hp_i l 3 (z)) (l4 : hp_i l 4 (m)) (l5 : hp_i l 5 (i)) (e0 : ∀ (l' : am_L) (h' : am_H), ly_hy m_tt ly_TH h' → ly_fr cst [] h h' → h.length ≤ h'.length → hp_a l' 0 94 → hp_i l' 1 (p) → hp_i l' 2 (q) → hp_i l' 3 (z) → hp_i l' 4 (am) → hp_i l' 5 (i + 1) → hp_F cst strs Φ D M 6 l' [] h') : hp_F cst strs Φ D M 6 l [] h := by
  refine hp_arc c hM yre_k hD [p, q, z, m, t, i, c1, am] rfl hy (hp_Bc (z := p) rfl b0 t0 (hp_Bc (z := q) rfl b1 t1 (hp_Bc (z := z) rfl b2 t2 (hp_Bc (z := m) rfl b3 t3 (hp_Bc (z := t) rfl b4 t4 (hp_Bc (z := i) rfl b5 t5 (hp_Bc (z := c1) rfl b6 t6 (hp_Bc (z := am) rfl b7 t7 hp_Bn)))))))) (hp_Fc (z := ((-1) + (1 * t + ((-1) * i + 0)))) rfl (by omega) (hp_Fc (z := (0 + (1 * z + ((-1) * c1 + 0)))) rfl (by omega) hp_Fn)) (hp_Kc (zi := (0 + 0)) (zv := (0 + (1 * t + 0))) k0 rfl rfl (by omega) (by omega) (hp_Kc (zi := (0 + (1 * i + 0))) (zv := (2 + 0)) k1 rfl rfl (by omega) (by omega) (hp_Kc (zi := (0 + (1 * i + 0))) (zv := (0 + (1 * c1 + 0))) k2 rfl rfl (by omega) (by omega) (hp_Kc (zi := (0 + (1 * i + 0))) (zv := (0 + (1 * q + 0))) k3 rfl rfl (by omega) (by omega) (hp_Kc (zi := (0 + (1 * i + 0))) (zv := (0 + (1 * p + 0))) k4 rfl rfl (by omega) (by omega) (hp_Kc (zi := (0 + (1 * i + 0))) (zv := (0 + (1 * am + 0))) k5 rfl rfl (by omega) (by omega) (hp_Kc (zi := (0 + (1 * p + ((-1) * q + 0)))) (zv := (1 + 0)) k6 rfl rfl (by omega) (by omega) (hp_Kc (zi := (0 + ((-1) * p + (1 * q + 0)))) (zv := (1 + 0)) k7 rfl rfl (by omega) (by omega) hp_Kn)))))))) (hp_La l0 (hp_Li (z := (0 + (1 * p + 0))) l1 rfl (by omega) (hp_Li (z := (0 + (1 * q + 0))) l2 rfl (by omega) (hp_Li (z := (0 + (1 * z + 0))) l3 rfl (by omega) (hp_Li (z := (0 + (1 * m + 0))) l4 rfl (by omega) (hp_Li (z := (0 + (1 * i + 0))) l5 rfl (by omega) hp_Ln)))))) trivial ?_ ?_
  · intro p hp ys l' st' h' hys a1 a2 a3 gZ gL gS
    rcases List.mem_cons.mp hp with rfl | hp
    · obtain rfl := hp_y0 hys
      cases hp_gSn gS
      exact e0 l' h' a1 a2 a3 (hp_gLa gL (List.mem_of_getElem? (i := 0) rfl) (by decide)) (hp_gLi (z := (0 + (1 * p + 0))) gL (List.mem_of_getElem? (i := 1) rfl) rfl (by omega)) (hp_gLi (z := (0 + (1 * q + 0))) gL (List.mem_of_getElem? (i := 2) rfl) rfl (by omega)) (hp_gLi (z := (0 + (1 * z + 0))) gL (List.mem_of_getElem? (i := 3) rfl) rfl (by omega)) (hp_gLi (z := (0 + (1 * am + 0))) gL (List.mem_of_getElem? (i := 4) rfl) rfl (by omega)) (hp_gLi (z := (1 + (1 * i + 0))) gL (List.mem_of_getElem? (i := 5) rfl) rfl (by omega))
    cases hp
  · intro p hp ys v h' hys a1 a2 a3 gZ gS
    cases hp
theorem yrb_k : hp_chk 296 6 7 [(0, 0, 119), (1, 0, 119), (2, (-2147483648), 2147483647), (3, (-2147483648), 2147483647), (4, 0, 300), (5, 0, 299), (6, (-2147483648), 2147483647)] [((-1), [(4, 1), (5, (-1))])] [(0, .inr (.inr (.inl (some 94)))), (1, .inl (0, [(0, 1)])), (2, .inl (0, [(1, 1)])), (3, .inl (0, [(2, 1)])), (4, .inl (0, [(3, 1)])), (5, .inl (0, [(5, 1)]))] [] [(19982, (0, []), (0, [(4, 1)])), (21248, (0, [(5, 1)]), (0, [(6, 1)])), (61000, ((-2), [(6, 1)]), (1, []))] [] 2 [(6, ([], 7, [(0, 0, 119), (1, 0, 119), (2, (-2147483648), 2147483647), (3, (-2147483648), 2147483647), (4, 0, 300), (5, 0, 299), (6, (-2147483648), 2147483647)], [], [(0, .inr (.inr (.inl (some 94)))), (1, .inl (0, [(0, 1)])), (2, .inl (0, [(1, 1)])), (3, .inl (0, [(2, 1)])), (4, .inl (0, [(3, 1)])), (5, .inl (1, [(5, 1)]))], [], []))] [] = true := by decide +kernel
theorem yrb {cst : am_K} {strs : List Nat} {Φ : am_Q → Prop} {D : Nat} {M : am_M} {h : am_H} {l : am_L} (c : hp_C cst strs D) (hM : m_P[296]? = some M) (hD : (2 : Int) ≤ (D : Int) + 1) (hy : ly_hy m_tt ly_TH h) (p q z m t i a : Int) (b0 : 0 ≤ p) (t0 : p ≤ 119) (b1 : 0 ≤ q) (t1 : q ≤ 119) (b2 : (-2147483648) ≤ z) (t2 : z ≤ 2147483647) (b3 : (-2147483648) ≤ m) (t3 : m ≤ 2147483647) (b4 : 0 ≤ t) (t4 : t ≤ 300) (b5 : 0 ≤ i) (t5 : i ≤ 299) (b6 : (-2147483648) ≤ a) (t6 : a ≤ 2147483647) (f0 : 0 ≤ (t - i - 1)) (k0 : ly_hv cst h 19982 0 = some (t)) (k1 : ly_hv cst h 21248 (i) = some (a)) (k2 : ly_hv cst h 61000 (a - 2) = some 1) (l0 : hp_a l 0 94) (l1 : hp_i l 1 (p)) (l2 : hp_i l 2 (q)) (l3 : hp_i l 3 (z)) (l4 : hp_i l 4 (m)) (l5 : hp_i l 5 (i)) (e0 : ∀ (l' : am_L) (h' : am_H), ly_hy m_tt ly_TH h' → ly_fr cst [] h h' → h.length ≤ h'.length → hp_a l' 0 94 → hp_i l' 1 (p) → hp_i l' 2 (q) → hp_i l' 3 (z) → hp_i l' 4 (m) → hp_i l' 5 (i + 1) → hp_F cst strs Φ D M 6 l' [] h') : hp_F cst strs Φ D M 6 l [] h := by
  refine hp_arc c hM yrb_k hD [p, q, z, m, t, i, a] rfl hy (hp_Bc (z := p) rfl b0 t0 (hp_Bc (z := q) rfl b1 t1 (hp_Bc (z := z) rfl b2 t2 (hp_Bc (z := m) rfl b3 t3 (hp_Bc (z := t) rfl b4 t4 (hp_Bc (z := i) rfl b5 t5 (hp_Bc (z := a) rfl b6 t6 hp_Bn))))))) (hp_Fc (z := ((-1) + (1 * t + ((-1) * i + 0)))) rfl (by omega) hp_Fn) (hp_Kc (zi := (0 + 0)) (zv := (0 + (1 * t + 0))) k0 rfl rfl (by omega) (by omega) (hp_Kc (zi := (0 + (1 * i + 0))) (zv := (0 + (1 * a + 0))) k1 rfl rfl (by omega) (by omega) (hp_Kc (zi := ((-2) + (1 * a + 0))) (zv := (1 + 0)) k2 rfl rfl (by omega) (by omega) hp_Kn))) (hp_La l0 (hp_Li (z := (0 + (1 * p + 0))) l1 rfl (by omega) (hp_Li (z := (0 + (1 * q + 0))) l2 rfl (by omega) (hp_Li (z := (0 + (1 * z + 0))) l3 rfl (by omega) (hp_Li (z := (0 + (1 * m + 0))) l4 rfl (by omega) (hp_Li (z := (0 + (1 * i + 0))) l5 rfl (by omega) hp_Ln)))))) trivial ?_ ?_
  · intro p hp ys l' st' h' hys a1 a2 a3 gZ gL gS
    rcases List.mem_cons.mp hp with rfl | hp
    · obtain rfl := hp_y0 hys
      cases hp_gSn gS
      exact e0 l' h' a1 a2 a3 (hp_gLa gL (List.mem_of_getElem? (i := 0) rfl) (by decide)) (hp_gLi (z := (0 + (1 * p + 0))) gL (List.mem_of_getElem? (i := 1) rfl) rfl (by omega)) (hp_gLi (z := (0 + (1 * q + 0))) gL (List.mem_of_getElem? (i := 2) rfl) rfl (by omega)) (hp_gLi (z := (0 + (1 * z + 0))) gL (List.mem_of_getElem? (i := 3) rfl) rfl (by omega)) (hp_gLi (z := (0 + (1 * m + 0))) gL (List.mem_of_getElem? (i := 4) rfl) rfl (by omega)) (hp_gLi (z := (1 + (1 * i + 0))) gL (List.mem_of_getElem? (i := 5) rfl) rfl (by omega))
    cases hp
  · intro p hp ys v h' hys a1 a2 a3 gZ gS
    cases hp
theorem yrd_k : hp_chk 296 6 7 [(0, 0, 119), (1, 0, 119), (2, (-2147483648), 2147483647), (3, (-2147483648), 2147483647), (4, 0, 300), (5, 0, 299), (6, (-2147483648), 2147483647)] [((-1), [(4, 1), (5, (-1))]), ((-1), [(2, (-1)), (6, 1)])] [(0, .inr (.inr (.inl (some 94)))), (1, .inl (0, [(0, 1)])), (2, .inl (0, [(1, 1)])), (3, .inl (0, [(2, 1)])), (4, .inl (0, [(3, 1)])), (5, .inl (0, [(5, 1)]))] [] [(19982, (0, []), (0, [(4, 1)])), (21248, (0, [(5, 1)]), (2, [])), (22528, (0, [(5, 1)]), (0, [(6, 1)]))] [] 2 [(6, ([], 7, [(0, 0, 119), (1, 0, 119), (2, (-2147483648), 2147483647), (3, (-2147483648), 2147483647), (4, 0, 300), (5, 0, 299), (6, (-2147483648), 2147483647)], [], [(0, .inr (.inr (.inl (some 94)))), (1, .inl (0, [(0, 1)])), (2, .inl (0, [(1, 1)])), (3, .inl (0, [(2, 1)])), (4, .inl (0, [(3, 1)])), (5, .inl (1, [(5, 1)]))], [], []))] [] = true := by decide +kernel
theorem yrd {cst : am_K} {strs : List Nat} {Φ : am_Q → Prop} {D : Nat} {M : am_M} {h : am_H} {l : am_L} (c : hp_C cst strs D) (hM : m_P[296]? = some M) (hD : (2 : Int) ≤ (D : Int) + 1) (hy : ly_hy m_tt ly_TH h) (p q z m t i c1 : Int) (b0 : 0 ≤ p) (t0 : p ≤ 119) (b1 : 0 ≤ q) (t1 : q ≤ 119) (b2 : (-2147483648) ≤ z) (t2 : z ≤ 2147483647) (b3 : (-2147483648) ≤ m) (t3 : m ≤ 2147483647) (b4 : 0 ≤ t) (t4 : t ≤ 300) (b5 : 0 ≤ i) (t5 : i ≤ 299) (b6 : (-2147483648) ≤ c1) (t6 : c1 ≤ 2147483647) (f0 : 0 ≤ (t - i - 1)) (f1 : 0 ≤ (c1 - z - 1)) (k0 : ly_hv cst h 19982 0 = some (t)) (k1 : ly_hv cst h 21248 (i) = some 2) (k2 : ly_hv cst h 22528 (i) = some (c1)) (l0 : hp_a l 0 94) (l1 : hp_i l 1 (p)) (l2 : hp_i l 2 (q)) (l3 : hp_i l 3 (z)) (l4 : hp_i l 4 (m)) (l5 : hp_i l 5 (i)) (e0 : ∀ (l' : am_L) (h' : am_H), ly_hy m_tt ly_TH h' → ly_fr cst [] h h' → h.length ≤ h'.length → hp_a l' 0 94 → hp_i l' 1 (p) → hp_i l' 2 (q) → hp_i l' 3 (z) → hp_i l' 4 (m) → hp_i l' 5 (i + 1) → hp_F cst strs Φ D M 6 l' [] h') : hp_F cst strs Φ D M 6 l [] h := by
  refine hp_arc c hM yrd_k hD [p, q, z, m, t, i, c1] rfl hy (hp_Bc (z := p) rfl b0 t0 (hp_Bc (z := q) rfl b1 t1 (hp_Bc (z := z) rfl b2 t2 (hp_Bc (z := m) rfl b3 t3 (hp_Bc (z := t) rfl b4 t4 (hp_Bc (z := i) rfl b5 t5 (hp_Bc (z := c1) rfl b6 t6 hp_Bn))))))) (hp_Fc (z := ((-1) + (1 * t + ((-1) * i + 0)))) rfl (by omega) (hp_Fc (z := ((-1) + ((-1) * z + (1 * c1 + 0)))) rfl (by omega) hp_Fn)) (hp_Kc (zi := (0 + 0)) (zv := (0 + (1 * t + 0))) k0 rfl rfl (by omega) (by omega) (hp_Kc (zi := (0 + (1 * i + 0))) (zv := (2 + 0)) k1 rfl rfl (by omega) (by omega) (hp_Kc (zi := (0 + (1 * i + 0))) (zv := (0 + (1 * c1 + 0))) k2 rfl rfl (by omega) (by omega) hp_Kn))) (hp_La l0 (hp_Li (z := (0 + (1 * p + 0))) l1 rfl (by omega) (hp_Li (z := (0 + (1 * q + 0))) l2 rfl (by omega) (hp_Li (z := (0 + (1 * z + 0))) l3 rfl (by omega) (hp_Li (z := (0 + (1 * m + 0))) l4 rfl (by omega) (hp_Li (z := (0 + (1 * i + 0))) l5 rfl (by omega) hp_Ln)))))) trivial ?_ ?_
  · intro p hp ys l' st' h' hys a1 a2 a3 gZ gL gS
    rcases List.mem_cons.mp hp with rfl | hp
    · obtain rfl := hp_y0 hys
      cases hp_gSn gS
      exact e0 l' h' a1 a2 a3 (hp_gLa gL (List.mem_of_getElem? (i := 0) rfl) (by decide)) (hp_gLi (z := (0 + (1 * p + 0))) gL (List.mem_of_getElem? (i := 1) rfl) rfl (by omega)) (hp_gLi (z := (0 + (1 * q + 0))) gL (List.mem_of_getElem? (i := 2) rfl) rfl (by omega)) (hp_gLi (z := (0 + (1 * z + 0))) gL (List.mem_of_getElem? (i := 3) rfl) rfl (by omega)) (hp_gLi (z := (0 + (1 * m + 0))) gL (List.mem_of_getElem? (i := 4) rfl) rfl (by omega)) (hp_gLi (z := (1 + (1 * i + 0))) gL (List.mem_of_getElem? (i := 5) rfl) rfl (by omega))
    cases hp
  · intro p hp ys v h' hys a1 a2 a3 gZ gS
    cases hp
theorem yrg_k : hp_chk 296 6 8 [(0, 0, 119), (1, 0, 119), (2, (-2147483648), 2147483647), (3, (-2147483648), 2147483647), (4, 0, 300), (5, 0, 299), (6, (-2147483648), 2147483647), (7, (-2147483648), 2147483647)] [((-1), [(4, 1), (5, (-1))]), (0, [(2, 1), (6, (-1))])] [(0, .inr (.inr (.inl (some 94)))), (1, .inl (0, [(0, 1)])), (2, .inl (0, [(1, 1)])), (3, .inl (0, [(2, 1)])), (4, .inl (0, [(3, 1)])), (5, .inl (0, [(5, 1)]))] [] [(19982, (0, []), (0, [(4, 1)])), (21248, (0, [(5, 1)]), (2, [])), (22528, (0, [(5, 1)]), (0, [(6, 1)])), (21504, (0, [(5, 1)]), (0, [(7, 1)])), (61000, (0, [(0, (-1)), (7, 1)]), (1, [])), (61000, (0, [(1, (-1)), (7, 1)]), (1, []))] [] 2 [(6, ([], 8, [(0, 0, 119), (1, 0, 119), (2, (-2147483648), 2147483647), (3, (-2147483648), 2147483647), (4, 0, 300), (5, 0, 299), (6, (-2147483648), 2147483647), (7, (-2147483648), 2147483647)], [], [(0, .inr (.inr (.inl (some 94)))), (1, .inl (0, [(0, 1)])), (2, .inl (0, [(1, 1)])), (3, .inl (0, [(2, 1)])), (4, .inl (0, [(3, 1)])), (5, .inl (1, [(5, 1)]))], [], []))] [] = true := by decide +kernel
theorem yrg {cst : am_K} {strs : List Nat} {Φ : am_Q → Prop} {D : Nat} {M : am_M} {h : am_H} {l : am_L} (c : hp_C cst strs D) (hM : m_P[296]? = some M) (hD : (2 : Int) ≤ (D : Int) + 1) (hy : ly_hy m_tt ly_TH h) (p q z m t i c1 o : Int) (b0 : 0 ≤ p) (t0 : p ≤ 119) (b1 : 0 ≤ q) (t1 : q ≤ 119) (b2 : (-2147483648) ≤ z) (t2 : z ≤ 2147483647) (b3 : (-2147483648) ≤ m) (t3 : m ≤ 2147483647) (b4 : 0 ≤ t) (t4 : t ≤ 300) (b5 : 0 ≤ i) (t5 : i ≤ 299) (b6 : (-2147483648) ≤ c1) (t6 : c1 ≤ 2147483647) (b7 : (-2147483648) ≤ o) (t7 : o ≤ 2147483647) (f0 : 0 ≤ (t - i - 1)) (f1 : 0 ≤ (z - c1)) (k0 : ly_hv cst h 19982 0 = some (t)) (k1 : ly_hv cst h 21248 (i) = some 2) (k2 : ly_hv cst h 22528 (i) = some (c1)) (k3 : ly_hv cst h 21504 (i) = some (o)) (k4 : ly_hv cst h 61000 (o - p) = some 1) (k5 : ly_hv cst h 61000 (o - q) = some 1) (l0 : hp_a l 0 94) (l1 : hp_i l 1 (p)) (l2 : hp_i l 2 (q)) (l3 : hp_i l 3 (z)) (l4 : hp_i l 4 (m)) (l5 : hp_i l 5 (i)) (e0 : ∀ (l' : am_L) (h' : am_H), ly_hy m_tt ly_TH h' → ly_fr cst [] h h' → h.length ≤ h'.length → hp_a l' 0 94 → hp_i l' 1 (p) → hp_i l' 2 (q) → hp_i l' 3 (z) → hp_i l' 4 (m) → hp_i l' 5 (i + 1) → hp_F cst strs Φ D M 6 l' [] h') : hp_F cst strs Φ D M 6 l [] h := by
  refine hp_arc c hM yrg_k hD [p, q, z, m, t, i, c1, o] rfl hy (hp_Bc (z := p) rfl b0 t0 (hp_Bc (z := q) rfl b1 t1 (hp_Bc (z := z) rfl b2 t2 (hp_Bc (z := m) rfl b3 t3 (hp_Bc (z := t) rfl b4 t4 (hp_Bc (z := i) rfl b5 t5 (hp_Bc (z := c1) rfl b6 t6 (hp_Bc (z := o) rfl b7 t7 hp_Bn)))))))) (hp_Fc (z := ((-1) + (1 * t + ((-1) * i + 0)))) rfl (by omega) (hp_Fc (z := (0 + (1 * z + ((-1) * c1 + 0)))) rfl (by omega) hp_Fn)) (hp_Kc (zi := (0 + 0)) (zv := (0 + (1 * t + 0))) k0 rfl rfl (by omega) (by omega) (hp_Kc (zi := (0 + (1 * i + 0))) (zv := (2 + 0)) k1 rfl rfl (by omega) (by omega) (hp_Kc (zi := (0 + (1 * i + 0))) (zv := (0 + (1 * c1 + 0))) k2 rfl rfl (by omega) (by omega) (hp_Kc (zi := (0 + (1 * i + 0))) (zv := (0 + (1 * o + 0))) k3 rfl rfl (by omega) (by omega) (hp_Kc (zi := (0 + ((-1) * p + (1 * o + 0)))) (zv := (1 + 0)) k4 rfl rfl (by omega) (by omega) (hp_Kc (zi := (0 + ((-1) * q + (1 * o + 0)))) (zv := (1 + 0)) k5 rfl rfl (by omega) (by omega) hp_Kn)))))) (hp_La l0 (hp_Li (z := (0 + (1 * p + 0))) l1 rfl (by omega) (hp_Li (z := (0 + (1 * q + 0))) l2 rfl (by omega) (hp_Li (z := (0 + (1 * z + 0))) l3 rfl (by omega) (hp_Li (z := (0 + (1 * m + 0))) l4 rfl (by omega) (hp_Li (z := (0 + (1 * i + 0))) l5 rfl (by omega) hp_Ln)))))) trivial ?_ ?_
  · intro p hp ys l' st' h' hys a1 a2 a3 gZ gL gS
    rcases List.mem_cons.mp hp with rfl | hp
    · obtain rfl := hp_y0 hys
      cases hp_gSn gS
      exact e0 l' h' a1 a2 a3 (hp_gLa gL (List.mem_of_getElem? (i := 0) rfl) (by decide)) (hp_gLi (z := (0 + (1 * p + 0))) gL (List.mem_of_getElem? (i := 1) rfl) rfl (by omega)) (hp_gLi (z := (0 + (1 * q + 0))) gL (List.mem_of_getElem? (i := 2) rfl) rfl (by omega)) (hp_gLi (z := (0 + (1 * z + 0))) gL (List.mem_of_getElem? (i := 3) rfl) rfl (by omega)) (hp_gLi (z := (0 + (1 * m + 0))) gL (List.mem_of_getElem? (i := 4) rfl) rfl (by omega)) (hp_gLi (z := (1 + (1 * i + 0))) gL (List.mem_of_getElem? (i := 5) rfl) rfl (by omega))
    cases hp
  · intro p hp ys v h' hys a1 a2 a3 gZ gS
    cases hp
theorem yrh_k : hp_chk 296 6 8 [(0, 0, 119), (1, 0, 119), (2, (-2147483648), 2147483647), (3, (-2147483648), 2147483647), (4, 0, 300), (5, 0, 299), (6, (-2147483648), 2147483647), (7, (-2147483648), 2147483647)] [((-1), [(4, 1), (5, (-1))]), (0, [(2, 1), (6, (-1))])] [(0, .inr (.inr (.inl (some 94)))), (1, .inl (0, [(0, 1)])), (2, .inl (0, [(1, 1)])), (3, .inl (0, [(2, 1)])), (4, .inl (0, [(3, 1)])), (5, .inl (0, [(5, 1)]))] [] [(19982, (0, []), (0, [(4, 1)])), (21248, (0, [(5, 1)]), (2, [])), (22528, (0, [(5, 1)]), (0, [(6, 1)])), (21504, (0, [(5, 1)]), (0, [(1, 1)])), (21760, (0, [(5, 1)]), (0, [(7, 1)])), (61000, (0, [(0, (-1)), (7, 1)]), (1, [])), (61000, (0, [(0, 1), (1, (-1))]), (1, [])), (61000, (0, [(0, (-1)), (1, 1)]), (1, []))] [] 2 [(6, ([], 8, [(0, 0, 119), (1, 0, 119), (2, (-2147483648), 2147483647), (3, (-2147483648), 2147483647), (4, 0, 300), (5, 0, 299), (6, (-2147483648), 2147483647), (7, (-2147483648), 2147483647)], [], [(0, .inr (.inr (.inl (some 94)))), (1, .inl (0, [(0, 1)])), (2, .inl (0, [(1, 1)])), (3, .inl (0, [(2, 1)])), (4, .inl (0, [(3, 1)])), (5, .inl (1, [(5, 1)]))], [], []))] [] = true := by decide +kernel
theorem yrh {cst : am_K} {strs : List Nat} {Φ : am_Q → Prop} {D : Nat} {M : am_M} {h : am_H} {l : am_L} (c : hp_C cst strs D) (hM : m_P[296]? = some M) (hD : (2 : Int) ≤ (D : Int) + 1) (hy : ly_hy m_tt ly_TH h) (p q z m t i c1 o : Int) (b0 : 0 ≤ p) (t0 : p ≤ 119) (b1 : 0 ≤ q) (t1 : q ≤ 119) (b2 : (-2147483648) ≤ z) (t2 : z ≤ 2147483647) (b3 : (-2147483648) ≤ m) (t3 : m ≤ 2147483647) (b4 : 0 ≤ t) (t4 : t ≤ 300) (b5 : 0 ≤ i) (t5 : i ≤ 299) (b6 : (-2147483648) ≤ c1) (t6 : c1 ≤ 2147483647) (b7 : (-2147483648) ≤ o) (t7 : o ≤ 2147483647) (f0 : 0 ≤ (t - i - 1)) (f1 : 0 ≤ (z - c1)) (k0 : ly_hv cst h 19982 0 = some (t)) (k1 : ly_hv cst h 21248 (i) = some 2) (k2 : ly_hv cst h 22528 (i) = some (c1)) (k3 : ly_hv cst h 21504 (i) = some (q)) (k4 : ly_hv cst h 21760 (i) = some (o)) (k5 : ly_hv cst h 61000 (o - p) = some 1) (k6 : ly_hv cst h 61000 (p - q) = some 1) (k7 : ly_hv cst h 61000 (q - p) = some 1) (l0 : hp_a l 0 94) (l1 : hp_i l 1 (p)) (l2 : hp_i l 2 (q)) (l3 : hp_i l 3 (z)) (l4 : hp_i l 4 (m)) (l5 : hp_i l 5 (i)) (e0 : ∀ (l' : am_L) (h' : am_H), ly_hy m_tt ly_TH h' → ly_fr cst [] h h' → h.length ≤ h'.length → hp_a l' 0 94 → hp_i l' 1 (p) → hp_i l' 2 (q) → hp_i l' 3 (z) → hp_i l' 4 (m) → hp_i l' 5 (i + 1) → hp_F cst strs Φ D M 6 l' [] h') : hp_F cst strs Φ D M 6 l [] h := by
  refine hp_arc c hM yrh_k hD [p, q, z, m, t, i, c1, o] rfl hy (hp_Bc (z := p) rfl b0 t0 (hp_Bc (z := q) rfl b1 t1 (hp_Bc (z := z) rfl b2 t2 (hp_Bc (z := m) rfl b3 t3 (hp_Bc (z := t) rfl b4 t4 (hp_Bc (z := i) rfl b5 t5 (hp_Bc (z := c1) rfl b6 t6 (hp_Bc (z := o) rfl b7 t7 hp_Bn)))))))) (hp_Fc (z := ((-1) + (1 * t + ((-1) * i + 0)))) rfl (by omega) (hp_Fc (z := (0 + (1 * z + ((-1) * c1 + 0)))) rfl (by omega) hp_Fn)) (hp_Kc (zi := (0 + 0)) (zv := (0 + (1 * t + 0))) k0 rfl rfl (by omega) (by omega) (hp_Kc (zi := (0 + (1 * i + 0))) (zv := (2 + 0)) k1 rfl rfl (by omega) (by omega) (hp_Kc (zi := (0 + (1 * i + 0))) (zv := (0 + (1 * c1 + 0))) k2 rfl rfl (by omega) (by omega) (hp_Kc (zi := (0 + (1 * i + 0))) (zv := (0 + (1 * q + 0))) k3 rfl rfl (by omega) (by omega) (hp_Kc (zi := (0 + (1 * i + 0))) (zv := (0 + (1 * o + 0))) k4 rfl rfl (by omega) (by omega) (hp_Kc (zi := (0 + ((-1) * p + (1 * o + 0)))) (zv := (1 + 0)) k5 rfl rfl (by omega) (by omega) (hp_Kc (zi := (0 + (1 * p + ((-1) * q + 0)))) (zv := (1 + 0)) k6 rfl rfl (by omega) (by omega) (hp_Kc (zi := (0 + ((-1) * p + (1 * q + 0)))) (zv := (1 + 0)) k7 rfl rfl (by omega) (by omega) hp_Kn)))))))) (hp_La l0 (hp_Li (z := (0 + (1 * p + 0))) l1 rfl (by omega) (hp_Li (z := (0 + (1 * q + 0))) l2 rfl (by omega) (hp_Li (z := (0 + (1 * z + 0))) l3 rfl (by omega) (hp_Li (z := (0 + (1 * m + 0))) l4 rfl (by omega) (hp_Li (z := (0 + (1 * i + 0))) l5 rfl (by omega) hp_Ln)))))) trivial ?_ ?_
  · intro p hp ys l' st' h' hys a1 a2 a3 gZ gL gS
    rcases List.mem_cons.mp hp with rfl | hp
    · obtain rfl := hp_y0 hys
      cases hp_gSn gS
      exact e0 l' h' a1 a2 a3 (hp_gLa gL (List.mem_of_getElem? (i := 0) rfl) (by decide)) (hp_gLi (z := (0 + (1 * p + 0))) gL (List.mem_of_getElem? (i := 1) rfl) rfl (by omega)) (hp_gLi (z := (0 + (1 * q + 0))) gL (List.mem_of_getElem? (i := 2) rfl) rfl (by omega)) (hp_gLi (z := (0 + (1 * z + 0))) gL (List.mem_of_getElem? (i := 3) rfl) rfl (by omega)) (hp_gLi (z := (0 + (1 * m + 0))) gL (List.mem_of_getElem? (i := 4) rfl) rfl (by omega)) (hp_gLi (z := (1 + (1 * i + 0))) gL (List.mem_of_getElem? (i := 5) rfl) rfl (by omega))
    cases hp
  · intro p hp ys v h' hys a1 a2 a3 gZ gS
    cases hp
theorem yri_k : hp_chk 296 6 8 [(0, 0, 119), (1, 0, 119), (2, (-2147483648), 2147483647), (3, (-2147483648), 2147483647), (4, 0, 300), (5, 0, 299), (6, (-2147483648), 2147483647), (7, (-2147483648), 2147483647)] [((-1), [(4, 1), (5, (-1))]), (0, [(2, 1), (6, (-1))])] [(0, .inr (.inr (.inl (some 94)))), (1, .inl (0, [(0, 1)])), (2, .inl (0, [(1, 1)])), (3, .inl (0, [(2, 1)])), (4, .inl (0, [(3, 1)])), (5, .inl (0, [(5, 1)]))] [] [(19982, (0, []), (0, [(4, 1)])), (21248, (0, [(5, 1)]), (2, [])), (22528, (0, [(5, 1)]), (0, [(6, 1)])), (21504, (0, [(5, 1)]), (0, [(0, 1)])), (21760, (0, [(5, 1)]), (0, [(7, 1)])), (61000, (0, [(1, (-1)), (7, 1)]), (1, [])), (61000, (0, [(0, 1), (1, (-1))]), (1, [])), (61000, (0, [(0, (-1)), (1, 1)]), (1, []))] [] 2 [(6, ([], 8, [(0, 0, 119), (1, 0, 119), (2, (-2147483648), 2147483647), (3, (-2147483648), 2147483647), (4, 0, 300), (5, 0, 299), (6, (-2147483648), 2147483647), (7, (-2147483648), 2147483647)], [], [(0, .inr (.inr (.inl (some 94)))), (1, .inl (0, [(0, 1)])), (2, .inl (0, [(1, 1)])), (3, .inl (0, [(2, 1)])), (4, .inl (0, [(3, 1)])), (5, .inl (1, [(5, 1)]))], [], []))] [] = true := by decide +kernel
theorem yri {cst : am_K} {strs : List Nat} {Φ : am_Q → Prop} {D : Nat} {M : am_M} {h : am_H} {l : am_L} (c : hp_C cst strs D) (hM : m_P[296]? = some M) (hD : (2 : Int) ≤ (D : Int) + 1) (hy : ly_hy m_tt ly_TH h) (p q z m t i c1 o : Int) (b0 : 0 ≤ p) (t0 : p ≤ 119) (b1 : 0 ≤ q) (t1 : q ≤ 119) (b2 : (-2147483648) ≤ z) (t2 : z ≤ 2147483647) (b3 : (-2147483648) ≤ m) (t3 : m ≤ 2147483647) (b4 : 0 ≤ t) (t4 : t ≤ 300) (b5 : 0 ≤ i) (t5 : i ≤ 299) (b6 : (-2147483648) ≤ c1) (t6 : c1 ≤ 2147483647) (b7 : (-2147483648) ≤ o) (t7 : o ≤ 2147483647) (f0 : 0 ≤ (t - i - 1)) (f1 : 0 ≤ (z - c1)) (k0 : ly_hv cst h 19982 0 = some (t)) (k1 : ly_hv cst h 21248 (i) = some 2) (k2 : ly_hv cst h 22528 (i) = some (c1)) (k3 : ly_hv cst h 21504 (i) = some (p)) (k4 : ly_hv cst h 21760 (i) = some (o)) (k5 : ly_hv cst h 61000 (o - q) = some 1) (k6 : ly_hv cst h 61000 (p - q) = some 1) (k7 : ly_hv cst h 61000 (q - p) = some 1) (l0 : hp_a l 0 94) (l1 : hp_i l 1 (p)) (l2 : hp_i l 2 (q)) (l3 : hp_i l 3 (z)) (l4 : hp_i l 4 (m)) (l5 : hp_i l 5 (i)) (e0 : ∀ (l' : am_L) (h' : am_H), ly_hy m_tt ly_TH h' → ly_fr cst [] h h' → h.length ≤ h'.length → hp_a l' 0 94 → hp_i l' 1 (p) → hp_i l' 2 (q) → hp_i l' 3 (z) → hp_i l' 4 (m) → hp_i l' 5 (i + 1) → hp_F cst strs Φ D M 6 l' [] h') : hp_F cst strs Φ D M 6 l [] h := by
  refine hp_arc c hM yri_k hD [p, q, z, m, t, i, c1, o] rfl hy (hp_Bc (z := p) rfl b0 t0 (hp_Bc (z := q) rfl b1 t1 (hp_Bc (z := z) rfl b2 t2 (hp_Bc (z := m) rfl b3 t3 (hp_Bc (z := t) rfl b4 t4 (hp_Bc (z := i) rfl b5 t5 (hp_Bc (z := c1) rfl b6 t6 (hp_Bc (z := o) rfl b7 t7 hp_Bn)))))))) (hp_Fc (z := ((-1) + (1 * t + ((-1) * i + 0)))) rfl (by omega) (hp_Fc (z := (0 + (1 * z + ((-1) * c1 + 0)))) rfl (by omega) hp_Fn)) (hp_Kc (zi := (0 + 0)) (zv := (0 + (1 * t + 0))) k0 rfl rfl (by omega) (by omega) (hp_Kc (zi := (0 + (1 * i + 0))) (zv := (2 + 0)) k1 rfl rfl (by omega) (by omega) (hp_Kc (zi := (0 + (1 * i + 0))) (zv := (0 + (1 * c1 + 0))) k2 rfl rfl (by omega) (by omega) (hp_Kc (zi := (0 + (1 * i + 0))) (zv := (0 + (1 * p + 0))) k3 rfl rfl (by omega) (by omega) (hp_Kc (zi := (0 + (1 * i + 0))) (zv := (0 + (1 * o + 0))) k4 rfl rfl (by omega) (by omega) (hp_Kc (zi := (0 + ((-1) * q + (1 * o + 0)))) (zv := (1 + 0)) k5 rfl rfl (by omega) (by omega) (hp_Kc (zi := (0 + (1 * p + ((-1) * q + 0)))) (zv := (1 + 0)) k6 rfl rfl (by omega) (by omega) (hp_Kc (zi := (0 + ((-1) * p + (1 * q + 0)))) (zv := (1 + 0)) k7 rfl rfl (by omega) (by omega) hp_Kn)))))))) (hp_La l0 (hp_Li (z := (0 + (1 * p + 0))) l1 rfl (by omega) (hp_Li (z := (0 + (1 * q + 0))) l2 rfl (by omega) (hp_Li (z := (0 + (1 * z + 0))) l3 rfl (by omega) (hp_Li (z := (0 + (1 * m + 0))) l4 rfl (by omega) (hp_Li (z := (0 + (1 * i + 0))) l5 rfl (by omega) hp_Ln)))))) trivial ?_ ?_
  · intro p hp ys l' st' h' hys a1 a2 a3 gZ gL gS
    rcases List.mem_cons.mp hp with rfl | hp
    · obtain rfl := hp_y0 hys
      cases hp_gSn gS
      exact e0 l' h' a1 a2 a3 (hp_gLa gL (List.mem_of_getElem? (i := 0) rfl) (by decide)) (hp_gLi (z := (0 + (1 * p + 0))) gL (List.mem_of_getElem? (i := 1) rfl) rfl (by omega)) (hp_gLi (z := (0 + (1 * q + 0))) gL (List.mem_of_getElem? (i := 2) rfl) rfl (by omega)) (hp_gLi (z := (0 + (1 * z + 0))) gL (List.mem_of_getElem? (i := 3) rfl) rfl (by omega)) (hp_gLi (z := (0 + (1 * m + 0))) gL (List.mem_of_getElem? (i := 4) rfl) rfl (by omega)) (hp_gLi (z := (1 + (1 * i + 0))) gL (List.mem_of_getElem? (i := 5) rfl) rfl (by omega))
    cases hp
  · intro p hp ys v h' hys a1 a2 a3 gZ gS
    cases hp
theorem yrf_k : hp_chk 296 6 5 [(0, 0, 119), (1, 0, 119), (2, (-2147483648), 2147483647), (3, (-2147483648), 2147483647), (4, 0, 300)] [] [(0, .inr (.inr (.inl (some 94)))), (1, .inl (0, [(0, 1)])), (2, .inl (0, [(1, 1)])), (3, .inl (0, [(2, 1)])), (4, .inl (0, [(3, 1)])), (5, .inl (0, [(4, 1)]))] [] [(19982, (0, []), (0, [(4, 1)]))] [] 2 [] [([], 5, [(0, 0, 119), (1, 0, 119), (2, (-2147483648), 2147483647), (3, (-2147483648), 2147483647), (4, 0, 300)], [], [], [.inl (0, [(3, 1)])], [])] = true := by decide +kernel
theorem yrf {cst : am_K} {strs : List Nat} {Φ : am_Q → Prop} {D : Nat} {M : am_M} {h : am_H} {l : am_L} (c : hp_C cst strs D) (hM : m_P[296]? = some M) (hD : (2 : Int) ≤ (D : Int) + 1) (hy : ly_hy m_tt ly_TH h) (p q z m t : Int) (b0 : 0 ≤ p) (t0 : p ≤ 119) (b1 : 0 ≤ q) (t1 : q ≤ 119) (b2 : (-2147483648) ≤ z) (t2 : z ≤ 2147483647) (b3 : (-2147483648) ≤ m) (t3 : m ≤ 2147483647) (b4 : 0 ≤ t) (t4 : t ≤ 300) (k0 : ly_hv cst h 19982 0 = some (t)) (l0 : hp_a l 0 94) (l1 : hp_i l 1 (p)) (l2 : hp_i l 2 (q)) (l3 : hp_i l 3 (z)) (l4 : hp_i l 4 (m)) (l5 : hp_i l 5 (t)) (r0 : ∀ (h' : am_H) (y0 : Int32), y0.toInt = (m) → ly_hy m_tt ly_TH h' → ly_fr cst [] h h' → h.length ≤ h'.length → Φ (some (.int y0), h', 0, 0)) : hp_F cst strs Φ D M 6 l [] h := by
  refine hp_arc c hM yrf_k hD [p, q, z, m, t] rfl hy (hp_Bc (z := p) rfl b0 t0 (hp_Bc (z := q) rfl b1 t1 (hp_Bc (z := z) rfl b2 t2 (hp_Bc (z := m) rfl b3 t3 (hp_Bc (z := t) rfl b4 t4 hp_Bn))))) hp_Fn (hp_Kc (zi := (0 + 0)) (zv := (0 + (1 * t + 0))) k0 rfl rfl (by omega) (by omega) hp_Kn) (hp_La l0 (hp_Li (z := (0 + (1 * p + 0))) l1 rfl (by omega) (hp_Li (z := (0 + (1 * q + 0))) l2 rfl (by omega) (hp_Li (z := (0 + (1 * z + 0))) l3 rfl (by omega) (hp_Li (z := (0 + (1 * m + 0))) l4 rfl (by omega) (hp_Li (z := (0 + (1 * t + 0))) l5 rfl (by omega) hp_Ln)))))) trivial ?_ ?_
  · intro p hp ys l' st' h' hys a1 a2 a3 gZ gL gS
    cases hp
  · intro p hp ys v h' hys a1 a2 a3 gZ gS
    rcases List.mem_cons.mp hp with rfl | hp
    · obtain rfl := hp_y0 hys
      cases v with
      | none => cases gS
      | some w =>
        obtain ⟨y0, t0, s0, q0, -⟩ := hp_gSi (z := (0 + (1 * m + 0))) gS rfl
        cases s0
        exact r0 h' y0 (by omega) a1 a2 a3
    cases hp
theorem yko0_k : hp_chk 68 0 4 [(0, (-2147483648), (-1)), (1, (-2147483648), 2147483647), (2, (-2147483648), 2147483647), (3, 0, 120)] [] [(0, .inr (.inr (.inl (some 16)))), (1, .inl (0, [(0, 1)])), (2, .inl (0, [(1, 1)])), (3, .inl (0, [(2, 1)]))] [] [(1536, (0, []), (0, [(3, 1)]))] [] 4 [] [([], 4, [(0, (-2147483648), (-1)), (1, (-2147483648), 2147483647), (2, (-2147483648), 2147483647), (3, 0, 120)], [], [], [.inl ((-2), [])], [])] = true := by decide +kernel
theorem yko0 {cst : am_K} {strs : List Nat} {Φ : am_Q → Prop} {D : Nat} {M : am_M} {h : am_H} {l : am_L} (c : hp_C cst strs D) (hM : m_P[68]? = some M) (hD : (4 : Int) ≤ (D : Int) + 1) (hy : ly_hy m_tt ly_TH h) (p q z u : Int) (b0 : (-2147483648) ≤ p) (t0 : p ≤ (-1)) (b1 : (-2147483648) ≤ q) (t1 : q ≤ 2147483647) (b2 : (-2147483648) ≤ z) (t2 : z ≤ 2147483647) (b3 : 0 ≤ u) (t3 : u ≤ 120) (k0 : ly_hv cst h 1536 0 = some (u)) (l0 : hp_a l 0 16) (l1 : hp_i l 1 (p)) (l2 : hp_i l 2 (q)) (l3 : hp_i l 3 (z)) (r0 : ∀ (h' : am_H) (y0 : Int32), y0.toInt = (-2) → ly_hy m_tt ly_TH h' → ly_fr cst [] h h' → h.length ≤ h'.length → Φ (some (.int y0), h', 0, 0)) : hp_F cst strs Φ D M 0 l [] h := by
  refine hp_arc c hM yko0_k hD [p, q, z, u] rfl hy (hp_Bc (z := p) rfl b0 t0 (hp_Bc (z := q) rfl b1 t1 (hp_Bc (z := z) rfl b2 t2 (hp_Bc (z := u) rfl b3 t3 hp_Bn)))) hp_Fn (hp_Kc (zi := (0 + 0)) (zv := (0 + (1 * u + 0))) k0 rfl rfl (by omega) (by omega) hp_Kn) (hp_La l0 (hp_Li (z := (0 + (1 * p + 0))) l1 rfl (by omega) (hp_Li (z := (0 + (1 * q + 0))) l2 rfl (by omega) (hp_Li (z := (0 + (1 * z + 0))) l3 rfl (by omega) hp_Ln)))) trivial ?_ ?_
  · intro p hp ys l' st' h' hys a1 a2 a3 gZ gL gS
    cases hp
  · intro p hp ys v h' hys a1 a2 a3 gZ gS
    rcases List.mem_cons.mp hp with rfl | hp
    · obtain rfl := hp_y0 hys
      cases v with
      | none => cases gS
      | some w =>
        obtain ⟨y0, t0, s0, q0, -⟩ := hp_gSi (z := ((-2) + 0)) gS rfl
        cases s0
        exact r0 h' y0 (by omega) a1 a2 a3
    cases hp
theorem yko1_k : hp_chk 68 0 4 [(0, 0, 2147483647), (1, (-2147483648), 2147483647), (2, (-2147483648), 2147483647), (3, 0, 120)] [(0, [(0, 1), (3, (-1))])] [(0, .inr (.inr (.inl (some 16)))), (1, .inl (0, [(0, 1)])), (2, .inl (0, [(1, 1)])), (3, .inl (0, [(2, 1)]))] [] [(1536, (0, []), (0, [(3, 1)]))] [] 4 [] [([], 4, [(0, 0, 2147483647), (1, (-2147483648), 2147483647), (2, (-2147483648), 2147483647), (3, 0, 120)], [], [], [.inl ((-2), [])], [])] = true := by decide +kernel
theorem yko1 {cst : am_K} {strs : List Nat} {Φ : am_Q → Prop} {D : Nat} {M : am_M} {h : am_H} {l : am_L} (c : hp_C cst strs D) (hM : m_P[68]? = some M) (hD : (4 : Int) ≤ (D : Int) + 1) (hy : ly_hy m_tt ly_TH h) (p q z u : Int) (b0 : 0 ≤ p) (t0 : p ≤ 2147483647) (b1 : (-2147483648) ≤ q) (t1 : q ≤ 2147483647) (b2 : (-2147483648) ≤ z) (t2 : z ≤ 2147483647) (b3 : 0 ≤ u) (t3 : u ≤ 120) (f0 : 0 ≤ (p - u)) (k0 : ly_hv cst h 1536 0 = some (u)) (l0 : hp_a l 0 16) (l1 : hp_i l 1 (p)) (l2 : hp_i l 2 (q)) (l3 : hp_i l 3 (z)) (r0 : ∀ (h' : am_H) (y0 : Int32), y0.toInt = (-2) → ly_hy m_tt ly_TH h' → ly_fr cst [] h h' → h.length ≤ h'.length → Φ (some (.int y0), h', 0, 0)) : hp_F cst strs Φ D M 0 l [] h := by
  refine hp_arc c hM yko1_k hD [p, q, z, u] rfl hy (hp_Bc (z := p) rfl b0 t0 (hp_Bc (z := q) rfl b1 t1 (hp_Bc (z := z) rfl b2 t2 (hp_Bc (z := u) rfl b3 t3 hp_Bn)))) (hp_Fc (z := (0 + (1 * p + ((-1) * u + 0)))) rfl (by omega) hp_Fn) (hp_Kc (zi := (0 + 0)) (zv := (0 + (1 * u + 0))) k0 rfl rfl (by omega) (by omega) hp_Kn) (hp_La l0 (hp_Li (z := (0 + (1 * p + 0))) l1 rfl (by omega) (hp_Li (z := (0 + (1 * q + 0))) l2 rfl (by omega) (hp_Li (z := (0 + (1 * z + 0))) l3 rfl (by omega) hp_Ln)))) trivial ?_ ?_
  · intro p hp ys l' st' h' hys a1 a2 a3 gZ gL gS
    cases hp
  · intro p hp ys v h' hys a1 a2 a3 gZ gS
    rcases List.mem_cons.mp hp with rfl | hp
    · obtain rfl := hp_y0 hys
      cases v with
      | none => cases gS
      | some w =>
        obtain ⟨y0, t0, s0, q0, -⟩ := hp_gSi (z := ((-2) + 0)) gS rfl
        cases s0
        exact r0 h' y0 (by omega) a1 a2 a3
    cases hp
theorem yko2_k : hp_chk 68 0 4 [(0, 0, 119), (1, (-2147483648), (-1)), (2, (-2147483648), 2147483647), (3, 0, 120)] [((-1), [(0, (-1)), (3, 1)])] [(0, .inr (.inr (.inl (some 16)))), (1, .inl (0, [(0, 1)])), (2, .inl (0, [(1, 1)])), (3, .inl (0, [(2, 1)]))] [] [(1536, (0, []), (0, [(3, 1)]))] [] 4 [] [([], 4, [(0, 0, 119), (1, (-2147483648), (-1)), (2, (-2147483648), 2147483647), (3, 0, 120)], [], [], [.inl ((-2), [])], [])] = true := by decide +kernel
theorem yko2 {cst : am_K} {strs : List Nat} {Φ : am_Q → Prop} {D : Nat} {M : am_M} {h : am_H} {l : am_L} (c : hp_C cst strs D) (hM : m_P[68]? = some M) (hD : (4 : Int) ≤ (D : Int) + 1) (hy : ly_hy m_tt ly_TH h) (p q z u : Int) (b0 : 0 ≤ p) (t0 : p ≤ 119) (b1 : (-2147483648) ≤ q) (t1 : q ≤ (-1)) (b2 : (-2147483648) ≤ z) (t2 : z ≤ 2147483647) (b3 : 0 ≤ u) (t3 : u ≤ 120) (f0 : 0 ≤ (u - p - 1)) (k0 : ly_hv cst h 1536 0 = some (u)) (l0 : hp_a l 0 16) (l1 : hp_i l 1 (p)) (l2 : hp_i l 2 (q)) (l3 : hp_i l 3 (z)) (r0 : ∀ (h' : am_H) (y0 : Int32), y0.toInt = (-2) → ly_hy m_tt ly_TH h' → ly_fr cst [] h h' → h.length ≤ h'.length → Φ (some (.int y0), h', 0, 0)) : hp_F cst strs Φ D M 0 l [] h := by
  refine hp_arc c hM yko2_k hD [p, q, z, u] rfl hy (hp_Bc (z := p) rfl b0 t0 (hp_Bc (z := q) rfl b1 t1 (hp_Bc (z := z) rfl b2 t2 (hp_Bc (z := u) rfl b3 t3 hp_Bn)))) (hp_Fc (z := ((-1) + ((-1) * p + (1 * u + 0)))) rfl (by omega) hp_Fn) (hp_Kc (zi := (0 + 0)) (zv := (0 + (1 * u + 0))) k0 rfl rfl (by omega) (by omega) hp_Kn) (hp_La l0 (hp_Li (z := (0 + (1 * p + 0))) l1 rfl (by omega) (hp_Li (z := (0 + (1 * q + 0))) l2 rfl (by omega) (hp_Li (z := (0 + (1 * z + 0))) l3 rfl (by omega) hp_Ln)))) trivial ?_ ?_
  · intro p hp ys l' st' h' hys a1 a2 a3 gZ gL gS
    cases hp
  · intro p hp ys v h' hys a1 a2 a3 gZ gS
    rcases List.mem_cons.mp hp with rfl | hp
    · obtain rfl := hp_y0 hys
      cases v with
      | none => cases gS
      | some w =>
        obtain ⟨y0, t0, s0, q0, -⟩ := hp_gSi (z := ((-2) + 0)) gS rfl
        cases s0
        exact r0 h' y0 (by omega) a1 a2 a3
    cases hp
theorem yko3_k : hp_chk 68 0 4 [(0, 0, 119), (1, 0, 2147483647), (2, (-2147483648), 2147483647), (3, 0, 120)] [((-1), [(0, (-1)), (3, 1)]), (0, [(1, 1), (3, (-1))])] [(0, .inr (.inr (.inl (some 16)))), (1, .inl (0, [(0, 1)])), (2, .inl (0, [(1, 1)])), (3, .inl (0, [(2, 1)]))] [] [(1536, (0, []), (0, [(3, 1)]))] [] 4 [] [([], 4, [(0, 0, 119), (1, 0, 2147483647), (2, (-2147483648), 2147483647), (3, 0, 120)], [], [], [.inl ((-2), [])], [])] = true := by decide +kernel
theorem yko3 {cst : am_K} {strs : List Nat} {Φ : am_Q → Prop} {D : Nat} {M : am_M} {h : am_H} {l : am_L} (c : hp_C cst strs D) (hM : m_P[68]? = some M) (hD : (4 : Int) ≤ (D : Int) + 1) (hy : ly_hy m_tt ly_TH h) (p q z u : Int) (b0 : 0 ≤ p) (t0 : p ≤ 119) (b1 : 0 ≤ q) (t1 : q ≤ 2147483647) (b2 : (-2147483648) ≤ z) (t2 : z ≤ 2147483647) (b3 : 0 ≤ u) (t3 : u ≤ 120) (f0 : 0 ≤ (u - p - 1)) (f1 : 0 ≤ (q - u)) (k0 : ly_hv cst h 1536 0 = some (u)) (l0 : hp_a l 0 16) (l1 : hp_i l 1 (p)) (l2 : hp_i l 2 (q)) (l3 : hp_i l 3 (z)) (r0 : ∀ (h' : am_H) (y0 : Int32), y0.toInt = (-2) → ly_hy m_tt ly_TH h' → ly_fr cst [] h h' → h.length ≤ h'.length → Φ (some (.int y0), h', 0, 0)) : hp_F cst strs Φ D M 0 l [] h := by
  refine hp_arc c hM yko3_k hD [p, q, z, u] rfl hy (hp_Bc (z := p) rfl b0 t0 (hp_Bc (z := q) rfl b1 t1 (hp_Bc (z := z) rfl b2 t2 (hp_Bc (z := u) rfl b3 t3 hp_Bn)))) (hp_Fc (z := ((-1) + ((-1) * p + (1 * u + 0)))) rfl (by omega) (hp_Fc (z := (0 + (1 * q + ((-1) * u + 0)))) rfl (by omega) hp_Fn)) (hp_Kc (zi := (0 + 0)) (zv := (0 + (1 * u + 0))) k0 rfl rfl (by omega) (by omega) hp_Kn) (hp_La l0 (hp_Li (z := (0 + (1 * p + 0))) l1 rfl (by omega) (hp_Li (z := (0 + (1 * q + 0))) l2 rfl (by omega) (hp_Li (z := (0 + (1 * z + 0))) l3 rfl (by omega) hp_Ln)))) trivial ?_ ?_
  · intro p hp ys l' st' h' hys a1 a2 a3 gZ gL gS
    cases hp
  · intro p hp ys v h' hys a1 a2 a3 gZ gS
    rcases List.mem_cons.mp hp with rfl | hp
    · obtain rfl := hp_y0 hys
      cases v with
      | none => cases gS
      | some w =>
        obtain ⟨y0, t0, s0, q0, -⟩ := hp_gSi (z := ((-2) + 0)) gS rfl
        cases s0
        exact r0 h' y0 (by omega) a1 a2 a3
    cases hp
theorem yko4_k : hp_chk 68 0 3 [(0, 0, 119), (1, (-2147483648), 2147483647), (2, 0, 120)] [((-1), [(0, (-1)), (2, 1)])] [(0, .inr (.inr (.inl (some 16)))), (1, .inl (0, [(0, 1)])), (2, .inl (0, [(0, 1)])), (3, .inl (0, [(1, 1)]))] [] [(1536, (0, []), (0, [(2, 1)]))] [] 4 [] [([], 3, [(0, 0, 119), (1, (-2147483648), 2147483647), (2, 0, 120)], [], [], [.inl ((-2), [])], [])] = true := by decide +kernel
theorem yko4 {cst : am_K} {strs : List Nat} {Φ : am_Q → Prop} {D : Nat} {M : am_M} {h : am_H} {l : am_L} (c : hp_C cst strs D) (hM : m_P[68]? = some M) (hD : (4 : Int) ≤ (D : Int) + 1) (hy : ly_hy m_tt ly_TH h) (p z u : Int) (b0 : 0 ≤ p) (t0 : p ≤ 119) (b1 : (-2147483648) ≤ z) (t1 : z ≤ 2147483647) (b2 : 0 ≤ u) (t2 : u ≤ 120) (f0 : 0 ≤ (u - p - 1)) (k0 : ly_hv cst h 1536 0 = some (u)) (l0 : hp_a l 0 16) (l1 : hp_i l 1 (p)) (l2 : hp_i l 2 (p)) (l3 : hp_i l 3 (z)) (r0 : ∀ (h' : am_H) (y0 : Int32), y0.toInt = (-2) → ly_hy m_tt ly_TH h' → ly_fr cst [] h h' → h.length ≤ h'.length → Φ (some (.int y0), h', 0, 0)) : hp_F cst strs Φ D M 0 l [] h := by
  refine hp_arc c hM yko4_k hD [p, z, u] rfl hy (hp_Bc (z := p) rfl b0 t0 (hp_Bc (z := z) rfl b1 t1 (hp_Bc (z := u) rfl b2 t2 hp_Bn))) (hp_Fc (z := ((-1) + ((-1) * p + (1 * u + 0)))) rfl (by omega) hp_Fn) (hp_Kc (zi := (0 + 0)) (zv := (0 + (1 * u + 0))) k0 rfl rfl (by omega) (by omega) hp_Kn) (hp_La l0 (hp_Li (z := (0 + (1 * p + 0))) l1 rfl (by omega) (hp_Li (z := (0 + (1 * p + 0))) l2 rfl (by omega) (hp_Li (z := (0 + (1 * z + 0))) l3 rfl (by omega) hp_Ln)))) trivial ?_ ?_
  · intro p hp ys l' st' h' hys a1 a2 a3 gZ gL gS
    cases hp
  · intro p hp ys v h' hys a1 a2 a3 gZ gS
    rcases List.mem_cons.mp hp with rfl | hp
    · obtain rfl := hp_y0 hys
      cases v with
      | none => cases gS
      | some w =>
        obtain ⟨y0, t0, s0, q0, -⟩ := hp_gSi (z := ((-2) + 0)) gS rfl
        cases s0
        exact r0 h' y0 (by omega) a1 a2 a3
    cases hp
theorem yko5_k : hp_chk 68 0 4 [(0, 0, 119), (1, 0, 119), (2, (-2147483648), (-1)), (3, 0, 120)] [((-1), [(0, (-1)), (3, 1)]), ((-1), [(1, (-1)), (3, 1)])] [(0, .inr (.inr (.inl (some 16)))), (1, .inl (0, [(0, 1)])), (2, .inl (0, [(1, 1)])), (3, .inl (0, [(2, 1)]))] [] [(1536, (0, []), (0, [(3, 1)])), (61000, (0, [(0, 1), (1, (-1))]), (1, []))] [] 4 [] [([], 4, [(0, 0, 119), (1, 0, 119), (2, (-2147483648), (-1)), (3, 0, 120)], [], [], [.inl ((-2), [])], [])] = true := by decide +kernel
theorem yko5 {cst : am_K} {strs : List Nat} {Φ : am_Q → Prop} {D : Nat} {M : am_M} {h : am_H} {l : am_L} (c : hp_C cst strs D) (hM : m_P[68]? = some M) (hD : (4 : Int) ≤ (D : Int) + 1) (hy : ly_hy m_tt ly_TH h) (p q z u : Int) (b0 : 0 ≤ p) (t0 : p ≤ 119) (b1 : 0 ≤ q) (t1 : q ≤ 119) (b2 : (-2147483648) ≤ z) (t2 : z ≤ (-1)) (b3 : 0 ≤ u) (t3 : u ≤ 120) (f0 : 0 ≤ (u - p - 1)) (f1 : 0 ≤ (u - q - 1)) (k0 : ly_hv cst h 1536 0 = some (u)) (k1 : ly_hv cst h 61000 (p - q) = some 1) (l0 : hp_a l 0 16) (l1 : hp_i l 1 (p)) (l2 : hp_i l 2 (q)) (l3 : hp_i l 3 (z)) (r0 : ∀ (h' : am_H) (y0 : Int32), y0.toInt = (-2) → ly_hy m_tt ly_TH h' → ly_fr cst [] h h' → h.length ≤ h'.length → Φ (some (.int y0), h', 0, 0)) : hp_F cst strs Φ D M 0 l [] h := by
  refine hp_arc c hM yko5_k hD [p, q, z, u] rfl hy (hp_Bc (z := p) rfl b0 t0 (hp_Bc (z := q) rfl b1 t1 (hp_Bc (z := z) rfl b2 t2 (hp_Bc (z := u) rfl b3 t3 hp_Bn)))) (hp_Fc (z := ((-1) + ((-1) * p + (1 * u + 0)))) rfl (by omega) (hp_Fc (z := ((-1) + ((-1) * q + (1 * u + 0)))) rfl (by omega) hp_Fn)) (hp_Kc (zi := (0 + 0)) (zv := (0 + (1 * u + 0))) k0 rfl rfl (by omega) (by omega) (hp_Kc (zi := (0 + (1 * p + ((-1) * q + 0)))) (zv := (1 + 0)) k1 rfl rfl (by omega) (by omega) hp_Kn)) (hp_La l0 (hp_Li (z := (0 + (1 * p + 0))) l1 rfl (by omega) (hp_Li (z := (0 + (1 * q + 0))) l2 rfl (by omega) (hp_Li (z := (0 + (1 * z + 0))) l3 rfl (by omega) hp_Ln)))) trivial ?_ ?_
  · intro p hp ys l' st' h' hys a1 a2 a3 gZ gL gS
    cases hp
  · intro p hp ys v h' hys a1 a2 a3 gZ gS
    rcases List.mem_cons.mp hp with rfl | hp
    · obtain rfl := hp_y0 hys
      cases v with
      | none => cases gS
      | some w =>
        obtain ⟨y0, t0, s0, q0, -⟩ := hp_gSi (z := ((-2) + 0)) gS rfl
        cases s0
        exact r0 h' y0 (by omega) a1 a2 a3
    cases hp
theorem yko6_k : hp_chk 68 0 4 [(0, 0, 119), (1, 0, 119), (2, 400, 2147483647), (3, 0, 120)] [((-1), [(0, (-1)), (3, 1)]), ((-1), [(1, (-1)), (3, 1)])] [(0, .inr (.inr (.inl (some 16)))), (1, .inl (0, [(0, 1)])), (2, .inl (0, [(1, 1)])), (3, .inl (0, [(2, 1)]))] [] [(1536, (0, []), (0, [(3, 1)])), (61000, (0, [(0, 1), (1, (-1))]), (1, []))] [] 4 [] [([], 4, [(0, 0, 119), (1, 0, 119), (2, 400, 2147483647), (3, 0, 120)], [], [], [.inl ((-2), [])], [])] = true := by decide +kernel
theorem yko6 {cst : am_K} {strs : List Nat} {Φ : am_Q → Prop} {D : Nat} {M : am_M} {h : am_H} {l : am_L} (c : hp_C cst strs D) (hM : m_P[68]? = some M) (hD : (4 : Int) ≤ (D : Int) + 1) (hy : ly_hy m_tt ly_TH h) (p q z u : Int) (b0 : 0 ≤ p) (t0 : p ≤ 119) (b1 : 0 ≤ q) (t1 : q ≤ 119) (b2 : 400 ≤ z) (t2 : z ≤ 2147483647) (b3 : 0 ≤ u) (t3 : u ≤ 120) (f0 : 0 ≤ (u - p - 1)) (f1 : 0 ≤ (u - q - 1)) (k0 : ly_hv cst h 1536 0 = some (u)) (k1 : ly_hv cst h 61000 (p - q) = some 1) (l0 : hp_a l 0 16) (l1 : hp_i l 1 (p)) (l2 : hp_i l 2 (q)) (l3 : hp_i l 3 (z)) (r0 : ∀ (h' : am_H) (y0 : Int32), y0.toInt = (-2) → ly_hy m_tt ly_TH h' → ly_fr cst [] h h' → h.length ≤ h'.length → Φ (some (.int y0), h', 0, 0)) : hp_F cst strs Φ D M 0 l [] h := by
  refine hp_arc c hM yko6_k hD [p, q, z, u] rfl hy (hp_Bc (z := p) rfl b0 t0 (hp_Bc (z := q) rfl b1 t1 (hp_Bc (z := z) rfl b2 t2 (hp_Bc (z := u) rfl b3 t3 hp_Bn)))) (hp_Fc (z := ((-1) + ((-1) * p + (1 * u + 0)))) rfl (by omega) (hp_Fc (z := ((-1) + ((-1) * q + (1 * u + 0)))) rfl (by omega) hp_Fn)) (hp_Kc (zi := (0 + 0)) (zv := (0 + (1 * u + 0))) k0 rfl rfl (by omega) (by omega) (hp_Kc (zi := (0 + (1 * p + ((-1) * q + 0)))) (zv := (1 + 0)) k1 rfl rfl (by omega) (by omega) hp_Kn)) (hp_La l0 (hp_Li (z := (0 + (1 * p + 0))) l1 rfl (by omega) (hp_Li (z := (0 + (1 * q + 0))) l2 rfl (by omega) (hp_Li (z := (0 + (1 * z + 0))) l3 rfl (by omega) hp_Ln)))) trivial ?_ ?_
  · intro p hp ys l' st' h' hys a1 a2 a3 gZ gL gS
    cases hp
  · intro p hp ys v h' hys a1 a2 a3 gZ gS
    rcases List.mem_cons.mp hp with rfl | hp
    · obtain rfl := hp_y0 hys
      cases v with
      | none => cases gS
      | some w =>
        obtain ⟨y0, t0, s0, q0, -⟩ := hp_gSi (z := ((-2) + 0)) gS rfl
        cases s0
        exact r0 h' y0 (by omega) a1 a2 a3
    cases hp
theorem yko7_k : hp_chk 68 0 4 [(0, 0, 119), (1, 0, 119), (2, 0, 399), (3, 0, 120)] [((-1), [(0, (-1)), (3, 1)]), ((-1), [(1, (-1)), (3, 1)])] [(0, .inr (.inr (.inl (some 16)))), (1, .inl (0, [(0, 1)])), (2, .inl (0, [(1, 1)])), (3, .inl (0, [(2, 1)]))] [] [(1536, (0, []), (0, [(3, 1)])), (61000, (0, [(0, 1), (1, (-1))]), (1, []))] [] 4 [(44, ([], 4, [(0, 0, 119), (1, 0, 119), (2, 0, 399), (3, 0, 120)], [], [(0, .inr (.inr (.inl (some 16))))], [.inl (0, [(2, 1)]), .inl (0, [(1, 1)]), .inl (0, [(0, 1)]), .inr (.inr (.inl (some 22)))], []))] [] = true := by decide +kernel
theorem yko7 {cst : am_K} {strs : List Nat} {Φ : am_Q → Prop} {D : Nat} {M : am_M} {h : am_H} {l : am_L} (c : hp_C cst strs D) (hM : m_P[68]? = some M) (hD : (4 : Int) ≤ (D : Int) + 1) (hy : ly_hy m_tt ly_TH h) (p q z u : Int) (b0 : 0 ≤ p) (t0 : p ≤ 119) (b1 : 0 ≤ q) (t1 : q ≤ 119) (b2 : 0 ≤ z) (t2 : z ≤ 399) (b3 : 0 ≤ u) (t3 : u ≤ 120) (f0 : 0 ≤ (u - p - 1)) (f1 : 0 ≤ (u - q - 1)) (k0 : ly_hv cst h 1536 0 = some (u)) (k1 : ly_hv cst h 61000 (p - q) = some 1) (l0 : hp_a l 0 16) (l1 : hp_i l 1 (p)) (l2 : hp_i l 2 (q)) (l3 : hp_i l 3 (z)) (e0 : ∀ (l' : am_L) (h' : am_H) (y0 : Int32) (y1 : Int32) (y2 : Int32), y0.toInt = (z) → y1.toInt = (q) → y2.toInt = (p) → ly_hy m_tt ly_TH h' → ly_fr cst [] h h' → h.length ≤ h'.length → hp_a l' 0 16 → hp_F cst strs Φ D M 44 l' [.int y0, .int y1, .int y2, .ref 22] h') : hp_F cst strs Φ D M 0 l [] h := by
  refine hp_arc c hM yko7_k hD [p, q, z, u] rfl hy (hp_Bc (z := p) rfl b0 t0 (hp_Bc (z := q) rfl b1 t1 (hp_Bc (z := z) rfl b2 t2 (hp_Bc (z := u) rfl b3 t3 hp_Bn)))) (hp_Fc (z := ((-1) + ((-1) * p + (1 * u + 0)))) rfl (by omega) (hp_Fc (z := ((-1) + ((-1) * q + (1 * u + 0)))) rfl (by omega) hp_Fn)) (hp_Kc (zi := (0 + 0)) (zv := (0 + (1 * u + 0))) k0 rfl rfl (by omega) (by omega) (hp_Kc (zi := (0 + (1 * p + ((-1) * q + 0)))) (zv := (1 + 0)) k1 rfl rfl (by omega) (by omega) hp_Kn)) (hp_La l0 (hp_Li (z := (0 + (1 * p + 0))) l1 rfl (by omega) (hp_Li (z := (0 + (1 * q + 0))) l2 rfl (by omega) (hp_Li (z := (0 + (1 * z + 0))) l3 rfl (by omega) hp_Ln)))) trivial ?_ ?_
  · intro p hp ys l' st' h' hys a1 a2 a3 gZ gL gS
    rcases List.mem_cons.mp hp with rfl | hp
    · obtain rfl := hp_y0 hys
      obtain ⟨y0, t0, rfl, q0, g0⟩ := hp_gSi (z := (0 + (1 * z + 0))) gS rfl
      obtain ⟨y1, t1, rfl, q1, g1⟩ := hp_gSi (z := (0 + (1 * q + 0))) g0 rfl
      obtain ⟨y2, t2, rfl, q2, g2⟩ := hp_gSi (z := (0 + (1 * p + 0))) g1 rfl
      obtain ⟨t3, rfl, g3⟩ := hp_gSa g2 (by decide)
      cases hp_gSn g3
      exact e0 l' h' y0 y1 y2 (by omega) (by omega) (by omega) a1 a2 a3 (hp_gLa gL (List.mem_of_getElem? (i := 0) rfl) (by decide))
    cases hp
  · intro p hp ys v h' hys a1 a2 a3 gZ gS
    cases hp
theorem yko8_k : hp_chk 68 47 1 [(0, (-2147483648), 2147483647)] [] [(0, .inr (.inr (.inl (some 16))))] [.inl (0, [(0, 1)])] [] [] 2 [] [([], 1, [(0, (-2147483648), 2147483647)], [], [], [.inl (0, [(0, 1)])], [])] = true := by decide +kernel
theorem yko8 {cst : am_K} {strs : List Nat} {Φ : am_Q → Prop} {D : Nat} {M : am_M} {h : am_H} {l : am_L} (c : hp_C cst strs D) (hM : m_P[68]? = some M) (hD : (2 : Int) ≤ (D : Int) + 1) (hy : ly_hy m_tt ly_TH h) (a : Int) (x0 : Int32) (hx0 : x0.toInt = (a)) (b0 : (-2147483648) ≤ a) (t0 : a ≤ 2147483647) (l0 : hp_a l 0 16) (r0 : ∀ (h' : am_H) (y0 : Int32), y0.toInt = (a) → ly_hy m_tt ly_TH h' → ly_fr cst [] h h' → h.length ≤ h'.length → Φ (some (.int y0), h', 0, 0)) : hp_F cst strs Φ D M 47 l [.int x0] h := by
  refine hp_arc c hM yko8_k hD [a] rfl hy (hp_Bc (z := a) rfl b0 t0 hp_Bn) hp_Fn hp_Kn (hp_La l0 hp_Ln) (hp_Si (z := (0 + (1 * a + 0))) rfl (by omega) trivial) ?_ ?_
  · intro p hp ys l' st' h' hys a1 a2 a3 gZ gL gS
    cases hp
  · intro p hp ys v h' hys a1 a2 a3 gZ gS
    rcases List.mem_cons.mp hp with rfl | hp
    · obtain rfl := hp_y0 hys
      cases v with
      | none => cases gS
      | some w =>
        obtain ⟨y0, t0, s0, q0, -⟩ := hp_gSi (z := (0 + (1 * a + 0))) gS rfl
        cases s0
        exact r0 h' y0 (by omega) a1 a2 a3
    cases hp
theorem yro0_k : hp_chk 295 0 4 [(0, (-2147483648), (-1)), (1, (-2147483648), 2147483647), (2, (-2147483648), 2147483647), (3, 0, 120)] [] [(0, .inr (.inr (.inl (some 94)))), (1, .inl (0, [(0, 1)])), (2, .inl (0, [(1, 1)])), (3, .inl (0, [(2, 1)]))] [] [(19978, (0, []), (0, [(3, 1)]))] [] 4 [] [([], 4, [(0, (-2147483648), (-1)), (1, (-2147483648), 2147483647), (2, (-2147483648), 2147483647), (3, 0, 120)], [], [], [.inl ((-2), [])], [])] = true := by decide +kernel
theorem yro0 {cst : am_K} {strs : List Nat} {Φ : am_Q → Prop} {D : Nat} {M : am_M} {h : am_H} {l : am_L} (c : hp_C cst strs D) (hM : m_P[295]? = some M) (hD : (4 : Int) ≤ (D : Int) + 1) (hy : ly_hy m_tt ly_TH h) (p q z u : Int) (b0 : (-2147483648) ≤ p) (t0 : p ≤ (-1)) (b1 : (-2147483648) ≤ q) (t1 : q ≤ 2147483647) (b2 : (-2147483648) ≤ z) (t2 : z ≤ 2147483647) (b3 : 0 ≤ u) (t3 : u ≤ 120) (k0 : ly_hv cst h 19978 0 = some (u)) (l0 : hp_a l 0 94) (l1 : hp_i l 1 (p)) (l2 : hp_i l 2 (q)) (l3 : hp_i l 3 (z)) (r0 : ∀ (h' : am_H) (y0 : Int32), y0.toInt = (-2) → ly_hy m_tt ly_TH h' → ly_fr cst [] h h' → h.length ≤ h'.length → Φ (some (.int y0), h', 0, 0)) : hp_F cst strs Φ D M 0 l [] h := by
  refine hp_arc c hM yro0_k hD [p, q, z, u] rfl hy (hp_Bc (z := p) rfl b0 t0 (hp_Bc (z := q) rfl b1 t1 (hp_Bc (z := z) rfl b2 t2 (hp_Bc (z := u) rfl b3 t3 hp_Bn)))) hp_Fn (hp_Kc (zi := (0 + 0)) (zv := (0 + (1 * u + 0))) k0 rfl rfl (by omega) (by omega) hp_Kn) (hp_La l0 (hp_Li (z := (0 + (1 * p + 0))) l1 rfl (by omega) (hp_Li (z := (0 + (1 * q + 0))) l2 rfl (by omega) (hp_Li (z := (0 + (1 * z + 0))) l3 rfl (by omega) hp_Ln)))) trivial ?_ ?_
  · intro p hp ys l' st' h' hys a1 a2 a3 gZ gL gS
    cases hp
  · intro p hp ys v h' hys a1 a2 a3 gZ gS
    rcases List.mem_cons.mp hp with rfl | hp
    · obtain rfl := hp_y0 hys
      cases v with
      | none => cases gS
      | some w =>
        obtain ⟨y0, t0, s0, q0, -⟩ := hp_gSi (z := ((-2) + 0)) gS rfl
        cases s0
        exact r0 h' y0 (by omega) a1 a2 a3
    cases hp
theorem yro1_k : hp_chk 295 0 4 [(0, 0, 2147483647), (1, (-2147483648), 2147483647), (2, (-2147483648), 2147483647), (3, 0, 120)] [(0, [(0, 1), (3, (-1))])] [(0, .inr (.inr (.inl (some 94)))), (1, .inl (0, [(0, 1)])), (2, .inl (0, [(1, 1)])), (3, .inl (0, [(2, 1)]))] [] [(19978, (0, []), (0, [(3, 1)]))] [] 4 [] [([], 4, [(0, 0, 2147483647), (1, (-2147483648), 2147483647), (2, (-2147483648), 2147483647), (3, 0, 120)], [], [], [.inl ((-2), [])], [])] = true := by decide +kernel
theorem yro1 {cst : am_K} {strs : List Nat} {Φ : am_Q → Prop} {D : Nat} {M : am_M} {h : am_H} {l : am_L} (c : hp_C cst strs D) (hM : m_P[295]? = some M) (hD : (4 : Int) ≤ (D : Int) + 1) (hy : ly_hy m_tt ly_TH h) (p q z u : Int) (b0 : 0 ≤ p) (t0 : p ≤ 2147483647) (b1 : (-2147483648) ≤ q) (t1 : q ≤ 2147483647) (b2 : (-2147483648) ≤ z) (t2 : z ≤ 2147483647) (b3 : 0 ≤ u) (t3 : u ≤ 120) (f0 : 0 ≤ (p - u)) (k0 : ly_hv cst h 19978 0 = some (u)) (l0 : hp_a l 0 94) (l1 : hp_i l 1 (p)) (l2 : hp_i l 2 (q)) (l3 : hp_i l 3 (z)) (r0 : ∀ (h' : am_H) (y0 : Int32), y0.toInt = (-2) → ly_hy m_tt ly_TH h' → ly_fr cst [] h h' → h.length ≤ h'.length → Φ (some (.int y0), h', 0, 0)) : hp_F cst strs Φ D M 0 l [] h := by
  refine hp_arc c hM yro1_k hD [p, q, z, u] rfl hy (hp_Bc (z := p) rfl b0 t0 (hp_Bc (z := q) rfl b1 t1 (hp_Bc (z := z) rfl b2 t2 (hp_Bc (z := u) rfl b3 t3 hp_Bn)))) (hp_Fc (z := (0 + (1 * p + ((-1) * u + 0)))) rfl (by omega) hp_Fn) (hp_Kc (zi := (0 + 0)) (zv := (0 + (1 * u + 0))) k0 rfl rfl (by omega) (by omega) hp_Kn) (hp_La l0 (hp_Li (z := (0 + (1 * p + 0))) l1 rfl (by omega) (hp_Li (z := (0 + (1 * q + 0))) l2 rfl (by omega) (hp_Li (z := (0 + (1 * z + 0))) l3 rfl (by omega) hp_Ln)))) trivial ?_ ?_
  · intro p hp ys l' st' h' hys a1 a2 a3 gZ gL gS
    cases hp
  · intro p hp ys v h' hys a1 a2 a3 gZ gS
    rcases List.mem_cons.mp hp with rfl | hp
    · obtain rfl := hp_y0 hys
      cases v with
      | none => cases gS
      | some w =>
        obtain ⟨y0, t0, s0, q0, -⟩ := hp_gSi (z := ((-2) + 0)) gS rfl
        cases s0
        exact r0 h' y0 (by omega) a1 a2 a3
    cases hp
theorem yro2_k : hp_chk 295 0 4 [(0, 0, 119), (1, (-2147483648), (-1)), (2, (-2147483648), 2147483647), (3, 0, 120)] [((-1), [(0, (-1)), (3, 1)])] [(0, .inr (.inr (.inl (some 94)))), (1, .inl (0, [(0, 1)])), (2, .inl (0, [(1, 1)])), (3, .inl (0, [(2, 1)]))] [] [(19978, (0, []), (0, [(3, 1)]))] [] 4 [] [([], 4, [(0, 0, 119), (1, (-2147483648), (-1)), (2, (-2147483648), 2147483647), (3, 0, 120)], [], [], [.inl ((-2), [])], [])] = true := by decide +kernel
theorem yro2 {cst : am_K} {strs : List Nat} {Φ : am_Q → Prop} {D : Nat} {M : am_M} {h : am_H} {l : am_L} (c : hp_C cst strs D) (hM : m_P[295]? = some M) (hD : (4 : Int) ≤ (D : Int) + 1) (hy : ly_hy m_tt ly_TH h) (p q z u : Int) (b0 : 0 ≤ p) (t0 : p ≤ 119) (b1 : (-2147483648) ≤ q) (t1 : q ≤ (-1)) (b2 : (-2147483648) ≤ z) (t2 : z ≤ 2147483647) (b3 : 0 ≤ u) (t3 : u ≤ 120) (f0 : 0 ≤ (u - p - 1)) (k0 : ly_hv cst h 19978 0 = some (u)) (l0 : hp_a l 0 94) (l1 : hp_i l 1 (p)) (l2 : hp_i l 2 (q)) (l3 : hp_i l 3 (z)) (r0 : ∀ (h' : am_H) (y0 : Int32), y0.toInt = (-2) → ly_hy m_tt ly_TH h' → ly_fr cst [] h h' → h.length ≤ h'.length → Φ (some (.int y0), h', 0, 0)) : hp_F cst strs Φ D M 0 l [] h := by
  refine hp_arc c hM yro2_k hD [p, q, z, u] rfl hy (hp_Bc (z := p) rfl b0 t0 (hp_Bc (z := q) rfl b1 t1 (hp_Bc (z := z) rfl b2 t2 (hp_Bc (z := u) rfl b3 t3 hp_Bn)))) (hp_Fc (z := ((-1) + ((-1) * p + (1 * u + 0)))) rfl (by omega) hp_Fn) (hp_Kc (zi := (0 + 0)) (zv := (0 + (1 * u + 0))) k0 rfl rfl (by omega) (by omega) hp_Kn) (hp_La l0 (hp_Li (z := (0 + (1 * p + 0))) l1 rfl (by omega) (hp_Li (z := (0 + (1 * q + 0))) l2 rfl (by omega) (hp_Li (z := (0 + (1 * z + 0))) l3 rfl (by omega) hp_Ln)))) trivial ?_ ?_
  · intro p hp ys l' st' h' hys a1 a2 a3 gZ gL gS
    cases hp
  · intro p hp ys v h' hys a1 a2 a3 gZ gS
    rcases List.mem_cons.mp hp with rfl | hp
    · obtain rfl := hp_y0 hys
      cases v with
      | none => cases gS
      | some w =>
        obtain ⟨y0, t0, s0, q0, -⟩ := hp_gSi (z := ((-2) + 0)) gS rfl
        cases s0
        exact r0 h' y0 (by omega) a1 a2 a3
    cases hp
theorem yro3_k : hp_chk 295 0 4 [(0, 0, 119), (1, 0, 2147483647), (2, (-2147483648), 2147483647), (3, 0, 120)] [((-1), [(0, (-1)), (3, 1)]), (0, [(1, 1), (3, (-1))])] [(0, .inr (.inr (.inl (some 94)))), (1, .inl (0, [(0, 1)])), (2, .inl (0, [(1, 1)])), (3, .inl (0, [(2, 1)]))] [] [(19978, (0, []), (0, [(3, 1)]))] [] 4 [] [([], 4, [(0, 0, 119), (1, 0, 2147483647), (2, (-2147483648), 2147483647), (3, 0, 120)], [], [], [.inl ((-2), [])], [])] = true := by decide +kernel
theorem yro3 {cst : am_K} {strs : List Nat} {Φ : am_Q → Prop} {D : Nat} {M : am_M} {h : am_H} {l : am_L} (c : hp_C cst strs D) (hM : m_P[295]? = some M) (hD : (4 : Int) ≤ (D : Int) + 1) (hy : ly_hy m_tt ly_TH h) (p q z u : Int) (b0 : 0 ≤ p) (t0 : p ≤ 119) (b1 : 0 ≤ q) (t1 : q ≤ 2147483647) (b2 : (-2147483648) ≤ z) (t2 : z ≤ 2147483647) (b3 : 0 ≤ u) (t3 : u ≤ 120) (f0 : 0 ≤ (u - p - 1)) (f1 : 0 ≤ (q - u)) (k0 : ly_hv cst h 19978 0 = some (u)) (l0 : hp_a l 0 94) (l1 : hp_i l 1 (p)) (l2 : hp_i l 2 (q)) (l3 : hp_i l 3 (z)) (r0 : ∀ (h' : am_H) (y0 : Int32), y0.toInt = (-2) → ly_hy m_tt ly_TH h' → ly_fr cst [] h h' → h.length ≤ h'.length → Φ (some (.int y0), h', 0, 0)) : hp_F cst strs Φ D M 0 l [] h := by
  refine hp_arc c hM yro3_k hD [p, q, z, u] rfl hy (hp_Bc (z := p) rfl b0 t0 (hp_Bc (z := q) rfl b1 t1 (hp_Bc (z := z) rfl b2 t2 (hp_Bc (z := u) rfl b3 t3 hp_Bn)))) (hp_Fc (z := ((-1) + ((-1) * p + (1 * u + 0)))) rfl (by omega) (hp_Fc (z := (0 + (1 * q + ((-1) * u + 0)))) rfl (by omega) hp_Fn)) (hp_Kc (zi := (0 + 0)) (zv := (0 + (1 * u + 0))) k0 rfl rfl (by omega) (by omega) hp_Kn) (hp_La l0 (hp_Li (z := (0 + (1 * p + 0))) l1 rfl (by omega) (hp_Li (z := (0 + (1 * q + 0))) l2 rfl (by omega) (hp_Li (z := (0 + (1 * z + 0))) l3 rfl (by omega) hp_Ln)))) trivial ?_ ?_
  · intro p hp ys l' st' h' hys a1 a2 a3 gZ gL gS
    cases hp
  · intro p hp ys v h' hys a1 a2 a3 gZ gS
    rcases List.mem_cons.mp hp with rfl | hp
    · obtain rfl := hp_y0 hys
      cases v with
      | none => cases gS
      | some w =>
        obtain ⟨y0, t0, s0, q0, -⟩ := hp_gSi (z := ((-2) + 0)) gS rfl
        cases s0
        exact r0 h' y0 (by omega) a1 a2 a3
    cases hp
theorem yro4_k : hp_chk 295 0 3 [(0, 0, 119), (1, (-2147483648), 2147483647), (2, 0, 120)] [((-1), [(0, (-1)), (2, 1)])] [(0, .inr (.inr (.inl (some 94)))), (1, .inl (0, [(0, 1)])), (2, .inl (0, [(0, 1)])), (3, .inl (0, [(1, 1)]))] [] [(19978, (0, []), (0, [(2, 1)]))] [] 4 [] [([], 3, [(0, 0, 119), (1, (-2147483648), 2147483647), (2, 0, 120)], [], [], [.inl ((-2), [])], [])] = true := by decide +kernel
theorem yro4 {cst : am_K} {strs : List Nat} {Φ : am_Q → Prop} {D : Nat} {M : am_M} {h : am_H} {l : am_L} (c : hp_C cst strs D) (hM : m_P[295]? = some M) (hD : (4 : Int) ≤ (D : Int) + 1) (hy : ly_hy m_tt ly_TH h) (p z u : Int) (b0 : 0 ≤ p) (t0 : p ≤ 119) (b1 : (-2147483648) ≤ z) (t1 : z ≤ 2147483647) (b2 : 0 ≤ u) (t2 : u ≤ 120) (f0 : 0 ≤ (u - p - 1)) (k0 : ly_hv cst h 19978 0 = some (u)) (l0 : hp_a l 0 94) (l1 : hp_i l 1 (p)) (l2 : hp_i l 2 (p)) (l3 : hp_i l 3 (z)) (r0 : ∀ (h' : am_H) (y0 : Int32), y0.toInt = (-2) → ly_hy m_tt ly_TH h' → ly_fr cst [] h h' → h.length ≤ h'.length → Φ (some (.int y0), h', 0, 0)) : hp_F cst strs Φ D M 0 l [] h := by
  refine hp_arc c hM yro4_k hD [p, z, u] rfl hy (hp_Bc (z := p) rfl b0 t0 (hp_Bc (z := z) rfl b1 t1 (hp_Bc (z := u) rfl b2 t2 hp_Bn))) (hp_Fc (z := ((-1) + ((-1) * p + (1 * u + 0)))) rfl (by omega) hp_Fn) (hp_Kc (zi := (0 + 0)) (zv := (0 + (1 * u + 0))) k0 rfl rfl (by omega) (by omega) hp_Kn) (hp_La l0 (hp_Li (z := (0 + (1 * p + 0))) l1 rfl (by omega) (hp_Li (z := (0 + (1 * p + 0))) l2 rfl (by omega) (hp_Li (z := (0 + (1 * z + 0))) l3 rfl (by omega) hp_Ln)))) trivial ?_ ?_
  · intro p hp ys l' st' h' hys a1 a2 a3 gZ gL gS
    cases hp
  · intro p hp ys v h' hys a1 a2 a3 gZ gS
    rcases List.mem_cons.mp hp with rfl | hp
    · obtain rfl := hp_y0 hys
      cases v with
      | none => cases gS
      | some w =>
        obtain ⟨y0, t0, s0, q0, -⟩ := hp_gSi (z := ((-2) + 0)) gS rfl
        cases s0
        exact r0 h' y0 (by omega) a1 a2 a3
    cases hp
theorem yro5_k : hp_chk 295 0 4 [(0, 0, 119), (1, 0, 119), (2, (-2147483648), (-1)), (3, 0, 120)] [((-1), [(0, (-1)), (3, 1)]), ((-1), [(1, (-1)), (3, 1)])] [(0, .inr (.inr (.inl (some 94)))), (1, .inl (0, [(0, 1)])), (2, .inl (0, [(1, 1)])), (3, .inl (0, [(2, 1)]))] [] [(19978, (0, []), (0, [(3, 1)])), (61000, (0, [(0, 1), (1, (-1))]), (1, []))] [] 4 [] [([], 4, [(0, 0, 119), (1, 0, 119), (2, (-2147483648), (-1)), (3, 0, 120)], [], [], [.inl ((-2), [])], [])] = true := by decide +kernel
theorem yro5 {cst : am_K} {strs : List Nat} {Φ : am_Q → Prop} {D : Nat} {M : am_M} {h : am_H} {l : am_L} (c : hp_C cst strs D) (hM : m_P[295]? = some M) (hD : (4 : Int) ≤ (D : Int) + 1) (hy : ly_hy m_tt ly_TH h) (p q z u : Int) (b0 : 0 ≤ p) (t0 : p ≤ 119) (b1 : 0 ≤ q) (t1 : q ≤ 119) (b2 : (-2147483648) ≤ z) (t2 : z ≤ (-1)) (b3 : 0 ≤ u) (t3 : u ≤ 120) (f0 : 0 ≤ (u - p - 1)) (f1 : 0 ≤ (u - q - 1)) (k0 : ly_hv cst h 19978 0 = some (u)) (k1 : ly_hv cst h 61000 (p - q) = some 1) (l0 : hp_a l 0 94) (l1 : hp_i l 1 (p)) (l2 : hp_i l 2 (q)) (l3 : hp_i l 3 (z)) (r0 : ∀ (h' : am_H) (y0 : Int32), y0.toInt = (-2) → ly_hy m_tt ly_TH h' → ly_fr cst [] h h' → h.length ≤ h'.length → Φ (some (.int y0), h', 0, 0)) : hp_F cst strs Φ D M 0 l [] h := by
  refine hp_arc c hM yro5_k hD [p, q, z, u] rfl hy (hp_Bc (z := p) rfl b0 t0 (hp_Bc (z := q) rfl b1 t1 (hp_Bc (z := z) rfl b2 t2 (hp_Bc (z := u) rfl b3 t3 hp_Bn)))) (hp_Fc (z := ((-1) + ((-1) * p + (1 * u + 0)))) rfl (by omega) (hp_Fc (z := ((-1) + ((-1) * q + (1 * u + 0)))) rfl (by omega) hp_Fn)) (hp_Kc (zi := (0 + 0)) (zv := (0 + (1 * u + 0))) k0 rfl rfl (by omega) (by omega) (hp_Kc (zi := (0 + (1 * p + ((-1) * q + 0)))) (zv := (1 + 0)) k1 rfl rfl (by omega) (by omega) hp_Kn)) (hp_La l0 (hp_Li (z := (0 + (1 * p + 0))) l1 rfl (by omega) (hp_Li (z := (0 + (1 * q + 0))) l2 rfl (by omega) (hp_Li (z := (0 + (1 * z + 0))) l3 rfl (by omega) hp_Ln)))) trivial ?_ ?_
  · intro p hp ys l' st' h' hys a1 a2 a3 gZ gL gS
    cases hp
  · intro p hp ys v h' hys a1 a2 a3 gZ gS
    rcases List.mem_cons.mp hp with rfl | hp
    · obtain rfl := hp_y0 hys
      cases v with
      | none => cases gS
      | some w =>
        obtain ⟨y0, t0, s0, q0, -⟩ := hp_gSi (z := ((-2) + 0)) gS rfl
        cases s0
        exact r0 h' y0 (by omega) a1 a2 a3
    cases hp
theorem yro6_k : hp_chk 295 0 4 [(0, 0, 119), (1, 0, 119), (2, 400, 2147483647), (3, 0, 120)] [((-1), [(0, (-1)), (3, 1)]), ((-1), [(1, (-1)), (3, 1)])] [(0, .inr (.inr (.inl (some 94)))), (1, .inl (0, [(0, 1)])), (2, .inl (0, [(1, 1)])), (3, .inl (0, [(2, 1)]))] [] [(19978, (0, []), (0, [(3, 1)])), (61000, (0, [(0, 1), (1, (-1))]), (1, []))] [] 4 [] [([], 4, [(0, 0, 119), (1, 0, 119), (2, 400, 2147483647), (3, 0, 120)], [], [], [.inl ((-2), [])], [])] = true := by decide +kernel
theorem yro6 {cst : am_K} {strs : List Nat} {Φ : am_Q → Prop} {D : Nat} {M : am_M} {h : am_H} {l : am_L} (c : hp_C cst strs D) (hM : m_P[295]? = some M) (hD : (4 : Int) ≤ (D : Int) + 1) (hy : ly_hy m_tt ly_TH h) (p q z u : Int) (b0 : 0 ≤ p) (t0 : p ≤ 119) (b1 : 0 ≤ q) (t1 : q ≤ 119) (b2 : 400 ≤ z) (t2 : z ≤ 2147483647) (b3 : 0 ≤ u) (t3 : u ≤ 120) (f0 : 0 ≤ (u - p - 1)) (f1 : 0 ≤ (u - q - 1)) (k0 : ly_hv cst h 19978 0 = some (u)) (k1 : ly_hv cst h 61000 (p - q) = some 1) (l0 : hp_a l 0 94) (l1 : hp_i l 1 (p)) (l2 : hp_i l 2 (q)) (l3 : hp_i l 3 (z)) (r0 : ∀ (h' : am_H) (y0 : Int32), y0.toInt = (-2) → ly_hy m_tt ly_TH h' → ly_fr cst [] h h' → h.length ≤ h'.length → Φ (some (.int y0), h', 0, 0)) : hp_F cst strs Φ D M 0 l [] h := by
  refine hp_arc c hM yro6_k hD [p, q, z, u] rfl hy (hp_Bc (z := p) rfl b0 t0 (hp_Bc (z := q) rfl b1 t1 (hp_Bc (z := z) rfl b2 t2 (hp_Bc (z := u) rfl b3 t3 hp_Bn)))) (hp_Fc (z := ((-1) + ((-1) * p + (1 * u + 0)))) rfl (by omega) (hp_Fc (z := ((-1) + ((-1) * q + (1 * u + 0)))) rfl (by omega) hp_Fn)) (hp_Kc (zi := (0 + 0)) (zv := (0 + (1 * u + 0))) k0 rfl rfl (by omega) (by omega) (hp_Kc (zi := (0 + (1 * p + ((-1) * q + 0)))) (zv := (1 + 0)) k1 rfl rfl (by omega) (by omega) hp_Kn)) (hp_La l0 (hp_Li (z := (0 + (1 * p + 0))) l1 rfl (by omega) (hp_Li (z := (0 + (1 * q + 0))) l2 rfl (by omega) (hp_Li (z := (0 + (1 * z + 0))) l3 rfl (by omega) hp_Ln)))) trivial ?_ ?_
  · intro p hp ys l' st' h' hys a1 a2 a3 gZ gL gS
    cases hp
  · intro p hp ys v h' hys a1 a2 a3 gZ gS
    rcases List.mem_cons.mp hp with rfl | hp
    · obtain rfl := hp_y0 hys
      cases v with
      | none => cases gS
      | some w =>
        obtain ⟨y0, t0, s0, q0, -⟩ := hp_gSi (z := ((-2) + 0)) gS rfl
        cases s0
        exact r0 h' y0 (by omega) a1 a2 a3
    cases hp
theorem yro7_k : hp_chk 295 0 4 [(0, 0, 119), (1, 0, 119), (2, 0, 399), (3, 0, 120)] [((-1), [(0, (-1)), (3, 1)]), ((-1), [(1, (-1)), (3, 1)])] [(0, .inr (.inr (.inl (some 94)))), (1, .inl (0, [(0, 1)])), (2, .inl (0, [(1, 1)])), (3, .inl (0, [(2, 1)]))] [] [(19978, (0, []), (0, [(3, 1)])), (61000, (0, [(0, 1), (1, (-1))]), (1, []))] [] 4 [(32, ([], 4, [(0, 0, 119), (1, 0, 119), (2, 0, 399), (3, 0, 120)], [], [(0, .inr (.inr (.inl (some 94))))], [.inl (0, [(2, 1)]), .inl (0, [(1, 1)]), .inl (0, [(0, 1)]), .inr (.inr (.inl (some 94)))], []))] [] = true := by decide +kernel
theorem yro7 {cst : am_K} {strs : List Nat} {Φ : am_Q → Prop} {D : Nat} {M : am_M} {h : am_H} {l : am_L} (c : hp_C cst strs D) (hM : m_P[295]? = some M) (hD : (4 : Int) ≤ (D : Int) + 1) (hy : ly_hy m_tt ly_TH h) (p q z u : Int) (b0 : 0 ≤ p) (t0 : p ≤ 119) (b1 : 0 ≤ q) (t1 : q ≤ 119) (b2 : 0 ≤ z) (t2 : z ≤ 399) (b3 : 0 ≤ u) (t3 : u ≤ 120) (f0 : 0 ≤ (u - p - 1)) (f1 : 0 ≤ (u - q - 1)) (k0 : ly_hv cst h 19978 0 = some (u)) (k1 : ly_hv cst h 61000 (p - q) = some 1) (l0 : hp_a l 0 94) (l1 : hp_i l 1 (p)) (l2 : hp_i l 2 (q)) (l3 : hp_i l 3 (z)) (e0 : ∀ (l' : am_L) (h' : am_H) (y0 : Int32) (y1 : Int32) (y2 : Int32), y0.toInt = (z) → y1.toInt = (q) → y2.toInt = (p) → ly_hy m_tt ly_TH h' → ly_fr cst [] h h' → h.length ≤ h'.length → hp_a l' 0 94 → hp_F cst strs Φ D M 32 l' [.int y0, .int y1, .int y2, .ref 94] h') : hp_F cst strs Φ D M 0 l [] h := by
  refine hp_arc c hM yro7_k hD [p, q, z, u] rfl hy (hp_Bc (z := p) rfl b0 t0 (hp_Bc (z := q) rfl b1 t1 (hp_Bc (z := z) rfl b2 t2 (hp_Bc (z := u) rfl b3 t3 hp_Bn)))) (hp_Fc (z := ((-1) + ((-1) * p + (1 * u + 0)))) rfl (by omega) (hp_Fc (z := ((-1) + ((-1) * q + (1 * u + 0)))) rfl (by omega) hp_Fn)) (hp_Kc (zi := (0 + 0)) (zv := (0 + (1 * u + 0))) k0 rfl rfl (by omega) (by omega) (hp_Kc (zi := (0 + (1 * p + ((-1) * q + 0)))) (zv := (1 + 0)) k1 rfl rfl (by omega) (by omega) hp_Kn)) (hp_La l0 (hp_Li (z := (0 + (1 * p + 0))) l1 rfl (by omega) (hp_Li (z := (0 + (1 * q + 0))) l2 rfl (by omega) (hp_Li (z := (0 + (1 * z + 0))) l3 rfl (by omega) hp_Ln)))) trivial ?_ ?_
  · intro p hp ys l' st' h' hys a1 a2 a3 gZ gL gS
    rcases List.mem_cons.mp hp with rfl | hp
    · obtain rfl := hp_y0 hys
      obtain ⟨y0, t0, rfl, q0, g0⟩ := hp_gSi (z := (0 + (1 * z + 0))) gS rfl
      obtain ⟨y1, t1, rfl, q1, g1⟩ := hp_gSi (z := (0 + (1 * q + 0))) g0 rfl
      obtain ⟨y2, t2, rfl, q2, g2⟩ := hp_gSi (z := (0 + (1 * p + 0))) g1 rfl
      obtain ⟨t3, rfl, g3⟩ := hp_gSa g2 (by decide)
      cases hp_gSn g3
      exact e0 l' h' y0 y1 y2 (by omega) (by omega) (by omega) a1 a2 a3 (hp_gLa gL (List.mem_of_getElem? (i := 0) rfl) (by decide))
    cases hp
  · intro p hp ys v h' hys a1 a2 a3 gZ gS
    cases hp
theorem yro8_k : hp_chk 295 35 1 [(0, (-2147483648), 2147483647)] [] [(0, .inr (.inr (.inl (some 94))))] [.inl (0, [(0, 1)])] [] [] 2 [] [([], 1, [(0, (-2147483648), 2147483647)], [], [], [.inl (0, [(0, 1)])], [])] = true := by decide +kernel
theorem yro8 {cst : am_K} {strs : List Nat} {Φ : am_Q → Prop} {D : Nat} {M : am_M} {h : am_H} {l : am_L} (c : hp_C cst strs D) (hM : m_P[295]? = some M) (hD : (2 : Int) ≤ (D : Int) + 1) (hy : ly_hy m_tt ly_TH h) (a : Int) (x0 : Int32) (hx0 : x0.toInt = (a)) (b0 : (-2147483648) ≤ a) (t0 : a ≤ 2147483647) (l0 : hp_a l 0 94) (r0 : ∀ (h' : am_H) (y0 : Int32), y0.toInt = (a) → ly_hy m_tt ly_TH h' → ly_fr cst [] h h' → h.length ≤ h'.length → Φ (some (.int y0), h', 0, 0)) : hp_F cst strs Φ D M 35 l [.int x0] h := by
  refine hp_arc c hM yro8_k hD [a] rfl hy (hp_Bc (z := a) rfl b0 t0 hp_Bn) hp_Fn hp_Kn (hp_La l0 hp_Ln) (hp_Si (z := (0 + (1 * a + 0))) rfl (by omega) trivial) ?_ ?_
  · intro p hp ys l' st' h' hys a1 a2 a3 gZ gL gS
    cases hp
  · intro p hp ys v h' hys a1 a2 a3 gZ gS
    rcases List.mem_cons.mp hp with rfl | hp
    · obtain rfl := hp_y0 hys
      cases v with
      | none => cases gS
      | some w =>
        obtain ⟨y0, t0, s0, q0, -⟩ := hp_gSi (z := (0 + (1 * a + 0))) gS rfl
        cases s0
        exact r0 h' y0 (by omega) a1 a2 a3
    cases hp
/-- a telling of kin that counts: of the class by its pair w, of the reference by p and q -/
def yk_m (fK fO fN : Int → Option Int) (w z k : Int) : Prop := fK k = some 2 ∧ fO k = some w ∧ ∃ a, fN k = some a ∧ a ≤ z
def yr_m (gK gO gW gN : Int → Option Int) (p q z k : Int) : Prop := gK k = some 2 ∧ ((gO k = some p ∧ gW k = some q) ∨ (gO k = some q ∧ gW k = some p)) ∧ ∃ a, gN k = some a ∧ a ≤ z
/-- the last one below i -/
def yl (m : Int → Prop) (i b : Int) : Prop := (b = -1 ∧ ∀ k, 0 ≤ k → k < i → ¬ m k) ∨ (0 ≤ b ∧ b < i ∧ m b ∧ ∀ k, b < k → k < i → ¬ m k)
theorem yl_uni {m m' : Int → Prop} (hm : ∀ k, m k ↔ m' k) {i b b' : Int} (H : yl m i b) (H' : yl m' i b') : b = b' := by
  rcases H with ⟨q, H⟩ | ⟨b0, b1, mb, H⟩
  · rcases H' with ⟨q', -⟩ | ⟨c0, c1, mc, -⟩
    · omega
    · exact absurd ((hm b').mpr mc) (H b' c0 c1)
  · rcases H' with ⟨q', H'⟩ | ⟨c0, c1, mc, H'⟩
    · exact absurd ((hm b).mp mb) (H' b b0 b1)
    · have h1 : ¬ b < b' := fun q => H b' q c1 ((hm b').mpr mc)
      have h2 : ¬ b' < b := fun q => H' b q b1 ((hm b).mp mb)
      omega
def yk_a (fA : Int → Option Int) (m : Int → Prop) (t a : Int) : Prop := ∃ b, yl m t b ∧ (b = -1 → a = 0) ∧ (0 ≤ b → fA b = some a)
theorem yk_uni {fA gA : Int → Option Int} {m m' : Int → Prop} {t a a' : Int} (eA : fA = gA) (hm : ∀ k, m k ↔ m' k) (H : yk_a fA m t a) (H' : yk_a gA m' t a') : a = a' := by
  obtain ⟨b, h1, h2, h3⟩ := H
  obtain ⟨b', g1, g2, g3⟩ := H'
  have e := yl_uni hm h1 g1
  subst e
  subst eA
  by_cases q : b = -1
  · rw [h2 q, g2 q]
  · have b0 : 0 ≤ b := by
      rcases h1 with ⟨q', -⟩ | ⟨b0, -⟩
      · exact absurd q' q
      · exact b0
    exact Option.some.inj ((h3 b0).symm.trans (g3 b0))
def yk_ok (p q z u : Int) : Prop := 0 ≤ p ∧ p < u ∧ 0 ≤ q ∧ q < u ∧ p ≠ q ∧ 0 ≤ z ∧ z ≤ 399
theorem yk_loop {cst : am_K} {strs : List Nat} {D : Nat} {M : am_M} {h0 : am_H} (c : hp_C cst strs D) (hM : m_P[69]? = some M) (hD : (2 : Int) ≤ (D : Int) + 1) {t w z : Int} (t0 : 0 ≤ t) (t1 : t ≤ 300) (w0 : 0 ≤ w) (w1 : w ≤ 14399) (z0 : -2147483648 ≤ z) (z1 : z ≤ 2147483647) (hy0 : ly_hy m_tt ly_TH h0) : ∀ (N : Nat) (h : am_H) (l : am_L) (i : Int), (i + 1).toNat < N → -1 ≤ i → i < t → ly_hy m_tt ly_TH h → ly_fr cst [] h0 h → (∀ k, i < k → k < t → ¬ (yk_m (ly_hv cst h0 2304) (ly_hv cst h0 2560) (ly_hv cst h0 3328) w z) k) → hp_a l 0 22 → hp_i l 3 z → hp_i l 4 w → hp_i l 5 i → hp_F cst strs (dd_Φ cst h0 (fun a => yk_a (ly_hv cst h0 2816) (yk_m (ly_hv cst h0 2304) (ly_hv cst h0 2560) (ly_hv cst h0 3328) w z) t a)) D M 15 l [] h := by
  intro N
  induction N with
  | zero => intro h l i hN; omega
  | succ N ih =>
    intro h l i hN i0 i1 hy fr no l0 l3 l4 l5
    have eK : ly_hv cst h 2304 = ly_hv cst h0 2304 := hp_same (show ly_ths ly_TH 9 = some (.inl (.int, 300, -2147483648, 2147483647)) from rfl) rfl hy0 hy fr
    have eO : ly_hv cst h 2560 = ly_hv cst h0 2560 := hp_same (show ly_ths ly_TH 10 = some (.inl (.int, 300, -2147483648, 2147483647)) from rfl) rfl hy0 hy fr
    have eA : ly_hv cst h 2816 = ly_hv cst h0 2816 := hp_same (show ly_ths ly_TH 11 = some (.inl (.int, 300, -2147483648, 2147483647)) from rfl) rfl hy0 hy fr
    have eN : ly_hv cst h 3328 = ly_hv cst h0 3328 := hp_same (show ly_ths ly_TH 13 = some (.inl (.int, 300, -2147483648, 2147483647)) from rfl) rfl hy0 hy fr
    by_cases hi : i = -1
    · subst hi
      exact ykf c hM hD hy z w z0 z1 w0 w1 l0 l3 l4 l5 (fun h2 a ha u1 u2 u3 => ⟨a, rfl, rfl, rfl, u1, ly_fr_tr fr u2, -1, Or.inl ⟨rfl, fun k k0 k1 => no k (by omega) k1⟩, fun _ => ha, fun q => by omega⟩)
    · skip
      obtain ⟨xa, ka, a0, a1⟩ := hp_row (cst := cst) (i := i) hy (show ly_ths ly_TH 9 = some (.inl (.int, 300, -2147483648, 2147483647)) from rfl) (by omega) (by omega)
      have ka' : ly_hv cst h0 2304 i = some xa := by rw [← eK]; exact ka
      obtain ⟨xb, kb, b0, b1⟩ := hp_row (cst := cst) (i := i) hy (show ly_ths ly_TH 10 = some (.inl (.int, 300, -2147483648, 2147483647)) from rfl) (by omega) (by omega)
      have kb' : ly_hv cst h0 2560 i = some xb := by rw [← eO]; exact kb
      obtain ⟨xg, kg, g0, g1⟩ := hp_row (cst := cst) (i := i) hy (show ly_ths ly_TH 13 = some (.inl (.int, 300, -2147483648, 2147483647)) from rfl) (by omega) (by omega)
      have kg' : ly_hv cst h0 3328 i = some xg := by rw [← eN]; exact kg
      obtain ⟨xd, kd, d0, d1⟩ := hp_row (cst := cst) (i := i) hy (show ly_ths ly_TH 11 = some (.inl (.int, 300, -2147483648, 2147483647)) from rfl) (by omega) (by omega)
      have kd' : ly_hv cst h0 2816 i = some xd := by rw [← eA]; exact kd
      have next : (¬ (yk_m (ly_hv cst h0 2304) (ly_hv cst h0 2560) (ly_hv cst h0 3328) w z) i) → ∀ (l2' : am_L) (h2 : am_H), ly_hy m_tt ly_TH h2 → ly_fr cst [] h h2 → h.length ≤ h2.length → hp_a l2' 0 22 → hp_i l2' 3 z → hp_i l2' 4 w → hp_i l2' 5 (i - 1) → hp_F cst strs (dd_Φ cst h0 (fun a => yk_a (ly_hv cst h0 2816) (yk_m (ly_hv cst h0 2304) (ly_hv cst h0 2560) (ly_hv cst h0 3328) w z) t a)) D M 15 l2' [] h2 := fun nm l2' h2 u1 u2 u3 v0 v3 v4 v5 => ih h2 l2' (i - 1) (by omega) (by omega) (by omega) u1 (ly_fr_tr fr u2) (fun k k0 k1 => if q : k = i then q ▸ nm else no k (by omega) k1) v0 v3 v4 v5
      by_cases qa : xa = 2
      rotate_left
      · exact ykb c hM hD hy z w t i xa z0 z1 w0 w1 t0 t1 (by omega) (by omega) a0 a1 (by omega) ka (hp_ne (by omega)) l0 l3 l4 l5 (next (fun m => by
          have := m.1
          rw [ka'] at this
          cases this
          exact qa rfl))
      subst qa
      by_cases qb : xb = w
      rotate_left
      · exact ykc c hM hD hy z w t i xb z0 z1 w0 w1 t0 t1 (by omega) (by omega) b0 b1 (by omega) ka kb (hp_ne (by omega)) l0 l3 l4 l5 (next (fun m => by
          have := m.2.1
          rw [kb'] at this
          cases this
          exact qb rfl))
      subst qb
      by_cases qc : xg ≤ z
      rotate_left
      · exact ykd c hM hD hy z xb t i xg z0 z1 w0 w1 t0 t1 (by omega) (by omega) g0 g1 (by omega) (by omega) ka kb kg l0 l3 l4 l5 (next (fun m => by
          obtain ⟨-, -, b', hb', lb'⟩ := m
          rw [kg'] at hb'
          cases hb'
          exact qc lb'))
      exact yka c hM hD hy z xb t i xg xd z0 z1 w0 w1 t0 t1 (by omega) (by omega) g0 g1 d0 d1 (by omega) (by omega) ka kb kg kd l0 l3 l4 l5 (fun h2 a ha u1 u2 u3 => ⟨a, rfl, rfl, rfl, u1, ly_fr_tr fr u2, i, Or.inr ⟨by omega, i1, ⟨ka', kb', xg, kg', qc⟩, no⟩, fun q => by omega, fun _ => by rw [ha]; exact kd'⟩)
/-- what the reference has on its way -/
def yr_s (fA : Int → Option Int) (b m : Int) : Prop := (b = -1 ∧ m = 0) ∨ (0 ≤ b ∧ fA b = some m)
theorem yr_loop {cst : am_K} {strs : List Nat} {D : Nat} {M : am_M} {h0 : am_H} (c : hp_C cst strs D) (hM : m_P[296]? = some M) (hD : (2 : Int) ≤ (D : Int) + 1) {t p q z : Int} (t0 : 0 ≤ t) (t1 : t ≤ 300) (p0 : 0 ≤ p) (p1 : p ≤ 119) (y0 : 0 ≤ q) (y1 : q ≤ 119) (hne : p ≠ q) (z0 : -2147483648 ≤ z) (z1 : z ≤ 2147483647) (hy0 : ly_hy m_tt ly_TH h0) : ∀ (N : Nat) (h : am_H) (l : am_L) (i b m : Int), (t - i).toNat < N → 0 ≤ i → i ≤ t → ly_hy m_tt ly_TH h → ly_fr cst [] h0 h → ly_hv cst h 19982 0 = some t → yl (yr_m (ly_hv cst h0 21248) (ly_hv cst h0 21504) (ly_hv cst h0 21760) (ly_hv cst h0 22528) p q z) i b → yr_s (ly_hv cst h0 22016) b m → -2147483648 ≤ m → m ≤ 2147483647 → hp_a l 0 94 → hp_i l 1 p → hp_i l 2 q → hp_i l 3 z → hp_i l 4 m → hp_i l 5 i → hp_F cst strs (dd_Φ cst h0 (fun a => yk_a (ly_hv cst h0 22016) (yr_m (ly_hv cst h0 21248) (ly_hv cst h0 21504) (ly_hv cst h0 21760) (ly_hv cst h0 22528) p q z) t a)) D M 6 l [] h := by
  intro N
  induction N with
  | zero => intro h l i b m hN; omega
  | succ N ih =>
    intro h l i b m hN i0 i1 hy fr kt hb hs m0 m1 l0 l1 l2 l3 l4 l5
    have n1 : ly_hv cst h 61000 (p - q) = some 1 := hp_ne (by omega)
    have n2 : ly_hv cst h 61000 (q - p) = some 1 := hp_ne (by omega)
    have eK : ly_hv cst h 21248 = ly_hv cst h0 21248 := hp_same (show ly_ths ly_TH 83 = some (.inl (.int, 300, -2147483648, 2147483647)) from rfl) rfl hy0 hy fr
    have eO : ly_hv cst h 21504 = ly_hv cst h0 21504 := hp_same (show ly_ths ly_TH 84 = some (.inl (.int, 300, -2147483648, 2147483647)) from rfl) rfl hy0 hy fr
    have eW : ly_hv cst h 21760 = ly_hv cst h0 21760 := hp_same (show ly_ths ly_TH 85 = some (.inl (.int, 300, -2147483648, 2147483647)) from rfl) rfl hy0 hy fr
    have eA : ly_hv cst h 22016 = ly_hv cst h0 22016 := hp_same (show ly_ths ly_TH 86 = some (.inl (.int, 300, -2147483648, 2147483647)) from rfl) rfl hy0 hy fr
    have eN : ly_hv cst h 22528 = ly_hv cst h0 22528 := hp_same (show ly_ths ly_TH 88 = some (.inl (.int, 300, -2147483648, 2147483647)) from rfl) rfl hy0 hy fr
    by_cases hi : i = t
    · subst hi
      exact yrf c hM hD hy p q z m i p0 p1 y0 y1 z0 z1 m0 m1 t0 t1 kt l0 l1 l2 l3 l4 l5 (fun h2 a ha u1 u2 u3 => ⟨a, rfl, rfl, rfl, u1, ly_fr_tr fr u2, b, hb, fun q => by
        rw [ha]
        rcases hs with ⟨-, s2⟩ | ⟨s1, -⟩
        · exact s2
        · omega, fun q => by
        rw [ha]
        rcases hs with ⟨s1, -⟩ | ⟨-, s2⟩
        · omega
        · exact s2⟩)
    · skip
      obtain ⟨xa, ka, a0, a1⟩ := hp_row (cst := cst) (i := i) hy (show ly_ths ly_TH 83 = some (.inl (.int, 300, -2147483648, 2147483647)) from rfl) (by omega) (by omega)
      have ka' : ly_hv cst h0 21248 i = some xa := by rw [← eK]; exact ka
      obtain ⟨xb, kb, b0, b1⟩ := hp_row (cst := cst) (i := i) hy (show ly_ths ly_TH 84 = some (.inl (.int, 300, -2147483648, 2147483647)) from rfl) (by omega) (by omega)
      have kb' : ly_hv cst h0 21504 i = some xb := by rw [← eO]; exact kb
      obtain ⟨xo, ko, o0, o1⟩ := hp_row (cst := cst) (i := i) hy (show ly_ths ly_TH 85 = some (.inl (.int, 300, -2147483648, 2147483647)) from rfl) (by omega) (by omega)
      have ko' : ly_hv cst h0 21760 i = some xo := by rw [← eW]; exact ko
      obtain ⟨xg, kg, g0, g1⟩ := hp_row (cst := cst) (i := i) hy (show ly_ths ly_TH 88 = some (.inl (.int, 300, -2147483648, 2147483647)) from rfl) (by omega) (by omega)
      have kg' : ly_hv cst h0 22528 i = some xg := by rw [← eN]; exact kg
      obtain ⟨xd, kd, d0, d1⟩ := hp_row (cst := cst) (i := i) hy (show ly_ths ly_TH 86 = some (.inl (.int, 300, -2147483648, 2147483647)) from rfl) (by omega) (by omega)
      have kd' : ly_hv cst h0 22016 i = some xd := by rw [← eA]; exact kd
      have next : (¬ (yr_m (ly_hv cst h0 21248) (ly_hv cst h0 21504) (ly_hv cst h0 21760) (ly_hv cst h0 22528) p q z) i) → ∀ (l2' : am_L) (h2 : am_H), ly_hy m_tt ly_TH h2 → ly_fr cst [] h h2 → h.length ≤ h2.length → hp_a l2' 0 94 → hp_i l2' 1 p → hp_i l2' 2 q → hp_i l2' 3 z → hp_i l2' 4 m → hp_i l2' 5 (i + 1) → hp_F cst strs (dd_Φ cst h0 (fun a => yk_a (ly_hv cst h0 22016) (yr_m (ly_hv cst h0 21248) (ly_hv cst h0 21504) (ly_hv cst h0 21760) (ly_hv cst h0 22528) p q z) t a)) D M 6 l2' [] h2 := fun nm l2' h2 u1 u2 u3 v0 v1 v2 v3 v4 v5 => ih h2 l2' (i + 1) b m (by omega) (by omega) (by omega) u1 (ly_fr_tr fr u2) (u2 _ _ _ rfl kt) (by
        rcases hb with ⟨e, H⟩ | ⟨b0, b1, mb, H⟩
        · exact Or.inl ⟨e, fun k k0 k1 => if q : k = i then q ▸ nm else H k k0 (by omega)⟩
        · exact Or.inr ⟨b0, by omega, mb, fun k k0 k1 => if q : k = i then q ▸ nm else H k k0 (by omega)⟩) hs m0 m1 v0 v1 v2 v3 v4 v5
      have found : (yr_m (ly_hv cst h0 21248) (ly_hv cst h0 21504) (ly_hv cst h0 21760) (ly_hv cst h0 22528) p q z) i → ∀ (l2' : am_L) (h2 : am_H), ly_hy m_tt ly_TH h2 → ly_fr cst [] h h2 → h.length ≤ h2.length → hp_a l2' 0 94 → hp_i l2' 1 p → hp_i l2' 2 q → hp_i l2' 3 z → hp_i l2' 4 xd → hp_i l2' 5 (i + 1) → hp_F cst strs (dd_Φ cst h0 (fun a => yk_a (ly_hv cst h0 22016) (yr_m (ly_hv cst h0 21248) (ly_hv cst h0 21504) (ly_hv cst h0 21760) (ly_hv cst h0 22528) p q z) t a)) D M 6 l2' [] h2 := fun ym l2' h2 u1 u2 u3 v0 v1 v2 v3 v4 v5 => ih h2 l2' (i + 1) i xd (by omega) (by omega) (by omega) u1 (ly_fr_tr fr u2) (u2 _ _ _ rfl kt) (Or.inr ⟨i0, by omega, ym, fun k k0 k1 => by omega⟩) (Or.inr ⟨i0, kd'⟩) d0 d1 v0 v1 v2 v3 v4 v5
      by_cases qa : xa = 2
      rotate_left
      · exact yrb c hM hD hy p q z m t i xa p0 p1 y0 y1 z0 z1 m0 m1 t0 t1 i0 (by omega) a0 a1 (by omega) kt ka (hp_ne (by omega)) l0 l1 l2 l3 l4 l5 (next (fun m => by
          have := m.1
          rw [ka'] at this
          cases this
          exact qa rfl))
      subst qa
      by_cases qc : xg ≤ z
      rotate_left
      · exact yrd c hM hD hy p q z m t i xg p0 p1 y0 y1 z0 z1 m0 m1 t0 t1 i0 (by omega) g0 g1 (by omega) (by omega) kt ka kg l0 l1 l2 l3 l4 l5 (next (fun m => by
          obtain ⟨-, -, b', hb', lb'⟩ := m
          rw [kg'] at hb'
          cases hb'
          exact qc lb'))
      by_cases qb : xb = p
      · by_cases qd : xo = q
        · rw [qb] at kb kb'
          rw [qd] at ko ko'
          exact yra c hM hD hy p q z m t i xg xd p0 p1 y0 y1 z0 z1 m0 m1 t0 t1 i0 (by omega) g0 g1 d0 d1 (by omega) (by omega) kt ka kg kb ko kd n1 n2 l0 l1 l2 l3 l4 l5 (found ⟨ka', Or.inl ⟨kb', ko'⟩, xg, kg', qc⟩)
        · rw [qb] at kb kb'
          exact yri c hM hD hy p q z m t i xg xo p0 p1 y0 y1 z0 z1 m0 m1 t0 t1 i0 (by omega) g0 g1 o0 o1 (by omega) (by omega) kt ka kg kb ko (hp_ne (by omega)) n1 n2 l0 l1 l2 l3 l4 l5 (next (fun m => by
            obtain ⟨-, ⟨-, e2⟩ | ⟨e1, -⟩, -⟩ := m
            · rw [ko'] at e2
              cases e2
              exact qd rfl
            · rw [kb'] at e1
              cases e1
              exact hne rfl))
      · by_cases qe : xb = q
        · by_cases qd : xo = p
          · rw [qe] at kb kb'
            rw [qd] at ko ko'
            exact yre c hM hD hy p q z m t i xg xd p0 p1 y0 y1 z0 z1 m0 m1 t0 t1 i0 (by omega) g0 g1 d0 d1 (by omega) (by omega) kt ka kg kb ko kd n1 n2 l0 l1 l2 l3 l4 l5 (found ⟨ka', Or.inr ⟨kb', ko'⟩, xg, kg', qc⟩)
          · rw [qe] at kb kb'
            exact yrh c hM hD hy p q z m t i xg xo p0 p1 y0 y1 z0 z1 m0 m1 t0 t1 i0 (by omega) g0 g1 o0 o1 (by omega) (by omega) kt ka kg kb ko (hp_ne (by omega)) n1 n2 l0 l1 l2 l3 l4 l5 (next (fun m => by
              obtain ⟨-, ⟨e1, -⟩ | ⟨-, e2⟩, -⟩ := m
              · rw [kb'] at e1
                cases e1
                exact hne rfl
              · rw [ko'] at e2
                cases e2
                exact qd rfl))
        · exact yrg c hM hD hy p q z m t i xg xb p0 p1 y0 y1 z0 z1 m0 m1 t0 t1 i0 (by omega) g0 g1 b0 b1 (by omega) (by omega) kt ka kg kb (hp_ne (by omega)) (hp_ne (by omega)) l0 l1 l2 l3 l4 l5 (next (fun m => by
            obtain ⟨-, ⟨e1, -⟩ | ⟨e1, -⟩, -⟩ := m
            · rw [kb'] at e1
              cases e1
              exact qb rfl
            · rw [kb'] at e1
              cases e1
              exact qe rfl))
theorem yk_run {cst : am_K} {strs : List Nat} {D : Nat} {h : am_H} (c : hp_C cst strs D) (hD : (4 : Int) ≤ (D : Int) + 1) (hy : ly_hy m_tt ly_TH h) {xp xq xz : Int32} {t : Int} (t0 : 0 ≤ t) (t1 : t ≤ 300) (kt : ly_hv cst h 1537 0 = some t) (p0 : 0 ≤ xp.toInt) (p1 : xp.toInt ≤ 119) (y0 : 0 ≤ xq.toInt) (y1 : xq.toInt ≤ 119) (hne : xp.toInt ≠ xq.toInt) :
    ∃ r, am_Run cst m_cl m_tt m_P strs sx_bi (D + 1) 69 [.ref 22, .int xp, .int xq, .int xz] h r ∧ dd_Φ cst h (fun a => yk_a (ly_hv cst h 2816) (yk_m (ly_hv cst h 2304) (ly_hv cst h 2560) (ly_hv cst h 3328) (120 * min xp.toInt xq.toInt + max xp.toInt xq.toInt) xz.toInt) t a) r := by
  obtain ⟨M, hM, hl⟩ := hp_M (mi := 69) (k := 4) (by decide +kernel)
  have go : hp_F cst strs (dd_Φ cst h (fun a => yk_a (ly_hv cst h 2816) (yk_m (ly_hv cst h 2304) (ly_hv cst h 2560) (ly_hv cst h 3328) (120 * min xp.toInt xq.toInt + max xp.toInt xq.toInt) xz.toInt) t a)) D M 0 (lv_args 0 [.ref 22, .int xp, .int xq, .int xz]) [] h := by
    by_cases lt : xp.toInt < xq.toInt
    · rw [Int.min_eq_left (by omega), Int.max_eq_right (by omega)]
      exact yk0 c hM hD hy xp.toInt xq.toInt xz.toInt t p0 p1 y0 y1 xz.le_toInt xz.toInt_le t0 t1 (by omega) kt rfl ⟨xp, rfl, rfl⟩ ⟨xq, rfl, rfl⟩ ⟨xz, rfl, rfl⟩ (fun l' h2 u1 u2 u3 w0 w3 w4 w5 => yk_loop c hM (by omega) t0 t1 (by omega) (by omega) xz.le_toInt xz.toInt_le hy ((t - 1 + 1).toNat + 1) h2 l' (t - 1) (Nat.lt_succ_self _) (by omega) (by omega) u1 u2 (fun k k0 k1 => by omega) w0 w3 w4 w5)
    · rw [Int.min_eq_right (by omega), Int.max_eq_left (by omega)]
      exact yk1 c hM hD hy xp.toInt xq.toInt xz.toInt t p0 p1 y0 y1 xz.le_toInt xz.toInt_le t0 t1 (by omega) kt rfl ⟨xp, rfl, rfl⟩ ⟨xq, rfl, rfl⟩ ⟨xz, rfl, rfl⟩ (fun l' h2 u1 u2 u3 w0 w3 w4 w5 => yk_loop c hM (by omega) t0 t1 (by omega) (by omega) xz.le_toInt xz.toInt_le hy ((t - 1 + 1).toNat + 1) h2 l' (t - 1) (Nat.lt_succ_self _) (by omega) (by omega) u1 u2 (fun k k0 k1 => by omega) w0 w3 w4 w5)
  obtain ⟨n, r, hgo, a, r1, r2, r3, r4⟩ := go
  simp only [Nat.zero_add] at r2 r3
  exact ⟨r, Or.inr ⟨M, n, hM, hl, hgo⟩, a, r1, r2, r3, r4⟩
theorem yk_on {cst : am_K} {strs : List Nat} {D : Nat} {h : am_H} (c1 : hp_C cst strs D) (c : hp_C cst strs (D + 1)) (hD : (4 : Int) ≤ (D : Int) + 1) (hy : ly_hy m_tt ly_TH h) {xp xq xz : Int32} {t u : Int} (t0 : 0 ≤ t) (t1 : t ≤ 300) (kt : ly_hv cst h 1537 0 = some t) (u0 : 0 ≤ u) (u1 : u ≤ 120) (ku : ly_hv cst h 1536 0 = some u) :
    ∃ r, am_Run cst m_cl m_tt m_P strs sx_bi (D + 1 + 1) 68 [.ref 16, .int xp, .int xq, .int xz] h r ∧ dd_Φ cst h (fun a => (¬ yk_ok xp.toInt xq.toInt xz.toInt u → a = -2) ∧ (yk_ok xp.toInt xq.toInt xz.toInt u → yk_a (ly_hv cst h 2816) (yk_m (ly_hv cst h 2304) (ly_hv cst h 2560) (ly_hv cst h 3328) (120 * min xp.toInt xq.toInt + max xp.toInt xq.toInt) xz.toInt) t a)) r := by
  obtain ⟨M, hM, hl⟩ := hp_M (mi := 68) (k := 4) (by decide +kernel)
  have a0 := xp.le_toInt
  have a1 := xp.toInt_le
  have b0 := xq.le_toInt
  have b1 := xq.toInt_le
  have e0 := xz.le_toInt
  have e1 := xz.toInt_le
  have go : hp_F cst strs (dd_Φ cst h (fun a => (¬ yk_ok xp.toInt xq.toInt xz.toInt u → a = -2) ∧ (yk_ok xp.toInt xq.toInt xz.toInt u → yk_a (ly_hv cst h 2816) (yk_m (ly_hv cst h 2304) (ly_hv cst h 2560) (ly_hv cst h 3328) (120 * min xp.toInt xq.toInt + max xp.toInt xq.toInt) xz.toInt) t a))) (D + 1) M 0 (lv_args 0 [.ref 16, .int xp, .int xq, .int xz]) [] h := by
    have no : ¬ yk_ok xp.toInt xq.toInt xz.toInt u → ∀ (h2 : am_H) (w : Int32), w.toInt = -2 → ly_hy m_tt ly_TH h2 → ly_fr cst [] h h2 → h.length ≤ h2.length → dd_Φ cst h (fun a => (¬ yk_ok xp.toInt xq.toInt xz.toInt u → a = -2) ∧ (yk_ok xp.toInt xq.toInt xz.toInt u → yk_a (ly_hv cst h 2816) (yk_m (ly_hv cst h 2304) (ly_hv cst h 2560) (ly_hv cst h 3328) (120 * min xp.toInt xq.toInt + max xp.toInt xq.toInt) xz.toInt) t a)) (some (.int w), h2, 0, 0) := fun nk h2 w hw g1 g2 g3 => ⟨w, rfl, rfl, rfl, g1, g2, fun _ => hw, fun ok => absurd ok nk⟩
    by_cases p1 : xp.toInt ≤ -1
    · exact yko0 c hM (by omega) hy xp.toInt xq.toInt xz.toInt u a0 p1 b0 b1 e0 e1 u0 u1 ku rfl ⟨xp, rfl, rfl⟩ ⟨xq, rfl, rfl⟩ ⟨xz, rfl, rfl⟩ (no (fun k => by have := k.1; omega))
    by_cases p2 : u ≤ xp.toInt
    · exact yko1 c hM (by omega) hy xp.toInt xq.toInt xz.toInt u (by omega) a1 b0 b1 e0 e1 u0 u1 (by omega) ku rfl ⟨xp, rfl, rfl⟩ ⟨xq, rfl, rfl⟩ ⟨xz, rfl, rfl⟩ (no (fun k => by have := k.2.1; omega))
    by_cases p3 : xq.toInt ≤ -1
    · exact yko2 c hM (by omega) hy xp.toInt xq.toInt xz.toInt u (by omega) (by omega) b0 p3 e0 e1 u0 u1 (by omega) ku rfl ⟨xp, rfl, rfl⟩ ⟨xq, rfl, rfl⟩ ⟨xz, rfl, rfl⟩ (no (fun k => by have := k.2.2.1; omega))
    by_cases p4 : u ≤ xq.toInt
    · exact yko3 c hM (by omega) hy xp.toInt xq.toInt xz.toInt u (by omega) (by omega) (by omega) b1 e0 e1 u0 u1 (by omega) (by omega) ku rfl ⟨xp, rfl, rfl⟩ ⟨xq, rfl, rfl⟩ ⟨xz, rfl, rfl⟩ (no (fun k => by have := k.2.2.2.1; omega))
    by_cases p5 : xp.toInt = xq.toInt
    · exact yko4 c hM (by omega) hy xp.toInt xz.toInt u (by omega) (by omega) e0 e1 u0 u1 (by omega) ku rfl ⟨xp, rfl, rfl⟩ ⟨xq, rfl, p5.symm⟩ ⟨xz, rfl, rfl⟩ (no (fun k => k.2.2.2.2.1 p5))
    have ne : ly_hv cst h 61000 (xp.toInt - xq.toInt) = some 1 := hp_ne (by omega)
    by_cases p6 : xz.toInt ≤ -1
    · exact yko5 c hM (by omega) hy xp.toInt xq.toInt xz.toInt u (by omega) (by omega) (by omega) (by omega) e0 p6 u0 u1 (by omega) (by omega) ku ne rfl ⟨xp, rfl, rfl⟩ ⟨xq, rfl, rfl⟩ ⟨xz, rfl, rfl⟩ (no (fun k => by have := k.2.2.2.2.2.1; omega))
    by_cases p7 : 400 ≤ xz.toInt
    · exact yko6 c hM (by omega) hy xp.toInt xq.toInt xz.toInt u (by omega) (by omega) (by omega) (by omega) p7 e1 u0 u1 (by omega) (by omega) ku ne rfl ⟨xp, rfl, rfl⟩ ⟨xq, rfl, rfl⟩ ⟨xz, rfl, rfl⟩ (no (fun k => by have := k.2.2.2.2.2.2; omega))
    have ok : yk_ok xp.toInt xq.toInt xz.toInt u := ⟨by omega, by omega, by omega, by omega, p5, by omega, by omega⟩
    refine yko7 c hM (by omega) hy xp.toInt xq.toInt xz.toInt u (by omega) (by omega) (by omega) (by omega) (by omega) (by omega) u0 u1 (by omega) (by omega) ku ne rfl ⟨xp, rfl, rfl⟩ ⟨xq, rfl, rfl⟩ ⟨xz, rfl, rfl⟩ (fun l' h2 w0 w1 w2 f0 f1 f2 g1 g2 g3 j0 => ?_)
    have s0 : ly_hv cst h2 2304 = ly_hv cst h 2304 := hp_same (show ly_ths ly_TH 9 = some (.inl (.int, 300, -2147483648, 2147483647)) from rfl) rfl hy g1 g2
    have s1 : ly_hv cst h2 2560 = ly_hv cst h 2560 := hp_same (show ly_ths ly_TH 10 = some (.inl (.int, 300, -2147483648, 2147483647)) from rfl) rfl hy g1 g2
    have s2 : ly_hv cst h2 3328 = ly_hv cst h 3328 := hp_same (show ly_ths ly_TH 13 = some (.inl (.int, 300, -2147483648, 2147483647)) from rfl) rfl hy g1 g2
    have s3 : ly_hv cst h2 2816 = ly_hv cst h 2816 := hp_same (show ly_ths ly_TH 11 = some (.inl (.int, 300, -2147483648, 2147483647)) from rfl) rfl hy g1 g2
    obtain ⟨r, hrun, a, r1, r2, r3, rhy, rfr, ra⟩ := yk_run (xp := w2) (xq := w1) (xz := w0) c1 (by omega) g1 t0 t1 (g2 _ _ _ rfl kt) (by omega) (by omega) (by omega) (by omega) (by omega)
    refine hp_call (mi := 68) (pc := 44) (tg := 69) (na := 4) (c := 6) (ci := 2) (st0 := [.int w0, .int w1, .int w2, .ref 22]) (st := []) (av := [.int w2, .int w1, .int w0]) hM (by decide +kernel) g1 rfl rfl rfl (by decide) hrun r2 r3 ?_
    rw [r1]
    rw [f0, f1, f2, s0, s1, s2, s3] at ra
    exact yko8 c hM (by omega) rhy a.toInt a rfl a.le_toInt a.toInt_le j0 (fun h3 w hw v1 v2 v3 => ⟨w, rfl, rfl, rfl, v1, ly_fr_tr g2 (ly_fr_tr rfr v2), fun nk => absurd ok nk, fun _ => by rw [hw]; exact ra⟩)
  obtain ⟨n, r, hgo, a, r1, r2, r3, r4⟩ := go
  simp only [Nat.zero_add] at r2 r3
  exact ⟨r, Or.inr ⟨M, n, hM, hl, hgo⟩, a, r1, r2, r3, r4⟩
theorem yr_run {cst : am_K} {strs : List Nat} {D : Nat} {h : am_H} (c : hp_C cst strs D) (hD : (4 : Int) ≤ (D : Int) + 1) (hy : ly_hy m_tt ly_TH h) {xp xq xz : Int32} {t : Int} (t0 : 0 ≤ t) (t1 : t ≤ 300) (kt : ly_hv cst h 19982 0 = some t) (p0 : 0 ≤ xp.toInt) (p1 : xp.toInt ≤ 119) (y0 : 0 ≤ xq.toInt) (y1 : xq.toInt ≤ 119) (hne : xp.toInt ≠ xq.toInt) :
    ∃ r, am_Run cst m_cl m_tt m_P strs sx_bi (D + 1) 296 [.ref 94, .int xp, .int xq, .int xz] h r ∧ dd_Φ cst h (fun a => yk_a (ly_hv cst h 22016) (yr_m (ly_hv cst h 21248) (ly_hv cst h 21504) (ly_hv cst h 21760) (ly_hv cst h 22528) xp.toInt xq.toInt xz.toInt) t a) r := by
  obtain ⟨M, hM, hl⟩ := hp_M (mi := 296) (k := 4) (by decide +kernel)
  have go : hp_F cst strs (dd_Φ cst h (fun a => yk_a (ly_hv cst h 22016) (yr_m (ly_hv cst h 21248) (ly_hv cst h 21504) (ly_hv cst h 21760) (ly_hv cst h 22528) xp.toInt xq.toInt xz.toInt) t a)) D M 0 (lv_args 0 [.ref 94, .int xp, .int xq, .int xz]) [] h := by
    exact yr0 c hM (by omega) hy xp.toInt xq.toInt xz.toInt p0 p1 y0 y1 xz.le_toInt xz.toInt_le rfl ⟨xp, rfl, rfl⟩ ⟨xq, rfl, rfl⟩ ⟨xz, rfl, rfl⟩ (fun l' h2 u1 u2 u3 w0 w1 w2 w3 w4 w5 => yr_loop c hM (by omega) t0 t1 p0 p1 y0 y1 hne xz.le_toInt xz.toInt_le hy ((t - 0).toNat + 1) h2 l' 0 (-1) 0 (Nat.lt_succ_self _) (by omega) t0 u1 u2 (u2 _ _ _ rfl kt) (Or.inl ⟨rfl, fun k k0 k1 => by omega⟩) (Or.inl ⟨rfl, rfl⟩) (by omega) (by omega) w0 w1 w2 w3 w4 w5)
  obtain ⟨n, r, hgo, a, r1, r2, r3, r4⟩ := go
  simp only [Nat.zero_add] at r2 r3
  exact ⟨r, Or.inr ⟨M, n, hM, hl, hgo⟩, a, r1, r2, r3, r4⟩
theorem yr_on {cst : am_K} {strs : List Nat} {D : Nat} {h : am_H} (c1 : hp_C cst strs D) (c : hp_C cst strs (D + 1)) (hD : (4 : Int) ≤ (D : Int) + 1) (hy : ly_hy m_tt ly_TH h) {xp xq xz : Int32} {t u : Int} (t0 : 0 ≤ t) (t1 : t ≤ 300) (kt : ly_hv cst h 19982 0 = some t) (u0 : 0 ≤ u) (u1 : u ≤ 120) (ku : ly_hv cst h 19978 0 = some u) :
    ∃ r, am_Run cst m_cl m_tt m_P strs sx_bi (D + 1 + 1) 295 [.ref 94, .int xp, .int xq, .int xz] h r ∧ dd_Φ cst h (fun a => (¬ yk_ok xp.toInt xq.toInt xz.toInt u → a = -2) ∧ (yk_ok xp.toInt xq.toInt xz.toInt u → yk_a (ly_hv cst h 22016) (yr_m (ly_hv cst h 21248) (ly_hv cst h 21504) (ly_hv cst h 21760) (ly_hv cst h 22528) xp.toInt xq.toInt xz.toInt) t a)) r := by
  obtain ⟨M, hM, hl⟩ := hp_M (mi := 295) (k := 4) (by decide +kernel)
  have a0 := xp.le_toInt
  have a1 := xp.toInt_le
  have b0 := xq.le_toInt
  have b1 := xq.toInt_le
  have e0 := xz.le_toInt
  have e1 := xz.toInt_le
  have go : hp_F cst strs (dd_Φ cst h (fun a => (¬ yk_ok xp.toInt xq.toInt xz.toInt u → a = -2) ∧ (yk_ok xp.toInt xq.toInt xz.toInt u → yk_a (ly_hv cst h 22016) (yr_m (ly_hv cst h 21248) (ly_hv cst h 21504) (ly_hv cst h 21760) (ly_hv cst h 22528) xp.toInt xq.toInt xz.toInt) t a))) (D + 1) M 0 (lv_args 0 [.ref 94, .int xp, .int xq, .int xz]) [] h := by
    have no : ¬ yk_ok xp.toInt xq.toInt xz.toInt u → ∀ (h2 : am_H) (w : Int32), w.toInt = -2 → ly_hy m_tt ly_TH h2 → ly_fr cst [] h h2 → h.length ≤ h2.length → dd_Φ cst h (fun a => (¬ yk_ok xp.toInt xq.toInt xz.toInt u → a = -2) ∧ (yk_ok xp.toInt xq.toInt xz.toInt u → yk_a (ly_hv cst h 22016) (yr_m (ly_hv cst h 21248) (ly_hv cst h 21504) (ly_hv cst h 21760) (ly_hv cst h 22528) xp.toInt xq.toInt xz.toInt) t a)) (some (.int w), h2, 0, 0) := fun nk h2 w hw g1 g2 g3 => ⟨w, rfl, rfl, rfl, g1, g2, fun _ => hw, fun ok => absurd ok nk⟩
    by_cases p1 : xp.toInt ≤ -1
    · exact yro0 c hM (by omega) hy xp.toInt xq.toInt xz.toInt u a0 p1 b0 b1 e0 e1 u0 u1 ku rfl ⟨xp, rfl, rfl⟩ ⟨xq, rfl, rfl⟩ ⟨xz, rfl, rfl⟩ (no (fun k => by have := k.1; omega))
    by_cases p2 : u ≤ xp.toInt
    · exact yro1 c hM (by omega) hy xp.toInt xq.toInt xz.toInt u (by omega) a1 b0 b1 e0 e1 u0 u1 (by omega) ku rfl ⟨xp, rfl, rfl⟩ ⟨xq, rfl, rfl⟩ ⟨xz, rfl, rfl⟩ (no (fun k => by have := k.2.1; omega))
    by_cases p3 : xq.toInt ≤ -1
    · exact yro2 c hM (by omega) hy xp.toInt xq.toInt xz.toInt u (by omega) (by omega) b0 p3 e0 e1 u0 u1 (by omega) ku rfl ⟨xp, rfl, rfl⟩ ⟨xq, rfl, rfl⟩ ⟨xz, rfl, rfl⟩ (no (fun k => by have := k.2.2.1; omega))
    by_cases p4 : u ≤ xq.toInt
    · exact yro3 c hM (by omega) hy xp.toInt xq.toInt xz.toInt u (by omega) (by omega) (by omega) b1 e0 e1 u0 u1 (by omega) (by omega) ku rfl ⟨xp, rfl, rfl⟩ ⟨xq, rfl, rfl⟩ ⟨xz, rfl, rfl⟩ (no (fun k => by have := k.2.2.2.1; omega))
    by_cases p5 : xp.toInt = xq.toInt
    · exact yro4 c hM (by omega) hy xp.toInt xz.toInt u (by omega) (by omega) e0 e1 u0 u1 (by omega) ku rfl ⟨xp, rfl, rfl⟩ ⟨xq, rfl, p5.symm⟩ ⟨xz, rfl, rfl⟩ (no (fun k => k.2.2.2.2.1 p5))
    have ne : ly_hv cst h 61000 (xp.toInt - xq.toInt) = some 1 := hp_ne (by omega)
    by_cases p6 : xz.toInt ≤ -1
    · exact yro5 c hM (by omega) hy xp.toInt xq.toInt xz.toInt u (by omega) (by omega) (by omega) (by omega) e0 p6 u0 u1 (by omega) (by omega) ku ne rfl ⟨xp, rfl, rfl⟩ ⟨xq, rfl, rfl⟩ ⟨xz, rfl, rfl⟩ (no (fun k => by have := k.2.2.2.2.2.1; omega))
    by_cases p7 : 400 ≤ xz.toInt
    · exact yro6 c hM (by omega) hy xp.toInt xq.toInt xz.toInt u (by omega) (by omega) (by omega) (by omega) p7 e1 u0 u1 (by omega) (by omega) ku ne rfl ⟨xp, rfl, rfl⟩ ⟨xq, rfl, rfl⟩ ⟨xz, rfl, rfl⟩ (no (fun k => by have := k.2.2.2.2.2.2; omega))
    have ok : yk_ok xp.toInt xq.toInt xz.toInt u := ⟨by omega, by omega, by omega, by omega, p5, by omega, by omega⟩
    refine yro7 c hM (by omega) hy xp.toInt xq.toInt xz.toInt u (by omega) (by omega) (by omega) (by omega) (by omega) (by omega) u0 u1 (by omega) (by omega) ku ne rfl ⟨xp, rfl, rfl⟩ ⟨xq, rfl, rfl⟩ ⟨xz, rfl, rfl⟩ (fun l' h2 w0 w1 w2 f0 f1 f2 g1 g2 g3 j0 => ?_)
    have s0 : ly_hv cst h2 21248 = ly_hv cst h 21248 := hp_same (show ly_ths ly_TH 83 = some (.inl (.int, 300, -2147483648, 2147483647)) from rfl) rfl hy g1 g2
    have s1 : ly_hv cst h2 21504 = ly_hv cst h 21504 := hp_same (show ly_ths ly_TH 84 = some (.inl (.int, 300, -2147483648, 2147483647)) from rfl) rfl hy g1 g2
    have s2 : ly_hv cst h2 21760 = ly_hv cst h 21760 := hp_same (show ly_ths ly_TH 85 = some (.inl (.int, 300, -2147483648, 2147483647)) from rfl) rfl hy g1 g2
    have s3 : ly_hv cst h2 22528 = ly_hv cst h 22528 := hp_same (show ly_ths ly_TH 88 = some (.inl (.int, 300, -2147483648, 2147483647)) from rfl) rfl hy g1 g2
    have s4 : ly_hv cst h2 22016 = ly_hv cst h 22016 := hp_same (show ly_ths ly_TH 86 = some (.inl (.int, 300, -2147483648, 2147483647)) from rfl) rfl hy g1 g2
    obtain ⟨r, hrun, a, r1, r2, r3, rhy, rfr, ra⟩ := yr_run (xp := w2) (xq := w1) (xz := w0) c1 (by omega) g1 t0 t1 (g2 _ _ _ rfl kt) (by omega) (by omega) (by omega) (by omega) (by omega)
    refine hp_call (mi := 295) (pc := 32) (tg := 296) (na := 4) (c := 78) (ci := 12) (st0 := [.int w0, .int w1, .int w2, .ref 94]) (st := []) (av := [.int w2, .int w1, .int w0]) hM (by decide +kernel) g1 rfl rfl rfl (by decide) hrun r2 r3 ?_
    rw [r1]
    rw [f0, f1, f2, s0, s1, s2, s3, s4] at ra
    exact yro8 c hM (by omega) rhy a.toInt a rfl a.le_toInt a.toInt_le j0 (fun h3 w hw v1 v2 v3 => ⟨w, rfl, rfl, rfl, v1, ly_fr_tr g2 (ly_fr_tr rfr v2), fun nk => absurd ok nk, fun _ => by rw [hw]; exact ra⟩)
  obtain ⟨n, r, hgo, a, r1, r2, r3, r4⟩ := go
  simp only [Nat.zero_add] at r2 r3
  exact ⟨r, Or.inr ⟨M, n, hM, hl, hgo⟩, a, r1, r2, r3, r4⟩
