/-! PRINTED by wip/p2/hp_bond.py: bonds met, made and told: class and reference, exactly -/
theorem bm0_k : hp_chk 209 0 3 [(0, 0, 119), (1, 0, 5), (2, 0, 399)] [] [(0, .inr (.inr (.inl (some 59)))), (1, .inl (0, [(0, 1)])), (2, .inl (0, [(1, 1)])), (3, .inl (0, [(2, 1)]))] [] [] [] 2 [(6, ([], 3, [(0, 0, 119), (1, 0, 5), (2, 0, 399)], [], [(0, .inr (.inr (.inl (some 59)))), (1, .inl (0, [(0, 1)])), (2, .inl (0, [(1, 1)])), (3, .inl (0, [(2, 1)])), (4, .inl (0, [])), (5, .inl (0, []))], [], []))] [] = true := by decide +kernel
theorem bm0 {cst : am_K} {strs : List Nat} {Φ : am_Q → Prop} {D : Nat} {M : am_M} {h : am_H} {l : am_L} (c : hp_C cst strs D) (hM : m_P[209]? = some M) (hD : (2 : Int) ≤ (D : Int) + 1) (hy : ly_hy m_tt ly_TH h) (p s g : Int) (b0 : 0 ≤ p) (t0 : p ≤ 119) (b1 : 0 ≤ s) (t1 : s ≤ 5) (b2 : 0 ≤ g) (t2 : g ≤ 399) (l0 : hp_a l 0 59) (l1 : hp_i l 1 (p)) (l2 : hp_i l 2 (s)) (l3 : hp_i l 3 (g)) (e0 : ∀ (l' : am_L) (h' : am_H), ly_hy m_tt ly_TH h' → ly_fr cst [] h h' → h.length ≤ h'.length → hp_a l' 0 59 → hp_i l' 1 (p) → hp_i l' 2 (s) → hp_i l' 3 (g) → hp_i l' 4 0 → hp_i l' 5 0 → hp_F cst strs Φ D M 6 l' [] h') : hp_F cst strs Φ D M 0 l [] h := by
  refine hp_arc c hM bm0_k hD [p, s, g] rfl hy (hp_Bc (z := p) rfl b0 t0 (hp_Bc (z := s) rfl b1 t1 (hp_Bc (z := g) rfl b2 t2 hp_Bn))) hp_Fn hp_Kn (hp_La l0 (hp_Li (z := (0 + (1 * p + 0))) l1 rfl (by omega) (hp_Li (z := (0 + (1 * s + 0))) l2 rfl (by omega) (hp_Li (z := (0 + (1 * g + 0))) l3 rfl (by omega) hp_Ln)))) trivial ?_ ?_
  · intro p hp ys l' st' h' hys a1 a2 a3 gZ gL gS
    rcases List.mem_cons.mp hp with rfl | hp
    · obtain rfl := hp_y0 hys
      cases hp_gSn gS
      exact e0 l' h' a1 a2 a3 (hp_gLa gL (List.mem_of_getElem? (i := 0) rfl) (by decide)) (hp_gLi (z := (0 + (1 * p + 0))) gL (List.mem_of_getElem? (i := 1) rfl) rfl (by omega)) (hp_gLi (z := (0 + (1 * s + 0))) gL (List.mem_of_getElem? (i := 2) rfl) rfl (by omega)) (hp_gLi (z := (0 + (1 * g + 0))) gL (List.mem_of_getElem? (i := 3) rfl) rfl (by omega)) (hp_gLi (z := (0 + 0)) gL (List.mem_of_getElem? (i := 4) rfl) rfl (by omega)) (hp_gLi (z := (0 + 0)) gL (List.mem_of_getElem? (i := 5) rfl) rfl (by omega))
    cases hp
  · intro p hp ys v h' hys a1 a2 a3 gZ gS
    cases hp
theorem bma_k : hp_chk 209 6 7 [(0, 0, 119), (1, 0, 5), (2, 0, 399), (3, 0, 80), (4, 0, 80), (5, 0, 79), (6, (-2147483648), 2147483647)] [((-1), [(4, 1), (5, (-1))]), (0, [(3, (-1)), (5, 1)])] [(0, .inr (.inr (.inl (some 59)))), (1, .inl (0, [(0, 1)])), (2, .inl (0, [(1, 1)])), (3, .inl (0, [(2, 1)])), (4, .inl (0, [(3, 1)])), (5, .inl (0, [(5, 1)]))] [] [(11014, (0, []), (0, [(4, 1)])), (13824, (0, [(5, 1)]), (0, [(6, 1)])), (61000, (0, [(6, 1)]), (1, []))] [] 2 [(6, ([], 7, [(0, 0, 119), (1, 0, 5), (2, 0, 399), (3, 0, 80), (4, 0, 80), (5, 0, 79), (6, (-2147483648), 2147483647)], [], [(0, .inr (.inr (.inl (some 59)))), (1, .inl (0, [(0, 1)])), (2, .inl (0, [(1, 1)])), (3, .inl (0, [(2, 1)])), (4, .inl (0, [(3, 1)])), (5, .inl (1, [(5, 1)]))], [], []))] [] = true := by decide +kernel
theorem bma {cst : am_K} {strs : List Nat} {Φ : am_Q → Prop} {D : Nat} {M : am_M} {h : am_H} {l : am_L} (c : hp_C cst strs D) (hM : m_P[209]? = some M) (hD : (2 : Int) ≤ (D : Int) + 1) (hy : ly_hy m_tt ly_TH h) (p s g cn n i a : Int) (b0 : 0 ≤ p) (t0 : p ≤ 119) (b1 : 0 ≤ s) (t1 : s ≤ 5) (b2 : 0 ≤ g) (t2 : g ≤ 399) (b3 : 0 ≤ cn) (t3 : cn ≤ 80) (b4 : 0 ≤ n) (t4 : n ≤ 80) (b5 : 0 ≤ i) (t5 : i ≤ 79) (b6 : (-2147483648) ≤ a) (t6 : a ≤ 2147483647) (f0 : 0 ≤ (n - i - 1)) (f1 : 0 ≤ (i - cn)) (k0 : ly_hv cst h 11014 0 = some (n)) (k1 : ly_hv cst h 13824 (i) = some (a)) (k2 : ly_hv cst h 61000 (a) = some 1) (l0 : hp_a l 0 59) (l1 : hp_i l 1 (p)) (l2 : hp_i l 2 (s)) (l3 : hp_i l 3 (g)) (l4 : hp_i l 4 (cn)) (l5 : hp_i l 5 (i)) (e0 : ∀ (l' : am_L) (h' : am_H), ly_hy m_tt ly_TH h' → ly_fr cst [] h h' → h.length ≤ h'.length → hp_a l' 0 59 → hp_i l' 1 (p) → hp_i l' 2 (s) → hp_i l' 3 (g) → hp_i l' 4 (cn) → hp_i l' 5 (i + 1) → hp_F cst strs Φ D M 6 l' [] h') : hp_F cst strs Φ D M 6 l [] h := by
  refine hp_arc c hM bma_k hD [p, s, g, cn, n, i, a] rfl hy (hp_Bc (z := p) rfl b0 t0 (hp_Bc (z := s) rfl b1 t1 (hp_Bc (z := g) rfl b2 t2 (hp_Bc (z := cn) rfl b3 t3 (hp_Bc (z := n) rfl b4 t4 (hp_Bc (z := i) rfl b5 t5 (hp_Bc (z := a) rfl b6 t6 hp_Bn))))))) (hp_Fc (z := ((-1) + (1 * n + ((-1) * i + 0)))) rfl (by omega) (hp_Fc (z := (0 + ((-1) * cn + (1 * i + 0)))) rfl (by omega) hp_Fn)) (hp_Kc (zi := (0 + 0)) (zv := (0 + (1 * n + 0))) k0 rfl rfl (by omega) (by omega) (hp_Kc (zi := (0 + (1 * i + 0))) (zv := (0 + (1 * a + 0))) k1 rfl rfl (by omega) (by omega) (hp_Kc (zi := (0 + (1 * a + 0))) (zv := (1 + 0)) k2 rfl rfl (by omega) (by omega) hp_Kn))) (hp_La l0 (hp_Li (z := (0 + (1 * p + 0))) l1 rfl (by omega) (hp_Li (z := (0 + (1 * s + 0))) l2 rfl (by omega) (hp_Li (z := (0 + (1 * g + 0))) l3 rfl (by omega) (hp_Li (z := (0 + (1 * cn + 0))) l4 rfl (by omega) (hp_Li (z := (0 + (1 * i + 0))) l5 rfl (by omega) hp_Ln)))))) trivial ?_ ?_
  · intro p hp ys l' st' h' hys a1 a2 a3 gZ gL gS
    rcases List.mem_cons.mp hp with rfl | hp
    · obtain rfl := hp_y0 hys
      cases hp_gSn gS
      exact e0 l' h' a1 a2 a3 (hp_gLa gL (List.mem_of_getElem? (i := 0) rfl) (by decide)) (hp_gLi (z := (0 + (1 * p + 0))) gL (List.mem_of_getElem? (i := 1) rfl) rfl (by omega)) (hp_gLi (z := (0 + (1 * s + 0))) gL (List.mem_of_getElem? (i := 2) rfl) rfl (by omega)) (hp_gLi (z := (0 + (1 * g + 0))) gL (List.mem_of_getElem? (i := 3) rfl) rfl (by omega)) (hp_gLi (z := (0 + (1 * cn + 0))) gL (List.mem_of_getElem? (i := 4) rfl) rfl (by omega)) (hp_gLi (z := (1 + (1 * i + 0))) gL (List.mem_of_getElem? (i := 5) rfl) rfl (by omega))
    cases hp
  · intro p hp ys v h' hys a1 a2 a3 gZ gS
    cases hp
theorem bmb_k : hp_chk 209 6 7 [(0, 0, 119), (1, 0, 5), (2, 0, 399), (3, 0, 80), (4, 0, 80), (5, 0, 79), (6, (-2147483648), 2147483647)] [((-1), [(4, 1), (5, (-1))]), (0, [(3, (-1)), (5, 1)])] [(0, .inr (.inr (.inl (some 59)))), (1, .inl (0, [(0, 1)])), (2, .inl (0, [(1, 1)])), (3, .inl (0, [(2, 1)])), (4, .inl (0, [(3, 1)])), (5, .inl (0, [(5, 1)]))] [] [(11014, (0, []), (0, [(4, 1)])), (13824, (0, [(5, 1)]), (0, [])), (12544, (0, [(5, 1)]), (0, [(6, 1)])), (61000, (0, [(0, (-1)), (6, 1)]), (1, []))] [] 2 [(6, ([], 7, [(0, 0, 119), (1, 0, 5), (2, 0, 399), (3, 0, 80), (4, 0, 80), (5, 0, 79), (6, (-2147483648), 2147483647)], [], [(0, .inr (.inr (.inl (some 59)))), (1, .inl (0, [(0, 1)])), (2, .inl (0, [(1, 1)])), (3, .inl (0, [(2, 1)])), (4, .inl (0, [(3, 1)])), (5, .inl (1, [(5, 1)]))], [], []))] [] = true := by decide +kernel
theorem bmb {cst : am_K} {strs : List Nat} {Φ : am_Q → Prop} {D : Nat} {M : am_M} {h : am_H} {l : am_L} (c : hp_C cst strs D) (hM : m_P[209]? = some M) (hD : (2 : Int) ≤ (D : Int) + 1) (hy : ly_hy m_tt ly_TH h) (p s g cn n i a : Int) (b0 : 0 ≤ p) (t0 : p ≤ 119) (b1 : 0 ≤ s) (t1 : s ≤ 5) (b2 : 0 ≤ g) (t2 : g ≤ 399) (b3 : 0 ≤ cn) (t3 : cn ≤ 80) (b4 : 0 ≤ n) (t4 : n ≤ 80) (b5 : 0 ≤ i) (t5 : i ≤ 79) (b6 : (-2147483648) ≤ a) (t6 : a ≤ 2147483647) (f0 : 0 ≤ (n - i - 1)) (f1 : 0 ≤ (i - cn)) (k0 : ly_hv cst h 11014 0 = some (n)) (k1 : ly_hv cst h 13824 (i) = some 0) (k2 : ly_hv cst h 12544 (i) = some (a)) (k3 : ly_hv cst h 61000 (a - p) = some 1) (l0 : hp_a l 0 59) (l1 : hp_i l 1 (p)) (l2 : hp_i l 2 (s)) (l3 : hp_i l 3 (g)) (l4 : hp_i l 4 (cn)) (l5 : hp_i l 5 (i)) (e0 : ∀ (l' : am_L) (h' : am_H), ly_hy m_tt ly_TH h' → ly_fr cst [] h h' → h.length ≤ h'.length → hp_a l' 0 59 → hp_i l' 1 (p) → hp_i l' 2 (s) → hp_i l' 3 (g) → hp_i l' 4 (cn) → hp_i l' 5 (i + 1) → hp_F cst strs Φ D M 6 l' [] h') : hp_F cst strs Φ D M 6 l [] h := by
  refine hp_arc c hM bmb_k hD [p, s, g, cn, n, i, a] rfl hy (hp_Bc (z := p) rfl b0 t0 (hp_Bc (z := s) rfl b1 t1 (hp_Bc (z := g) rfl b2 t2 (hp_Bc (z := cn) rfl b3 t3 (hp_Bc (z := n) rfl b4 t4 (hp_Bc (z := i) rfl b5 t5 (hp_Bc (z := a) rfl b6 t6 hp_Bn))))))) (hp_Fc (z := ((-1) + (1 * n + ((-1) * i + 0)))) rfl (by omega) (hp_Fc (z := (0 + ((-1) * cn + (1 * i + 0)))) rfl (by omega) hp_Fn)) (hp_Kc (zi := (0 + 0)) (zv := (0 + (1 * n + 0))) k0 rfl rfl (by omega) (by omega) (hp_Kc (zi := (0 + (1 * i + 0))) (zv := (0 + 0)) k1 rfl rfl (by omega) (by omega) (hp_Kc (zi := (0 + (1 * i + 0))) (zv := (0 + (1 * a + 0))) k2 rfl rfl (by omega) (by omega) (hp_Kc (zi := (0 + ((-1) * p + (1 * a + 0)))) (zv := (1 + 0)) k3 rfl rfl (by omega) (by omega) hp_Kn)))) (hp_La l0 (hp_Li (z := (0 + (1 * p + 0))) l1 rfl (by omega) (hp_Li (z := (0 + (1 * s + 0))) l2 rfl (by omega) (hp_Li (z := (0 + (1 * g + 0))) l3 rfl (by omega) (hp_Li (z := (0 + (1 * cn + 0))) l4 rfl (by omega) (hp_Li (z := (0 + (1 * i + 0))) l5 rfl (by omega) hp_Ln)))))) trivial ?_ ?_
  · intro p hp ys l' st' h' hys a1 a2 a3 gZ gL gS
    rcases List.mem_cons.mp hp with rfl | hp
    · obtain rfl := hp_y0 hys
      cases hp_gSn gS
      exact e0 l' h' a1 a2 a3 (hp_gLa gL (List.mem_of_getElem? (i := 0) rfl) (by decide)) (hp_gLi (z := (0 + (1 * p + 0))) gL (List.mem_of_getElem? (i := 1) rfl) rfl (by omega)) (hp_gLi (z := (0 + (1 * s + 0))) gL (List.mem_of_getElem? (i := 2) rfl) rfl (by omega)) (hp_gLi (z := (0 + (1 * g + 0))) gL (List.mem_of_getElem? (i := 3) rfl) rfl (by omega)) (hp_gLi (z := (0 + (1 * cn + 0))) gL (List.mem_of_getElem? (i := 4) rfl) rfl (by omega)) (hp_gLi (z := (1 + (1 * i + 0))) gL (List.mem_of_getElem? (i := 5) rfl) rfl (by omega))
    cases hp
  · intro p hp ys v h' hys a1 a2 a3 gZ gS
    cases hp
theorem bmc_k : hp_chk 209 6 7 [(0, 0, 119), (1, 0, 5), (2, 0, 399), (3, 0, 80), (4, 0, 80), (5, 0, 79), (6, (-2147483648), 2147483647)] [((-1), [(4, 1), (5, (-1))]), (0, [(3, (-1)), (5, 1)])] [(0, .inr (.inr (.inl (some 59)))), (1, .inl (0, [(0, 1)])), (2, .inl (0, [(1, 1)])), (3, .inl (0, [(2, 1)])), (4, .inl (0, [(3, 1)])), (5, .inl (0, [(5, 1)]))] [] [(11014, (0, []), (0, [(4, 1)])), (13824, (0, [(5, 1)]), (0, [])), (12544, (0, [(5, 1)]), (0, [(0, 1)])), (12800, (0, [(5, 1)]), (0, [(6, 1)])), (61000, (0, [(1, (-1)), (6, 1)]), (1, []))] [] 2 [(6, ([], 7, [(0, 0, 119), (1, 0, 5), (2, 0, 399), (3, 0, 80), (4, 0, 80), (5, 0, 79), (6, (-2147483648), 2147483647)], [], [(0, .inr (.inr (.inl (some 59)))), (1, .inl (0, [(0, 1)])), (2, .inl (0, [(1, 1)])), (3, .inl (0, [(2, 1)])), (4, .inl (0, [(3, 1)])), (5, .inl (1, [(5, 1)]))], [], []))] [] = true := by decide +kernel
theorem bmc {cst : am_K} {strs : List Nat} {Φ : am_Q → Prop} {D : Nat} {M : am_M} {h : am_H} {l : am_L} (c : hp_C cst strs D) (hM : m_P[209]? = some M) (hD : (2 : Int) ≤ (D : Int) + 1) (hy : ly_hy m_tt ly_TH h) (p s g cn n i a : Int) (b0 : 0 ≤ p) (t0 : p ≤ 119) (b1 : 0 ≤ s) (t1 : s ≤ 5) (b2 : 0 ≤ g) (t2 : g ≤ 399) (b3 : 0 ≤ cn) (t3 : cn ≤ 80) (b4 : 0 ≤ n) (t4 : n ≤ 80) (b5 : 0 ≤ i) (t5 : i ≤ 79) (b6 : (-2147483648) ≤ a) (t6 : a ≤ 2147483647) (f0 : 0 ≤ (n - i - 1)) (f1 : 0 ≤ (i - cn)) (k0 : ly_hv cst h 11014 0 = some (n)) (k1 : ly_hv cst h 13824 (i) = some 0) (k2 : ly_hv cst h 12544 (i) = some (p)) (k3 : ly_hv cst h 12800 (i) = some (a)) (k4 : ly_hv cst h 61000 (a - s) = some 1) (l0 : hp_a l 0 59) (l1 : hp_i l 1 (p)) (l2 : hp_i l 2 (s)) (l3 : hp_i l 3 (g)) (l4 : hp_i l 4 (cn)) (l5 : hp_i l 5 (i)) (e0 : ∀ (l' : am_L) (h' : am_H), ly_hy m_tt ly_TH h' → ly_fr cst [] h h' → h.length ≤ h'.length → hp_a l' 0 59 → hp_i l' 1 (p) → hp_i l' 2 (s) → hp_i l' 3 (g) → hp_i l' 4 (cn) → hp_i l' 5 (i + 1) → hp_F cst strs Φ D M 6 l' [] h') : hp_F cst strs Φ D M 6 l [] h := by
  refine hp_arc c hM bmc_k hD [p, s, g, cn, n, i, a] rfl hy (hp_Bc (z := p) rfl b0 t0 (hp_Bc (z := s) rfl b1 t1 (hp_Bc (z := g) rfl b2 t2 (hp_Bc (z := cn) rfl b3 t3 (hp_Bc (z := n) rfl b4 t4 (hp_Bc (z := i) rfl b5 t5 (hp_Bc (z := a) rfl b6 t6 hp_Bn))))))) (hp_Fc (z := ((-1) + (1 * n + ((-1) * i + 0)))) rfl (by omega) (hp_Fc (z := (0 + ((-1) * cn + (1 * i + 0)))) rfl (by omega) hp_Fn)) (hp_Kc (zi := (0 + 0)) (zv := (0 + (1 * n + 0))) k0 rfl rfl (by omega) (by omega) (hp_Kc (zi := (0 + (1 * i + 0))) (zv := (0 + 0)) k1 rfl rfl (by omega) (by omega) (hp_Kc (zi := (0 + (1 * i + 0))) (zv := (0 + (1 * p + 0))) k2 rfl rfl (by omega) (by omega) (hp_Kc (zi := (0 + (1 * i + 0))) (zv := (0 + (1 * a + 0))) k3 rfl rfl (by omega) (by omega) (hp_Kc (zi := (0 + ((-1) * s + (1 * a + 0)))) (zv := (1 + 0)) k4 rfl rfl (by omega) (by omega) hp_Kn))))) (hp_La l0 (hp_Li (z := (0 + (1 * p + 0))) l1 rfl (by omega) (hp_Li (z := (0 + (1 * s + 0))) l2 rfl (by omega) (hp_Li (z := (0 + (1 * g + 0))) l3 rfl (by omega) (hp_Li (z := (0 + (1 * cn + 0))) l4 rfl (by omega) (hp_Li (z := (0 + (1 * i + 0))) l5 rfl (by omega) hp_Ln)))))) trivial ?_ ?_
  · intro p hp ys l' st' h' hys a1 a2 a3 gZ gL gS
    rcases List.mem_cons.mp hp with rfl | hp
    · obtain rfl := hp_y0 hys
      cases hp_gSn gS
      exact e0 l' h' a1 a2 a3 (hp_gLa gL (List.mem_of_getElem? (i := 0) rfl) (by decide)) (hp_gLi (z := (0 + (1 * p + 0))) gL (List.mem_of_getElem? (i := 1) rfl) rfl (by omega)) (hp_gLi (z := (0 + (1 * s + 0))) gL (List.mem_of_getElem? (i := 2) rfl) rfl (by omega)) (hp_gLi (z := (0 + (1 * g + 0))) gL (List.mem_of_getElem? (i := 3) rfl) rfl (by omega)) (hp_gLi (z := (0 + (1 * cn + 0))) gL (List.mem_of_getElem? (i := 4) rfl) rfl (by omega)) (hp_gLi (z := (1 + (1 * i + 0))) gL (List.mem_of_getElem? (i := 5) rfl) rfl (by omega))
    cases hp
  · intro p hp ys v h' hys a1 a2 a3 gZ gS
    cases hp
theorem bmd_k : hp_chk 209 6 8 [(0, 0, 119), (1, 0, 5), (2, 0, 399), (3, 0, 80), (4, 0, 80), (5, 0, 79), (6, (-2147483648), 2147483647), (7, (-2147483648), 2147483647)] [((-1), [(4, 1), (5, (-1))]), (0, [(3, (-1)), (5, 1)]), ((-1), [(2, (-1)), (6, 1)])] [(0, .inr (.inr (.inl (some 59)))), (1, .inl (0, [(0, 1)])), (2, .inl (0, [(1, 1)])), (3, .inl (0, [(2, 1)])), (4, .inl (0, [(3, 1)])), (5, .inl (0, [(5, 1)]))] [] [(11014, (0, []), (0, [(4, 1)])), (13824, (0, [(5, 1)]), (0, [])), (12544, (0, [(5, 1)]), (0, [(0, 1)])), (12800, (0, [(5, 1)]), (0, [(1, 1)])), (13056, (0, [(5, 1)]), (0, [(6, 1)])), (13312, (0, [(5, 1)]), (0, [(7, 1)]))] [] 4 [(6, ([], 8, [(0, 0, 119), (1, 0, 5), (2, 0, 399), (3, 0, 80), (4, 0, 80), (5, 0, 79), (6, (-2147483648), 2147483647), (7, (-2147483648), 2147483647)], [], [(0, .inr (.inr (.inl (some 59)))), (1, .inl (0, [(0, 1)])), (2, .inl (0, [(1, 1)])), (3, .inl (0, [(2, 1)])), (4, .inl (0, [(3, 1)])), (5, .inl (1, [(5, 1)]))], [], []))] [] = true := by decide +kernel
theorem bmd {cst : am_K} {strs : List Nat} {Φ : am_Q → Prop} {D : Nat} {M : am_M} {h : am_H} {l : am_L} (c : hp_C cst strs D) (hM : m_P[209]? = some M) (hD : (4 : Int) ≤ (D : Int) + 1) (hy : ly_hy m_tt ly_TH h) (p s g cn n i f e : Int) (b0 : 0 ≤ p) (t0 : p ≤ 119) (b1 : 0 ≤ s) (t1 : s ≤ 5) (b2 : 0 ≤ g) (t2 : g ≤ 399) (b3 : 0 ≤ cn) (t3 : cn ≤ 80) (b4 : 0 ≤ n) (t4 : n ≤ 80) (b5 : 0 ≤ i) (t5 : i ≤ 79) (b6 : (-2147483648) ≤ f) (t6 : f ≤ 2147483647) (b7 : (-2147483648) ≤ e) (t7 : e ≤ 2147483647) (f0 : 0 ≤ (n - i - 1)) (f1 : 0 ≤ (i - cn)) (f2 : 0 ≤ (f - g - 1)) (k0 : ly_hv cst h 11014 0 = some (n)) (k1 : ly_hv cst h 13824 (i) = some 0) (k2 : ly_hv cst h 12544 (i) = some (p)) (k3 : ly_hv cst h 12800 (i) = some (s)) (k4 : ly_hv cst h 13056 (i) = some (f)) (k5 : ly_hv cst h 13312 (i) = some (e)) (l0 : hp_a l 0 59) (l1 : hp_i l 1 (p)) (l2 : hp_i l 2 (s)) (l3 : hp_i l 3 (g)) (l4 : hp_i l 4 (cn)) (l5 : hp_i l 5 (i)) (e0 : ∀ (l' : am_L) (h' : am_H), ly_hy m_tt ly_TH h' → ly_fr cst [] h h' → h.length ≤ h'.length → hp_a l' 0 59 → hp_i l' 1 (p) → hp_i l' 2 (s) → hp_i l' 3 (g) → hp_i l' 4 (cn) → hp_i l' 5 (i + 1) → hp_F cst strs Φ D M 6 l' [] h') : hp_F cst strs Φ D M 6 l [] h := by
  refine hp_arc c hM bmd_k hD [p, s, g, cn, n, i, f, e] rfl hy (hp_Bc (z := p) rfl b0 t0 (hp_Bc (z := s) rfl b1 t1 (hp_Bc (z := g) rfl b2 t2 (hp_Bc (z := cn) rfl b3 t3 (hp_Bc (z := n) rfl b4 t4 (hp_Bc (z := i) rfl b5 t5 (hp_Bc (z := f) rfl b6 t6 (hp_Bc (z := e) rfl b7 t7 hp_Bn)))))))) (hp_Fc (z := ((-1) + (1 * n + ((-1) * i + 0)))) rfl (by omega) (hp_Fc (z := (0 + ((-1) * cn + (1 * i + 0)))) rfl (by omega) (hp_Fc (z := ((-1) + ((-1) * g + (1 * f + 0)))) rfl (by omega) hp_Fn))) (hp_Kc (zi := (0 + 0)) (zv := (0 + (1 * n + 0))) k0 rfl rfl (by omega) (by omega) (hp_Kc (zi := (0 + (1 * i + 0))) (zv := (0 + 0)) k1 rfl rfl (by omega) (by omega) (hp_Kc (zi := (0 + (1 * i + 0))) (zv := (0 + (1 * p + 0))) k2 rfl rfl (by omega) (by omega) (hp_Kc (zi := (0 + (1 * i + 0))) (zv := (0 + (1 * s + 0))) k3 rfl rfl (by omega) (by omega) (hp_Kc (zi := (0 + (1 * i + 0))) (zv := (0 + (1 * f + 0))) k4 rfl rfl (by omega) (by omega) (hp_Kc (zi := (0 + (1 * i + 0))) (zv := (0 + (1 * e + 0))) k5 rfl rfl (by omega) (by omega) hp_Kn)))))) (hp_La l0 (hp_Li (z := (0 + (1 * p + 0))) l1 rfl (by omega) (hp_Li (z := (0 + (1 * s + 0))) l2 rfl (by omega) (hp_Li (z := (0 + (1 * g + 0))) l3 rfl (by omega) (hp_Li (z := (0 + (1 * cn + 0))) l4 rfl (by omega) (hp_Li (z := (0 + (1 * i + 0))) l5 rfl (by omega) hp_Ln)))))) trivial ?_ ?_
  · intro p hp ys l' st' h' hys a1 a2 a3 gZ gL gS
    rcases List.mem_cons.mp hp with rfl | hp
    · obtain rfl := hp_y0 hys
      cases hp_gSn gS
      exact e0 l' h' a1 a2 a3 (hp_gLa gL (List.mem_of_getElem? (i := 0) rfl) (by decide)) (hp_gLi (z := (0 + (1 * p + 0))) gL (List.mem_of_getElem? (i := 1) rfl) rfl (by omega)) (hp_gLi (z := (0 + (1 * s + 0))) gL (List.mem_of_getElem? (i := 2) rfl) rfl (by omega)) (hp_gLi (z := (0 + (1 * g + 0))) gL (List.mem_of_getElem? (i := 3) rfl) rfl (by omega)) (hp_gLi (z := (0 + (1 * cn + 0))) gL (List.mem_of_getElem? (i := 4) rfl) rfl (by omega)) (hp_gLi (z := (1 + (1 * i + 0))) gL (List.mem_of_getElem? (i := 5) rfl) rfl (by omega))
    cases hp
  · intro p hp ys v h' hys a1 a2 a3 gZ gS
    cases hp
theorem bme_k : hp_chk 209 6 8 [(0, 0, 119), (1, 0, 5), (2, 0, 399), (3, 0, 80), (4, 0, 80), (5, 0, 79), (6, (-2147483648), 2147483647), (7, (-2147483648), 2147483647)] [((-1), [(4, 1), (5, (-1))]), (0, [(3, (-1)), (5, 1)]), (0, [(2, 1), (6, (-1))]), ((-1), [(2, 1), (7, (-1))])] [(0, .inr (.inr (.inl (some 59)))), (1, .inl (0, [(0, 1)])), (2, .inl (0, [(1, 1)])), (3, .inl (0, [(2, 1)])), (4, .inl (0, [(3, 1)])), (5, .inl (0, [(5, 1)]))] [] [(11014, (0, []), (0, [(4, 1)])), (13824, (0, [(5, 1)]), (0, [])), (12544, (0, [(5, 1)]), (0, [(0, 1)])), (12800, (0, [(5, 1)]), (0, [(1, 1)])), (13056, (0, [(5, 1)]), (0, [(6, 1)])), (13312, (0, [(5, 1)]), (0, [(7, 1)]))] [] 4 [(6, ([], 8, [(0, 0, 119), (1, 0, 5), (2, 0, 399), (3, 0, 80), (4, 0, 80), (5, 0, 79), (6, (-2147483648), 2147483647), (7, (-2147483648), 2147483647)], [], [(0, .inr (.inr (.inl (some 59)))), (1, .inl (0, [(0, 1)])), (2, .inl (0, [(1, 1)])), (3, .inl (0, [(2, 1)])), (4, .inl (0, [(3, 1)])), (5, .inl (1, [(5, 1)]))], [], []))] [] = true := by decide +kernel
theorem bme {cst : am_K} {strs : List Nat} {Φ : am_Q → Prop} {D : Nat} {M : am_M} {h : am_H} {l : am_L} (c : hp_C cst strs D) (hM : m_P[209]? = some M) (hD : (4 : Int) ≤ (D : Int) + 1) (hy : ly_hy m_tt ly_TH h) (p s g cn n i f e : Int) (b0 : 0 ≤ p) (t0 : p ≤ 119) (b1 : 0 ≤ s) (t1 : s ≤ 5) (b2 : 0 ≤ g) (t2 : g ≤ 399) (b3 : 0 ≤ cn) (t3 : cn ≤ 80) (b4 : 0 ≤ n) (t4 : n ≤ 80) (b5 : 0 ≤ i) (t5 : i ≤ 79) (b6 : (-2147483648) ≤ f) (t6 : f ≤ 2147483647) (b7 : (-2147483648) ≤ e) (t7 : e ≤ 2147483647) (f0 : 0 ≤ (n - i - 1)) (f1 : 0 ≤ (i - cn)) (f2 : 0 ≤ (g - f)) (f3 : 0 ≤ (g - e - 1)) (k0 : ly_hv cst h 11014 0 = some (n)) (k1 : ly_hv cst h 13824 (i) = some 0) (k2 : ly_hv cst h 12544 (i) = some (p)) (k3 : ly_hv cst h 12800 (i) = some (s)) (k4 : ly_hv cst h 13056 (i) = some (f)) (k5 : ly_hv cst h 13312 (i) = some (e)) (l0 : hp_a l 0 59) (l1 : hp_i l 1 (p)) (l2 : hp_i l 2 (s)) (l3 : hp_i l 3 (g)) (l4 : hp_i l 4 (cn)) (l5 : hp_i l 5 (i)) (e0 : ∀ (l' : am_L) (h' : am_H), ly_hy m_tt ly_TH h' → ly_fr cst [] h h' → h.length ≤ h'.length → hp_a l' 0 59 → hp_i l' 1 (p) → hp_i l' 2 (s) → hp_i l' 3 (g) → hp_i l' 4 (cn) → hp_i l' 5 (i + 1) → hp_F cst strs Φ D M 6 l' [] h') : hp_F cst strs Φ D M 6 l [] h := by
  refine hp_arc c hM bme_k hD [p, s, g, cn, n, i, f, e] rfl hy (hp_Bc (z := p) rfl b0 t0 (hp_Bc (z := s) rfl b1 t1 (hp_Bc (z := g) rfl b2 t2 (hp_Bc (z := cn) rfl b3 t3 (hp_Bc (z := n) rfl b4 t4 (hp_Bc (z := i) rfl b5 t5 (hp_Bc (z := f) rfl b6 t6 (hp_Bc (z := e) rfl b7 t7 hp_Bn)))))))) (hp_Fc (z := ((-1) + (1 * n + ((-1) * i + 0)))) rfl (by omega) (hp_Fc (z := (0 + ((-1) * cn + (1 * i + 0)))) rfl (by omega) (hp_Fc (z := (0 + (1 * g + ((-1) * f + 0)))) rfl (by omega) (hp_Fc (z := ((-1) + (1 * g + ((-1) * e + 0)))) rfl (by omega) hp_Fn)))) (hp_Kc (zi := (0 + 0)) (zv := (0 + (1 * n + 0))) k0 rfl rfl (by omega) (by omega) (hp_Kc (zi := (0 + (1 * i + 0))) (zv := (0 + 0)) k1 rfl rfl (by omega) (by omega) (hp_Kc (zi := (0 + (1 * i + 0))) (zv := (0 + (1 * p + 0))) k2 rfl rfl (by omega) (by omega) (hp_Kc (zi := (0 + (1 * i + 0))) (zv := (0 + (1 * s + 0))) k3 rfl rfl (by omega) (by omega) (hp_Kc (zi := (0 + (1 * i + 0))) (zv := (0 + (1 * f + 0))) k4 rfl rfl (by omega) (by omega) (hp_Kc (zi := (0 + (1 * i + 0))) (zv := (0 + (1 * e + 0))) k5 rfl rfl (by omega) (by omega) hp_Kn)))))) (hp_La l0 (hp_Li (z := (0 + (1 * p + 0))) l1 rfl (by omega) (hp_Li (z := (0 + (1 * s + 0))) l2 rfl (by omega) (hp_Li (z := (0 + (1 * g + 0))) l3 rfl (by omega) (hp_Li (z := (0 + (1 * cn + 0))) l4 rfl (by omega) (hp_Li (z := (0 + (1 * i + 0))) l5 rfl (by omega) hp_Ln)))))) trivial ?_ ?_
  · intro p hp ys l' st' h' hys a1 a2 a3 gZ gL gS
    rcases List.mem_cons.mp hp with rfl | hp
    · obtain rfl := hp_y0 hys
      cases hp_gSn gS
      exact e0 l' h' a1 a2 a3 (hp_gLa gL (List.mem_of_getElem? (i := 0) rfl) (by decide)) (hp_gLi (z := (0 + (1 * p + 0))) gL (List.mem_of_getElem? (i := 1) rfl) rfl (by omega)) (hp_gLi (z := (0 + (1 * s + 0))) gL (List.mem_of_getElem? (i := 2) rfl) rfl (by omega)) (hp_gLi (z := (0 + (1 * g + 0))) gL (List.mem_of_getElem? (i := 3) rfl) rfl (by omega)) (hp_gLi (z := (0 + (1 * cn + 0))) gL (List.mem_of_getElem? (i := 4) rfl) rfl (by omega)) (hp_gLi (z := (1 + (1 * i + 0))) gL (List.mem_of_getElem? (i := 5) rfl) rfl (by omega))
    cases hp
  · intro p hp ys v h' hys a1 a2 a3 gZ gS
    cases hp
theorem bmf_k : hp_chk 209 6 8 [(0, 0, 119), (1, 0, 5), (2, 0, 399), (3, 0, 80), (4, 0, 80), (5, 0, 79), (6, (-2147483648), 2147483647), (7, (-2147483648), 2147483647)] [((-1), [(4, 1), (5, (-1))]), (0, [(3, (-1)), (5, 1)]), (0, [(2, 1), (6, (-1))]), (0, [(2, (-1)), (7, 1)])] [(0, .inr (.inr (.inl (some 59)))), (1, .inl (0, [(0, 1)])), (2, .inl (0, [(1, 1)])), (3, .inl (0, [(2, 1)])), (4, .inl (0, [(3, 1)])), (5, .inl (0, [(5, 1)]))] [] [(11014, (0, []), (0, [(4, 1)])), (13824, (0, [(5, 1)]), (0, [])), (12544, (0, [(5, 1)]), (0, [(0, 1)])), (12800, (0, [(5, 1)]), (0, [(1, 1)])), (13056, (0, [(5, 1)]), (0, [(6, 1)])), (13312, (0, [(5, 1)]), (0, [(7, 1)]))] [] 4 [(75, ([], 8, [(0, 0, 119), (1, 0, 5), (2, 0, 399), (3, 0, 80), (4, 0, 80), (5, 0, 79), (6, (-2147483648), 2147483647), (7, (-2147483648), 2147483647)], [], [(0, .inr (.inr (.inl (some 59)))), (1, .inl (0, [(0, 1)])), (2, .inl (0, [(1, 1)])), (3, .inl (0, [(2, 1)])), (4, .inl (0, [(3, 1)])), (5, .inl (0, [(5, 1)]))], [.inl (1, []), .inl (0, [(5, 1)]), .inr (.inr (.inl (some 70)))], []))] [] = true := by decide +kernel
theorem bmf {cst : am_K} {strs : List Nat} {Φ : am_Q → Prop} {D : Nat} {M : am_M} {h : am_H} {l : am_L} (c : hp_C cst strs D) (hM : m_P[209]? = some M) (hD : (4 : Int) ≤ (D : Int) + 1) (hy : ly_hy m_tt ly_TH h) (p s g cn n i f e : Int) (b0 : 0 ≤ p) (t0 : p ≤ 119) (b1 : 0 ≤ s) (t1 : s ≤ 5) (b2 : 0 ≤ g) (t2 : g ≤ 399) (b3 : 0 ≤ cn) (t3 : cn ≤ 80) (b4 : 0 ≤ n) (t4 : n ≤ 80) (b5 : 0 ≤ i) (t5 : i ≤ 79) (b6 : (-2147483648) ≤ f) (t6 : f ≤ 2147483647) (b7 : (-2147483648) ≤ e) (t7 : e ≤ 2147483647) (f0 : 0 ≤ (n - i - 1)) (f1 : 0 ≤ (i - cn)) (f2 : 0 ≤ (g - f)) (f3 : 0 ≤ (e - g)) (k0 : ly_hv cst h 11014 0 = some (n)) (k1 : ly_hv cst h 13824 (i) = some 0) (k2 : ly_hv cst h 12544 (i) = some (p)) (k3 : ly_hv cst h 12800 (i) = some (s)) (k4 : ly_hv cst h 13056 (i) = some (f)) (k5 : ly_hv cst h 13312 (i) = some (e)) (l0 : hp_a l 0 59) (l1 : hp_i l 1 (p)) (l2 : hp_i l 2 (s)) (l3 : hp_i l 3 (g)) (l4 : hp_i l 4 (cn)) (l5 : hp_i l 5 (i)) (e0 : ∀ (l' : am_L) (h' : am_H) (y0 : Int32) (y1 : Int32), y0.toInt = 1 → y1.toInt = (i) → ly_hy m_tt ly_TH h' → ly_fr cst [] h h' → h.length ≤ h'.length → hp_a l' 0 59 → hp_i l' 1 (p) → hp_i l' 2 (s) → hp_i l' 3 (g) → hp_i l' 4 (cn) → hp_i l' 5 (i) → hp_F cst strs Φ D M 75 l' [.int y0, .int y1, .ref 70] h') : hp_F cst strs Φ D M 6 l [] h := by
  refine hp_arc c hM bmf_k hD [p, s, g, cn, n, i, f, e] rfl hy (hp_Bc (z := p) rfl b0 t0 (hp_Bc (z := s) rfl b1 t1 (hp_Bc (z := g) rfl b2 t2 (hp_Bc (z := cn) rfl b3 t3 (hp_Bc (z := n) rfl b4 t4 (hp_Bc (z := i) rfl b5 t5 (hp_Bc (z := f) rfl b6 t6 (hp_Bc (z := e) rfl b7 t7 hp_Bn)))))))) (hp_Fc (z := ((-1) + (1 * n + ((-1) * i + 0)))) rfl (by omega) (hp_Fc (z := (0 + ((-1) * cn + (1 * i + 0)))) rfl (by omega) (hp_Fc (z := (0 + (1 * g + ((-1) * f + 0)))) rfl (by omega) (hp_Fc (z := (0 + ((-1) * g + (1 * e + 0)))) rfl (by omega) hp_Fn)))) (hp_Kc (zi := (0 + 0)) (zv := (0 + (1 * n + 0))) k0 rfl rfl (by omega) (by omega) (hp_Kc (zi := (0 + (1 * i + 0))) (zv := (0 + 0)) k1 rfl rfl (by omega) (by omega) (hp_Kc (zi := (0 + (1 * i + 0))) (zv := (0 + (1 * p + 0))) k2 rfl rfl (by omega) (by omega) (hp_Kc (zi := (0 + (1 * i + 0))) (zv := (0 + (1 * s + 0))) k3 rfl rfl (by omega) (by omega) (hp_Kc (zi := (0 + (1 * i + 0))) (zv := (0 + (1 * f + 0))) k4 rfl rfl (by omega) (by omega) (hp_Kc (zi := (0 + (1 * i + 0))) (zv := (0 + (1 * e + 0))) k5 rfl rfl (by omega) (by omega) hp_Kn)))))) (hp_La l0 (hp_Li (z := (0 + (1 * p + 0))) l1 rfl (by omega) (hp_Li (z := (0 + (1 * s + 0))) l2 rfl (by omega) (hp_Li (z := (0 + (1 * g + 0))) l3 rfl (by omega) (hp_Li (z := (0 + (1 * cn + 0))) l4 rfl (by omega) (hp_Li (z := (0 + (1 * i + 0))) l5 rfl (by omega) hp_Ln)))))) trivial ?_ ?_
  · intro p hp ys l' st' h' hys a1 a2 a3 gZ gL gS
    rcases List.mem_cons.mp hp with rfl | hp
    · obtain rfl := hp_y0 hys
      obtain ⟨y0, t0, rfl, q0, g0⟩ := hp_gSi (z := (1 + 0)) gS rfl
      obtain ⟨y1, t1, rfl, q1, g1⟩ := hp_gSi (z := (0 + (1 * i + 0))) g0 rfl
      obtain ⟨t2, rfl, g2⟩ := hp_gSa g1 (by decide)
      cases hp_gSn g2
      exact e0 l' h' y0 y1 (by omega) (by omega) a1 a2 a3 (hp_gLa gL (List.mem_of_getElem? (i := 0) rfl) (by decide)) (hp_gLi (z := (0 + (1 * p + 0))) gL (List.mem_of_getElem? (i := 1) rfl) rfl (by omega)) (hp_gLi (z := (0 + (1 * s + 0))) gL (List.mem_of_getElem? (i := 2) rfl) rfl (by omega)) (hp_gLi (z := (0 + (1 * g + 0))) gL (List.mem_of_getElem? (i := 3) rfl) rfl (by omega)) (hp_gLi (z := (0 + (1 * cn + 0))) gL (List.mem_of_getElem? (i := 4) rfl) rfl (by omega)) (hp_gLi (z := (0 + (1 * i + 0))) gL (List.mem_of_getElem? (i := 5) rfl) rfl (by omega))
    cases hp
  · intro p hp ys v h' hys a1 a2 a3 gZ gS
    cases hp
theorem bmg_k : hp_chk 209 76 6 [(0, 0, 119), (1, 0, 5), (2, 0, 399), (3, 0, 80), (4, 0, 80), (5, 0, 79)] [((-1), [(4, 1), (5, (-1))]), (0, [(3, (-1)), (5, 1)])] [(0, .inr (.inr (.inl (some 59)))), (1, .inl (0, [(0, 1)])), (2, .inl (0, [(1, 1)])), (3, .inl (0, [(2, 1)])), (4, .inl (0, [(3, 1)])), (5, .inl (0, [(5, 1)]))] [] [] [] 2 [(6, ([], 6, [(0, 0, 119), (1, 0, 5), (2, 0, 399), (3, 0, 80), (4, 0, 80), (5, 0, 79)], [], [(0, .inr (.inr (.inl (some 59)))), (1, .inl (0, [(0, 1)])), (2, .inl (0, [(1, 1)])), (3, .inl (0, [(2, 1)])), (4, .inl (1, [(3, 1)])), (5, .inl (1, [(5, 1)]))], [], []))] [] = true := by decide +kernel
theorem bmg {cst : am_K} {strs : List Nat} {Φ : am_Q → Prop} {D : Nat} {M : am_M} {h : am_H} {l : am_L} (c : hp_C cst strs D) (hM : m_P[209]? = some M) (hD : (2 : Int) ≤ (D : Int) + 1) (hy : ly_hy m_tt ly_TH h) (p s g cn n i : Int) (b0 : 0 ≤ p) (t0 : p ≤ 119) (b1 : 0 ≤ s) (t1 : s ≤ 5) (b2 : 0 ≤ g) (t2 : g ≤ 399) (b3 : 0 ≤ cn) (t3 : cn ≤ 80) (b4 : 0 ≤ n) (t4 : n ≤ 80) (b5 : 0 ≤ i) (t5 : i ≤ 79) (f0 : 0 ≤ (n - i - 1)) (f1 : 0 ≤ (i - cn)) (l0 : hp_a l 0 59) (l1 : hp_i l 1 (p)) (l2 : hp_i l 2 (s)) (l3 : hp_i l 3 (g)) (l4 : hp_i l 4 (cn)) (l5 : hp_i l 5 (i)) (e0 : ∀ (l' : am_L) (h' : am_H), ly_hy m_tt ly_TH h' → ly_fr cst [] h h' → h.length ≤ h'.length → hp_a l' 0 59 → hp_i l' 1 (p) → hp_i l' 2 (s) → hp_i l' 3 (g) → hp_i l' 4 (cn + 1) → hp_i l' 5 (i + 1) → hp_F cst strs Φ D M 6 l' [] h') : hp_F cst strs Φ D M 76 l [] h := by
  refine hp_arc c hM bmg_k hD [p, s, g, cn, n, i] rfl hy (hp_Bc (z := p) rfl b0 t0 (hp_Bc (z := s) rfl b1 t1 (hp_Bc (z := g) rfl b2 t2 (hp_Bc (z := cn) rfl b3 t3 (hp_Bc (z := n) rfl b4 t4 (hp_Bc (z := i) rfl b5 t5 hp_Bn)))))) (hp_Fc (z := ((-1) + (1 * n + ((-1) * i + 0)))) rfl (by omega) (hp_Fc (z := (0 + ((-1) * cn + (1 * i + 0)))) rfl (by omega) hp_Fn)) hp_Kn (hp_La l0 (hp_Li (z := (0 + (1 * p + 0))) l1 rfl (by omega) (hp_Li (z := (0 + (1 * s + 0))) l2 rfl (by omega) (hp_Li (z := (0 + (1 * g + 0))) l3 rfl (by omega) (hp_Li (z := (0 + (1 * cn + 0))) l4 rfl (by omega) (hp_Li (z := (0 + (1 * i + 0))) l5 rfl (by omega) hp_Ln)))))) trivial ?_ ?_
  · intro p hp ys l' st' h' hys a1 a2 a3 gZ gL gS
    rcases List.mem_cons.mp hp with rfl | hp
    · obtain rfl := hp_y0 hys
      cases hp_gSn gS
      exact e0 l' h' a1 a2 a3 (hp_gLa gL (List.mem_of_getElem? (i := 0) rfl) (by decide)) (hp_gLi (z := (0 + (1 * p + 0))) gL (List.mem_of_getElem? (i := 1) rfl) rfl (by omega)) (hp_gLi (z := (0 + (1 * s + 0))) gL (List.mem_of_getElem? (i := 2) rfl) rfl (by omega)) (hp_gLi (z := (0 + (1 * g + 0))) gL (List.mem_of_getElem? (i := 3) rfl) rfl (by omega)) (hp_gLi (z := (1 + (1 * cn + 0))) gL (List.mem_of_getElem? (i := 4) rfl) rfl (by omega)) (hp_gLi (z := (1 + (1 * i + 0))) gL (List.mem_of_getElem? (i := 5) rfl) rfl (by omega))
    cases hp
  · intro p hp ys v h' hys a1 a2 a3 gZ gS
    cases hp
theorem bmh_k : hp_chk 209 6 5 [(0, 0, 119), (1, 0, 5), (2, 0, 399), (3, 0, 80), (4, 0, 80)] [] [(0, .inr (.inr (.inl (some 59)))), (1, .inl (0, [(0, 1)])), (2, .inl (0, [(1, 1)])), (3, .inl (0, [(2, 1)])), (4, .inl (0, [(3, 1)])), (5, .inl (0, [(4, 1)]))] [] [(11014, (0, []), (0, [(4, 1)]))] [] 2 [] [([], 5, [(0, 0, 119), (1, 0, 5), (2, 0, 399), (3, 0, 80), (4, 0, 80)], [], [], [.inl (0, [(3, 1)])], [])] = true := by decide +kernel
theorem bmh {cst : am_K} {strs : List Nat} {Φ : am_Q → Prop} {D : Nat} {M : am_M} {h : am_H} {l : am_L} (c : hp_C cst strs D) (hM : m_P[209]? = some M) (hD : (2 : Int) ≤ (D : Int) + 1) (hy : ly_hy m_tt ly_TH h) (p s g cn n : Int) (b0 : 0 ≤ p) (t0 : p ≤ 119) (b1 : 0 ≤ s) (t1 : s ≤ 5) (b2 : 0 ≤ g) (t2 : g ≤ 399) (b3 : 0 ≤ cn) (t3 : cn ≤ 80) (b4 : 0 ≤ n) (t4 : n ≤ 80) (k0 : ly_hv cst h 11014 0 = some (n)) (l0 : hp_a l 0 59) (l1 : hp_i l 1 (p)) (l2 : hp_i l 2 (s)) (l3 : hp_i l 3 (g)) (l4 : hp_i l 4 (cn)) (l5 : hp_i l 5 (n)) (r0 : ∀ (h' : am_H) (y0 : Int32), y0.toInt = (cn) → ly_hy m_tt ly_TH h' → ly_fr cst [] h h' → h.length ≤ h'.length → Φ (some (.int y0), h', 0, 0)) : hp_F cst strs Φ D M 6 l [] h := by
  refine hp_arc c hM bmh_k hD [p, s, g, cn, n] rfl hy (hp_Bc (z := p) rfl b0 t0 (hp_Bc (z := s) rfl b1 t1 (hp_Bc (z := g) rfl b2 t2 (hp_Bc (z := cn) rfl b3 t3 (hp_Bc (z := n) rfl b4 t4 hp_Bn))))) hp_Fn (hp_Kc (zi := (0 + 0)) (zv := (0 + (1 * n + 0))) k0 rfl rfl (by omega) (by omega) hp_Kn) (hp_La l0 (hp_Li (z := (0 + (1 * p + 0))) l1 rfl (by omega) (hp_Li (z := (0 + (1 * s + 0))) l2 rfl (by omega) (hp_Li (z := (0 + (1 * g + 0))) l3 rfl (by omega) (hp_Li (z := (0 + (1 * cn + 0))) l4 rfl (by omega) (hp_Li (z := (0 + (1 * n + 0))) l5 rfl (by omega) hp_Ln)))))) trivial ?_ ?_
  · intro p hp ys l' st' h' hys a1 a2 a3 gZ gL gS
    cases hp
  · intro p hp ys v h' hys a1 a2 a3 gZ gS
    rcases List.mem_cons.mp hp with rfl | hp
    · obtain rfl := hp_y0 hys
      cases v with
      | none => cases gS
      | some w =>
        obtain ⟨y0, t0, s0, q0, -⟩ := hp_gSi (z := (0 + (1 * cn + 0))) gS rfl
        cases s0
        exact r0 h' y0 (by omega) a1 a2 a3
    cases hp
theorem bna_k : hp_chk 388 23 7 [(0, 0, 119), (1, 0, 5), (2, 0, 399), (3, 0, 80), (4, 0, 80), (5, 0, 79), (6, (-2147483648), 2147483647)] [((-1), [(4, 1), (5, (-1))]), (0, [(3, (-1)), (5, 1)])] [(0, .inr (.inr (.inl (some 94)))), (1, .inl (0, [(0, 1)])), (2, .inl (0, [(1, 1)])), (3, .inl (0, [(3, 1)])), (4, .inl (0, [(5, 1)]))] [] [(20073, (0, []), (0, [(4, 1)])), (19977, (0, []), (0, [(2, 1)])), (40704, (0, [(5, 1)]), (0, [(6, 1)])), (61000, (0, [(6, 1)]), (1, []))] [] 2 [(23, ([], 7, [(0, 0, 119), (1, 0, 5), (2, 0, 399), (3, 0, 80), (4, 0, 80), (5, 0, 79), (6, (-2147483648), 2147483647)], [], [(0, .inr (.inr (.inl (some 94)))), (1, .inl (0, [(0, 1)])), (2, .inl (0, [(1, 1)])), (3, .inl (0, [(3, 1)])), (4, .inl (1, [(5, 1)]))], [], []))] [] = true := by decide +kernel
theorem bna {cst : am_K} {strs : List Nat} {Φ : am_Q → Prop} {D : Nat} {M : am_M} {h : am_H} {l : am_L} (c : hp_C cst strs D) (hM : m_P[388]? = some M) (hD : (2 : Int) ≤ (D : Int) + 1) (hy : ly_hy m_tt ly_TH h) (p s g cn n i a : Int) (b0 : 0 ≤ p) (t0 : p ≤ 119) (b1 : 0 ≤ s) (t1 : s ≤ 5) (b2 : 0 ≤ g) (t2 : g ≤ 399) (b3 : 0 ≤ cn) (t3 : cn ≤ 80) (b4 : 0 ≤ n) (t4 : n ≤ 80) (b5 : 0 ≤ i) (t5 : i ≤ 79) (b6 : (-2147483648) ≤ a) (t6 : a ≤ 2147483647) (f0 : 0 ≤ (n - i - 1)) (f1 : 0 ≤ (i - cn)) (k0 : ly_hv cst h 20073 0 = some (n)) (k1 : ly_hv cst h 19977 0 = some (g)) (k2 : ly_hv cst h 40704 (i) = some (a)) (k3 : ly_hv cst h 61000 (a) = some 1) (l0 : hp_a l 0 94) (l1 : hp_i l 1 (p)) (l2 : hp_i l 2 (s)) (l3 : hp_i l 3 (cn)) (l4 : hp_i l 4 (i)) (e0 : ∀ (l' : am_L) (h' : am_H), ly_hy m_tt ly_TH h' → ly_fr cst [] h h' → h.length ≤ h'.length → hp_a l' 0 94 → hp_i l' 1 (p) → hp_i l' 2 (s) → hp_i l' 3 (cn) → hp_i l' 4 (i + 1) → hp_F cst strs Φ D M 23 l' [] h') : hp_F cst strs Φ D M 23 l [] h := by
  refine hp_arc c hM bna_k hD [p, s, g, cn, n, i, a] rfl hy (hp_Bc (z := p) rfl b0 t0 (hp_Bc (z := s) rfl b1 t1 (hp_Bc (z := g) rfl b2 t2 (hp_Bc (z := cn) rfl b3 t3 (hp_Bc (z := n) rfl b4 t4 (hp_Bc (z := i) rfl b5 t5 (hp_Bc (z := a) rfl b6 t6 hp_Bn))))))) (hp_Fc (z := ((-1) + (1 * n + ((-1) * i + 0)))) rfl (by omega) (hp_Fc (z := (0 + ((-1) * cn + (1 * i + 0)))) rfl (by omega) hp_Fn)) (hp_Kc (zi := (0 + 0)) (zv := (0 + (1 * n + 0))) k0 rfl rfl (by omega) (by omega) (hp_Kc (zi := (0 + 0)) (zv := (0 + (1 * g + 0))) k1 rfl rfl (by omega) (by omega) (hp_Kc (zi := (0 + (1 * i + 0))) (zv := (0 + (1 * a + 0))) k2 rfl rfl (by omega) (by omega) (hp_Kc (zi := (0 + (1 * a + 0))) (zv := (1 + 0)) k3 rfl rfl (by omega) (by omega) hp_Kn)))) (hp_La l0 (hp_Li (z := (0 + (1 * p + 0))) l1 rfl (by omega) (hp_Li (z := (0 + (1 * s + 0))) l2 rfl (by omega) (hp_Li (z := (0 + (1 * cn + 0))) l3 rfl (by omega) (hp_Li (z := (0 + (1 * i + 0))) l4 rfl (by omega) hp_Ln))))) trivial ?_ ?_
  · intro p hp ys l' st' h' hys a1 a2 a3 gZ gL gS
    rcases List.mem_cons.mp hp with rfl | hp
    · obtain rfl := hp_y0 hys
      cases hp_gSn gS
      exact e0 l' h' a1 a2 a3 (hp_gLa gL (List.mem_of_getElem? (i := 0) rfl) (by decide)) (hp_gLi (z := (0 + (1 * p + 0))) gL (List.mem_of_getElem? (i := 1) rfl) rfl (by omega)) (hp_gLi (z := (0 + (1 * s + 0))) gL (List.mem_of_getElem? (i := 2) rfl) rfl (by omega)) (hp_gLi (z := (0 + (1 * cn + 0))) gL (List.mem_of_getElem? (i := 3) rfl) rfl (by omega)) (hp_gLi (z := (1 + (1 * i + 0))) gL (List.mem_of_getElem? (i := 4) rfl) rfl (by omega))
    cases hp
  · intro p hp ys v h' hys a1 a2 a3 gZ gS
    cases hp
theorem bnb_k : hp_chk 388 23 7 [(0, 0, 119), (1, 0, 5), (2, 0, 399), (3, 0, 80), (4, 0, 80), (5, 0, 79), (6, (-2147483648), 2147483647)] [((-1), [(4, 1), (5, (-1))]), (0, [(3, (-1)), (5, 1)])] [(0, .inr (.inr (.inl (some 94)))), (1, .inl (0, [(0, 1)])), (2, .inl (0, [(1, 1)])), (3, .inl (0, [(3, 1)])), (4, .inl (0, [(5, 1)]))] [] [(20073, (0, []), (0, [(4, 1)])), (19977, (0, []), (0, [(2, 1)])), (40704, (0, [(5, 1)]), (0, [])), (39424, (0, [(5, 1)]), (0, [(6, 1)])), (61000, (0, [(0, (-1)), (6, 1)]), (1, []))] [] 2 [(23, ([], 7, [(0, 0, 119), (1, 0, 5), (2, 0, 399), (3, 0, 80), (4, 0, 80), (5, 0, 79), (6, (-2147483648), 2147483647)], [], [(0, .inr (.inr (.inl (some 94)))), (1, .inl (0, [(0, 1)])), (2, .inl (0, [(1, 1)])), (3, .inl (0, [(3, 1)])), (4, .inl (1, [(5, 1)]))], [], []))] [] = true := by decide +kernel
theorem bnb {cst : am_K} {strs : List Nat} {Φ : am_Q → Prop} {D : Nat} {M : am_M} {h : am_H} {l : am_L} (c : hp_C cst strs D) (hM : m_P[388]? = some M) (hD : (2 : Int) ≤ (D : Int) + 1) (hy : ly_hy m_tt ly_TH h) (p s g cn n i a : Int) (b0 : 0 ≤ p) (t0 : p ≤ 119) (b1 : 0 ≤ s) (t1 : s ≤ 5) (b2 : 0 ≤ g) (t2 : g ≤ 399) (b3 : 0 ≤ cn) (t3 : cn ≤ 80) (b4 : 0 ≤ n) (t4 : n ≤ 80) (b5 : 0 ≤ i) (t5 : i ≤ 79) (b6 : (-2147483648) ≤ a) (t6 : a ≤ 2147483647) (f0 : 0 ≤ (n - i - 1)) (f1 : 0 ≤ (i - cn)) (k0 : ly_hv cst h 20073 0 = some (n)) (k1 : ly_hv cst h 19977 0 = some (g)) (k2 : ly_hv cst h 40704 (i) = some 0) (k3 : ly_hv cst h 39424 (i) = some (a)) (k4 : ly_hv cst h 61000 (a - p) = some 1) (l0 : hp_a l 0 94) (l1 : hp_i l 1 (p)) (l2 : hp_i l 2 (s)) (l3 : hp_i l 3 (cn)) (l4 : hp_i l 4 (i)) (e0 : ∀ (l' : am_L) (h' : am_H), ly_hy m_tt ly_TH h' → ly_fr cst [] h h' → h.length ≤ h'.length → hp_a l' 0 94 → hp_i l' 1 (p) → hp_i l' 2 (s) → hp_i l' 3 (cn) → hp_i l' 4 (i + 1) → hp_F cst strs Φ D M 23 l' [] h') : hp_F cst strs Φ D M 23 l [] h := by
  refine hp_arc c hM bnb_k hD [p, s, g, cn, n, i, a] rfl hy (hp_Bc (z := p) rfl b0 t0 (hp_Bc (z := s) rfl b1 t1 (hp_Bc (z := g) rfl b2 t2 (hp_Bc (z := cn) rfl b3 t3 (hp_Bc (z := n) rfl b4 t4 (hp_Bc (z := i) rfl b5 t5 (hp_Bc (z := a) rfl b6 t6 hp_Bn))))))) (hp_Fc (z := ((-1) + (1 * n + ((-1) * i + 0)))) rfl (by omega) (hp_Fc (z := (0 + ((-1) * cn + (1 * i + 0)))) rfl (by omega) hp_Fn)) (hp_Kc (zi := (0 + 0)) (zv := (0 + (1 * n + 0))) k0 rfl rfl (by omega) (by omega) (hp_Kc (zi := (0 + 0)) (zv := (0 + (1 * g + 0))) k1 rfl rfl (by omega) (by omega) (hp_Kc (zi := (0 + (1 * i + 0))) (zv := (0 + 0)) k2 rfl rfl (by omega) (by omega) (hp_Kc (zi := (0 + (1 * i + 0))) (zv := (0 + (1 * a + 0))) k3 rfl rfl (by omega) (by omega) (hp_Kc (zi := (0 + ((-1) * p + (1 * a + 0)))) (zv := (1 + 0)) k4 rfl rfl (by omega) (by omega) hp_Kn))))) (hp_La l0 (hp_Li (z := (0 + (1 * p + 0))) l1 rfl (by omega) (hp_Li (z := (0 + (1 * s + 0))) l2 rfl (by omega) (hp_Li (z := (0 + (1 * cn + 0))) l3 rfl (by omega) (hp_Li (z := (0 + (1 * i + 0))) l4 rfl (by omega) hp_Ln))))) trivial ?_ ?_
  · intro p hp ys l' st' h' hys a1 a2 a3 gZ gL gS
    rcases List.mem_cons.mp hp with rfl | hp
    · obtain rfl := hp_y0 hys
      cases hp_gSn gS
      exact e0 l' h' a1 a2 a3 (hp_gLa gL (List.mem_of_getElem? (i := 0) rfl) (by decide)) (hp_gLi (z := (0 + (1 * p + 0))) gL (List.mem_of_getElem? (i := 1) rfl) rfl (by omega)) (hp_gLi (z := (0 + (1 * s + 0))) gL (List.mem_of_getElem? (i := 2) rfl) rfl (by omega)) (hp_gLi (z := (0 + (1 * cn + 0))) gL (List.mem_of_getElem? (i := 3) rfl) rfl (by omega)) (hp_gLi (z := (1 + (1 * i + 0))) gL (List.mem_of_getElem? (i := 4) rfl) rfl (by omega))
    cases hp
  · intro p hp ys v h' hys a1 a2 a3 gZ gS
    cases hp
theorem bnc_k : hp_chk 388 23 7 [(0, 0, 119), (1, 0, 5), (2, 0, 399), (3, 0, 80), (4, 0, 80), (5, 0, 79), (6, (-2147483648), 2147483647)] [((-1), [(4, 1), (5, (-1))]), (0, [(3, (-1)), (5, 1)])] [(0, .inr (.inr (.inl (some 94)))), (1, .inl (0, [(0, 1)])), (2, .inl (0, [(1, 1)])), (3, .inl (0, [(3, 1)])), (4, .inl (0, [(5, 1)]))] [] [(20073, (0, []), (0, [(4, 1)])), (19977, (0, []), (0, [(2, 1)])), (40704, (0, [(5, 1)]), (0, [])), (39424, (0, [(5, 1)]), (0, [(0, 1)])), (39680, (0, [(5, 1)]), (0, [(6, 1)])), (61000, (0, [(1, (-1)), (6, 1)]), (1, []))] [] 2 [(23, ([], 7, [(0, 0, 119), (1, 0, 5), (2, 0, 399), (3, 0, 80), (4, 0, 80), (5, 0, 79), (6, (-2147483648), 2147483647)], [], [(0, .inr (.inr (.inl (some 94)))), (1, .inl (0, [(0, 1)])), (2, .inl (0, [(1, 1)])), (3, .inl (0, [(3, 1)])), (4, .inl (1, [(5, 1)]))], [], []))] [] = true := by decide +kernel
theorem bnc {cst : am_K} {strs : List Nat} {Φ : am_Q → Prop} {D : Nat} {M : am_M} {h : am_H} {l : am_L} (c : hp_C cst strs D) (hM : m_P[388]? = some M) (hD : (2 : Int) ≤ (D : Int) + 1) (hy : ly_hy m_tt ly_TH h) (p s g cn n i a : Int) (b0 : 0 ≤ p) (t0 : p ≤ 119) (b1 : 0 ≤ s) (t1 : s ≤ 5) (b2 : 0 ≤ g) (t2 : g ≤ 399) (b3 : 0 ≤ cn) (t3 : cn ≤ 80) (b4 : 0 ≤ n) (t4 : n ≤ 80) (b5 : 0 ≤ i) (t5 : i ≤ 79) (b6 : (-2147483648) ≤ a) (t6 : a ≤ 2147483647) (f0 : 0 ≤ (n - i - 1)) (f1 : 0 ≤ (i - cn)) (k0 : ly_hv cst h 20073 0 = some (n)) (k1 : ly_hv cst h 19977 0 = some (g)) (k2 : ly_hv cst h 40704 (i) = some 0) (k3 : ly_hv cst h 39424 (i) = some (p)) (k4 : ly_hv cst h 39680 (i) = some (a)) (k5 : ly_hv cst h 61000 (a - s) = some 1) (l0 : hp_a l 0 94) (l1 : hp_i l 1 (p)) (l2 : hp_i l 2 (s)) (l3 : hp_i l 3 (cn)) (l4 : hp_i l 4 (i)) (e0 : ∀ (l' : am_L) (h' : am_H), ly_hy m_tt ly_TH h' → ly_fr cst [] h h' → h.length ≤ h'.length → hp_a l' 0 94 → hp_i l' 1 (p) → hp_i l' 2 (s) → hp_i l' 3 (cn) → hp_i l' 4 (i + 1) → hp_F cst strs Φ D M 23 l' [] h') : hp_F cst strs Φ D M 23 l [] h := by
  refine hp_arc c hM bnc_k hD [p, s, g, cn, n, i, a] rfl hy (hp_Bc (z := p) rfl b0 t0 (hp_Bc (z := s) rfl b1 t1 (hp_Bc (z := g) rfl b2 t2 (hp_Bc (z := cn) rfl b3 t3 (hp_Bc (z := n) rfl b4 t4 (hp_Bc (z := i) rfl b5 t5 (hp_Bc (z := a) rfl b6 t6 hp_Bn))))))) (hp_Fc (z := ((-1) + (1 * n + ((-1) * i + 0)))) rfl (by omega) (hp_Fc (z := (0 + ((-1) * cn + (1 * i + 0)))) rfl (by omega) hp_Fn)) (hp_Kc (zi := (0 + 0)) (zv := (0 + (1 * n + 0))) k0 rfl rfl (by omega) (by omega) (hp_Kc (zi := (0 + 0)) (zv := (0 + (1 * g + 0))) k1 rfl rfl (by omega) (by omega) (hp_Kc (zi := (0 + (1 * i + 0))) (zv := (0 + 0)) k2 rfl rfl (by omega) (by omega) (hp_Kc (zi := (0 + (1 * i + 0))) (zv := (0 + (1 * p + 0))) k3 rfl rfl (by omega) (by omega) (hp_Kc (zi := (0 + (1 * i + 0))) (zv := (0 + (1 * a + 0))) k4 rfl rfl (by omega) (by omega) (hp_Kc (zi := (0 + ((-1) * s + (1 * a + 0)))) (zv := (1 + 0)) k5 rfl rfl (by omega) (by omega) hp_Kn)))))) (hp_La l0 (hp_Li (z := (0 + (1 * p + 0))) l1 rfl (by omega) (hp_Li (z := (0 + (1 * s + 0))) l2 rfl (by omega) (hp_Li (z := (0 + (1 * cn + 0))) l3 rfl (by omega) (hp_Li (z := (0 + (1 * i + 0))) l4 rfl (by omega) hp_Ln))))) trivial ?_ ?_
  · intro p hp ys l' st' h' hys a1 a2 a3 gZ gL gS
    rcases List.mem_cons.mp hp with rfl | hp
    · obtain rfl := hp_y0 hys
      cases hp_gSn gS
      exact e0 l' h' a1 a2 a3 (hp_gLa gL (List.mem_of_getElem? (i := 0) rfl) (by decide)) (hp_gLi (z := (0 + (1 * p + 0))) gL (List.mem_of_getElem? (i := 1) rfl) rfl (by omega)) (hp_gLi (z := (0 + (1 * s + 0))) gL (List.mem_of_getElem? (i := 2) rfl) rfl (by omega)) (hp_gLi (z := (0 + (1 * cn + 0))) gL (List.mem_of_getElem? (i := 3) rfl) rfl (by omega)) (hp_gLi (z := (1 + (1 * i + 0))) gL (List.mem_of_getElem? (i := 4) rfl) rfl (by omega))
    cases hp
  · intro p hp ys v h' hys a1 a2 a3 gZ gS
    cases hp
theorem bnd_k : hp_chk 388 23 8 [(0, 0, 119), (1, 0, 5), (2, 0, 399), (3, 0, 80), (4, 0, 80), (5, 0, 79), (6, (-2147483648), 2147483647), (7, (-2147483648), 2147483647)] [((-1), [(4, 1), (5, (-1))]), (0, [(3, (-1)), (5, 1)]), ((-1), [(2, (-1)), (6, 1)])] [(0, .inr (.inr (.inl (some 94)))), (1, .inl (0, [(0, 1)])), (2, .inl (0, [(1, 1)])), (3, .inl (0, [(3, 1)])), (4, .inl (0, [(5, 1)]))] [] [(20073, (0, []), (0, [(4, 1)])), (19977, (0, []), (0, [(2, 1)])), (40704, (0, [(5, 1)]), (0, [])), (39424, (0, [(5, 1)]), (0, [(0, 1)])), (39680, (0, [(5, 1)]), (0, [(1, 1)])), (39936, (0, [(5, 1)]), (0, [(6, 1)])), (40192, (0, [(5, 1)]), (0, [(7, 1)]))] [] 4 [(23, ([], 8, [(0, 0, 119), (1, 0, 5), (2, 0, 399), (3, 0, 80), (4, 0, 80), (5, 0, 79), (6, (-2147483648), 2147483647), (7, (-2147483648), 2147483647)], [], [(0, .inr (.inr (.inl (some 94)))), (1, .inl (0, [(0, 1)])), (2, .inl (0, [(1, 1)])), (3, .inl (0, [(3, 1)])), (4, .inl (1, [(5, 1)]))], [], []))] [] = true := by decide +kernel
theorem bnd {cst : am_K} {strs : List Nat} {Φ : am_Q → Prop} {D : Nat} {M : am_M} {h : am_H} {l : am_L} (c : hp_C cst strs D) (hM : m_P[388]? = some M) (hD : (4 : Int) ≤ (D : Int) + 1) (hy : ly_hy m_tt ly_TH h) (p s g cn n i f e : Int) (b0 : 0 ≤ p) (t0 : p ≤ 119) (b1 : 0 ≤ s) (t1 : s ≤ 5) (b2 : 0 ≤ g) (t2 : g ≤ 399) (b3 : 0 ≤ cn) (t3 : cn ≤ 80) (b4 : 0 ≤ n) (t4 : n ≤ 80) (b5 : 0 ≤ i) (t5 : i ≤ 79) (b6 : (-2147483648) ≤ f) (t6 : f ≤ 2147483647) (b7 : (-2147483648) ≤ e) (t7 : e ≤ 2147483647) (f0 : 0 ≤ (n - i - 1)) (f1 : 0 ≤ (i - cn)) (f2 : 0 ≤ (f - g - 1)) (k0 : ly_hv cst h 20073 0 = some (n)) (k1 : ly_hv cst h 19977 0 = some (g)) (k2 : ly_hv cst h 40704 (i) = some 0) (k3 : ly_hv cst h 39424 (i) = some (p)) (k4 : ly_hv cst h 39680 (i) = some (s)) (k5 : ly_hv cst h 39936 (i) = some (f)) (k6 : ly_hv cst h 40192 (i) = some (e)) (l0 : hp_a l 0 94) (l1 : hp_i l 1 (p)) (l2 : hp_i l 2 (s)) (l3 : hp_i l 3 (cn)) (l4 : hp_i l 4 (i)) (e0 : ∀ (l' : am_L) (h' : am_H), ly_hy m_tt ly_TH h' → ly_fr cst [] h h' → h.length ≤ h'.length → hp_a l' 0 94 → hp_i l' 1 (p) → hp_i l' 2 (s) → hp_i l' 3 (cn) → hp_i l' 4 (i + 1) → hp_F cst strs Φ D M 23 l' [] h') : hp_F cst strs Φ D M 23 l [] h := by
  refine hp_arc c hM bnd_k hD [p, s, g, cn, n, i, f, e] rfl hy (hp_Bc (z := p) rfl b0 t0 (hp_Bc (z := s) rfl b1 t1 (hp_Bc (z := g) rfl b2 t2 (hp_Bc (z := cn) rfl b3 t3 (hp_Bc (z := n) rfl b4 t4 (hp_Bc (z := i) rfl b5 t5 (hp_Bc (z := f) rfl b6 t6 (hp_Bc (z := e) rfl b7 t7 hp_Bn)))))))) (hp_Fc (z := ((-1) + (1 * n + ((-1) * i + 0)))) rfl (by omega) (hp_Fc (z := (0 + ((-1) * cn + (1 * i + 0)))) rfl (by omega) (hp_Fc (z := ((-1) + ((-1) * g + (1 * f + 0)))) rfl (by omega) hp_Fn))) (hp_Kc (zi := (0 + 0)) (zv := (0 + (1 * n + 0))) k0 rfl rfl (by omega) (by omega) (hp_Kc (zi := (0 + 0)) (zv := (0 + (1 * g + 0))) k1 rfl rfl (by omega) (by omega) (hp_Kc (zi := (0 + (1 * i + 0))) (zv := (0 + 0)) k2 rfl rfl (by omega) (by omega) (hp_Kc (zi := (0 + (1 * i + 0))) (zv := (0 + (1 * p + 0))) k3 rfl rfl (by omega) (by omega) (hp_Kc (zi := (0 + (1 * i + 0))) (zv := (0 + (1 * s + 0))) k4 rfl rfl (by omega) (by omega) (hp_Kc (zi := (0 + (1 * i + 0))) (zv := (0 + (1 * f + 0))) k5 rfl rfl (by omega) (by omega) (hp_Kc (zi := (0 + (1 * i + 0))) (zv := (0 + (1 * e + 0))) k6 rfl rfl (by omega) (by omega) hp_Kn))))))) (hp_La l0 (hp_Li (z := (0 + (1 * p + 0))) l1 rfl (by omega) (hp_Li (z := (0 + (1 * s + 0))) l2 rfl (by omega) (hp_Li (z := (0 + (1 * cn + 0))) l3 rfl (by omega) (hp_Li (z := (0 + (1 * i + 0))) l4 rfl (by omega) hp_Ln))))) trivial ?_ ?_
  · intro p hp ys l' st' h' hys a1 a2 a3 gZ gL gS
    rcases List.mem_cons.mp hp with rfl | hp
    · obtain rfl := hp_y0 hys
      cases hp_gSn gS
      exact e0 l' h' a1 a2 a3 (hp_gLa gL (List.mem_of_getElem? (i := 0) rfl) (by decide)) (hp_gLi (z := (0 + (1 * p + 0))) gL (List.mem_of_getElem? (i := 1) rfl) rfl (by omega)) (hp_gLi (z := (0 + (1 * s + 0))) gL (List.mem_of_getElem? (i := 2) rfl) rfl (by omega)) (hp_gLi (z := (0 + (1 * cn + 0))) gL (List.mem_of_getElem? (i := 3) rfl) rfl (by omega)) (hp_gLi (z := (1 + (1 * i + 0))) gL (List.mem_of_getElem? (i := 4) rfl) rfl (by omega))
    cases hp
  · intro p hp ys v h' hys a1 a2 a3 gZ gS
    cases hp
theorem bne_k : hp_chk 388 23 8 [(0, 0, 119), (1, 0, 5), (2, 0, 399), (3, 0, 80), (4, 0, 80), (5, 0, 79), (6, (-2147483648), 2147483647), (7, (-2147483648), 2147483647)] [((-1), [(4, 1), (5, (-1))]), (0, [(3, (-1)), (5, 1)]), (0, [(2, 1), (6, (-1))]), ((-1), [(2, 1), (7, (-1))])] [(0, .inr (.inr (.inl (some 94)))), (1, .inl (0, [(0, 1)])), (2, .inl (0, [(1, 1)])), (3, .inl (0, [(3, 1)])), (4, .inl (0, [(5, 1)]))] [] [(20073, (0, []), (0, [(4, 1)])), (19977, (0, []), (0, [(2, 1)])), (40704, (0, [(5, 1)]), (0, [])), (39424, (0, [(5, 1)]), (0, [(0, 1)])), (39680, (0, [(5, 1)]), (0, [(1, 1)])), (39936, (0, [(5, 1)]), (0, [(6, 1)])), (40192, (0, [(5, 1)]), (0, [(7, 1)]))] [] 4 [(23, ([], 8, [(0, 0, 119), (1, 0, 5), (2, 0, 399), (3, 0, 80), (4, 0, 80), (5, 0, 79), (6, (-2147483648), 2147483647), (7, (-2147483648), 2147483647)], [], [(0, .inr (.inr (.inl (some 94)))), (1, .inl (0, [(0, 1)])), (2, .inl (0, [(1, 1)])), (3, .inl (0, [(3, 1)])), (4, .inl (1, [(5, 1)]))], [], []))] [] = true := by decide +kernel
theorem bne {cst : am_K} {strs : List Nat} {Φ : am_Q → Prop} {D : Nat} {M : am_M} {h : am_H} {l : am_L} (c : hp_C cst strs D) (hM : m_P[388]? = some M) (hD : (4 : Int) ≤ (D : Int) + 1) (hy : ly_hy m_tt ly_TH h) (p s g cn n i f e : Int) (b0 : 0 ≤ p) (t0 : p ≤ 119) (b1 : 0 ≤ s) (t1 : s ≤ 5) (b2 : 0 ≤ g) (t2 : g ≤ 399) (b3 : 0 ≤ cn) (t3 : cn ≤ 80) (b4 : 0 ≤ n) (t4 : n ≤ 80) (b5 : 0 ≤ i) (t5 : i ≤ 79) (b6 : (-2147483648) ≤ f) (t6 : f ≤ 2147483647) (b7 : (-2147483648) ≤ e) (t7 : e ≤ 2147483647) (f0 : 0 ≤ (n - i - 1)) (f1 : 0 ≤ (i - cn)) (f2 : 0 ≤ (g - f)) (f3 : 0 ≤ (g - e - 1)) (k0 : ly_hv cst h 20073 0 = some (n)) (k1 : ly_hv cst h 19977 0 = some (g)) (k2 : ly_hv cst h 40704 (i) = some 0) (k3 : ly_hv cst h 39424 (i) = some (p)) (k4 : ly_hv cst h 39680 (i) = some (s)) (k5 : ly_hv cst h 39936 (i) = some (f)) (k6 : ly_hv cst h 40192 (i) = some (e)) (l0 : hp_a l 0 94) (l1 : hp_i l 1 (p)) (l2 : hp_i l 2 (s)) (l3 : hp_i l 3 (cn)) (l4 : hp_i l 4 (i)) (e0 : ∀ (l' : am_L) (h' : am_H), ly_hy m_tt ly_TH h' → ly_fr cst [] h h' → h.length ≤ h'.length → hp_a l' 0 94 → hp_i l' 1 (p) → hp_i l' 2 (s) → hp_i l' 3 (cn) → hp_i l' 4 (i + 1) → hp_F cst strs Φ D M 23 l' [] h') : hp_F cst strs Φ D M 23 l [] h := by
  refine hp_arc c hM bne_k hD [p, s, g, cn, n, i, f, e] rfl hy (hp_Bc (z := p) rfl b0 t0 (hp_Bc (z := s) rfl b1 t1 (hp_Bc (z := g) rfl b2 t2 (hp_Bc (z := cn) rfl b3 t3 (hp_Bc (z := n) rfl b4 t4 (hp_Bc (z := i) rfl b5 t5 (hp_Bc (z := f) rfl b6 t6 (hp_Bc (z := e) rfl b7 t7 hp_Bn)))))))) (hp_Fc (z := ((-1) + (1 * n + ((-1) * i + 0)))) rfl (by omega) (hp_Fc (z := (0 + ((-1) * cn + (1 * i + 0)))) rfl (by omega) (hp_Fc (z := (0 + (1 * g + ((-1) * f + 0)))) rfl (by omega) (hp_Fc (z := ((-1) + (1 * g + ((-1) * e + 0)))) rfl (by omega) hp_Fn)))) (hp_Kc (zi := (0 + 0)) (zv := (0 + (1 * n + 0))) k0 rfl rfl (by omega) (by omega) (hp_Kc (zi := (0 + 0)) (zv := (0 + (1 * g + 0))) k1 rfl rfl (by omega) (by omega) (hp_Kc (zi := (0 + (1 * i + 0))) (zv := (0 + 0)) k2 rfl rfl (by omega) (by omega) (hp_Kc (zi := (0 + (1 * i + 0))) (zv := (0 + (1 * p + 0))) k3 rfl rfl (by omega) (by omega) (hp_Kc (zi := (0 + (1 * i + 0))) (zv := (0 + (1 * s + 0))) k4 rfl rfl (by omega) (by omega) (hp_Kc (zi := (0 + (1 * i + 0))) (zv := (0 + (1 * f + 0))) k5 rfl rfl (by omega) (by omega) (hp_Kc (zi := (0 + (1 * i + 0))) (zv := (0 + (1 * e + 0))) k6 rfl rfl (by omega) (by omega) hp_Kn))))))) (hp_La l0 (hp_Li (z := (0 + (1 * p + 0))) l1 rfl (by omega) (hp_Li (z := (0 + (1 * s + 0))) l2 rfl (by omega) (hp_Li (z := (0 + (1 * cn + 0))) l3 rfl (by omega) (hp_Li (z := (0 + (1 * i + 0))) l4 rfl (by omega) hp_Ln))))) trivial ?_ ?_
  · intro p hp ys l' st' h' hys a1 a2 a3 gZ gL gS
    rcases List.mem_cons.mp hp with rfl | hp
    · obtain rfl := hp_y0 hys
      cases hp_gSn gS
      exact e0 l' h' a1 a2 a3 (hp_gLa gL (List.mem_of_getElem? (i := 0) rfl) (by decide)) (hp_gLi (z := (0 + (1 * p + 0))) gL (List.mem_of_getElem? (i := 1) rfl) rfl (by omega)) (hp_gLi (z := (0 + (1 * s + 0))) gL (List.mem_of_getElem? (i := 2) rfl) rfl (by omega)) (hp_gLi (z := (0 + (1 * cn + 0))) gL (List.mem_of_getElem? (i := 3) rfl) rfl (by omega)) (hp_gLi (z := (1 + (1 * i + 0))) gL (List.mem_of_getElem? (i := 4) rfl) rfl (by omega))
    cases hp
  · intro p hp ys v h' hys a1 a2 a3 gZ gS
    cases hp
theorem bnf_k : hp_chk 388 23 8 [(0, 0, 119), (1, 0, 5), (2, 0, 399), (3, 0, 80), (4, 0, 80), (5, 0, 79), (6, (-2147483648), 2147483647), (7, (-2147483648), 2147483647)] [((-1), [(4, 1), (5, (-1))]), (0, [(3, (-1)), (5, 1)]), (0, [(2, 1), (6, (-1))]), (0, [(2, (-1)), (7, 1)])] [(0, .inr (.inr (.inl (some 94)))), (1, .inl (0, [(0, 1)])), (2, .inl (0, [(1, 1)])), (3, .inl (0, [(3, 1)])), (4, .inl (0, [(5, 1)]))] [] [(20073, (0, []), (0, [(4, 1)])), (19977, (0, []), (0, [(2, 1)])), (40704, (0, [(5, 1)]), (0, [])), (39424, (0, [(5, 1)]), (0, [(0, 1)])), (39680, (0, [(5, 1)]), (0, [(1, 1)])), (39936, (0, [(5, 1)]), (0, [(6, 1)])), (40192, (0, [(5, 1)]), (0, [(7, 1)]))] [] 4 [(98, ([], 8, [(0, 0, 119), (1, 0, 5), (2, 0, 399), (3, 0, 80), (4, 0, 80), (5, 0, 79), (6, (-2147483648), 2147483647), (7, (-2147483648), 2147483647)], [], [(0, .inr (.inr (.inl (some 94)))), (1, .inl (0, [(0, 1)])), (2, .inl (0, [(1, 1)])), (3, .inl (0, [(3, 1)])), (4, .inl (0, [(5, 1)]))], [.inl (1, []), .inl (0, [(5, 1)]), .inr (.inr (.inl (some 175)))], []))] [] = true := by decide +kernel
theorem bnf {cst : am_K} {strs : List Nat} {Φ : am_Q → Prop} {D : Nat} {M : am_M} {h : am_H} {l : am_L} (c : hp_C cst strs D) (hM : m_P[388]? = some M) (hD : (4 : Int) ≤ (D : Int) + 1) (hy : ly_hy m_tt ly_TH h) (p s g cn n i f e : Int) (b0 : 0 ≤ p) (t0 : p ≤ 119) (b1 : 0 ≤ s) (t1 : s ≤ 5) (b2 : 0 ≤ g) (t2 : g ≤ 399) (b3 : 0 ≤ cn) (t3 : cn ≤ 80) (b4 : 0 ≤ n) (t4 : n ≤ 80) (b5 : 0 ≤ i) (t5 : i ≤ 79) (b6 : (-2147483648) ≤ f) (t6 : f ≤ 2147483647) (b7 : (-2147483648) ≤ e) (t7 : e ≤ 2147483647) (f0 : 0 ≤ (n - i - 1)) (f1 : 0 ≤ (i - cn)) (f2 : 0 ≤ (g - f)) (f3 : 0 ≤ (e - g)) (k0 : ly_hv cst h 20073 0 = some (n)) (k1 : ly_hv cst h 19977 0 = some (g)) (k2 : ly_hv cst h 40704 (i) = some 0) (k3 : ly_hv cst h 39424 (i) = some (p)) (k4 : ly_hv cst h 39680 (i) = some (s)) (k5 : ly_hv cst h 39936 (i) = some (f)) (k6 : ly_hv cst h 40192 (i) = some (e)) (l0 : hp_a l 0 94) (l1 : hp_i l 1 (p)) (l2 : hp_i l 2 (s)) (l3 : hp_i l 3 (cn)) (l4 : hp_i l 4 (i)) (e0 : ∀ (l' : am_L) (h' : am_H) (y0 : Int32) (y1 : Int32), y0.toInt = 1 → y1.toInt = (i) → ly_hy m_tt ly_TH h' → ly_fr cst [] h h' → h.length ≤ h'.length → hp_a l' 0 94 → hp_i l' 1 (p) → hp_i l' 2 (s) → hp_i l' 3 (cn) → hp_i l' 4 (i) → hp_F cst strs Φ D M 98 l' [.int y0, .int y1, .ref 175] h') : hp_F cst strs Φ D M 23 l [] h := by
  refine hp_arc c hM bnf_k hD [p, s, g, cn, n, i, f, e] rfl hy (hp_Bc (z := p) rfl b0 t0 (hp_Bc (z := s) rfl b1 t1 (hp_Bc (z := g) rfl b2 t2 (hp_Bc (z := cn) rfl b3 t3 (hp_Bc (z := n) rfl b4 t4 (hp_Bc (z := i) rfl b5 t5 (hp_Bc (z := f) rfl b6 t6 (hp_Bc (z := e) rfl b7 t7 hp_Bn)))))))) (hp_Fc (z := ((-1) + (1 * n + ((-1) * i + 0)))) rfl (by omega) (hp_Fc (z := (0 + ((-1) * cn + (1 * i + 0)))) rfl (by omega) (hp_Fc (z := (0 + (1 * g + ((-1) * f + 0)))) rfl (by omega) (hp_Fc (z := (0 + ((-1) * g + (1 * e + 0)))) rfl (by omega) hp_Fn)))) (hp_Kc (zi := (0 + 0)) (zv := (0 + (1 * n + 0))) k0 rfl rfl (by omega) (by omega) (hp_Kc (zi := (0 + 0)) (zv := (0 + (1 * g + 0))) k1 rfl rfl (by omega) (by omega) (hp_Kc (zi := (0 + (1 * i + 0))) (zv := (0 + 0)) k2 rfl rfl (by omega) (by omega) (hp_Kc (zi := (0 + (1 * i + 0))) (zv := (0 + (1 * p + 0))) k3 rfl rfl (by omega) (by omega) (hp_Kc (zi := (0 + (1 * i + 0))) (zv := (0 + (1 * s + 0))) k4 rfl rfl (by omega) (by omega) (hp_Kc (zi := (0 + (1 * i + 0))) (zv := (0 + (1 * f + 0))) k5 rfl rfl (by omega) (by omega) (hp_Kc (zi := (0 + (1 * i + 0))) (zv := (0 + (1 * e + 0))) k6 rfl rfl (by omega) (by omega) hp_Kn))))))) (hp_La l0 (hp_Li (z := (0 + (1 * p + 0))) l1 rfl (by omega) (hp_Li (z := (0 + (1 * s + 0))) l2 rfl (by omega) (hp_Li (z := (0 + (1 * cn + 0))) l3 rfl (by omega) (hp_Li (z := (0 + (1 * i + 0))) l4 rfl (by omega) hp_Ln))))) trivial ?_ ?_
  · intro p hp ys l' st' h' hys a1 a2 a3 gZ gL gS
    rcases List.mem_cons.mp hp with rfl | hp
    · obtain rfl := hp_y0 hys
      obtain ⟨y0, t0, rfl, q0, g0⟩ := hp_gSi (z := (1 + 0)) gS rfl
      obtain ⟨y1, t1, rfl, q1, g1⟩ := hp_gSi (z := (0 + (1 * i + 0))) g0 rfl
      obtain ⟨t2, rfl, g2⟩ := hp_gSa g1 (by decide)
      cases hp_gSn g2
      exact e0 l' h' y0 y1 (by omega) (by omega) a1 a2 a3 (hp_gLa gL (List.mem_of_getElem? (i := 0) rfl) (by decide)) (hp_gLi (z := (0 + (1 * p + 0))) gL (List.mem_of_getElem? (i := 1) rfl) rfl (by omega)) (hp_gLi (z := (0 + (1 * s + 0))) gL (List.mem_of_getElem? (i := 2) rfl) rfl (by omega)) (hp_gLi (z := (0 + (1 * cn + 0))) gL (List.mem_of_getElem? (i := 3) rfl) rfl (by omega)) (hp_gLi (z := (0 + (1 * i + 0))) gL (List.mem_of_getElem? (i := 4) rfl) rfl (by omega))
    cases hp
  · intro p hp ys v h' hys a1 a2 a3 gZ gS
    cases hp
theorem bng_k : hp_chk 388 99 6 [(0, 0, 119), (1, 0, 5), (2, 0, 399), (3, 0, 80), (4, 0, 80), (5, 0, 79)] [((-1), [(4, 1), (5, (-1))]), (0, [(3, (-1)), (5, 1)])] [(0, .inr (.inr (.inl (some 94)))), (1, .inl (0, [(0, 1)])), (2, .inl (0, [(1, 1)])), (3, .inl (0, [(3, 1)])), (4, .inl (0, [(5, 1)]))] [] [] [] 2 [(23, ([], 6, [(0, 0, 119), (1, 0, 5), (2, 0, 399), (3, 0, 80), (4, 0, 80), (5, 0, 79)], [], [(0, .inr (.inr (.inl (some 94)))), (1, .inl (0, [(0, 1)])), (2, .inl (0, [(1, 1)])), (3, .inl (1, [(3, 1)])), (4, .inl (1, [(5, 1)]))], [], []))] [] = true := by decide +kernel
theorem bng {cst : am_K} {strs : List Nat} {Φ : am_Q → Prop} {D : Nat} {M : am_M} {h : am_H} {l : am_L} (c : hp_C cst strs D) (hM : m_P[388]? = some M) (hD : (2 : Int) ≤ (D : Int) + 1) (hy : ly_hy m_tt ly_TH h) (p s g cn n i : Int) (b0 : 0 ≤ p) (t0 : p ≤ 119) (b1 : 0 ≤ s) (t1 : s ≤ 5) (b2 : 0 ≤ g) (t2 : g ≤ 399) (b3 : 0 ≤ cn) (t3 : cn ≤ 80) (b4 : 0 ≤ n) (t4 : n ≤ 80) (b5 : 0 ≤ i) (t5 : i ≤ 79) (f0 : 0 ≤ (n - i - 1)) (f1 : 0 ≤ (i - cn)) (l0 : hp_a l 0 94) (l1 : hp_i l 1 (p)) (l2 : hp_i l 2 (s)) (l3 : hp_i l 3 (cn)) (l4 : hp_i l 4 (i)) (e0 : ∀ (l' : am_L) (h' : am_H), ly_hy m_tt ly_TH h' → ly_fr cst [] h h' → h.length ≤ h'.length → hp_a l' 0 94 → hp_i l' 1 (p) → hp_i l' 2 (s) → hp_i l' 3 (cn + 1) → hp_i l' 4 (i + 1) → hp_F cst strs Φ D M 23 l' [] h') : hp_F cst strs Φ D M 99 l [] h := by
  refine hp_arc c hM bng_k hD [p, s, g, cn, n, i] rfl hy (hp_Bc (z := p) rfl b0 t0 (hp_Bc (z := s) rfl b1 t1 (hp_Bc (z := g) rfl b2 t2 (hp_Bc (z := cn) rfl b3 t3 (hp_Bc (z := n) rfl b4 t4 (hp_Bc (z := i) rfl b5 t5 hp_Bn)))))) (hp_Fc (z := ((-1) + (1 * n + ((-1) * i + 0)))) rfl (by omega) (hp_Fc (z := (0 + ((-1) * cn + (1 * i + 0)))) rfl (by omega) hp_Fn)) hp_Kn (hp_La l0 (hp_Li (z := (0 + (1 * p + 0))) l1 rfl (by omega) (hp_Li (z := (0 + (1 * s + 0))) l2 rfl (by omega) (hp_Li (z := (0 + (1 * cn + 0))) l3 rfl (by omega) (hp_Li (z := (0 + (1 * i + 0))) l4 rfl (by omega) hp_Ln))))) trivial ?_ ?_
  · intro p hp ys l' st' h' hys a1 a2 a3 gZ gL gS
    rcases List.mem_cons.mp hp with rfl | hp
    · obtain rfl := hp_y0 hys
      cases hp_gSn gS
      exact e0 l' h' a1 a2 a3 (hp_gLa gL (List.mem_of_getElem? (i := 0) rfl) (by decide)) (hp_gLi (z := (0 + (1 * p + 0))) gL (List.mem_of_getElem? (i := 1) rfl) rfl (by omega)) (hp_gLi (z := (0 + (1 * s + 0))) gL (List.mem_of_getElem? (i := 2) rfl) rfl (by omega)) (hp_gLi (z := (1 + (1 * cn + 0))) gL (List.mem_of_getElem? (i := 3) rfl) rfl (by omega)) (hp_gLi (z := (1 + (1 * i + 0))) gL (List.mem_of_getElem? (i := 4) rfl) rfl (by omega))
    cases hp
  · intro p hp ys v h' hys a1 a2 a3 gZ gS
    cases hp
theorem bnh_k : hp_chk 388 23 5 [(0, 0, 119), (1, 0, 5), (2, 0, 399), (3, 0, 80), (4, 0, 80)] [] [(0, .inr (.inr (.inl (some 94)))), (1, .inl (0, [(0, 1)])), (2, .inl (0, [(1, 1)])), (3, .inl (0, [(3, 1)])), (4, .inl (0, [(4, 1)]))] [] [(20073, (0, []), (0, [(4, 1)])), (19977, (0, []), (0, [(2, 1)]))] [] 2 [(111, ([], 5, [(0, 0, 119), (1, 0, 5), (2, 0, 399), (3, 0, 80), (4, 0, 80)], [], [(0, .inr (.inr (.inl (some 94)))), (1, .inl (0, [(0, 1)])), (2, .inl (0, [(1, 1)])), (3, .inl (0, [(3, 1)])), (4, .inl (0, []))], [], [(19977, (0, []), (0, [(2, 1)]))]))] [] = true := by decide +kernel
theorem bnh {cst : am_K} {strs : List Nat} {Φ : am_Q → Prop} {D : Nat} {M : am_M} {h : am_H} {l : am_L} (c : hp_C cst strs D) (hM : m_P[388]? = some M) (hD : (2 : Int) ≤ (D : Int) + 1) (hy : ly_hy m_tt ly_TH h) (p s g cn n : Int) (b0 : 0 ≤ p) (t0 : p ≤ 119) (b1 : 0 ≤ s) (t1 : s ≤ 5) (b2 : 0 ≤ g) (t2 : g ≤ 399) (b3 : 0 ≤ cn) (t3 : cn ≤ 80) (b4 : 0 ≤ n) (t4 : n ≤ 80) (k0 : ly_hv cst h 20073 0 = some (n)) (k1 : ly_hv cst h 19977 0 = some (g)) (l0 : hp_a l 0 94) (l1 : hp_i l 1 (p)) (l2 : hp_i l 2 (s)) (l3 : hp_i l 3 (cn)) (l4 : hp_i l 4 (n)) (e0 : ∀ (l' : am_L) (h' : am_H), ly_hy m_tt ly_TH h' → ly_fr cst [] h h' → h.length ≤ h'.length → ly_hv cst h' 19977 0 = some (g) → hp_a l' 0 94 → hp_i l' 1 (p) → hp_i l' 2 (s) → hp_i l' 3 (cn) → hp_i l' 4 0 → hp_F cst strs Φ D M 111 l' [] h') : hp_F cst strs Φ D M 23 l [] h := by
  refine hp_arc c hM bnh_k hD [p, s, g, cn, n] rfl hy (hp_Bc (z := p) rfl b0 t0 (hp_Bc (z := s) rfl b1 t1 (hp_Bc (z := g) rfl b2 t2 (hp_Bc (z := cn) rfl b3 t3 (hp_Bc (z := n) rfl b4 t4 hp_Bn))))) hp_Fn (hp_Kc (zi := (0 + 0)) (zv := (0 + (1 * n + 0))) k0 rfl rfl (by omega) (by omega) (hp_Kc (zi := (0 + 0)) (zv := (0 + (1 * g + 0))) k1 rfl rfl (by omega) (by omega) hp_Kn)) (hp_La l0 (hp_Li (z := (0 + (1 * p + 0))) l1 rfl (by omega) (hp_Li (z := (0 + (1 * s + 0))) l2 rfl (by omega) (hp_Li (z := (0 + (1 * cn + 0))) l3 rfl (by omega) (hp_Li (z := (0 + (1 * n + 0))) l4 rfl (by omega) hp_Ln))))) trivial ?_ ?_
  · intro p hp ys l' st' h' hys a1 a2 a3 gZ gL gS
    rcases List.mem_cons.mp hp with rfl | hp
    · obtain rfl := hp_y0 hys
      cases hp_gSn gS
      exact e0 l' h' a1 a2 a3 (hp_gK (zi := (0 + 0)) (zv := (0 + (1 * g + 0))) gZ.2.2.2 (List.mem_of_getElem? (i := 0) rfl) rfl rfl (by omega) (by omega)) (hp_gLa gL (List.mem_of_getElem? (i := 0) rfl) (by decide)) (hp_gLi (z := (0 + (1 * p + 0))) gL (List.mem_of_getElem? (i := 1) rfl) rfl (by omega)) (hp_gLi (z := (0 + (1 * s + 0))) gL (List.mem_of_getElem? (i := 2) rfl) rfl (by omega)) (hp_gLi (z := (0 + (1 * cn + 0))) gL (List.mem_of_getElem? (i := 3) rfl) rfl (by omega)) (hp_gLi (z := (0 + 0)) gL (List.mem_of_getElem? (i := 4) rfl) rfl (by omega))
    cases hp
  · intro p hp ys v h' hys a1 a2 a3 gZ gS
    cases hp
theorem bni_k : hp_chk 388 111 6 [(0, 0, 119), (1, 0, 5), (2, 0, 399), (3, 0, 10080), (4, 0, 100), (5, 0, 99)] [((-1), [(4, 1), (5, (-1))]), (80, [(3, (-1)), (5, 100)])] [(0, .inr (.inr (.inl (some 94)))), (1, .inl (0, [(0, 1)])), (2, .inl (0, [(1, 1)])), (3, .inl (0, [(3, 1)])), (4, .inl (0, [(5, 1)]))] [] [(20024, (0, []), (0, [(4, 1)])), (19977, (0, []), (0, [(2, 1)]))] [20054, 30464, 30720, 35584, 35840] 7 [(111, ([], 6, [(0, 0, 119), (1, 0, 5), (2, 0, 399), (3, 0, 10080), (4, 0, 100), (5, 0, 99)], [], [(0, .inr (.inr (.inl (some 94)))), (1, .inl (0, [(0, 1)])), (2, .inl (0, [(1, 1)])), (3, .inl (0, [(3, 1)])), (4, .inl (1, [(5, 1)]))], [], [(20024, (0, []), (0, [(4, 1)])), (19977, (0, []), (0, [(2, 1)]))])), (111, ([], 6, [(0, 0, 119), (1, 0, 5), (2, 0, 399), (3, 0, 10080), (4, 0, 100), (5, 0, 99)], [], [(0, .inr (.inr (.inl (some 94)))), (1, .inl (0, [(0, 1)])), (2, .inl (0, [(1, 1)])), (3, .inl (100, [(3, 1)])), (4, .inl (1, [(5, 1)]))], [], [(20024, (0, []), (0, [(4, 1)])), (19977, (0, []), (0, [(2, 1)]))]))] [] = true := by decide +kernel
theorem bni {cst : am_K} {strs : List Nat} {Φ : am_Q → Prop} {D : Nat} {M : am_M} {h : am_H} {l : am_L} (c : hp_C cst strs D) (hM : m_P[388]? = some M) (hD : (7 : Int) ≤ (D : Int) + 1) (hy : ly_hy m_tt ly_TH h) (p s g cn mm m : Int) (b0 : 0 ≤ p) (t0 : p ≤ 119) (b1 : 0 ≤ s) (t1 : s ≤ 5) (b2 : 0 ≤ g) (t2 : g ≤ 399) (b3 : 0 ≤ cn) (t3 : cn ≤ 10080) (b4 : 0 ≤ mm) (t4 : mm ≤ 100) (b5 : 0 ≤ m) (t5 : m ≤ 99) (f0 : 0 ≤ (mm - m - 1)) (f1 : 0 ≤ (100 * m - cn + 80)) (k0 : ly_hv cst h 20024 0 = some (mm)) (k1 : ly_hv cst h 19977 0 = some (g)) (l0 : hp_a l 0 94) (l1 : hp_i l 1 (p)) (l2 : hp_i l 2 (s)) (l3 : hp_i l 3 (cn)) (l4 : hp_i l 4 (m)) (e0 : ∀ (l' : am_L) (h' : am_H), ly_hy m_tt ly_TH h' → ly_fr cst [20054, 30464, 30720, 35584, 35840] h h' → h.length ≤ h'.length → ly_hv cst h' 20024 0 = some (mm) → ly_hv cst h' 19977 0 = some (g) → hp_a l' 0 94 → hp_i l' 1 (p) → hp_i l' 2 (s) → hp_i l' 3 (cn) → hp_i l' 4 (m + 1) → hp_F cst strs Φ D M 111 l' [] h') (e1 : ∀ (l' : am_L) (h' : am_H), ly_hy m_tt ly_TH h' → ly_fr cst [20054, 30464, 30720, 35584, 35840] h h' → h.length ≤ h'.length → ly_hv cst h' 20024 0 = some (mm) → ly_hv cst h' 19977 0 = some (g) → hp_a l' 0 94 → hp_i l' 1 (p) → hp_i l' 2 (s) → hp_i l' 3 (cn + 100) → hp_i l' 4 (m + 1) → hp_F cst strs Φ D M 111 l' [] h') : hp_F cst strs Φ D M 111 l [] h := by
  refine hp_arc c hM bni_k hD [p, s, g, cn, mm, m] rfl hy (hp_Bc (z := p) rfl b0 t0 (hp_Bc (z := s) rfl b1 t1 (hp_Bc (z := g) rfl b2 t2 (hp_Bc (z := cn) rfl b3 t3 (hp_Bc (z := mm) rfl b4 t4 (hp_Bc (z := m) rfl b5 t5 hp_Bn)))))) (hp_Fc (z := ((-1) + (1 * mm + ((-1) * m + 0)))) rfl (by omega) (hp_Fc (z := (80 + ((-1) * cn + (100 * m + 0)))) rfl (by omega) hp_Fn)) (hp_Kc (zi := (0 + 0)) (zv := (0 + (1 * mm + 0))) k0 rfl rfl (by omega) (by omega) (hp_Kc (zi := (0 + 0)) (zv := (0 + (1 * g + 0))) k1 rfl rfl (by omega) (by omega) hp_Kn)) (hp_La l0 (hp_Li (z := (0 + (1 * p + 0))) l1 rfl (by omega) (hp_Li (z := (0 + (1 * s + 0))) l2 rfl (by omega) (hp_Li (z := (0 + (1 * cn + 0))) l3 rfl (by omega) (hp_Li (z := (0 + (1 * m + 0))) l4 rfl (by omega) hp_Ln))))) trivial ?_ ?_
  · intro p hp ys l' st' h' hys a1 a2 a3 gZ gL gS
    rcases List.mem_cons.mp hp with rfl | hp
    · obtain rfl := hp_y0 hys
      cases hp_gSn gS
      exact e0 l' h' a1 a2 a3 (hp_gK (zi := (0 + 0)) (zv := (0 + (1 * mm + 0))) gZ.2.2.2 (List.mem_of_getElem? (i := 0) rfl) rfl rfl (by omega) (by omega)) (hp_gK (zi := (0 + 0)) (zv := (0 + (1 * g + 0))) gZ.2.2.2 (List.mem_of_getElem? (i := 1) rfl) rfl rfl (by omega) (by omega)) (hp_gLa gL (List.mem_of_getElem? (i := 0) rfl) (by decide)) (hp_gLi (z := (0 + (1 * p + 0))) gL (List.mem_of_getElem? (i := 1) rfl) rfl (by omega)) (hp_gLi (z := (0 + (1 * s + 0))) gL (List.mem_of_getElem? (i := 2) rfl) rfl (by omega)) (hp_gLi (z := (0 + (1 * cn + 0))) gL (List.mem_of_getElem? (i := 3) rfl) rfl (by omega)) (hp_gLi (z := (1 + (1 * m + 0))) gL (List.mem_of_getElem? (i := 4) rfl) rfl (by omega))
    rcases List.mem_cons.mp hp with rfl | hp
    · obtain rfl := hp_y0 hys
      cases hp_gSn gS
      exact e1 l' h' a1 a2 a3 (hp_gK (zi := (0 + 0)) (zv := (0 + (1 * mm + 0))) gZ.2.2.2 (List.mem_of_getElem? (i := 0) rfl) rfl rfl (by omega) (by omega)) (hp_gK (zi := (0 + 0)) (zv := (0 + (1 * g + 0))) gZ.2.2.2 (List.mem_of_getElem? (i := 1) rfl) rfl rfl (by omega) (by omega)) (hp_gLa gL (List.mem_of_getElem? (i := 0) rfl) (by decide)) (hp_gLi (z := (0 + (1 * p + 0))) gL (List.mem_of_getElem? (i := 1) rfl) rfl (by omega)) (hp_gLi (z := (0 + (1 * s + 0))) gL (List.mem_of_getElem? (i := 2) rfl) rfl (by omega)) (hp_gLi (z := (100 + (1 * cn + 0))) gL (List.mem_of_getElem? (i := 3) rfl) rfl (by omega)) (hp_gLi (z := (1 + (1 * m + 0))) gL (List.mem_of_getElem? (i := 4) rfl) rfl (by omega))
    cases hp
  · intro p hp ys v h' hys a1 a2 a3 gZ gS
    cases hp
theorem bnj_k : hp_chk 388 111 5 [(0, 0, 119), (1, 0, 5), (2, 0, 399), (3, 0, 10080), (4, 0, 100)] [] [(0, .inr (.inr (.inl (some 94)))), (1, .inl (0, [(0, 1)])), (2, .inl (0, [(1, 1)])), (3, .inl (0, [(3, 1)])), (4, .inl (0, [(4, 1)]))] [] [(20024, (0, []), (0, [(4, 1)])), (19977, (0, []), (0, [(2, 1)]))] [] 2 [] [([], 5, [(0, 0, 119), (1, 0, 5), (2, 0, 399), (3, 0, 10080), (4, 0, 100)], [], [], [.inl (0, [(3, 1)])], [])] = true := by decide +kernel
theorem bnj {cst : am_K} {strs : List Nat} {Φ : am_Q → Prop} {D : Nat} {M : am_M} {h : am_H} {l : am_L} (c : hp_C cst strs D) (hM : m_P[388]? = some M) (hD : (2 : Int) ≤ (D : Int) + 1) (hy : ly_hy m_tt ly_TH h) (p s g cn mm : Int) (b0 : 0 ≤ p) (t0 : p ≤ 119) (b1 : 0 ≤ s) (t1 : s ≤ 5) (b2 : 0 ≤ g) (t2 : g ≤ 399) (b3 : 0 ≤ cn) (t3 : cn ≤ 10080) (b4 : 0 ≤ mm) (t4 : mm ≤ 100) (k0 : ly_hv cst h 20024 0 = some (mm)) (k1 : ly_hv cst h 19977 0 = some (g)) (l0 : hp_a l 0 94) (l1 : hp_i l 1 (p)) (l2 : hp_i l 2 (s)) (l3 : hp_i l 3 (cn)) (l4 : hp_i l 4 (mm)) (r0 : ∀ (h' : am_H) (y0 : Int32), y0.toInt = (cn) → ly_hy m_tt ly_TH h' → ly_fr cst [] h h' → h.length ≤ h'.length → Φ (some (.int y0), h', 0, 0)) : hp_F cst strs Φ D M 111 l [] h := by
  refine hp_arc c hM bnj_k hD [p, s, g, cn, mm] rfl hy (hp_Bc (z := p) rfl b0 t0 (hp_Bc (z := s) rfl b1 t1 (hp_Bc (z := g) rfl b2 t2 (hp_Bc (z := cn) rfl b3 t3 (hp_Bc (z := mm) rfl b4 t4 hp_Bn))))) hp_Fn (hp_Kc (zi := (0 + 0)) (zv := (0 + (1 * mm + 0))) k0 rfl rfl (by omega) (by omega) (hp_Kc (zi := (0 + 0)) (zv := (0 + (1 * g + 0))) k1 rfl rfl (by omega) (by omega) hp_Kn)) (hp_La l0 (hp_Li (z := (0 + (1 * p + 0))) l1 rfl (by omega) (hp_Li (z := (0 + (1 * s + 0))) l2 rfl (by omega) (hp_Li (z := (0 + (1 * cn + 0))) l3 rfl (by omega) (hp_Li (z := (0 + (1 * mm + 0))) l4 rfl (by omega) hp_Ln))))) trivial ?_ ?_
  · intro p hp ys l' st' h' hys a1 a2 a3 gZ gL gS
    cases hp
  · intro p hp ys v h' hys a1 a2 a3 gZ gS
    rcases List.mem_cons.mp hp with rfl | hp
    · obtain rfl := hp_y0 hys
      cases v with
      | none => cases gS
      | some w =>
        obtain ⟨y0, t0, s0, q0, -⟩ := hp_gSi (z := (0 + (1 * cn + 0))) gS rfl
        cases s0
        exact r0 h' y0 (by omega) a1 a2 a3
    cases hp
theorem bg0_k : hp_chk 208 0 3 [(0, (-2147483648), (-1)), (1, (-2147483648), 2147483647), (2, 0, 120)] [] [(0, .inr (.inr (.inl (some 16)))), (1, .inl (0, [(0, 1)])), (2, .inl (0, [(1, 1)]))] [] [(1536, (0, []), (0, [(2, 1)]))] [] 4 [] [([], 3, [(0, (-2147483648), (-1)), (1, (-2147483648), 2147483647), (2, 0, 120)], [], [], [.inl ((-2), [])], [])] = true := by decide +kernel
theorem bg0 {cst : am_K} {strs : List Nat} {Φ : am_Q → Prop} {D : Nat} {M : am_M} {h : am_H} {l : am_L} (c : hp_C cst strs D) (hM : m_P[208]? = some M) (hD : (4 : Int) ≤ (D : Int) + 1) (hy : ly_hy m_tt ly_TH h) (p s u : Int) (b0 : (-2147483648) ≤ p) (t0 : p ≤ (-1)) (b1 : (-2147483648) ≤ s) (t1 : s ≤ 2147483647) (b2 : 0 ≤ u) (t2 : u ≤ 120) (k0 : ly_hv cst h 1536 0 = some (u)) (l0 : hp_a l 0 16) (l1 : hp_i l 1 (p)) (l2 : hp_i l 2 (s)) (r0 : ∀ (h' : am_H) (y0 : Int32), y0.toInt = (-2) → ly_hy m_tt ly_TH h' → ly_fr cst [] h h' → h.length ≤ h'.length → Φ (some (.int y0), h', 0, 0)) : hp_F cst strs Φ D M 0 l [] h := by
  refine hp_arc c hM bg0_k hD [p, s, u] rfl hy (hp_Bc (z := p) rfl b0 t0 (hp_Bc (z := s) rfl b1 t1 (hp_Bc (z := u) rfl b2 t2 hp_Bn))) hp_Fn (hp_Kc (zi := (0 + 0)) (zv := (0 + (1 * u + 0))) k0 rfl rfl (by omega) (by omega) hp_Kn) (hp_La l0 (hp_Li (z := (0 + (1 * p + 0))) l1 rfl (by omega) (hp_Li (z := (0 + (1 * s + 0))) l2 rfl (by omega) hp_Ln))) trivial ?_ ?_
  · intro p hp ys l' st' h' hys a1 a2 a3 gZ gL gS
    cases hp
  · intro p hp ys v h' hys a1 a2 a3 gZ gS
    rcases List.mem_cons.mp hp with rfl | hp
    · obtain rfl := hp_y0 hys
      cases v with
      | none => cases gS
      | some w =>
        obtain ⟨y0, t0, s0, q0, -⟩ := hp_gSi (z := ((-2) + 0)) gS rfl
        cases s0
        exact r0 h' y0 (by omega) a1 a2 a3
    cases hp
theorem bg1_k : hp_chk 208 0 3 [(0, 0, 2147483647), (1, (-2147483648), 2147483647), (2, 0, 120)] [(0, [(0, 1), (2, (-1))])] [(0, .inr (.inr (.inl (some 16)))), (1, .inl (0, [(0, 1)])), (2, .inl (0, [(1, 1)]))] [] [(1536, (0, []), (0, [(2, 1)]))] [] 4 [] [([], 3, [(0, 0, 2147483647), (1, (-2147483648), 2147483647), (2, 0, 120)], [], [], [.inl ((-2), [])], [])] = true := by decide +kernel
theorem bg1 {cst : am_K} {strs : List Nat} {Φ : am_Q → Prop} {D : Nat} {M : am_M} {h : am_H} {l : am_L} (c : hp_C cst strs D) (hM : m_P[208]? = some M) (hD : (4 : Int) ≤ (D : Int) + 1) (hy : ly_hy m_tt ly_TH h) (p s u : Int) (b0 : 0 ≤ p) (t0 : p ≤ 2147483647) (b1 : (-2147483648) ≤ s) (t1 : s ≤ 2147483647) (b2 : 0 ≤ u) (t2 : u ≤ 120) (f0 : 0 ≤ (p - u)) (k0 : ly_hv cst h 1536 0 = some (u)) (l0 : hp_a l 0 16) (l1 : hp_i l 1 (p)) (l2 : hp_i l 2 (s)) (r0 : ∀ (h' : am_H) (y0 : Int32), y0.toInt = (-2) → ly_hy m_tt ly_TH h' → ly_fr cst [] h h' → h.length ≤ h'.length → Φ (some (.int y0), h', 0, 0)) : hp_F cst strs Φ D M 0 l [] h := by
  refine hp_arc c hM bg1_k hD [p, s, u] rfl hy (hp_Bc (z := p) rfl b0 t0 (hp_Bc (z := s) rfl b1 t1 (hp_Bc (z := u) rfl b2 t2 hp_Bn))) (hp_Fc (z := (0 + (1 * p + ((-1) * u + 0)))) rfl (by omega) hp_Fn) (hp_Kc (zi := (0 + 0)) (zv := (0 + (1 * u + 0))) k0 rfl rfl (by omega) (by omega) hp_Kn) (hp_La l0 (hp_Li (z := (0 + (1 * p + 0))) l1 rfl (by omega) (hp_Li (z := (0 + (1 * s + 0))) l2 rfl (by omega) hp_Ln))) trivial ?_ ?_
  · intro p hp ys l' st' h' hys a1 a2 a3 gZ gL gS
    cases hp
  · intro p hp ys v h' hys a1 a2 a3 gZ gS
    rcases List.mem_cons.mp hp with rfl | hp
    · obtain rfl := hp_y0 hys
      cases v with
      | none => cases gS
      | some w =>
        obtain ⟨y0, t0, s0, q0, -⟩ := hp_gSi (z := ((-2) + 0)) gS rfl
        cases s0
        exact r0 h' y0 (by omega) a1 a2 a3
    cases hp
theorem bg2_k : hp_chk 208 0 3 [(0, 0, 119), (1, (-2147483648), (-1)), (2, 0, 120)] [((-1), [(0, (-1)), (2, 1)])] [(0, .inr (.inr (.inl (some 16)))), (1, .inl (0, [(0, 1)])), (2, .inl (0, [(1, 1)]))] [] [(1536, (0, []), (0, [(2, 1)]))] [] 4 [] [([], 3, [(0, 0, 119), (1, (-2147483648), (-1)), (2, 0, 120)], [], [], [.inl ((-2), [])], [])] = true := by decide +kernel
theorem bg2 {cst : am_K} {strs : List Nat} {Φ : am_Q → Prop} {D : Nat} {M : am_M} {h : am_H} {l : am_L} (c : hp_C cst strs D) (hM : m_P[208]? = some M) (hD : (4 : Int) ≤ (D : Int) + 1) (hy : ly_hy m_tt ly_TH h) (p s u : Int) (b0 : 0 ≤ p) (t0 : p ≤ 119) (b1 : (-2147483648) ≤ s) (t1 : s ≤ (-1)) (b2 : 0 ≤ u) (t2 : u ≤ 120) (f0 : 0 ≤ (u - p - 1)) (k0 : ly_hv cst h 1536 0 = some (u)) (l0 : hp_a l 0 16) (l1 : hp_i l 1 (p)) (l2 : hp_i l 2 (s)) (r0 : ∀ (h' : am_H) (y0 : Int32), y0.toInt = (-2) → ly_hy m_tt ly_TH h' → ly_fr cst [] h h' → h.length ≤ h'.length → Φ (some (.int y0), h', 0, 0)) : hp_F cst strs Φ D M 0 l [] h := by
  refine hp_arc c hM bg2_k hD [p, s, u] rfl hy (hp_Bc (z := p) rfl b0 t0 (hp_Bc (z := s) rfl b1 t1 (hp_Bc (z := u) rfl b2 t2 hp_Bn))) (hp_Fc (z := ((-1) + ((-1) * p + (1 * u + 0)))) rfl (by omega) hp_Fn) (hp_Kc (zi := (0 + 0)) (zv := (0 + (1 * u + 0))) k0 rfl rfl (by omega) (by omega) hp_Kn) (hp_La l0 (hp_Li (z := (0 + (1 * p + 0))) l1 rfl (by omega) (hp_Li (z := (0 + (1 * s + 0))) l2 rfl (by omega) hp_Ln))) trivial ?_ ?_
  · intro p hp ys l' st' h' hys a1 a2 a3 gZ gL gS
    cases hp
  · intro p hp ys v h' hys a1 a2 a3 gZ gS
    rcases List.mem_cons.mp hp with rfl | hp
    · obtain rfl := hp_y0 hys
      cases v with
      | none => cases gS
      | some w =>
        obtain ⟨y0, t0, s0, q0, -⟩ := hp_gSi (z := ((-2) + 0)) gS rfl
        cases s0
        exact r0 h' y0 (by omega) a1 a2 a3
    cases hp
theorem bg3_k : hp_chk 208 0 3 [(0, 0, 119), (1, 6, 2147483647), (2, 0, 120)] [((-1), [(0, (-1)), (2, 1)])] [(0, .inr (.inr (.inl (some 16)))), (1, .inl (0, [(0, 1)])), (2, .inl (0, [(1, 1)]))] [] [(1536, (0, []), (0, [(2, 1)]))] [] 4 [] [([], 3, [(0, 0, 119), (1, 6, 2147483647), (2, 0, 120)], [], [], [.inl ((-2), [])], [])] = true := by decide +kernel
theorem bg3 {cst : am_K} {strs : List Nat} {Φ : am_Q → Prop} {D : Nat} {M : am_M} {h : am_H} {l : am_L} (c : hp_C cst strs D) (hM : m_P[208]? = some M) (hD : (4 : Int) ≤ (D : Int) + 1) (hy : ly_hy m_tt ly_TH h) (p s u : Int) (b0 : 0 ≤ p) (t0 : p ≤ 119) (b1 : 6 ≤ s) (t1 : s ≤ 2147483647) (b2 : 0 ≤ u) (t2 : u ≤ 120) (f0 : 0 ≤ (u - p - 1)) (k0 : ly_hv cst h 1536 0 = some (u)) (l0 : hp_a l 0 16) (l1 : hp_i l 1 (p)) (l2 : hp_i l 2 (s)) (r0 : ∀ (h' : am_H) (y0 : Int32), y0.toInt = (-2) → ly_hy m_tt ly_TH h' → ly_fr cst [] h h' → h.length ≤ h'.length → Φ (some (.int y0), h', 0, 0)) : hp_F cst strs Φ D M 0 l [] h := by
  refine hp_arc c hM bg3_k hD [p, s, u] rfl hy (hp_Bc (z := p) rfl b0 t0 (hp_Bc (z := s) rfl b1 t1 (hp_Bc (z := u) rfl b2 t2 hp_Bn))) (hp_Fc (z := ((-1) + ((-1) * p + (1 * u + 0)))) rfl (by omega) hp_Fn) (hp_Kc (zi := (0 + 0)) (zv := (0 + (1 * u + 0))) k0 rfl rfl (by omega) (by omega) hp_Kn) (hp_La l0 (hp_Li (z := (0 + (1 * p + 0))) l1 rfl (by omega) (hp_Li (z := (0 + (1 * s + 0))) l2 rfl (by omega) hp_Ln))) trivial ?_ ?_
  · intro p hp ys l' st' h' hys a1 a2 a3 gZ gL gS
    cases hp
  · intro p hp ys v h' hys a1 a2 a3 gZ gS
    rcases List.mem_cons.mp hp with rfl | hp
    · obtain rfl := hp_y0 hys
      cases v with
      | none => cases gS
      | some w =>
        obtain ⟨y0, t0, s0, q0, -⟩ := hp_gSi (z := ((-2) + 0)) gS rfl
        cases s0
        exact r0 h' y0 (by omega) a1 a2 a3
    cases hp
theorem bh0_k : hp_chk 388 0 3 [(0, (-2147483648), (-1)), (1, (-2147483648), 2147483647), (2, 0, 120)] [] [(0, .inr (.inr (.inl (some 94)))), (1, .inl (0, [(0, 1)])), (2, .inl (0, [(1, 1)]))] [] [(19978, (0, []), (0, [(2, 1)]))] [] 4 [] [([], 3, [(0, (-2147483648), (-1)), (1, (-2147483648), 2147483647), (2, 0, 120)], [], [], [.inl ((-2), [])], [])] = true := by decide +kernel
theorem bh0 {cst : am_K} {strs : List Nat} {Φ : am_Q → Prop} {D : Nat} {M : am_M} {h : am_H} {l : am_L} (c : hp_C cst strs D) (hM : m_P[388]? = some M) (hD : (4 : Int) ≤ (D : Int) + 1) (hy : ly_hy m_tt ly_TH h) (p s u : Int) (b0 : (-2147483648) ≤ p) (t0 : p ≤ (-1)) (b1 : (-2147483648) ≤ s) (t1 : s ≤ 2147483647) (b2 : 0 ≤ u) (t2 : u ≤ 120) (k0 : ly_hv cst h 19978 0 = some (u)) (l0 : hp_a l 0 94) (l1 : hp_i l 1 (p)) (l2 : hp_i l 2 (s)) (r0 : ∀ (h' : am_H) (y0 : Int32), y0.toInt = (-2) → ly_hy m_tt ly_TH h' → ly_fr cst [] h h' → h.length ≤ h'.length → Φ (some (.int y0), h', 0, 0)) : hp_F cst strs Φ D M 0 l [] h := by
  refine hp_arc c hM bh0_k hD [p, s, u] rfl hy (hp_Bc (z := p) rfl b0 t0 (hp_Bc (z := s) rfl b1 t1 (hp_Bc (z := u) rfl b2 t2 hp_Bn))) hp_Fn (hp_Kc (zi := (0 + 0)) (zv := (0 + (1 * u + 0))) k0 rfl rfl (by omega) (by omega) hp_Kn) (hp_La l0 (hp_Li (z := (0 + (1 * p + 0))) l1 rfl (by omega) (hp_Li (z := (0 + (1 * s + 0))) l2 rfl (by omega) hp_Ln))) trivial ?_ ?_
  · intro p hp ys l' st' h' hys a1 a2 a3 gZ gL gS
    cases hp
  · intro p hp ys v h' hys a1 a2 a3 gZ gS
    rcases List.mem_cons.mp hp with rfl | hp
    · obtain rfl := hp_y0 hys
      cases v with
      | none => cases gS
      | some w =>
        obtain ⟨y0, t0, s0, q0, -⟩ := hp_gSi (z := ((-2) + 0)) gS rfl
        cases s0
        exact r0 h' y0 (by omega) a1 a2 a3
    cases hp
theorem bh1_k : hp_chk 388 0 3 [(0, 0, 2147483647), (1, (-2147483648), 2147483647), (2, 0, 120)] [(0, [(0, 1), (2, (-1))])] [(0, .inr (.inr (.inl (some 94)))), (1, .inl (0, [(0, 1)])), (2, .inl (0, [(1, 1)]))] [] [(19978, (0, []), (0, [(2, 1)]))] [] 4 [] [([], 3, [(0, 0, 2147483647), (1, (-2147483648), 2147483647), (2, 0, 120)], [], [], [.inl ((-2), [])], [])] = true := by decide +kernel
theorem bh1 {cst : am_K} {strs : List Nat} {Φ : am_Q → Prop} {D : Nat} {M : am_M} {h : am_H} {l : am_L} (c : hp_C cst strs D) (hM : m_P[388]? = some M) (hD : (4 : Int) ≤ (D : Int) + 1) (hy : ly_hy m_tt ly_TH h) (p s u : Int) (b0 : 0 ≤ p) (t0 : p ≤ 2147483647) (b1 : (-2147483648) ≤ s) (t1 : s ≤ 2147483647) (b2 : 0 ≤ u) (t2 : u ≤ 120) (f0 : 0 ≤ (p - u)) (k0 : ly_hv cst h 19978 0 = some (u)) (l0 : hp_a l 0 94) (l1 : hp_i l 1 (p)) (l2 : hp_i l 2 (s)) (r0 : ∀ (h' : am_H) (y0 : Int32), y0.toInt = (-2) → ly_hy m_tt ly_TH h' → ly_fr cst [] h h' → h.length ≤ h'.length → Φ (some (.int y0), h', 0, 0)) : hp_F cst strs Φ D M 0 l [] h := by
  refine hp_arc c hM bh1_k hD [p, s, u] rfl hy (hp_Bc (z := p) rfl b0 t0 (hp_Bc (z := s) rfl b1 t1 (hp_Bc (z := u) rfl b2 t2 hp_Bn))) (hp_Fc (z := (0 + (1 * p + ((-1) * u + 0)))) rfl (by omega) hp_Fn) (hp_Kc (zi := (0 + 0)) (zv := (0 + (1 * u + 0))) k0 rfl rfl (by omega) (by omega) hp_Kn) (hp_La l0 (hp_Li (z := (0 + (1 * p + 0))) l1 rfl (by omega) (hp_Li (z := (0 + (1 * s + 0))) l2 rfl (by omega) hp_Ln))) trivial ?_ ?_
  · intro p hp ys l' st' h' hys a1 a2 a3 gZ gL gS
    cases hp
  · intro p hp ys v h' hys a1 a2 a3 gZ gS
    rcases List.mem_cons.mp hp with rfl | hp
    · obtain rfl := hp_y0 hys
      cases v with
      | none => cases gS
      | some w =>
        obtain ⟨y0, t0, s0, q0, -⟩ := hp_gSi (z := ((-2) + 0)) gS rfl
        cases s0
        exact r0 h' y0 (by omega) a1 a2 a3
    cases hp
theorem bh2_k : hp_chk 388 0 3 [(0, 0, 119), (1, (-2147483648), (-1)), (2, 0, 120)] [((-1), [(0, (-1)), (2, 1)])] [(0, .inr (.inr (.inl (some 94)))), (1, .inl (0, [(0, 1)])), (2, .inl (0, [(1, 1)]))] [] [(19978, (0, []), (0, [(2, 1)]))] [] 4 [] [([], 3, [(0, 0, 119), (1, (-2147483648), (-1)), (2, 0, 120)], [], [], [.inl ((-2), [])], [])] = true := by decide +kernel
theorem bh2 {cst : am_K} {strs : List Nat} {Φ : am_Q → Prop} {D : Nat} {M : am_M} {h : am_H} {l : am_L} (c : hp_C cst strs D) (hM : m_P[388]? = some M) (hD : (4 : Int) ≤ (D : Int) + 1) (hy : ly_hy m_tt ly_TH h) (p s u : Int) (b0 : 0 ≤ p) (t0 : p ≤ 119) (b1 : (-2147483648) ≤ s) (t1 : s ≤ (-1)) (b2 : 0 ≤ u) (t2 : u ≤ 120) (f0 : 0 ≤ (u - p - 1)) (k0 : ly_hv cst h 19978 0 = some (u)) (l0 : hp_a l 0 94) (l1 : hp_i l 1 (p)) (l2 : hp_i l 2 (s)) (r0 : ∀ (h' : am_H) (y0 : Int32), y0.toInt = (-2) → ly_hy m_tt ly_TH h' → ly_fr cst [] h h' → h.length ≤ h'.length → Φ (some (.int y0), h', 0, 0)) : hp_F cst strs Φ D M 0 l [] h := by
  refine hp_arc c hM bh2_k hD [p, s, u] rfl hy (hp_Bc (z := p) rfl b0 t0 (hp_Bc (z := s) rfl b1 t1 (hp_Bc (z := u) rfl b2 t2 hp_Bn))) (hp_Fc (z := ((-1) + ((-1) * p + (1 * u + 0)))) rfl (by omega) hp_Fn) (hp_Kc (zi := (0 + 0)) (zv := (0 + (1 * u + 0))) k0 rfl rfl (by omega) (by omega) hp_Kn) (hp_La l0 (hp_Li (z := (0 + (1 * p + 0))) l1 rfl (by omega) (hp_Li (z := (0 + (1 * s + 0))) l2 rfl (by omega) hp_Ln))) trivial ?_ ?_
  · intro p hp ys l' st' h' hys a1 a2 a3 gZ gL gS
    cases hp
  · intro p hp ys v h' hys a1 a2 a3 gZ gS
    rcases List.mem_cons.mp hp with rfl | hp
    · obtain rfl := hp_y0 hys
      cases v with
      | none => cases gS
      | some w =>
        obtain ⟨y0, t0, s0, q0, -⟩ := hp_gSi (z := ((-2) + 0)) gS rfl
        cases s0
        exact r0 h' y0 (by omega) a1 a2 a3
    cases hp
theorem bh3_k : hp_chk 388 0 3 [(0, 0, 119), (1, 6, 2147483647), (2, 0, 120)] [((-1), [(0, (-1)), (2, 1)])] [(0, .inr (.inr (.inl (some 94)))), (1, .inl (0, [(0, 1)])), (2, .inl (0, [(1, 1)]))] [] [(19978, (0, []), (0, [(2, 1)]))] [] 4 [] [([], 3, [(0, 0, 119), (1, 6, 2147483647), (2, 0, 120)], [], [], [.inl ((-2), [])], [])] = true := by decide +kernel
theorem bh3 {cst : am_K} {strs : List Nat} {Φ : am_Q → Prop} {D : Nat} {M : am_M} {h : am_H} {l : am_L} (c : hp_C cst strs D) (hM : m_P[388]? = some M) (hD : (4 : Int) ≤ (D : Int) + 1) (hy : ly_hy m_tt ly_TH h) (p s u : Int) (b0 : 0 ≤ p) (t0 : p ≤ 119) (b1 : 6 ≤ s) (t1 : s ≤ 2147483647) (b2 : 0 ≤ u) (t2 : u ≤ 120) (f0 : 0 ≤ (u - p - 1)) (k0 : ly_hv cst h 19978 0 = some (u)) (l0 : hp_a l 0 94) (l1 : hp_i l 1 (p)) (l2 : hp_i l 2 (s)) (r0 : ∀ (h' : am_H) (y0 : Int32), y0.toInt = (-2) → ly_hy m_tt ly_TH h' → ly_fr cst [] h h' → h.length ≤ h'.length → Φ (some (.int y0), h', 0, 0)) : hp_F cst strs Φ D M 0 l [] h := by
  refine hp_arc c hM bh3_k hD [p, s, u] rfl hy (hp_Bc (z := p) rfl b0 t0 (hp_Bc (z := s) rfl b1 t1 (hp_Bc (z := u) rfl b2 t2 hp_Bn))) (hp_Fc (z := ((-1) + ((-1) * p + (1 * u + 0)))) rfl (by omega) hp_Fn) (hp_Kc (zi := (0 + 0)) (zv := (0 + (1 * u + 0))) k0 rfl rfl (by omega) (by omega) hp_Kn) (hp_La l0 (hp_Li (z := (0 + (1 * p + 0))) l1 rfl (by omega) (hp_Li (z := (0 + (1 * s + 0))) l2 rfl (by omega) hp_Ln))) trivial ?_ ?_
  · intro p hp ys l' st' h' hys a1 a2 a3 gZ gL gS
    cases hp
  · intro p hp ys v h' hys a1 a2 a3 gZ gS
    rcases List.mem_cons.mp hp with rfl | hp
    · obtain rfl := hp_y0 hys
      cases v with
      | none => cases gS
      | some w =>
        obtain ⟨y0, t0, s0, q0, -⟩ := hp_gSi (z := ((-2) + 0)) gS rfl
        cases s0
        exact r0 h' y0 (by omega) a1 a2 a3
    cases hp
theorem bg4_k : hp_chk 208 0 4 [(0, 0, 119), (1, 0, 5), (2, 0, 120), (3, 0, 399)] [((-1), [(0, (-1)), (2, 1)])] [(0, .inr (.inr (.inl (some 16)))), (1, .inl (0, [(0, 1)])), (2, .inl (0, [(1, 1)]))] [] [(1536, (0, []), (0, [(2, 1)])), (10, (0, []), (0, [(3, 1)]))] [] 4 [(31, ([], 4, [(0, 0, 119), (1, 0, 5), (2, 0, 120), (3, 0, 399)], [], [(0, .inr (.inr (.inl (some 16)))), (1, .inl (0, [(0, 1)])), (2, .inl (0, [(1, 1)]))], [.inl (0, [(3, 1)]), .inl (0, [(1, 1)]), .inl (0, [(0, 1)]), .inr (.inr (.inl (some 59)))], [(10, (0, []), (0, [(3, 1)]))]))] [] = true := by decide +kernel
theorem bg4 {cst : am_K} {strs : List Nat} {Φ : am_Q → Prop} {D : Nat} {M : am_M} {h : am_H} {l : am_L} (c : hp_C cst strs D) (hM : m_P[208]? = some M) (hD : (4 : Int) ≤ (D : Int) + 1) (hy : ly_hy m_tt ly_TH h) (p s u g : Int) (b0 : 0 ≤ p) (t0 : p ≤ 119) (b1 : 0 ≤ s) (t1 : s ≤ 5) (b2 : 0 ≤ u) (t2 : u ≤ 120) (b3 : 0 ≤ g) (t3 : g ≤ 399) (f0 : 0 ≤ (u - p - 1)) (k0 : ly_hv cst h 1536 0 = some (u)) (k1 : ly_hv cst h 10 0 = some (g)) (l0 : hp_a l 0 16) (l1 : hp_i l 1 (p)) (l2 : hp_i l 2 (s)) (e0 : ∀ (l' : am_L) (h' : am_H) (y0 : Int32) (y1 : Int32) (y2 : Int32), y0.toInt = (g) → y1.toInt = (s) → y2.toInt = (p) → ly_hy m_tt ly_TH h' → ly_fr cst [] h h' → h.length ≤ h'.length → ly_hv cst h' 10 0 = some (g) → hp_a l' 0 16 → hp_i l' 1 (p) → hp_i l' 2 (s) → hp_F cst strs Φ D M 31 l' [.int y0, .int y1, .int y2, .ref 59] h') : hp_F cst strs Φ D M 0 l [] h := by
  refine hp_arc c hM bg4_k hD [p, s, u, g] rfl hy (hp_Bc (z := p) rfl b0 t0 (hp_Bc (z := s) rfl b1 t1 (hp_Bc (z := u) rfl b2 t2 (hp_Bc (z := g) rfl b3 t3 hp_Bn)))) (hp_Fc (z := ((-1) + ((-1) * p + (1 * u + 0)))) rfl (by omega) hp_Fn) (hp_Kc (zi := (0 + 0)) (zv := (0 + (1 * u + 0))) k0 rfl rfl (by omega) (by omega) (hp_Kc (zi := (0 + 0)) (zv := (0 + (1 * g + 0))) k1 rfl rfl (by omega) (by omega) hp_Kn)) (hp_La l0 (hp_Li (z := (0 + (1 * p + 0))) l1 rfl (by omega) (hp_Li (z := (0 + (1 * s + 0))) l2 rfl (by omega) hp_Ln))) trivial ?_ ?_
  · intro p hp ys l' st' h' hys a1 a2 a3 gZ gL gS
    rcases List.mem_cons.mp hp with rfl | hp
    · obtain rfl := hp_y0 hys
      obtain ⟨y0, t0, rfl, q0, g0⟩ := hp_gSi (z := (0 + (1 * g + 0))) gS rfl
      obtain ⟨y1, t1, rfl, q1, g1⟩ := hp_gSi (z := (0 + (1 * s + 0))) g0 rfl
      obtain ⟨y2, t2, rfl, q2, g2⟩ := hp_gSi (z := (0 + (1 * p + 0))) g1 rfl
      obtain ⟨t3, rfl, g3⟩ := hp_gSa g2 (by decide)
      cases hp_gSn g3
      exact e0 l' h' y0 y1 y2 (by omega) (by omega) (by omega) a1 a2 a3 (hp_gK (zi := (0 + 0)) (zv := (0 + (1 * g + 0))) gZ.2.2.2 (List.mem_of_getElem? (i := 0) rfl) rfl rfl (by omega) (by omega)) (hp_gLa gL (List.mem_of_getElem? (i := 0) rfl) (by decide)) (hp_gLi (z := (0 + (1 * p + 0))) gL (List.mem_of_getElem? (i := 1) rfl) rfl (by omega)) (hp_gLi (z := (0 + (1 * s + 0))) gL (List.mem_of_getElem? (i := 2) rfl) rfl (by omega))
    cases hp
  · intro p hp ys v h' hys a1 a2 a3 gZ gS
    cases hp
theorem bg5_k : hp_chk 208 34 4 [(0, 0, 119), (1, 0, 5), (2, 0, 399), (3, 0, 80)] [] [(0, .inr (.inr (.inl (some 16)))), (1, .inl (0, [(0, 1)])), (2, .inl (0, [(1, 1)]))] [.inl (0, [(3, 1)])] [(10, (0, []), (0, [(2, 1)]))] [7182, 8704, 8960, 9216, 9472, 45319, 45320] 7 [] [([(1, 0, (0, []))], 5, [(0, 0, 119), (1, 0, 5), (2, 0, 399), (3, 0, 80), (4, (-2147483648), 2147483647)], [], [], [.inl (0, [(4, 1)])], [])] = true := by decide +kernel
theorem bg5 {cst : am_K} {strs : List Nat} {Φ : am_Q → Prop} {D : Nat} {M : am_M} {h : am_H} {l : am_L} (c : hp_C cst strs D) (hM : m_P[208]? = some M) (hD : (7 : Int) ≤ (D : Int) + 1) (hy : ly_hy m_tt ly_TH h) (p s g cn : Int) (x0 : Int32) (hx0 : x0.toInt = (cn)) (b0 : 0 ≤ p) (t0 : p ≤ 119) (b1 : 0 ≤ s) (t1 : s ≤ 5) (b2 : 0 ≤ g) (t2 : g ≤ 399) (b3 : 0 ≤ cn) (t3 : cn ≤ 80) (k0 : ly_hv cst h 10 0 = some (g)) (l0 : hp_a l 0 16) (l1 : hp_i l 1 (p)) (l2 : hp_i l 2 (s)) (r0 : ∀ (h' : am_H) (ww : Int) (y0 : Int32), y0.toInt = (ww) → ly_hy m_tt ly_TH h' → ly_fr cst [7182, 8704, 8960, 9216, 9472, 45319, 45320] h h' → h.length ≤ h'.length → (-2147483648) ≤ ww → ww ≤ 2147483647 → Φ (some (.int y0), h', 0, 0)) : hp_F cst strs Φ D M 34 l [.int x0] h := by
  refine hp_arc c hM bg5_k hD [p, s, g, cn] rfl hy (hp_Bc (z := p) rfl b0 t0 (hp_Bc (z := s) rfl b1 t1 (hp_Bc (z := g) rfl b2 t2 (hp_Bc (z := cn) rfl b3 t3 hp_Bn)))) hp_Fn (hp_Kc (zi := (0 + 0)) (zv := (0 + (1 * g + 0))) k0 rfl rfl (by omega) (by omega) hp_Kn) (hp_La l0 (hp_Li (z := (0 + (1 * p + 0))) l1 rfl (by omega) (hp_Li (z := (0 + (1 * s + 0))) l2 rfl (by omega) hp_Ln))) (hp_Si (z := (0 + (1 * cn + 0))) rfl (by omega) trivial) ?_ ?_
  · intro p hp ys l' st' h' hys a1 a2 a3 gZ gL gS
    cases hp
  · intro p hp ys v h' hys a1 a2 a3 gZ gS
    rcases List.mem_cons.mp hp with rfl | hp
    · obtain ⟨ww, rfl⟩ := hp_y1 hys
      cases v with
      | none => cases gS
      | some w =>
        obtain ⟨y0, t0, s0, q0, -⟩ := hp_gSi (z := (0 + (1 * ww + 0))) gS rfl
        cases s0
        exact r0 h' ww y0 (by omega) a1 a2 a3 (hp_gB (z := ww) gZ.2.1 (List.mem_of_getElem? (i := 4) rfl) rfl).1 (hp_gB (z := ww) gZ.2.1 (List.mem_of_getElem? (i := 4) rfl) rfl).2
    cases hp
theorem bh4_k : hp_chk 388 0 3 [(0, 0, 119), (1, 0, 5), (2, 0, 120)] [((-1), [(0, (-1)), (2, 1)])] [(0, .inr (.inr (.inl (some 94)))), (1, .inl (0, [(0, 1)])), (2, .inl (0, [(1, 1)]))] [] [(19978, (0, []), (0, [(2, 1)]))] [] 4 [(23, ([], 3, [(0, 0, 119), (1, 0, 5), (2, 0, 120)], [], [(0, .inr (.inr (.inl (some 94)))), (1, .inl (0, [(0, 1)])), (2, .inl (0, [(1, 1)])), (3, .inl (0, [])), (4, .inl (0, []))], [], []))] [] = true := by decide +kernel
theorem bh4 {cst : am_K} {strs : List Nat} {Φ : am_Q → Prop} {D : Nat} {M : am_M} {h : am_H} {l : am_L} (c : hp_C cst strs D) (hM : m_P[388]? = some M) (hD : (4 : Int) ≤ (D : Int) + 1) (hy : ly_hy m_tt ly_TH h) (p s u : Int) (b0 : 0 ≤ p) (t0 : p ≤ 119) (b1 : 0 ≤ s) (t1 : s ≤ 5) (b2 : 0 ≤ u) (t2 : u ≤ 120) (f0 : 0 ≤ (u - p - 1)) (k0 : ly_hv cst h 19978 0 = some (u)) (l0 : hp_a l 0 94) (l1 : hp_i l 1 (p)) (l2 : hp_i l 2 (s)) (e0 : ∀ (l' : am_L) (h' : am_H), ly_hy m_tt ly_TH h' → ly_fr cst [] h h' → h.length ≤ h'.length → hp_a l' 0 94 → hp_i l' 1 (p) → hp_i l' 2 (s) → hp_i l' 3 0 → hp_i l' 4 0 → hp_F cst strs Φ D M 23 l' [] h') : hp_F cst strs Φ D M 0 l [] h := by
  refine hp_arc c hM bh4_k hD [p, s, u] rfl hy (hp_Bc (z := p) rfl b0 t0 (hp_Bc (z := s) rfl b1 t1 (hp_Bc (z := u) rfl b2 t2 hp_Bn))) (hp_Fc (z := ((-1) + ((-1) * p + (1 * u + 0)))) rfl (by omega) hp_Fn) (hp_Kc (zi := (0 + 0)) (zv := (0 + (1 * u + 0))) k0 rfl rfl (by omega) (by omega) hp_Kn) (hp_La l0 (hp_Li (z := (0 + (1 * p + 0))) l1 rfl (by omega) (hp_Li (z := (0 + (1 * s + 0))) l2 rfl (by omega) hp_Ln))) trivial ?_ ?_
  · intro p hp ys l' st' h' hys a1 a2 a3 gZ gL gS
    rcases List.mem_cons.mp hp with rfl | hp
    · obtain rfl := hp_y0 hys
      cases hp_gSn gS
      exact e0 l' h' a1 a2 a3 (hp_gLa gL (List.mem_of_getElem? (i := 0) rfl) (by decide)) (hp_gLi (z := (0 + (1 * p + 0))) gL (List.mem_of_getElem? (i := 1) rfl) rfl (by omega)) (hp_gLi (z := (0 + (1 * s + 0))) gL (List.mem_of_getElem? (i := 2) rfl) rfl (by omega)) (hp_gLi (z := (0 + 0)) gL (List.mem_of_getElem? (i := 3) rfl) rfl (by omega)) (hp_gLi (z := (0 + 0)) gL (List.mem_of_getElem? (i := 4) rfl) rfl (by omega))
    cases hp
  · intro p hp ys v h' hys a1 a2 a3 gZ gS
    cases hp
theorem bj0_k : hp_chk 206 0 7 [(0, (-2147483648), (-1)), (1, (-2147483648), 2147483647), (2, (-2147483648), 2147483647), (3, (-2147483648), 2147483647), (4, (-2147483648), 2147483647), (5, 0, 120), (6, 0, 399)] [] [(0, .inr (.inr (.inl (some 16)))), (1, .inl (0, [(0, 1)])), (2, .inl (0, [(1, 1)])), (3, .inl (0, [(2, 1)])), (4, .inl (0, [(3, 1)])), (5, .inl (0, [(4, 1)]))] [] [(1536, (0, []), (0, [(5, 1)])), (10, (0, []), (0, [(6, 1)]))] [] 4 [] [([], 7, [(0, (-2147483648), (-1)), (1, (-2147483648), 2147483647), (2, (-2147483648), 2147483647), (3, (-2147483648), 2147483647), (4, (-2147483648), 2147483647), (5, 0, 120), (6, 0, 399)], [], [], [.inl ((-2), [])], [])] = true := by decide +kernel
theorem bj0 {cst : am_K} {strs : List Nat} {Φ : am_Q → Prop} {D : Nat} {M : am_M} {h : am_H} {l : am_L} (c : hp_C cst strs D) (hM : m_P[206]? = some M) (hD : (4 : Int) ≤ (D : Int) + 1) (hy : ly_hy m_tt ly_TH h) (p s f t w u g : Int) (b0 : (-2147483648) ≤ p) (t0 : p ≤ (-1)) (b1 : (-2147483648) ≤ s) (t1 : s ≤ 2147483647) (b2 : (-2147483648) ≤ f) (t2 : f ≤ 2147483647) (b3 : (-2147483648) ≤ t) (t3 : t ≤ 2147483647) (b4 : (-2147483648) ≤ w) (t4 : w ≤ 2147483647) (b5 : 0 ≤ u) (t5 : u ≤ 120) (b6 : 0 ≤ g) (t6 : g ≤ 399) (k0 : ly_hv cst h 1536 0 = some (u)) (k1 : ly_hv cst h 10 0 = some (g)) (l0 : hp_a l 0 16) (l1 : hp_i l 1 (p)) (l2 : hp_i l 2 (s)) (l3 : hp_i l 3 (f)) (l4 : hp_i l 4 (t)) (l5 : hp_i l 5 (w)) (r0 : ∀ (h' : am_H) (y0 : Int32), y0.toInt = (-2) → ly_hy m_tt ly_TH h' → ly_fr cst [] h h' → h.length ≤ h'.length → Φ (some (.int y0), h', 0, 0)) : hp_F cst strs Φ D M 0 l [] h := by
  refine hp_arc c hM bj0_k hD [p, s, f, t, w, u, g] rfl hy (hp_Bc (z := p) rfl b0 t0 (hp_Bc (z := s) rfl b1 t1 (hp_Bc (z := f) rfl b2 t2 (hp_Bc (z := t) rfl b3 t3 (hp_Bc (z := w) rfl b4 t4 (hp_Bc (z := u) rfl b5 t5 (hp_Bc (z := g) rfl b6 t6 hp_Bn))))))) hp_Fn (hp_Kc (zi := (0 + 0)) (zv := (0 + (1 * u + 0))) k0 rfl rfl (by omega) (by omega) (hp_Kc (zi := (0 + 0)) (zv := (0 + (1 * g + 0))) k1 rfl rfl (by omega) (by omega) hp_Kn)) (hp_La l0 (hp_Li (z := (0 + (1 * p + 0))) l1 rfl (by omega) (hp_Li (z := (0 + (1 * s + 0))) l2 rfl (by omega) (hp_Li (z := (0 + (1 * f + 0))) l3 rfl (by omega) (hp_Li (z := (0 + (1 * t + 0))) l4 rfl (by omega) (hp_Li (z := (0 + (1 * w + 0))) l5 rfl (by omega) hp_Ln)))))) trivial ?_ ?_
  · intro p hp ys l' st' h' hys a1 a2 a3 gZ gL gS
    cases hp
  · intro p hp ys v h' hys a1 a2 a3 gZ gS
    rcases List.mem_cons.mp hp with rfl | hp
    · obtain rfl := hp_y0 hys
      cases v with
      | none => cases gS
      | some w =>
        obtain ⟨y0, t0, s0, q0, -⟩ := hp_gSi (z := ((-2) + 0)) gS rfl
        cases s0
        exact r0 h' y0 (by omega) a1 a2 a3
    cases hp
theorem bj1_k : hp_chk 206 0 7 [(0, 0, 2147483647), (1, (-2147483648), 2147483647), (2, (-2147483648), 2147483647), (3, (-2147483648), 2147483647), (4, (-2147483648), 2147483647), (5, 0, 120), (6, 0, 399)] [(0, [(0, 1), (5, (-1))])] [(0, .inr (.inr (.inl (some 16)))), (1, .inl (0, [(0, 1)])), (2, .inl (0, [(1, 1)])), (3, .inl (0, [(2, 1)])), (4, .inl (0, [(3, 1)])), (5, .inl (0, [(4, 1)]))] [] [(1536, (0, []), (0, [(5, 1)])), (10, (0, []), (0, [(6, 1)]))] [] 4 [] [([], 7, [(0, 0, 2147483647), (1, (-2147483648), 2147483647), (2, (-2147483648), 2147483647), (3, (-2147483648), 2147483647), (4, (-2147483648), 2147483647), (5, 0, 120), (6, 0, 399)], [], [], [.inl ((-2), [])], [])] = true := by decide +kernel
theorem bj1 {cst : am_K} {strs : List Nat} {Φ : am_Q → Prop} {D : Nat} {M : am_M} {h : am_H} {l : am_L} (c : hp_C cst strs D) (hM : m_P[206]? = some M) (hD : (4 : Int) ≤ (D : Int) + 1) (hy : ly_hy m_tt ly_TH h) (p s f t w u g : Int) (b0 : 0 ≤ p) (t0 : p ≤ 2147483647) (b1 : (-2147483648) ≤ s) (t1 : s ≤ 2147483647) (b2 : (-2147483648) ≤ f) (t2 : f ≤ 2147483647) (b3 : (-2147483648) ≤ t) (t3 : t ≤ 2147483647) (b4 : (-2147483648) ≤ w) (t4 : w ≤ 2147483647) (b5 : 0 ≤ u) (t5 : u ≤ 120) (b6 : 0 ≤ g) (t6 : g ≤ 399) (f0 : 0 ≤ (p - u)) (k0 : ly_hv cst h 1536 0 = some (u)) (k1 : ly_hv cst h 10 0 = some (g)) (l0 : hp_a l 0 16) (l1 : hp_i l 1 (p)) (l2 : hp_i l 2 (s)) (l3 : hp_i l 3 (f)) (l4 : hp_i l 4 (t)) (l5 : hp_i l 5 (w)) (r0 : ∀ (h' : am_H) (y0 : Int32), y0.toInt = (-2) → ly_hy m_tt ly_TH h' → ly_fr cst [] h h' → h.length ≤ h'.length → Φ (some (.int y0), h', 0, 0)) : hp_F cst strs Φ D M 0 l [] h := by
  refine hp_arc c hM bj1_k hD [p, s, f, t, w, u, g] rfl hy (hp_Bc (z := p) rfl b0 t0 (hp_Bc (z := s) rfl b1 t1 (hp_Bc (z := f) rfl b2 t2 (hp_Bc (z := t) rfl b3 t3 (hp_Bc (z := w) rfl b4 t4 (hp_Bc (z := u) rfl b5 t5 (hp_Bc (z := g) rfl b6 t6 hp_Bn))))))) (hp_Fc (z := (0 + (1 * p + ((-1) * u + 0)))) rfl (by omega) hp_Fn) (hp_Kc (zi := (0 + 0)) (zv := (0 + (1 * u + 0))) k0 rfl rfl (by omega) (by omega) (hp_Kc (zi := (0 + 0)) (zv := (0 + (1 * g + 0))) k1 rfl rfl (by omega) (by omega) hp_Kn)) (hp_La l0 (hp_Li (z := (0 + (1 * p + 0))) l1 rfl (by omega) (hp_Li (z := (0 + (1 * s + 0))) l2 rfl (by omega) (hp_Li (z := (0 + (1 * f + 0))) l3 rfl (by omega) (hp_Li (z := (0 + (1 * t + 0))) l4 rfl (by omega) (hp_Li (z := (0 + (1 * w + 0))) l5 rfl (by omega) hp_Ln)))))) trivial ?_ ?_
  · intro p hp ys l' st' h' hys a1 a2 a3 gZ gL gS
    cases hp
  · intro p hp ys v h' hys a1 a2 a3 gZ gS
    rcases List.mem_cons.mp hp with rfl | hp
    · obtain rfl := hp_y0 hys
      cases v with
      | none => cases gS
      | some w =>
        obtain ⟨y0, t0, s0, q0, -⟩ := hp_gSi (z := ((-2) + 0)) gS rfl
        cases s0
        exact r0 h' y0 (by omega) a1 a2 a3
    cases hp
theorem bj2_k : hp_chk 206 0 7 [(0, 0, 119), (1, (-2147483648), (-1)), (2, (-2147483648), 2147483647), (3, (-2147483648), 2147483647), (4, (-2147483648), 2147483647), (5, 0, 120), (6, 0, 399)] [((-1), [(0, (-1)), (5, 1)])] [(0, .inr (.inr (.inl (some 16)))), (1, .inl (0, [(0, 1)])), (2, .inl (0, [(1, 1)])), (3, .inl (0, [(2, 1)])), (4, .inl (0, [(3, 1)])), (5, .inl (0, [(4, 1)]))] [] [(1536, (0, []), (0, [(5, 1)])), (10, (0, []), (0, [(6, 1)]))] [] 4 [] [([], 7, [(0, 0, 119), (1, (-2147483648), (-1)), (2, (-2147483648), 2147483647), (3, (-2147483648), 2147483647), (4, (-2147483648), 2147483647), (5, 0, 120), (6, 0, 399)], [], [], [.inl ((-2), [])], [])] = true := by decide +kernel
theorem bj2 {cst : am_K} {strs : List Nat} {Φ : am_Q → Prop} {D : Nat} {M : am_M} {h : am_H} {l : am_L} (c : hp_C cst strs D) (hM : m_P[206]? = some M) (hD : (4 : Int) ≤ (D : Int) + 1) (hy : ly_hy m_tt ly_TH h) (p s f t w u g : Int) (b0 : 0 ≤ p) (t0 : p ≤ 119) (b1 : (-2147483648) ≤ s) (t1 : s ≤ (-1)) (b2 : (-2147483648) ≤ f) (t2 : f ≤ 2147483647) (b3 : (-2147483648) ≤ t) (t3 : t ≤ 2147483647) (b4 : (-2147483648) ≤ w) (t4 : w ≤ 2147483647) (b5 : 0 ≤ u) (t5 : u ≤ 120) (b6 : 0 ≤ g) (t6 : g ≤ 399) (f0 : 0 ≤ (u - p - 1)) (k0 : ly_hv cst h 1536 0 = some (u)) (k1 : ly_hv cst h 10 0 = some (g)) (l0 : hp_a l 0 16) (l1 : hp_i l 1 (p)) (l2 : hp_i l 2 (s)) (l3 : hp_i l 3 (f)) (l4 : hp_i l 4 (t)) (l5 : hp_i l 5 (w)) (r0 : ∀ (h' : am_H) (y0 : Int32), y0.toInt = (-2) → ly_hy m_tt ly_TH h' → ly_fr cst [] h h' → h.length ≤ h'.length → Φ (some (.int y0), h', 0, 0)) : hp_F cst strs Φ D M 0 l [] h := by
  refine hp_arc c hM bj2_k hD [p, s, f, t, w, u, g] rfl hy (hp_Bc (z := p) rfl b0 t0 (hp_Bc (z := s) rfl b1 t1 (hp_Bc (z := f) rfl b2 t2 (hp_Bc (z := t) rfl b3 t3 (hp_Bc (z := w) rfl b4 t4 (hp_Bc (z := u) rfl b5 t5 (hp_Bc (z := g) rfl b6 t6 hp_Bn))))))) (hp_Fc (z := ((-1) + ((-1) * p + (1 * u + 0)))) rfl (by omega) hp_Fn) (hp_Kc (zi := (0 + 0)) (zv := (0 + (1 * u + 0))) k0 rfl rfl (by omega) (by omega) (hp_Kc (zi := (0 + 0)) (zv := (0 + (1 * g + 0))) k1 rfl rfl (by omega) (by omega) hp_Kn)) (hp_La l0 (hp_Li (z := (0 + (1 * p + 0))) l1 rfl (by omega) (hp_Li (z := (0 + (1 * s + 0))) l2 rfl (by omega) (hp_Li (z := (0 + (1 * f + 0))) l3 rfl (by omega) (hp_Li (z := (0 + (1 * t + 0))) l4 rfl (by omega) (hp_Li (z := (0 + (1 * w + 0))) l5 rfl (by omega) hp_Ln)))))) trivial ?_ ?_
  · intro p hp ys l' st' h' hys a1 a2 a3 gZ gL gS
    cases hp
  · intro p hp ys v h' hys a1 a2 a3 gZ gS
    rcases List.mem_cons.mp hp with rfl | hp
    · obtain rfl := hp_y0 hys
      cases v with
      | none => cases gS
      | some w =>
        obtain ⟨y0, t0, s0, q0, -⟩ := hp_gSi (z := ((-2) + 0)) gS rfl
        cases s0
        exact r0 h' y0 (by omega) a1 a2 a3
    cases hp
theorem bj3_k : hp_chk 206 0 7 [(0, 0, 119), (1, 6, 2147483647), (2, (-2147483648), 2147483647), (3, (-2147483648), 2147483647), (4, (-2147483648), 2147483647), (5, 0, 120), (6, 0, 399)] [((-1), [(0, (-1)), (5, 1)])] [(0, .inr (.inr (.inl (some 16)))), (1, .inl (0, [(0, 1)])), (2, .inl (0, [(1, 1)])), (3, .inl (0, [(2, 1)])), (4, .inl (0, [(3, 1)])), (5, .inl (0, [(4, 1)]))] [] [(1536, (0, []), (0, [(5, 1)])), (10, (0, []), (0, [(6, 1)]))] [] 4 [] [([], 7, [(0, 0, 119), (1, 6, 2147483647), (2, (-2147483648), 2147483647), (3, (-2147483648), 2147483647), (4, (-2147483648), 2147483647), (5, 0, 120), (6, 0, 399)], [], [], [.inl ((-2), [])], [])] = true := by decide +kernel
theorem bj3 {cst : am_K} {strs : List Nat} {Φ : am_Q → Prop} {D : Nat} {M : am_M} {h : am_H} {l : am_L} (c : hp_C cst strs D) (hM : m_P[206]? = some M) (hD : (4 : Int) ≤ (D : Int) + 1) (hy : ly_hy m_tt ly_TH h) (p s f t w u g : Int) (b0 : 0 ≤ p) (t0 : p ≤ 119) (b1 : 6 ≤ s) (t1 : s ≤ 2147483647) (b2 : (-2147483648) ≤ f) (t2 : f ≤ 2147483647) (b3 : (-2147483648) ≤ t) (t3 : t ≤ 2147483647) (b4 : (-2147483648) ≤ w) (t4 : w ≤ 2147483647) (b5 : 0 ≤ u) (t5 : u ≤ 120) (b6 : 0 ≤ g) (t6 : g ≤ 399) (f0 : 0 ≤ (u - p - 1)) (k0 : ly_hv cst h 1536 0 = some (u)) (k1 : ly_hv cst h 10 0 = some (g)) (l0 : hp_a l 0 16) (l1 : hp_i l 1 (p)) (l2 : hp_i l 2 (s)) (l3 : hp_i l 3 (f)) (l4 : hp_i l 4 (t)) (l5 : hp_i l 5 (w)) (r0 : ∀ (h' : am_H) (y0 : Int32), y0.toInt = (-2) → ly_hy m_tt ly_TH h' → ly_fr cst [] h h' → h.length ≤ h'.length → Φ (some (.int y0), h', 0, 0)) : hp_F cst strs Φ D M 0 l [] h := by
  refine hp_arc c hM bj3_k hD [p, s, f, t, w, u, g] rfl hy (hp_Bc (z := p) rfl b0 t0 (hp_Bc (z := s) rfl b1 t1 (hp_Bc (z := f) rfl b2 t2 (hp_Bc (z := t) rfl b3 t3 (hp_Bc (z := w) rfl b4 t4 (hp_Bc (z := u) rfl b5 t5 (hp_Bc (z := g) rfl b6 t6 hp_Bn))))))) (hp_Fc (z := ((-1) + ((-1) * p + (1 * u + 0)))) rfl (by omega) hp_Fn) (hp_Kc (zi := (0 + 0)) (zv := (0 + (1 * u + 0))) k0 rfl rfl (by omega) (by omega) (hp_Kc (zi := (0 + 0)) (zv := (0 + (1 * g + 0))) k1 rfl rfl (by omega) (by omega) hp_Kn)) (hp_La l0 (hp_Li (z := (0 + (1 * p + 0))) l1 rfl (by omega) (hp_Li (z := (0 + (1 * s + 0))) l2 rfl (by omega) (hp_Li (z := (0 + (1 * f + 0))) l3 rfl (by omega) (hp_Li (z := (0 + (1 * t + 0))) l4 rfl (by omega) (hp_Li (z := (0 + (1 * w + 0))) l5 rfl (by omega) hp_Ln)))))) trivial ?_ ?_
  · intro p hp ys l' st' h' hys a1 a2 a3 gZ gL gS
    cases hp
  · intro p hp ys v h' hys a1 a2 a3 gZ gS
    rcases List.mem_cons.mp hp with rfl | hp
    · obtain rfl := hp_y0 hys
      cases v with
      | none => cases gS
      | some w =>
        obtain ⟨y0, t0, s0, q0, -⟩ := hp_gSi (z := ((-2) + 0)) gS rfl
        cases s0
        exact r0 h' y0 (by omega) a1 a2 a3
    cases hp
theorem bj4_k : hp_chk 206 0 7 [(0, 0, 119), (1, 0, 5), (2, (-2147483648), (-1)), (3, (-2147483648), 2147483647), (4, (-2147483648), 2147483647), (5, 0, 120), (6, 0, 399)] [((-1), [(0, (-1)), (5, 1)])] [(0, .inr (.inr (.inl (some 16)))), (1, .inl (0, [(0, 1)])), (2, .inl (0, [(1, 1)])), (3, .inl (0, [(2, 1)])), (4, .inl (0, [(3, 1)])), (5, .inl (0, [(4, 1)]))] [] [(1536, (0, []), (0, [(5, 1)])), (10, (0, []), (0, [(6, 1)]))] [] 4 [] [([], 7, [(0, 0, 119), (1, 0, 5), (2, (-2147483648), (-1)), (3, (-2147483648), 2147483647), (4, (-2147483648), 2147483647), (5, 0, 120), (6, 0, 399)], [], [], [.inl ((-2), [])], [])] = true := by decide +kernel
theorem bj4 {cst : am_K} {strs : List Nat} {Φ : am_Q → Prop} {D : Nat} {M : am_M} {h : am_H} {l : am_L} (c : hp_C cst strs D) (hM : m_P[206]? = some M) (hD : (4 : Int) ≤ (D : Int) + 1) (hy : ly_hy m_tt ly_TH h) (p s f t w u g : Int) (b0 : 0 ≤ p) (t0 : p ≤ 119) (b1 : 0 ≤ s) (t1 : s ≤ 5) (b2 : (-2147483648) ≤ f) (t2 : f ≤ (-1)) (b3 : (-2147483648) ≤ t) (t3 : t ≤ 2147483647) (b4 : (-2147483648) ≤ w) (t4 : w ≤ 2147483647) (b5 : 0 ≤ u) (t5 : u ≤ 120) (b6 : 0 ≤ g) (t6 : g ≤ 399) (f0 : 0 ≤ (u - p - 1)) (k0 : ly_hv cst h 1536 0 = some (u)) (k1 : ly_hv cst h 10 0 = some (g)) (l0 : hp_a l 0 16) (l1 : hp_i l 1 (p)) (l2 : hp_i l 2 (s)) (l3 : hp_i l 3 (f)) (l4 : hp_i l 4 (t)) (l5 : hp_i l 5 (w)) (r0 : ∀ (h' : am_H) (y0 : Int32), y0.toInt = (-2) → ly_hy m_tt ly_TH h' → ly_fr cst [] h h' → h.length ≤ h'.length → Φ (some (.int y0), h', 0, 0)) : hp_F cst strs Φ D M 0 l [] h := by
  refine hp_arc c hM bj4_k hD [p, s, f, t, w, u, g] rfl hy (hp_Bc (z := p) rfl b0 t0 (hp_Bc (z := s) rfl b1 t1 (hp_Bc (z := f) rfl b2 t2 (hp_Bc (z := t) rfl b3 t3 (hp_Bc (z := w) rfl b4 t4 (hp_Bc (z := u) rfl b5 t5 (hp_Bc (z := g) rfl b6 t6 hp_Bn))))))) (hp_Fc (z := ((-1) + ((-1) * p + (1 * u + 0)))) rfl (by omega) hp_Fn) (hp_Kc (zi := (0 + 0)) (zv := (0 + (1 * u + 0))) k0 rfl rfl (by omega) (by omega) (hp_Kc (zi := (0 + 0)) (zv := (0 + (1 * g + 0))) k1 rfl rfl (by omega) (by omega) hp_Kn)) (hp_La l0 (hp_Li (z := (0 + (1 * p + 0))) l1 rfl (by omega) (hp_Li (z := (0 + (1 * s + 0))) l2 rfl (by omega) (hp_Li (z := (0 + (1 * f + 0))) l3 rfl (by omega) (hp_Li (z := (0 + (1 * t + 0))) l4 rfl (by omega) (hp_Li (z := (0 + (1 * w + 0))) l5 rfl (by omega) hp_Ln)))))) trivial ?_ ?_
  · intro p hp ys l' st' h' hys a1 a2 a3 gZ gL gS
    cases hp
  · intro p hp ys v h' hys a1 a2 a3 gZ gS
    rcases List.mem_cons.mp hp with rfl | hp
    · obtain rfl := hp_y0 hys
      cases v with
      | none => cases gS
      | some w =>
        obtain ⟨y0, t0, s0, q0, -⟩ := hp_gSi (z := ((-2) + 0)) gS rfl
        cases s0
        exact r0 h' y0 (by omega) a1 a2 a3
    cases hp
theorem bj5_k : hp_chk 206 0 7 [(0, 0, 119), (1, 0, 5), (2, 400, 2147483647), (3, (-2147483648), 2147483647), (4, (-2147483648), 2147483647), (5, 0, 120), (6, 0, 399)] [((-1), [(0, (-1)), (5, 1)])] [(0, .inr (.inr (.inl (some 16)))), (1, .inl (0, [(0, 1)])), (2, .inl (0, [(1, 1)])), (3, .inl (0, [(2, 1)])), (4, .inl (0, [(3, 1)])), (5, .inl (0, [(4, 1)]))] [] [(1536, (0, []), (0, [(5, 1)])), (10, (0, []), (0, [(6, 1)]))] [] 4 [] [([], 7, [(0, 0, 119), (1, 0, 5), (2, 400, 2147483647), (3, (-2147483648), 2147483647), (4, (-2147483648), 2147483647), (5, 0, 120), (6, 0, 399)], [], [], [.inl ((-2), [])], [])] = true := by decide +kernel
theorem bj5 {cst : am_K} {strs : List Nat} {Φ : am_Q → Prop} {D : Nat} {M : am_M} {h : am_H} {l : am_L} (c : hp_C cst strs D) (hM : m_P[206]? = some M) (hD : (4 : Int) ≤ (D : Int) + 1) (hy : ly_hy m_tt ly_TH h) (p s f t w u g : Int) (b0 : 0 ≤ p) (t0 : p ≤ 119) (b1 : 0 ≤ s) (t1 : s ≤ 5) (b2 : 400 ≤ f) (t2 : f ≤ 2147483647) (b3 : (-2147483648) ≤ t) (t3 : t ≤ 2147483647) (b4 : (-2147483648) ≤ w) (t4 : w ≤ 2147483647) (b5 : 0 ≤ u) (t5 : u ≤ 120) (b6 : 0 ≤ g) (t6 : g ≤ 399) (f0 : 0 ≤ (u - p - 1)) (k0 : ly_hv cst h 1536 0 = some (u)) (k1 : ly_hv cst h 10 0 = some (g)) (l0 : hp_a l 0 16) (l1 : hp_i l 1 (p)) (l2 : hp_i l 2 (s)) (l3 : hp_i l 3 (f)) (l4 : hp_i l 4 (t)) (l5 : hp_i l 5 (w)) (r0 : ∀ (h' : am_H) (y0 : Int32), y0.toInt = (-2) → ly_hy m_tt ly_TH h' → ly_fr cst [] h h' → h.length ≤ h'.length → Φ (some (.int y0), h', 0, 0)) : hp_F cst strs Φ D M 0 l [] h := by
  refine hp_arc c hM bj5_k hD [p, s, f, t, w, u, g] rfl hy (hp_Bc (z := p) rfl b0 t0 (hp_Bc (z := s) rfl b1 t1 (hp_Bc (z := f) rfl b2 t2 (hp_Bc (z := t) rfl b3 t3 (hp_Bc (z := w) rfl b4 t4 (hp_Bc (z := u) rfl b5 t5 (hp_Bc (z := g) rfl b6 t6 hp_Bn))))))) (hp_Fc (z := ((-1) + ((-1) * p + (1 * u + 0)))) rfl (by omega) hp_Fn) (hp_Kc (zi := (0 + 0)) (zv := (0 + (1 * u + 0))) k0 rfl rfl (by omega) (by omega) (hp_Kc (zi := (0 + 0)) (zv := (0 + (1 * g + 0))) k1 rfl rfl (by omega) (by omega) hp_Kn)) (hp_La l0 (hp_Li (z := (0 + (1 * p + 0))) l1 rfl (by omega) (hp_Li (z := (0 + (1 * s + 0))) l2 rfl (by omega) (hp_Li (z := (0 + (1 * f + 0))) l3 rfl (by omega) (hp_Li (z := (0 + (1 * t + 0))) l4 rfl (by omega) (hp_Li (z := (0 + (1 * w + 0))) l5 rfl (by omega) hp_Ln)))))) trivial ?_ ?_
  · intro p hp ys l' st' h' hys a1 a2 a3 gZ gL gS
    cases hp
  · intro p hp ys v h' hys a1 a2 a3 gZ gS
    rcases List.mem_cons.mp hp with rfl | hp
    · obtain rfl := hp_y0 hys
      cases v with
      | none => cases gS
      | some w =>
        obtain ⟨y0, t0, s0, q0, -⟩ := hp_gSi (z := ((-2) + 0)) gS rfl
        cases s0
        exact r0 h' y0 (by omega) a1 a2 a3
    cases hp
theorem bj6_k : hp_chk 206 0 7 [(0, 0, 119), (1, 0, 5), (2, 0, 399), (3, (-2147483648), (-1)), (4, (-2147483648), 2147483647), (5, 0, 120), (6, 0, 399)] [((-1), [(0, (-1)), (5, 1)])] [(0, .inr (.inr (.inl (some 16)))), (1, .inl (0, [(0, 1)])), (2, .inl (0, [(1, 1)])), (3, .inl (0, [(2, 1)])), (4, .inl (0, [(3, 1)])), (5, .inl (0, [(4, 1)]))] [] [(1536, (0, []), (0, [(5, 1)])), (10, (0, []), (0, [(6, 1)]))] [] 4 [] [([], 7, [(0, 0, 119), (1, 0, 5), (2, 0, 399), (3, (-2147483648), (-1)), (4, (-2147483648), 2147483647), (5, 0, 120), (6, 0, 399)], [], [], [.inl ((-2), [])], [])] = true := by decide +kernel
theorem bj6 {cst : am_K} {strs : List Nat} {Φ : am_Q → Prop} {D : Nat} {M : am_M} {h : am_H} {l : am_L} (c : hp_C cst strs D) (hM : m_P[206]? = some M) (hD : (4 : Int) ≤ (D : Int) + 1) (hy : ly_hy m_tt ly_TH h) (p s f t w u g : Int) (b0 : 0 ≤ p) (t0 : p ≤ 119) (b1 : 0 ≤ s) (t1 : s ≤ 5) (b2 : 0 ≤ f) (t2 : f ≤ 399) (b3 : (-2147483648) ≤ t) (t3 : t ≤ (-1)) (b4 : (-2147483648) ≤ w) (t4 : w ≤ 2147483647) (b5 : 0 ≤ u) (t5 : u ≤ 120) (b6 : 0 ≤ g) (t6 : g ≤ 399) (f0 : 0 ≤ (u - p - 1)) (k0 : ly_hv cst h 1536 0 = some (u)) (k1 : ly_hv cst h 10 0 = some (g)) (l0 : hp_a l 0 16) (l1 : hp_i l 1 (p)) (l2 : hp_i l 2 (s)) (l3 : hp_i l 3 (f)) (l4 : hp_i l 4 (t)) (l5 : hp_i l 5 (w)) (r0 : ∀ (h' : am_H) (y0 : Int32), y0.toInt = (-2) → ly_hy m_tt ly_TH h' → ly_fr cst [] h h' → h.length ≤ h'.length → Φ (some (.int y0), h', 0, 0)) : hp_F cst strs Φ D M 0 l [] h := by
  refine hp_arc c hM bj6_k hD [p, s, f, t, w, u, g] rfl hy (hp_Bc (z := p) rfl b0 t0 (hp_Bc (z := s) rfl b1 t1 (hp_Bc (z := f) rfl b2 t2 (hp_Bc (z := t) rfl b3 t3 (hp_Bc (z := w) rfl b4 t4 (hp_Bc (z := u) rfl b5 t5 (hp_Bc (z := g) rfl b6 t6 hp_Bn))))))) (hp_Fc (z := ((-1) + ((-1) * p + (1 * u + 0)))) rfl (by omega) hp_Fn) (hp_Kc (zi := (0 + 0)) (zv := (0 + (1 * u + 0))) k0 rfl rfl (by omega) (by omega) (hp_Kc (zi := (0 + 0)) (zv := (0 + (1 * g + 0))) k1 rfl rfl (by omega) (by omega) hp_Kn)) (hp_La l0 (hp_Li (z := (0 + (1 * p + 0))) l1 rfl (by omega) (hp_Li (z := (0 + (1 * s + 0))) l2 rfl (by omega) (hp_Li (z := (0 + (1 * f + 0))) l3 rfl (by omega) (hp_Li (z := (0 + (1 * t + 0))) l4 rfl (by omega) (hp_Li (z := (0 + (1 * w + 0))) l5 rfl (by omega) hp_Ln)))))) trivial ?_ ?_
  · intro p hp ys l' st' h' hys a1 a2 a3 gZ gL gS
    cases hp
  · intro p hp ys v h' hys a1 a2 a3 gZ gS
    rcases List.mem_cons.mp hp with rfl | hp
    · obtain rfl := hp_y0 hys
      cases v with
      | none => cases gS
      | some w =>
        obtain ⟨y0, t0, s0, q0, -⟩ := hp_gSi (z := ((-2) + 0)) gS rfl
        cases s0
        exact r0 h' y0 (by omega) a1 a2 a3
    cases hp
theorem bj7_k : hp_chk 206 0 7 [(0, 0, 119), (1, 0, 5), (2, 0, 399), (3, 400, 2147483647), (4, (-2147483648), 2147483647), (5, 0, 120), (6, 0, 399)] [((-1), [(0, (-1)), (5, 1)])] [(0, .inr (.inr (.inl (some 16)))), (1, .inl (0, [(0, 1)])), (2, .inl (0, [(1, 1)])), (3, .inl (0, [(2, 1)])), (4, .inl (0, [(3, 1)])), (5, .inl (0, [(4, 1)]))] [] [(1536, (0, []), (0, [(5, 1)])), (10, (0, []), (0, [(6, 1)]))] [] 4 [] [([], 7, [(0, 0, 119), (1, 0, 5), (2, 0, 399), (3, 400, 2147483647), (4, (-2147483648), 2147483647), (5, 0, 120), (6, 0, 399)], [], [], [.inl ((-2), [])], [])] = true := by decide +kernel
theorem bj7 {cst : am_K} {strs : List Nat} {Φ : am_Q → Prop} {D : Nat} {M : am_M} {h : am_H} {l : am_L} (c : hp_C cst strs D) (hM : m_P[206]? = some M) (hD : (4 : Int) ≤ (D : Int) + 1) (hy : ly_hy m_tt ly_TH h) (p s f t w u g : Int) (b0 : 0 ≤ p) (t0 : p ≤ 119) (b1 : 0 ≤ s) (t1 : s ≤ 5) (b2 : 0 ≤ f) (t2 : f ≤ 399) (b3 : 400 ≤ t) (t3 : t ≤ 2147483647) (b4 : (-2147483648) ≤ w) (t4 : w ≤ 2147483647) (b5 : 0 ≤ u) (t5 : u ≤ 120) (b6 : 0 ≤ g) (t6 : g ≤ 399) (f0 : 0 ≤ (u - p - 1)) (k0 : ly_hv cst h 1536 0 = some (u)) (k1 : ly_hv cst h 10 0 = some (g)) (l0 : hp_a l 0 16) (l1 : hp_i l 1 (p)) (l2 : hp_i l 2 (s)) (l3 : hp_i l 3 (f)) (l4 : hp_i l 4 (t)) (l5 : hp_i l 5 (w)) (r0 : ∀ (h' : am_H) (y0 : Int32), y0.toInt = (-2) → ly_hy m_tt ly_TH h' → ly_fr cst [] h h' → h.length ≤ h'.length → Φ (some (.int y0), h', 0, 0)) : hp_F cst strs Φ D M 0 l [] h := by
  refine hp_arc c hM bj7_k hD [p, s, f, t, w, u, g] rfl hy (hp_Bc (z := p) rfl b0 t0 (hp_Bc (z := s) rfl b1 t1 (hp_Bc (z := f) rfl b2 t2 (hp_Bc (z := t) rfl b3 t3 (hp_Bc (z := w) rfl b4 t4 (hp_Bc (z := u) rfl b5 t5 (hp_Bc (z := g) rfl b6 t6 hp_Bn))))))) (hp_Fc (z := ((-1) + ((-1) * p + (1 * u + 0)))) rfl (by omega) hp_Fn) (hp_Kc (zi := (0 + 0)) (zv := (0 + (1 * u + 0))) k0 rfl rfl (by omega) (by omega) (hp_Kc (zi := (0 + 0)) (zv := (0 + (1 * g + 0))) k1 rfl rfl (by omega) (by omega) hp_Kn)) (hp_La l0 (hp_Li (z := (0 + (1 * p + 0))) l1 rfl (by omega) (hp_Li (z := (0 + (1 * s + 0))) l2 rfl (by omega) (hp_Li (z := (0 + (1 * f + 0))) l3 rfl (by omega) (hp_Li (z := (0 + (1 * t + 0))) l4 rfl (by omega) (hp_Li (z := (0 + (1 * w + 0))) l5 rfl (by omega) hp_Ln)))))) trivial ?_ ?_
  · intro p hp ys l' st' h' hys a1 a2 a3 gZ gL gS
    cases hp
  · intro p hp ys v h' hys a1 a2 a3 gZ gS
    rcases List.mem_cons.mp hp with rfl | hp
    · obtain rfl := hp_y0 hys
      cases v with
      | none => cases gS
      | some w =>
        obtain ⟨y0, t0, s0, q0, -⟩ := hp_gSi (z := ((-2) + 0)) gS rfl
        cases s0
        exact r0 h' y0 (by omega) a1 a2 a3
    cases hp
theorem bj8_k : hp_chk 206 0 7 [(0, 0, 119), (1, 0, 5), (2, 0, 399), (3, 0, 399), (4, (-2147483648), 2147483647), (5, 0, 120), (6, 0, 399)] [((-1), [(0, (-1)), (5, 1)]), ((-1), [(2, 1), (3, (-1))])] [(0, .inr (.inr (.inl (some 16)))), (1, .inl (0, [(0, 1)])), (2, .inl (0, [(1, 1)])), (3, .inl (0, [(2, 1)])), (4, .inl (0, [(3, 1)])), (5, .inl (0, [(4, 1)]))] [] [(1536, (0, []), (0, [(5, 1)])), (10, (0, []), (0, [(6, 1)]))] [] 4 [] [([], 7, [(0, 0, 119), (1, 0, 5), (2, 0, 399), (3, 0, 399), (4, (-2147483648), 2147483647), (5, 0, 120), (6, 0, 399)], [], [], [.inl ((-2), [])], [])] = true := by decide +kernel
theorem bj8 {cst : am_K} {strs : List Nat} {Φ : am_Q → Prop} {D : Nat} {M : am_M} {h : am_H} {l : am_L} (c : hp_C cst strs D) (hM : m_P[206]? = some M) (hD : (4 : Int) ≤ (D : Int) + 1) (hy : ly_hy m_tt ly_TH h) (p s f t w u g : Int) (b0 : 0 ≤ p) (t0 : p ≤ 119) (b1 : 0 ≤ s) (t1 : s ≤ 5) (b2 : 0 ≤ f) (t2 : f ≤ 399) (b3 : 0 ≤ t) (t3 : t ≤ 399) (b4 : (-2147483648) ≤ w) (t4 : w ≤ 2147483647) (b5 : 0 ≤ u) (t5 : u ≤ 120) (b6 : 0 ≤ g) (t6 : g ≤ 399) (f0 : 0 ≤ (u - p - 1)) (f1 : 0 ≤ (f - t - 1)) (k0 : ly_hv cst h 1536 0 = some (u)) (k1 : ly_hv cst h 10 0 = some (g)) (l0 : hp_a l 0 16) (l1 : hp_i l 1 (p)) (l2 : hp_i l 2 (s)) (l3 : hp_i l 3 (f)) (l4 : hp_i l 4 (t)) (l5 : hp_i l 5 (w)) (r0 : ∀ (h' : am_H) (y0 : Int32), y0.toInt = (-2) → ly_hy m_tt ly_TH h' → ly_fr cst [] h h' → h.length ≤ h'.length → Φ (some (.int y0), h', 0, 0)) : hp_F cst strs Φ D M 0 l [] h := by
  refine hp_arc c hM bj8_k hD [p, s, f, t, w, u, g] rfl hy (hp_Bc (z := p) rfl b0 t0 (hp_Bc (z := s) rfl b1 t1 (hp_Bc (z := f) rfl b2 t2 (hp_Bc (z := t) rfl b3 t3 (hp_Bc (z := w) rfl b4 t4 (hp_Bc (z := u) rfl b5 t5 (hp_Bc (z := g) rfl b6 t6 hp_Bn))))))) (hp_Fc (z := ((-1) + ((-1) * p + (1 * u + 0)))) rfl (by omega) (hp_Fc (z := ((-1) + (1 * f + ((-1) * t + 0)))) rfl (by omega) hp_Fn)) (hp_Kc (zi := (0 + 0)) (zv := (0 + (1 * u + 0))) k0 rfl rfl (by omega) (by omega) (hp_Kc (zi := (0 + 0)) (zv := (0 + (1 * g + 0))) k1 rfl rfl (by omega) (by omega) hp_Kn)) (hp_La l0 (hp_Li (z := (0 + (1 * p + 0))) l1 rfl (by omega) (hp_Li (z := (0 + (1 * s + 0))) l2 rfl (by omega) (hp_Li (z := (0 + (1 * f + 0))) l3 rfl (by omega) (hp_Li (z := (0 + (1 * t + 0))) l4 rfl (by omega) (hp_Li (z := (0 + (1 * w + 0))) l5 rfl (by omega) hp_Ln)))))) trivial ?_ ?_
  · intro p hp ys l' st' h' hys a1 a2 a3 gZ gL gS
    cases hp
  · intro p hp ys v h' hys a1 a2 a3 gZ gS
    rcases List.mem_cons.mp hp with rfl | hp
    · obtain rfl := hp_y0 hys
      cases v with
      | none => cases gS
      | some w =>
        obtain ⟨y0, t0, s0, q0, -⟩ := hp_gSi (z := ((-2) + 0)) gS rfl
        cases s0
        exact r0 h' y0 (by omega) a1 a2 a3
    cases hp
theorem bj9_k : hp_chk 206 0 7 [(0, 0, 119), (1, 0, 5), (2, 0, 399), (3, 0, 399), (4, (-2147483648), 2147483647), (5, 0, 120), (6, 0, 399)] [((-1), [(0, (-1)), (5, 1)]), ((-1), [(3, (-1)), (6, 1)]), (0, [(2, (-1)), (3, 1)])] [(0, .inr (.inr (.inl (some 16)))), (1, .inl (0, [(0, 1)])), (2, .inl (0, [(1, 1)])), (3, .inl (0, [(2, 1)])), (4, .inl (0, [(3, 1)])), (5, .inl (0, [(4, 1)]))] [] [(1536, (0, []), (0, [(5, 1)])), (10, (0, []), (0, [(6, 1)]))] [] 4 [] [([], 7, [(0, 0, 119), (1, 0, 5), (2, 0, 399), (3, 0, 399), (4, (-2147483648), 2147483647), (5, 0, 120), (6, 0, 399)], [], [], [.inl ((-2), [])], [])] = true := by decide +kernel
theorem bj9 {cst : am_K} {strs : List Nat} {Φ : am_Q → Prop} {D : Nat} {M : am_M} {h : am_H} {l : am_L} (c : hp_C cst strs D) (hM : m_P[206]? = some M) (hD : (4 : Int) ≤ (D : Int) + 1) (hy : ly_hy m_tt ly_TH h) (p s f t w u g : Int) (b0 : 0 ≤ p) (t0 : p ≤ 119) (b1 : 0 ≤ s) (t1 : s ≤ 5) (b2 : 0 ≤ f) (t2 : f ≤ 399) (b3 : 0 ≤ t) (t3 : t ≤ 399) (b4 : (-2147483648) ≤ w) (t4 : w ≤ 2147483647) (b5 : 0 ≤ u) (t5 : u ≤ 120) (b6 : 0 ≤ g) (t6 : g ≤ 399) (f0 : 0 ≤ (u - p - 1)) (f1 : 0 ≤ (g - t - 1)) (f2 : 0 ≤ (t - f)) (k0 : ly_hv cst h 1536 0 = some (u)) (k1 : ly_hv cst h 10 0 = some (g)) (l0 : hp_a l 0 16) (l1 : hp_i l 1 (p)) (l2 : hp_i l 2 (s)) (l3 : hp_i l 3 (f)) (l4 : hp_i l 4 (t)) (l5 : hp_i l 5 (w)) (r0 : ∀ (h' : am_H) (y0 : Int32), y0.toInt = (-2) → ly_hy m_tt ly_TH h' → ly_fr cst [] h h' → h.length ≤ h'.length → Φ (some (.int y0), h', 0, 0)) : hp_F cst strs Φ D M 0 l [] h := by
  refine hp_arc c hM bj9_k hD [p, s, f, t, w, u, g] rfl hy (hp_Bc (z := p) rfl b0 t0 (hp_Bc (z := s) rfl b1 t1 (hp_Bc (z := f) rfl b2 t2 (hp_Bc (z := t) rfl b3 t3 (hp_Bc (z := w) rfl b4 t4 (hp_Bc (z := u) rfl b5 t5 (hp_Bc (z := g) rfl b6 t6 hp_Bn))))))) (hp_Fc (z := ((-1) + ((-1) * p + (1 * u + 0)))) rfl (by omega) (hp_Fc (z := ((-1) + ((-1) * t + (1 * g + 0)))) rfl (by omega) (hp_Fc (z := (0 + ((-1) * f + (1 * t + 0)))) rfl (by omega) hp_Fn))) (hp_Kc (zi := (0 + 0)) (zv := (0 + (1 * u + 0))) k0 rfl rfl (by omega) (by omega) (hp_Kc (zi := (0 + 0)) (zv := (0 + (1 * g + 0))) k1 rfl rfl (by omega) (by omega) hp_Kn)) (hp_La l0 (hp_Li (z := (0 + (1 * p + 0))) l1 rfl (by omega) (hp_Li (z := (0 + (1 * s + 0))) l2 rfl (by omega) (hp_Li (z := (0 + (1 * f + 0))) l3 rfl (by omega) (hp_Li (z := (0 + (1 * t + 0))) l4 rfl (by omega) (hp_Li (z := (0 + (1 * w + 0))) l5 rfl (by omega) hp_Ln)))))) trivial ?_ ?_
  · intro p hp ys l' st' h' hys a1 a2 a3 gZ gL gS
    cases hp
  · intro p hp ys v h' hys a1 a2 a3 gZ gS
    rcases List.mem_cons.mp hp with rfl | hp
    · obtain rfl := hp_y0 hys
      cases v with
      | none => cases gS
      | some w =>
        obtain ⟨y0, t0, s0, q0, -⟩ := hp_gSi (z := ((-2) + 0)) gS rfl
        cases s0
        exact r0 h' y0 (by omega) a1 a2 a3
    cases hp
theorem bja_k : hp_chk 206 0 7 [(0, 0, 119), (1, 0, 5), (2, 0, 399), (3, 0, 399), (4, (-2147483648), 0), (5, 0, 120), (6, 0, 399)] [((-1), [(0, (-1)), (5, 1)]), (0, [(2, (-1)), (3, 1)]), (0, [(3, 1), (6, (-1))])] [(0, .inr (.inr (.inl (some 16)))), (1, .inl (0, [(0, 1)])), (2, .inl (0, [(1, 1)])), (3, .inl (0, [(2, 1)])), (4, .inl (0, [(3, 1)])), (5, .inl (0, [(4, 1)]))] [] [(1536, (0, []), (0, [(5, 1)])), (10, (0, []), (0, [(6, 1)]))] [] 4 [] [([], 7, [(0, 0, 119), (1, 0, 5), (2, 0, 399), (3, 0, 399), (4, (-2147483648), 0), (5, 0, 120), (6, 0, 399)], [], [], [.inl ((-2), [])], [])] = true := by decide +kernel
theorem bja {cst : am_K} {strs : List Nat} {Φ : am_Q → Prop} {D : Nat} {M : am_M} {h : am_H} {l : am_L} (c : hp_C cst strs D) (hM : m_P[206]? = some M) (hD : (4 : Int) ≤ (D : Int) + 1) (hy : ly_hy m_tt ly_TH h) (p s f t w u g : Int) (b0 : 0 ≤ p) (t0 : p ≤ 119) (b1 : 0 ≤ s) (t1 : s ≤ 5) (b2 : 0 ≤ f) (t2 : f ≤ 399) (b3 : 0 ≤ t) (t3 : t ≤ 399) (b4 : (-2147483648) ≤ w) (t4 : w ≤ 0) (b5 : 0 ≤ u) (t5 : u ≤ 120) (b6 : 0 ≤ g) (t6 : g ≤ 399) (f0 : 0 ≤ (u - p - 1)) (f1 : 0 ≤ (t - f)) (f2 : 0 ≤ (t - g)) (k0 : ly_hv cst h 1536 0 = some (u)) (k1 : ly_hv cst h 10 0 = some (g)) (l0 : hp_a l 0 16) (l1 : hp_i l 1 (p)) (l2 : hp_i l 2 (s)) (l3 : hp_i l 3 (f)) (l4 : hp_i l 4 (t)) (l5 : hp_i l 5 (w)) (r0 : ∀ (h' : am_H) (y0 : Int32), y0.toInt = (-2) → ly_hy m_tt ly_TH h' → ly_fr cst [] h h' → h.length ≤ h'.length → Φ (some (.int y0), h', 0, 0)) : hp_F cst strs Φ D M 0 l [] h := by
  refine hp_arc c hM bja_k hD [p, s, f, t, w, u, g] rfl hy (hp_Bc (z := p) rfl b0 t0 (hp_Bc (z := s) rfl b1 t1 (hp_Bc (z := f) rfl b2 t2 (hp_Bc (z := t) rfl b3 t3 (hp_Bc (z := w) rfl b4 t4 (hp_Bc (z := u) rfl b5 t5 (hp_Bc (z := g) rfl b6 t6 hp_Bn))))))) (hp_Fc (z := ((-1) + ((-1) * p + (1 * u + 0)))) rfl (by omega) (hp_Fc (z := (0 + ((-1) * f + (1 * t + 0)))) rfl (by omega) (hp_Fc (z := (0 + (1 * t + ((-1) * g + 0)))) rfl (by omega) hp_Fn))) (hp_Kc (zi := (0 + 0)) (zv := (0 + (1 * u + 0))) k0 rfl rfl (by omega) (by omega) (hp_Kc (zi := (0 + 0)) (zv := (0 + (1 * g + 0))) k1 rfl rfl (by omega) (by omega) hp_Kn)) (hp_La l0 (hp_Li (z := (0 + (1 * p + 0))) l1 rfl (by omega) (hp_Li (z := (0 + (1 * s + 0))) l2 rfl (by omega) (hp_Li (z := (0 + (1 * f + 0))) l3 rfl (by omega) (hp_Li (z := (0 + (1 * t + 0))) l4 rfl (by omega) (hp_Li (z := (0 + (1 * w + 0))) l5 rfl (by omega) hp_Ln)))))) trivial ?_ ?_
  · intro p hp ys l' st' h' hys a1 a2 a3 gZ gL gS
    cases hp
  · intro p hp ys v h' hys a1 a2 a3 gZ gS
    rcases List.mem_cons.mp hp with rfl | hp
    · obtain rfl := hp_y0 hys
      cases v with
      | none => cases gS
      | some w =>
        obtain ⟨y0, t0, s0, q0, -⟩ := hp_gSi (z := ((-2) + 0)) gS rfl
        cases s0
        exact r0 h' y0 (by omega) a1 a2 a3
    cases hp
theorem bjb_k : hp_chk 206 0 7 [(0, 0, 119), (1, 0, 5), (2, 0, 399), (3, 0, 399), (4, 10000, 2147483647), (5, 0, 120), (6, 0, 399)] [((-1), [(0, (-1)), (5, 1)]), (0, [(2, (-1)), (3, 1)]), (0, [(3, 1), (6, (-1))])] [(0, .inr (.inr (.inl (some 16)))), (1, .inl (0, [(0, 1)])), (2, .inl (0, [(1, 1)])), (3, .inl (0, [(2, 1)])), (4, .inl (0, [(3, 1)])), (5, .inl (0, [(4, 1)]))] [] [(1536, (0, []), (0, [(5, 1)])), (10, (0, []), (0, [(6, 1)]))] [] 4 [] [([], 7, [(0, 0, 119), (1, 0, 5), (2, 0, 399), (3, 0, 399), (4, 10000, 2147483647), (5, 0, 120), (6, 0, 399)], [], [], [.inl ((-2), [])], [])] = true := by decide +kernel
theorem bjb {cst : am_K} {strs : List Nat} {Φ : am_Q → Prop} {D : Nat} {M : am_M} {h : am_H} {l : am_L} (c : hp_C cst strs D) (hM : m_P[206]? = some M) (hD : (4 : Int) ≤ (D : Int) + 1) (hy : ly_hy m_tt ly_TH h) (p s f t w u g : Int) (b0 : 0 ≤ p) (t0 : p ≤ 119) (b1 : 0 ≤ s) (t1 : s ≤ 5) (b2 : 0 ≤ f) (t2 : f ≤ 399) (b3 : 0 ≤ t) (t3 : t ≤ 399) (b4 : 10000 ≤ w) (t4 : w ≤ 2147483647) (b5 : 0 ≤ u) (t5 : u ≤ 120) (b6 : 0 ≤ g) (t6 : g ≤ 399) (f0 : 0 ≤ (u - p - 1)) (f1 : 0 ≤ (t - f)) (f2 : 0 ≤ (t - g)) (k0 : ly_hv cst h 1536 0 = some (u)) (k1 : ly_hv cst h 10 0 = some (g)) (l0 : hp_a l 0 16) (l1 : hp_i l 1 (p)) (l2 : hp_i l 2 (s)) (l3 : hp_i l 3 (f)) (l4 : hp_i l 4 (t)) (l5 : hp_i l 5 (w)) (r0 : ∀ (h' : am_H) (y0 : Int32), y0.toInt = (-2) → ly_hy m_tt ly_TH h' → ly_fr cst [] h h' → h.length ≤ h'.length → Φ (some (.int y0), h', 0, 0)) : hp_F cst strs Φ D M 0 l [] h := by
  refine hp_arc c hM bjb_k hD [p, s, f, t, w, u, g] rfl hy (hp_Bc (z := p) rfl b0 t0 (hp_Bc (z := s) rfl b1 t1 (hp_Bc (z := f) rfl b2 t2 (hp_Bc (z := t) rfl b3 t3 (hp_Bc (z := w) rfl b4 t4 (hp_Bc (z := u) rfl b5 t5 (hp_Bc (z := g) rfl b6 t6 hp_Bn))))))) (hp_Fc (z := ((-1) + ((-1) * p + (1 * u + 0)))) rfl (by omega) (hp_Fc (z := (0 + ((-1) * f + (1 * t + 0)))) rfl (by omega) (hp_Fc (z := (0 + (1 * t + ((-1) * g + 0)))) rfl (by omega) hp_Fn))) (hp_Kc (zi := (0 + 0)) (zv := (0 + (1 * u + 0))) k0 rfl rfl (by omega) (by omega) (hp_Kc (zi := (0 + 0)) (zv := (0 + (1 * g + 0))) k1 rfl rfl (by omega) (by omega) hp_Kn)) (hp_La l0 (hp_Li (z := (0 + (1 * p + 0))) l1 rfl (by omega) (hp_Li (z := (0 + (1 * s + 0))) l2 rfl (by omega) (hp_Li (z := (0 + (1 * f + 0))) l3 rfl (by omega) (hp_Li (z := (0 + (1 * t + 0))) l4 rfl (by omega) (hp_Li (z := (0 + (1 * w + 0))) l5 rfl (by omega) hp_Ln)))))) trivial ?_ ?_
  · intro p hp ys l' st' h' hys a1 a2 a3 gZ gL gS
    cases hp
  · intro p hp ys v h' hys a1 a2 a3 gZ gS
    rcases List.mem_cons.mp hp with rfl | hp
    · obtain rfl := hp_y0 hys
      cases v with
      | none => cases gS
      | some w =>
        obtain ⟨y0, t0, s0, q0, -⟩ := hp_gSi (z := ((-2) + 0)) gS rfl
        cases s0
        exact r0 h' y0 (by omega) a1 a2 a3
    cases hp
theorem bk0_k : hp_chk 386 0 7 [(0, (-2147483648), (-1)), (1, (-2147483648), 2147483647), (2, (-2147483648), 2147483647), (3, (-2147483648), 2147483647), (4, (-2147483648), 2147483647), (5, 0, 120), (6, 0, 399)] [] [(0, .inr (.inr (.inl (some 94)))), (1, .inl (0, [(0, 1)])), (2, .inl (0, [(1, 1)])), (3, .inl (0, [(2, 1)])), (4, .inl (0, [(3, 1)])), (5, .inl (0, [(4, 1)]))] [] [(19978, (0, []), (0, [(5, 1)])), (19977, (0, []), (0, [(6, 1)]))] [] 4 [] [([], 7, [(0, (-2147483648), (-1)), (1, (-2147483648), 2147483647), (2, (-2147483648), 2147483647), (3, (-2147483648), 2147483647), (4, (-2147483648), 2147483647), (5, 0, 120), (6, 0, 399)], [], [], [.inl ((-2), [])], [])] = true := by decide +kernel
theorem bk0 {cst : am_K} {strs : List Nat} {Φ : am_Q → Prop} {D : Nat} {M : am_M} {h : am_H} {l : am_L} (c : hp_C cst strs D) (hM : m_P[386]? = some M) (hD : (4 : Int) ≤ (D : Int) + 1) (hy : ly_hy m_tt ly_TH h) (p s f t w u g : Int) (b0 : (-2147483648) ≤ p) (t0 : p ≤ (-1)) (b1 : (-2147483648) ≤ s) (t1 : s ≤ 2147483647) (b2 : (-2147483648) ≤ f) (t2 : f ≤ 2147483647) (b3 : (-2147483648) ≤ t) (t3 : t ≤ 2147483647) (b4 : (-2147483648) ≤ w) (t4 : w ≤ 2147483647) (b5 : 0 ≤ u) (t5 : u ≤ 120) (b6 : 0 ≤ g) (t6 : g ≤ 399) (k0 : ly_hv cst h 19978 0 = some (u)) (k1 : ly_hv cst h 19977 0 = some (g)) (l0 : hp_a l 0 94) (l1 : hp_i l 1 (p)) (l2 : hp_i l 2 (s)) (l3 : hp_i l 3 (f)) (l4 : hp_i l 4 (t)) (l5 : hp_i l 5 (w)) (r0 : ∀ (h' : am_H) (y0 : Int32), y0.toInt = (-2) → ly_hy m_tt ly_TH h' → ly_fr cst [] h h' → h.length ≤ h'.length → Φ (some (.int y0), h', 0, 0)) : hp_F cst strs Φ D M 0 l [] h := by
  refine hp_arc c hM bk0_k hD [p, s, f, t, w, u, g] rfl hy (hp_Bc (z := p) rfl b0 t0 (hp_Bc (z := s) rfl b1 t1 (hp_Bc (z := f) rfl b2 t2 (hp_Bc (z := t) rfl b3 t3 (hp_Bc (z := w) rfl b4 t4 (hp_Bc (z := u) rfl b5 t5 (hp_Bc (z := g) rfl b6 t6 hp_Bn))))))) hp_Fn (hp_Kc (zi := (0 + 0)) (zv := (0 + (1 * u + 0))) k0 rfl rfl (by omega) (by omega) (hp_Kc (zi := (0 + 0)) (zv := (0 + (1 * g + 0))) k1 rfl rfl (by omega) (by omega) hp_Kn)) (hp_La l0 (hp_Li (z := (0 + (1 * p + 0))) l1 rfl (by omega) (hp_Li (z := (0 + (1 * s + 0))) l2 rfl (by omega) (hp_Li (z := (0 + (1 * f + 0))) l3 rfl (by omega) (hp_Li (z := (0 + (1 * t + 0))) l4 rfl (by omega) (hp_Li (z := (0 + (1 * w + 0))) l5 rfl (by omega) hp_Ln)))))) trivial ?_ ?_
  · intro p hp ys l' st' h' hys a1 a2 a3 gZ gL gS
    cases hp
  · intro p hp ys v h' hys a1 a2 a3 gZ gS
    rcases List.mem_cons.mp hp with rfl | hp
    · obtain rfl := hp_y0 hys
      cases v with
      | none => cases gS
      | some w =>
        obtain ⟨y0, t0, s0, q0, -⟩ := hp_gSi (z := ((-2) + 0)) gS rfl
        cases s0
        exact r0 h' y0 (by omega) a1 a2 a3
    cases hp
theorem bk1_k : hp_chk 386 0 7 [(0, 0, 2147483647), (1, (-2147483648), 2147483647), (2, (-2147483648), 2147483647), (3, (-2147483648), 2147483647), (4, (-2147483648), 2147483647), (5, 0, 120), (6, 0, 399)] [(0, [(0, 1), (5, (-1))])] [(0, .inr (.inr (.inl (some 94)))), (1, .inl (0, [(0, 1)])), (2, .inl (0, [(1, 1)])), (3, .inl (0, [(2, 1)])), (4, .inl (0, [(3, 1)])), (5, .inl (0, [(4, 1)]))] [] [(19978, (0, []), (0, [(5, 1)])), (19977, (0, []), (0, [(6, 1)]))] [] 4 [] [([], 7, [(0, 0, 2147483647), (1, (-2147483648), 2147483647), (2, (-2147483648), 2147483647), (3, (-2147483648), 2147483647), (4, (-2147483648), 2147483647), (5, 0, 120), (6, 0, 399)], [], [], [.inl ((-2), [])], [])] = true := by decide +kernel
theorem bk1 {cst : am_K} {strs : List Nat} {Φ : am_Q → Prop} {D : Nat} {M : am_M} {h : am_H} {l : am_L} (c : hp_C cst strs D) (hM : m_P[386]? = some M) (hD : (4 : Int) ≤ (D : Int) + 1) (hy : ly_hy m_tt ly_TH h) (p s f t w u g : Int) (b0 : 0 ≤ p) (t0 : p ≤ 2147483647) (b1 : (-2147483648) ≤ s) (t1 : s ≤ 2147483647) (b2 : (-2147483648) ≤ f) (t2 : f ≤ 2147483647) (b3 : (-2147483648) ≤ t) (t3 : t ≤ 2147483647) (b4 : (-2147483648) ≤ w) (t4 : w ≤ 2147483647) (b5 : 0 ≤ u) (t5 : u ≤ 120) (b6 : 0 ≤ g) (t6 : g ≤ 399) (f0 : 0 ≤ (p - u)) (k0 : ly_hv cst h 19978 0 = some (u)) (k1 : ly_hv cst h 19977 0 = some (g)) (l0 : hp_a l 0 94) (l1 : hp_i l 1 (p)) (l2 : hp_i l 2 (s)) (l3 : hp_i l 3 (f)) (l4 : hp_i l 4 (t)) (l5 : hp_i l 5 (w)) (r0 : ∀ (h' : am_H) (y0 : Int32), y0.toInt = (-2) → ly_hy m_tt ly_TH h' → ly_fr cst [] h h' → h.length ≤ h'.length → Φ (some (.int y0), h', 0, 0)) : hp_F cst strs Φ D M 0 l [] h := by
  refine hp_arc c hM bk1_k hD [p, s, f, t, w, u, g] rfl hy (hp_Bc (z := p) rfl b0 t0 (hp_Bc (z := s) rfl b1 t1 (hp_Bc (z := f) rfl b2 t2 (hp_Bc (z := t) rfl b3 t3 (hp_Bc (z := w) rfl b4 t4 (hp_Bc (z := u) rfl b5 t5 (hp_Bc (z := g) rfl b6 t6 hp_Bn))))))) (hp_Fc (z := (0 + (1 * p + ((-1) * u + 0)))) rfl (by omega) hp_Fn) (hp_Kc (zi := (0 + 0)) (zv := (0 + (1 * u + 0))) k0 rfl rfl (by omega) (by omega) (hp_Kc (zi := (0 + 0)) (zv := (0 + (1 * g + 0))) k1 rfl rfl (by omega) (by omega) hp_Kn)) (hp_La l0 (hp_Li (z := (0 + (1 * p + 0))) l1 rfl (by omega) (hp_Li (z := (0 + (1 * s + 0))) l2 rfl (by omega) (hp_Li (z := (0 + (1 * f + 0))) l3 rfl (by omega) (hp_Li (z := (0 + (1 * t + 0))) l4 rfl (by omega) (hp_Li (z := (0 + (1 * w + 0))) l5 rfl (by omega) hp_Ln)))))) trivial ?_ ?_
  · intro p hp ys l' st' h' hys a1 a2 a3 gZ gL gS
    cases hp
  · intro p hp ys v h' hys a1 a2 a3 gZ gS
    rcases List.mem_cons.mp hp with rfl | hp
    · obtain rfl := hp_y0 hys
      cases v with
      | none => cases gS
      | some w =>
        obtain ⟨y0, t0, s0, q0, -⟩ := hp_gSi (z := ((-2) + 0)) gS rfl
        cases s0
        exact r0 h' y0 (by omega) a1 a2 a3
    cases hp
theorem bk2_k : hp_chk 386 0 7 [(0, 0, 119), (1, (-2147483648), (-1)), (2, (-2147483648), 2147483647), (3, (-2147483648), 2147483647), (4, (-2147483648), 2147483647), (5, 0, 120), (6, 0, 399)] [((-1), [(0, (-1)), (5, 1)])] [(0, .inr (.inr (.inl (some 94)))), (1, .inl (0, [(0, 1)])), (2, .inl (0, [(1, 1)])), (3, .inl (0, [(2, 1)])), (4, .inl (0, [(3, 1)])), (5, .inl (0, [(4, 1)]))] [] [(19978, (0, []), (0, [(5, 1)])), (19977, (0, []), (0, [(6, 1)]))] [] 4 [] [([], 7, [(0, 0, 119), (1, (-2147483648), (-1)), (2, (-2147483648), 2147483647), (3, (-2147483648), 2147483647), (4, (-2147483648), 2147483647), (5, 0, 120), (6, 0, 399)], [], [], [.inl ((-2), [])], [])] = true := by decide +kernel
theorem bk2 {cst : am_K} {strs : List Nat} {Φ : am_Q → Prop} {D : Nat} {M : am_M} {h : am_H} {l : am_L} (c : hp_C cst strs D) (hM : m_P[386]? = some M) (hD : (4 : Int) ≤ (D : Int) + 1) (hy : ly_hy m_tt ly_TH h) (p s f t w u g : Int) (b0 : 0 ≤ p) (t0 : p ≤ 119) (b1 : (-2147483648) ≤ s) (t1 : s ≤ (-1)) (b2 : (-2147483648) ≤ f) (t2 : f ≤ 2147483647) (b3 : (-2147483648) ≤ t) (t3 : t ≤ 2147483647) (b4 : (-2147483648) ≤ w) (t4 : w ≤ 2147483647) (b5 : 0 ≤ u) (t5 : u ≤ 120) (b6 : 0 ≤ g) (t6 : g ≤ 399) (f0 : 0 ≤ (u - p - 1)) (k0 : ly_hv cst h 19978 0 = some (u)) (k1 : ly_hv cst h 19977 0 = some (g)) (l0 : hp_a l 0 94) (l1 : hp_i l 1 (p)) (l2 : hp_i l 2 (s)) (l3 : hp_i l 3 (f)) (l4 : hp_i l 4 (t)) (l5 : hp_i l 5 (w)) (r0 : ∀ (h' : am_H) (y0 : Int32), y0.toInt = (-2) → ly_hy m_tt ly_TH h' → ly_fr cst [] h h' → h.length ≤ h'.length → Φ (some (.int y0), h', 0, 0)) : hp_F cst strs Φ D M 0 l [] h := by
  refine hp_arc c hM bk2_k hD [p, s, f, t, w, u, g] rfl hy (hp_Bc (z := p) rfl b0 t0 (hp_Bc (z := s) rfl b1 t1 (hp_Bc (z := f) rfl b2 t2 (hp_Bc (z := t) rfl b3 t3 (hp_Bc (z := w) rfl b4 t4 (hp_Bc (z := u) rfl b5 t5 (hp_Bc (z := g) rfl b6 t6 hp_Bn))))))) (hp_Fc (z := ((-1) + ((-1) * p + (1 * u + 0)))) rfl (by omega) hp_Fn) (hp_Kc (zi := (0 + 0)) (zv := (0 + (1 * u + 0))) k0 rfl rfl (by omega) (by omega) (hp_Kc (zi := (0 + 0)) (zv := (0 + (1 * g + 0))) k1 rfl rfl (by omega) (by omega) hp_Kn)) (hp_La l0 (hp_Li (z := (0 + (1 * p + 0))) l1 rfl (by omega) (hp_Li (z := (0 + (1 * s + 0))) l2 rfl (by omega) (hp_Li (z := (0 + (1 * f + 0))) l3 rfl (by omega) (hp_Li (z := (0 + (1 * t + 0))) l4 rfl (by omega) (hp_Li (z := (0 + (1 * w + 0))) l5 rfl (by omega) hp_Ln)))))) trivial ?_ ?_
  · intro p hp ys l' st' h' hys a1 a2 a3 gZ gL gS
    cases hp
  · intro p hp ys v h' hys a1 a2 a3 gZ gS
    rcases List.mem_cons.mp hp with rfl | hp
    · obtain rfl := hp_y0 hys
      cases v with
      | none => cases gS
      | some w =>
        obtain ⟨y0, t0, s0, q0, -⟩ := hp_gSi (z := ((-2) + 0)) gS rfl
        cases s0
        exact r0 h' y0 (by omega) a1 a2 a3
    cases hp
theorem bk3_k : hp_chk 386 0 7 [(0, 0, 119), (1, 6, 2147483647), (2, (-2147483648), 2147483647), (3, (-2147483648), 2147483647), (4, (-2147483648), 2147483647), (5, 0, 120), (6, 0, 399)] [((-1), [(0, (-1)), (5, 1)])] [(0, .inr (.inr (.inl (some 94)))), (1, .inl (0, [(0, 1)])), (2, .inl (0, [(1, 1)])), (3, .inl (0, [(2, 1)])), (4, .inl (0, [(3, 1)])), (5, .inl (0, [(4, 1)]))] [] [(19978, (0, []), (0, [(5, 1)])), (19977, (0, []), (0, [(6, 1)]))] [] 4 [] [([], 7, [(0, 0, 119), (1, 6, 2147483647), (2, (-2147483648), 2147483647), (3, (-2147483648), 2147483647), (4, (-2147483648), 2147483647), (5, 0, 120), (6, 0, 399)], [], [], [.inl ((-2), [])], [])] = true := by decide +kernel
theorem bk3 {cst : am_K} {strs : List Nat} {Φ : am_Q → Prop} {D : Nat} {M : am_M} {h : am_H} {l : am_L} (c : hp_C cst strs D) (hM : m_P[386]? = some M) (hD : (4 : Int) ≤ (D : Int) + 1) (hy : ly_hy m_tt ly_TH h) (p s f t w u g : Int) (b0 : 0 ≤ p) (t0 : p ≤ 119) (b1 : 6 ≤ s) (t1 : s ≤ 2147483647) (b2 : (-2147483648) ≤ f) (t2 : f ≤ 2147483647) (b3 : (-2147483648) ≤ t) (t3 : t ≤ 2147483647) (b4 : (-2147483648) ≤ w) (t4 : w ≤ 2147483647) (b5 : 0 ≤ u) (t5 : u ≤ 120) (b6 : 0 ≤ g) (t6 : g ≤ 399) (f0 : 0 ≤ (u - p - 1)) (k0 : ly_hv cst h 19978 0 = some (u)) (k1 : ly_hv cst h 19977 0 = some (g)) (l0 : hp_a l 0 94) (l1 : hp_i l 1 (p)) (l2 : hp_i l 2 (s)) (l3 : hp_i l 3 (f)) (l4 : hp_i l 4 (t)) (l5 : hp_i l 5 (w)) (r0 : ∀ (h' : am_H) (y0 : Int32), y0.toInt = (-2) → ly_hy m_tt ly_TH h' → ly_fr cst [] h h' → h.length ≤ h'.length → Φ (some (.int y0), h', 0, 0)) : hp_F cst strs Φ D M 0 l [] h := by
  refine hp_arc c hM bk3_k hD [p, s, f, t, w, u, g] rfl hy (hp_Bc (z := p) rfl b0 t0 (hp_Bc (z := s) rfl b1 t1 (hp_Bc (z := f) rfl b2 t2 (hp_Bc (z := t) rfl b3 t3 (hp_Bc (z := w) rfl b4 t4 (hp_Bc (z := u) rfl b5 t5 (hp_Bc (z := g) rfl b6 t6 hp_Bn))))))) (hp_Fc (z := ((-1) + ((-1) * p + (1 * u + 0)))) rfl (by omega) hp_Fn) (hp_Kc (zi := (0 + 0)) (zv := (0 + (1 * u + 0))) k0 rfl rfl (by omega) (by omega) (hp_Kc (zi := (0 + 0)) (zv := (0 + (1 * g + 0))) k1 rfl rfl (by omega) (by omega) hp_Kn)) (hp_La l0 (hp_Li (z := (0 + (1 * p + 0))) l1 rfl (by omega) (hp_Li (z := (0 + (1 * s + 0))) l2 rfl (by omega) (hp_Li (z := (0 + (1 * f + 0))) l3 rfl (by omega) (hp_Li (z := (0 + (1 * t + 0))) l4 rfl (by omega) (hp_Li (z := (0 + (1 * w + 0))) l5 rfl (by omega) hp_Ln)))))) trivial ?_ ?_
  · intro p hp ys l' st' h' hys a1 a2 a3 gZ gL gS
    cases hp
  · intro p hp ys v h' hys a1 a2 a3 gZ gS
    rcases List.mem_cons.mp hp with rfl | hp
    · obtain rfl := hp_y0 hys
      cases v with
      | none => cases gS
      | some w =>
        obtain ⟨y0, t0, s0, q0, -⟩ := hp_gSi (z := ((-2) + 0)) gS rfl
        cases s0
        exact r0 h' y0 (by omega) a1 a2 a3
    cases hp
theorem bk4_k : hp_chk 386 0 7 [(0, 0, 119), (1, 0, 5), (2, (-2147483648), (-1)), (3, (-2147483648), 2147483647), (4, (-2147483648), 2147483647), (5, 0, 120), (6, 0, 399)] [((-1), [(0, (-1)), (5, 1)])] [(0, .inr (.inr (.inl (some 94)))), (1, .inl (0, [(0, 1)])), (2, .inl (0, [(1, 1)])), (3, .inl (0, [(2, 1)])), (4, .inl (0, [(3, 1)])), (5, .inl (0, [(4, 1)]))] [] [(19978, (0, []), (0, [(5, 1)])), (19977, (0, []), (0, [(6, 1)]))] [] 4 [] [([], 7, [(0, 0, 119), (1, 0, 5), (2, (-2147483648), (-1)), (3, (-2147483648), 2147483647), (4, (-2147483648), 2147483647), (5, 0, 120), (6, 0, 399)], [], [], [.inl ((-2), [])], [])] = true := by decide +kernel
theorem bk4 {cst : am_K} {strs : List Nat} {Φ : am_Q → Prop} {D : Nat} {M : am_M} {h : am_H} {l : am_L} (c : hp_C cst strs D) (hM : m_P[386]? = some M) (hD : (4 : Int) ≤ (D : Int) + 1) (hy : ly_hy m_tt ly_TH h) (p s f t w u g : Int) (b0 : 0 ≤ p) (t0 : p ≤ 119) (b1 : 0 ≤ s) (t1 : s ≤ 5) (b2 : (-2147483648) ≤ f) (t2 : f ≤ (-1)) (b3 : (-2147483648) ≤ t) (t3 : t ≤ 2147483647) (b4 : (-2147483648) ≤ w) (t4 : w ≤ 2147483647) (b5 : 0 ≤ u) (t5 : u ≤ 120) (b6 : 0 ≤ g) (t6 : g ≤ 399) (f0 : 0 ≤ (u - p - 1)) (k0 : ly_hv cst h 19978 0 = some (u)) (k1 : ly_hv cst h 19977 0 = some (g)) (l0 : hp_a l 0 94) (l1 : hp_i l 1 (p)) (l2 : hp_i l 2 (s)) (l3 : hp_i l 3 (f)) (l4 : hp_i l 4 (t)) (l5 : hp_i l 5 (w)) (r0 : ∀ (h' : am_H) (y0 : Int32), y0.toInt = (-2) → ly_hy m_tt ly_TH h' → ly_fr cst [] h h' → h.length ≤ h'.length → Φ (some (.int y0), h', 0, 0)) : hp_F cst strs Φ D M 0 l [] h := by
  refine hp_arc c hM bk4_k hD [p, s, f, t, w, u, g] rfl hy (hp_Bc (z := p) rfl b0 t0 (hp_Bc (z := s) rfl b1 t1 (hp_Bc (z := f) rfl b2 t2 (hp_Bc (z := t) rfl b3 t3 (hp_Bc (z := w) rfl b4 t4 (hp_Bc (z := u) rfl b5 t5 (hp_Bc (z := g) rfl b6 t6 hp_Bn))))))) (hp_Fc (z := ((-1) + ((-1) * p + (1 * u + 0)))) rfl (by omega) hp_Fn) (hp_Kc (zi := (0 + 0)) (zv := (0 + (1 * u + 0))) k0 rfl rfl (by omega) (by omega) (hp_Kc (zi := (0 + 0)) (zv := (0 + (1 * g + 0))) k1 rfl rfl (by omega) (by omega) hp_Kn)) (hp_La l0 (hp_Li (z := (0 + (1 * p + 0))) l1 rfl (by omega) (hp_Li (z := (0 + (1 * s + 0))) l2 rfl (by omega) (hp_Li (z := (0 + (1 * f + 0))) l3 rfl (by omega) (hp_Li (z := (0 + (1 * t + 0))) l4 rfl (by omega) (hp_Li (z := (0 + (1 * w + 0))) l5 rfl (by omega) hp_Ln)))))) trivial ?_ ?_
  · intro p hp ys l' st' h' hys a1 a2 a3 gZ gL gS
    cases hp
  · intro p hp ys v h' hys a1 a2 a3 gZ gS
    rcases List.mem_cons.mp hp with rfl | hp
    · obtain rfl := hp_y0 hys
      cases v with
      | none => cases gS
      | some w =>
        obtain ⟨y0, t0, s0, q0, -⟩ := hp_gSi (z := ((-2) + 0)) gS rfl
        cases s0
        exact r0 h' y0 (by omega) a1 a2 a3
    cases hp
theorem bk5_k : hp_chk 386 0 7 [(0, 0, 119), (1, 0, 5), (2, 400, 2147483647), (3, (-2147483648), 2147483647), (4, (-2147483648), 2147483647), (5, 0, 120), (6, 0, 399)] [((-1), [(0, (-1)), (5, 1)])] [(0, .inr (.inr (.inl (some 94)))), (1, .inl (0, [(0, 1)])), (2, .inl (0, [(1, 1)])), (3, .inl (0, [(2, 1)])), (4, .inl (0, [(3, 1)])), (5, .inl (0, [(4, 1)]))] [] [(19978, (0, []), (0, [(5, 1)])), (19977, (0, []), (0, [(6, 1)]))] [] 4 [] [([], 7, [(0, 0, 119), (1, 0, 5), (2, 400, 2147483647), (3, (-2147483648), 2147483647), (4, (-2147483648), 2147483647), (5, 0, 120), (6, 0, 399)], [], [], [.inl ((-2), [])], [])] = true := by decide +kernel
theorem bk5 {cst : am_K} {strs : List Nat} {Φ : am_Q → Prop} {D : Nat} {M : am_M} {h : am_H} {l : am_L} (c : hp_C cst strs D) (hM : m_P[386]? = some M) (hD : (4 : Int) ≤ (D : Int) + 1) (hy : ly_hy m_tt ly_TH h) (p s f t w u g : Int) (b0 : 0 ≤ p) (t0 : p ≤ 119) (b1 : 0 ≤ s) (t1 : s ≤ 5) (b2 : 400 ≤ f) (t2 : f ≤ 2147483647) (b3 : (-2147483648) ≤ t) (t3 : t ≤ 2147483647) (b4 : (-2147483648) ≤ w) (t4 : w ≤ 2147483647) (b5 : 0 ≤ u) (t5 : u ≤ 120) (b6 : 0 ≤ g) (t6 : g ≤ 399) (f0 : 0 ≤ (u - p - 1)) (k0 : ly_hv cst h 19978 0 = some (u)) (k1 : ly_hv cst h 19977 0 = some (g)) (l0 : hp_a l 0 94) (l1 : hp_i l 1 (p)) (l2 : hp_i l 2 (s)) (l3 : hp_i l 3 (f)) (l4 : hp_i l 4 (t)) (l5 : hp_i l 5 (w)) (r0 : ∀ (h' : am_H) (y0 : Int32), y0.toInt = (-2) → ly_hy m_tt ly_TH h' → ly_fr cst [] h h' → h.length ≤ h'.length → Φ (some (.int y0), h', 0, 0)) : hp_F cst strs Φ D M 0 l [] h := by
  refine hp_arc c hM bk5_k hD [p, s, f, t, w, u, g] rfl hy (hp_Bc (z := p) rfl b0 t0 (hp_Bc (z := s) rfl b1 t1 (hp_Bc (z := f) rfl b2 t2 (hp_Bc (z := t) rfl b3 t3 (hp_Bc (z := w) rfl b4 t4 (hp_Bc (z := u) rfl b5 t5 (hp_Bc (z := g) rfl b6 t6 hp_Bn))))))) (hp_Fc (z := ((-1) + ((-1) * p + (1 * u + 0)))) rfl (by omega) hp_Fn) (hp_Kc (zi := (0 + 0)) (zv := (0 + (1 * u + 0))) k0 rfl rfl (by omega) (by omega) (hp_Kc (zi := (0 + 0)) (zv := (0 + (1 * g + 0))) k1 rfl rfl (by omega) (by omega) hp_Kn)) (hp_La l0 (hp_Li (z := (0 + (1 * p + 0))) l1 rfl (by omega) (hp_Li (z := (0 + (1 * s + 0))) l2 rfl (by omega) (hp_Li (z := (0 + (1 * f + 0))) l3 rfl (by omega) (hp_Li (z := (0 + (1 * t + 0))) l4 rfl (by omega) (hp_Li (z := (0 + (1 * w + 0))) l5 rfl (by omega) hp_Ln)))))) trivial ?_ ?_
  · intro p hp ys l' st' h' hys a1 a2 a3 gZ gL gS
    cases hp
  · intro p hp ys v h' hys a1 a2 a3 gZ gS
    rcases List.mem_cons.mp hp with rfl | hp
    · obtain rfl := hp_y0 hys
      cases v with
      | none => cases gS
      | some w =>
        obtain ⟨y0, t0, s0, q0, -⟩ := hp_gSi (z := ((-2) + 0)) gS rfl
        cases s0
        exact r0 h' y0 (by omega) a1 a2 a3
    cases hp
theorem bk6_k : hp_chk 386 0 7 [(0, 0, 119), (1, 0, 5), (2, 0, 399), (3, (-2147483648), (-1)), (4, (-2147483648), 2147483647), (5, 0, 120), (6, 0, 399)] [((-1), [(0, (-1)), (5, 1)])] [(0, .inr (.inr (.inl (some 94)))), (1, .inl (0, [(0, 1)])), (2, .inl (0, [(1, 1)])), (3, .inl (0, [(2, 1)])), (4, .inl (0, [(3, 1)])), (5, .inl (0, [(4, 1)]))] [] [(19978, (0, []), (0, [(5, 1)])), (19977, (0, []), (0, [(6, 1)]))] [] 4 [] [([], 7, [(0, 0, 119), (1, 0, 5), (2, 0, 399), (3, (-2147483648), (-1)), (4, (-2147483648), 2147483647), (5, 0, 120), (6, 0, 399)], [], [], [.inl ((-2), [])], [])] = true := by decide +kernel
theorem bk6 {cst : am_K} {strs : List Nat} {Φ : am_Q → Prop} {D : Nat} {M : am_M} {h : am_H} {l : am_L} (c : hp_C cst strs D) (hM : m_P[386]? = some M) (hD : (4 : Int) ≤ (D : Int) + 1) (hy : ly_hy m_tt ly_TH h) (p s f t w u g : Int) (b0 : 0 ≤ p) (t0 : p ≤ 119) (b1 : 0 ≤ s) (t1 : s ≤ 5) (b2 : 0 ≤ f) (t2 : f ≤ 399) (b3 : (-2147483648) ≤ t) (t3 : t ≤ (-1)) (b4 : (-2147483648) ≤ w) (t4 : w ≤ 2147483647) (b5 : 0 ≤ u) (t5 : u ≤ 120) (b6 : 0 ≤ g) (t6 : g ≤ 399) (f0 : 0 ≤ (u - p - 1)) (k0 : ly_hv cst h 19978 0 = some (u)) (k1 : ly_hv cst h 19977 0 = some (g)) (l0 : hp_a l 0 94) (l1 : hp_i l 1 (p)) (l2 : hp_i l 2 (s)) (l3 : hp_i l 3 (f)) (l4 : hp_i l 4 (t)) (l5 : hp_i l 5 (w)) (r0 : ∀ (h' : am_H) (y0 : Int32), y0.toInt = (-2) → ly_hy m_tt ly_TH h' → ly_fr cst [] h h' → h.length ≤ h'.length → Φ (some (.int y0), h', 0, 0)) : hp_F cst strs Φ D M 0 l [] h := by
  refine hp_arc c hM bk6_k hD [p, s, f, t, w, u, g] rfl hy (hp_Bc (z := p) rfl b0 t0 (hp_Bc (z := s) rfl b1 t1 (hp_Bc (z := f) rfl b2 t2 (hp_Bc (z := t) rfl b3 t3 (hp_Bc (z := w) rfl b4 t4 (hp_Bc (z := u) rfl b5 t5 (hp_Bc (z := g) rfl b6 t6 hp_Bn))))))) (hp_Fc (z := ((-1) + ((-1) * p + (1 * u + 0)))) rfl (by omega) hp_Fn) (hp_Kc (zi := (0 + 0)) (zv := (0 + (1 * u + 0))) k0 rfl rfl (by omega) (by omega) (hp_Kc (zi := (0 + 0)) (zv := (0 + (1 * g + 0))) k1 rfl rfl (by omega) (by omega) hp_Kn)) (hp_La l0 (hp_Li (z := (0 + (1 * p + 0))) l1 rfl (by omega) (hp_Li (z := (0 + (1 * s + 0))) l2 rfl (by omega) (hp_Li (z := (0 + (1 * f + 0))) l3 rfl (by omega) (hp_Li (z := (0 + (1 * t + 0))) l4 rfl (by omega) (hp_Li (z := (0 + (1 * w + 0))) l5 rfl (by omega) hp_Ln)))))) trivial ?_ ?_
  · intro p hp ys l' st' h' hys a1 a2 a3 gZ gL gS
    cases hp
  · intro p hp ys v h' hys a1 a2 a3 gZ gS
    rcases List.mem_cons.mp hp with rfl | hp
    · obtain rfl := hp_y0 hys
      cases v with
      | none => cases gS
      | some w =>
        obtain ⟨y0, t0, s0, q0, -⟩ := hp_gSi (z := ((-2) + 0)) gS rfl
        cases s0
        exact r0 h' y0 (by omega) a1 a2 a3
    cases hp
theorem bk7_k : hp_chk 386 0 7 [(0, 0, 119), (1, 0, 5), (2, 0, 399), (3, 400, 2147483647), (4, (-2147483648), 2147483647), (5, 0, 120), (6, 0, 399)] [((-1), [(0, (-1)), (5, 1)])] [(0, .inr (.inr (.inl (some 94)))), (1, .inl (0, [(0, 1)])), (2, .inl (0, [(1, 1)])), (3, .inl (0, [(2, 1)])), (4, .inl (0, [(3, 1)])), (5, .inl (0, [(4, 1)]))] [] [(19978, (0, []), (0, [(5, 1)])), (19977, (0, []), (0, [(6, 1)]))] [] 4 [] [([], 7, [(0, 0, 119), (1, 0, 5), (2, 0, 399), (3, 400, 2147483647), (4, (-2147483648), 2147483647), (5, 0, 120), (6, 0, 399)], [], [], [.inl ((-2), [])], [])] = true := by decide +kernel
theorem bk7 {cst : am_K} {strs : List Nat} {Φ : am_Q → Prop} {D : Nat} {M : am_M} {h : am_H} {l : am_L} (c : hp_C cst strs D) (hM : m_P[386]? = some M) (hD : (4 : Int) ≤ (D : Int) + 1) (hy : ly_hy m_tt ly_TH h) (p s f t w u g : Int) (b0 : 0 ≤ p) (t0 : p ≤ 119) (b1 : 0 ≤ s) (t1 : s ≤ 5) (b2 : 0 ≤ f) (t2 : f ≤ 399) (b3 : 400 ≤ t) (t3 : t ≤ 2147483647) (b4 : (-2147483648) ≤ w) (t4 : w ≤ 2147483647) (b5 : 0 ≤ u) (t5 : u ≤ 120) (b6 : 0 ≤ g) (t6 : g ≤ 399) (f0 : 0 ≤ (u - p - 1)) (k0 : ly_hv cst h 19978 0 = some (u)) (k1 : ly_hv cst h 19977 0 = some (g)) (l0 : hp_a l 0 94) (l1 : hp_i l 1 (p)) (l2 : hp_i l 2 (s)) (l3 : hp_i l 3 (f)) (l4 : hp_i l 4 (t)) (l5 : hp_i l 5 (w)) (r0 : ∀ (h' : am_H) (y0 : Int32), y0.toInt = (-2) → ly_hy m_tt ly_TH h' → ly_fr cst [] h h' → h.length ≤ h'.length → Φ (some (.int y0), h', 0, 0)) : hp_F cst strs Φ D M 0 l [] h := by
  refine hp_arc c hM bk7_k hD [p, s, f, t, w, u, g] rfl hy (hp_Bc (z := p) rfl b0 t0 (hp_Bc (z := s) rfl b1 t1 (hp_Bc (z := f) rfl b2 t2 (hp_Bc (z := t) rfl b3 t3 (hp_Bc (z := w) rfl b4 t4 (hp_Bc (z := u) rfl b5 t5 (hp_Bc (z := g) rfl b6 t6 hp_Bn))))))) (hp_Fc (z := ((-1) + ((-1) * p + (1 * u + 0)))) rfl (by omega) hp_Fn) (hp_Kc (zi := (0 + 0)) (zv := (0 + (1 * u + 0))) k0 rfl rfl (by omega) (by omega) (hp_Kc (zi := (0 + 0)) (zv := (0 + (1 * g + 0))) k1 rfl rfl (by omega) (by omega) hp_Kn)) (hp_La l0 (hp_Li (z := (0 + (1 * p + 0))) l1 rfl (by omega) (hp_Li (z := (0 + (1 * s + 0))) l2 rfl (by omega) (hp_Li (z := (0 + (1 * f + 0))) l3 rfl (by omega) (hp_Li (z := (0 + (1 * t + 0))) l4 rfl (by omega) (hp_Li (z := (0 + (1 * w + 0))) l5 rfl (by omega) hp_Ln)))))) trivial ?_ ?_
  · intro p hp ys l' st' h' hys a1 a2 a3 gZ gL gS
    cases hp
  · intro p hp ys v h' hys a1 a2 a3 gZ gS
    rcases List.mem_cons.mp hp with rfl | hp
    · obtain rfl := hp_y0 hys
      cases v with
      | none => cases gS
      | some w =>
        obtain ⟨y0, t0, s0, q0, -⟩ := hp_gSi (z := ((-2) + 0)) gS rfl
        cases s0
        exact r0 h' y0 (by omega) a1 a2 a3
    cases hp
theorem bk8_k : hp_chk 386 0 7 [(0, 0, 119), (1, 0, 5), (2, 0, 399), (3, 0, 399), (4, (-2147483648), 2147483647), (5, 0, 120), (6, 0, 399)] [((-1), [(0, (-1)), (5, 1)]), ((-1), [(2, 1), (3, (-1))])] [(0, .inr (.inr (.inl (some 94)))), (1, .inl (0, [(0, 1)])), (2, .inl (0, [(1, 1)])), (3, .inl (0, [(2, 1)])), (4, .inl (0, [(3, 1)])), (5, .inl (0, [(4, 1)]))] [] [(19978, (0, []), (0, [(5, 1)])), (19977, (0, []), (0, [(6, 1)]))] [] 4 [] [([], 7, [(0, 0, 119), (1, 0, 5), (2, 0, 399), (3, 0, 399), (4, (-2147483648), 2147483647), (5, 0, 120), (6, 0, 399)], [], [], [.inl ((-2), [])], [])] = true := by decide +kernel
theorem bk8 {cst : am_K} {strs : List Nat} {Φ : am_Q → Prop} {D : Nat} {M : am_M} {h : am_H} {l : am_L} (c : hp_C cst strs D) (hM : m_P[386]? = some M) (hD : (4 : Int) ≤ (D : Int) + 1) (hy : ly_hy m_tt ly_TH h) (p s f t w u g : Int) (b0 : 0 ≤ p) (t0 : p ≤ 119) (b1 : 0 ≤ s) (t1 : s ≤ 5) (b2 : 0 ≤ f) (t2 : f ≤ 399) (b3 : 0 ≤ t) (t3 : t ≤ 399) (b4 : (-2147483648) ≤ w) (t4 : w ≤ 2147483647) (b5 : 0 ≤ u) (t5 : u ≤ 120) (b6 : 0 ≤ g) (t6 : g ≤ 399) (f0 : 0 ≤ (u - p - 1)) (f1 : 0 ≤ (f - t - 1)) (k0 : ly_hv cst h 19978 0 = some (u)) (k1 : ly_hv cst h 19977 0 = some (g)) (l0 : hp_a l 0 94) (l1 : hp_i l 1 (p)) (l2 : hp_i l 2 (s)) (l3 : hp_i l 3 (f)) (l4 : hp_i l 4 (t)) (l5 : hp_i l 5 (w)) (r0 : ∀ (h' : am_H) (y0 : Int32), y0.toInt = (-2) → ly_hy m_tt ly_TH h' → ly_fr cst [] h h' → h.length ≤ h'.length → Φ (some (.int y0), h', 0, 0)) : hp_F cst strs Φ D M 0 l [] h := by
  refine hp_arc c hM bk8_k hD [p, s, f, t, w, u, g] rfl hy (hp_Bc (z := p) rfl b0 t0 (hp_Bc (z := s) rfl b1 t1 (hp_Bc (z := f) rfl b2 t2 (hp_Bc (z := t) rfl b3 t3 (hp_Bc (z := w) rfl b4 t4 (hp_Bc (z := u) rfl b5 t5 (hp_Bc (z := g) rfl b6 t6 hp_Bn))))))) (hp_Fc (z := ((-1) + ((-1) * p + (1 * u + 0)))) rfl (by omega) (hp_Fc (z := ((-1) + (1 * f + ((-1) * t + 0)))) rfl (by omega) hp_Fn)) (hp_Kc (zi := (0 + 0)) (zv := (0 + (1 * u + 0))) k0 rfl rfl (by omega) (by omega) (hp_Kc (zi := (0 + 0)) (zv := (0 + (1 * g + 0))) k1 rfl rfl (by omega) (by omega) hp_Kn)) (hp_La l0 (hp_Li (z := (0 + (1 * p + 0))) l1 rfl (by omega) (hp_Li (z := (0 + (1 * s + 0))) l2 rfl (by omega) (hp_Li (z := (0 + (1 * f + 0))) l3 rfl (by omega) (hp_Li (z := (0 + (1 * t + 0))) l4 rfl (by omega) (hp_Li (z := (0 + (1 * w + 0))) l5 rfl (by omega) hp_Ln)))))) trivial ?_ ?_
  · intro p hp ys l' st' h' hys a1 a2 a3 gZ gL gS
    cases hp
  · intro p hp ys v h' hys a1 a2 a3 gZ gS
    rcases List.mem_cons.mp hp with rfl | hp
    · obtain rfl := hp_y0 hys
      cases v with
      | none => cases gS
      | some w =>
        obtain ⟨y0, t0, s0, q0, -⟩ := hp_gSi (z := ((-2) + 0)) gS rfl
        cases s0
        exact r0 h' y0 (by omega) a1 a2 a3
    cases hp
theorem bk9_k : hp_chk 386 0 7 [(0, 0, 119), (1, 0, 5), (2, 0, 399), (3, 0, 399), (4, (-2147483648), 2147483647), (5, 0, 120), (6, 0, 399)] [((-1), [(0, (-1)), (5, 1)]), ((-1), [(3, (-1)), (6, 1)]), (0, [(2, (-1)), (3, 1)])] [(0, .inr (.inr (.inl (some 94)))), (1, .inl (0, [(0, 1)])), (2, .inl (0, [(1, 1)])), (3, .inl (0, [(2, 1)])), (4, .inl (0, [(3, 1)])), (5, .inl (0, [(4, 1)]))] [] [(19978, (0, []), (0, [(5, 1)])), (19977, (0, []), (0, [(6, 1)]))] [] 4 [] [([], 7, [(0, 0, 119), (1, 0, 5), (2, 0, 399), (3, 0, 399), (4, (-2147483648), 2147483647), (5, 0, 120), (6, 0, 399)], [], [], [.inl ((-2), [])], [])] = true := by decide +kernel
theorem bk9 {cst : am_K} {strs : List Nat} {Φ : am_Q → Prop} {D : Nat} {M : am_M} {h : am_H} {l : am_L} (c : hp_C cst strs D) (hM : m_P[386]? = some M) (hD : (4 : Int) ≤ (D : Int) + 1) (hy : ly_hy m_tt ly_TH h) (p s f t w u g : Int) (b0 : 0 ≤ p) (t0 : p ≤ 119) (b1 : 0 ≤ s) (t1 : s ≤ 5) (b2 : 0 ≤ f) (t2 : f ≤ 399) (b3 : 0 ≤ t) (t3 : t ≤ 399) (b4 : (-2147483648) ≤ w) (t4 : w ≤ 2147483647) (b5 : 0 ≤ u) (t5 : u ≤ 120) (b6 : 0 ≤ g) (t6 : g ≤ 399) (f0 : 0 ≤ (u - p - 1)) (f1 : 0 ≤ (g - t - 1)) (f2 : 0 ≤ (t - f)) (k0 : ly_hv cst h 19978 0 = some (u)) (k1 : ly_hv cst h 19977 0 = some (g)) (l0 : hp_a l 0 94) (l1 : hp_i l 1 (p)) (l2 : hp_i l 2 (s)) (l3 : hp_i l 3 (f)) (l4 : hp_i l 4 (t)) (l5 : hp_i l 5 (w)) (r0 : ∀ (h' : am_H) (y0 : Int32), y0.toInt = (-2) → ly_hy m_tt ly_TH h' → ly_fr cst [] h h' → h.length ≤ h'.length → Φ (some (.int y0), h', 0, 0)) : hp_F cst strs Φ D M 0 l [] h := by
  refine hp_arc c hM bk9_k hD [p, s, f, t, w, u, g] rfl hy (hp_Bc (z := p) rfl b0 t0 (hp_Bc (z := s) rfl b1 t1 (hp_Bc (z := f) rfl b2 t2 (hp_Bc (z := t) rfl b3 t3 (hp_Bc (z := w) rfl b4 t4 (hp_Bc (z := u) rfl b5 t5 (hp_Bc (z := g) rfl b6 t6 hp_Bn))))))) (hp_Fc (z := ((-1) + ((-1) * p + (1 * u + 0)))) rfl (by omega) (hp_Fc (z := ((-1) + ((-1) * t + (1 * g + 0)))) rfl (by omega) (hp_Fc (z := (0 + ((-1) * f + (1 * t + 0)))) rfl (by omega) hp_Fn))) (hp_Kc (zi := (0 + 0)) (zv := (0 + (1 * u + 0))) k0 rfl rfl (by omega) (by omega) (hp_Kc (zi := (0 + 0)) (zv := (0 + (1 * g + 0))) k1 rfl rfl (by omega) (by omega) hp_Kn)) (hp_La l0 (hp_Li (z := (0 + (1 * p + 0))) l1 rfl (by omega) (hp_Li (z := (0 + (1 * s + 0))) l2 rfl (by omega) (hp_Li (z := (0 + (1 * f + 0))) l3 rfl (by omega) (hp_Li (z := (0 + (1 * t + 0))) l4 rfl (by omega) (hp_Li (z := (0 + (1 * w + 0))) l5 rfl (by omega) hp_Ln)))))) trivial ?_ ?_
  · intro p hp ys l' st' h' hys a1 a2 a3 gZ gL gS
    cases hp
  · intro p hp ys v h' hys a1 a2 a3 gZ gS
    rcases List.mem_cons.mp hp with rfl | hp
    · obtain rfl := hp_y0 hys
      cases v with
      | none => cases gS
      | some w =>
        obtain ⟨y0, t0, s0, q0, -⟩ := hp_gSi (z := ((-2) + 0)) gS rfl
        cases s0
        exact r0 h' y0 (by omega) a1 a2 a3
    cases hp
theorem bka_k : hp_chk 386 0 7 [(0, 0, 119), (1, 0, 5), (2, 0, 399), (3, 0, 399), (4, (-2147483648), 0), (5, 0, 120), (6, 0, 399)] [((-1), [(0, (-1)), (5, 1)]), (0, [(2, (-1)), (3, 1)]), (0, [(3, 1), (6, (-1))])] [(0, .inr (.inr (.inl (some 94)))), (1, .inl (0, [(0, 1)])), (2, .inl (0, [(1, 1)])), (3, .inl (0, [(2, 1)])), (4, .inl (0, [(3, 1)])), (5, .inl (0, [(4, 1)]))] [] [(19978, (0, []), (0, [(5, 1)])), (19977, (0, []), (0, [(6, 1)]))] [] 4 [] [([], 7, [(0, 0, 119), (1, 0, 5), (2, 0, 399), (3, 0, 399), (4, (-2147483648), 0), (5, 0, 120), (6, 0, 399)], [], [], [.inl ((-2), [])], [])] = true := by decide +kernel
theorem bka {cst : am_K} {strs : List Nat} {Φ : am_Q → Prop} {D : Nat} {M : am_M} {h : am_H} {l : am_L} (c : hp_C cst strs D) (hM : m_P[386]? = some M) (hD : (4 : Int) ≤ (D : Int) + 1) (hy : ly_hy m_tt ly_TH h) (p s f t w u g : Int) (b0 : 0 ≤ p) (t0 : p ≤ 119) (b1 : 0 ≤ s) (t1 : s ≤ 5) (b2 : 0 ≤ f) (t2 : f ≤ 399) (b3 : 0 ≤ t) (t3 : t ≤ 399) (b4 : (-2147483648) ≤ w) (t4 : w ≤ 0) (b5 : 0 ≤ u) (t5 : u ≤ 120) (b6 : 0 ≤ g) (t6 : g ≤ 399) (f0 : 0 ≤ (u - p - 1)) (f1 : 0 ≤ (t - f)) (f2 : 0 ≤ (t - g)) (k0 : ly_hv cst h 19978 0 = some (u)) (k1 : ly_hv cst h 19977 0 = some (g)) (l0 : hp_a l 0 94) (l1 : hp_i l 1 (p)) (l2 : hp_i l 2 (s)) (l3 : hp_i l 3 (f)) (l4 : hp_i l 4 (t)) (l5 : hp_i l 5 (w)) (r0 : ∀ (h' : am_H) (y0 : Int32), y0.toInt = (-2) → ly_hy m_tt ly_TH h' → ly_fr cst [] h h' → h.length ≤ h'.length → Φ (some (.int y0), h', 0, 0)) : hp_F cst strs Φ D M 0 l [] h := by
  refine hp_arc c hM bka_k hD [p, s, f, t, w, u, g] rfl hy (hp_Bc (z := p) rfl b0 t0 (hp_Bc (z := s) rfl b1 t1 (hp_Bc (z := f) rfl b2 t2 (hp_Bc (z := t) rfl b3 t3 (hp_Bc (z := w) rfl b4 t4 (hp_Bc (z := u) rfl b5 t5 (hp_Bc (z := g) rfl b6 t6 hp_Bn))))))) (hp_Fc (z := ((-1) + ((-1) * p + (1 * u + 0)))) rfl (by omega) (hp_Fc (z := (0 + ((-1) * f + (1 * t + 0)))) rfl (by omega) (hp_Fc (z := (0 + (1 * t + ((-1) * g + 0)))) rfl (by omega) hp_Fn))) (hp_Kc (zi := (0 + 0)) (zv := (0 + (1 * u + 0))) k0 rfl rfl (by omega) (by omega) (hp_Kc (zi := (0 + 0)) (zv := (0 + (1 * g + 0))) k1 rfl rfl (by omega) (by omega) hp_Kn)) (hp_La l0 (hp_Li (z := (0 + (1 * p + 0))) l1 rfl (by omega) (hp_Li (z := (0 + (1 * s + 0))) l2 rfl (by omega) (hp_Li (z := (0 + (1 * f + 0))) l3 rfl (by omega) (hp_Li (z := (0 + (1 * t + 0))) l4 rfl (by omega) (hp_Li (z := (0 + (1 * w + 0))) l5 rfl (by omega) hp_Ln)))))) trivial ?_ ?_
  · intro p hp ys l' st' h' hys a1 a2 a3 gZ gL gS
    cases hp
  · intro p hp ys v h' hys a1 a2 a3 gZ gS
    rcases List.mem_cons.mp hp with rfl | hp
    · obtain rfl := hp_y0 hys
      cases v with
      | none => cases gS
      | some w =>
        obtain ⟨y0, t0, s0, q0, -⟩ := hp_gSi (z := ((-2) + 0)) gS rfl
        cases s0
        exact r0 h' y0 (by omega) a1 a2 a3
    cases hp
theorem bkb_k : hp_chk 386 0 7 [(0, 0, 119), (1, 0, 5), (2, 0, 399), (3, 0, 399), (4, 10000, 2147483647), (5, 0, 120), (6, 0, 399)] [((-1), [(0, (-1)), (5, 1)]), (0, [(2, (-1)), (3, 1)]), (0, [(3, 1), (6, (-1))])] [(0, .inr (.inr (.inl (some 94)))), (1, .inl (0, [(0, 1)])), (2, .inl (0, [(1, 1)])), (3, .inl (0, [(2, 1)])), (4, .inl (0, [(3, 1)])), (5, .inl (0, [(4, 1)]))] [] [(19978, (0, []), (0, [(5, 1)])), (19977, (0, []), (0, [(6, 1)]))] [] 4 [] [([], 7, [(0, 0, 119), (1, 0, 5), (2, 0, 399), (3, 0, 399), (4, 10000, 2147483647), (5, 0, 120), (6, 0, 399)], [], [], [.inl ((-2), [])], [])] = true := by decide +kernel
theorem bkb {cst : am_K} {strs : List Nat} {Φ : am_Q → Prop} {D : Nat} {M : am_M} {h : am_H} {l : am_L} (c : hp_C cst strs D) (hM : m_P[386]? = some M) (hD : (4 : Int) ≤ (D : Int) + 1) (hy : ly_hy m_tt ly_TH h) (p s f t w u g : Int) (b0 : 0 ≤ p) (t0 : p ≤ 119) (b1 : 0 ≤ s) (t1 : s ≤ 5) (b2 : 0 ≤ f) (t2 : f ≤ 399) (b3 : 0 ≤ t) (t3 : t ≤ 399) (b4 : 10000 ≤ w) (t4 : w ≤ 2147483647) (b5 : 0 ≤ u) (t5 : u ≤ 120) (b6 : 0 ≤ g) (t6 : g ≤ 399) (f0 : 0 ≤ (u - p - 1)) (f1 : 0 ≤ (t - f)) (f2 : 0 ≤ (t - g)) (k0 : ly_hv cst h 19978 0 = some (u)) (k1 : ly_hv cst h 19977 0 = some (g)) (l0 : hp_a l 0 94) (l1 : hp_i l 1 (p)) (l2 : hp_i l 2 (s)) (l3 : hp_i l 3 (f)) (l4 : hp_i l 4 (t)) (l5 : hp_i l 5 (w)) (r0 : ∀ (h' : am_H) (y0 : Int32), y0.toInt = (-2) → ly_hy m_tt ly_TH h' → ly_fr cst [] h h' → h.length ≤ h'.length → Φ (some (.int y0), h', 0, 0)) : hp_F cst strs Φ D M 0 l [] h := by
  refine hp_arc c hM bkb_k hD [p, s, f, t, w, u, g] rfl hy (hp_Bc (z := p) rfl b0 t0 (hp_Bc (z := s) rfl b1 t1 (hp_Bc (z := f) rfl b2 t2 (hp_Bc (z := t) rfl b3 t3 (hp_Bc (z := w) rfl b4 t4 (hp_Bc (z := u) rfl b5 t5 (hp_Bc (z := g) rfl b6 t6 hp_Bn))))))) (hp_Fc (z := ((-1) + ((-1) * p + (1 * u + 0)))) rfl (by omega) (hp_Fc (z := (0 + ((-1) * f + (1 * t + 0)))) rfl (by omega) (hp_Fc (z := (0 + (1 * t + ((-1) * g + 0)))) rfl (by omega) hp_Fn))) (hp_Kc (zi := (0 + 0)) (zv := (0 + (1 * u + 0))) k0 rfl rfl (by omega) (by omega) (hp_Kc (zi := (0 + 0)) (zv := (0 + (1 * g + 0))) k1 rfl rfl (by omega) (by omega) hp_Kn)) (hp_La l0 (hp_Li (z := (0 + (1 * p + 0))) l1 rfl (by omega) (hp_Li (z := (0 + (1 * s + 0))) l2 rfl (by omega) (hp_Li (z := (0 + (1 * f + 0))) l3 rfl (by omega) (hp_Li (z := (0 + (1 * t + 0))) l4 rfl (by omega) (hp_Li (z := (0 + (1 * w + 0))) l5 rfl (by omega) hp_Ln)))))) trivial ?_ ?_
  · intro p hp ys l' st' h' hys a1 a2 a3 gZ gL gS
    cases hp
  · intro p hp ys v h' hys a1 a2 a3 gZ gS
    rcases List.mem_cons.mp hp with rfl | hp
    · obtain rfl := hp_y0 hys
      cases v with
      | none => cases gS
      | some w =>
        obtain ⟨y0, t0, s0, q0, -⟩ := hp_gSi (z := ((-2) + 0)) gS rfl
        cases s0
        exact r0 h' y0 (by omega) a1 a2 a3
    cases hp
theorem bjk_k : hp_chk 206 0 7 [(0, 0, 119), (1, 0, 5), (2, 0, 399), (3, 0, 399), (4, 1, 9999), (5, 0, 120), (6, 0, 399)] [((-1), [(0, (-1)), (5, 1)]), (0, [(2, (-1)), (3, 1)]), (0, [(3, 1), (6, (-1))])] [(0, .inr (.inr (.inl (some 16)))), (1, .inl (0, [(0, 1)])), (2, .inl (0, [(1, 1)])), (3, .inl (0, [(2, 1)])), (4, .inl (0, [(3, 1)])), (5, .inl (0, [(4, 1)]))] [] [(1536, (0, []), (0, [(5, 1)])), (10, (0, []), (0, [(6, 1)]))] [] 4 [(74, ([], 7, [(0, 0, 119), (1, 0, 5), (2, 0, 399), (3, 0, 399), (4, 1, 9999), (5, 0, 120), (6, 0, 399)], [], [(0, .inr (.inr (.inl (some 16))))], [.inl (0, [(4, 1)]), .inl (0, [(3, 1)]), .inl (0, [(2, 1)]), .inl (0, [(1, 1)]), .inl (0, [(0, 1)]), .inr (.inr (.inl (some 59)))], []))] [] = true := by decide +kernel
theorem bjk {cst : am_K} {strs : List Nat} {Φ : am_Q → Prop} {D : Nat} {M : am_M} {h : am_H} {l : am_L} (c : hp_C cst strs D) (hM : m_P[206]? = some M) (hD : (4 : Int) ≤ (D : Int) + 1) (hy : ly_hy m_tt ly_TH h) (p s f t w u g : Int) (b0 : 0 ≤ p) (t0 : p ≤ 119) (b1 : 0 ≤ s) (t1 : s ≤ 5) (b2 : 0 ≤ f) (t2 : f ≤ 399) (b3 : 0 ≤ t) (t3 : t ≤ 399) (b4 : 1 ≤ w) (t4 : w ≤ 9999) (b5 : 0 ≤ u) (t5 : u ≤ 120) (b6 : 0 ≤ g) (t6 : g ≤ 399) (f0 : 0 ≤ (u - p - 1)) (f1 : 0 ≤ (t - f)) (f2 : 0 ≤ (t - g)) (k0 : ly_hv cst h 1536 0 = some (u)) (k1 : ly_hv cst h 10 0 = some (g)) (l0 : hp_a l 0 16) (l1 : hp_i l 1 (p)) (l2 : hp_i l 2 (s)) (l3 : hp_i l 3 (f)) (l4 : hp_i l 4 (t)) (l5 : hp_i l 5 (w)) (e0 : ∀ (l' : am_L) (h' : am_H) (y0 : Int32) (y1 : Int32) (y2 : Int32) (y3 : Int32) (y4 : Int32), y0.toInt = (w) → y1.toInt = (t) → y2.toInt = (f) → y3.toInt = (s) → y4.toInt = (p) → ly_hy m_tt ly_TH h' → ly_fr cst [] h h' → h.length ≤ h'.length → hp_a l' 0 16 → hp_F cst strs Φ D M 74 l' [.int y0, .int y1, .int y2, .int y3, .int y4, .ref 59] h') : hp_F cst strs Φ D M 0 l [] h := by
  refine hp_arc c hM bjk_k hD [p, s, f, t, w, u, g] rfl hy (hp_Bc (z := p) rfl b0 t0 (hp_Bc (z := s) rfl b1 t1 (hp_Bc (z := f) rfl b2 t2 (hp_Bc (z := t) rfl b3 t3 (hp_Bc (z := w) rfl b4 t4 (hp_Bc (z := u) rfl b5 t5 (hp_Bc (z := g) rfl b6 t6 hp_Bn))))))) (hp_Fc (z := ((-1) + ((-1) * p + (1 * u + 0)))) rfl (by omega) (hp_Fc (z := (0 + ((-1) * f + (1 * t + 0)))) rfl (by omega) (hp_Fc (z := (0 + (1 * t + ((-1) * g + 0)))) rfl (by omega) hp_Fn))) (hp_Kc (zi := (0 + 0)) (zv := (0 + (1 * u + 0))) k0 rfl rfl (by omega) (by omega) (hp_Kc (zi := (0 + 0)) (zv := (0 + (1 * g + 0))) k1 rfl rfl (by omega) (by omega) hp_Kn)) (hp_La l0 (hp_Li (z := (0 + (1 * p + 0))) l1 rfl (by omega) (hp_Li (z := (0 + (1 * s + 0))) l2 rfl (by omega) (hp_Li (z := (0 + (1 * f + 0))) l3 rfl (by omega) (hp_Li (z := (0 + (1 * t + 0))) l4 rfl (by omega) (hp_Li (z := (0 + (1 * w + 0))) l5 rfl (by omega) hp_Ln)))))) trivial ?_ ?_
  · intro p hp ys l' st' h' hys a1 a2 a3 gZ gL gS
    rcases List.mem_cons.mp hp with rfl | hp
    · obtain rfl := hp_y0 hys
      obtain ⟨y0, t0, rfl, q0, g0⟩ := hp_gSi (z := (0 + (1 * w + 0))) gS rfl
      obtain ⟨y1, t1, rfl, q1, g1⟩ := hp_gSi (z := (0 + (1 * t + 0))) g0 rfl
      obtain ⟨y2, t2, rfl, q2, g2⟩ := hp_gSi (z := (0 + (1 * f + 0))) g1 rfl
      obtain ⟨y3, t3, rfl, q3, g3⟩ := hp_gSi (z := (0 + (1 * s + 0))) g2 rfl
      obtain ⟨y4, t4, rfl, q4, g4⟩ := hp_gSi (z := (0 + (1 * p + 0))) g3 rfl
      obtain ⟨t5, rfl, g5⟩ := hp_gSa g4 (by decide)
      cases hp_gSn g5
      exact e0 l' h' y0 y1 y2 y3 y4 (by omega) (by omega) (by omega) (by omega) (by omega) a1 a2 a3 (hp_gLa gL (List.mem_of_getElem? (i := 0) rfl) (by decide))
    cases hp
  · intro p hp ys v h' hys a1 a2 a3 gZ gS
    cases hp
theorem bjr_k : hp_chk 206 77 1 [(0, (-2147483648), 2147483647)] [] [(0, .inr (.inr (.inl (some 16))))] [.inl (0, [(0, 1)])] [] [] 2 [] [([], 1, [(0, (-2147483648), 2147483647)], [], [], [.inl (0, [(0, 1)])], [])] = true := by decide +kernel
theorem bjr {cst : am_K} {strs : List Nat} {Φ : am_Q → Prop} {D : Nat} {M : am_M} {h : am_H} {l : am_L} (c : hp_C cst strs D) (hM : m_P[206]? = some M) (hD : (2 : Int) ≤ (D : Int) + 1) (hy : ly_hy m_tt ly_TH h) (a : Int) (x0 : Int32) (hx0 : x0.toInt = (a)) (b0 : (-2147483648) ≤ a) (t0 : a ≤ 2147483647) (l0 : hp_a l 0 16) (r0 : ∀ (h' : am_H) (y0 : Int32), y0.toInt = (a) → ly_hy m_tt ly_TH h' → ly_fr cst [] h h' → h.length ≤ h'.length → Φ (some (.int y0), h', 0, 0)) : hp_F cst strs Φ D M 77 l [.int x0] h := by
  refine hp_arc c hM bjr_k hD [a] rfl hy (hp_Bc (z := a) rfl b0 t0 hp_Bn) hp_Fn hp_Kn (hp_La l0 hp_Ln) (hp_Si (z := (0 + (1 * a + 0))) rfl (by omega) trivial) ?_ ?_
  · intro p hp ys l' st' h' hys a1 a2 a3 gZ gL gS
    cases hp
  · intro p hp ys v h' hys a1 a2 a3 gZ gS
    rcases List.mem_cons.mp hp with rfl | hp
    · obtain rfl := hp_y0 hys
      cases v with
      | none => cases gS
      | some w =>
        obtain ⟨y0, t0, s0, q0, -⟩ := hp_gSi (z := (0 + (1 * a + 0))) gS rfl
        cases s0
        exact r0 h' y0 (by omega) a1 a2 a3
    cases hp
theorem bkk_k : hp_chk 386 0 7 [(0, 0, 119), (1, 0, 5), (2, 0, 399), (3, 0, 399), (4, 1, 9999), (5, 0, 120), (6, 0, 399)] [((-1), [(0, (-1)), (5, 1)]), (0, [(2, (-1)), (3, 1)]), (0, [(3, 1), (6, (-1))])] [(0, .inr (.inr (.inl (some 94)))), (1, .inl (0, [(0, 1)])), (2, .inl (0, [(1, 1)])), (3, .inl (0, [(2, 1)])), (4, .inl (0, [(3, 1)])), (5, .inl (0, [(4, 1)]))] [] [(19978, (0, []), (0, [(5, 1)])), (19977, (0, []), (0, [(6, 1)]))] [] 4 [(58, ([], 7, [(0, 0, 119), (1, 0, 5), (2, 0, 399), (3, 0, 399), (4, 1, 9999), (5, 0, 120), (6, 0, 399)], [], [(0, .inr (.inr (.inl (some 94)))), (1, .inl (0, [(0, 1)])), (2, .inl (0, [(1, 1)])), (3, .inl (0, [(2, 1)])), (4, .inl (0, [(3, 1)])), (5, .inl (0, [(4, 1)]))], [], []))] [] = true := by decide +kernel
theorem bkk {cst : am_K} {strs : List Nat} {Φ : am_Q → Prop} {D : Nat} {M : am_M} {h : am_H} {l : am_L} (c : hp_C cst strs D) (hM : m_P[386]? = some M) (hD : (4 : Int) ≤ (D : Int) + 1) (hy : ly_hy m_tt ly_TH h) (p s f t w u g : Int) (b0 : 0 ≤ p) (t0 : p ≤ 119) (b1 : 0 ≤ s) (t1 : s ≤ 5) (b2 : 0 ≤ f) (t2 : f ≤ 399) (b3 : 0 ≤ t) (t3 : t ≤ 399) (b4 : 1 ≤ w) (t4 : w ≤ 9999) (b5 : 0 ≤ u) (t5 : u ≤ 120) (b6 : 0 ≤ g) (t6 : g ≤ 399) (f0 : 0 ≤ (u - p - 1)) (f1 : 0 ≤ (t - f)) (f2 : 0 ≤ (t - g)) (k0 : ly_hv cst h 19978 0 = some (u)) (k1 : ly_hv cst h 19977 0 = some (g)) (l0 : hp_a l 0 94) (l1 : hp_i l 1 (p)) (l2 : hp_i l 2 (s)) (l3 : hp_i l 3 (f)) (l4 : hp_i l 4 (t)) (l5 : hp_i l 5 (w)) (e0 : ∀ (l' : am_L) (h' : am_H), ly_hy m_tt ly_TH h' → ly_fr cst [] h h' → h.length ≤ h'.length → hp_a l' 0 94 → hp_i l' 1 (p) → hp_i l' 2 (s) → hp_i l' 3 (f) → hp_i l' 4 (t) → hp_i l' 5 (w) → hp_F cst strs Φ D M 58 l' [] h') : hp_F cst strs Φ D M 0 l [] h := by
  refine hp_arc c hM bkk_k hD [p, s, f, t, w, u, g] rfl hy (hp_Bc (z := p) rfl b0 t0 (hp_Bc (z := s) rfl b1 t1 (hp_Bc (z := f) rfl b2 t2 (hp_Bc (z := t) rfl b3 t3 (hp_Bc (z := w) rfl b4 t4 (hp_Bc (z := u) rfl b5 t5 (hp_Bc (z := g) rfl b6 t6 hp_Bn))))))) (hp_Fc (z := ((-1) + ((-1) * p + (1 * u + 0)))) rfl (by omega) (hp_Fc (z := (0 + ((-1) * f + (1 * t + 0)))) rfl (by omega) (hp_Fc (z := (0 + (1 * t + ((-1) * g + 0)))) rfl (by omega) hp_Fn))) (hp_Kc (zi := (0 + 0)) (zv := (0 + (1 * u + 0))) k0 rfl rfl (by omega) (by omega) (hp_Kc (zi := (0 + 0)) (zv := (0 + (1 * g + 0))) k1 rfl rfl (by omega) (by omega) hp_Kn)) (hp_La l0 (hp_Li (z := (0 + (1 * p + 0))) l1 rfl (by omega) (hp_Li (z := (0 + (1 * s + 0))) l2 rfl (by omega) (hp_Li (z := (0 + (1 * f + 0))) l3 rfl (by omega) (hp_Li (z := (0 + (1 * t + 0))) l4 rfl (by omega) (hp_Li (z := (0 + (1 * w + 0))) l5 rfl (by omega) hp_Ln)))))) trivial ?_ ?_
  · intro p hp ys l' st' h' hys a1 a2 a3 gZ gL gS
    rcases List.mem_cons.mp hp with rfl | hp
    · obtain rfl := hp_y0 hys
      cases hp_gSn gS
      exact e0 l' h' a1 a2 a3 (hp_gLa gL (List.mem_of_getElem? (i := 0) rfl) (by decide)) (hp_gLi (z := (0 + (1 * p + 0))) gL (List.mem_of_getElem? (i := 1) rfl) rfl (by omega)) (hp_gLi (z := (0 + (1 * s + 0))) gL (List.mem_of_getElem? (i := 2) rfl) rfl (by omega)) (hp_gLi (z := (0 + (1 * f + 0))) gL (List.mem_of_getElem? (i := 3) rfl) rfl (by omega)) (hp_gLi (z := (0 + (1 * t + 0))) gL (List.mem_of_getElem? (i := 4) rfl) rfl (by omega)) (hp_gLi (z := (0 + (1 * w + 0))) gL (List.mem_of_getElem? (i := 5) rfl) rfl (by omega))
    cases hp
  · intro p hp ys v h' hys a1 a2 a3 gZ gS
    cases hp
theorem bvf_k : hp_chk 207 0 5 [(0, (-2147483648), 2147483647), (1, (-2147483648), 2147483647), (2, (-2147483648), 2147483647), (3, (-2147483648), 2147483647), (4, (-2147483648), 2147483647)] [] [(0, .inr (.inr (.inl (some 59)))), (1, .inl (0, [(0, 1)])), (2, .inl (0, [(1, 1)])), (3, .inl (0, [(2, 1)])), (4, .inl (0, [(3, 1)])), (5, .inl (0, [(4, 1)]))] [] [(11014, (0, []), (80, []))] [] 2 [] [([], 5, [(0, (-2147483648), 2147483647), (1, (-2147483648), 2147483647), (2, (-2147483648), 2147483647), (3, (-2147483648), 2147483647), (4, (-2147483648), 2147483647)], [], [], [.inl ((-3), [])], [(11014, (0, []), (80, []))])] = true := by decide +kernel
theorem bvf {cst : am_K} {strs : List Nat} {Φ : am_Q → Prop} {D : Nat} {M : am_M} {h : am_H} {l : am_L} (c : hp_C cst strs D) (hM : m_P[207]? = some M) (hD : (2 : Int) ≤ (D : Int) + 1) (hy : ly_hy m_tt ly_TH h) (p s f t w : Int) (b0 : (-2147483648) ≤ p) (t0 : p ≤ 2147483647) (b1 : (-2147483648) ≤ s) (t1 : s ≤ 2147483647) (b2 : (-2147483648) ≤ f) (t2 : f ≤ 2147483647) (b3 : (-2147483648) ≤ t) (t3 : t ≤ 2147483647) (b4 : (-2147483648) ≤ w) (t4 : w ≤ 2147483647) (k0 : ly_hv cst h 11014 0 = some 80) (l0 : hp_a l 0 59) (l1 : hp_i l 1 (p)) (l2 : hp_i l 2 (s)) (l3 : hp_i l 3 (f)) (l4 : hp_i l 4 (t)) (l5 : hp_i l 5 (w)) (r0 : ∀ (h' : am_H) (y0 : Int32), y0.toInt = (-3) → ly_hy m_tt ly_TH h' → ly_fr cst [] h h' → h.length ≤ h'.length → ly_hv cst h' 11014 0 = some 80 → Φ (some (.int y0), h', 0, 0)) : hp_F cst strs Φ D M 0 l [] h := by
  refine hp_arc c hM bvf_k hD [p, s, f, t, w] rfl hy (hp_Bc (z := p) rfl b0 t0 (hp_Bc (z := s) rfl b1 t1 (hp_Bc (z := f) rfl b2 t2 (hp_Bc (z := t) rfl b3 t3 (hp_Bc (z := w) rfl b4 t4 hp_Bn))))) hp_Fn (hp_Kc (zi := (0 + 0)) (zv := (80 + 0)) k0 rfl rfl (by omega) (by omega) hp_Kn) (hp_La l0 (hp_Li (z := (0 + (1 * p + 0))) l1 rfl (by omega) (hp_Li (z := (0 + (1 * s + 0))) l2 rfl (by omega) (hp_Li (z := (0 + (1 * f + 0))) l3 rfl (by omega) (hp_Li (z := (0 + (1 * t + 0))) l4 rfl (by omega) (hp_Li (z := (0 + (1 * w + 0))) l5 rfl (by omega) hp_Ln)))))) trivial ?_ ?_
  · intro p hp ys l' st' h' hys a1 a2 a3 gZ gL gS
    cases hp
  · intro p hp ys v h' hys a1 a2 a3 gZ gS
    rcases List.mem_cons.mp hp with rfl | hp
    · obtain rfl := hp_y0 hys
      cases v with
      | none => cases gS
      | some w =>
        obtain ⟨y0, t0, s0, q0, -⟩ := hp_gSi (z := ((-3) + 0)) gS rfl
        cases s0
        exact r0 h' y0 (by omega) a1 a2 a3 (hp_gK (zi := (0 + 0)) (zv := (80 + 0)) gZ.2.2.2 (List.mem_of_getElem? (i := 0) rfl) rfl rfl (by omega) (by omega))
    cases hp
theorem bv0_k : hp_chk 207 0 6 [(0, (-2147483648), 2147483647), (1, (-2147483648), 2147483647), (2, (-2147483648), 2147483647), (3, (-2147483648), 2147483647), (4, (-2147483648), 2147483647), (5, 0, 79)] [] [(0, .inr (.inr (.inl (some 59)))), (1, .inl (0, [(0, 1)])), (2, .inl (0, [(1, 1)])), (3, .inl (0, [(2, 1)])), (4, .inl (0, [(3, 1)])), (5, .inl (0, [(4, 1)]))] [] [(11014, (0, []), (0, [(5, 1)]))] [] 2 [(21, ([], 6, [(0, (-2147483648), 2147483647), (1, (-2147483648), 2147483647), (2, (-2147483648), 2147483647), (3, (-2147483648), 2147483647), (4, (-2147483648), 2147483647), (5, 0, 79)], [], [(0, .inr (.inr (.inl (some 59)))), (1, .inl (0, [(0, 1)])), (2, .inl (0, [(1, 1)])), (3, .inl (0, [(2, 1)])), (4, .inl (0, [(3, 1)])), (5, .inl (0, [(4, 1)]))], [.inl (0, [(0, 1)]), .inl (0, [(5, 1)]), .inr (.inr (.inl (some 65)))], [(11014, (0, []), (0, [(5, 1)]))]))] [] = true := by decide +kernel
theorem bv0 {cst : am_K} {strs : List Nat} {Φ : am_Q → Prop} {D : Nat} {M : am_M} {h : am_H} {l : am_L} (c : hp_C cst strs D) (hM : m_P[207]? = some M) (hD : (2 : Int) ≤ (D : Int) + 1) (hy : ly_hy m_tt ly_TH h) (p s f t w v : Int) (b0 : (-2147483648) ≤ p) (t0 : p ≤ 2147483647) (b1 : (-2147483648) ≤ s) (t1 : s ≤ 2147483647) (b2 : (-2147483648) ≤ f) (t2 : f ≤ 2147483647) (b3 : (-2147483648) ≤ t) (t3 : t ≤ 2147483647) (b4 : (-2147483648) ≤ w) (t4 : w ≤ 2147483647) (b5 : 0 ≤ v) (t5 : v ≤ 79) (k0 : ly_hv cst h 11014 0 = some (v)) (l0 : hp_a l 0 59) (l1 : hp_i l 1 (p)) (l2 : hp_i l 2 (s)) (l3 : hp_i l 3 (f)) (l4 : hp_i l 4 (t)) (l5 : hp_i l 5 (w)) (e0 : ∀ (l' : am_L) (h' : am_H) (y0 : Int32) (y1 : Int32), y0.toInt = (p) → y1.toInt = (v) → ly_hy m_tt ly_TH h' → ly_fr cst [] h h' → h.length ≤ h'.length → ly_hv cst h' 11014 0 = some (v) → hp_a l' 0 59 → hp_i l' 1 (p) → hp_i l' 2 (s) → hp_i l' 3 (f) → hp_i l' 4 (t) → hp_i l' 5 (w) → hp_F cst strs Φ D M 21 l' [.int y0, .int y1, .ref 65] h') : hp_F cst strs Φ D M 0 l [] h := by
  refine hp_arc c hM bv0_k hD [p, s, f, t, w, v] rfl hy (hp_Bc (z := p) rfl b0 t0 (hp_Bc (z := s) rfl b1 t1 (hp_Bc (z := f) rfl b2 t2 (hp_Bc (z := t) rfl b3 t3 (hp_Bc (z := w) rfl b4 t4 (hp_Bc (z := v) rfl b5 t5 hp_Bn)))))) hp_Fn (hp_Kc (zi := (0 + 0)) (zv := (0 + (1 * v + 0))) k0 rfl rfl (by omega) (by omega) hp_Kn) (hp_La l0 (hp_Li (z := (0 + (1 * p + 0))) l1 rfl (by omega) (hp_Li (z := (0 + (1 * s + 0))) l2 rfl (by omega) (hp_Li (z := (0 + (1 * f + 0))) l3 rfl (by omega) (hp_Li (z := (0 + (1 * t + 0))) l4 rfl (by omega) (hp_Li (z := (0 + (1 * w + 0))) l5 rfl (by omega) hp_Ln)))))) trivial ?_ ?_
  · intro p hp ys l' st' h' hys a1 a2 a3 gZ gL gS
    rcases List.mem_cons.mp hp with rfl | hp
    · obtain rfl := hp_y0 hys
      obtain ⟨y0, t0, rfl, q0, g0⟩ := hp_gSi (z := (0 + (1 * p + 0))) gS rfl
      obtain ⟨y1, t1, rfl, q1, g1⟩ := hp_gSi (z := (0 + (1 * v + 0))) g0 rfl
      obtain ⟨t2, rfl, g2⟩ := hp_gSa g1 (by decide)
      cases hp_gSn g2
      exact e0 l' h' y0 y1 (by omega) (by omega) a1 a2 a3 (hp_gK (zi := (0 + 0)) (zv := (0 + (1 * v + 0))) gZ.2.2.2 (List.mem_of_getElem? (i := 0) rfl) rfl rfl (by omega) (by omega)) (hp_gLa gL (List.mem_of_getElem? (i := 0) rfl) (by decide)) (hp_gLi (z := (0 + (1 * p + 0))) gL (List.mem_of_getElem? (i := 1) rfl) rfl (by omega)) (hp_gLi (z := (0 + (1 * s + 0))) gL (List.mem_of_getElem? (i := 2) rfl) rfl (by omega)) (hp_gLi (z := (0 + (1 * f + 0))) gL (List.mem_of_getElem? (i := 3) rfl) rfl (by omega)) (hp_gLi (z := (0 + (1 * t + 0))) gL (List.mem_of_getElem? (i := 4) rfl) rfl (by omega)) (hp_gLi (z := (0 + (1 * w + 0))) gL (List.mem_of_getElem? (i := 5) rfl) rfl (by omega))
    cases hp
  · intro p hp ys v h' hys a1 a2 a3 gZ gS
    cases hp
theorem bv1_k : hp_chk 207 22 6 [(0, (-2147483648), 2147483647), (1, (-2147483648), 2147483647), (2, (-2147483648), 2147483647), (3, (-2147483648), 2147483647), (4, (-2147483648), 2147483647), (5, 0, 79)] [] [(0, .inr (.inr (.inl (some 59)))), (1, .inl (0, [(0, 1)])), (2, .inl (0, [(1, 1)])), (3, .inl (0, [(2, 1)])), (4, .inl (0, [(3, 1)])), (5, .inl (0, [(4, 1)]))] [] [(11014, (0, []), (0, [(5, 1)]))] [] 2 [(31, ([], 6, [(0, (-2147483648), 2147483647), (1, (-2147483648), 2147483647), (2, (-2147483648), 2147483647), (3, (-2147483648), 2147483647), (4, (-2147483648), 2147483647), (5, 0, 79)], [], [(0, .inr (.inr (.inl (some 59)))), (1, .inl (0, [(0, 1)])), (2, .inl (0, [(1, 1)])), (3, .inl (0, [(2, 1)])), (4, .inl (0, [(3, 1)])), (5, .inl (0, [(4, 1)]))], [.inl (0, [(1, 1)]), .inl (0, [(5, 1)]), .inr (.inr (.inl (some 66)))], [(11014, (0, []), (0, [(5, 1)]))]))] [] = true := by decide +kernel
theorem bv1 {cst : am_K} {strs : List Nat} {Φ : am_Q → Prop} {D : Nat} {M : am_M} {h : am_H} {l : am_L} (c : hp_C cst strs D) (hM : m_P[207]? = some M) (hD : (2 : Int) ≤ (D : Int) + 1) (hy : ly_hy m_tt ly_TH h) (p s f t w v : Int) (b0 : (-2147483648) ≤ p) (t0 : p ≤ 2147483647) (b1 : (-2147483648) ≤ s) (t1 : s ≤ 2147483647) (b2 : (-2147483648) ≤ f) (t2 : f ≤ 2147483647) (b3 : (-2147483648) ≤ t) (t3 : t ≤ 2147483647) (b4 : (-2147483648) ≤ w) (t4 : w ≤ 2147483647) (b5 : 0 ≤ v) (t5 : v ≤ 79) (k0 : ly_hv cst h 11014 0 = some (v)) (l0 : hp_a l 0 59) (l1 : hp_i l 1 (p)) (l2 : hp_i l 2 (s)) (l3 : hp_i l 3 (f)) (l4 : hp_i l 4 (t)) (l5 : hp_i l 5 (w)) (e0 : ∀ (l' : am_L) (h' : am_H) (y0 : Int32) (y1 : Int32), y0.toInt = (s) → y1.toInt = (v) → ly_hy m_tt ly_TH h' → ly_fr cst [] h h' → h.length ≤ h'.length → ly_hv cst h' 11014 0 = some (v) → hp_a l' 0 59 → hp_i l' 1 (p) → hp_i l' 2 (s) → hp_i l' 3 (f) → hp_i l' 4 (t) → hp_i l' 5 (w) → hp_F cst strs Φ D M 31 l' [.int y0, .int y1, .ref 66] h') : hp_F cst strs Φ D M 22 l [] h := by
  refine hp_arc c hM bv1_k hD [p, s, f, t, w, v] rfl hy (hp_Bc (z := p) rfl b0 t0 (hp_Bc (z := s) rfl b1 t1 (hp_Bc (z := f) rfl b2 t2 (hp_Bc (z := t) rfl b3 t3 (hp_Bc (z := w) rfl b4 t4 (hp_Bc (z := v) rfl b5 t5 hp_Bn)))))) hp_Fn (hp_Kc (zi := (0 + 0)) (zv := (0 + (1 * v + 0))) k0 rfl rfl (by omega) (by omega) hp_Kn) (hp_La l0 (hp_Li (z := (0 + (1 * p + 0))) l1 rfl (by omega) (hp_Li (z := (0 + (1 * s + 0))) l2 rfl (by omega) (hp_Li (z := (0 + (1 * f + 0))) l3 rfl (by omega) (hp_Li (z := (0 + (1 * t + 0))) l4 rfl (by omega) (hp_Li (z := (0 + (1 * w + 0))) l5 rfl (by omega) hp_Ln)))))) trivial ?_ ?_
  · intro p hp ys l' st' h' hys a1 a2 a3 gZ gL gS
    rcases List.mem_cons.mp hp with rfl | hp
    · obtain rfl := hp_y0 hys
      obtain ⟨y0, t0, rfl, q0, g0⟩ := hp_gSi (z := (0 + (1 * s + 0))) gS rfl
      obtain ⟨y1, t1, rfl, q1, g1⟩ := hp_gSi (z := (0 + (1 * v + 0))) g0 rfl
      obtain ⟨t2, rfl, g2⟩ := hp_gSa g1 (by decide)
      cases hp_gSn g2
      exact e0 l' h' y0 y1 (by omega) (by omega) a1 a2 a3 (hp_gK (zi := (0 + 0)) (zv := (0 + (1 * v + 0))) gZ.2.2.2 (List.mem_of_getElem? (i := 0) rfl) rfl rfl (by omega) (by omega)) (hp_gLa gL (List.mem_of_getElem? (i := 0) rfl) (by decide)) (hp_gLi (z := (0 + (1 * p + 0))) gL (List.mem_of_getElem? (i := 1) rfl) rfl (by omega)) (hp_gLi (z := (0 + (1 * s + 0))) gL (List.mem_of_getElem? (i := 2) rfl) rfl (by omega)) (hp_gLi (z := (0 + (1 * f + 0))) gL (List.mem_of_getElem? (i := 3) rfl) rfl (by omega)) (hp_gLi (z := (0 + (1 * t + 0))) gL (List.mem_of_getElem? (i := 4) rfl) rfl (by omega)) (hp_gLi (z := (0 + (1 * w + 0))) gL (List.mem_of_getElem? (i := 5) rfl) rfl (by omega))
    cases hp
  · intro p hp ys v h' hys a1 a2 a3 gZ gS
    cases hp
theorem bv2_k : hp_chk 207 32 6 [(0, (-2147483648), 2147483647), (1, (-2147483648), 2147483647), (2, (-2147483648), 2147483647), (3, (-2147483648), 2147483647), (4, (-2147483648), 2147483647), (5, 0, 79)] [] [(0, .inr (.inr (.inl (some 59)))), (1, .inl (0, [(0, 1)])), (2, .inl (0, [(1, 1)])), (3, .inl (0, [(2, 1)])), (4, .inl (0, [(3, 1)])), (5, .inl (0, [(4, 1)]))] [] [(11014, (0, []), (0, [(5, 1)]))] [] 2 [(41, ([], 6, [(0, (-2147483648), 2147483647), (1, (-2147483648), 2147483647), (2, (-2147483648), 2147483647), (3, (-2147483648), 2147483647), (4, (-2147483648), 2147483647), (5, 0, 79)], [], [(0, .inr (.inr (.inl (some 59)))), (1, .inl (0, [(0, 1)])), (2, .inl (0, [(1, 1)])), (3, .inl (0, [(2, 1)])), (4, .inl (0, [(3, 1)])), (5, .inl (0, [(4, 1)]))], [.inl (0, [(2, 1)]), .inl (0, [(5, 1)]), .inr (.inr (.inl (some 67)))], [(11014, (0, []), (0, [(5, 1)]))]))] [] = true := by decide +kernel
theorem bv2 {cst : am_K} {strs : List Nat} {Φ : am_Q → Prop} {D : Nat} {M : am_M} {h : am_H} {l : am_L} (c : hp_C cst strs D) (hM : m_P[207]? = some M) (hD : (2 : Int) ≤ (D : Int) + 1) (hy : ly_hy m_tt ly_TH h) (p s f t w v : Int) (b0 : (-2147483648) ≤ p) (t0 : p ≤ 2147483647) (b1 : (-2147483648) ≤ s) (t1 : s ≤ 2147483647) (b2 : (-2147483648) ≤ f) (t2 : f ≤ 2147483647) (b3 : (-2147483648) ≤ t) (t3 : t ≤ 2147483647) (b4 : (-2147483648) ≤ w) (t4 : w ≤ 2147483647) (b5 : 0 ≤ v) (t5 : v ≤ 79) (k0 : ly_hv cst h 11014 0 = some (v)) (l0 : hp_a l 0 59) (l1 : hp_i l 1 (p)) (l2 : hp_i l 2 (s)) (l3 : hp_i l 3 (f)) (l4 : hp_i l 4 (t)) (l5 : hp_i l 5 (w)) (e0 : ∀ (l' : am_L) (h' : am_H) (y0 : Int32) (y1 : Int32), y0.toInt = (f) → y1.toInt = (v) → ly_hy m_tt ly_TH h' → ly_fr cst [] h h' → h.length ≤ h'.length → ly_hv cst h' 11014 0 = some (v) → hp_a l' 0 59 → hp_i l' 1 (p) → hp_i l' 2 (s) → hp_i l' 3 (f) → hp_i l' 4 (t) → hp_i l' 5 (w) → hp_F cst strs Φ D M 41 l' [.int y0, .int y1, .ref 67] h') : hp_F cst strs Φ D M 32 l [] h := by
  refine hp_arc c hM bv2_k hD [p, s, f, t, w, v] rfl hy (hp_Bc (z := p) rfl b0 t0 (hp_Bc (z := s) rfl b1 t1 (hp_Bc (z := f) rfl b2 t2 (hp_Bc (z := t) rfl b3 t3 (hp_Bc (z := w) rfl b4 t4 (hp_Bc (z := v) rfl b5 t5 hp_Bn)))))) hp_Fn (hp_Kc (zi := (0 + 0)) (zv := (0 + (1 * v + 0))) k0 rfl rfl (by omega) (by omega) hp_Kn) (hp_La l0 (hp_Li (z := (0 + (1 * p + 0))) l1 rfl (by omega) (hp_Li (z := (0 + (1 * s + 0))) l2 rfl (by omega) (hp_Li (z := (0 + (1 * f + 0))) l3 rfl (by omega) (hp_Li (z := (0 + (1 * t + 0))) l4 rfl (by omega) (hp_Li (z := (0 + (1 * w + 0))) l5 rfl (by omega) hp_Ln)))))) trivial ?_ ?_
  · intro p hp ys l' st' h' hys a1 a2 a3 gZ gL gS
    rcases List.mem_cons.mp hp with rfl | hp
    · obtain rfl := hp_y0 hys
      obtain ⟨y0, t0, rfl, q0, g0⟩ := hp_gSi (z := (0 + (1 * f + 0))) gS rfl
      obtain ⟨y1, t1, rfl, q1, g1⟩ := hp_gSi (z := (0 + (1 * v + 0))) g0 rfl
      obtain ⟨t2, rfl, g2⟩ := hp_gSa g1 (by decide)
      cases hp_gSn g2
      exact e0 l' h' y0 y1 (by omega) (by omega) a1 a2 a3 (hp_gK (zi := (0 + 0)) (zv := (0 + (1 * v + 0))) gZ.2.2.2 (List.mem_of_getElem? (i := 0) rfl) rfl rfl (by omega) (by omega)) (hp_gLa gL (List.mem_of_getElem? (i := 0) rfl) (by decide)) (hp_gLi (z := (0 + (1 * p + 0))) gL (List.mem_of_getElem? (i := 1) rfl) rfl (by omega)) (hp_gLi (z := (0 + (1 * s + 0))) gL (List.mem_of_getElem? (i := 2) rfl) rfl (by omega)) (hp_gLi (z := (0 + (1 * f + 0))) gL (List.mem_of_getElem? (i := 3) rfl) rfl (by omega)) (hp_gLi (z := (0 + (1 * t + 0))) gL (List.mem_of_getElem? (i := 4) rfl) rfl (by omega)) (hp_gLi (z := (0 + (1 * w + 0))) gL (List.mem_of_getElem? (i := 5) rfl) rfl (by omega))
    cases hp
  · intro p hp ys v h' hys a1 a2 a3 gZ gS
    cases hp
theorem bv3_k : hp_chk 207 42 6 [(0, (-2147483648), 2147483647), (1, (-2147483648), 2147483647), (2, (-2147483648), 2147483647), (3, (-2147483648), 2147483647), (4, (-2147483648), 2147483647), (5, 0, 79)] [] [(0, .inr (.inr (.inl (some 59)))), (1, .inl (0, [(0, 1)])), (2, .inl (0, [(1, 1)])), (3, .inl (0, [(2, 1)])), (4, .inl (0, [(3, 1)])), (5, .inl (0, [(4, 1)]))] [] [(11014, (0, []), (0, [(5, 1)]))] [] 2 [(52, ([], 6, [(0, (-2147483648), 2147483647), (1, (-2147483648), 2147483647), (2, (-2147483648), 2147483647), (3, (-2147483648), 2147483647), (4, (-2147483648), 2147483647), (5, 0, 79)], [], [(0, .inr (.inr (.inl (some 59)))), (1, .inl (0, [(0, 1)])), (2, .inl (0, [(1, 1)])), (3, .inl (0, [(2, 1)])), (4, .inl (0, [(3, 1)])), (5, .inl (0, [(4, 1)]))], [.inl (0, [(3, 1)]), .inl (0, [(5, 1)]), .inr (.inr (.inl (some 68)))], [(11014, (0, []), (0, [(5, 1)]))]))] [] = true := by decide +kernel
theorem bv3 {cst : am_K} {strs : List Nat} {Φ : am_Q → Prop} {D : Nat} {M : am_M} {h : am_H} {l : am_L} (c : hp_C cst strs D) (hM : m_P[207]? = some M) (hD : (2 : Int) ≤ (D : Int) + 1) (hy : ly_hy m_tt ly_TH h) (p s f t w v : Int) (b0 : (-2147483648) ≤ p) (t0 : p ≤ 2147483647) (b1 : (-2147483648) ≤ s) (t1 : s ≤ 2147483647) (b2 : (-2147483648) ≤ f) (t2 : f ≤ 2147483647) (b3 : (-2147483648) ≤ t) (t3 : t ≤ 2147483647) (b4 : (-2147483648) ≤ w) (t4 : w ≤ 2147483647) (b5 : 0 ≤ v) (t5 : v ≤ 79) (k0 : ly_hv cst h 11014 0 = some (v)) (l0 : hp_a l 0 59) (l1 : hp_i l 1 (p)) (l2 : hp_i l 2 (s)) (l3 : hp_i l 3 (f)) (l4 : hp_i l 4 (t)) (l5 : hp_i l 5 (w)) (e0 : ∀ (l' : am_L) (h' : am_H) (y0 : Int32) (y1 : Int32), y0.toInt = (t) → y1.toInt = (v) → ly_hy m_tt ly_TH h' → ly_fr cst [] h h' → h.length ≤ h'.length → ly_hv cst h' 11014 0 = some (v) → hp_a l' 0 59 → hp_i l' 1 (p) → hp_i l' 2 (s) → hp_i l' 3 (f) → hp_i l' 4 (t) → hp_i l' 5 (w) → hp_F cst strs Φ D M 52 l' [.int y0, .int y1, .ref 68] h') : hp_F cst strs Φ D M 42 l [] h := by
  refine hp_arc c hM bv3_k hD [p, s, f, t, w, v] rfl hy (hp_Bc (z := p) rfl b0 t0 (hp_Bc (z := s) rfl b1 t1 (hp_Bc (z := f) rfl b2 t2 (hp_Bc (z := t) rfl b3 t3 (hp_Bc (z := w) rfl b4 t4 (hp_Bc (z := v) rfl b5 t5 hp_Bn)))))) hp_Fn (hp_Kc (zi := (0 + 0)) (zv := (0 + (1 * v + 0))) k0 rfl rfl (by omega) (by omega) hp_Kn) (hp_La l0 (hp_Li (z := (0 + (1 * p + 0))) l1 rfl (by omega) (hp_Li (z := (0 + (1 * s + 0))) l2 rfl (by omega) (hp_Li (z := (0 + (1 * f + 0))) l3 rfl (by omega) (hp_Li (z := (0 + (1 * t + 0))) l4 rfl (by omega) (hp_Li (z := (0 + (1 * w + 0))) l5 rfl (by omega) hp_Ln)))))) trivial ?_ ?_
  · intro p hp ys l' st' h' hys a1 a2 a3 gZ gL gS
    rcases List.mem_cons.mp hp with rfl | hp
    · obtain rfl := hp_y0 hys
      obtain ⟨y0, t0, rfl, q0, g0⟩ := hp_gSi (z := (0 + (1 * t + 0))) gS rfl
      obtain ⟨y1, t1, rfl, q1, g1⟩ := hp_gSi (z := (0 + (1 * v + 0))) g0 rfl
      obtain ⟨t2, rfl, g2⟩ := hp_gSa g1 (by decide)
      cases hp_gSn g2
      exact e0 l' h' y0 y1 (by omega) (by omega) a1 a2 a3 (hp_gK (zi := (0 + 0)) (zv := (0 + (1 * v + 0))) gZ.2.2.2 (List.mem_of_getElem? (i := 0) rfl) rfl rfl (by omega) (by omega)) (hp_gLa gL (List.mem_of_getElem? (i := 0) rfl) (by decide)) (hp_gLi (z := (0 + (1 * p + 0))) gL (List.mem_of_getElem? (i := 1) rfl) rfl (by omega)) (hp_gLi (z := (0 + (1 * s + 0))) gL (List.mem_of_getElem? (i := 2) rfl) rfl (by omega)) (hp_gLi (z := (0 + (1 * f + 0))) gL (List.mem_of_getElem? (i := 3) rfl) rfl (by omega)) (hp_gLi (z := (0 + (1 * t + 0))) gL (List.mem_of_getElem? (i := 4) rfl) rfl (by omega)) (hp_gLi (z := (0 + (1 * w + 0))) gL (List.mem_of_getElem? (i := 5) rfl) rfl (by omega))
    cases hp
  · intro p hp ys v h' hys a1 a2 a3 gZ gS
    cases hp
theorem bv4_k : hp_chk 207 53 6 [(0, (-2147483648), 2147483647), (1, (-2147483648), 2147483647), (2, (-2147483648), 2147483647), (3, (-2147483648), 2147483647), (4, (-2147483648), 2147483647), (5, 0, 79)] [] [(0, .inr (.inr (.inl (some 59)))), (1, .inl (0, [(0, 1)])), (2, .inl (0, [(1, 1)])), (3, .inl (0, [(2, 1)])), (4, .inl (0, [(3, 1)])), (5, .inl (0, [(4, 1)]))] [] [(11014, (0, []), (0, [(5, 1)]))] [] 2 [(63, ([], 6, [(0, (-2147483648), 2147483647), (1, (-2147483648), 2147483647), (2, (-2147483648), 2147483647), (3, (-2147483648), 2147483647), (4, (-2147483648), 2147483647), (5, 0, 79)], [], [(0, .inr (.inr (.inl (some 59)))), (1, .inl (0, [(0, 1)])), (2, .inl (0, [(1, 1)])), (3, .inl (0, [(2, 1)])), (4, .inl (0, [(3, 1)])), (5, .inl (0, [(4, 1)]))], [.inl (0, [(4, 1)]), .inl (0, [(5, 1)]), .inr (.inr (.inl (some 69)))], [(11014, (0, []), (0, [(5, 1)]))]))] [] = true := by decide +kernel
theorem bv4 {cst : am_K} {strs : List Nat} {Φ : am_Q → Prop} {D : Nat} {M : am_M} {h : am_H} {l : am_L} (c : hp_C cst strs D) (hM : m_P[207]? = some M) (hD : (2 : Int) ≤ (D : Int) + 1) (hy : ly_hy m_tt ly_TH h) (p s f t w v : Int) (b0 : (-2147483648) ≤ p) (t0 : p ≤ 2147483647) (b1 : (-2147483648) ≤ s) (t1 : s ≤ 2147483647) (b2 : (-2147483648) ≤ f) (t2 : f ≤ 2147483647) (b3 : (-2147483648) ≤ t) (t3 : t ≤ 2147483647) (b4 : (-2147483648) ≤ w) (t4 : w ≤ 2147483647) (b5 : 0 ≤ v) (t5 : v ≤ 79) (k0 : ly_hv cst h 11014 0 = some (v)) (l0 : hp_a l 0 59) (l1 : hp_i l 1 (p)) (l2 : hp_i l 2 (s)) (l3 : hp_i l 3 (f)) (l4 : hp_i l 4 (t)) (l5 : hp_i l 5 (w)) (e0 : ∀ (l' : am_L) (h' : am_H) (y0 : Int32) (y1 : Int32), y0.toInt = (w) → y1.toInt = (v) → ly_hy m_tt ly_TH h' → ly_fr cst [] h h' → h.length ≤ h'.length → ly_hv cst h' 11014 0 = some (v) → hp_a l' 0 59 → hp_i l' 1 (p) → hp_i l' 2 (s) → hp_i l' 3 (f) → hp_i l' 4 (t) → hp_i l' 5 (w) → hp_F cst strs Φ D M 63 l' [.int y0, .int y1, .ref 69] h') : hp_F cst strs Φ D M 53 l [] h := by
  refine hp_arc c hM bv4_k hD [p, s, f, t, w, v] rfl hy (hp_Bc (z := p) rfl b0 t0 (hp_Bc (z := s) rfl b1 t1 (hp_Bc (z := f) rfl b2 t2 (hp_Bc (z := t) rfl b3 t3 (hp_Bc (z := w) rfl b4 t4 (hp_Bc (z := v) rfl b5 t5 hp_Bn)))))) hp_Fn (hp_Kc (zi := (0 + 0)) (zv := (0 + (1 * v + 0))) k0 rfl rfl (by omega) (by omega) hp_Kn) (hp_La l0 (hp_Li (z := (0 + (1 * p + 0))) l1 rfl (by omega) (hp_Li (z := (0 + (1 * s + 0))) l2 rfl (by omega) (hp_Li (z := (0 + (1 * f + 0))) l3 rfl (by omega) (hp_Li (z := (0 + (1 * t + 0))) l4 rfl (by omega) (hp_Li (z := (0 + (1 * w + 0))) l5 rfl (by omega) hp_Ln)))))) trivial ?_ ?_
  · intro p hp ys l' st' h' hys a1 a2 a3 gZ gL gS
    rcases List.mem_cons.mp hp with rfl | hp
    · obtain rfl := hp_y0 hys
      obtain ⟨y0, t0, rfl, q0, g0⟩ := hp_gSi (z := (0 + (1 * w + 0))) gS rfl
      obtain ⟨y1, t1, rfl, q1, g1⟩ := hp_gSi (z := (0 + (1 * v + 0))) g0 rfl
      obtain ⟨t2, rfl, g2⟩ := hp_gSa g1 (by decide)
      cases hp_gSn g2
      exact e0 l' h' y0 y1 (by omega) (by omega) a1 a2 a3 (hp_gK (zi := (0 + 0)) (zv := (0 + (1 * v + 0))) gZ.2.2.2 (List.mem_of_getElem? (i := 0) rfl) rfl rfl (by omega) (by omega)) (hp_gLa gL (List.mem_of_getElem? (i := 0) rfl) (by decide)) (hp_gLi (z := (0 + (1 * p + 0))) gL (List.mem_of_getElem? (i := 1) rfl) rfl (by omega)) (hp_gLi (z := (0 + (1 * s + 0))) gL (List.mem_of_getElem? (i := 2) rfl) rfl (by omega)) (hp_gLi (z := (0 + (1 * f + 0))) gL (List.mem_of_getElem? (i := 3) rfl) rfl (by omega)) (hp_gLi (z := (0 + (1 * t + 0))) gL (List.mem_of_getElem? (i := 4) rfl) rfl (by omega)) (hp_gLi (z := (0 + (1 * w + 0))) gL (List.mem_of_getElem? (i := 5) rfl) rfl (by omega))
    cases hp
  · intro p hp ys v h' hys a1 a2 a3 gZ gS
    cases hp
theorem bv5_k : hp_chk 207 64 6 [(0, (-2147483648), 2147483647), (1, (-2147483648), 2147483647), (2, (-2147483648), 2147483647), (3, (-2147483648), 2147483647), (4, (-2147483648), 2147483647), (5, 0, 79)] [] [(0, .inr (.inr (.inl (some 59)))), (1, .inl (0, [(0, 1)])), (2, .inl (0, [(1, 1)])), (3, .inl (0, [(2, 1)])), (4, .inl (0, [(3, 1)])), (5, .inl (0, [(4, 1)]))] [] [(11014, (0, []), (0, [(5, 1)]))] [] 2 [(73, ([], 6, [(0, (-2147483648), 2147483647), (1, (-2147483648), 2147483647), (2, (-2147483648), 2147483647), (3, (-2147483648), 2147483647), (4, (-2147483648), 2147483647), (5, 0, 79)], [], [(0, .inr (.inr (.inl (some 59)))), (1, .inl (0, [(0, 1)])), (2, .inl (0, [(1, 1)])), (3, .inl (0, [(2, 1)])), (4, .inl (0, [(3, 1)])), (5, .inl (0, [(4, 1)]))], [.inl (0, []), .inl (0, [(5, 1)]), .inr (.inr (.inl (some 70)))], [(11014, (0, []), (0, [(5, 1)]))]))] [] = true := by decide +kernel
theorem bv5 {cst : am_K} {strs : List Nat} {Φ : am_Q → Prop} {D : Nat} {M : am_M} {h : am_H} {l : am_L} (c : hp_C cst strs D) (hM : m_P[207]? = some M) (hD : (2 : Int) ≤ (D : Int) + 1) (hy : ly_hy m_tt ly_TH h) (p s f t w v : Int) (b0 : (-2147483648) ≤ p) (t0 : p ≤ 2147483647) (b1 : (-2147483648) ≤ s) (t1 : s ≤ 2147483647) (b2 : (-2147483648) ≤ f) (t2 : f ≤ 2147483647) (b3 : (-2147483648) ≤ t) (t3 : t ≤ 2147483647) (b4 : (-2147483648) ≤ w) (t4 : w ≤ 2147483647) (b5 : 0 ≤ v) (t5 : v ≤ 79) (k0 : ly_hv cst h 11014 0 = some (v)) (l0 : hp_a l 0 59) (l1 : hp_i l 1 (p)) (l2 : hp_i l 2 (s)) (l3 : hp_i l 3 (f)) (l4 : hp_i l 4 (t)) (l5 : hp_i l 5 (w)) (e0 : ∀ (l' : am_L) (h' : am_H) (y0 : Int32) (y1 : Int32), y0.toInt = 0 → y1.toInt = (v) → ly_hy m_tt ly_TH h' → ly_fr cst [] h h' → h.length ≤ h'.length → ly_hv cst h' 11014 0 = some (v) → hp_a l' 0 59 → hp_i l' 1 (p) → hp_i l' 2 (s) → hp_i l' 3 (f) → hp_i l' 4 (t) → hp_i l' 5 (w) → hp_F cst strs Φ D M 73 l' [.int y0, .int y1, .ref 70] h') : hp_F cst strs Φ D M 64 l [] h := by
  refine hp_arc c hM bv5_k hD [p, s, f, t, w, v] rfl hy (hp_Bc (z := p) rfl b0 t0 (hp_Bc (z := s) rfl b1 t1 (hp_Bc (z := f) rfl b2 t2 (hp_Bc (z := t) rfl b3 t3 (hp_Bc (z := w) rfl b4 t4 (hp_Bc (z := v) rfl b5 t5 hp_Bn)))))) hp_Fn (hp_Kc (zi := (0 + 0)) (zv := (0 + (1 * v + 0))) k0 rfl rfl (by omega) (by omega) hp_Kn) (hp_La l0 (hp_Li (z := (0 + (1 * p + 0))) l1 rfl (by omega) (hp_Li (z := (0 + (1 * s + 0))) l2 rfl (by omega) (hp_Li (z := (0 + (1 * f + 0))) l3 rfl (by omega) (hp_Li (z := (0 + (1 * t + 0))) l4 rfl (by omega) (hp_Li (z := (0 + (1 * w + 0))) l5 rfl (by omega) hp_Ln)))))) trivial ?_ ?_
  · intro p hp ys l' st' h' hys a1 a2 a3 gZ gL gS
    rcases List.mem_cons.mp hp with rfl | hp
    · obtain rfl := hp_y0 hys
      obtain ⟨y0, t0, rfl, q0, g0⟩ := hp_gSi (z := (0 + 0)) gS rfl
      obtain ⟨y1, t1, rfl, q1, g1⟩ := hp_gSi (z := (0 + (1 * v + 0))) g0 rfl
      obtain ⟨t2, rfl, g2⟩ := hp_gSa g1 (by decide)
      cases hp_gSn g2
      exact e0 l' h' y0 y1 (by omega) (by omega) a1 a2 a3 (hp_gK (zi := (0 + 0)) (zv := (0 + (1 * v + 0))) gZ.2.2.2 (List.mem_of_getElem? (i := 0) rfl) rfl rfl (by omega) (by omega)) (hp_gLa gL (List.mem_of_getElem? (i := 0) rfl) (by decide)) (hp_gLi (z := (0 + (1 * p + 0))) gL (List.mem_of_getElem? (i := 1) rfl) rfl (by omega)) (hp_gLi (z := (0 + (1 * s + 0))) gL (List.mem_of_getElem? (i := 2) rfl) rfl (by omega)) (hp_gLi (z := (0 + (1 * f + 0))) gL (List.mem_of_getElem? (i := 3) rfl) rfl (by omega)) (hp_gLi (z := (0 + (1 * t + 0))) gL (List.mem_of_getElem? (i := 4) rfl) rfl (by omega)) (hp_gLi (z := (0 + (1 * w + 0))) gL (List.mem_of_getElem? (i := 5) rfl) rfl (by omega))
    cases hp
  · intro p hp ys v h' hys a1 a2 a3 gZ gS
    cases hp
theorem bvr_k : hp_chk 207 74 6 [(0, (-2147483648), 2147483647), (1, (-2147483648), 2147483647), (2, (-2147483648), 2147483647), (3, (-2147483648), 2147483647), (4, (-2147483648), 2147483647), (5, 0, 79)] [] [(0, .inr (.inr (.inl (some 59)))), (1, .inl (0, [(0, 1)])), (2, .inl (0, [(1, 1)])), (3, .inl (0, [(2, 1)])), (4, .inl (0, [(3, 1)])), (5, .inl (0, [(4, 1)]))] [] [(11014, (0, []), (0, [(5, 1)]))] [11014] 2 [] [([], 6, [(0, (-2147483648), 2147483647), (1, (-2147483648), 2147483647), (2, (-2147483648), 2147483647), (3, (-2147483648), 2147483647), (4, (-2147483648), 2147483647), (5, 0, 79)], [], [], [.inl (0, [(5, 1)])], [(11014, (0, []), (1, [(5, 1)]))])] = true := by decide +kernel
theorem bvr {cst : am_K} {strs : List Nat} {Φ : am_Q → Prop} {D : Nat} {M : am_M} {h : am_H} {l : am_L} (c : hp_C cst strs D) (hM : m_P[207]? = some M) (hD : (2 : Int) ≤ (D : Int) + 1) (hy : ly_hy m_tt ly_TH h) (p s f t w v : Int) (b0 : (-2147483648) ≤ p) (t0 : p ≤ 2147483647) (b1 : (-2147483648) ≤ s) (t1 : s ≤ 2147483647) (b2 : (-2147483648) ≤ f) (t2 : f ≤ 2147483647) (b3 : (-2147483648) ≤ t) (t3 : t ≤ 2147483647) (b4 : (-2147483648) ≤ w) (t4 : w ≤ 2147483647) (b5 : 0 ≤ v) (t5 : v ≤ 79) (k0 : ly_hv cst h 11014 0 = some (v)) (l0 : hp_a l 0 59) (l1 : hp_i l 1 (p)) (l2 : hp_i l 2 (s)) (l3 : hp_i l 3 (f)) (l4 : hp_i l 4 (t)) (l5 : hp_i l 5 (w)) (r0 : ∀ (h' : am_H) (y0 : Int32), y0.toInt = (v) → ly_hy m_tt ly_TH h' → ly_fr cst [11014] h h' → h.length ≤ h'.length → ly_hv cst h' 11014 0 = some (v + 1) → Φ (some (.int y0), h', 0, 0)) : hp_F cst strs Φ D M 74 l [] h := by
  refine hp_arc c hM bvr_k hD [p, s, f, t, w, v] rfl hy (hp_Bc (z := p) rfl b0 t0 (hp_Bc (z := s) rfl b1 t1 (hp_Bc (z := f) rfl b2 t2 (hp_Bc (z := t) rfl b3 t3 (hp_Bc (z := w) rfl b4 t4 (hp_Bc (z := v) rfl b5 t5 hp_Bn)))))) hp_Fn (hp_Kc (zi := (0 + 0)) (zv := (0 + (1 * v + 0))) k0 rfl rfl (by omega) (by omega) hp_Kn) (hp_La l0 (hp_Li (z := (0 + (1 * p + 0))) l1 rfl (by omega) (hp_Li (z := (0 + (1 * s + 0))) l2 rfl (by omega) (hp_Li (z := (0 + (1 * f + 0))) l3 rfl (by omega) (hp_Li (z := (0 + (1 * t + 0))) l4 rfl (by omega) (hp_Li (z := (0 + (1 * w + 0))) l5 rfl (by omega) hp_Ln)))))) trivial ?_ ?_
  · intro p hp ys l' st' h' hys a1 a2 a3 gZ gL gS
    cases hp
  · intro p hp ys v h' hys a1 a2 a3 gZ gS
    rcases List.mem_cons.mp hp with rfl | hp
    · obtain rfl := hp_y0 hys
      cases v with
      | none => cases gS
      | some w =>
        obtain ⟨y0, t0, s0, q0, -⟩ := hp_gSi (z := (0 + (1 * v + 0))) gS rfl
        cases s0
        exact r0 h' y0 (by omega) a1 a2 a3 (hp_gK (zi := (0 + 0)) (zv := (1 + (1 * v + 0))) gZ.2.2.2 (List.mem_of_getElem? (i := 0) rfl) rfl rfl (by omega) (by omega))
    cases hp
theorem bwf_k : hp_chk 386 58 5 [(0, (-2147483648), 2147483647), (1, (-2147483648), 2147483647), (2, (-2147483648), 2147483647), (3, (-2147483648), 2147483647), (4, (-2147483648), 2147483647)] [] [(0, .inr (.inr (.inl (some 94)))), (1, .inl (0, [(0, 1)])), (2, .inl (0, [(1, 1)])), (3, .inl (0, [(2, 1)])), (4, .inl (0, [(3, 1)])), (5, .inl (0, [(4, 1)]))] [] [(20073, (0, []), (80, []))] [] 2 [] [([], 5, [(0, (-2147483648), 2147483647), (1, (-2147483648), 2147483647), (2, (-2147483648), 2147483647), (3, (-2147483648), 2147483647), (4, (-2147483648), 2147483647)], [], [], [.inl ((-3), [])], [(20073, (0, []), (80, []))])] = true := by decide +kernel
theorem bwf {cst : am_K} {strs : List Nat} {Φ : am_Q → Prop} {D : Nat} {M : am_M} {h : am_H} {l : am_L} (c : hp_C cst strs D) (hM : m_P[386]? = some M) (hD : (2 : Int) ≤ (D : Int) + 1) (hy : ly_hy m_tt ly_TH h) (p s f t w : Int) (b0 : (-2147483648) ≤ p) (t0 : p ≤ 2147483647) (b1 : (-2147483648) ≤ s) (t1 : s ≤ 2147483647) (b2 : (-2147483648) ≤ f) (t2 : f ≤ 2147483647) (b3 : (-2147483648) ≤ t) (t3 : t ≤ 2147483647) (b4 : (-2147483648) ≤ w) (t4 : w ≤ 2147483647) (k0 : ly_hv cst h 20073 0 = some 80) (l0 : hp_a l 0 94) (l1 : hp_i l 1 (p)) (l2 : hp_i l 2 (s)) (l3 : hp_i l 3 (f)) (l4 : hp_i l 4 (t)) (l5 : hp_i l 5 (w)) (r0 : ∀ (h' : am_H) (y0 : Int32), y0.toInt = (-3) → ly_hy m_tt ly_TH h' → ly_fr cst [] h h' → h.length ≤ h'.length → ly_hv cst h' 20073 0 = some 80 → Φ (some (.int y0), h', 0, 0)) : hp_F cst strs Φ D M 58 l [] h := by
  refine hp_arc c hM bwf_k hD [p, s, f, t, w] rfl hy (hp_Bc (z := p) rfl b0 t0 (hp_Bc (z := s) rfl b1 t1 (hp_Bc (z := f) rfl b2 t2 (hp_Bc (z := t) rfl b3 t3 (hp_Bc (z := w) rfl b4 t4 hp_Bn))))) hp_Fn (hp_Kc (zi := (0 + 0)) (zv := (80 + 0)) k0 rfl rfl (by omega) (by omega) hp_Kn) (hp_La l0 (hp_Li (z := (0 + (1 * p + 0))) l1 rfl (by omega) (hp_Li (z := (0 + (1 * s + 0))) l2 rfl (by omega) (hp_Li (z := (0 + (1 * f + 0))) l3 rfl (by omega) (hp_Li (z := (0 + (1 * t + 0))) l4 rfl (by omega) (hp_Li (z := (0 + (1 * w + 0))) l5 rfl (by omega) hp_Ln)))))) trivial ?_ ?_
  · intro p hp ys l' st' h' hys a1 a2 a3 gZ gL gS
    cases hp
  · intro p hp ys v h' hys a1 a2 a3 gZ gS
    rcases List.mem_cons.mp hp with rfl | hp
    · obtain rfl := hp_y0 hys
      cases v with
      | none => cases gS
      | some w =>
        obtain ⟨y0, t0, s0, q0, -⟩ := hp_gSi (z := ((-3) + 0)) gS rfl
        cases s0
        exact r0 h' y0 (by omega) a1 a2 a3 (hp_gK (zi := (0 + 0)) (zv := (80 + 0)) gZ.2.2.2 (List.mem_of_getElem? (i := 0) rfl) rfl rfl (by omega) (by omega))
    cases hp
theorem bw0_k : hp_chk 386 58 6 [(0, (-2147483648), 2147483647), (1, (-2147483648), 2147483647), (2, (-2147483648), 2147483647), (3, (-2147483648), 2147483647), (4, (-2147483648), 2147483647), (5, 0, 79)] [] [(0, .inr (.inr (.inl (some 94)))), (1, .inl (0, [(0, 1)])), (2, .inl (0, [(1, 1)])), (3, .inl (0, [(2, 1)])), (4, .inl (0, [(3, 1)])), (5, .inl (0, [(4, 1)]))] [] [(20073, (0, []), (0, [(5, 1)]))] [] 2 [(79, ([], 6, [(0, (-2147483648), 2147483647), (1, (-2147483648), 2147483647), (2, (-2147483648), 2147483647), (3, (-2147483648), 2147483647), (4, (-2147483648), 2147483647), (5, 0, 79)], [], [(0, .inr (.inr (.inl (some 94)))), (1, .inl (0, [(0, 1)])), (2, .inl (0, [(1, 1)])), (3, .inl (0, [(2, 1)])), (4, .inl (0, [(3, 1)])), (5, .inl (0, [(4, 1)]))], [.inl (0, [(0, 1)]), .inl (0, [(5, 1)]), .inr (.inr (.inl (some 170)))], [(20073, (0, []), (0, [(5, 1)]))]))] [] = true := by decide +kernel
theorem bw0 {cst : am_K} {strs : List Nat} {Φ : am_Q → Prop} {D : Nat} {M : am_M} {h : am_H} {l : am_L} (c : hp_C cst strs D) (hM : m_P[386]? = some M) (hD : (2 : Int) ≤ (D : Int) + 1) (hy : ly_hy m_tt ly_TH h) (p s f t w v : Int) (b0 : (-2147483648) ≤ p) (t0 : p ≤ 2147483647) (b1 : (-2147483648) ≤ s) (t1 : s ≤ 2147483647) (b2 : (-2147483648) ≤ f) (t2 : f ≤ 2147483647) (b3 : (-2147483648) ≤ t) (t3 : t ≤ 2147483647) (b4 : (-2147483648) ≤ w) (t4 : w ≤ 2147483647) (b5 : 0 ≤ v) (t5 : v ≤ 79) (k0 : ly_hv cst h 20073 0 = some (v)) (l0 : hp_a l 0 94) (l1 : hp_i l 1 (p)) (l2 : hp_i l 2 (s)) (l3 : hp_i l 3 (f)) (l4 : hp_i l 4 (t)) (l5 : hp_i l 5 (w)) (e0 : ∀ (l' : am_L) (h' : am_H) (y0 : Int32) (y1 : Int32), y0.toInt = (p) → y1.toInt = (v) → ly_hy m_tt ly_TH h' → ly_fr cst [] h h' → h.length ≤ h'.length → ly_hv cst h' 20073 0 = some (v) → hp_a l' 0 94 → hp_i l' 1 (p) → hp_i l' 2 (s) → hp_i l' 3 (f) → hp_i l' 4 (t) → hp_i l' 5 (w) → hp_F cst strs Φ D M 79 l' [.int y0, .int y1, .ref 170] h') : hp_F cst strs Φ D M 58 l [] h := by
  refine hp_arc c hM bw0_k hD [p, s, f, t, w, v] rfl hy (hp_Bc (z := p) rfl b0 t0 (hp_Bc (z := s) rfl b1 t1 (hp_Bc (z := f) rfl b2 t2 (hp_Bc (z := t) rfl b3 t3 (hp_Bc (z := w) rfl b4 t4 (hp_Bc (z := v) rfl b5 t5 hp_Bn)))))) hp_Fn (hp_Kc (zi := (0 + 0)) (zv := (0 + (1 * v + 0))) k0 rfl rfl (by omega) (by omega) hp_Kn) (hp_La l0 (hp_Li (z := (0 + (1 * p + 0))) l1 rfl (by omega) (hp_Li (z := (0 + (1 * s + 0))) l2 rfl (by omega) (hp_Li (z := (0 + (1 * f + 0))) l3 rfl (by omega) (hp_Li (z := (0 + (1 * t + 0))) l4 rfl (by omega) (hp_Li (z := (0 + (1 * w + 0))) l5 rfl (by omega) hp_Ln)))))) trivial ?_ ?_
  · intro p hp ys l' st' h' hys a1 a2 a3 gZ gL gS
    rcases List.mem_cons.mp hp with rfl | hp
    · obtain rfl := hp_y0 hys
      obtain ⟨y0, t0, rfl, q0, g0⟩ := hp_gSi (z := (0 + (1 * p + 0))) gS rfl
      obtain ⟨y1, t1, rfl, q1, g1⟩ := hp_gSi (z := (0 + (1 * v + 0))) g0 rfl
      obtain ⟨t2, rfl, g2⟩ := hp_gSa g1 (by decide)
      cases hp_gSn g2
      exact e0 l' h' y0 y1 (by omega) (by omega) a1 a2 a3 (hp_gK (zi := (0 + 0)) (zv := (0 + (1 * v + 0))) gZ.2.2.2 (List.mem_of_getElem? (i := 0) rfl) rfl rfl (by omega) (by omega)) (hp_gLa gL (List.mem_of_getElem? (i := 0) rfl) (by decide)) (hp_gLi (z := (0 + (1 * p + 0))) gL (List.mem_of_getElem? (i := 1) rfl) rfl (by omega)) (hp_gLi (z := (0 + (1 * s + 0))) gL (List.mem_of_getElem? (i := 2) rfl) rfl (by omega)) (hp_gLi (z := (0 + (1 * f + 0))) gL (List.mem_of_getElem? (i := 3) rfl) rfl (by omega)) (hp_gLi (z := (0 + (1 * t + 0))) gL (List.mem_of_getElem? (i := 4) rfl) rfl (by omega)) (hp_gLi (z := (0 + (1 * w + 0))) gL (List.mem_of_getElem? (i := 5) rfl) rfl (by omega))
    cases hp
  · intro p hp ys v h' hys a1 a2 a3 gZ gS
    cases hp
theorem bw1_k : hp_chk 386 80 6 [(0, (-2147483648), 2147483647), (1, (-2147483648), 2147483647), (2, (-2147483648), 2147483647), (3, (-2147483648), 2147483647), (4, (-2147483648), 2147483647), (5, 0, 79)] [] [(0, .inr (.inr (.inl (some 94)))), (1, .inl (0, [(0, 1)])), (2, .inl (0, [(1, 1)])), (3, .inl (0, [(2, 1)])), (4, .inl (0, [(3, 1)])), (5, .inl (0, [(4, 1)]))] [] [(20073, (0, []), (0, [(5, 1)]))] [] 2 [(89, ([], 6, [(0, (-2147483648), 2147483647), (1, (-2147483648), 2147483647), (2, (-2147483648), 2147483647), (3, (-2147483648), 2147483647), (4, (-2147483648), 2147483647), (5, 0, 79)], [], [(0, .inr (.inr (.inl (some 94)))), (1, .inl (0, [(0, 1)])), (2, .inl (0, [(1, 1)])), (3, .inl (0, [(2, 1)])), (4, .inl (0, [(3, 1)])), (5, .inl (0, [(4, 1)]))], [.inl (0, [(1, 1)]), .inl (0, [(5, 1)]), .inr (.inr (.inl (some 171)))], [(20073, (0, []), (0, [(5, 1)]))]))] [] = true := by decide +kernel
theorem bw1 {cst : am_K} {strs : List Nat} {Φ : am_Q → Prop} {D : Nat} {M : am_M} {h : am_H} {l : am_L} (c : hp_C cst strs D) (hM : m_P[386]? = some M) (hD : (2 : Int) ≤ (D : Int) + 1) (hy : ly_hy m_tt ly_TH h) (p s f t w v : Int) (b0 : (-2147483648) ≤ p) (t0 : p ≤ 2147483647) (b1 : (-2147483648) ≤ s) (t1 : s ≤ 2147483647) (b2 : (-2147483648) ≤ f) (t2 : f ≤ 2147483647) (b3 : (-2147483648) ≤ t) (t3 : t ≤ 2147483647) (b4 : (-2147483648) ≤ w) (t4 : w ≤ 2147483647) (b5 : 0 ≤ v) (t5 : v ≤ 79) (k0 : ly_hv cst h 20073 0 = some (v)) (l0 : hp_a l 0 94) (l1 : hp_i l 1 (p)) (l2 : hp_i l 2 (s)) (l3 : hp_i l 3 (f)) (l4 : hp_i l 4 (t)) (l5 : hp_i l 5 (w)) (e0 : ∀ (l' : am_L) (h' : am_H) (y0 : Int32) (y1 : Int32), y0.toInt = (s) → y1.toInt = (v) → ly_hy m_tt ly_TH h' → ly_fr cst [] h h' → h.length ≤ h'.length → ly_hv cst h' 20073 0 = some (v) → hp_a l' 0 94 → hp_i l' 1 (p) → hp_i l' 2 (s) → hp_i l' 3 (f) → hp_i l' 4 (t) → hp_i l' 5 (w) → hp_F cst strs Φ D M 89 l' [.int y0, .int y1, .ref 171] h') : hp_F cst strs Φ D M 80 l [] h := by
  refine hp_arc c hM bw1_k hD [p, s, f, t, w, v] rfl hy (hp_Bc (z := p) rfl b0 t0 (hp_Bc (z := s) rfl b1 t1 (hp_Bc (z := f) rfl b2 t2 (hp_Bc (z := t) rfl b3 t3 (hp_Bc (z := w) rfl b4 t4 (hp_Bc (z := v) rfl b5 t5 hp_Bn)))))) hp_Fn (hp_Kc (zi := (0 + 0)) (zv := (0 + (1 * v + 0))) k0 rfl rfl (by omega) (by omega) hp_Kn) (hp_La l0 (hp_Li (z := (0 + (1 * p + 0))) l1 rfl (by omega) (hp_Li (z := (0 + (1 * s + 0))) l2 rfl (by omega) (hp_Li (z := (0 + (1 * f + 0))) l3 rfl (by omega) (hp_Li (z := (0 + (1 * t + 0))) l4 rfl (by omega) (hp_Li (z := (0 + (1 * w + 0))) l5 rfl (by omega) hp_Ln)))))) trivial ?_ ?_
  · intro p hp ys l' st' h' hys a1 a2 a3 gZ gL gS
    rcases List.mem_cons.mp hp with rfl | hp
    · obtain rfl := hp_y0 hys
      obtain ⟨y0, t0, rfl, q0, g0⟩ := hp_gSi (z := (0 + (1 * s + 0))) gS rfl
      obtain ⟨y1, t1, rfl, q1, g1⟩ := hp_gSi (z := (0 + (1 * v + 0))) g0 rfl
      obtain ⟨t2, rfl, g2⟩ := hp_gSa g1 (by decide)
      cases hp_gSn g2
      exact e0 l' h' y0 y1 (by omega) (by omega) a1 a2 a3 (hp_gK (zi := (0 + 0)) (zv := (0 + (1 * v + 0))) gZ.2.2.2 (List.mem_of_getElem? (i := 0) rfl) rfl rfl (by omega) (by omega)) (hp_gLa gL (List.mem_of_getElem? (i := 0) rfl) (by decide)) (hp_gLi (z := (0 + (1 * p + 0))) gL (List.mem_of_getElem? (i := 1) rfl) rfl (by omega)) (hp_gLi (z := (0 + (1 * s + 0))) gL (List.mem_of_getElem? (i := 2) rfl) rfl (by omega)) (hp_gLi (z := (0 + (1 * f + 0))) gL (List.mem_of_getElem? (i := 3) rfl) rfl (by omega)) (hp_gLi (z := (0 + (1 * t + 0))) gL (List.mem_of_getElem? (i := 4) rfl) rfl (by omega)) (hp_gLi (z := (0 + (1 * w + 0))) gL (List.mem_of_getElem? (i := 5) rfl) rfl (by omega))
    cases hp
  · intro p hp ys v h' hys a1 a2 a3 gZ gS
    cases hp
theorem bw2_k : hp_chk 386 90 6 [(0, (-2147483648), 2147483647), (1, (-2147483648), 2147483647), (2, (-2147483648), 2147483647), (3, (-2147483648), 2147483647), (4, (-2147483648), 2147483647), (5, 0, 79)] [] [(0, .inr (.inr (.inl (some 94)))), (1, .inl (0, [(0, 1)])), (2, .inl (0, [(1, 1)])), (3, .inl (0, [(2, 1)])), (4, .inl (0, [(3, 1)])), (5, .inl (0, [(4, 1)]))] [] [(20073, (0, []), (0, [(5, 1)]))] [] 2 [(99, ([], 6, [(0, (-2147483648), 2147483647), (1, (-2147483648), 2147483647), (2, (-2147483648), 2147483647), (3, (-2147483648), 2147483647), (4, (-2147483648), 2147483647), (5, 0, 79)], [], [(0, .inr (.inr (.inl (some 94)))), (1, .inl (0, [(0, 1)])), (2, .inl (0, [(1, 1)])), (3, .inl (0, [(2, 1)])), (4, .inl (0, [(3, 1)])), (5, .inl (0, [(4, 1)]))], [.inl (0, [(2, 1)]), .inl (0, [(5, 1)]), .inr (.inr (.inl (some 172)))], [(20073, (0, []), (0, [(5, 1)]))]))] [] = true := by decide +kernel
theorem bw2 {cst : am_K} {strs : List Nat} {Φ : am_Q → Prop} {D : Nat} {M : am_M} {h : am_H} {l : am_L} (c : hp_C cst strs D) (hM : m_P[386]? = some M) (hD : (2 : Int) ≤ (D : Int) + 1) (hy : ly_hy m_tt ly_TH h) (p s f t w v : Int) (b0 : (-2147483648) ≤ p) (t0 : p ≤ 2147483647) (b1 : (-2147483648) ≤ s) (t1 : s ≤ 2147483647) (b2 : (-2147483648) ≤ f) (t2 : f ≤ 2147483647) (b3 : (-2147483648) ≤ t) (t3 : t ≤ 2147483647) (b4 : (-2147483648) ≤ w) (t4 : w ≤ 2147483647) (b5 : 0 ≤ v) (t5 : v ≤ 79) (k0 : ly_hv cst h 20073 0 = some (v)) (l0 : hp_a l 0 94) (l1 : hp_i l 1 (p)) (l2 : hp_i l 2 (s)) (l3 : hp_i l 3 (f)) (l4 : hp_i l 4 (t)) (l5 : hp_i l 5 (w)) (e0 : ∀ (l' : am_L) (h' : am_H) (y0 : Int32) (y1 : Int32), y0.toInt = (f) → y1.toInt = (v) → ly_hy m_tt ly_TH h' → ly_fr cst [] h h' → h.length ≤ h'.length → ly_hv cst h' 20073 0 = some (v) → hp_a l' 0 94 → hp_i l' 1 (p) → hp_i l' 2 (s) → hp_i l' 3 (f) → hp_i l' 4 (t) → hp_i l' 5 (w) → hp_F cst strs Φ D M 99 l' [.int y0, .int y1, .ref 172] h') : hp_F cst strs Φ D M 90 l [] h := by
  refine hp_arc c hM bw2_k hD [p, s, f, t, w, v] rfl hy (hp_Bc (z := p) rfl b0 t0 (hp_Bc (z := s) rfl b1 t1 (hp_Bc (z := f) rfl b2 t2 (hp_Bc (z := t) rfl b3 t3 (hp_Bc (z := w) rfl b4 t4 (hp_Bc (z := v) rfl b5 t5 hp_Bn)))))) hp_Fn (hp_Kc (zi := (0 + 0)) (zv := (0 + (1 * v + 0))) k0 rfl rfl (by omega) (by omega) hp_Kn) (hp_La l0 (hp_Li (z := (0 + (1 * p + 0))) l1 rfl (by omega) (hp_Li (z := (0 + (1 * s + 0))) l2 rfl (by omega) (hp_Li (z := (0 + (1 * f + 0))) l3 rfl (by omega) (hp_Li (z := (0 + (1 * t + 0))) l4 rfl (by omega) (hp_Li (z := (0 + (1 * w + 0))) l5 rfl (by omega) hp_Ln)))))) trivial ?_ ?_
  · intro p hp ys l' st' h' hys a1 a2 a3 gZ gL gS
    rcases List.mem_cons.mp hp with rfl | hp
    · obtain rfl := hp_y0 hys
      obtain ⟨y0, t0, rfl, q0, g0⟩ := hp_gSi (z := (0 + (1 * f + 0))) gS rfl
      obtain ⟨y1, t1, rfl, q1, g1⟩ := hp_gSi (z := (0 + (1 * v + 0))) g0 rfl
      obtain ⟨t2, rfl, g2⟩ := hp_gSa g1 (by decide)
      cases hp_gSn g2
      exact e0 l' h' y0 y1 (by omega) (by omega) a1 a2 a3 (hp_gK (zi := (0 + 0)) (zv := (0 + (1 * v + 0))) gZ.2.2.2 (List.mem_of_getElem? (i := 0) rfl) rfl rfl (by omega) (by omega)) (hp_gLa gL (List.mem_of_getElem? (i := 0) rfl) (by decide)) (hp_gLi (z := (0 + (1 * p + 0))) gL (List.mem_of_getElem? (i := 1) rfl) rfl (by omega)) (hp_gLi (z := (0 + (1 * s + 0))) gL (List.mem_of_getElem? (i := 2) rfl) rfl (by omega)) (hp_gLi (z := (0 + (1 * f + 0))) gL (List.mem_of_getElem? (i := 3) rfl) rfl (by omega)) (hp_gLi (z := (0 + (1 * t + 0))) gL (List.mem_of_getElem? (i := 4) rfl) rfl (by omega)) (hp_gLi (z := (0 + (1 * w + 0))) gL (List.mem_of_getElem? (i := 5) rfl) rfl (by omega))
    cases hp
  · intro p hp ys v h' hys a1 a2 a3 gZ gS
    cases hp
theorem bw3_k : hp_chk 386 100 6 [(0, (-2147483648), 2147483647), (1, (-2147483648), 2147483647), (2, (-2147483648), 2147483647), (3, (-2147483648), 2147483647), (4, (-2147483648), 2147483647), (5, 0, 79)] [] [(0, .inr (.inr (.inl (some 94)))), (1, .inl (0, [(0, 1)])), (2, .inl (0, [(1, 1)])), (3, .inl (0, [(2, 1)])), (4, .inl (0, [(3, 1)])), (5, .inl (0, [(4, 1)]))] [] [(20073, (0, []), (0, [(5, 1)]))] [] 2 [(110, ([], 6, [(0, (-2147483648), 2147483647), (1, (-2147483648), 2147483647), (2, (-2147483648), 2147483647), (3, (-2147483648), 2147483647), (4, (-2147483648), 2147483647), (5, 0, 79)], [], [(0, .inr (.inr (.inl (some 94)))), (1, .inl (0, [(0, 1)])), (2, .inl (0, [(1, 1)])), (3, .inl (0, [(2, 1)])), (4, .inl (0, [(3, 1)])), (5, .inl (0, [(4, 1)]))], [.inl (0, [(3, 1)]), .inl (0, [(5, 1)]), .inr (.inr (.inl (some 173)))], [(20073, (0, []), (0, [(5, 1)]))]))] [] = true := by decide +kernel
theorem bw3 {cst : am_K} {strs : List Nat} {Φ : am_Q → Prop} {D : Nat} {M : am_M} {h : am_H} {l : am_L} (c : hp_C cst strs D) (hM : m_P[386]? = some M) (hD : (2 : Int) ≤ (D : Int) + 1) (hy : ly_hy m_tt ly_TH h) (p s f t w v : Int) (b0 : (-2147483648) ≤ p) (t0 : p ≤ 2147483647) (b1 : (-2147483648) ≤ s) (t1 : s ≤ 2147483647) (b2 : (-2147483648) ≤ f) (t2 : f ≤ 2147483647) (b3 : (-2147483648) ≤ t) (t3 : t ≤ 2147483647) (b4 : (-2147483648) ≤ w) (t4 : w ≤ 2147483647) (b5 : 0 ≤ v) (t5 : v ≤ 79) (k0 : ly_hv cst h 20073 0 = some (v)) (l0 : hp_a l 0 94) (l1 : hp_i l 1 (p)) (l2 : hp_i l 2 (s)) (l3 : hp_i l 3 (f)) (l4 : hp_i l 4 (t)) (l5 : hp_i l 5 (w)) (e0 : ∀ (l' : am_L) (h' : am_H) (y0 : Int32) (y1 : Int32), y0.toInt = (t) → y1.toInt = (v) → ly_hy m_tt ly_TH h' → ly_fr cst [] h h' → h.length ≤ h'.length → ly_hv cst h' 20073 0 = some (v) → hp_a l' 0 94 → hp_i l' 1 (p) → hp_i l' 2 (s) → hp_i l' 3 (f) → hp_i l' 4 (t) → hp_i l' 5 (w) → hp_F cst strs Φ D M 110 l' [.int y0, .int y1, .ref 173] h') : hp_F cst strs Φ D M 100 l [] h := by
  refine hp_arc c hM bw3_k hD [p, s, f, t, w, v] rfl hy (hp_Bc (z := p) rfl b0 t0 (hp_Bc (z := s) rfl b1 t1 (hp_Bc (z := f) rfl b2 t2 (hp_Bc (z := t) rfl b3 t3 (hp_Bc (z := w) rfl b4 t4 (hp_Bc (z := v) rfl b5 t5 hp_Bn)))))) hp_Fn (hp_Kc (zi := (0 + 0)) (zv := (0 + (1 * v + 0))) k0 rfl rfl (by omega) (by omega) hp_Kn) (hp_La l0 (hp_Li (z := (0 + (1 * p + 0))) l1 rfl (by omega) (hp_Li (z := (0 + (1 * s + 0))) l2 rfl (by omega) (hp_Li (z := (0 + (1 * f + 0))) l3 rfl (by omega) (hp_Li (z := (0 + (1 * t + 0))) l4 rfl (by omega) (hp_Li (z := (0 + (1 * w + 0))) l5 rfl (by omega) hp_Ln)))))) trivial ?_ ?_
  · intro p hp ys l' st' h' hys a1 a2 a3 gZ gL gS
    rcases List.mem_cons.mp hp with rfl | hp
    · obtain rfl := hp_y0 hys
      obtain ⟨y0, t0, rfl, q0, g0⟩ := hp_gSi (z := (0 + (1 * t + 0))) gS rfl
      obtain ⟨y1, t1, rfl, q1, g1⟩ := hp_gSi (z := (0 + (1 * v + 0))) g0 rfl
      obtain ⟨t2, rfl, g2⟩ := hp_gSa g1 (by decide)
      cases hp_gSn g2
      exact e0 l' h' y0 y1 (by omega) (by omega) a1 a2 a3 (hp_gK (zi := (0 + 0)) (zv := (0 + (1 * v + 0))) gZ.2.2.2 (List.mem_of_getElem? (i := 0) rfl) rfl rfl (by omega) (by omega)) (hp_gLa gL (List.mem_of_getElem? (i := 0) rfl) (by decide)) (hp_gLi (z := (0 + (1 * p + 0))) gL (List.mem_of_getElem? (i := 1) rfl) rfl (by omega)) (hp_gLi (z := (0 + (1 * s + 0))) gL (List.mem_of_getElem? (i := 2) rfl) rfl (by omega)) (hp_gLi (z := (0 + (1 * f + 0))) gL (List.mem_of_getElem? (i := 3) rfl) rfl (by omega)) (hp_gLi (z := (0 + (1 * t + 0))) gL (List.mem_of_getElem? (i := 4) rfl) rfl (by omega)) (hp_gLi (z := (0 + (1 * w + 0))) gL (List.mem_of_getElem? (i := 5) rfl) rfl (by omega))
    cases hp
  · intro p hp ys v h' hys a1 a2 a3 gZ gS
    cases hp
theorem bw4_k : hp_chk 386 111 6 [(0, (-2147483648), 2147483647), (1, (-2147483648), 2147483647), (2, (-2147483648), 2147483647), (3, (-2147483648), 2147483647), (4, (-2147483648), 2147483647), (5, 0, 79)] [] [(0, .inr (.inr (.inl (some 94)))), (1, .inl (0, [(0, 1)])), (2, .inl (0, [(1, 1)])), (3, .inl (0, [(2, 1)])), (4, .inl (0, [(3, 1)])), (5, .inl (0, [(4, 1)]))] [] [(20073, (0, []), (0, [(5, 1)]))] [] 2 [(121, ([], 6, [(0, (-2147483648), 2147483647), (1, (-2147483648), 2147483647), (2, (-2147483648), 2147483647), (3, (-2147483648), 2147483647), (4, (-2147483648), 2147483647), (5, 0, 79)], [], [(0, .inr (.inr (.inl (some 94)))), (1, .inl (0, [(0, 1)])), (2, .inl (0, [(1, 1)])), (3, .inl (0, [(2, 1)])), (4, .inl (0, [(3, 1)])), (5, .inl (0, [(4, 1)]))], [.inl (0, [(4, 1)]), .inl (0, [(5, 1)]), .inr (.inr (.inl (some 174)))], [(20073, (0, []), (0, [(5, 1)]))]))] [] = true := by decide +kernel
theorem bw4 {cst : am_K} {strs : List Nat} {Φ : am_Q → Prop} {D : Nat} {M : am_M} {h : am_H} {l : am_L} (c : hp_C cst strs D) (hM : m_P[386]? = some M) (hD : (2 : Int) ≤ (D : Int) + 1) (hy : ly_hy m_tt ly_TH h) (p s f t w v : Int) (b0 : (-2147483648) ≤ p) (t0 : p ≤ 2147483647) (b1 : (-2147483648) ≤ s) (t1 : s ≤ 2147483647) (b2 : (-2147483648) ≤ f) (t2 : f ≤ 2147483647) (b3 : (-2147483648) ≤ t) (t3 : t ≤ 2147483647) (b4 : (-2147483648) ≤ w) (t4 : w ≤ 2147483647) (b5 : 0 ≤ v) (t5 : v ≤ 79) (k0 : ly_hv cst h 20073 0 = some (v)) (l0 : hp_a l 0 94) (l1 : hp_i l 1 (p)) (l2 : hp_i l 2 (s)) (l3 : hp_i l 3 (f)) (l4 : hp_i l 4 (t)) (l5 : hp_i l 5 (w)) (e0 : ∀ (l' : am_L) (h' : am_H) (y0 : Int32) (y1 : Int32), y0.toInt = (w) → y1.toInt = (v) → ly_hy m_tt ly_TH h' → ly_fr cst [] h h' → h.length ≤ h'.length → ly_hv cst h' 20073 0 = some (v) → hp_a l' 0 94 → hp_i l' 1 (p) → hp_i l' 2 (s) → hp_i l' 3 (f) → hp_i l' 4 (t) → hp_i l' 5 (w) → hp_F cst strs Φ D M 121 l' [.int y0, .int y1, .ref 174] h') : hp_F cst strs Φ D M 111 l [] h := by
  refine hp_arc c hM bw4_k hD [p, s, f, t, w, v] rfl hy (hp_Bc (z := p) rfl b0 t0 (hp_Bc (z := s) rfl b1 t1 (hp_Bc (z := f) rfl b2 t2 (hp_Bc (z := t) rfl b3 t3 (hp_Bc (z := w) rfl b4 t4 (hp_Bc (z := v) rfl b5 t5 hp_Bn)))))) hp_Fn (hp_Kc (zi := (0 + 0)) (zv := (0 + (1 * v + 0))) k0 rfl rfl (by omega) (by omega) hp_Kn) (hp_La l0 (hp_Li (z := (0 + (1 * p + 0))) l1 rfl (by omega) (hp_Li (z := (0 + (1 * s + 0))) l2 rfl (by omega) (hp_Li (z := (0 + (1 * f + 0))) l3 rfl (by omega) (hp_Li (z := (0 + (1 * t + 0))) l4 rfl (by omega) (hp_Li (z := (0 + (1 * w + 0))) l5 rfl (by omega) hp_Ln)))))) trivial ?_ ?_
  · intro p hp ys l' st' h' hys a1 a2 a3 gZ gL gS
    rcases List.mem_cons.mp hp with rfl | hp
    · obtain rfl := hp_y0 hys
      obtain ⟨y0, t0, rfl, q0, g0⟩ := hp_gSi (z := (0 + (1 * w + 0))) gS rfl
      obtain ⟨y1, t1, rfl, q1, g1⟩ := hp_gSi (z := (0 + (1 * v + 0))) g0 rfl
      obtain ⟨t2, rfl, g2⟩ := hp_gSa g1 (by decide)
      cases hp_gSn g2
      exact e0 l' h' y0 y1 (by omega) (by omega) a1 a2 a3 (hp_gK (zi := (0 + 0)) (zv := (0 + (1 * v + 0))) gZ.2.2.2 (List.mem_of_getElem? (i := 0) rfl) rfl rfl (by omega) (by omega)) (hp_gLa gL (List.mem_of_getElem? (i := 0) rfl) (by decide)) (hp_gLi (z := (0 + (1 * p + 0))) gL (List.mem_of_getElem? (i := 1) rfl) rfl (by omega)) (hp_gLi (z := (0 + (1 * s + 0))) gL (List.mem_of_getElem? (i := 2) rfl) rfl (by omega)) (hp_gLi (z := (0 + (1 * f + 0))) gL (List.mem_of_getElem? (i := 3) rfl) rfl (by omega)) (hp_gLi (z := (0 + (1 * t + 0))) gL (List.mem_of_getElem? (i := 4) rfl) rfl (by omega)) (hp_gLi (z := (0 + (1 * w + 0))) gL (List.mem_of_getElem? (i := 5) rfl) rfl (by omega))
    cases hp
  · intro p hp ys v h' hys a1 a2 a3 gZ gS
    cases hp
theorem bwr_k : hp_chk 386 122 6 [(0, (-2147483648), 2147483647), (1, (-2147483648), 2147483647), (2, (-2147483648), 2147483647), (3, (-2147483648), 2147483647), (4, (-2147483648), 2147483647), (5, 0, 79)] [] [(0, .inr (.inr (.inl (some 94)))), (1, .inl (0, [(0, 1)])), (2, .inl (0, [(1, 1)])), (3, .inl (0, [(2, 1)])), (4, .inl (0, [(3, 1)])), (5, .inl (0, [(4, 1)]))] [] [(20073, (0, []), (0, [(5, 1)]))] [20073] 2 [] [([], 6, [(0, (-2147483648), 2147483647), (1, (-2147483648), 2147483647), (2, (-2147483648), 2147483647), (3, (-2147483648), 2147483647), (4, (-2147483648), 2147483647), (5, 0, 79)], [], [], [.inl (0, [(5, 1)])], [(20073, (0, []), (1, [(5, 1)]))])] = true := by decide +kernel
theorem bwr {cst : am_K} {strs : List Nat} {Φ : am_Q → Prop} {D : Nat} {M : am_M} {h : am_H} {l : am_L} (c : hp_C cst strs D) (hM : m_P[386]? = some M) (hD : (2 : Int) ≤ (D : Int) + 1) (hy : ly_hy m_tt ly_TH h) (p s f t w v : Int) (b0 : (-2147483648) ≤ p) (t0 : p ≤ 2147483647) (b1 : (-2147483648) ≤ s) (t1 : s ≤ 2147483647) (b2 : (-2147483648) ≤ f) (t2 : f ≤ 2147483647) (b3 : (-2147483648) ≤ t) (t3 : t ≤ 2147483647) (b4 : (-2147483648) ≤ w) (t4 : w ≤ 2147483647) (b5 : 0 ≤ v) (t5 : v ≤ 79) (k0 : ly_hv cst h 20073 0 = some (v)) (l0 : hp_a l 0 94) (l1 : hp_i l 1 (p)) (l2 : hp_i l 2 (s)) (l3 : hp_i l 3 (f)) (l4 : hp_i l 4 (t)) (l5 : hp_i l 5 (w)) (r0 : ∀ (h' : am_H) (y0 : Int32), y0.toInt = (v) → ly_hy m_tt ly_TH h' → ly_fr cst [20073] h h' → h.length ≤ h'.length → ly_hv cst h' 20073 0 = some (v + 1) → Φ (some (.int y0), h', 0, 0)) : hp_F cst strs Φ D M 122 l [] h := by
  refine hp_arc c hM bwr_k hD [p, s, f, t, w, v] rfl hy (hp_Bc (z := p) rfl b0 t0 (hp_Bc (z := s) rfl b1 t1 (hp_Bc (z := f) rfl b2 t2 (hp_Bc (z := t) rfl b3 t3 (hp_Bc (z := w) rfl b4 t4 (hp_Bc (z := v) rfl b5 t5 hp_Bn)))))) hp_Fn (hp_Kc (zi := (0 + 0)) (zv := (0 + (1 * v + 0))) k0 rfl rfl (by omega) (by omega) hp_Kn) (hp_La l0 (hp_Li (z := (0 + (1 * p + 0))) l1 rfl (by omega) (hp_Li (z := (0 + (1 * s + 0))) l2 rfl (by omega) (hp_Li (z := (0 + (1 * f + 0))) l3 rfl (by omega) (hp_Li (z := (0 + (1 * t + 0))) l4 rfl (by omega) (hp_Li (z := (0 + (1 * w + 0))) l5 rfl (by omega) hp_Ln)))))) trivial ?_ ?_
  · intro p hp ys l' st' h' hys a1 a2 a3 gZ gL gS
    cases hp
  · intro p hp ys v h' hys a1 a2 a3 gZ gS
    rcases List.mem_cons.mp hp with rfl | hp
    · obtain rfl := hp_y0 hys
      cases v with
      | none => cases gS
      | some w =>
        obtain ⟨y0, t0, s0, q0, -⟩ := hp_gSi (z := (0 + (1 * v + 0))) gS rfl
        cases s0
        exact r0 h' y0 (by omega) a1 a2 a3 (hp_gK (zi := (0 + 0)) (zv := (1 + (1 * v + 0))) gZ.2.2.2 (List.mem_of_getElem? (i := 0) rfl) rfl rfl (by omega) (by omega))
    cases hp
theorem bt0_k : hp_chk 212 0 3 [(0, (-2147483648), (-1)), (1, (-2147483648), 2147483647), (2, 0, 80)] [] [(0, .inr (.inr (.inl (some 59)))), (1, .inl (0, [(0, 1)])), (2, .inl (0, [(1, 1)]))] [] [(11014, (0, []), (0, [(2, 1)]))] [] 4 [] [([], 3, [(0, (-2147483648), (-1)), (1, (-2147483648), 2147483647), (2, 0, 80)], [], [], [.inl ((-1), [])], [])] = true := by decide +kernel
theorem bt0 {cst : am_K} {strs : List Nat} {Φ : am_Q → Prop} {D : Nat} {M : am_M} {h : am_H} {l : am_L} (c : hp_C cst strs D) (hM : m_P[212]? = some M) (hD : (4 : Int) ≤ (D : Int) + 1) (hy : ly_hy m_tt ly_TH h) (x y n : Int) (b0 : (-2147483648) ≤ x) (t0 : x ≤ (-1)) (b1 : (-2147483648) ≤ y) (t1 : y ≤ 2147483647) (b2 : 0 ≤ n) (t2 : n ≤ 80) (k0 : ly_hv cst h 11014 0 = some (n)) (l0 : hp_a l 0 59) (l1 : hp_i l 1 (x)) (l2 : hp_i l 2 (y)) (r0 : ∀ (h' : am_H) (y0 : Int32), y0.toInt = (-1) → ly_hy m_tt ly_TH h' → ly_fr cst [] h h' → h.length ≤ h'.length → Φ (some (.int y0), h', 0, 0)) : hp_F cst strs Φ D M 0 l [] h := by
  refine hp_arc c hM bt0_k hD [x, y, n] rfl hy (hp_Bc (z := x) rfl b0 t0 (hp_Bc (z := y) rfl b1 t1 (hp_Bc (z := n) rfl b2 t2 hp_Bn))) hp_Fn (hp_Kc (zi := (0 + 0)) (zv := (0 + (1 * n + 0))) k0 rfl rfl (by omega) (by omega) hp_Kn) (hp_La l0 (hp_Li (z := (0 + (1 * x + 0))) l1 rfl (by omega) (hp_Li (z := (0 + (1 * y + 0))) l2 rfl (by omega) hp_Ln))) trivial ?_ ?_
  · intro p hp ys l' st' h' hys a1 a2 a3 gZ gL gS
    cases hp
  · intro p hp ys v h' hys a1 a2 a3 gZ gS
    rcases List.mem_cons.mp hp with rfl | hp
    · obtain rfl := hp_y0 hys
      cases v with
      | none => cases gS
      | some w =>
        obtain ⟨y0, t0, s0, q0, -⟩ := hp_gSi (z := ((-1) + 0)) gS rfl
        cases s0
        exact r0 h' y0 (by omega) a1 a2 a3
    cases hp
theorem bt1_k : hp_chk 212 0 3 [(0, 0, 2147483647), (1, (-2147483648), 2147483647), (2, 0, 80)] [(0, [(0, 1), (2, (-1))])] [(0, .inr (.inr (.inl (some 59)))), (1, .inl (0, [(0, 1)])), (2, .inl (0, [(1, 1)]))] [] [(11014, (0, []), (0, [(2, 1)]))] [] 4 [] [([], 3, [(0, 0, 2147483647), (1, (-2147483648), 2147483647), (2, 0, 80)], [], [], [.inl ((-1), [])], [])] = true := by decide +kernel
theorem bt1 {cst : am_K} {strs : List Nat} {Φ : am_Q → Prop} {D : Nat} {M : am_M} {h : am_H} {l : am_L} (c : hp_C cst strs D) (hM : m_P[212]? = some M) (hD : (4 : Int) ≤ (D : Int) + 1) (hy : ly_hy m_tt ly_TH h) (x y n : Int) (b0 : 0 ≤ x) (t0 : x ≤ 2147483647) (b1 : (-2147483648) ≤ y) (t1 : y ≤ 2147483647) (b2 : 0 ≤ n) (t2 : n ≤ 80) (f0 : 0 ≤ (x - n)) (k0 : ly_hv cst h 11014 0 = some (n)) (l0 : hp_a l 0 59) (l1 : hp_i l 1 (x)) (l2 : hp_i l 2 (y)) (r0 : ∀ (h' : am_H) (y0 : Int32), y0.toInt = (-1) → ly_hy m_tt ly_TH h' → ly_fr cst [] h h' → h.length ≤ h'.length → Φ (some (.int y0), h', 0, 0)) : hp_F cst strs Φ D M 0 l [] h := by
  refine hp_arc c hM bt1_k hD [x, y, n] rfl hy (hp_Bc (z := x) rfl b0 t0 (hp_Bc (z := y) rfl b1 t1 (hp_Bc (z := n) rfl b2 t2 hp_Bn))) (hp_Fc (z := (0 + (1 * x + ((-1) * n + 0)))) rfl (by omega) hp_Fn) (hp_Kc (zi := (0 + 0)) (zv := (0 + (1 * n + 0))) k0 rfl rfl (by omega) (by omega) hp_Kn) (hp_La l0 (hp_Li (z := (0 + (1 * x + 0))) l1 rfl (by omega) (hp_Li (z := (0 + (1 * y + 0))) l2 rfl (by omega) hp_Ln))) trivial ?_ ?_
  · intro p hp ys l' st' h' hys a1 a2 a3 gZ gL gS
    cases hp
  · intro p hp ys v h' hys a1 a2 a3 gZ gS
    rcases List.mem_cons.mp hp with rfl | hp
    · obtain rfl := hp_y0 hys
      cases v with
      | none => cases gS
      | some w =>
        obtain ⟨y0, t0, s0, q0, -⟩ := hp_gSi (z := ((-1) + 0)) gS rfl
        cases s0
        exact r0 h' y0 (by omega) a1 a2 a3
    cases hp
theorem bt2_k : hp_chk 212 0 3 [(0, 0, 79), (1, (-2147483648), (-1)), (2, 0, 80)] [((-1), [(0, (-1)), (2, 1)])] [(0, .inr (.inr (.inl (some 59)))), (1, .inl (0, [(0, 1)])), (2, .inl (0, [(1, 1)]))] [] [(11014, (0, []), (0, [(2, 1)]))] [] 4 [] [([], 3, [(0, 0, 79), (1, (-2147483648), (-1)), (2, 0, 80)], [], [], [.inl ((-1), [])], [])] = true := by decide +kernel
theorem bt2 {cst : am_K} {strs : List Nat} {Φ : am_Q → Prop} {D : Nat} {M : am_M} {h : am_H} {l : am_L} (c : hp_C cst strs D) (hM : m_P[212]? = some M) (hD : (4 : Int) ≤ (D : Int) + 1) (hy : ly_hy m_tt ly_TH h) (x y n : Int) (b0 : 0 ≤ x) (t0 : x ≤ 79) (b1 : (-2147483648) ≤ y) (t1 : y ≤ (-1)) (b2 : 0 ≤ n) (t2 : n ≤ 80) (f0 : 0 ≤ (n - x - 1)) (k0 : ly_hv cst h 11014 0 = some (n)) (l0 : hp_a l 0 59) (l1 : hp_i l 1 (x)) (l2 : hp_i l 2 (y)) (r0 : ∀ (h' : am_H) (y0 : Int32), y0.toInt = (-1) → ly_hy m_tt ly_TH h' → ly_fr cst [] h h' → h.length ≤ h'.length → Φ (some (.int y0), h', 0, 0)) : hp_F cst strs Φ D M 0 l [] h := by
  refine hp_arc c hM bt2_k hD [x, y, n] rfl hy (hp_Bc (z := x) rfl b0 t0 (hp_Bc (z := y) rfl b1 t1 (hp_Bc (z := n) rfl b2 t2 hp_Bn))) (hp_Fc (z := ((-1) + ((-1) * x + (1 * n + 0)))) rfl (by omega) hp_Fn) (hp_Kc (zi := (0 + 0)) (zv := (0 + (1 * n + 0))) k0 rfl rfl (by omega) (by omega) hp_Kn) (hp_La l0 (hp_Li (z := (0 + (1 * x + 0))) l1 rfl (by omega) (hp_Li (z := (0 + (1 * y + 0))) l2 rfl (by omega) hp_Ln))) trivial ?_ ?_
  · intro p hp ys l' st' h' hys a1 a2 a3 gZ gL gS
    cases hp
  · intro p hp ys v h' hys a1 a2 a3 gZ gS
    rcases List.mem_cons.mp hp with rfl | hp
    · obtain rfl := hp_y0 hys
      cases v with
      | none => cases gS
      | some w =>
        obtain ⟨y0, t0, s0, q0, -⟩ := hp_gSi (z := ((-1) + 0)) gS rfl
        cases s0
        exact r0 h' y0 (by omega) a1 a2 a3
    cases hp
theorem bt3_k : hp_chk 212 0 3 [(0, 0, 79), (1, 6, 2147483647), (2, 0, 80)] [((-1), [(0, (-1)), (2, 1)])] [(0, .inr (.inr (.inl (some 59)))), (1, .inl (0, [(0, 1)])), (2, .inl (0, [(1, 1)]))] [] [(11014, (0, []), (0, [(2, 1)]))] [] 4 [] [([], 3, [(0, 0, 79), (1, 6, 2147483647), (2, 0, 80)], [], [], [.inl ((-1), [])], [])] = true := by decide +kernel
theorem bt3 {cst : am_K} {strs : List Nat} {Φ : am_Q → Prop} {D : Nat} {M : am_M} {h : am_H} {l : am_L} (c : hp_C cst strs D) (hM : m_P[212]? = some M) (hD : (4 : Int) ≤ (D : Int) + 1) (hy : ly_hy m_tt ly_TH h) (x y n : Int) (b0 : 0 ≤ x) (t0 : x ≤ 79) (b1 : 6 ≤ y) (t1 : y ≤ 2147483647) (b2 : 0 ≤ n) (t2 : n ≤ 80) (f0 : 0 ≤ (n - x - 1)) (k0 : ly_hv cst h 11014 0 = some (n)) (l0 : hp_a l 0 59) (l1 : hp_i l 1 (x)) (l2 : hp_i l 2 (y)) (r0 : ∀ (h' : am_H) (y0 : Int32), y0.toInt = (-1) → ly_hy m_tt ly_TH h' → ly_fr cst [] h h' → h.length ≤ h'.length → Φ (some (.int y0), h', 0, 0)) : hp_F cst strs Φ D M 0 l [] h := by
  refine hp_arc c hM bt3_k hD [x, y, n] rfl hy (hp_Bc (z := x) rfl b0 t0 (hp_Bc (z := y) rfl b1 t1 (hp_Bc (z := n) rfl b2 t2 hp_Bn))) (hp_Fc (z := ((-1) + ((-1) * x + (1 * n + 0)))) rfl (by omega) hp_Fn) (hp_Kc (zi := (0 + 0)) (zv := (0 + (1 * n + 0))) k0 rfl rfl (by omega) (by omega) hp_Kn) (hp_La l0 (hp_Li (z := (0 + (1 * x + 0))) l1 rfl (by omega) (hp_Li (z := (0 + (1 * y + 0))) l2 rfl (by omega) hp_Ln))) trivial ?_ ?_
  · intro p hp ys l' st' h' hys a1 a2 a3 gZ gL gS
    cases hp
  · intro p hp ys v h' hys a1 a2 a3 gZ gS
    rcases List.mem_cons.mp hp with rfl | hp
    · obtain rfl := hp_y0 hys
      cases v with
      | none => cases gS
      | some w =>
        obtain ⟨y0, t0, s0, q0, -⟩ := hp_gSi (z := ((-1) + 0)) gS rfl
        cases s0
        exact r0 h' y0 (by omega) a1 a2 a3
    cases hp
theorem bta_k : hp_chk 212 0 3 [(0, 0, 79), (1, 0, 80), (2, (-2147483648), 2147483647)] [((-1), [(0, (-1)), (1, 1)])] [(0, .inr (.inr (.inl (some 59)))), (1, .inl (0, [(0, 1)])), (2, .inl (0, []))] [] [(11014, (0, []), (0, [(1, 1)])), (12544, (0, [(0, 1)]), (0, [(2, 1)]))] [] 4 [] [([], 3, [(0, 0, 79), (1, 0, 80), (2, (-2147483648), 2147483647)], [], [], [.inl (0, [(2, 1)])], [])] = true := by decide +kernel
theorem bta {cst : am_K} {strs : List Nat} {Φ : am_Q → Prop} {D : Nat} {M : am_M} {h : am_H} {l : am_L} (c : hp_C cst strs D) (hM : m_P[212]? = some M) (hD : (4 : Int) ≤ (D : Int) + 1) (hy : ly_hy m_tt ly_TH h) (x n a : Int) (b0 : 0 ≤ x) (t0 : x ≤ 79) (b1 : 0 ≤ n) (t1 : n ≤ 80) (b2 : (-2147483648) ≤ a) (t2 : a ≤ 2147483647) (f0 : 0 ≤ (n - x - 1)) (k0 : ly_hv cst h 11014 0 = some (n)) (k1 : ly_hv cst h 12544 (x) = some (a)) (l0 : hp_a l 0 59) (l1 : hp_i l 1 (x)) (l2 : hp_i l 2 0) (r0 : ∀ (h' : am_H) (y0 : Int32), y0.toInt = (a) → ly_hy m_tt ly_TH h' → ly_fr cst [] h h' → h.length ≤ h'.length → Φ (some (.int y0), h', 0, 0)) : hp_F cst strs Φ D M 0 l [] h := by
  refine hp_arc c hM bta_k hD [x, n, a] rfl hy (hp_Bc (z := x) rfl b0 t0 (hp_Bc (z := n) rfl b1 t1 (hp_Bc (z := a) rfl b2 t2 hp_Bn))) (hp_Fc (z := ((-1) + ((-1) * x + (1 * n + 0)))) rfl (by omega) hp_Fn) (hp_Kc (zi := (0 + 0)) (zv := (0 + (1 * n + 0))) k0 rfl rfl (by omega) (by omega) (hp_Kc (zi := (0 + (1 * x + 0))) (zv := (0 + (1 * a + 0))) k1 rfl rfl (by omega) (by omega) hp_Kn)) (hp_La l0 (hp_Li (z := (0 + (1 * x + 0))) l1 rfl (by omega) (hp_Li (z := (0 + 0)) l2 rfl (by omega) hp_Ln))) trivial ?_ ?_
  · intro p hp ys l' st' h' hys a1 a2 a3 gZ gL gS
    cases hp
  · intro p hp ys v h' hys a1 a2 a3 gZ gS
    rcases List.mem_cons.mp hp with rfl | hp
    · obtain rfl := hp_y0 hys
      cases v with
      | none => cases gS
      | some w =>
        obtain ⟨y0, t0, s0, q0, -⟩ := hp_gSi (z := (0 + (1 * a + 0))) gS rfl
        cases s0
        exact r0 h' y0 (by omega) a1 a2 a3
    cases hp
theorem btb_k : hp_chk 212 0 3 [(0, 0, 79), (1, 0, 80), (2, (-2147483648), 2147483647)] [((-1), [(0, (-1)), (1, 1)])] [(0, .inr (.inr (.inl (some 59)))), (1, .inl (0, [(0, 1)])), (2, .inl (1, []))] [] [(11014, (0, []), (0, [(1, 1)])), (12800, (0, [(0, 1)]), (0, [(2, 1)]))] [] 4 [] [([], 3, [(0, 0, 79), (1, 0, 80), (2, (-2147483648), 2147483647)], [], [], [.inl (0, [(2, 1)])], [])] = true := by decide +kernel
theorem btb {cst : am_K} {strs : List Nat} {Φ : am_Q → Prop} {D : Nat} {M : am_M} {h : am_H} {l : am_L} (c : hp_C cst strs D) (hM : m_P[212]? = some M) (hD : (4 : Int) ≤ (D : Int) + 1) (hy : ly_hy m_tt ly_TH h) (x n a : Int) (b0 : 0 ≤ x) (t0 : x ≤ 79) (b1 : 0 ≤ n) (t1 : n ≤ 80) (b2 : (-2147483648) ≤ a) (t2 : a ≤ 2147483647) (f0 : 0 ≤ (n - x - 1)) (k0 : ly_hv cst h 11014 0 = some (n)) (k1 : ly_hv cst h 12800 (x) = some (a)) (l0 : hp_a l 0 59) (l1 : hp_i l 1 (x)) (l2 : hp_i l 2 1) (r0 : ∀ (h' : am_H) (y0 : Int32), y0.toInt = (a) → ly_hy m_tt ly_TH h' → ly_fr cst [] h h' → h.length ≤ h'.length → Φ (some (.int y0), h', 0, 0)) : hp_F cst strs Φ D M 0 l [] h := by
  refine hp_arc c hM btb_k hD [x, n, a] rfl hy (hp_Bc (z := x) rfl b0 t0 (hp_Bc (z := n) rfl b1 t1 (hp_Bc (z := a) rfl b2 t2 hp_Bn))) (hp_Fc (z := ((-1) + ((-1) * x + (1 * n + 0)))) rfl (by omega) hp_Fn) (hp_Kc (zi := (0 + 0)) (zv := (0 + (1 * n + 0))) k0 rfl rfl (by omega) (by omega) (hp_Kc (zi := (0 + (1 * x + 0))) (zv := (0 + (1 * a + 0))) k1 rfl rfl (by omega) (by omega) hp_Kn)) (hp_La l0 (hp_Li (z := (0 + (1 * x + 0))) l1 rfl (by omega) (hp_Li (z := (1 + 0)) l2 rfl (by omega) hp_Ln))) trivial ?_ ?_
  · intro p hp ys l' st' h' hys a1 a2 a3 gZ gL gS
    cases hp
  · intro p hp ys v h' hys a1 a2 a3 gZ gS
    rcases List.mem_cons.mp hp with rfl | hp
    · obtain rfl := hp_y0 hys
      cases v with
      | none => cases gS
      | some w =>
        obtain ⟨y0, t0, s0, q0, -⟩ := hp_gSi (z := (0 + (1 * a + 0))) gS rfl
        cases s0
        exact r0 h' y0 (by omega) a1 a2 a3
    cases hp
theorem btc_k : hp_chk 212 0 3 [(0, 0, 79), (1, 0, 80), (2, (-2147483648), 2147483647)] [((-1), [(0, (-1)), (1, 1)])] [(0, .inr (.inr (.inl (some 59)))), (1, .inl (0, [(0, 1)])), (2, .inl (2, []))] [] [(11014, (0, []), (0, [(1, 1)])), (13056, (0, [(0, 1)]), (0, [(2, 1)]))] [] 4 [] [([], 3, [(0, 0, 79), (1, 0, 80), (2, (-2147483648), 2147483647)], [], [], [.inl (0, [(2, 1)])], [])] = true := by decide +kernel
theorem btc {cst : am_K} {strs : List Nat} {Φ : am_Q → Prop} {D : Nat} {M : am_M} {h : am_H} {l : am_L} (c : hp_C cst strs D) (hM : m_P[212]? = some M) (hD : (4 : Int) ≤ (D : Int) + 1) (hy : ly_hy m_tt ly_TH h) (x n a : Int) (b0 : 0 ≤ x) (t0 : x ≤ 79) (b1 : 0 ≤ n) (t1 : n ≤ 80) (b2 : (-2147483648) ≤ a) (t2 : a ≤ 2147483647) (f0 : 0 ≤ (n - x - 1)) (k0 : ly_hv cst h 11014 0 = some (n)) (k1 : ly_hv cst h 13056 (x) = some (a)) (l0 : hp_a l 0 59) (l1 : hp_i l 1 (x)) (l2 : hp_i l 2 2) (r0 : ∀ (h' : am_H) (y0 : Int32), y0.toInt = (a) → ly_hy m_tt ly_TH h' → ly_fr cst [] h h' → h.length ≤ h'.length → Φ (some (.int y0), h', 0, 0)) : hp_F cst strs Φ D M 0 l [] h := by
  refine hp_arc c hM btc_k hD [x, n, a] rfl hy (hp_Bc (z := x) rfl b0 t0 (hp_Bc (z := n) rfl b1 t1 (hp_Bc (z := a) rfl b2 t2 hp_Bn))) (hp_Fc (z := ((-1) + ((-1) * x + (1 * n + 0)))) rfl (by omega) hp_Fn) (hp_Kc (zi := (0 + 0)) (zv := (0 + (1 * n + 0))) k0 rfl rfl (by omega) (by omega) (hp_Kc (zi := (0 + (1 * x + 0))) (zv := (0 + (1 * a + 0))) k1 rfl rfl (by omega) (by omega) hp_Kn)) (hp_La l0 (hp_Li (z := (0 + (1 * x + 0))) l1 rfl (by omega) (hp_Li (z := (2 + 0)) l2 rfl (by omega) hp_Ln))) trivial ?_ ?_
  · intro p hp ys l' st' h' hys a1 a2 a3 gZ gL gS
    cases hp
  · intro p hp ys v h' hys a1 a2 a3 gZ gS
    rcases List.mem_cons.mp hp with rfl | hp
    · obtain rfl := hp_y0 hys
      cases v with
      | none => cases gS
      | some w =>
        obtain ⟨y0, t0, s0, q0, -⟩ := hp_gSi (z := (0 + (1 * a + 0))) gS rfl
        cases s0
        exact r0 h' y0 (by omega) a1 a2 a3
    cases hp
theorem btd_k : hp_chk 212 0 3 [(0, 0, 79), (1, 0, 80), (2, (-2147483648), 2147483647)] [((-1), [(0, (-1)), (1, 1)])] [(0, .inr (.inr (.inl (some 59)))), (1, .inl (0, [(0, 1)])), (2, .inl (3, []))] [] [(11014, (0, []), (0, [(1, 1)])), (13312, (0, [(0, 1)]), (0, [(2, 1)]))] [] 4 [] [([], 3, [(0, 0, 79), (1, 0, 80), (2, (-2147483648), 2147483647)], [], [], [.inl (0, [(2, 1)])], [])] = true := by decide +kernel
theorem btd {cst : am_K} {strs : List Nat} {Φ : am_Q → Prop} {D : Nat} {M : am_M} {h : am_H} {l : am_L} (c : hp_C cst strs D) (hM : m_P[212]? = some M) (hD : (4 : Int) ≤ (D : Int) + 1) (hy : ly_hy m_tt ly_TH h) (x n a : Int) (b0 : 0 ≤ x) (t0 : x ≤ 79) (b1 : 0 ≤ n) (t1 : n ≤ 80) (b2 : (-2147483648) ≤ a) (t2 : a ≤ 2147483647) (f0 : 0 ≤ (n - x - 1)) (k0 : ly_hv cst h 11014 0 = some (n)) (k1 : ly_hv cst h 13312 (x) = some (a)) (l0 : hp_a l 0 59) (l1 : hp_i l 1 (x)) (l2 : hp_i l 2 3) (r0 : ∀ (h' : am_H) (y0 : Int32), y0.toInt = (a) → ly_hy m_tt ly_TH h' → ly_fr cst [] h h' → h.length ≤ h'.length → Φ (some (.int y0), h', 0, 0)) : hp_F cst strs Φ D M 0 l [] h := by
  refine hp_arc c hM btd_k hD [x, n, a] rfl hy (hp_Bc (z := x) rfl b0 t0 (hp_Bc (z := n) rfl b1 t1 (hp_Bc (z := a) rfl b2 t2 hp_Bn))) (hp_Fc (z := ((-1) + ((-1) * x + (1 * n + 0)))) rfl (by omega) hp_Fn) (hp_Kc (zi := (0 + 0)) (zv := (0 + (1 * n + 0))) k0 rfl rfl (by omega) (by omega) (hp_Kc (zi := (0 + (1 * x + 0))) (zv := (0 + (1 * a + 0))) k1 rfl rfl (by omega) (by omega) hp_Kn)) (hp_La l0 (hp_Li (z := (0 + (1 * x + 0))) l1 rfl (by omega) (hp_Li (z := (3 + 0)) l2 rfl (by omega) hp_Ln))) trivial ?_ ?_
  · intro p hp ys l' st' h' hys a1 a2 a3 gZ gL gS
    cases hp
  · intro p hp ys v h' hys a1 a2 a3 gZ gS
    rcases List.mem_cons.mp hp with rfl | hp
    · obtain rfl := hp_y0 hys
      cases v with
      | none => cases gS
      | some w =>
        obtain ⟨y0, t0, s0, q0, -⟩ := hp_gSi (z := (0 + (1 * a + 0))) gS rfl
        cases s0
        exact r0 h' y0 (by omega) a1 a2 a3
    cases hp
theorem bte_k : hp_chk 212 0 3 [(0, 0, 79), (1, 0, 80), (2, (-2147483648), 2147483647)] [((-1), [(0, (-1)), (1, 1)])] [(0, .inr (.inr (.inl (some 59)))), (1, .inl (0, [(0, 1)])), (2, .inl (4, []))] [] [(11014, (0, []), (0, [(1, 1)])), (13568, (0, [(0, 1)]), (0, [(2, 1)]))] [] 4 [] [([], 3, [(0, 0, 79), (1, 0, 80), (2, (-2147483648), 2147483647)], [], [], [.inl (0, [(2, 1)])], [])] = true := by decide +kernel
theorem bte {cst : am_K} {strs : List Nat} {Φ : am_Q → Prop} {D : Nat} {M : am_M} {h : am_H} {l : am_L} (c : hp_C cst strs D) (hM : m_P[212]? = some M) (hD : (4 : Int) ≤ (D : Int) + 1) (hy : ly_hy m_tt ly_TH h) (x n a : Int) (b0 : 0 ≤ x) (t0 : x ≤ 79) (b1 : 0 ≤ n) (t1 : n ≤ 80) (b2 : (-2147483648) ≤ a) (t2 : a ≤ 2147483647) (f0 : 0 ≤ (n - x - 1)) (k0 : ly_hv cst h 11014 0 = some (n)) (k1 : ly_hv cst h 13568 (x) = some (a)) (l0 : hp_a l 0 59) (l1 : hp_i l 1 (x)) (l2 : hp_i l 2 4) (r0 : ∀ (h' : am_H) (y0 : Int32), y0.toInt = (a) → ly_hy m_tt ly_TH h' → ly_fr cst [] h h' → h.length ≤ h'.length → Φ (some (.int y0), h', 0, 0)) : hp_F cst strs Φ D M 0 l [] h := by
  refine hp_arc c hM bte_k hD [x, n, a] rfl hy (hp_Bc (z := x) rfl b0 t0 (hp_Bc (z := n) rfl b1 t1 (hp_Bc (z := a) rfl b2 t2 hp_Bn))) (hp_Fc (z := ((-1) + ((-1) * x + (1 * n + 0)))) rfl (by omega) hp_Fn) (hp_Kc (zi := (0 + 0)) (zv := (0 + (1 * n + 0))) k0 rfl rfl (by omega) (by omega) (hp_Kc (zi := (0 + (1 * x + 0))) (zv := (0 + (1 * a + 0))) k1 rfl rfl (by omega) (by omega) hp_Kn)) (hp_La l0 (hp_Li (z := (0 + (1 * x + 0))) l1 rfl (by omega) (hp_Li (z := (4 + 0)) l2 rfl (by omega) hp_Ln))) trivial ?_ ?_
  · intro p hp ys l' st' h' hys a1 a2 a3 gZ gL gS
    cases hp
  · intro p hp ys v h' hys a1 a2 a3 gZ gS
    rcases List.mem_cons.mp hp with rfl | hp
    · obtain rfl := hp_y0 hys
      cases v with
      | none => cases gS
      | some w =>
        obtain ⟨y0, t0, s0, q0, -⟩ := hp_gSi (z := (0 + (1 * a + 0))) gS rfl
        cases s0
        exact r0 h' y0 (by omega) a1 a2 a3
    cases hp
theorem btf_k : hp_chk 212 0 3 [(0, 0, 79), (1, 0, 80), (2, (-2147483648), 2147483647)] [((-1), [(0, (-1)), (1, 1)])] [(0, .inr (.inr (.inl (some 59)))), (1, .inl (0, [(0, 1)])), (2, .inl (5, []))] [] [(11014, (0, []), (0, [(1, 1)])), (13824, (0, [(0, 1)]), (0, [(2, 1)]))] [] 4 [] [([], 3, [(0, 0, 79), (1, 0, 80), (2, (-2147483648), 2147483647)], [], [], [.inl (0, [(2, 1)])], [])] = true := by decide +kernel
theorem btf {cst : am_K} {strs : List Nat} {Φ : am_Q → Prop} {D : Nat} {M : am_M} {h : am_H} {l : am_L} (c : hp_C cst strs D) (hM : m_P[212]? = some M) (hD : (4 : Int) ≤ (D : Int) + 1) (hy : ly_hy m_tt ly_TH h) (x n a : Int) (b0 : 0 ≤ x) (t0 : x ≤ 79) (b1 : 0 ≤ n) (t1 : n ≤ 80) (b2 : (-2147483648) ≤ a) (t2 : a ≤ 2147483647) (f0 : 0 ≤ (n - x - 1)) (k0 : ly_hv cst h 11014 0 = some (n)) (k1 : ly_hv cst h 13824 (x) = some (a)) (l0 : hp_a l 0 59) (l1 : hp_i l 1 (x)) (l2 : hp_i l 2 5) (r0 : ∀ (h' : am_H) (y0 : Int32), y0.toInt = (a) → ly_hy m_tt ly_TH h' → ly_fr cst [] h h' → h.length ≤ h'.length → Φ (some (.int y0), h', 0, 0)) : hp_F cst strs Φ D M 0 l [] h := by
  refine hp_arc c hM btf_k hD [x, n, a] rfl hy (hp_Bc (z := x) rfl b0 t0 (hp_Bc (z := n) rfl b1 t1 (hp_Bc (z := a) rfl b2 t2 hp_Bn))) (hp_Fc (z := ((-1) + ((-1) * x + (1 * n + 0)))) rfl (by omega) hp_Fn) (hp_Kc (zi := (0 + 0)) (zv := (0 + (1 * n + 0))) k0 rfl rfl (by omega) (by omega) (hp_Kc (zi := (0 + (1 * x + 0))) (zv := (0 + (1 * a + 0))) k1 rfl rfl (by omega) (by omega) hp_Kn)) (hp_La l0 (hp_Li (z := (0 + (1 * x + 0))) l1 rfl (by omega) (hp_Li (z := (5 + 0)) l2 rfl (by omega) hp_Ln))) trivial ?_ ?_
  · intro p hp ys l' st' h' hys a1 a2 a3 gZ gL gS
    cases hp
  · intro p hp ys v h' hys a1 a2 a3 gZ gS
    rcases List.mem_cons.mp hp with rfl | hp
    · obtain rfl := hp_y0 hys
      cases v with
      | none => cases gS
      | some w =>
        obtain ⟨y0, t0, s0, q0, -⟩ := hp_gSi (z := (0 + (1 * a + 0))) gS rfl
        cases s0
        exact r0 h' y0 (by omega) a1 a2 a3
    cases hp
theorem bz0_k : hp_chk 389 0 3 [(0, (-2147483648), (-1)), (1, (-2147483648), 2147483647), (2, 0, 80)] [] [(0, .inr (.inr (.inl (some 94)))), (1, .inl (0, [(0, 1)])), (2, .inl (0, [(1, 1)]))] [] [(20073, (0, []), (0, [(2, 1)]))] [] 4 [] [([], 3, [(0, (-2147483648), (-1)), (1, (-2147483648), 2147483647), (2, 0, 80)], [], [], [.inl ((-1), [])], [])] = true := by decide +kernel
theorem bz0 {cst : am_K} {strs : List Nat} {Φ : am_Q → Prop} {D : Nat} {M : am_M} {h : am_H} {l : am_L} (c : hp_C cst strs D) (hM : m_P[389]? = some M) (hD : (4 : Int) ≤ (D : Int) + 1) (hy : ly_hy m_tt ly_TH h) (x y n : Int) (b0 : (-2147483648) ≤ x) (t0 : x ≤ (-1)) (b1 : (-2147483648) ≤ y) (t1 : y ≤ 2147483647) (b2 : 0 ≤ n) (t2 : n ≤ 80) (k0 : ly_hv cst h 20073 0 = some (n)) (l0 : hp_a l 0 94) (l1 : hp_i l 1 (x)) (l2 : hp_i l 2 (y)) (r0 : ∀ (h' : am_H) (y0 : Int32), y0.toInt = (-1) → ly_hy m_tt ly_TH h' → ly_fr cst [] h h' → h.length ≤ h'.length → Φ (some (.int y0), h', 0, 0)) : hp_F cst strs Φ D M 0 l [] h := by
  refine hp_arc c hM bz0_k hD [x, y, n] rfl hy (hp_Bc (z := x) rfl b0 t0 (hp_Bc (z := y) rfl b1 t1 (hp_Bc (z := n) rfl b2 t2 hp_Bn))) hp_Fn (hp_Kc (zi := (0 + 0)) (zv := (0 + (1 * n + 0))) k0 rfl rfl (by omega) (by omega) hp_Kn) (hp_La l0 (hp_Li (z := (0 + (1 * x + 0))) l1 rfl (by omega) (hp_Li (z := (0 + (1 * y + 0))) l2 rfl (by omega) hp_Ln))) trivial ?_ ?_
  · intro p hp ys l' st' h' hys a1 a2 a3 gZ gL gS
    cases hp
  · intro p hp ys v h' hys a1 a2 a3 gZ gS
    rcases List.mem_cons.mp hp with rfl | hp
    · obtain rfl := hp_y0 hys
      cases v with
      | none => cases gS
      | some w =>
        obtain ⟨y0, t0, s0, q0, -⟩ := hp_gSi (z := ((-1) + 0)) gS rfl
        cases s0
        exact r0 h' y0 (by omega) a1 a2 a3
    cases hp
theorem bz1_k : hp_chk 389 0 3 [(0, 0, 2147483647), (1, (-2147483648), 2147483647), (2, 0, 80)] [(0, [(0, 1), (2, (-1))])] [(0, .inr (.inr (.inl (some 94)))), (1, .inl (0, [(0, 1)])), (2, .inl (0, [(1, 1)]))] [] [(20073, (0, []), (0, [(2, 1)]))] [] 4 [] [([], 3, [(0, 0, 2147483647), (1, (-2147483648), 2147483647), (2, 0, 80)], [], [], [.inl ((-1), [])], [])] = true := by decide +kernel
theorem bz1 {cst : am_K} {strs : List Nat} {Φ : am_Q → Prop} {D : Nat} {M : am_M} {h : am_H} {l : am_L} (c : hp_C cst strs D) (hM : m_P[389]? = some M) (hD : (4 : Int) ≤ (D : Int) + 1) (hy : ly_hy m_tt ly_TH h) (x y n : Int) (b0 : 0 ≤ x) (t0 : x ≤ 2147483647) (b1 : (-2147483648) ≤ y) (t1 : y ≤ 2147483647) (b2 : 0 ≤ n) (t2 : n ≤ 80) (f0 : 0 ≤ (x - n)) (k0 : ly_hv cst h 20073 0 = some (n)) (l0 : hp_a l 0 94) (l1 : hp_i l 1 (x)) (l2 : hp_i l 2 (y)) (r0 : ∀ (h' : am_H) (y0 : Int32), y0.toInt = (-1) → ly_hy m_tt ly_TH h' → ly_fr cst [] h h' → h.length ≤ h'.length → Φ (some (.int y0), h', 0, 0)) : hp_F cst strs Φ D M 0 l [] h := by
  refine hp_arc c hM bz1_k hD [x, y, n] rfl hy (hp_Bc (z := x) rfl b0 t0 (hp_Bc (z := y) rfl b1 t1 (hp_Bc (z := n) rfl b2 t2 hp_Bn))) (hp_Fc (z := (0 + (1 * x + ((-1) * n + 0)))) rfl (by omega) hp_Fn) (hp_Kc (zi := (0 + 0)) (zv := (0 + (1 * n + 0))) k0 rfl rfl (by omega) (by omega) hp_Kn) (hp_La l0 (hp_Li (z := (0 + (1 * x + 0))) l1 rfl (by omega) (hp_Li (z := (0 + (1 * y + 0))) l2 rfl (by omega) hp_Ln))) trivial ?_ ?_
  · intro p hp ys l' st' h' hys a1 a2 a3 gZ gL gS
    cases hp
  · intro p hp ys v h' hys a1 a2 a3 gZ gS
    rcases List.mem_cons.mp hp with rfl | hp
    · obtain rfl := hp_y0 hys
      cases v with
      | none => cases gS
      | some w =>
        obtain ⟨y0, t0, s0, q0, -⟩ := hp_gSi (z := ((-1) + 0)) gS rfl
        cases s0
        exact r0 h' y0 (by omega) a1 a2 a3
    cases hp
theorem bz2_k : hp_chk 389 0 3 [(0, 0, 79), (1, (-2147483648), (-1)), (2, 0, 80)] [((-1), [(0, (-1)), (2, 1)])] [(0, .inr (.inr (.inl (some 94)))), (1, .inl (0, [(0, 1)])), (2, .inl (0, [(1, 1)]))] [] [(20073, (0, []), (0, [(2, 1)]))] [] 4 [] [([], 3, [(0, 0, 79), (1, (-2147483648), (-1)), (2, 0, 80)], [], [], [.inl ((-1), [])], [])] = true := by decide +kernel
theorem bz2 {cst : am_K} {strs : List Nat} {Φ : am_Q → Prop} {D : Nat} {M : am_M} {h : am_H} {l : am_L} (c : hp_C cst strs D) (hM : m_P[389]? = some M) (hD : (4 : Int) ≤ (D : Int) + 1) (hy : ly_hy m_tt ly_TH h) (x y n : Int) (b0 : 0 ≤ x) (t0 : x ≤ 79) (b1 : (-2147483648) ≤ y) (t1 : y ≤ (-1)) (b2 : 0 ≤ n) (t2 : n ≤ 80) (f0 : 0 ≤ (n - x - 1)) (k0 : ly_hv cst h 20073 0 = some (n)) (l0 : hp_a l 0 94) (l1 : hp_i l 1 (x)) (l2 : hp_i l 2 (y)) (r0 : ∀ (h' : am_H) (y0 : Int32), y0.toInt = (-1) → ly_hy m_tt ly_TH h' → ly_fr cst [] h h' → h.length ≤ h'.length → Φ (some (.int y0), h', 0, 0)) : hp_F cst strs Φ D M 0 l [] h := by
  refine hp_arc c hM bz2_k hD [x, y, n] rfl hy (hp_Bc (z := x) rfl b0 t0 (hp_Bc (z := y) rfl b1 t1 (hp_Bc (z := n) rfl b2 t2 hp_Bn))) (hp_Fc (z := ((-1) + ((-1) * x + (1 * n + 0)))) rfl (by omega) hp_Fn) (hp_Kc (zi := (0 + 0)) (zv := (0 + (1 * n + 0))) k0 rfl rfl (by omega) (by omega) hp_Kn) (hp_La l0 (hp_Li (z := (0 + (1 * x + 0))) l1 rfl (by omega) (hp_Li (z := (0 + (1 * y + 0))) l2 rfl (by omega) hp_Ln))) trivial ?_ ?_
  · intro p hp ys l' st' h' hys a1 a2 a3 gZ gL gS
    cases hp
  · intro p hp ys v h' hys a1 a2 a3 gZ gS
    rcases List.mem_cons.mp hp with rfl | hp
    · obtain rfl := hp_y0 hys
      cases v with
      | none => cases gS
      | some w =>
        obtain ⟨y0, t0, s0, q0, -⟩ := hp_gSi (z := ((-1) + 0)) gS rfl
        cases s0
        exact r0 h' y0 (by omega) a1 a2 a3
    cases hp
theorem bz3_k : hp_chk 389 0 3 [(0, 0, 79), (1, 6, 2147483647), (2, 0, 80)] [((-1), [(0, (-1)), (2, 1)])] [(0, .inr (.inr (.inl (some 94)))), (1, .inl (0, [(0, 1)])), (2, .inl (0, [(1, 1)]))] [] [(20073, (0, []), (0, [(2, 1)]))] [] 4 [] [([], 3, [(0, 0, 79), (1, 6, 2147483647), (2, 0, 80)], [], [], [.inl ((-1), [])], [])] = true := by decide +kernel
theorem bz3 {cst : am_K} {strs : List Nat} {Φ : am_Q → Prop} {D : Nat} {M : am_M} {h : am_H} {l : am_L} (c : hp_C cst strs D) (hM : m_P[389]? = some M) (hD : (4 : Int) ≤ (D : Int) + 1) (hy : ly_hy m_tt ly_TH h) (x y n : Int) (b0 : 0 ≤ x) (t0 : x ≤ 79) (b1 : 6 ≤ y) (t1 : y ≤ 2147483647) (b2 : 0 ≤ n) (t2 : n ≤ 80) (f0 : 0 ≤ (n - x - 1)) (k0 : ly_hv cst h 20073 0 = some (n)) (l0 : hp_a l 0 94) (l1 : hp_i l 1 (x)) (l2 : hp_i l 2 (y)) (r0 : ∀ (h' : am_H) (y0 : Int32), y0.toInt = (-1) → ly_hy m_tt ly_TH h' → ly_fr cst [] h h' → h.length ≤ h'.length → Φ (some (.int y0), h', 0, 0)) : hp_F cst strs Φ D M 0 l [] h := by
  refine hp_arc c hM bz3_k hD [x, y, n] rfl hy (hp_Bc (z := x) rfl b0 t0 (hp_Bc (z := y) rfl b1 t1 (hp_Bc (z := n) rfl b2 t2 hp_Bn))) (hp_Fc (z := ((-1) + ((-1) * x + (1 * n + 0)))) rfl (by omega) hp_Fn) (hp_Kc (zi := (0 + 0)) (zv := (0 + (1 * n + 0))) k0 rfl rfl (by omega) (by omega) hp_Kn) (hp_La l0 (hp_Li (z := (0 + (1 * x + 0))) l1 rfl (by omega) (hp_Li (z := (0 + (1 * y + 0))) l2 rfl (by omega) hp_Ln))) trivial ?_ ?_
  · intro p hp ys l' st' h' hys a1 a2 a3 gZ gL gS
    cases hp
  · intro p hp ys v h' hys a1 a2 a3 gZ gS
    rcases List.mem_cons.mp hp with rfl | hp
    · obtain rfl := hp_y0 hys
      cases v with
      | none => cases gS
      | some w =>
        obtain ⟨y0, t0, s0, q0, -⟩ := hp_gSi (z := ((-1) + 0)) gS rfl
        cases s0
        exact r0 h' y0 (by omega) a1 a2 a3
    cases hp
theorem bza_k : hp_chk 389 0 3 [(0, 0, 79), (1, 0, 80), (2, (-2147483648), 2147483647)] [((-1), [(0, (-1)), (1, 1)])] [(0, .inr (.inr (.inl (some 94)))), (1, .inl (0, [(0, 1)])), (2, .inl (0, []))] [] [(20073, (0, []), (0, [(1, 1)])), (39424, (0, [(0, 1)]), (0, [(2, 1)]))] [] 4 [] [([], 3, [(0, 0, 79), (1, 0, 80), (2, (-2147483648), 2147483647)], [], [], [.inl (0, [(2, 1)])], [])] = true := by decide +kernel
theorem bza {cst : am_K} {strs : List Nat} {Φ : am_Q → Prop} {D : Nat} {M : am_M} {h : am_H} {l : am_L} (c : hp_C cst strs D) (hM : m_P[389]? = some M) (hD : (4 : Int) ≤ (D : Int) + 1) (hy : ly_hy m_tt ly_TH h) (x n a : Int) (b0 : 0 ≤ x) (t0 : x ≤ 79) (b1 : 0 ≤ n) (t1 : n ≤ 80) (b2 : (-2147483648) ≤ a) (t2 : a ≤ 2147483647) (f0 : 0 ≤ (n - x - 1)) (k0 : ly_hv cst h 20073 0 = some (n)) (k1 : ly_hv cst h 39424 (x) = some (a)) (l0 : hp_a l 0 94) (l1 : hp_i l 1 (x)) (l2 : hp_i l 2 0) (r0 : ∀ (h' : am_H) (y0 : Int32), y0.toInt = (a) → ly_hy m_tt ly_TH h' → ly_fr cst [] h h' → h.length ≤ h'.length → Φ (some (.int y0), h', 0, 0)) : hp_F cst strs Φ D M 0 l [] h := by
  refine hp_arc c hM bza_k hD [x, n, a] rfl hy (hp_Bc (z := x) rfl b0 t0 (hp_Bc (z := n) rfl b1 t1 (hp_Bc (z := a) rfl b2 t2 hp_Bn))) (hp_Fc (z := ((-1) + ((-1) * x + (1 * n + 0)))) rfl (by omega) hp_Fn) (hp_Kc (zi := (0 + 0)) (zv := (0 + (1 * n + 0))) k0 rfl rfl (by omega) (by omega) (hp_Kc (zi := (0 + (1 * x + 0))) (zv := (0 + (1 * a + 0))) k1 rfl rfl (by omega) (by omega) hp_Kn)) (hp_La l0 (hp_Li (z := (0 + (1 * x + 0))) l1 rfl (by omega) (hp_Li (z := (0 + 0)) l2 rfl (by omega) hp_Ln))) trivial ?_ ?_
  · intro p hp ys l' st' h' hys a1 a2 a3 gZ gL gS
    cases hp
  · intro p hp ys v h' hys a1 a2 a3 gZ gS
    rcases List.mem_cons.mp hp with rfl | hp
    · obtain rfl := hp_y0 hys
      cases v with
      | none => cases gS
      | some w =>
        obtain ⟨y0, t0, s0, q0, -⟩ := hp_gSi (z := (0 + (1 * a + 0))) gS rfl
        cases s0
        exact r0 h' y0 (by omega) a1 a2 a3
    cases hp
theorem bzb_k : hp_chk 389 0 3 [(0, 0, 79), (1, 0, 80), (2, (-2147483648), 2147483647)] [((-1), [(0, (-1)), (1, 1)])] [(0, .inr (.inr (.inl (some 94)))), (1, .inl (0, [(0, 1)])), (2, .inl (1, []))] [] [(20073, (0, []), (0, [(1, 1)])), (39680, (0, [(0, 1)]), (0, [(2, 1)]))] [] 4 [] [([], 3, [(0, 0, 79), (1, 0, 80), (2, (-2147483648), 2147483647)], [], [], [.inl (0, [(2, 1)])], [])] = true := by decide +kernel
theorem bzb {cst : am_K} {strs : List Nat} {Φ : am_Q → Prop} {D : Nat} {M : am_M} {h : am_H} {l : am_L} (c : hp_C cst strs D) (hM : m_P[389]? = some M) (hD : (4 : Int) ≤ (D : Int) + 1) (hy : ly_hy m_tt ly_TH h) (x n a : Int) (b0 : 0 ≤ x) (t0 : x ≤ 79) (b1 : 0 ≤ n) (t1 : n ≤ 80) (b2 : (-2147483648) ≤ a) (t2 : a ≤ 2147483647) (f0 : 0 ≤ (n - x - 1)) (k0 : ly_hv cst h 20073 0 = some (n)) (k1 : ly_hv cst h 39680 (x) = some (a)) (l0 : hp_a l 0 94) (l1 : hp_i l 1 (x)) (l2 : hp_i l 2 1) (r0 : ∀ (h' : am_H) (y0 : Int32), y0.toInt = (a) → ly_hy m_tt ly_TH h' → ly_fr cst [] h h' → h.length ≤ h'.length → Φ (some (.int y0), h', 0, 0)) : hp_F cst strs Φ D M 0 l [] h := by
  refine hp_arc c hM bzb_k hD [x, n, a] rfl hy (hp_Bc (z := x) rfl b0 t0 (hp_Bc (z := n) rfl b1 t1 (hp_Bc (z := a) rfl b2 t2 hp_Bn))) (hp_Fc (z := ((-1) + ((-1) * x + (1 * n + 0)))) rfl (by omega) hp_Fn) (hp_Kc (zi := (0 + 0)) (zv := (0 + (1 * n + 0))) k0 rfl rfl (by omega) (by omega) (hp_Kc (zi := (0 + (1 * x + 0))) (zv := (0 + (1 * a + 0))) k1 rfl rfl (by omega) (by omega) hp_Kn)) (hp_La l0 (hp_Li (z := (0 + (1 * x + 0))) l1 rfl (by omega) (hp_Li (z := (1 + 0)) l2 rfl (by omega) hp_Ln))) trivial ?_ ?_
  · intro p hp ys l' st' h' hys a1 a2 a3 gZ gL gS
    cases hp
  · intro p hp ys v h' hys a1 a2 a3 gZ gS
    rcases List.mem_cons.mp hp with rfl | hp
    · obtain rfl := hp_y0 hys
      cases v with
      | none => cases gS
      | some w =>
        obtain ⟨y0, t0, s0, q0, -⟩ := hp_gSi (z := (0 + (1 * a + 0))) gS rfl
        cases s0
        exact r0 h' y0 (by omega) a1 a2 a3
    cases hp
theorem bzc_k : hp_chk 389 0 3 [(0, 0, 79), (1, 0, 80), (2, (-2147483648), 2147483647)] [((-1), [(0, (-1)), (1, 1)])] [(0, .inr (.inr (.inl (some 94)))), (1, .inl (0, [(0, 1)])), (2, .inl (2, []))] [] [(20073, (0, []), (0, [(1, 1)])), (39936, (0, [(0, 1)]), (0, [(2, 1)]))] [] 4 [] [([], 3, [(0, 0, 79), (1, 0, 80), (2, (-2147483648), 2147483647)], [], [], [.inl (0, [(2, 1)])], [])] = true := by decide +kernel
theorem bzc {cst : am_K} {strs : List Nat} {Φ : am_Q → Prop} {D : Nat} {M : am_M} {h : am_H} {l : am_L} (c : hp_C cst strs D) (hM : m_P[389]? = some M) (hD : (4 : Int) ≤ (D : Int) + 1) (hy : ly_hy m_tt ly_TH h) (x n a : Int) (b0 : 0 ≤ x) (t0 : x ≤ 79) (b1 : 0 ≤ n) (t1 : n ≤ 80) (b2 : (-2147483648) ≤ a) (t2 : a ≤ 2147483647) (f0 : 0 ≤ (n - x - 1)) (k0 : ly_hv cst h 20073 0 = some (n)) (k1 : ly_hv cst h 39936 (x) = some (a)) (l0 : hp_a l 0 94) (l1 : hp_i l 1 (x)) (l2 : hp_i l 2 2) (r0 : ∀ (h' : am_H) (y0 : Int32), y0.toInt = (a) → ly_hy m_tt ly_TH h' → ly_fr cst [] h h' → h.length ≤ h'.length → Φ (some (.int y0), h', 0, 0)) : hp_F cst strs Φ D M 0 l [] h := by
  refine hp_arc c hM bzc_k hD [x, n, a] rfl hy (hp_Bc (z := x) rfl b0 t0 (hp_Bc (z := n) rfl b1 t1 (hp_Bc (z := a) rfl b2 t2 hp_Bn))) (hp_Fc (z := ((-1) + ((-1) * x + (1 * n + 0)))) rfl (by omega) hp_Fn) (hp_Kc (zi := (0 + 0)) (zv := (0 + (1 * n + 0))) k0 rfl rfl (by omega) (by omega) (hp_Kc (zi := (0 + (1 * x + 0))) (zv := (0 + (1 * a + 0))) k1 rfl rfl (by omega) (by omega) hp_Kn)) (hp_La l0 (hp_Li (z := (0 + (1 * x + 0))) l1 rfl (by omega) (hp_Li (z := (2 + 0)) l2 rfl (by omega) hp_Ln))) trivial ?_ ?_
  · intro p hp ys l' st' h' hys a1 a2 a3 gZ gL gS
    cases hp
  · intro p hp ys v h' hys a1 a2 a3 gZ gS
    rcases List.mem_cons.mp hp with rfl | hp
    · obtain rfl := hp_y0 hys
      cases v with
      | none => cases gS
      | some w =>
        obtain ⟨y0, t0, s0, q0, -⟩ := hp_gSi (z := (0 + (1 * a + 0))) gS rfl
        cases s0
        exact r0 h' y0 (by omega) a1 a2 a3
    cases hp
theorem bzd_k : hp_chk 389 0 3 [(0, 0, 79), (1, 0, 80), (2, (-2147483648), 2147483647)] [((-1), [(0, (-1)), (1, 1)])] [(0, .inr (.inr (.inl (some 94)))), (1, .inl (0, [(0, 1)])), (2, .inl (3, []))] [] [(20073, (0, []), (0, [(1, 1)])), (40192, (0, [(0, 1)]), (0, [(2, 1)]))] [] 4 [] [([], 3, [(0, 0, 79), (1, 0, 80), (2, (-2147483648), 2147483647)], [], [], [.inl (0, [(2, 1)])], [])] = true := by decide +kernel
theorem bzd {cst : am_K} {strs : List Nat} {Φ : am_Q → Prop} {D : Nat} {M : am_M} {h : am_H} {l : am_L} (c : hp_C cst strs D) (hM : m_P[389]? = some M) (hD : (4 : Int) ≤ (D : Int) + 1) (hy : ly_hy m_tt ly_TH h) (x n a : Int) (b0 : 0 ≤ x) (t0 : x ≤ 79) (b1 : 0 ≤ n) (t1 : n ≤ 80) (b2 : (-2147483648) ≤ a) (t2 : a ≤ 2147483647) (f0 : 0 ≤ (n - x - 1)) (k0 : ly_hv cst h 20073 0 = some (n)) (k1 : ly_hv cst h 40192 (x) = some (a)) (l0 : hp_a l 0 94) (l1 : hp_i l 1 (x)) (l2 : hp_i l 2 3) (r0 : ∀ (h' : am_H) (y0 : Int32), y0.toInt = (a) → ly_hy m_tt ly_TH h' → ly_fr cst [] h h' → h.length ≤ h'.length → Φ (some (.int y0), h', 0, 0)) : hp_F cst strs Φ D M 0 l [] h := by
  refine hp_arc c hM bzd_k hD [x, n, a] rfl hy (hp_Bc (z := x) rfl b0 t0 (hp_Bc (z := n) rfl b1 t1 (hp_Bc (z := a) rfl b2 t2 hp_Bn))) (hp_Fc (z := ((-1) + ((-1) * x + (1 * n + 0)))) rfl (by omega) hp_Fn) (hp_Kc (zi := (0 + 0)) (zv := (0 + (1 * n + 0))) k0 rfl rfl (by omega) (by omega) (hp_Kc (zi := (0 + (1 * x + 0))) (zv := (0 + (1 * a + 0))) k1 rfl rfl (by omega) (by omega) hp_Kn)) (hp_La l0 (hp_Li (z := (0 + (1 * x + 0))) l1 rfl (by omega) (hp_Li (z := (3 + 0)) l2 rfl (by omega) hp_Ln))) trivial ?_ ?_
  · intro p hp ys l' st' h' hys a1 a2 a3 gZ gL gS
    cases hp
  · intro p hp ys v h' hys a1 a2 a3 gZ gS
    rcases List.mem_cons.mp hp with rfl | hp
    · obtain rfl := hp_y0 hys
      cases v with
      | none => cases gS
      | some w =>
        obtain ⟨y0, t0, s0, q0, -⟩ := hp_gSi (z := (0 + (1 * a + 0))) gS rfl
        cases s0
        exact r0 h' y0 (by omega) a1 a2 a3
    cases hp
theorem bze_k : hp_chk 389 0 3 [(0, 0, 79), (1, 0, 80), (2, (-2147483648), 2147483647)] [((-1), [(0, (-1)), (1, 1)])] [(0, .inr (.inr (.inl (some 94)))), (1, .inl (0, [(0, 1)])), (2, .inl (4, []))] [] [(20073, (0, []), (0, [(1, 1)])), (40448, (0, [(0, 1)]), (0, [(2, 1)]))] [] 4 [] [([], 3, [(0, 0, 79), (1, 0, 80), (2, (-2147483648), 2147483647)], [], [], [.inl (0, [(2, 1)])], [])] = true := by decide +kernel
theorem bze {cst : am_K} {strs : List Nat} {Φ : am_Q → Prop} {D : Nat} {M : am_M} {h : am_H} {l : am_L} (c : hp_C cst strs D) (hM : m_P[389]? = some M) (hD : (4 : Int) ≤ (D : Int) + 1) (hy : ly_hy m_tt ly_TH h) (x n a : Int) (b0 : 0 ≤ x) (t0 : x ≤ 79) (b1 : 0 ≤ n) (t1 : n ≤ 80) (b2 : (-2147483648) ≤ a) (t2 : a ≤ 2147483647) (f0 : 0 ≤ (n - x - 1)) (k0 : ly_hv cst h 20073 0 = some (n)) (k1 : ly_hv cst h 40448 (x) = some (a)) (l0 : hp_a l 0 94) (l1 : hp_i l 1 (x)) (l2 : hp_i l 2 4) (r0 : ∀ (h' : am_H) (y0 : Int32), y0.toInt = (a) → ly_hy m_tt ly_TH h' → ly_fr cst [] h h' → h.length ≤ h'.length → Φ (some (.int y0), h', 0, 0)) : hp_F cst strs Φ D M 0 l [] h := by
  refine hp_arc c hM bze_k hD [x, n, a] rfl hy (hp_Bc (z := x) rfl b0 t0 (hp_Bc (z := n) rfl b1 t1 (hp_Bc (z := a) rfl b2 t2 hp_Bn))) (hp_Fc (z := ((-1) + ((-1) * x + (1 * n + 0)))) rfl (by omega) hp_Fn) (hp_Kc (zi := (0 + 0)) (zv := (0 + (1 * n + 0))) k0 rfl rfl (by omega) (by omega) (hp_Kc (zi := (0 + (1 * x + 0))) (zv := (0 + (1 * a + 0))) k1 rfl rfl (by omega) (by omega) hp_Kn)) (hp_La l0 (hp_Li (z := (0 + (1 * x + 0))) l1 rfl (by omega) (hp_Li (z := (4 + 0)) l2 rfl (by omega) hp_Ln))) trivial ?_ ?_
  · intro p hp ys l' st' h' hys a1 a2 a3 gZ gL gS
    cases hp
  · intro p hp ys v h' hys a1 a2 a3 gZ gS
    rcases List.mem_cons.mp hp with rfl | hp
    · obtain rfl := hp_y0 hys
      cases v with
      | none => cases gS
      | some w =>
        obtain ⟨y0, t0, s0, q0, -⟩ := hp_gSi (z := (0 + (1 * a + 0))) gS rfl
        cases s0
        exact r0 h' y0 (by omega) a1 a2 a3
    cases hp
theorem bzf_k : hp_chk 389 0 3 [(0, 0, 79), (1, 0, 80), (2, (-2147483648), 2147483647)] [((-1), [(0, (-1)), (1, 1)])] [(0, .inr (.inr (.inl (some 94)))), (1, .inl (0, [(0, 1)])), (2, .inl (5, []))] [] [(20073, (0, []), (0, [(1, 1)])), (40704, (0, [(0, 1)]), (0, [(2, 1)]))] [] 4 [] [([], 3, [(0, 0, 79), (1, 0, 80), (2, (-2147483648), 2147483647)], [], [], [.inl (0, [(2, 1)])], [])] = true := by decide +kernel
theorem bzf {cst : am_K} {strs : List Nat} {Φ : am_Q → Prop} {D : Nat} {M : am_M} {h : am_H} {l : am_L} (c : hp_C cst strs D) (hM : m_P[389]? = some M) (hD : (4 : Int) ≤ (D : Int) + 1) (hy : ly_hy m_tt ly_TH h) (x n a : Int) (b0 : 0 ≤ x) (t0 : x ≤ 79) (b1 : 0 ≤ n) (t1 : n ≤ 80) (b2 : (-2147483648) ≤ a) (t2 : a ≤ 2147483647) (f0 : 0 ≤ (n - x - 1)) (k0 : ly_hv cst h 20073 0 = some (n)) (k1 : ly_hv cst h 40704 (x) = some (a)) (l0 : hp_a l 0 94) (l1 : hp_i l 1 (x)) (l2 : hp_i l 2 5) (r0 : ∀ (h' : am_H) (y0 : Int32), y0.toInt = (a) → ly_hy m_tt ly_TH h' → ly_fr cst [] h h' → h.length ≤ h'.length → Φ (some (.int y0), h', 0, 0)) : hp_F cst strs Φ D M 0 l [] h := by
  refine hp_arc c hM bzf_k hD [x, n, a] rfl hy (hp_Bc (z := x) rfl b0 t0 (hp_Bc (z := n) rfl b1 t1 (hp_Bc (z := a) rfl b2 t2 hp_Bn))) (hp_Fc (z := ((-1) + ((-1) * x + (1 * n + 0)))) rfl (by omega) hp_Fn) (hp_Kc (zi := (0 + 0)) (zv := (0 + (1 * n + 0))) k0 rfl rfl (by omega) (by omega) (hp_Kc (zi := (0 + (1 * x + 0))) (zv := (0 + (1 * a + 0))) k1 rfl rfl (by omega) (by omega) hp_Kn)) (hp_La l0 (hp_Li (z := (0 + (1 * x + 0))) l1 rfl (by omega) (hp_Li (z := (5 + 0)) l2 rfl (by omega) hp_Ln))) trivial ?_ ?_
  · intro p hp ys l' st' h' hys a1 a2 a3 gZ gL gS
    cases hp
  · intro p hp ys v h' hys a1 a2 a3 gZ gS
    rcases List.mem_cons.mp hp with rfl | hp
    · obtain rfl := hp_y0 hys
      cases v with
      | none => cases gS
      | some w =>
        obtain ⟨y0, t0, s0, q0, -⟩ := hp_gSi (z := (0 + (1 * a + 0))) gS rfl
        cases s0
        exact r0 h' y0 (by omega) a1 a2 a3
    cases hp
theorem bty_k : hp_chk 211 0 2 [(0, (-2147483648), 2147483647), (1, (-2147483648), 2147483647)] [] [(0, .inr (.inr (.inl (some 16)))), (1, .inl (0, [(0, 1)])), (2, .inl (0, [(1, 1)]))] [] [] [] 2 [(6, ([], 2, [(0, (-2147483648), 2147483647), (1, (-2147483648), 2147483647)], [], [(0, .inr (.inr (.inl (some 16))))], [.inl (0, [(1, 1)]), .inl (0, [(0, 1)]), .inr (.inr (.inl (some 59)))], []))] [] = true := by decide +kernel
theorem bty {cst : am_K} {strs : List Nat} {Φ : am_Q → Prop} {D : Nat} {M : am_M} {h : am_H} {l : am_L} (c : hp_C cst strs D) (hM : m_P[211]? = some M) (hD : (2 : Int) ≤ (D : Int) + 1) (hy : ly_hy m_tt ly_TH h) (x y : Int) (b0 : (-2147483648) ≤ x) (t0 : x ≤ 2147483647) (b1 : (-2147483648) ≤ y) (t1 : y ≤ 2147483647) (l0 : hp_a l 0 16) (l1 : hp_i l 1 (x)) (l2 : hp_i l 2 (y)) (e0 : ∀ (l' : am_L) (h' : am_H) (y0 : Int32) (y1 : Int32), y0.toInt = (y) → y1.toInt = (x) → ly_hy m_tt ly_TH h' → ly_fr cst [] h h' → h.length ≤ h'.length → hp_a l' 0 16 → hp_F cst strs Φ D M 6 l' [.int y0, .int y1, .ref 59] h') : hp_F cst strs Φ D M 0 l [] h := by
  refine hp_arc c hM bty_k hD [x, y] rfl hy (hp_Bc (z := x) rfl b0 t0 (hp_Bc (z := y) rfl b1 t1 hp_Bn)) hp_Fn hp_Kn (hp_La l0 (hp_Li (z := (0 + (1 * x + 0))) l1 rfl (by omega) (hp_Li (z := (0 + (1 * y + 0))) l2 rfl (by omega) hp_Ln))) trivial ?_ ?_
  · intro p hp ys l' st' h' hys a1 a2 a3 gZ gL gS
    rcases List.mem_cons.mp hp with rfl | hp
    · obtain rfl := hp_y0 hys
      obtain ⟨y0, t0, rfl, q0, g0⟩ := hp_gSi (z := (0 + (1 * y + 0))) gS rfl
      obtain ⟨y1, t1, rfl, q1, g1⟩ := hp_gSi (z := (0 + (1 * x + 0))) g0 rfl
      obtain ⟨t2, rfl, g2⟩ := hp_gSa g1 (by decide)
      cases hp_gSn g2
      exact e0 l' h' y0 y1 (by omega) (by omega) a1 a2 a3 (hp_gLa gL (List.mem_of_getElem? (i := 0) rfl) (by decide))
    cases hp
  · intro p hp ys v h' hys a1 a2 a3 gZ gS
    cases hp
theorem btz_k : hp_chk 211 9 1 [(0, (-2147483648), 2147483647)] [] [(0, .inr (.inr (.inl (some 16))))] [.inl (0, [(0, 1)])] [] [] 2 [] [([], 1, [(0, (-2147483648), 2147483647)], [], [], [.inl (0, [(0, 1)])], [])] = true := by decide +kernel
theorem btz {cst : am_K} {strs : List Nat} {Φ : am_Q → Prop} {D : Nat} {M : am_M} {h : am_H} {l : am_L} (c : hp_C cst strs D) (hM : m_P[211]? = some M) (hD : (2 : Int) ≤ (D : Int) + 1) (hy : ly_hy m_tt ly_TH h) (a : Int) (x0 : Int32) (hx0 : x0.toInt = (a)) (b0 : (-2147483648) ≤ a) (t0 : a ≤ 2147483647) (l0 : hp_a l 0 16) (r0 : ∀ (h' : am_H) (y0 : Int32), y0.toInt = (a) → ly_hy m_tt ly_TH h' → ly_fr cst [] h h' → h.length ≤ h'.length → Φ (some (.int y0), h', 0, 0)) : hp_F cst strs Φ D M 9 l [.int x0] h := by
  refine hp_arc c hM btz_k hD [a] rfl hy (hp_Bc (z := a) rfl b0 t0 hp_Bn) hp_Fn hp_Kn (hp_La l0 hp_Ln) (hp_Si (z := (0 + (1 * a + 0))) rfl (by omega) trivial) ?_ ?_
  · intro p hp ys l' st' h' hys a1 a2 a3 gZ gL gS
    cases hp
  · intro p hp ys v h' hys a1 a2 a3 gZ gS
    rcases List.mem_cons.mp hp with rfl | hp
    · obtain rfl := hp_y0 hys
      cases v with
      | none => cases gS
      | some w =>
        obtain ⟨y0, t0, s0, q0, -⟩ := hp_gSi (z := (0 + (1 * a + 0))) gS rfl
        cases s0
        exact r0 h' y0 (by omega) a1 a2 a3
    cases hp
def bs_V (Z W H F T : Int → Option Int) (p s g k v : Int) : Prop := v = 1 ∧ Z k = some 0 ∧ W k = some p ∧ H k = some s ∧ (∃ f, F k = some f ∧ f ≤ g) ∧ ∃ e, T k = some e ∧ g ≤ e
def bs_ok (p s u : Int) : Prop := 0 ≤ p ∧ p < u ∧ 0 ≤ s ∧ s ≤ 5
theorem bm_loop {cst : am_K} {strs : List Nat} {D : Nat} {M : am_M} {h0 : am_H} {Φ : am_Q → Prop} (c : hp_C cst strs D) (hM : m_P[209]? = some M) (hD : (4 : Int) ≤ (D : Int) + 1) {p s g n : Int} (p0 : 0 ≤ p) (p1 : p ≤ 119) (s0 : 0 ≤ s) (s1 : s ≤ 5) (g0 : 0 ≤ g) (g1 : g ≤ 399) (n0 : 0 ≤ n) (n1 : n ≤ 80) (hy0 : ly_hy m_tt ly_TH h0)
    (k : ∀ (l : am_L) (h : am_H) (x : Int), 0 ≤ x → x ≤ 80 → ly_hy m_tt ly_TH h → ly_fr cst [13824] h0 h → ly_hv cst h 11014 0 = some n → bu (bs_V (ly_hv cst h0 13824) (ly_hv cst h0 12544) (ly_hv cst h0 12800) (ly_hv cst h0 13056) (ly_hv cst h0 13312) p s g) (ly_hv cst h0 13824) n (ly_hv cst h 13824) → hp_a l 0 59 → hp_i l 1 p → hp_i l 2 s → hp_i l 3 g → hp_i l 4 x → hp_i l 5 n → hp_F cst strs Φ D M 6 l [] h) :
    ∀ (N : Nat) (h : am_H) (l : am_L) (i x : Int), (n - i).toNat < N → 0 ≤ i → i ≤ n → 0 ≤ x → x ≤ i → ly_hy m_tt ly_TH h → ly_fr cst [13824] h0 h → ly_hv cst h 11014 0 = some n → bu (bs_V (ly_hv cst h0 13824) (ly_hv cst h0 12544) (ly_hv cst h0 12800) (ly_hv cst h0 13056) (ly_hv cst h0 13312) p s g) (ly_hv cst h0 13824) i (ly_hv cst h 13824) → hp_a l 0 59 → hp_i l 1 p → hp_i l 2 s → hp_i l 3 g → hp_i l 4 x → hp_i l 5 i → hp_F cst strs Φ D M 6 l [] h := by
  intro N
  induction N with
  | zero => intro h l i x hN; omega
  | succ N ih =>
    intro h l i x hN i0 i1 x0 x1 hy fr kn H l0 l1 l2 l3 l4 l5
    have eT : ly_hv cst h 13312 = ly_hv cst h0 13312 := hp_same (show ly_ths ly_TH 52 = some (.inl (.int, 80, -2147483648, 2147483647)) from rfl) rfl hy0 hy fr
    have eW : ly_hv cst h 12544 = ly_hv cst h0 12544 := hp_same (show ly_ths ly_TH 49 = some (.inl (.int, 80, -2147483648, 2147483647)) from rfl) rfl hy0 hy fr
    have eF : ly_hv cst h 13056 = ly_hv cst h0 13056 := hp_same (show ly_ths ly_TH 51 = some (.inl (.int, 80, -2147483648, 2147483647)) from rfl) rfl hy0 hy fr
    have eH : ly_hv cst h 12800 = ly_hv cst h0 12800 := hp_same (show ly_ths ly_TH 50 = some (.inl (.int, 80, -2147483648, 2147483647)) from rfl) rfl hy0 hy fr
    by_cases hi : i = n
    · subst hi
      exact k l h x x0 (by omega) hy fr kn H l0 l1 l2 l3 l4 l5
    · skip
      obtain ⟨xa, ka, ab0, ab1⟩ := hp_row (cst := cst) (i := i) hy (show ly_ths ly_TH 54 = some (.inl (.int, 80, -2147483648, 2147483647)) from rfl) i0 (by omega)
      obtain ⟨xw, kw, wb0, wb1⟩ := hp_row (cst := cst) (i := i) hy (show ly_ths ly_TH 49 = some (.inl (.int, 80, -2147483648, 2147483647)) from rfl) i0 (by omega)
      obtain ⟨xh, kh, hb0, hb1⟩ := hp_row (cst := cst) (i := i) hy (show ly_ths ly_TH 50 = some (.inl (.int, 80, -2147483648, 2147483647)) from rfl) i0 (by omega)
      obtain ⟨xf, kf, fb0, fb1⟩ := hp_row (cst := cst) (i := i) hy (show ly_ths ly_TH 51 = some (.inl (.int, 80, -2147483648, 2147483647)) from rfl) i0 (by omega)
      obtain ⟨xe, ke, eb0, eb1⟩ := hp_row (cst := cst) (i := i) hy (show ly_ths ly_TH 52 = some (.inl (.int, 80, -2147483648, 2147483647)) from rfl) i0 (by omega)
      have ka' : ly_hv cst h0 13824 i = some xa := by rw [← bu_at H]; exact ka
      have kw' : ly_hv cst h0 12544 i = some xw := by rw [← eW]; exact kw
      have kh' : ly_hv cst h0 12800 i = some xh := by rw [← eH]; exact kh
      have kf' : ly_hv cst h0 13056 i = some xf := by rw [← eF]; exact kf
      have ke' : ly_hv cst h0 13312 i = some xe := by rw [← eT]; exact ke
      have next : (∀ v, ¬ (bs_V (ly_hv cst h0 13824) (ly_hv cst h0 12544) (ly_hv cst h0 12800) (ly_hv cst h0 13056) (ly_hv cst h0 13312) p s g) i v) → ∀ (l' : am_L) (h2 : am_H), ly_hy m_tt ly_TH h2 → ly_fr cst [] h h2 → h.length ≤ h2.length → hp_a l' 0 59 → hp_i l' 1 p → hp_i l' 2 s → hp_i l' 3 g → hp_i l' 4 x → hp_i l' 5 (i + 1) → hp_F cst strs Φ D M 6 l' [] h2 := fun nv l' h2 u1 u2 u3 m0 m1 m2 m3 m4 m5 => ih h2 l' (i + 1) x (by omega) (by omega) (by omega) x0 (by omega) u1 (ly_fr_tr fr (fun r i v _ e => u2 r i v rfl e)) (u2 _ _ _ rfl kn) (by rw [hp_same (show ly_ths ly_TH 54 = some (.inl (.int, 80, -2147483648, 2147483647)) from rfl) rfl hy u1 u2]; exact bu_no H nv) m0 m1 m2 m3 m4 m5
      by_cases qa : xa = 0
      rotate_left
      · exact bma c hM (by omega) hy p s g x n i xa p0 p1 s0 s1 g0 g1 x0 (by omega) n0 n1 i0 (by omega) ab0 ab1 (by omega) (by omega) kn ka (hp_ne (by omega)) l0 l1 l2 l3 l4 l5 (next (fun v hv => by
          have := hv.2.1
          rw [ka'] at this
          cases this
          exact qa rfl))
      subst qa
      by_cases qw : xw = p
      rotate_left
      · exact bmb c hM (by omega) hy p s g x n i xw p0 p1 s0 s1 g0 g1 x0 (by omega) n0 n1 i0 (by omega) wb0 wb1 (by omega) (by omega) kn ka kw (hp_ne (by omega)) l0 l1 l2 l3 l4 l5 (next (fun v hv => by
          have := hv.2.2.1
          rw [kw'] at this
          cases this
          exact qw rfl))
      rw [qw] at kw kw'
      by_cases qh : xh = s
      rotate_left
      · exact bmc c hM (by omega) hy p s g x n i xh p0 p1 s0 s1 g0 g1 x0 (by omega) n0 n1 i0 (by omega) hb0 hb1 (by omega) (by omega) kn ka kw kh (hp_ne (by omega)) l0 l1 l2 l3 l4 l5 (next (fun v hv => by
          have := hv.2.2.2.1
          rw [kh'] at this
          cases this
          exact qh rfl))
      rw [qh] at kh kh'
      by_cases qf : xf ≤ g
      rotate_left
      · exact bmd c hM (by omega) hy p s g x n i xf xe p0 p1 s0 s1 g0 g1 x0 (by omega) n0 n1 i0 (by omega) fb0 fb1 eb0 eb1 (by omega) (by omega) (by omega) kn ka kw kh kf ke l0 l1 l2 l3 l4 l5 (next (fun v hv => by
          obtain ⟨f', h1, h2⟩ := hv.2.2.2.2.1
          rw [kf'] at h1
          cases h1
          exact qf h2))
      by_cases qe : g ≤ xe
      rotate_left
      · exact bme c hM (by omega) hy p s g x n i xf xe p0 p1 s0 s1 g0 g1 x0 (by omega) n0 n1 i0 (by omega) fb0 fb1 eb0 eb1 (by omega) (by omega) (by omega) (by omega) kn ka kw kh kf ke l0 l1 l2 l3 l4 l5 (next (fun v hv => by
          obtain ⟨f', h1, h2⟩ := hv.2.2.2.2.2
          rw [ke'] at h1
          cases h1
          exact qe h2))
      refine bmf c hM (by omega) hy p s g x n i xf xe p0 p1 s0 s1 g0 g1 x0 (by omega) n0 n1 i0 (by omega) fb0 fb1 eb0 eb1 (by omega) (by omega) (by omega) (by omega) kn ka kw kh kf ke l0 l1 l2 l3 l4 l5 (fun l1 h1 y0 y1 f0 f1 u1 u2 u3 m0 m1 m2 m3 m4 m5 => ?_)
      refine hp_st (c := 54) hM (by decide +kernel) u1 (show ly_ths ly_TH 54 = some (.inl (.int, 80, -2147483648, 2147483647)) from rfl) rfl (by omega) (by omega) y0.le_toInt y0.toInt_le (fun h3 q1 q2 q3 => ?_)
      rw [f0, f1] at q3
      refine bmg c hM (by omega) q1 p s g x n i p0 p1 s0 s1 g0 g1 x0 (by omega) n0 n1 i0 (by omega) (by omega) (by omega) m0 m1 m2 m3 m4 m5 (fun l4 h4 k1 k2 k3 j0 j1 j2 j3 j4 j5 => ?_)
      have fr3 : ly_fr cst [13824] h h4 := ly_fr_tr (fun r i v _ e => u2 r i v rfl e) (ly_fr_tr (hp_put_fr (by rfl) q3) (fun r i v _ e => k2 r i v rfl e))
      refine ih h4 l4 (i + 1) (x + 1) (by omega) (by omega) (by omega) (by omega) (by omega) k1 (ly_fr_tr fr fr3) (fr3 _ _ _ rfl kn) ?_ j0 j1 j2 j3 j4 j5
      rw [hp_same (show ly_ths ly_TH 54 = some (.inl (.int, 80, -2147483648, 2147483647)) from rfl) rfl q1 k1 k2, hp_put_eq q3, hp_same (show ly_ths ly_TH 54 = some (.inl (.int, 80, -2147483648, 2147483647)) from rfl) rfl hy u1 u2]
      exact bu_yes i0 H ⟨rfl, ka', kw', kh', ⟨xf, kf', qf⟩, ⟨xe, ke', qe⟩⟩ (fun w hw => hw.1)
theorem bn_loop {cst : am_K} {strs : List Nat} {D : Nat} {M : am_M} {h0 : am_H} {Φ : am_Q → Prop} (c : hp_C cst strs D) (hM : m_P[388]? = some M) (hD : (4 : Int) ≤ (D : Int) + 1) {p s g n : Int} (p0 : 0 ≤ p) (p1 : p ≤ 119) (s0 : 0 ≤ s) (s1 : s ≤ 5) (g0 : 0 ≤ g) (g1 : g ≤ 399) (n0 : 0 ≤ n) (n1 : n ≤ 80) (hy0 : ly_hy m_tt ly_TH h0)
    (k : ∀ (l : am_L) (h : am_H) (x : Int), 0 ≤ x → x ≤ 80 → ly_hy m_tt ly_TH h → ly_fr cst [40704] h0 h → ly_hv cst h 20073 0 = some n → ly_hv cst h 19977 0 = some g → bu (bs_V (ly_hv cst h0 40704) (ly_hv cst h0 39424) (ly_hv cst h0 39680) (ly_hv cst h0 39936) (ly_hv cst h0 40192) p s g) (ly_hv cst h0 40704) n (ly_hv cst h 40704) → hp_a l 0 94 → hp_i l 1 p → hp_i l 2 s → hp_i l 3 x → hp_i l 4 n → hp_F cst strs Φ D M 23 l [] h) :
    ∀ (N : Nat) (h : am_H) (l : am_L) (i x : Int), (n - i).toNat < N → 0 ≤ i → i ≤ n → 0 ≤ x → x ≤ i → ly_hy m_tt ly_TH h → ly_fr cst [40704] h0 h → ly_hv cst h 20073 0 = some n → ly_hv cst h 19977 0 = some g → bu (bs_V (ly_hv cst h0 40704) (ly_hv cst h0 39424) (ly_hv cst h0 39680) (ly_hv cst h0 39936) (ly_hv cst h0 40192) p s g) (ly_hv cst h0 40704) i (ly_hv cst h 40704) → hp_a l 0 94 → hp_i l 1 p → hp_i l 2 s → hp_i l 3 x → hp_i l 4 i → hp_F cst strs Φ D M 23 l [] h := by
  intro N
  induction N with
  | zero => intro h l i x hN; omega
  | succ N ih =>
    intro h l i x hN i0 i1 x0 x1 hy fr kn kg H l0 l1 l2 l3 l4
    have eT : ly_hv cst h 40192 = ly_hv cst h0 40192 := hp_same (show ly_ths ly_TH 157 = some (.inl (.int, 80, -2147483648, 2147483647)) from rfl) rfl hy0 hy fr
    have eW : ly_hv cst h 39424 = ly_hv cst h0 39424 := hp_same (show ly_ths ly_TH 154 = some (.inl (.int, 80, -2147483648, 2147483647)) from rfl) rfl hy0 hy fr
    have eF : ly_hv cst h 39936 = ly_hv cst h0 39936 := hp_same (show ly_ths ly_TH 156 = some (.inl (.int, 80, -2147483648, 2147483647)) from rfl) rfl hy0 hy fr
    have eH : ly_hv cst h 39680 = ly_hv cst h0 39680 := hp_same (show ly_ths ly_TH 155 = some (.inl (.int, 80, -2147483648, 2147483647)) from rfl) rfl hy0 hy fr
    by_cases hi : i = n
    · subst hi
      exact k l h x x0 (by omega) hy fr kn kg H l0 l1 l2 l3 l4
    · skip
      obtain ⟨xa, ka, ab0, ab1⟩ := hp_row (cst := cst) (i := i) hy (show ly_ths ly_TH 159 = some (.inl (.int, 80, -2147483648, 2147483647)) from rfl) i0 (by omega)
      obtain ⟨xw, kw, wb0, wb1⟩ := hp_row (cst := cst) (i := i) hy (show ly_ths ly_TH 154 = some (.inl (.int, 80, -2147483648, 2147483647)) from rfl) i0 (by omega)
      obtain ⟨xh, kh, hb0, hb1⟩ := hp_row (cst := cst) (i := i) hy (show ly_ths ly_TH 155 = some (.inl (.int, 80, -2147483648, 2147483647)) from rfl) i0 (by omega)
      obtain ⟨xf, kf, fb0, fb1⟩ := hp_row (cst := cst) (i := i) hy (show ly_ths ly_TH 156 = some (.inl (.int, 80, -2147483648, 2147483647)) from rfl) i0 (by omega)
      obtain ⟨xe, ke, eb0, eb1⟩ := hp_row (cst := cst) (i := i) hy (show ly_ths ly_TH 157 = some (.inl (.int, 80, -2147483648, 2147483647)) from rfl) i0 (by omega)
      have ka' : ly_hv cst h0 40704 i = some xa := by rw [← bu_at H]; exact ka
      have kw' : ly_hv cst h0 39424 i = some xw := by rw [← eW]; exact kw
      have kh' : ly_hv cst h0 39680 i = some xh := by rw [← eH]; exact kh
      have kf' : ly_hv cst h0 39936 i = some xf := by rw [← eF]; exact kf
      have ke' : ly_hv cst h0 40192 i = some xe := by rw [← eT]; exact ke
      have next : (∀ v, ¬ (bs_V (ly_hv cst h0 40704) (ly_hv cst h0 39424) (ly_hv cst h0 39680) (ly_hv cst h0 39936) (ly_hv cst h0 40192) p s g) i v) → ∀ (l' : am_L) (h2 : am_H), ly_hy m_tt ly_TH h2 → ly_fr cst [] h h2 → h.length ≤ h2.length → hp_a l' 0 94 → hp_i l' 1 p → hp_i l' 2 s → hp_i l' 3 x → hp_i l' 4 (i + 1) → hp_F cst strs Φ D M 23 l' [] h2 := fun nv l' h2 u1 u2 u3 m0 m1 m2 m3 m4 => ih h2 l' (i + 1) x (by omega) (by omega) (by omega) x0 (by omega) u1 (ly_fr_tr fr (fun r i v _ e => u2 r i v rfl e)) (u2 _ _ _ rfl kn) (u2 _ _ _ rfl kg) (by rw [hp_same (show ly_ths ly_TH 159 = some (.inl (.int, 80, -2147483648, 2147483647)) from rfl) rfl hy u1 u2]; exact bu_no H nv) m0 m1 m2 m3 m4
      by_cases qa : xa = 0
      rotate_left
      · exact bna c hM (by omega) hy p s g x n i xa p0 p1 s0 s1 g0 g1 x0 (by omega) n0 n1 i0 (by omega) ab0 ab1 (by omega) (by omega) kn kg ka (hp_ne (by omega)) l0 l1 l2 l3 l4 (next (fun v hv => by
          have := hv.2.1
          rw [ka'] at this
          cases this
          exact qa rfl))
      subst qa
      by_cases qw : xw = p
      rotate_left
      · exact bnb c hM (by omega) hy p s g x n i xw p0 p1 s0 s1 g0 g1 x0 (by omega) n0 n1 i0 (by omega) wb0 wb1 (by omega) (by omega) kn kg ka kw (hp_ne (by omega)) l0 l1 l2 l3 l4 (next (fun v hv => by
          have := hv.2.2.1
          rw [kw'] at this
          cases this
          exact qw rfl))
      rw [qw] at kw kw'
      by_cases qh : xh = s
      rotate_left
      · exact bnc c hM (by omega) hy p s g x n i xh p0 p1 s0 s1 g0 g1 x0 (by omega) n0 n1 i0 (by omega) hb0 hb1 (by omega) (by omega) kn kg ka kw kh (hp_ne (by omega)) l0 l1 l2 l3 l4 (next (fun v hv => by
          have := hv.2.2.2.1
          rw [kh'] at this
          cases this
          exact qh rfl))
      rw [qh] at kh kh'
      by_cases qf : xf ≤ g
      rotate_left
      · exact bnd c hM (by omega) hy p s g x n i xf xe p0 p1 s0 s1 g0 g1 x0 (by omega) n0 n1 i0 (by omega) fb0 fb1 eb0 eb1 (by omega) (by omega) (by omega) kn kg ka kw kh kf ke l0 l1 l2 l3 l4 (next (fun v hv => by
          obtain ⟨f', h1, h2⟩ := hv.2.2.2.2.1
          rw [kf'] at h1
          cases h1
          exact qf h2))
      by_cases qe : g ≤ xe
      rotate_left
      · exact bne c hM (by omega) hy p s g x n i xf xe p0 p1 s0 s1 g0 g1 x0 (by omega) n0 n1 i0 (by omega) fb0 fb1 eb0 eb1 (by omega) (by omega) (by omega) (by omega) kn kg ka kw kh kf ke l0 l1 l2 l3 l4 (next (fun v hv => by
          obtain ⟨f', h1, h2⟩ := hv.2.2.2.2.2
          rw [ke'] at h1
          cases h1
          exact qe h2))
      refine bnf c hM (by omega) hy p s g x n i xf xe p0 p1 s0 s1 g0 g1 x0 (by omega) n0 n1 i0 (by omega) fb0 fb1 eb0 eb1 (by omega) (by omega) (by omega) (by omega) kn kg ka kw kh kf ke l0 l1 l2 l3 l4 (fun l1 h1 y0 y1 f0 f1 u1 u2 u3 m0 m1 m2 m3 m4 => ?_)
      refine hp_st (c := 159) hM (by decide +kernel) u1 (show ly_ths ly_TH 159 = some (.inl (.int, 80, -2147483648, 2147483647)) from rfl) rfl (by omega) (by omega) y0.le_toInt y0.toInt_le (fun h3 q1 q2 q3 => ?_)
      rw [f0, f1] at q3
      refine bng c hM (by omega) q1 p s g x n i p0 p1 s0 s1 g0 g1 x0 (by omega) n0 n1 i0 (by omega) (by omega) (by omega) m0 m1 m2 m3 m4 (fun l4 h4 k1 k2 k3 j0 j1 j2 j3 j4 => ?_)
      have fr3 : ly_fr cst [40704] h h4 := ly_fr_tr (fun r i v _ e => u2 r i v rfl e) (ly_fr_tr (hp_put_fr (by rfl) q3) (fun r i v _ e => k2 r i v rfl e))
      refine ih h4 l4 (i + 1) (x + 1) (by omega) (by omega) (by omega) (by omega) (by omega) k1 (ly_fr_tr fr fr3) (fr3 _ _ _ rfl kn) (fr3 _ _ _ rfl kg) ?_ j0 j1 j2 j3 j4
      rw [hp_same (show ly_ths ly_TH 159 = some (.inl (.int, 80, -2147483648, 2147483647)) from rfl) rfl q1 k1 k2, hp_put_eq q3, hp_same (show ly_ths ly_TH 159 = some (.inl (.int, 80, -2147483648, 2147483647)) from rfl) rfl hy u1 u2]
      exact bu_yes i0 H ⟨rfl, ka', kw', kh', ⟨xf, kf', qf⟩, ⟨xe, ke', qe⟩⟩ (fun w hw => hw.1)
abbrev bs_mc : List Nat := [7182, 8704, 8960, 9216, 9472, 13824, 45319, 45320]
abbrev bs_mm : List Nat := [20054, 30464, 30720, 35584, 35840, 40704]
theorem bsc_run {cst : am_K} {strs : List Nat} {D : Nat} {h : am_H} (c1 : hp_C cst strs D) (c : hp_C cst strs (D + 1)) (hD : (7 : Int) ≤ (D : Int) + 1) (hy : ly_hy m_tt ly_TH h) {xp xs : Int32} {u n g : Int} (u0 : 0 ≤ u) (u1 : u ≤ 120) (ku : ly_hv cst h 1536 0 = some u) (n0 : 0 ≤ n) (n1 : n ≤ 80) (kn : ly_hv cst h 11014 0 = some n) (g0 : 0 ≤ g) (g1 : g ≤ 399) (kg : ly_hv cst h 10 0 = some g) :
    ∃ r, am_Run cst m_cl m_tt m_P strs sx_bi (D + 1 + 1) 208 [.ref 16, .int xp, .int xs] h r ∧ (fun r : am_Q => (∃ a : Int32, r.1 = some (.int a)) ∧ r.2.2.1 = 0 ∧ r.2.2.2 = 0 ∧ ly_hy m_tt ly_TH r.2.1 ∧ ly_fr cst [7182, 8704, 8960, 9216, 9472, 13824, 45319, 45320] h r.2.1 ∧ ((¬ bs_ok xp.toInt xs.toInt u → ly_hv cst r.2.1 13824 = ly_hv cst h 13824) ∧ (bs_ok xp.toInt xs.toInt u → bu (bs_V (ly_hv cst h 13824) (ly_hv cst h 12544) (ly_hv cst h 12800) (ly_hv cst h 13056) (ly_hv cst h 13312) xp.toInt xs.toInt g) (ly_hv cst h 13824) n (ly_hv cst r.2.1 13824)))) r := by
  obtain ⟨M, hM, hl⟩ := hp_M (mi := 208) (k := 3) (by decide +kernel)
  have a0 := xp.le_toInt
  have a1 := xp.toInt_le
  have b0 := xs.le_toInt
  have b1 := xs.toInt_le
  have go : hp_F cst strs (fun r : am_Q => (∃ a : Int32, r.1 = some (.int a)) ∧ r.2.2.1 = 0 ∧ r.2.2.2 = 0 ∧ ly_hy m_tt ly_TH r.2.1 ∧ ly_fr cst [7182, 8704, 8960, 9216, 9472, 13824, 45319, 45320] h r.2.1 ∧ ((¬ bs_ok xp.toInt xs.toInt u → ly_hv cst r.2.1 13824 = ly_hv cst h 13824) ∧ (bs_ok xp.toInt xs.toInt u → bu (bs_V (ly_hv cst h 13824) (ly_hv cst h 12544) (ly_hv cst h 12800) (ly_hv cst h 13056) (ly_hv cst h 13312) xp.toInt xs.toInt g) (ly_hv cst h 13824) n (ly_hv cst r.2.1 13824)))) (D + 1) M 0 (lv_args 0 [.ref 16, .int xp, .int xs]) [] h := by
    have no : ¬ bs_ok xp.toInt xs.toInt u → ∀ (h' : am_H) (w : Int32), w.toInt = -2 → ly_hy m_tt ly_TH h' → ly_fr cst [] h h' → h.length ≤ h'.length → (fun r : am_Q => (∃ a : Int32, r.1 = some (.int a)) ∧ r.2.2.1 = 0 ∧ r.2.2.2 = 0 ∧ ly_hy m_tt ly_TH r.2.1 ∧ ly_fr cst [7182, 8704, 8960, 9216, 9472, 13824, 45319, 45320] h r.2.1 ∧ ((¬ bs_ok xp.toInt xs.toInt u → ly_hv cst r.2.1 13824 = ly_hv cst h 13824) ∧ (bs_ok xp.toInt xs.toInt u → bu (bs_V (ly_hv cst h 13824) (ly_hv cst h 12544) (ly_hv cst h 12800) (ly_hv cst h 13056) (ly_hv cst h 13312) xp.toInt xs.toInt g) (ly_hv cst h 13824) n (ly_hv cst r.2.1 13824)))) (some (.int w), h', 0, 0) := fun nk h' w hw w1 w2 w3 => ⟨⟨w, rfl⟩, rfl, rfl, w1, (fun r i x _ e => w2 r i x rfl e), fun _ => hp_same (show ly_ths ly_TH 54 = some (.inl (.int, 80, -2147483648, 2147483647)) from rfl) rfl hy w1 w2, fun ok => absurd ok nk⟩
    by_cases p1 : xp.toInt ≤ -1
    · exact bg0 c hM (by omega) hy xp.toInt xs.toInt u a0 p1 b0 b1 u0 u1 ku rfl ⟨xp, rfl, rfl⟩ ⟨xs, rfl, rfl⟩ (no (fun k => by have := k.1; omega))
    by_cases p2 : u ≤ xp.toInt
    · exact bg1 c hM (by omega) hy xp.toInt xs.toInt u (by omega) a1 b0 b1 u0 u1 (by omega) ku rfl ⟨xp, rfl, rfl⟩ ⟨xs, rfl, rfl⟩ (no (fun k => by have := k.2.1; omega))
    by_cases p3 : xs.toInt ≤ -1
    · exact bg2 c hM (by omega) hy xp.toInt xs.toInt u (by omega) (by omega) b0 p3 u0 u1 (by omega) ku rfl ⟨xp, rfl, rfl⟩ ⟨xs, rfl, rfl⟩ (no (fun k => by have := k.2.2.1; omega))
    by_cases p4 : 6 ≤ xs.toInt
    · exact bg3 c hM (by omega) hy xp.toInt xs.toInt u (by omega) (by omega) p4 b1 u0 u1 (by omega) ku rfl ⟨xp, rfl, rfl⟩ ⟨xs, rfl, rfl⟩ (no (fun k => by have := k.2.2.2; omega))
    have ok : bs_ok xp.toInt xs.toInt u := ⟨by omega, by omega, by omega, by omega⟩
    refine bg4 c hM (by omega) hy xp.toInt xs.toInt u g (by omega) (by omega) (by omega) (by omega) u0 u1 g0 g1 (by omega) ku kg rfl ⟨xp, rfl, rfl⟩ ⟨xs, rfl, rfl⟩ (fun l1 h1 y0 y1 y2 f0 f1 f2 w1 w2 w3 k1 j0 j1 j2 => ?_)
    have go2 : ∃ r, am_Run cst m_cl m_tt m_P strs sx_bi (D + 1) 209 [.ref 59, .int y2, .int y1, .int y0] h1 r ∧ (∃ a : Int32, r.1 = some (.int a) ∧ 0 ≤ a.toInt ∧ a.toInt ≤ 80) ∧ r.2.2.1 = 0 ∧ r.2.2.2 = 0 ∧ ly_hy m_tt ly_TH r.2.1 ∧ ly_fr cst [13824] h1 r.2.1 ∧ bu (bs_V (ly_hv cst h1 13824) (ly_hv cst h1 12544) (ly_hv cst h1 12800) (ly_hv cst h1 13056) (ly_hv cst h1 13312) xp.toInt xs.toInt g) (ly_hv cst h1 13824) n (ly_hv cst r.2.1 13824) := by
      obtain ⟨M2, hM2, hl2⟩ := hp_M (mi := 209) (k := 4) (by decide +kernel)
      obtain ⟨n', r, hgo, ⟨a, r1, ra⟩, r2, r3, r4⟩ := bm0 (Φ := fun r => (∃ a : Int32, r.1 = some (.int a) ∧ 0 ≤ a.toInt ∧ a.toInt ≤ 80) ∧ r.2.2.1 = 0 ∧ r.2.2.2 = 0 ∧ ly_hy m_tt ly_TH r.2.1 ∧ ly_fr cst [13824] h1 r.2.1 ∧ bu (bs_V (ly_hv cst h1 13824) (ly_hv cst h1 12544) (ly_hv cst h1 12800) (ly_hv cst h1 13056) (ly_hv cst h1 13312) xp.toInt xs.toInt g) (ly_hv cst h1 13824) n (ly_hv cst r.2.1 13824)) c1 hM2 (by omega) w1 xp.toInt xs.toInt g (by omega) (by omega) (by omega) (by omega) g0 g1 (l := lv_args 0 [.ref 59, .int y2, .int y1, .int y0]) rfl ⟨y2, rfl, f2⟩ ⟨y1, rfl, f1⟩ ⟨y0, rfl, f0⟩ (fun l' h2 x1 x2 x3 z0 z1 z2 z3 z4 z5 => bm_loop (h0 := h1) c1 hM2 (by omega) (by omega) (by omega) (by omega) (by omega) g0 g1 n0 n1 w1 (fun l3 h3 x x0 x80 q1 q2 q3 q4 i0 i1 i2 i3 i4 i5 => bmh c1 hM2 (by omega) q1 xp.toInt xs.toInt g x n (by omega) (by omega) (by omega) (by omega) g0 g1 x0 x80 n0 n1 q3 i0 i1 i2 i3 i4 i5 (fun h4 a ha t1 t2 t3 => ⟨⟨a, rfl, by omega, by omega⟩, rfl, rfl, t1, ly_fr_tr q2 (fun r i v _ e => t2 r i v rfl e), by show bu _ _ _ (ly_hv cst h4 13824); rw [hp_same (show ly_ths ly_TH 54 = some (.inl (.int, 80, -2147483648, 2147483647)) from rfl) rfl q1 t1 t2]; exact q4⟩)) ((n - 0).toNat + 1) h2 l' 0 0 (Nat.lt_succ_self _) (by omega) n0 (by omega) (by omega) x1 (fun r i v _ e => x2 r i v rfl e) (x2 _ _ _ rfl (w2 _ _ _ rfl kn)) (by rw [hp_same (show ly_ths ly_TH 54 = some (.inl (.int, 80, -2147483648, 2147483647)) from rfl) rfl w1 x1 x2]; exact bu_0 _ _) z0 z1 z2 z3 z4 z5)
      simp only [Nat.zero_add] at r2 r3
      exact ⟨r, Or.inr ⟨M2, n', hM2, hl2, hgo⟩, ⟨a, r1, ra⟩, r2, r3, r4⟩
    obtain ⟨r, hrun, ⟨a, r1, ra0, ra1⟩, r2, r3, rhy, rfr, rb⟩ := go2
    refine hp_call (mi := 208) (pc := 31) (tg := 209) (na := 4) (c := 43) (ci := 7) (st0 := [.int y0, .int y1, .int y2, .ref 59]) (st := []) (av := [.int y2, .int y1, .int y0]) hM (by decide +kernel) w1 rfl rfl rfl (Nat.le_of_ble_eq_true rfl) hrun r2 r3 ?_
    rw [r1]
    rw [hp_same (show ly_ths ly_TH 54 = some (.inl (.int, 80, -2147483648, 2147483647)) from rfl) rfl hy w1 w2, hp_same (show ly_ths ly_TH 49 = some (.inl (.int, 80, -2147483648, 2147483647)) from rfl) rfl hy w1 w2, hp_same (show ly_ths ly_TH 50 = some (.inl (.int, 80, -2147483648, 2147483647)) from rfl) rfl hy w1 w2, hp_same (show ly_ths ly_TH 51 = some (.inl (.int, 80, -2147483648, 2147483647)) from rfl) rfl hy w1 w2, hp_same (show ly_ths ly_TH 52 = some (.inl (.int, 80, -2147483648, 2147483647)) from rfl) rfl hy w1 w2] at rb
    exact bg5 c hM (by omega) rhy xp.toInt xs.toInt g a.toInt a rfl (by omega) (by omega) (by omega) (by omega) g0 g1 ra0 ra1 (rfr _ _ _ rfl k1) j0 j1 j2 (fun h3 ww z hz t1 t2 t3 _ _ => ⟨⟨z, rfl⟩, rfl, rfl, t1, ly_fr_tr (fun r i x _ e => w2 r i x rfl e) (ly_fr_tr (hp_sub rfl rfr) (hp_sub rfl t2)), fun nk => absurd ok nk, fun _ => by show bu _ _ _ (ly_hv cst h3 13824); rw [hp_same (show ly_ths ly_TH 54 = some (.inl (.int, 80, -2147483648, 2147483647)) from rfl) rfl rhy t1 t2]; exact rb⟩)
  obtain ⟨n', r, hgo, r1, r2, r3, r4⟩ := go
  simp only [Nat.zero_add] at r2 r3
  exact ⟨r, Or.inr ⟨M, n', hM, hl, hgo⟩, r1, r2, r3, r4⟩
theorem bni_loop {cst : am_K} {strs : List Nat} {D : Nat} {M : am_M} {h0 : am_H} {Φ : am_Q → Prop} (c : hp_C cst strs D) (hM : m_P[388]? = some M) (hD : (7 : Int) ≤ (D : Int) + 1) {p s g mm : Int} (p0 : 0 ≤ p) (p1 : p ≤ 119) (s0 : 0 ≤ s) (s1 : s ≤ 5) (g0 : 0 ≤ g) (g1 : g ≤ 399) (m0 : 0 ≤ mm) (m1 : mm ≤ 100)
    (k : ∀ (h : am_H) (z : Int32), ly_hy m_tt ly_TH h → ly_fr cst [20054, 30464, 30720, 35584, 35840] h0 h → Φ (some (.int z), h, 0, 0)) :
    ∀ (N : Nat) (h : am_H) (l : am_L) (m x : Int), (mm - m).toNat < N → 0 ≤ m → m ≤ mm → 0 ≤ x → x ≤ 80 + 100 * m → ly_hy m_tt ly_TH h → ly_fr cst [20054, 30464, 30720, 35584, 35840] h0 h → ly_hv cst h 20024 0 = some mm → ly_hv cst h 19977 0 = some g → hp_a l 0 94 → hp_i l 1 p → hp_i l 2 s → hp_i l 3 x → hp_i l 4 m → hp_F cst strs Φ D M 111 l [] h := by
  intro N
  induction N with
  | zero => intro h l m x hN; omega
  | succ N ih =>
    intro h l m x hN i0 i1 x0 x1 hy fr km kg l0 l1 l2 l3 l4
    by_cases hi : m = mm
    · subst hi
      exact bnj c hM (by omega) hy p s g x m p0 p1 s0 s1 g0 g1 x0 (by omega) m0 m1 km kg l0 l1 l2 l3 l4 (fun h2 a ha u1 u2 u3 => k h2 a u1 (ly_fr_tr fr (fun r i v _ e => u2 r i v rfl e)))
    · exact bni c hM hD hy p s g x mm m p0 p1 s0 s1 g0 g1 x0 (by omega) m0 m1 i0 (by omega) (by omega) (by omega) km kg l0 l1 l2 l3 l4 (fun l' h' u1 u2 u3 k1 k2 j0 j1 j2 j3 j4 => ih h' l' (m + 1) x (by omega) (by omega) (by omega) x0 (by omega) u1 (ly_fr_tr fr u2) k1 k2 j0 j1 j2 j3 j4) (fun l' h' u1 u2 u3 k1 k2 j0 j1 j2 j3 j4 => ih h' l' (m + 1) (x + 100) (by omega) (by omega) (by omega) (by omega) (by omega) u1 (ly_fr_tr fr u2) k1 k2 j0 j1 j2 j3 j4)
theorem bsm_run {cst : am_K} {strs : List Nat} {D : Nat} {h : am_H} (c : hp_C cst strs (D)) (hD : (7 : Int) ≤ (D : Int) + 1) (hy : ly_hy m_tt ly_TH h) {xp xs : Int32} {u n g : Int} (u0 : 0 ≤ u) (u1 : u ≤ 120) (ku : ly_hv cst h 19978 0 = some u) (n0 : 0 ≤ n) (n1 : n ≤ 80) (kn : ly_hv cst h 20073 0 = some n) (g0 : 0 ≤ g) (g1 : g ≤ 399) (kg : ly_hv cst h 19977 0 = some g) :
    ∃ r, am_Run cst m_cl m_tt m_P strs sx_bi (D + 1) 388 [.ref 94, .int xp, .int xs] h r ∧ (fun r : am_Q => (∃ a : Int32, r.1 = some (.int a)) ∧ r.2.2.1 = 0 ∧ r.2.2.2 = 0 ∧ ly_hy m_tt ly_TH r.2.1 ∧ ly_fr cst [20054, 30464, 30720, 35584, 35840, 40704] h r.2.1 ∧ ((¬ bs_ok xp.toInt xs.toInt u → ly_hv cst r.2.1 40704 = ly_hv cst h 40704) ∧ (bs_ok xp.toInt xs.toInt u → bu (bs_V (ly_hv cst h 40704) (ly_hv cst h 39424) (ly_hv cst h 39680) (ly_hv cst h 39936) (ly_hv cst h 40192) xp.toInt xs.toInt g) (ly_hv cst h 40704) n (ly_hv cst r.2.1 40704)))) r := by
  obtain ⟨M, hM, hl⟩ := hp_M (mi := 388) (k := 3) (by decide +kernel)
  have a0 := xp.le_toInt
  have a1 := xp.toInt_le
  have b0 := xs.le_toInt
  have b1 := xs.toInt_le
  have go : hp_F cst strs (fun r : am_Q => (∃ a : Int32, r.1 = some (.int a)) ∧ r.2.2.1 = 0 ∧ r.2.2.2 = 0 ∧ ly_hy m_tt ly_TH r.2.1 ∧ ly_fr cst [20054, 30464, 30720, 35584, 35840, 40704] h r.2.1 ∧ ((¬ bs_ok xp.toInt xs.toInt u → ly_hv cst r.2.1 40704 = ly_hv cst h 40704) ∧ (bs_ok xp.toInt xs.toInt u → bu (bs_V (ly_hv cst h 40704) (ly_hv cst h 39424) (ly_hv cst h 39680) (ly_hv cst h 39936) (ly_hv cst h 40192) xp.toInt xs.toInt g) (ly_hv cst h 40704) n (ly_hv cst r.2.1 40704)))) (D) M 0 (lv_args 0 [.ref 94, .int xp, .int xs]) [] h := by
    have no : ¬ bs_ok xp.toInt xs.toInt u → ∀ (h' : am_H) (w : Int32), w.toInt = -2 → ly_hy m_tt ly_TH h' → ly_fr cst [] h h' → h.length ≤ h'.length → (fun r : am_Q => (∃ a : Int32, r.1 = some (.int a)) ∧ r.2.2.1 = 0 ∧ r.2.2.2 = 0 ∧ ly_hy m_tt ly_TH r.2.1 ∧ ly_fr cst [20054, 30464, 30720, 35584, 35840, 40704] h r.2.1 ∧ ((¬ bs_ok xp.toInt xs.toInt u → ly_hv cst r.2.1 40704 = ly_hv cst h 40704) ∧ (bs_ok xp.toInt xs.toInt u → bu (bs_V (ly_hv cst h 40704) (ly_hv cst h 39424) (ly_hv cst h 39680) (ly_hv cst h 39936) (ly_hv cst h 40192) xp.toInt xs.toInt g) (ly_hv cst h 40704) n (ly_hv cst r.2.1 40704)))) (some (.int w), h', 0, 0) := fun nk h' w hw w1 w2 w3 => ⟨⟨w, rfl⟩, rfl, rfl, w1, (fun r i x _ e => w2 r i x rfl e), fun _ => hp_same (show ly_ths ly_TH 159 = some (.inl (.int, 80, -2147483648, 2147483647)) from rfl) rfl hy w1 w2, fun ok => absurd ok nk⟩
    by_cases p1 : xp.toInt ≤ -1
    · exact bh0 c hM (by omega) hy xp.toInt xs.toInt u a0 p1 b0 b1 u0 u1 ku rfl ⟨xp, rfl, rfl⟩ ⟨xs, rfl, rfl⟩ (no (fun k => by have := k.1; omega))
    by_cases p2 : u ≤ xp.toInt
    · exact bh1 c hM (by omega) hy xp.toInt xs.toInt u (by omega) a1 b0 b1 u0 u1 (by omega) ku rfl ⟨xp, rfl, rfl⟩ ⟨xs, rfl, rfl⟩ (no (fun k => by have := k.2.1; omega))
    by_cases p3 : xs.toInt ≤ -1
    · exact bh2 c hM (by omega) hy xp.toInt xs.toInt u (by omega) (by omega) b0 p3 u0 u1 (by omega) ku rfl ⟨xp, rfl, rfl⟩ ⟨xs, rfl, rfl⟩ (no (fun k => by have := k.2.2.1; omega))
    by_cases p4 : 6 ≤ xs.toInt
    · exact bh3 c hM (by omega) hy xp.toInt xs.toInt u (by omega) (by omega) p4 b1 u0 u1 (by omega) ku rfl ⟨xp, rfl, rfl⟩ ⟨xs, rfl, rfl⟩ (no (fun k => by have := k.2.2.2; omega))
    have ok : bs_ok xp.toInt xs.toInt u := ⟨by omega, by omega, by omega, by omega⟩
    obtain ⟨mm, km, mm0, mm1⟩ := hp_fld (cst := cst) (c := 78) (k := 56) hy rfl rfl (by decide)
    refine bh4 c hM (by omega) hy xp.toInt xs.toInt u (by omega) (by omega) (by omega) (by omega) u0 u1 (by omega) ku rfl ⟨xp, rfl, rfl⟩ ⟨xs, rfl, rfl⟩ (fun l1 h1 w1 w2 w3 j0 j1 j2 j3 j4 => ?_)
    refine bn_loop (h0 := h) c hM (by omega) (p := xp.toInt) (s := xs.toInt) (g := g) (n := n) (by omega) (by omega) (by omega) (by omega) g0 g1 n0 n1 hy (fun l3 h3 x x0 x80 q1 q2 q3 q4 q5 i0 i1 i2 i3 i4 => ?_) ((n - 0).toNat + 1) h1 l1 0 0 (Nat.lt_succ_self _) (by omega) n0 (by omega) (by omega) w1 (fun r i v _ e => w2 r i v rfl e) (w2 _ _ _ rfl kn) (w2 _ _ _ rfl kg) (by rw [hp_same (show ly_ths ly_TH 159 = some (.inl (.int, 80, -2147483648, 2147483647)) from rfl) rfl hy w1 w2]; exact bu_0 _ _) j0 j1 j2 j3 j4
    refine bnh c hM (by omega) q1 xp.toInt xs.toInt g x n (by omega) (by omega) (by omega) (by omega) g0 g1 x0 x80 n0 n1 q3 q4 i0 i1 i2 i3 i4 (fun l5 h5 t1 t2 t3 t4 o0 o1 o2 o3 o4 => ?_)
    refine bni_loop (h0 := h5) c hM hD (p := xp.toInt) (s := xs.toInt) (g := g) (mm := mm) (by omega) (by omega) (by omega) (by omega) g0 g1 mm0 mm1 (fun h6 z y1 y2 => ⟨⟨z, rfl⟩, rfl, rfl, y1, ly_fr_tr (hp_sub rfl q2) (ly_fr_tr (fun r i x _ e => t2 r i x rfl e) (hp_sub rfl y2)), fun nk => absurd ok nk, fun _ => ?_⟩) ((mm - 0).toNat + 1) h5 l5 0 x (Nat.lt_succ_self _) (by omega) mm0 x0 (by omega) t1 (ly_fr_rf h5) (t2 _ _ _ rfl (q2 _ _ _ rfl km)) t4 o0 o1 o2 o3 o4
    show bu _ _ _ (ly_hv cst h6 40704)
    rw [hp_same (show ly_ths ly_TH 159 = some (.inl (.int, 80, -2147483648, 2147483647)) from rfl) rfl t1 y1 y2, hp_same (show ly_ths ly_TH 159 = some (.inl (.int, 80, -2147483648, 2147483647)) from rfl) rfl q1 t1 t2]
    exact q5
  obtain ⟨n', r, hgo, r1, r2, r3, r4⟩ := go
  simp only [Nat.zero_add] at r2 r3
  exact ⟨r, Or.inr ⟨M, n', hM, hl, hgo⟩, r1, r2, r3, r4⟩
theorem bv_go {cst : am_K} {strs : List Nat} {D : Nat} {M : am_M} {h : am_H} {l : am_L} {Φ : am_Q → Prop} (c : hp_C cst strs D) (hM : m_P[207]? = some M) (hD : (2 : Int) ≤ (D : Int) + 1) (hy : ly_hy m_tt ly_TH h) {p s f t w v : Int} (p0 : -2147483648 ≤ p) (p1 : p ≤ 2147483647) (s0 : -2147483648 ≤ s) (s1 : s ≤ 2147483647) (f0 : -2147483648 ≤ f) (f1 : f ≤ 2147483647) (t0 : -2147483648 ≤ t) (t1 : t ≤ 2147483647) (w0 : -2147483648 ≤ w) (w1 : w ≤ 2147483647) (v0 : 0 ≤ v) (v1 : v ≤ 80) (kv : ly_hv cst h 11014 0 = some v) (l0 : hp_a l 0 59) (l1 : hp_i l 1 p) (l2 : hp_i l 2 s) (l3 : hp_i l 3 f) (l4 : hp_i l 4 t) (l5 : hp_i l 5 w)
    (kf : v = 80 → ∀ (h2 : am_H) (z : Int32), z.toInt = -3 → ly_hy m_tt ly_TH h2 → ly_fr cst [] h h2 → ly_hv cst h2 11014 0 = some 80 → Φ (some (.int z), h2, 0, 0))
    (kg : v ≠ 80 → ∀ (h2 : am_H) (z : Int32), ly_hy m_tt ly_TH h2 → ly_fr cst [11014, 12544, 12800, 13056, 13312, 13568, 13824] h h2 → ly_hv cst h2 11014 0 = some (v + 1) → ly_hv cst h2 12544 = hp_upd (ly_hv cst h 12544) v p → ly_hv cst h2 12800 = hp_upd (ly_hv cst h 12800) v s → ly_hv cst h2 13056 = hp_upd (ly_hv cst h 13056) v f → ly_hv cst h2 13312 = hp_upd (ly_hv cst h 13312) v t → ly_hv cst h2 13568 = hp_upd (ly_hv cst h 13568) v w → ly_hv cst h2 13824 = hp_upd (ly_hv cst h 13824) v 0 → Φ (some (.int z), h2, 0, 0)) : hp_F cst strs Φ D M 0 l [] h := by
  by_cases q : v = 80
  · rw [q] at kv
    exact bvf c hM hD hy p s f t w p0 p1 s0 s1 f0 f1 t0 t1 w0 w1 kv l0 l1 l2 l3 l4 l5 (fun h2 z hz u1 u2 u3 k1 => kf q h2 z hz u1 u2 k1)
  · refine bv0 c hM hD hy p s f t w v p0 p1 s0 s1 f0 f1 t0 t1 w0 w1 v0 (by omega) kv l0 l1 l2 l3 l4 l5 (fun l10 a0 y0 yt0 fy0 ft0 ua0 fa0 la0 ka0 w0_0 w0_1 w0_2 w0_3 w0_4 w0_5 => ?_)
    have ea0_0 : ly_hv cst a0 12544 = ly_hv cst h 12544 := by rw [hp_same (show ly_ths ly_TH 49 = some (.inl (.int, 80, -2147483648, 2147483647)) from rfl) rfl hy ua0 fa0]
    have ea0_1 : ly_hv cst a0 12800 = ly_hv cst h 12800 := by rw [hp_same (show ly_ths ly_TH 50 = some (.inl (.int, 80, -2147483648, 2147483647)) from rfl) rfl hy ua0 fa0]
    have ea0_2 : ly_hv cst a0 13056 = ly_hv cst h 13056 := by rw [hp_same (show ly_ths ly_TH 51 = some (.inl (.int, 80, -2147483648, 2147483647)) from rfl) rfl hy ua0 fa0]
    have ea0_3 : ly_hv cst a0 13312 = ly_hv cst h 13312 := by rw [hp_same (show ly_ths ly_TH 52 = some (.inl (.int, 80, -2147483648, 2147483647)) from rfl) rfl hy ua0 fa0]
    have ea0_4 : ly_hv cst a0 13568 = ly_hv cst h 13568 := by rw [hp_same (show ly_ths ly_TH 53 = some (.inl (.int, 80, -2147483648, 2147483647)) from rfl) rfl hy ua0 fa0]
    have ea0_5 : ly_hv cst a0 13824 = ly_hv cst h 13824 := by rw [hp_same (show ly_ths ly_TH 54 = some (.inl (.int, 80, -2147483648, 2147483647)) from rfl) rfl hy ua0 fa0]
    refine hp_st (c := 49) hM (by decide +kernel) ua0 (show ly_ths ly_TH 49 = some (.inl (.int, 80, -2147483648, 2147483647)) from rfl) rfl (by omega) (by omega) y0.le_toInt y0.toInt_le (fun b0 ub0 lb0 pb0 => ?_)
    rw [fy0, ft0] at pb0
    have eb0_0 : ly_hv cst b0 12544 = hp_upd (ly_hv cst h 12544) v p := by rw [hp_put_eq pb0, ea0_0]
    have eb0_1 : ly_hv cst b0 12800 = ly_hv cst h 12800 := by rw [hp_put_ne pb0 (by decide)]; exact ea0_1
    have eb0_2 : ly_hv cst b0 13056 = ly_hv cst h 13056 := by rw [hp_put_ne pb0 (by decide)]; exact ea0_2
    have eb0_3 : ly_hv cst b0 13312 = ly_hv cst h 13312 := by rw [hp_put_ne pb0 (by decide)]; exact ea0_3
    have eb0_4 : ly_hv cst b0 13568 = ly_hv cst h 13568 := by rw [hp_put_ne pb0 (by decide)]; exact ea0_4
    have eb0_5 : ly_hv cst b0 13824 = ly_hv cst h 13824 := by rw [hp_put_ne pb0 (by decide)]; exact ea0_5
    have kc0 : ly_hv cst b0 11014 0 = some v := by rw [hp_put_ne pb0 (by decide)]; exact ka0
    have fb0 : ly_fr cst [11014, 12544, 12800, 13056, 13312, 13568, 13824] h b0 := ly_fr_tr (ly_fr_rf h) (ly_fr_tr (fun r i w _ e => fa0 r i w rfl e) (hp_put_fr (by rfl) pb0))
    refine bv1 c hM hD ub0 p s f t w v p0 p1 s0 s1 f0 f1 t0 t1 w0 w1 v0 (by omega) kc0 w0_0 w0_1 w0_2 w0_3 w0_4 w0_5 (fun l11 a1 y1 yt1 fy1 ft1 ua1 fa1 la1 ka1 w1_0 w1_1 w1_2 w1_3 w1_4 w1_5 => ?_)
    have ea1_0 : ly_hv cst a1 12544 = hp_upd (ly_hv cst h 12544) v p := by rw [hp_same (show ly_ths ly_TH 49 = some (.inl (.int, 80, -2147483648, 2147483647)) from rfl) rfl ub0 ua1 fa1]; exact eb0_0
    have ea1_1 : ly_hv cst a1 12800 = ly_hv cst h 12800 := by rw [hp_same (show ly_ths ly_TH 50 = some (.inl (.int, 80, -2147483648, 2147483647)) from rfl) rfl ub0 ua1 fa1]; exact eb0_1
    have ea1_2 : ly_hv cst a1 13056 = ly_hv cst h 13056 := by rw [hp_same (show ly_ths ly_TH 51 = some (.inl (.int, 80, -2147483648, 2147483647)) from rfl) rfl ub0 ua1 fa1]; exact eb0_2
    have ea1_3 : ly_hv cst a1 13312 = ly_hv cst h 13312 := by rw [hp_same (show ly_ths ly_TH 52 = some (.inl (.int, 80, -2147483648, 2147483647)) from rfl) rfl ub0 ua1 fa1]; exact eb0_3
    have ea1_4 : ly_hv cst a1 13568 = ly_hv cst h 13568 := by rw [hp_same (show ly_ths ly_TH 53 = some (.inl (.int, 80, -2147483648, 2147483647)) from rfl) rfl ub0 ua1 fa1]; exact eb0_4
    have ea1_5 : ly_hv cst a1 13824 = ly_hv cst h 13824 := by rw [hp_same (show ly_ths ly_TH 54 = some (.inl (.int, 80, -2147483648, 2147483647)) from rfl) rfl ub0 ua1 fa1]; exact eb0_5
    refine hp_st (c := 50) hM (by decide +kernel) ua1 (show ly_ths ly_TH 50 = some (.inl (.int, 80, -2147483648, 2147483647)) from rfl) rfl (by omega) (by omega) y1.le_toInt y1.toInt_le (fun b1 ub1 lb1 pb1 => ?_)
    rw [fy1, ft1] at pb1
    have eb1_0 : ly_hv cst b1 12544 = hp_upd (ly_hv cst h 12544) v p := by rw [hp_put_ne pb1 (by decide)]; exact ea1_0
    have eb1_1 : ly_hv cst b1 12800 = hp_upd (ly_hv cst h 12800) v s := by rw [hp_put_eq pb1, ea1_1]
    have eb1_2 : ly_hv cst b1 13056 = ly_hv cst h 13056 := by rw [hp_put_ne pb1 (by decide)]; exact ea1_2
    have eb1_3 : ly_hv cst b1 13312 = ly_hv cst h 13312 := by rw [hp_put_ne pb1 (by decide)]; exact ea1_3
    have eb1_4 : ly_hv cst b1 13568 = ly_hv cst h 13568 := by rw [hp_put_ne pb1 (by decide)]; exact ea1_4
    have eb1_5 : ly_hv cst b1 13824 = ly_hv cst h 13824 := by rw [hp_put_ne pb1 (by decide)]; exact ea1_5
    have kc1 : ly_hv cst b1 11014 0 = some v := by rw [hp_put_ne pb1 (by decide)]; exact ka1
    have fb1 : ly_fr cst [11014, 12544, 12800, 13056, 13312, 13568, 13824] h b1 := ly_fr_tr fb0 (ly_fr_tr (fun r i w _ e => fa1 r i w rfl e) (hp_put_fr (by rfl) pb1))
    refine bv2 c hM hD ub1 p s f t w v p0 p1 s0 s1 f0 f1 t0 t1 w0 w1 v0 (by omega) kc1 w1_0 w1_1 w1_2 w1_3 w1_4 w1_5 (fun l12 a2 y2 yt2 fy2 ft2 ua2 fa2 la2 ka2 w2_0 w2_1 w2_2 w2_3 w2_4 w2_5 => ?_)
    have ea2_0 : ly_hv cst a2 12544 = hp_upd (ly_hv cst h 12544) v p := by rw [hp_same (show ly_ths ly_TH 49 = some (.inl (.int, 80, -2147483648, 2147483647)) from rfl) rfl ub1 ua2 fa2]; exact eb1_0
    have ea2_1 : ly_hv cst a2 12800 = hp_upd (ly_hv cst h 12800) v s := by rw [hp_same (show ly_ths ly_TH 50 = some (.inl (.int, 80, -2147483648, 2147483647)) from rfl) rfl ub1 ua2 fa2]; exact eb1_1
    have ea2_2 : ly_hv cst a2 13056 = ly_hv cst h 13056 := by rw [hp_same (show ly_ths ly_TH 51 = some (.inl (.int, 80, -2147483648, 2147483647)) from rfl) rfl ub1 ua2 fa2]; exact eb1_2
    have ea2_3 : ly_hv cst a2 13312 = ly_hv cst h 13312 := by rw [hp_same (show ly_ths ly_TH 52 = some (.inl (.int, 80, -2147483648, 2147483647)) from rfl) rfl ub1 ua2 fa2]; exact eb1_3
    have ea2_4 : ly_hv cst a2 13568 = ly_hv cst h 13568 := by rw [hp_same (show ly_ths ly_TH 53 = some (.inl (.int, 80, -2147483648, 2147483647)) from rfl) rfl ub1 ua2 fa2]; exact eb1_4
    have ea2_5 : ly_hv cst a2 13824 = ly_hv cst h 13824 := by rw [hp_same (show ly_ths ly_TH 54 = some (.inl (.int, 80, -2147483648, 2147483647)) from rfl) rfl ub1 ua2 fa2]; exact eb1_5
    refine hp_st (c := 51) hM (by decide +kernel) ua2 (show ly_ths ly_TH 51 = some (.inl (.int, 80, -2147483648, 2147483647)) from rfl) rfl (by omega) (by omega) y2.le_toInt y2.toInt_le (fun b2 ub2 lb2 pb2 => ?_)
    rw [fy2, ft2] at pb2
    have eb2_0 : ly_hv cst b2 12544 = hp_upd (ly_hv cst h 12544) v p := by rw [hp_put_ne pb2 (by decide)]; exact ea2_0
    have eb2_1 : ly_hv cst b2 12800 = hp_upd (ly_hv cst h 12800) v s := by rw [hp_put_ne pb2 (by decide)]; exact ea2_1
    have eb2_2 : ly_hv cst b2 13056 = hp_upd (ly_hv cst h 13056) v f := by rw [hp_put_eq pb2, ea2_2]
    have eb2_3 : ly_hv cst b2 13312 = ly_hv cst h 13312 := by rw [hp_put_ne pb2 (by decide)]; exact ea2_3
    have eb2_4 : ly_hv cst b2 13568 = ly_hv cst h 13568 := by rw [hp_put_ne pb2 (by decide)]; exact ea2_4
    have eb2_5 : ly_hv cst b2 13824 = ly_hv cst h 13824 := by rw [hp_put_ne pb2 (by decide)]; exact ea2_5
    have kc2 : ly_hv cst b2 11014 0 = some v := by rw [hp_put_ne pb2 (by decide)]; exact ka2
    have fb2 : ly_fr cst [11014, 12544, 12800, 13056, 13312, 13568, 13824] h b2 := ly_fr_tr fb1 (ly_fr_tr (fun r i w _ e => fa2 r i w rfl e) (hp_put_fr (by rfl) pb2))
    refine bv3 c hM hD ub2 p s f t w v p0 p1 s0 s1 f0 f1 t0 t1 w0 w1 v0 (by omega) kc2 w2_0 w2_1 w2_2 w2_3 w2_4 w2_5 (fun l13 a3 y3 yt3 fy3 ft3 ua3 fa3 la3 ka3 w3_0 w3_1 w3_2 w3_3 w3_4 w3_5 => ?_)
    have ea3_0 : ly_hv cst a3 12544 = hp_upd (ly_hv cst h 12544) v p := by rw [hp_same (show ly_ths ly_TH 49 = some (.inl (.int, 80, -2147483648, 2147483647)) from rfl) rfl ub2 ua3 fa3]; exact eb2_0
    have ea3_1 : ly_hv cst a3 12800 = hp_upd (ly_hv cst h 12800) v s := by rw [hp_same (show ly_ths ly_TH 50 = some (.inl (.int, 80, -2147483648, 2147483647)) from rfl) rfl ub2 ua3 fa3]; exact eb2_1
    have ea3_2 : ly_hv cst a3 13056 = hp_upd (ly_hv cst h 13056) v f := by rw [hp_same (show ly_ths ly_TH 51 = some (.inl (.int, 80, -2147483648, 2147483647)) from rfl) rfl ub2 ua3 fa3]; exact eb2_2
    have ea3_3 : ly_hv cst a3 13312 = ly_hv cst h 13312 := by rw [hp_same (show ly_ths ly_TH 52 = some (.inl (.int, 80, -2147483648, 2147483647)) from rfl) rfl ub2 ua3 fa3]; exact eb2_3
    have ea3_4 : ly_hv cst a3 13568 = ly_hv cst h 13568 := by rw [hp_same (show ly_ths ly_TH 53 = some (.inl (.int, 80, -2147483648, 2147483647)) from rfl) rfl ub2 ua3 fa3]; exact eb2_4
    have ea3_5 : ly_hv cst a3 13824 = ly_hv cst h 13824 := by rw [hp_same (show ly_ths ly_TH 54 = some (.inl (.int, 80, -2147483648, 2147483647)) from rfl) rfl ub2 ua3 fa3]; exact eb2_5
    refine hp_st (c := 52) hM (by decide +kernel) ua3 (show ly_ths ly_TH 52 = some (.inl (.int, 80, -2147483648, 2147483647)) from rfl) rfl (by omega) (by omega) y3.le_toInt y3.toInt_le (fun b3 ub3 lb3 pb3 => ?_)
    rw [fy3, ft3] at pb3
    have eb3_0 : ly_hv cst b3 12544 = hp_upd (ly_hv cst h 12544) v p := by rw [hp_put_ne pb3 (by decide)]; exact ea3_0
    have eb3_1 : ly_hv cst b3 12800 = hp_upd (ly_hv cst h 12800) v s := by rw [hp_put_ne pb3 (by decide)]; exact ea3_1
    have eb3_2 : ly_hv cst b3 13056 = hp_upd (ly_hv cst h 13056) v f := by rw [hp_put_ne pb3 (by decide)]; exact ea3_2
    have eb3_3 : ly_hv cst b3 13312 = hp_upd (ly_hv cst h 13312) v t := by rw [hp_put_eq pb3, ea3_3]
    have eb3_4 : ly_hv cst b3 13568 = ly_hv cst h 13568 := by rw [hp_put_ne pb3 (by decide)]; exact ea3_4
    have eb3_5 : ly_hv cst b3 13824 = ly_hv cst h 13824 := by rw [hp_put_ne pb3 (by decide)]; exact ea3_5
    have kc3 : ly_hv cst b3 11014 0 = some v := by rw [hp_put_ne pb3 (by decide)]; exact ka3
    have fb3 : ly_fr cst [11014, 12544, 12800, 13056, 13312, 13568, 13824] h b3 := ly_fr_tr fb2 (ly_fr_tr (fun r i w _ e => fa3 r i w rfl e) (hp_put_fr (by rfl) pb3))
    refine bv4 c hM hD ub3 p s f t w v p0 p1 s0 s1 f0 f1 t0 t1 w0 w1 v0 (by omega) kc3 w3_0 w3_1 w3_2 w3_3 w3_4 w3_5 (fun l14 a4 y4 yt4 fy4 ft4 ua4 fa4 la4 ka4 w4_0 w4_1 w4_2 w4_3 w4_4 w4_5 => ?_)
    have ea4_0 : ly_hv cst a4 12544 = hp_upd (ly_hv cst h 12544) v p := by rw [hp_same (show ly_ths ly_TH 49 = some (.inl (.int, 80, -2147483648, 2147483647)) from rfl) rfl ub3 ua4 fa4]; exact eb3_0
    have ea4_1 : ly_hv cst a4 12800 = hp_upd (ly_hv cst h 12800) v s := by rw [hp_same (show ly_ths ly_TH 50 = some (.inl (.int, 80, -2147483648, 2147483647)) from rfl) rfl ub3 ua4 fa4]; exact eb3_1
    have ea4_2 : ly_hv cst a4 13056 = hp_upd (ly_hv cst h 13056) v f := by rw [hp_same (show ly_ths ly_TH 51 = some (.inl (.int, 80, -2147483648, 2147483647)) from rfl) rfl ub3 ua4 fa4]; exact eb3_2
    have ea4_3 : ly_hv cst a4 13312 = hp_upd (ly_hv cst h 13312) v t := by rw [hp_same (show ly_ths ly_TH 52 = some (.inl (.int, 80, -2147483648, 2147483647)) from rfl) rfl ub3 ua4 fa4]; exact eb3_3
    have ea4_4 : ly_hv cst a4 13568 = ly_hv cst h 13568 := by rw [hp_same (show ly_ths ly_TH 53 = some (.inl (.int, 80, -2147483648, 2147483647)) from rfl) rfl ub3 ua4 fa4]; exact eb3_4
    have ea4_5 : ly_hv cst a4 13824 = ly_hv cst h 13824 := by rw [hp_same (show ly_ths ly_TH 54 = some (.inl (.int, 80, -2147483648, 2147483647)) from rfl) rfl ub3 ua4 fa4]; exact eb3_5
    refine hp_st (c := 53) hM (by decide +kernel) ua4 (show ly_ths ly_TH 53 = some (.inl (.int, 80, -2147483648, 2147483647)) from rfl) rfl (by omega) (by omega) y4.le_toInt y4.toInt_le (fun b4 ub4 lb4 pb4 => ?_)
    rw [fy4, ft4] at pb4
    have eb4_0 : ly_hv cst b4 12544 = hp_upd (ly_hv cst h 12544) v p := by rw [hp_put_ne pb4 (by decide)]; exact ea4_0
    have eb4_1 : ly_hv cst b4 12800 = hp_upd (ly_hv cst h 12800) v s := by rw [hp_put_ne pb4 (by decide)]; exact ea4_1
    have eb4_2 : ly_hv cst b4 13056 = hp_upd (ly_hv cst h 13056) v f := by rw [hp_put_ne pb4 (by decide)]; exact ea4_2
    have eb4_3 : ly_hv cst b4 13312 = hp_upd (ly_hv cst h 13312) v t := by rw [hp_put_ne pb4 (by decide)]; exact ea4_3
    have eb4_4 : ly_hv cst b4 13568 = hp_upd (ly_hv cst h 13568) v w := by rw [hp_put_eq pb4, ea4_4]
    have eb4_5 : ly_hv cst b4 13824 = ly_hv cst h 13824 := by rw [hp_put_ne pb4 (by decide)]; exact ea4_5
    have kc4 : ly_hv cst b4 11014 0 = some v := by rw [hp_put_ne pb4 (by decide)]; exact ka4
    have fb4 : ly_fr cst [11014, 12544, 12800, 13056, 13312, 13568, 13824] h b4 := ly_fr_tr fb3 (ly_fr_tr (fun r i w _ e => fa4 r i w rfl e) (hp_put_fr (by rfl) pb4))
    refine bv5 c hM hD ub4 p s f t w v p0 p1 s0 s1 f0 f1 t0 t1 w0 w1 v0 (by omega) kc4 w4_0 w4_1 w4_2 w4_3 w4_4 w4_5 (fun l15 a5 y5 yt5 fy5 ft5 ua5 fa5 la5 ka5 w5_0 w5_1 w5_2 w5_3 w5_4 w5_5 => ?_)
    have ea5_0 : ly_hv cst a5 12544 = hp_upd (ly_hv cst h 12544) v p := by rw [hp_same (show ly_ths ly_TH 49 = some (.inl (.int, 80, -2147483648, 2147483647)) from rfl) rfl ub4 ua5 fa5]; exact eb4_0
    have ea5_1 : ly_hv cst a5 12800 = hp_upd (ly_hv cst h 12800) v s := by rw [hp_same (show ly_ths ly_TH 50 = some (.inl (.int, 80, -2147483648, 2147483647)) from rfl) rfl ub4 ua5 fa5]; exact eb4_1
    have ea5_2 : ly_hv cst a5 13056 = hp_upd (ly_hv cst h 13056) v f := by rw [hp_same (show ly_ths ly_TH 51 = some (.inl (.int, 80, -2147483648, 2147483647)) from rfl) rfl ub4 ua5 fa5]; exact eb4_2
    have ea5_3 : ly_hv cst a5 13312 = hp_upd (ly_hv cst h 13312) v t := by rw [hp_same (show ly_ths ly_TH 52 = some (.inl (.int, 80, -2147483648, 2147483647)) from rfl) rfl ub4 ua5 fa5]; exact eb4_3
    have ea5_4 : ly_hv cst a5 13568 = hp_upd (ly_hv cst h 13568) v w := by rw [hp_same (show ly_ths ly_TH 53 = some (.inl (.int, 80, -2147483648, 2147483647)) from rfl) rfl ub4 ua5 fa5]; exact eb4_4
    have ea5_5 : ly_hv cst a5 13824 = ly_hv cst h 13824 := by rw [hp_same (show ly_ths ly_TH 54 = some (.inl (.int, 80, -2147483648, 2147483647)) from rfl) rfl ub4 ua5 fa5]; exact eb4_5
    refine hp_st (c := 54) hM (by decide +kernel) ua5 (show ly_ths ly_TH 54 = some (.inl (.int, 80, -2147483648, 2147483647)) from rfl) rfl (by omega) (by omega) y5.le_toInt y5.toInt_le (fun b5 ub5 lb5 pb5 => ?_)
    rw [fy5, ft5] at pb5
    have eb5_0 : ly_hv cst b5 12544 = hp_upd (ly_hv cst h 12544) v p := by rw [hp_put_ne pb5 (by decide)]; exact ea5_0
    have eb5_1 : ly_hv cst b5 12800 = hp_upd (ly_hv cst h 12800) v s := by rw [hp_put_ne pb5 (by decide)]; exact ea5_1
    have eb5_2 : ly_hv cst b5 13056 = hp_upd (ly_hv cst h 13056) v f := by rw [hp_put_ne pb5 (by decide)]; exact ea5_2
    have eb5_3 : ly_hv cst b5 13312 = hp_upd (ly_hv cst h 13312) v t := by rw [hp_put_ne pb5 (by decide)]; exact ea5_3
    have eb5_4 : ly_hv cst b5 13568 = hp_upd (ly_hv cst h 13568) v w := by rw [hp_put_ne pb5 (by decide)]; exact ea5_4
    have eb5_5 : ly_hv cst b5 13824 = hp_upd (ly_hv cst h 13824) v 0 := by rw [hp_put_eq pb5, ea5_5]
    have kc5 : ly_hv cst b5 11014 0 = some v := by rw [hp_put_ne pb5 (by decide)]; exact ka5
    have fb5 : ly_fr cst [11014, 12544, 12800, 13056, 13312, 13568, 13824] h b5 := ly_fr_tr fb4 (ly_fr_tr (fun r i w _ e => fa5 r i w rfl e) (hp_put_fr (by rfl) pb5))
    exact bvr c hM hD ub5 p s f t w v p0 p1 s0 s1 f0 f1 t0 t1 w0 w1 v0 (by omega) kc5 w5_0 w5_1 w5_2 w5_3 w5_4 w5_5 (fun h2 z hz u1 u2 u3 k1 => kg q h2 z u1 (ly_fr_tr fb5 (hp_sub rfl u2)) k1 (by rw [hp_same (show ly_ths ly_TH 49 = some (.inl (.int, 80, -2147483648, 2147483647)) from rfl) rfl ub5 u1 u2]; exact eb5_0) (by rw [hp_same (show ly_ths ly_TH 50 = some (.inl (.int, 80, -2147483648, 2147483647)) from rfl) rfl ub5 u1 u2]; exact eb5_1) (by rw [hp_same (show ly_ths ly_TH 51 = some (.inl (.int, 80, -2147483648, 2147483647)) from rfl) rfl ub5 u1 u2]; exact eb5_2) (by rw [hp_same (show ly_ths ly_TH 52 = some (.inl (.int, 80, -2147483648, 2147483647)) from rfl) rfl ub5 u1 u2]; exact eb5_3) (by rw [hp_same (show ly_ths ly_TH 53 = some (.inl (.int, 80, -2147483648, 2147483647)) from rfl) rfl ub5 u1 u2]; exact eb5_4) (by rw [hp_same (show ly_ths ly_TH 54 = some (.inl (.int, 80, -2147483648, 2147483647)) from rfl) rfl ub5 u1 u2]; exact eb5_5))
theorem bw_go {cst : am_K} {strs : List Nat} {D : Nat} {M : am_M} {h : am_H} {l : am_L} {Φ : am_Q → Prop} (c : hp_C cst strs D) (hM : m_P[386]? = some M) (hD : (2 : Int) ≤ (D : Int) + 1) (hy : ly_hy m_tt ly_TH h) {p s f t w v : Int} (p0 : -2147483648 ≤ p) (p1 : p ≤ 2147483647) (s0 : -2147483648 ≤ s) (s1 : s ≤ 2147483647) (f0 : -2147483648 ≤ f) (f1 : f ≤ 2147483647) (t0 : -2147483648 ≤ t) (t1 : t ≤ 2147483647) (w0 : -2147483648 ≤ w) (w1 : w ≤ 2147483647) (v0 : 0 ≤ v) (v1 : v ≤ 80) (kv : ly_hv cst h 20073 0 = some v) (l0 : hp_a l 0 94) (l1 : hp_i l 1 p) (l2 : hp_i l 2 s) (l3 : hp_i l 3 f) (l4 : hp_i l 4 t) (l5 : hp_i l 5 w)
    (kf : v = 80 → ∀ (h2 : am_H) (z : Int32), z.toInt = -3 → ly_hy m_tt ly_TH h2 → ly_fr cst [] h h2 → ly_hv cst h2 20073 0 = some 80 → Φ (some (.int z), h2, 0, 0))
    (kg : v ≠ 80 → ∀ (h2 : am_H) (z : Int32), ly_hy m_tt ly_TH h2 → ly_fr cst [20073, 39424, 39680, 39936, 40192, 40448] h h2 → ly_hv cst h2 20073 0 = some (v + 1) → ly_hv cst h2 39424 = hp_upd (ly_hv cst h 39424) v p → ly_hv cst h2 39680 = hp_upd (ly_hv cst h 39680) v s → ly_hv cst h2 39936 = hp_upd (ly_hv cst h 39936) v f → ly_hv cst h2 40192 = hp_upd (ly_hv cst h 40192) v t → ly_hv cst h2 40448 = hp_upd (ly_hv cst h 40448) v w → Φ (some (.int z), h2, 0, 0)) : hp_F cst strs Φ D M 58 l [] h := by
  by_cases q : v = 80
  · rw [q] at kv
    exact bwf c hM hD hy p s f t w p0 p1 s0 s1 f0 f1 t0 t1 w0 w1 kv l0 l1 l2 l3 l4 l5 (fun h2 z hz u1 u2 u3 k1 => kf q h2 z hz u1 u2 k1)
  · refine bw0 c hM hD hy p s f t w v p0 p1 s0 s1 f0 f1 t0 t1 w0 w1 v0 (by omega) kv l0 l1 l2 l3 l4 l5 (fun l10 a0 y0 yt0 fy0 ft0 ua0 fa0 la0 ka0 w0_0 w0_1 w0_2 w0_3 w0_4 w0_5 => ?_)
    have ea0_0 : ly_hv cst a0 39424 = ly_hv cst h 39424 := by rw [hp_same (show ly_ths ly_TH 154 = some (.inl (.int, 80, -2147483648, 2147483647)) from rfl) rfl hy ua0 fa0]
    have ea0_1 : ly_hv cst a0 39680 = ly_hv cst h 39680 := by rw [hp_same (show ly_ths ly_TH 155 = some (.inl (.int, 80, -2147483648, 2147483647)) from rfl) rfl hy ua0 fa0]
    have ea0_2 : ly_hv cst a0 39936 = ly_hv cst h 39936 := by rw [hp_same (show ly_ths ly_TH 156 = some (.inl (.int, 80, -2147483648, 2147483647)) from rfl) rfl hy ua0 fa0]
    have ea0_3 : ly_hv cst a0 40192 = ly_hv cst h 40192 := by rw [hp_same (show ly_ths ly_TH 157 = some (.inl (.int, 80, -2147483648, 2147483647)) from rfl) rfl hy ua0 fa0]
    have ea0_4 : ly_hv cst a0 40448 = ly_hv cst h 40448 := by rw [hp_same (show ly_ths ly_TH 158 = some (.inl (.int, 80, -2147483648, 2147483647)) from rfl) rfl hy ua0 fa0]
    refine hp_st (c := 154) hM (by decide +kernel) ua0 (show ly_ths ly_TH 154 = some (.inl (.int, 80, -2147483648, 2147483647)) from rfl) rfl (by omega) (by omega) y0.le_toInt y0.toInt_le (fun b0 ub0 lb0 pb0 => ?_)
    rw [fy0, ft0] at pb0
    have eb0_0 : ly_hv cst b0 39424 = hp_upd (ly_hv cst h 39424) v p := by rw [hp_put_eq pb0, ea0_0]
    have eb0_1 : ly_hv cst b0 39680 = ly_hv cst h 39680 := by rw [hp_put_ne pb0 (by decide)]; exact ea0_1
    have eb0_2 : ly_hv cst b0 39936 = ly_hv cst h 39936 := by rw [hp_put_ne pb0 (by decide)]; exact ea0_2
    have eb0_3 : ly_hv cst b0 40192 = ly_hv cst h 40192 := by rw [hp_put_ne pb0 (by decide)]; exact ea0_3
    have eb0_4 : ly_hv cst b0 40448 = ly_hv cst h 40448 := by rw [hp_put_ne pb0 (by decide)]; exact ea0_4
    have kc0 : ly_hv cst b0 20073 0 = some v := by rw [hp_put_ne pb0 (by decide)]; exact ka0
    have fb0 : ly_fr cst [20073, 39424, 39680, 39936, 40192, 40448] h b0 := ly_fr_tr (ly_fr_rf h) (ly_fr_tr (fun r i w _ e => fa0 r i w rfl e) (hp_put_fr (by rfl) pb0))
    refine bw1 c hM hD ub0 p s f t w v p0 p1 s0 s1 f0 f1 t0 t1 w0 w1 v0 (by omega) kc0 w0_0 w0_1 w0_2 w0_3 w0_4 w0_5 (fun l11 a1 y1 yt1 fy1 ft1 ua1 fa1 la1 ka1 w1_0 w1_1 w1_2 w1_3 w1_4 w1_5 => ?_)
    have ea1_0 : ly_hv cst a1 39424 = hp_upd (ly_hv cst h 39424) v p := by rw [hp_same (show ly_ths ly_TH 154 = some (.inl (.int, 80, -2147483648, 2147483647)) from rfl) rfl ub0 ua1 fa1]; exact eb0_0
    have ea1_1 : ly_hv cst a1 39680 = ly_hv cst h 39680 := by rw [hp_same (show ly_ths ly_TH 155 = some (.inl (.int, 80, -2147483648, 2147483647)) from rfl) rfl ub0 ua1 fa1]; exact eb0_1
    have ea1_2 : ly_hv cst a1 39936 = ly_hv cst h 39936 := by rw [hp_same (show ly_ths ly_TH 156 = some (.inl (.int, 80, -2147483648, 2147483647)) from rfl) rfl ub0 ua1 fa1]; exact eb0_2
    have ea1_3 : ly_hv cst a1 40192 = ly_hv cst h 40192 := by rw [hp_same (show ly_ths ly_TH 157 = some (.inl (.int, 80, -2147483648, 2147483647)) from rfl) rfl ub0 ua1 fa1]; exact eb0_3
    have ea1_4 : ly_hv cst a1 40448 = ly_hv cst h 40448 := by rw [hp_same (show ly_ths ly_TH 158 = some (.inl (.int, 80, -2147483648, 2147483647)) from rfl) rfl ub0 ua1 fa1]; exact eb0_4
    refine hp_st (c := 155) hM (by decide +kernel) ua1 (show ly_ths ly_TH 155 = some (.inl (.int, 80, -2147483648, 2147483647)) from rfl) rfl (by omega) (by omega) y1.le_toInt y1.toInt_le (fun b1 ub1 lb1 pb1 => ?_)
    rw [fy1, ft1] at pb1
    have eb1_0 : ly_hv cst b1 39424 = hp_upd (ly_hv cst h 39424) v p := by rw [hp_put_ne pb1 (by decide)]; exact ea1_0
    have eb1_1 : ly_hv cst b1 39680 = hp_upd (ly_hv cst h 39680) v s := by rw [hp_put_eq pb1, ea1_1]
    have eb1_2 : ly_hv cst b1 39936 = ly_hv cst h 39936 := by rw [hp_put_ne pb1 (by decide)]; exact ea1_2
    have eb1_3 : ly_hv cst b1 40192 = ly_hv cst h 40192 := by rw [hp_put_ne pb1 (by decide)]; exact ea1_3
    have eb1_4 : ly_hv cst b1 40448 = ly_hv cst h 40448 := by rw [hp_put_ne pb1 (by decide)]; exact ea1_4
    have kc1 : ly_hv cst b1 20073 0 = some v := by rw [hp_put_ne pb1 (by decide)]; exact ka1
    have fb1 : ly_fr cst [20073, 39424, 39680, 39936, 40192, 40448] h b1 := ly_fr_tr fb0 (ly_fr_tr (fun r i w _ e => fa1 r i w rfl e) (hp_put_fr (by rfl) pb1))
    refine bw2 c hM hD ub1 p s f t w v p0 p1 s0 s1 f0 f1 t0 t1 w0 w1 v0 (by omega) kc1 w1_0 w1_1 w1_2 w1_3 w1_4 w1_5 (fun l12 a2 y2 yt2 fy2 ft2 ua2 fa2 la2 ka2 w2_0 w2_1 w2_2 w2_3 w2_4 w2_5 => ?_)
    have ea2_0 : ly_hv cst a2 39424 = hp_upd (ly_hv cst h 39424) v p := by rw [hp_same (show ly_ths ly_TH 154 = some (.inl (.int, 80, -2147483648, 2147483647)) from rfl) rfl ub1 ua2 fa2]; exact eb1_0
    have ea2_1 : ly_hv cst a2 39680 = hp_upd (ly_hv cst h 39680) v s := by rw [hp_same (show ly_ths ly_TH 155 = some (.inl (.int, 80, -2147483648, 2147483647)) from rfl) rfl ub1 ua2 fa2]; exact eb1_1
    have ea2_2 : ly_hv cst a2 39936 = ly_hv cst h 39936 := by rw [hp_same (show ly_ths ly_TH 156 = some (.inl (.int, 80, -2147483648, 2147483647)) from rfl) rfl ub1 ua2 fa2]; exact eb1_2
    have ea2_3 : ly_hv cst a2 40192 = ly_hv cst h 40192 := by rw [hp_same (show ly_ths ly_TH 157 = some (.inl (.int, 80, -2147483648, 2147483647)) from rfl) rfl ub1 ua2 fa2]; exact eb1_3
    have ea2_4 : ly_hv cst a2 40448 = ly_hv cst h 40448 := by rw [hp_same (show ly_ths ly_TH 158 = some (.inl (.int, 80, -2147483648, 2147483647)) from rfl) rfl ub1 ua2 fa2]; exact eb1_4
    refine hp_st (c := 156) hM (by decide +kernel) ua2 (show ly_ths ly_TH 156 = some (.inl (.int, 80, -2147483648, 2147483647)) from rfl) rfl (by omega) (by omega) y2.le_toInt y2.toInt_le (fun b2 ub2 lb2 pb2 => ?_)
    rw [fy2, ft2] at pb2
    have eb2_0 : ly_hv cst b2 39424 = hp_upd (ly_hv cst h 39424) v p := by rw [hp_put_ne pb2 (by decide)]; exact ea2_0
    have eb2_1 : ly_hv cst b2 39680 = hp_upd (ly_hv cst h 39680) v s := by rw [hp_put_ne pb2 (by decide)]; exact ea2_1
    have eb2_2 : ly_hv cst b2 39936 = hp_upd (ly_hv cst h 39936) v f := by rw [hp_put_eq pb2, ea2_2]
    have eb2_3 : ly_hv cst b2 40192 = ly_hv cst h 40192 := by rw [hp_put_ne pb2 (by decide)]; exact ea2_3
    have eb2_4 : ly_hv cst b2 40448 = ly_hv cst h 40448 := by rw [hp_put_ne pb2 (by decide)]; exact ea2_4
    have kc2 : ly_hv cst b2 20073 0 = some v := by rw [hp_put_ne pb2 (by decide)]; exact ka2
    have fb2 : ly_fr cst [20073, 39424, 39680, 39936, 40192, 40448] h b2 := ly_fr_tr fb1 (ly_fr_tr (fun r i w _ e => fa2 r i w rfl e) (hp_put_fr (by rfl) pb2))
    refine bw3 c hM hD ub2 p s f t w v p0 p1 s0 s1 f0 f1 t0 t1 w0 w1 v0 (by omega) kc2 w2_0 w2_1 w2_2 w2_3 w2_4 w2_5 (fun l13 a3 y3 yt3 fy3 ft3 ua3 fa3 la3 ka3 w3_0 w3_1 w3_2 w3_3 w3_4 w3_5 => ?_)
    have ea3_0 : ly_hv cst a3 39424 = hp_upd (ly_hv cst h 39424) v p := by rw [hp_same (show ly_ths ly_TH 154 = some (.inl (.int, 80, -2147483648, 2147483647)) from rfl) rfl ub2 ua3 fa3]; exact eb2_0
    have ea3_1 : ly_hv cst a3 39680 = hp_upd (ly_hv cst h 39680) v s := by rw [hp_same (show ly_ths ly_TH 155 = some (.inl (.int, 80, -2147483648, 2147483647)) from rfl) rfl ub2 ua3 fa3]; exact eb2_1
    have ea3_2 : ly_hv cst a3 39936 = hp_upd (ly_hv cst h 39936) v f := by rw [hp_same (show ly_ths ly_TH 156 = some (.inl (.int, 80, -2147483648, 2147483647)) from rfl) rfl ub2 ua3 fa3]; exact eb2_2
    have ea3_3 : ly_hv cst a3 40192 = ly_hv cst h 40192 := by rw [hp_same (show ly_ths ly_TH 157 = some (.inl (.int, 80, -2147483648, 2147483647)) from rfl) rfl ub2 ua3 fa3]; exact eb2_3
    have ea3_4 : ly_hv cst a3 40448 = ly_hv cst h 40448 := by rw [hp_same (show ly_ths ly_TH 158 = some (.inl (.int, 80, -2147483648, 2147483647)) from rfl) rfl ub2 ua3 fa3]; exact eb2_4
    refine hp_st (c := 157) hM (by decide +kernel) ua3 (show ly_ths ly_TH 157 = some (.inl (.int, 80, -2147483648, 2147483647)) from rfl) rfl (by omega) (by omega) y3.le_toInt y3.toInt_le (fun b3 ub3 lb3 pb3 => ?_)
    rw [fy3, ft3] at pb3
    have eb3_0 : ly_hv cst b3 39424 = hp_upd (ly_hv cst h 39424) v p := by rw [hp_put_ne pb3 (by decide)]; exact ea3_0
    have eb3_1 : ly_hv cst b3 39680 = hp_upd (ly_hv cst h 39680) v s := by rw [hp_put_ne pb3 (by decide)]; exact ea3_1
    have eb3_2 : ly_hv cst b3 39936 = hp_upd (ly_hv cst h 39936) v f := by rw [hp_put_ne pb3 (by decide)]; exact ea3_2
    have eb3_3 : ly_hv cst b3 40192 = hp_upd (ly_hv cst h 40192) v t := by rw [hp_put_eq pb3, ea3_3]
    have eb3_4 : ly_hv cst b3 40448 = ly_hv cst h 40448 := by rw [hp_put_ne pb3 (by decide)]; exact ea3_4
    have kc3 : ly_hv cst b3 20073 0 = some v := by rw [hp_put_ne pb3 (by decide)]; exact ka3
    have fb3 : ly_fr cst [20073, 39424, 39680, 39936, 40192, 40448] h b3 := ly_fr_tr fb2 (ly_fr_tr (fun r i w _ e => fa3 r i w rfl e) (hp_put_fr (by rfl) pb3))
    refine bw4 c hM hD ub3 p s f t w v p0 p1 s0 s1 f0 f1 t0 t1 w0 w1 v0 (by omega) kc3 w3_0 w3_1 w3_2 w3_3 w3_4 w3_5 (fun l14 a4 y4 yt4 fy4 ft4 ua4 fa4 la4 ka4 w4_0 w4_1 w4_2 w4_3 w4_4 w4_5 => ?_)
    have ea4_0 : ly_hv cst a4 39424 = hp_upd (ly_hv cst h 39424) v p := by rw [hp_same (show ly_ths ly_TH 154 = some (.inl (.int, 80, -2147483648, 2147483647)) from rfl) rfl ub3 ua4 fa4]; exact eb3_0
    have ea4_1 : ly_hv cst a4 39680 = hp_upd (ly_hv cst h 39680) v s := by rw [hp_same (show ly_ths ly_TH 155 = some (.inl (.int, 80, -2147483648, 2147483647)) from rfl) rfl ub3 ua4 fa4]; exact eb3_1
    have ea4_2 : ly_hv cst a4 39936 = hp_upd (ly_hv cst h 39936) v f := by rw [hp_same (show ly_ths ly_TH 156 = some (.inl (.int, 80, -2147483648, 2147483647)) from rfl) rfl ub3 ua4 fa4]; exact eb3_2
    have ea4_3 : ly_hv cst a4 40192 = hp_upd (ly_hv cst h 40192) v t := by rw [hp_same (show ly_ths ly_TH 157 = some (.inl (.int, 80, -2147483648, 2147483647)) from rfl) rfl ub3 ua4 fa4]; exact eb3_3
    have ea4_4 : ly_hv cst a4 40448 = ly_hv cst h 40448 := by rw [hp_same (show ly_ths ly_TH 158 = some (.inl (.int, 80, -2147483648, 2147483647)) from rfl) rfl ub3 ua4 fa4]; exact eb3_4
    refine hp_st (c := 158) hM (by decide +kernel) ua4 (show ly_ths ly_TH 158 = some (.inl (.int, 80, -2147483648, 2147483647)) from rfl) rfl (by omega) (by omega) y4.le_toInt y4.toInt_le (fun b4 ub4 lb4 pb4 => ?_)
    rw [fy4, ft4] at pb4
    have eb4_0 : ly_hv cst b4 39424 = hp_upd (ly_hv cst h 39424) v p := by rw [hp_put_ne pb4 (by decide)]; exact ea4_0
    have eb4_1 : ly_hv cst b4 39680 = hp_upd (ly_hv cst h 39680) v s := by rw [hp_put_ne pb4 (by decide)]; exact ea4_1
    have eb4_2 : ly_hv cst b4 39936 = hp_upd (ly_hv cst h 39936) v f := by rw [hp_put_ne pb4 (by decide)]; exact ea4_2
    have eb4_3 : ly_hv cst b4 40192 = hp_upd (ly_hv cst h 40192) v t := by rw [hp_put_ne pb4 (by decide)]; exact ea4_3
    have eb4_4 : ly_hv cst b4 40448 = hp_upd (ly_hv cst h 40448) v w := by rw [hp_put_eq pb4, ea4_4]
    have kc4 : ly_hv cst b4 20073 0 = some v := by rw [hp_put_ne pb4 (by decide)]; exact ka4
    have fb4 : ly_fr cst [20073, 39424, 39680, 39936, 40192, 40448] h b4 := ly_fr_tr fb3 (ly_fr_tr (fun r i w _ e => fa4 r i w rfl e) (hp_put_fr (by rfl) pb4))
    exact bwr c hM hD ub4 p s f t w v p0 p1 s0 s1 f0 f1 t0 t1 w0 w1 v0 (by omega) kc4 w4_0 w4_1 w4_2 w4_3 w4_4 w4_5 (fun h2 z hz u1 u2 u3 k1 => kg q h2 z u1 (ly_fr_tr fb4 (hp_sub rfl u2)) k1 (by rw [hp_same (show ly_ths ly_TH 154 = some (.inl (.int, 80, -2147483648, 2147483647)) from rfl) rfl ub4 u1 u2]; exact eb4_0) (by rw [hp_same (show ly_ths ly_TH 155 = some (.inl (.int, 80, -2147483648, 2147483647)) from rfl) rfl ub4 u1 u2]; exact eb4_1) (by rw [hp_same (show ly_ths ly_TH 156 = some (.inl (.int, 80, -2147483648, 2147483647)) from rfl) rfl ub4 u1 u2]; exact eb4_2) (by rw [hp_same (show ly_ths ly_TH 157 = some (.inl (.int, 80, -2147483648, 2147483647)) from rfl) rfl ub4 u1 u2]; exact eb4_3) (by rw [hp_same (show ly_ths ly_TH 158 = some (.inl (.int, 80, -2147483648, 2147483647)) from rfl) rfl ub4 u1 u2]; exact eb4_4))
def bb_ok (p s f t w u g : Int) : Prop := 0 ≤ p ∧ p < u ∧ 0 ≤ s ∧ s ≤ 5 ∧ 0 ≤ f ∧ f ≤ 399 ∧ 0 ≤ t ∧ t ≤ 399 ∧ f ≤ t ∧ g ≤ t ∧ 1 ≤ w ∧ w ≤ 9999
def bb_C (cst : am_K) (h h2 : am_H) (ok : Prop) (v p s f t w : Int) : Prop := ((¬ ok ∨ v = 80) → ly_hv cst h2 11014 0 = some v ∧ ly_hv cst h2 12544 = ly_hv cst h 12544 ∧ ly_hv cst h2 12800 = ly_hv cst h 12800 ∧ ly_hv cst h2 13056 = ly_hv cst h 13056 ∧ ly_hv cst h2 13312 = ly_hv cst h 13312 ∧ ly_hv cst h2 13568 = ly_hv cst h 13568 ∧ ly_hv cst h2 13824 = ly_hv cst h 13824) ∧ (ok → v ≠ 80 → ly_hv cst h2 11014 0 = some (v + 1) ∧ ly_hv cst h2 12544 = hp_upd (ly_hv cst h 12544) v p ∧ ly_hv cst h2 12800 = hp_upd (ly_hv cst h 12800) v s ∧ ly_hv cst h2 13056 = hp_upd (ly_hv cst h 13056) v f ∧ ly_hv cst h2 13312 = hp_upd (ly_hv cst h 13312) v t ∧ ly_hv cst h2 13568 = hp_upd (ly_hv cst h 13568) v w ∧ ly_hv cst h2 13824 = hp_upd (ly_hv cst h 13824) v 0)
def bb_M (cst : am_K) (h h2 : am_H) (ok : Prop) (v p s f t w : Int) : Prop := ly_hv cst h2 40704 = ly_hv cst h 40704 ∧ ((¬ ok ∨ v = 80) → ly_hv cst h2 20073 0 = some v ∧ ly_hv cst h2 39424 = ly_hv cst h 39424 ∧ ly_hv cst h2 39680 = ly_hv cst h 39680 ∧ ly_hv cst h2 39936 = ly_hv cst h 39936 ∧ ly_hv cst h2 40192 = ly_hv cst h 40192 ∧ ly_hv cst h2 40448 = ly_hv cst h 40448) ∧ (ok → v ≠ 80 → ly_hv cst h2 20073 0 = some (v + 1) ∧ ly_hv cst h2 39424 = hp_upd (ly_hv cst h 39424) v p ∧ ly_hv cst h2 39680 = hp_upd (ly_hv cst h 39680) v s ∧ ly_hv cst h2 39936 = hp_upd (ly_hv cst h 39936) v f ∧ ly_hv cst h2 40192 = hp_upd (ly_hv cst h 40192) v t ∧ ly_hv cst h2 40448 = hp_upd (ly_hv cst h 40448) v w)
theorem bjc_run {cst : am_K} {strs : List Nat} {D : Nat} {h : am_H} (c1 : hp_C cst strs D) (c : hp_C cst strs (D + 1)) (hD : (4 : Int) ≤ (D : Int) + 1) (hy : ly_hy m_tt ly_TH h) {xp xs xf xt xw : Int32} {u n g : Int} (u0 : 0 ≤ u) (u1 : u ≤ 120) (ku : ly_hv cst h 1536 0 = some u) (n0 : 0 ≤ n) (n1 : n ≤ 80) (kn : ly_hv cst h 11014 0 = some n) (g0 : 0 ≤ g) (g1 : g ≤ 399) (kg : ly_hv cst h 10 0 = some g) :
    ∃ r, am_Run cst m_cl m_tt m_P strs sx_bi (D + 1 + 1) 206 [.ref 16, .int xp, .int xs, .int xf, .int xt, .int xw] h r ∧ (fun r : am_Q => (∃ a : Int32, r.1 = some (.int a)) ∧ r.2.2.1 = 0 ∧ r.2.2.2 = 0 ∧ ly_hy m_tt ly_TH r.2.1 ∧ ly_fr cst [11014, 12544, 12800, 13056, 13312, 13568, 13824] h r.2.1 ∧ bb_C cst h r.2.1 (bb_ok xp.toInt xs.toInt xf.toInt xt.toInt xw.toInt u g) n xp.toInt xs.toInt xf.toInt xt.toInt xw.toInt) r := by
  obtain ⟨M, hM, hl⟩ := hp_M (mi := 206) (k := 6) (by decide +kernel)
  have ap0 : -2147483648 ≤ xp.toInt := xp.le_toInt
  have ap1 : xp.toInt ≤ 2147483647 := xp.toInt_le
  have as0 : -2147483648 ≤ xs.toInt := xs.le_toInt
  have as1 : xs.toInt ≤ 2147483647 := xs.toInt_le
  have af0 : -2147483648 ≤ xf.toInt := xf.le_toInt
  have af1 : xf.toInt ≤ 2147483647 := xf.toInt_le
  have at0 : -2147483648 ≤ xt.toInt := xt.le_toInt
  have at1 : xt.toInt ≤ 2147483647 := xt.toInt_le
  have aw0 : -2147483648 ≤ xw.toInt := xw.le_toInt
  have aw1 : xw.toInt ≤ 2147483647 := xw.toInt_le
  have go : hp_F cst strs (fun r : am_Q => (∃ a : Int32, r.1 = some (.int a)) ∧ r.2.2.1 = 0 ∧ r.2.2.2 = 0 ∧ ly_hy m_tt ly_TH r.2.1 ∧ ly_fr cst [11014, 12544, 12800, 13056, 13312, 13568, 13824] h r.2.1 ∧ bb_C cst h r.2.1 (bb_ok xp.toInt xs.toInt xf.toInt xt.toInt xw.toInt u g) n xp.toInt xs.toInt xf.toInt xt.toInt xw.toInt) (D + 1) M 0 (lv_args 0 [.ref 16, .int xp, .int xs, .int xf, .int xt, .int xw]) [] h := by
    have no : ¬ (bb_ok xp.toInt xs.toInt xf.toInt xt.toInt xw.toInt u g) → ∀ (h' : am_H) (w : Int32), w.toInt = -2 → ly_hy m_tt ly_TH h' → ly_fr cst [] h h' → h.length ≤ h'.length → (fun r : am_Q => (∃ a : Int32, r.1 = some (.int a)) ∧ r.2.2.1 = 0 ∧ r.2.2.2 = 0 ∧ ly_hy m_tt ly_TH r.2.1 ∧ ly_fr cst [11014, 12544, 12800, 13056, 13312, 13568, 13824] h r.2.1 ∧ bb_C cst h r.2.1 (bb_ok xp.toInt xs.toInt xf.toInt xt.toInt xw.toInt u g) n xp.toInt xs.toInt xf.toInt xt.toInt xw.toInt) (some (.int w), h', 0, 0) := fun nk h' w hw w1 w2 w3 => ⟨⟨w, rfl⟩, rfl, rfl, w1, (fun r i x _ e => w2 r i x rfl e), fun _ => ⟨w2 _ _ _ rfl kn, hp_same (show ly_ths ly_TH 49 = some (.inl (.int, 80, -2147483648, 2147483647)) from rfl) rfl hy w1 w2, hp_same (show ly_ths ly_TH 50 = some (.inl (.int, 80, -2147483648, 2147483647)) from rfl) rfl hy w1 w2, hp_same (show ly_ths ly_TH 51 = some (.inl (.int, 80, -2147483648, 2147483647)) from rfl) rfl hy w1 w2, hp_same (show ly_ths ly_TH 52 = some (.inl (.int, 80, -2147483648, 2147483647)) from rfl) rfl hy w1 w2, hp_same (show ly_ths ly_TH 53 = some (.inl (.int, 80, -2147483648, 2147483647)) from rfl) rfl hy w1 w2, hp_same (show ly_ths ly_TH 54 = some (.inl (.int, 80, -2147483648, 2147483647)) from rfl) rfl hy w1 w2⟩, fun ok => absurd ok nk⟩
    by_cases p0 : xp.toInt ≤ -1
    · exact bj0 c hM (by omega) hy xp.toInt xs.toInt xf.toInt xt.toInt xw.toInt u g (by omega) (by omega) as0 as1 af0 af1 at0 at1 aw0 aw1 u0 u1 g0 g1 ku kg rfl ⟨xp, rfl, rfl⟩ ⟨xs, rfl, rfl⟩ ⟨xf, rfl, rfl⟩ ⟨xt, rfl, rfl⟩ ⟨xw, rfl, rfl⟩ (no (fun k => by have := k.1; omega))
    by_cases p1 : u ≤ xp.toInt
    · exact bj1 c hM (by omega) hy xp.toInt xs.toInt xf.toInt xt.toInt xw.toInt u g (by omega) (by omega) as0 as1 af0 af1 at0 at1 aw0 aw1 u0 u1 g0 g1 (by omega) ku kg rfl ⟨xp, rfl, rfl⟩ ⟨xs, rfl, rfl⟩ ⟨xf, rfl, rfl⟩ ⟨xt, rfl, rfl⟩ ⟨xw, rfl, rfl⟩ (no (fun k => by have := k.2.1; omega))
    by_cases p2 : xs.toInt ≤ -1
    · exact bj2 c hM (by omega) hy xp.toInt xs.toInt xf.toInt xt.toInt xw.toInt u g (by omega) (by omega) (by omega) (by omega) af0 af1 at0 at1 aw0 aw1 u0 u1 g0 g1 (by omega) ku kg rfl ⟨xp, rfl, rfl⟩ ⟨xs, rfl, rfl⟩ ⟨xf, rfl, rfl⟩ ⟨xt, rfl, rfl⟩ ⟨xw, rfl, rfl⟩ (no (fun k => by have := k.2.2.1; omega))
    by_cases p3 : 6 ≤ xs.toInt
    · exact bj3 c hM (by omega) hy xp.toInt xs.toInt xf.toInt xt.toInt xw.toInt u g (by omega) (by omega) (by omega) (by omega) af0 af1 at0 at1 aw0 aw1 u0 u1 g0 g1 (by omega) ku kg rfl ⟨xp, rfl, rfl⟩ ⟨xs, rfl, rfl⟩ ⟨xf, rfl, rfl⟩ ⟨xt, rfl, rfl⟩ ⟨xw, rfl, rfl⟩ (no (fun k => by have := k.2.2.2.1; omega))
    by_cases p4 : xf.toInt ≤ -1
    · exact bj4 c hM (by omega) hy xp.toInt xs.toInt xf.toInt xt.toInt xw.toInt u g (by omega) (by omega) (by omega) (by omega) (by omega) (by omega) at0 at1 aw0 aw1 u0 u1 g0 g1 (by omega) ku kg rfl ⟨xp, rfl, rfl⟩ ⟨xs, rfl, rfl⟩ ⟨xf, rfl, rfl⟩ ⟨xt, rfl, rfl⟩ ⟨xw, rfl, rfl⟩ (no (fun k => by have := k.2.2.2.2.1; omega))
    by_cases p5 : 400 ≤ xf.toInt
    · exact bj5 c hM (by omega) hy xp.toInt xs.toInt xf.toInt xt.toInt xw.toInt u g (by omega) (by omega) (by omega) (by omega) (by omega) (by omega) at0 at1 aw0 aw1 u0 u1 g0 g1 (by omega) ku kg rfl ⟨xp, rfl, rfl⟩ ⟨xs, rfl, rfl⟩ ⟨xf, rfl, rfl⟩ ⟨xt, rfl, rfl⟩ ⟨xw, rfl, rfl⟩ (no (fun k => by have := k.2.2.2.2.2.1; omega))
    by_cases p6 : xt.toInt ≤ -1
    · exact bj6 c hM (by omega) hy xp.toInt xs.toInt xf.toInt xt.toInt xw.toInt u g (by omega) (by omega) (by omega) (by omega) (by omega) (by omega) (by omega) (by omega) aw0 aw1 u0 u1 g0 g1 (by omega) ku kg rfl ⟨xp, rfl, rfl⟩ ⟨xs, rfl, rfl⟩ ⟨xf, rfl, rfl⟩ ⟨xt, rfl, rfl⟩ ⟨xw, rfl, rfl⟩ (no (fun k => by have := k.2.2.2.2.2.2.1; omega))
    by_cases p7 : 400 ≤ xt.toInt
    · exact bj7 c hM (by omega) hy xp.toInt xs.toInt xf.toInt xt.toInt xw.toInt u g (by omega) (by omega) (by omega) (by omega) (by omega) (by omega) (by omega) (by omega) aw0 aw1 u0 u1 g0 g1 (by omega) ku kg rfl ⟨xp, rfl, rfl⟩ ⟨xs, rfl, rfl⟩ ⟨xf, rfl, rfl⟩ ⟨xt, rfl, rfl⟩ ⟨xw, rfl, rfl⟩ (no (fun k => by have := k.2.2.2.2.2.2.2.1; omega))
    by_cases p8 : xt.toInt < xf.toInt
    · exact bj8 c hM (by omega) hy xp.toInt xs.toInt xf.toInt xt.toInt xw.toInt u g (by omega) (by omega) (by omega) (by omega) (by omega) (by omega) (by omega) (by omega) aw0 aw1 u0 u1 g0 g1 (by omega) (by omega) ku kg rfl ⟨xp, rfl, rfl⟩ ⟨xs, rfl, rfl⟩ ⟨xf, rfl, rfl⟩ ⟨xt, rfl, rfl⟩ ⟨xw, rfl, rfl⟩ (no (fun k => by have := k.2.2.2.2.2.2.2.2.1; omega))
    by_cases p9 : xt.toInt < g
    · exact bj9 c hM (by omega) hy xp.toInt xs.toInt xf.toInt xt.toInt xw.toInt u g (by omega) (by omega) (by omega) (by omega) (by omega) (by omega) (by omega) (by omega) aw0 aw1 u0 u1 g0 g1 (by omega) (by omega) (by omega) ku kg rfl ⟨xp, rfl, rfl⟩ ⟨xs, rfl, rfl⟩ ⟨xf, rfl, rfl⟩ ⟨xt, rfl, rfl⟩ ⟨xw, rfl, rfl⟩ (no (fun k => by have := k.2.2.2.2.2.2.2.2.2.1; omega))
    by_cases p10 : xw.toInt ≤ 0
    · exact bja c hM (by omega) hy xp.toInt xs.toInt xf.toInt xt.toInt xw.toInt u g (by omega) (by omega) (by omega) (by omega) (by omega) (by omega) (by omega) (by omega) (by omega) (by omega)  u0 u1 g0 g1 (by omega) (by omega) (by omega) ku kg rfl ⟨xp, rfl, rfl⟩ ⟨xs, rfl, rfl⟩ ⟨xf, rfl, rfl⟩ ⟨xt, rfl, rfl⟩ ⟨xw, rfl, rfl⟩ (no (fun k => by have := k.2.2.2.2.2.2.2.2.2.2.1; omega))
    by_cases p11 : 10000 ≤ xw.toInt
    · exact bjb c hM (by omega) hy xp.toInt xs.toInt xf.toInt xt.toInt xw.toInt u g (by omega) (by omega) (by omega) (by omega) (by omega) (by omega) (by omega) (by omega) (by omega) (by omega)  u0 u1 g0 g1 (by omega) (by omega) (by omega) ku kg rfl ⟨xp, rfl, rfl⟩ ⟨xs, rfl, rfl⟩ ⟨xf, rfl, rfl⟩ ⟨xt, rfl, rfl⟩ ⟨xw, rfl, rfl⟩ (no (fun k => by have := k.2.2.2.2.2.2.2.2.2.2.2; omega))
    have ok : (bb_ok xp.toInt xs.toInt xf.toInt xt.toInt xw.toInt u g) := ⟨by omega, by omega, by omega, by omega, by omega, by omega, by omega, by omega, by omega, by omega, by omega, by omega⟩
    refine bjk c hM (by omega) hy xp.toInt xs.toInt xf.toInt xt.toInt xw.toInt u g (by omega) (by omega) (by omega) (by omega) (by omega) (by omega) (by omega) (by omega) (by omega) (by omega)  u0 u1 g0 g1 (by omega) (by omega) (by omega) ku kg rfl ⟨xp, rfl, rfl⟩ ⟨xs, rfl, rfl⟩ ⟨xf, rfl, rfl⟩ ⟨xt, rfl, rfl⟩ ⟨xw, rfl, rfl⟩ (fun l1 h1 y0 y1 y2 y3 y4 f0 f1 f2 f3 f4 w1 w2 w3 j0 => ?_)
    have go2 : ∃ r, am_Run cst m_cl m_tt m_P strs sx_bi (D + 1) 207 [.ref 59, .int y4, .int y3, .int y2, .int y1, .int y0] h1 r ∧ (∃ a : Int32, r.1 = some (.int a)) ∧ r.2.2.1 = 0 ∧ r.2.2.2 = 0 ∧ ly_hy m_tt ly_TH r.2.1 ∧ ly_fr cst [11014, 12544, 12800, 13056, 13312, 13568, 13824] h1 r.2.1 ∧ bb_C cst h1 r.2.1 True n xp.toInt xs.toInt xf.toInt xt.toInt xw.toInt := by
      obtain ⟨M2, hM2, hl2⟩ := hp_M (mi := 207) (k := 6) (by decide +kernel)
      obtain ⟨n', r, hgo, r1, r2, r3, r4⟩ := bv_go (Φ := fun r => (∃ a : Int32, r.1 = some (.int a)) ∧ r.2.2.1 = 0 ∧ r.2.2.2 = 0 ∧ ly_hy m_tt ly_TH r.2.1 ∧ ly_fr cst [11014, 12544, 12800, 13056, 13312, 13568, 13824] h1 r.2.1 ∧ bb_C cst h1 r.2.1 True n xp.toInt xs.toInt xf.toInt xt.toInt xw.toInt) c1 hM2 (by omega) w1 (v := n) xp.le_toInt xp.toInt_le xs.le_toInt xs.toInt_le xf.le_toInt xf.toInt_le xt.le_toInt xt.toInt_le xw.le_toInt xw.toInt_le n0 n1 (w2 _ _ _ rfl kn) (l := lv_args 0 [.ref 59, .int y4, .int y3, .int y2, .int y1, .int y0]) rfl ⟨y4, rfl, f4⟩ ⟨y3, rfl, f3⟩ ⟨y2, rfl, f2⟩ ⟨y1, rfl, f1⟩ ⟨y0, rfl, f0⟩ (fun q h2 z hz z1 z2 z3 => ⟨⟨z, rfl⟩, rfl, rfl, z1, (fun r i x _ e => z2 r i x rfl e), fun _ => ⟨by rw [q]; exact z3, hp_same (show ly_ths ly_TH 49 = some (.inl (.int, 80, -2147483648, 2147483647)) from rfl) rfl w1 z1 z2, hp_same (show ly_ths ly_TH 50 = some (.inl (.int, 80, -2147483648, 2147483647)) from rfl) rfl w1 z1 z2, hp_same (show ly_ths ly_TH 51 = some (.inl (.int, 80, -2147483648, 2147483647)) from rfl) rfl w1 z1 z2, hp_same (show ly_ths ly_TH 52 = some (.inl (.int, 80, -2147483648, 2147483647)) from rfl) rfl w1 z1 z2, hp_same (show ly_ths ly_TH 53 = some (.inl (.int, 80, -2147483648, 2147483647)) from rfl) rfl w1 z1 z2, hp_same (show ly_ths ly_TH 54 = some (.inl (.int, 80, -2147483648, 2147483647)) from rfl) rfl w1 z1 z2⟩, fun _ nq => absurd q nq⟩) (fun q h2 z z1 z2 z3 q0 q1 q2 q3 q4 q5 => ⟨⟨z, rfl⟩, rfl, rfl, z1, z2, fun no => no.elim (fun nn => absurd trivial nn) (fun nn => absurd nn q), fun _ _ => ⟨z3, q0, q1, q2, q3, q4, q5⟩⟩)
      simp only [Nat.zero_add] at r2 r3
      exact ⟨r, Or.inr ⟨M2, n', hM2, hl2, hgo⟩, r1, r2, r3, r4⟩
    obtain ⟨r, hrun, ⟨a, r1⟩, r2, r3, rhy, rfr, rf, rg⟩ := go2
    refine hp_call (mi := 206) (pc := 74) (tg := 207) (na := 6) (c := 43) (ci := 7) (st0 := [.int y0, .int y1, .int y2, .int y3, .int y4, .ref 59]) (st := []) (av := [.int y4, .int y3, .int y2, .int y1, .int y0]) hM (by decide +kernel) w1 rfl rfl rfl (Nat.le_of_ble_eq_true rfl) hrun r2 r3 ?_
    rw [r1]
    rw [hp_same (show ly_ths ly_TH 49 = some (.inl (.int, 80, -2147483648, 2147483647)) from rfl) rfl hy w1 w2, hp_same (show ly_ths ly_TH 50 = some (.inl (.int, 80, -2147483648, 2147483647)) from rfl) rfl hy w1 w2, hp_same (show ly_ths ly_TH 51 = some (.inl (.int, 80, -2147483648, 2147483647)) from rfl) rfl hy w1 w2, hp_same (show ly_ths ly_TH 52 = some (.inl (.int, 80, -2147483648, 2147483647)) from rfl) rfl hy w1 w2, hp_same (show ly_ths ly_TH 53 = some (.inl (.int, 80, -2147483648, 2147483647)) from rfl) rfl hy w1 w2, hp_same (show ly_ths ly_TH 54 = some (.inl (.int, 80, -2147483648, 2147483647)) from rfl) rfl hy w1 w2] at rf rg
    refine bjr c hM (by omega) rhy a.toInt a rfl a.le_toInt a.toInt_le j0 (fun h3 z hz t1 t2 t3 => ⟨⟨z, rfl⟩, rfl, rfl, t1, ly_fr_tr (fun r i x _ e => w2 r i x rfl e) (ly_fr_tr rfr (fun r i x _ e => t2 r i x rfl e)), fun no => ?_, fun _ nq => ?_⟩)
    · obtain ⟨e0, e1, e2, e3, e4, e5, e6⟩ := rf (Or.inr (no.elim (fun nn => absurd ok nn) (fun nn => nn)))
      exact ⟨t2 _ _ _ rfl e0, by rw [hp_same (show ly_ths ly_TH 49 = some (.inl (.int, 80, -2147483648, 2147483647)) from rfl) rfl rhy t1 t2]; exact e1, by rw [hp_same (show ly_ths ly_TH 50 = some (.inl (.int, 80, -2147483648, 2147483647)) from rfl) rfl rhy t1 t2]; exact e2, by rw [hp_same (show ly_ths ly_TH 51 = some (.inl (.int, 80, -2147483648, 2147483647)) from rfl) rfl rhy t1 t2]; exact e3, by rw [hp_same (show ly_ths ly_TH 52 = some (.inl (.int, 80, -2147483648, 2147483647)) from rfl) rfl rhy t1 t2]; exact e4, by rw [hp_same (show ly_ths ly_TH 53 = some (.inl (.int, 80, -2147483648, 2147483647)) from rfl) rfl rhy t1 t2]; exact e5, by rw [hp_same (show ly_ths ly_TH 54 = some (.inl (.int, 80, -2147483648, 2147483647)) from rfl) rfl rhy t1 t2]; exact e6⟩
    · obtain ⟨e0, e1, e2, e3, e4, e5, e6⟩ := rg trivial nq
      exact ⟨t2 _ _ _ rfl e0, by rw [hp_same (show ly_ths ly_TH 49 = some (.inl (.int, 80, -2147483648, 2147483647)) from rfl) rfl rhy t1 t2]; exact e1, by rw [hp_same (show ly_ths ly_TH 50 = some (.inl (.int, 80, -2147483648, 2147483647)) from rfl) rfl rhy t1 t2]; exact e2, by rw [hp_same (show ly_ths ly_TH 51 = some (.inl (.int, 80, -2147483648, 2147483647)) from rfl) rfl rhy t1 t2]; exact e3, by rw [hp_same (show ly_ths ly_TH 52 = some (.inl (.int, 80, -2147483648, 2147483647)) from rfl) rfl rhy t1 t2]; exact e4, by rw [hp_same (show ly_ths ly_TH 53 = some (.inl (.int, 80, -2147483648, 2147483647)) from rfl) rfl rhy t1 t2]; exact e5, by rw [hp_same (show ly_ths ly_TH 54 = some (.inl (.int, 80, -2147483648, 2147483647)) from rfl) rfl rhy t1 t2]; exact e6⟩
  obtain ⟨n', r, hgo, r1, r2, r3, r4⟩ := go
  simp only [Nat.zero_add] at r2 r3
  exact ⟨r, Or.inr ⟨M, n', hM, hl, hgo⟩, r1, r2, r3, r4⟩
theorem bkm_run {cst : am_K} {strs : List Nat} {D : Nat} {h : am_H} (c : hp_C cst strs (D)) (hD : (4 : Int) ≤ (D : Int) + 1) (hy : ly_hy m_tt ly_TH h) {xp xs xf xt xw : Int32} {u n g : Int} (u0 : 0 ≤ u) (u1 : u ≤ 120) (ku : ly_hv cst h 19978 0 = some u) (n0 : 0 ≤ n) (n1 : n ≤ 80) (kn : ly_hv cst h 20073 0 = some n) (g0 : 0 ≤ g) (g1 : g ≤ 399) (kg : ly_hv cst h 19977 0 = some g) :
    ∃ r, am_Run cst m_cl m_tt m_P strs sx_bi (D + 1) 386 [.ref 94, .int xp, .int xs, .int xf, .int xt, .int xw] h r ∧ (fun r : am_Q => (∃ a : Int32, r.1 = some (.int a)) ∧ r.2.2.1 = 0 ∧ r.2.2.2 = 0 ∧ ly_hy m_tt ly_TH r.2.1 ∧ ly_fr cst [20073, 39424, 39680, 39936, 40192, 40448] h r.2.1 ∧ bb_M cst h r.2.1 (bb_ok xp.toInt xs.toInt xf.toInt xt.toInt xw.toInt u g) n xp.toInt xs.toInt xf.toInt xt.toInt xw.toInt) r := by
  obtain ⟨M, hM, hl⟩ := hp_M (mi := 386) (k := 6) (by decide +kernel)
  have ap0 : -2147483648 ≤ xp.toInt := xp.le_toInt
  have ap1 : xp.toInt ≤ 2147483647 := xp.toInt_le
  have as0 : -2147483648 ≤ xs.toInt := xs.le_toInt
  have as1 : xs.toInt ≤ 2147483647 := xs.toInt_le
  have af0 : -2147483648 ≤ xf.toInt := xf.le_toInt
  have af1 : xf.toInt ≤ 2147483647 := xf.toInt_le
  have at0 : -2147483648 ≤ xt.toInt := xt.le_toInt
  have at1 : xt.toInt ≤ 2147483647 := xt.toInt_le
  have aw0 : -2147483648 ≤ xw.toInt := xw.le_toInt
  have aw1 : xw.toInt ≤ 2147483647 := xw.toInt_le
  have go : hp_F cst strs (fun r : am_Q => (∃ a : Int32, r.1 = some (.int a)) ∧ r.2.2.1 = 0 ∧ r.2.2.2 = 0 ∧ ly_hy m_tt ly_TH r.2.1 ∧ ly_fr cst [20073, 39424, 39680, 39936, 40192, 40448] h r.2.1 ∧ bb_M cst h r.2.1 (bb_ok xp.toInt xs.toInt xf.toInt xt.toInt xw.toInt u g) n xp.toInt xs.toInt xf.toInt xt.toInt xw.toInt) (D) M 0 (lv_args 0 [.ref 94, .int xp, .int xs, .int xf, .int xt, .int xw]) [] h := by
    have no : ¬ (bb_ok xp.toInt xs.toInt xf.toInt xt.toInt xw.toInt u g) → ∀ (h' : am_H) (w : Int32), w.toInt = -2 → ly_hy m_tt ly_TH h' → ly_fr cst [] h h' → h.length ≤ h'.length → (fun r : am_Q => (∃ a : Int32, r.1 = some (.int a)) ∧ r.2.2.1 = 0 ∧ r.2.2.2 = 0 ∧ ly_hy m_tt ly_TH r.2.1 ∧ ly_fr cst [20073, 39424, 39680, 39936, 40192, 40448] h r.2.1 ∧ bb_M cst h r.2.1 (bb_ok xp.toInt xs.toInt xf.toInt xt.toInt xw.toInt u g) n xp.toInt xs.toInt xf.toInt xt.toInt xw.toInt) (some (.int w), h', 0, 0) := fun nk h' w hw w1 w2 w3 => ⟨⟨w, rfl⟩, rfl, rfl, w1, (fun r i x _ e => w2 r i x rfl e), hp_same (show ly_ths ly_TH 159 = some (.inl (.int, 80, -2147483648, 2147483647)) from rfl) rfl hy w1 w2, fun _ => ⟨w2 _ _ _ rfl kn, hp_same (show ly_ths ly_TH 154 = some (.inl (.int, 80, -2147483648, 2147483647)) from rfl) rfl hy w1 w2, hp_same (show ly_ths ly_TH 155 = some (.inl (.int, 80, -2147483648, 2147483647)) from rfl) rfl hy w1 w2, hp_same (show ly_ths ly_TH 156 = some (.inl (.int, 80, -2147483648, 2147483647)) from rfl) rfl hy w1 w2, hp_same (show ly_ths ly_TH 157 = some (.inl (.int, 80, -2147483648, 2147483647)) from rfl) rfl hy w1 w2, hp_same (show ly_ths ly_TH 158 = some (.inl (.int, 80, -2147483648, 2147483647)) from rfl) rfl hy w1 w2⟩, fun ok => absurd ok nk⟩
    by_cases p0 : xp.toInt ≤ -1
    · exact bk0 c hM (by omega) hy xp.toInt xs.toInt xf.toInt xt.toInt xw.toInt u g (by omega) (by omega) as0 as1 af0 af1 at0 at1 aw0 aw1 u0 u1 g0 g1 ku kg rfl ⟨xp, rfl, rfl⟩ ⟨xs, rfl, rfl⟩ ⟨xf, rfl, rfl⟩ ⟨xt, rfl, rfl⟩ ⟨xw, rfl, rfl⟩ (no (fun k => by have := k.1; omega))
    by_cases p1 : u ≤ xp.toInt
    · exact bk1 c hM (by omega) hy xp.toInt xs.toInt xf.toInt xt.toInt xw.toInt u g (by omega) (by omega) as0 as1 af0 af1 at0 at1 aw0 aw1 u0 u1 g0 g1 (by omega) ku kg rfl ⟨xp, rfl, rfl⟩ ⟨xs, rfl, rfl⟩ ⟨xf, rfl, rfl⟩ ⟨xt, rfl, rfl⟩ ⟨xw, rfl, rfl⟩ (no (fun k => by have := k.2.1; omega))
    by_cases p2 : xs.toInt ≤ -1
    · exact bk2 c hM (by omega) hy xp.toInt xs.toInt xf.toInt xt.toInt xw.toInt u g (by omega) (by omega) (by omega) (by omega) af0 af1 at0 at1 aw0 aw1 u0 u1 g0 g1 (by omega) ku kg rfl ⟨xp, rfl, rfl⟩ ⟨xs, rfl, rfl⟩ ⟨xf, rfl, rfl⟩ ⟨xt, rfl, rfl⟩ ⟨xw, rfl, rfl⟩ (no (fun k => by have := k.2.2.1; omega))
    by_cases p3 : 6 ≤ xs.toInt
    · exact bk3 c hM (by omega) hy xp.toInt xs.toInt xf.toInt xt.toInt xw.toInt u g (by omega) (by omega) (by omega) (by omega) af0 af1 at0 at1 aw0 aw1 u0 u1 g0 g1 (by omega) ku kg rfl ⟨xp, rfl, rfl⟩ ⟨xs, rfl, rfl⟩ ⟨xf, rfl, rfl⟩ ⟨xt, rfl, rfl⟩ ⟨xw, rfl, rfl⟩ (no (fun k => by have := k.2.2.2.1; omega))
    by_cases p4 : xf.toInt ≤ -1
    · exact bk4 c hM (by omega) hy xp.toInt xs.toInt xf.toInt xt.toInt xw.toInt u g (by omega) (by omega) (by omega) (by omega) (by omega) (by omega) at0 at1 aw0 aw1 u0 u1 g0 g1 (by omega) ku kg rfl ⟨xp, rfl, rfl⟩ ⟨xs, rfl, rfl⟩ ⟨xf, rfl, rfl⟩ ⟨xt, rfl, rfl⟩ ⟨xw, rfl, rfl⟩ (no (fun k => by have := k.2.2.2.2.1; omega))
    by_cases p5 : 400 ≤ xf.toInt
    · exact bk5 c hM (by omega) hy xp.toInt xs.toInt xf.toInt xt.toInt xw.toInt u g (by omega) (by omega) (by omega) (by omega) (by omega) (by omega) at0 at1 aw0 aw1 u0 u1 g0 g1 (by omega) ku kg rfl ⟨xp, rfl, rfl⟩ ⟨xs, rfl, rfl⟩ ⟨xf, rfl, rfl⟩ ⟨xt, rfl, rfl⟩ ⟨xw, rfl, rfl⟩ (no (fun k => by have := k.2.2.2.2.2.1; omega))
    by_cases p6 : xt.toInt ≤ -1
    · exact bk6 c hM (by omega) hy xp.toInt xs.toInt xf.toInt xt.toInt xw.toInt u g (by omega) (by omega) (by omega) (by omega) (by omega) (by omega) (by omega) (by omega) aw0 aw1 u0 u1 g0 g1 (by omega) ku kg rfl ⟨xp, rfl, rfl⟩ ⟨xs, rfl, rfl⟩ ⟨xf, rfl, rfl⟩ ⟨xt, rfl, rfl⟩ ⟨xw, rfl, rfl⟩ (no (fun k => by have := k.2.2.2.2.2.2.1; omega))
    by_cases p7 : 400 ≤ xt.toInt
    · exact bk7 c hM (by omega) hy xp.toInt xs.toInt xf.toInt xt.toInt xw.toInt u g (by omega) (by omega) (by omega) (by omega) (by omega) (by omega) (by omega) (by omega) aw0 aw1 u0 u1 g0 g1 (by omega) ku kg rfl ⟨xp, rfl, rfl⟩ ⟨xs, rfl, rfl⟩ ⟨xf, rfl, rfl⟩ ⟨xt, rfl, rfl⟩ ⟨xw, rfl, rfl⟩ (no (fun k => by have := k.2.2.2.2.2.2.2.1; omega))
    by_cases p8 : xt.toInt < xf.toInt
    · exact bk8 c hM (by omega) hy xp.toInt xs.toInt xf.toInt xt.toInt xw.toInt u g (by omega) (by omega) (by omega) (by omega) (by omega) (by omega) (by omega) (by omega) aw0 aw1 u0 u1 g0 g1 (by omega) (by omega) ku kg rfl ⟨xp, rfl, rfl⟩ ⟨xs, rfl, rfl⟩ ⟨xf, rfl, rfl⟩ ⟨xt, rfl, rfl⟩ ⟨xw, rfl, rfl⟩ (no (fun k => by have := k.2.2.2.2.2.2.2.2.1; omega))
    by_cases p9 : xt.toInt < g
    · exact bk9 c hM (by omega) hy xp.toInt xs.toInt xf.toInt xt.toInt xw.toInt u g (by omega) (by omega) (by omega) (by omega) (by omega) (by omega) (by omega) (by omega) aw0 aw1 u0 u1 g0 g1 (by omega) (by omega) (by omega) ku kg rfl ⟨xp, rfl, rfl⟩ ⟨xs, rfl, rfl⟩ ⟨xf, rfl, rfl⟩ ⟨xt, rfl, rfl⟩ ⟨xw, rfl, rfl⟩ (no (fun k => by have := k.2.2.2.2.2.2.2.2.2.1; omega))
    by_cases p10 : xw.toInt ≤ 0
    · exact bka c hM (by omega) hy xp.toInt xs.toInt xf.toInt xt.toInt xw.toInt u g (by omega) (by omega) (by omega) (by omega) (by omega) (by omega) (by omega) (by omega) (by omega) (by omega)  u0 u1 g0 g1 (by omega) (by omega) (by omega) ku kg rfl ⟨xp, rfl, rfl⟩ ⟨xs, rfl, rfl⟩ ⟨xf, rfl, rfl⟩ ⟨xt, rfl, rfl⟩ ⟨xw, rfl, rfl⟩ (no (fun k => by have := k.2.2.2.2.2.2.2.2.2.2.1; omega))
    by_cases p11 : 10000 ≤ xw.toInt
    · exact bkb c hM (by omega) hy xp.toInt xs.toInt xf.toInt xt.toInt xw.toInt u g (by omega) (by omega) (by omega) (by omega) (by omega) (by omega) (by omega) (by omega) (by omega) (by omega)  u0 u1 g0 g1 (by omega) (by omega) (by omega) ku kg rfl ⟨xp, rfl, rfl⟩ ⟨xs, rfl, rfl⟩ ⟨xf, rfl, rfl⟩ ⟨xt, rfl, rfl⟩ ⟨xw, rfl, rfl⟩ (no (fun k => by have := k.2.2.2.2.2.2.2.2.2.2.2; omega))
    have ok : (bb_ok xp.toInt xs.toInt xf.toInt xt.toInt xw.toInt u g) := ⟨by omega, by omega, by omega, by omega, by omega, by omega, by omega, by omega, by omega, by omega, by omega, by omega⟩
    refine bkk c hM (by omega) hy xp.toInt xs.toInt xf.toInt xt.toInt xw.toInt u g (by omega) (by omega) (by omega) (by omega) (by omega) (by omega) (by omega) (by omega) (by omega) (by omega)  u0 u1 g0 g1 (by omega) (by omega) (by omega) ku kg rfl ⟨xp, rfl, rfl⟩ ⟨xs, rfl, rfl⟩ ⟨xf, rfl, rfl⟩ ⟨xt, rfl, rfl⟩ ⟨xw, rfl, rfl⟩ (fun l1 h1 w1 w2 w3 j0 j1 j2 j3 j4 j5 => ?_)
    exact bw_go c hM (by omega) w1 (v := n) xp.le_toInt xp.toInt_le xs.le_toInt xs.toInt_le xf.le_toInt xf.toInt_le xt.le_toInt xt.toInt_le xw.le_toInt xw.toInt_le n0 n1 (w2 _ _ _ rfl kn) j0 j1 j2 j3 j4 j5 (fun q h2 z hz z1 z2 z3 => ⟨⟨z, rfl⟩, rfl, rfl, z1, (fun r i x _ e => z2 r i x rfl (w2 r i x rfl e)), by rw [hp_same (show ly_ths ly_TH 159 = some (.inl (.int, 80, -2147483648, 2147483647)) from rfl) rfl w1 z1 z2, hp_same (show ly_ths ly_TH 159 = some (.inl (.int, 80, -2147483648, 2147483647)) from rfl) rfl hy w1 w2], fun _ => ⟨by rw [q]; exact z3, by rw [hp_same (show ly_ths ly_TH 154 = some (.inl (.int, 80, -2147483648, 2147483647)) from rfl) rfl w1 z1 z2, hp_same (show ly_ths ly_TH 154 = some (.inl (.int, 80, -2147483648, 2147483647)) from rfl) rfl hy w1 w2], by rw [hp_same (show ly_ths ly_TH 155 = some (.inl (.int, 80, -2147483648, 2147483647)) from rfl) rfl w1 z1 z2, hp_same (show ly_ths ly_TH 155 = some (.inl (.int, 80, -2147483648, 2147483647)) from rfl) rfl hy w1 w2], by rw [hp_same (show ly_ths ly_TH 156 = some (.inl (.int, 80, -2147483648, 2147483647)) from rfl) rfl w1 z1 z2, hp_same (show ly_ths ly_TH 156 = some (.inl (.int, 80, -2147483648, 2147483647)) from rfl) rfl hy w1 w2], by rw [hp_same (show ly_ths ly_TH 157 = some (.inl (.int, 80, -2147483648, 2147483647)) from rfl) rfl w1 z1 z2, hp_same (show ly_ths ly_TH 157 = some (.inl (.int, 80, -2147483648, 2147483647)) from rfl) rfl hy w1 w2], by rw [hp_same (show ly_ths ly_TH 158 = some (.inl (.int, 80, -2147483648, 2147483647)) from rfl) rfl w1 z1 z2, hp_same (show ly_ths ly_TH 158 = some (.inl (.int, 80, -2147483648, 2147483647)) from rfl) rfl hy w1 w2]⟩, fun _ nq => absurd q nq⟩) (fun q h2 z z1 z2 z3 q0 q1 q2 q3 q4 => ⟨⟨z, rfl⟩, rfl, rfl, z1, ly_fr_tr (fun r i x _ e => w2 r i x rfl e) z2, by rw [hp_same (show ly_ths ly_TH 159 = some (.inl (.int, 80, -2147483648, 2147483647)) from rfl) rfl w1 z1 z2, hp_same (show ly_ths ly_TH 159 = some (.inl (.int, 80, -2147483648, 2147483647)) from rfl) rfl hy w1 w2], fun no => no.elim (fun nn => absurd ok nn) (fun nn => absurd nn q), fun _ _ => ⟨z3, by rw [q0, hp_same (show ly_ths ly_TH 154 = some (.inl (.int, 80, -2147483648, 2147483647)) from rfl) rfl hy w1 w2], by rw [q1, hp_same (show ly_ths ly_TH 155 = some (.inl (.int, 80, -2147483648, 2147483647)) from rfl) rfl hy w1 w2], by rw [q2, hp_same (show ly_ths ly_TH 156 = some (.inl (.int, 80, -2147483648, 2147483647)) from rfl) rfl hy w1 w2], by rw [q3, hp_same (show ly_ths ly_TH 157 = some (.inl (.int, 80, -2147483648, 2147483647)) from rfl) rfl hy w1 w2], by rw [q4, hp_same (show ly_ths ly_TH 158 = some (.inl (.int, 80, -2147483648, 2147483647)) from rfl) rfl hy w1 w2]⟩⟩)
  obtain ⟨n', r, hgo, r1, r2, r3, r4⟩ := go
  simp only [Nat.zero_add] at r2 r3
  exact ⟨r, Or.inr ⟨M, n', hM, hl, hgo⟩, r1, r2, r3, r4⟩
/-- what bonded answers -/
def bt_a (W H F T Q Z : Int → Option Int) (n x y a : Int) : Prop := (¬ (0 ≤ x ∧ x < n ∧ 0 ≤ y ∧ y ≤ 5) → a = -1) ∧ ((0 ≤ x ∧ x < n ∧ 0 ≤ y ∧ y ≤ 5) → (y = 0 → W x = some a) ∧ (y = 1 → H x = some a) ∧ (y = 2 → F x = some a) ∧ (y = 3 → T x = some a) ∧ (y = 4 → Q x = some a) ∧ (y = 5 → Z x = some a))
theorem bt_uni {W H F T Q Z : Int → Option Int} {n x y a b : Int} (A : bt_a W H F T Q Z n x y a) (B : bt_a W H F T Q Z n x y b) : a = b := by
  by_cases ok : 0 ≤ x ∧ x < n ∧ 0 ≤ y ∧ y ≤ 5
  · obtain ⟨a0, a1, a2, a3, a4, a5⟩ := A.2 ok
    obtain ⟨b0, b1, b2, b3, b4, b5⟩ := B.2 ok
    have : y = 0 ∨ y = 1 ∨ y = 2 ∨ y = 3 ∨ y = 4 ∨ y = 5 := by omega
    rcases this with e | e | e | e | e | e
    · exact Option.some.inj ((a0 e).symm.trans (b0 e))
    · exact Option.some.inj ((a1 e).symm.trans (b1 e))
    · exact Option.some.inj ((a2 e).symm.trans (b2 e))
    · exact Option.some.inj ((a3 e).symm.trans (b3 e))
    · exact Option.some.inj ((a4 e).symm.trans (b4 e))
    · exact Option.some.inj ((a5 e).symm.trans (b5 e))
  · rw [A.1 ok, B.1 ok]
theorem bt_run {cst : am_K} {strs : List Nat} {D : Nat} {h : am_H} (c : hp_C cst strs D) (hD : (4 : Int) ≤ (D : Int) + 1) (hy : ly_hy m_tt ly_TH h) {xx xy : Int32} {n : Int} (n0 : 0 ≤ n) (n1 : n ≤ 80) (kn : ly_hv cst h 11014 0 = some n) :
    ∃ r, am_Run cst m_cl m_tt m_P strs sx_bi (D + 1) 212 [.ref 59, .int xx, .int xy] h r ∧ (dd_Φ cst h (fun a => bt_a (ly_hv cst h 12544) (ly_hv cst h 12800) (ly_hv cst h 13056) (ly_hv cst h 13312) (ly_hv cst h 13568) (ly_hv cst h 13824) n xx.toInt xy.toInt a)) r := by
  obtain ⟨M, hM, hl⟩ := hp_M (mi := 212) (k := 3) (by decide +kernel)
  have a0 := xx.le_toInt
  have a1 := xx.toInt_le
  have b0 := xy.le_toInt
  have b1 := xy.toInt_le
  have go : hp_F cst strs (dd_Φ cst h (fun a => bt_a (ly_hv cst h 12544) (ly_hv cst h 12800) (ly_hv cst h 13056) (ly_hv cst h 13312) (ly_hv cst h 13568) (ly_hv cst h 13824) n xx.toInt xy.toInt a)) D M 0 (lv_args 0 [.ref 59, .int xx, .int xy]) [] h := by
    have no : ¬ (0 ≤ xx.toInt ∧ xx.toInt < n ∧ 0 ≤ xy.toInt ∧ xy.toInt ≤ 5) → ∀ (h' : am_H) (w : Int32), w.toInt = -1 → ly_hy m_tt ly_TH h' → ly_fr cst [] h h' → h.length ≤ h'.length → (dd_Φ cst h (fun a => bt_a (ly_hv cst h 12544) (ly_hv cst h 12800) (ly_hv cst h 13056) (ly_hv cst h 13312) (ly_hv cst h 13568) (ly_hv cst h 13824) n xx.toInt xy.toInt a)) (some (.int w), h', 0, 0) := fun nk h' w hw w1 w2 w3 => ⟨w, rfl, rfl, rfl, w1, w2, fun _ => hw, fun ok => absurd ok nk⟩
    by_cases p1 : xx.toInt ≤ -1
    · exact bt0 c hM hD hy xx.toInt xy.toInt n a0 p1 b0 b1 n0 n1 kn rfl ⟨xx, rfl, rfl⟩ ⟨xy, rfl, rfl⟩ (no (fun k => by omega))
    by_cases p2 : n ≤ xx.toInt
    · exact bt1 c hM hD hy xx.toInt xy.toInt n (by omega) a1 b0 b1 n0 n1 (by omega) kn rfl ⟨xx, rfl, rfl⟩ ⟨xy, rfl, rfl⟩ (no (fun k => by omega))
    by_cases p3 : xy.toInt ≤ -1
    · exact bt2 c hM hD hy xx.toInt xy.toInt n (by omega) (by omega) b0 p3 n0 n1 (by omega) kn rfl ⟨xx, rfl, rfl⟩ ⟨xy, rfl, rfl⟩ (no (fun k => by omega))
    by_cases p4 : 6 ≤ xy.toInt
    · exact bt3 c hM hD hy xx.toInt xy.toInt n (by omega) (by omega) p4 b1 n0 n1 (by omega) kn rfl ⟨xx, rfl, rfl⟩ ⟨xy, rfl, rfl⟩ (no (fun k => by omega))
    have this : xy.toInt = 0 ∨ xy.toInt = 1 ∨ xy.toInt = 2 ∨ xy.toInt = 3 ∨ xy.toInt = 4 ∨ xy.toInt = 5 := by omega
    rcases this with e | e | e | e | e | e
    · obtain ⟨v, kv, v0, v1⟩ := hp_row (cst := cst) (i := xx.toInt) hy (show ly_ths ly_TH 49 = some (.inl (.int, 80, -2147483648, 2147483647)) from rfl) (by omega) (by omega)
      exact bta c hM hD hy xx.toInt n v (by omega) (by omega) n0 n1 v0 v1 (by omega) kn kv rfl ⟨xx, rfl, rfl⟩ ⟨xy, rfl, e⟩ (fun h2 a ha u1 u2 u3 => ⟨a, rfl, rfl, rfl, u1, u2, fun nk => absurd ⟨by omega, by omega, by omega, by omega⟩ nk, fun _ => ⟨fun _ => by rw [ha]; exact kv, fun q => by omega, fun q => by omega, fun q => by omega, fun q => by omega, fun q => by omega⟩⟩)
    · obtain ⟨v, kv, v0, v1⟩ := hp_row (cst := cst) (i := xx.toInt) hy (show ly_ths ly_TH 50 = some (.inl (.int, 80, -2147483648, 2147483647)) from rfl) (by omega) (by omega)
      exact btb c hM hD hy xx.toInt n v (by omega) (by omega) n0 n1 v0 v1 (by omega) kn kv rfl ⟨xx, rfl, rfl⟩ ⟨xy, rfl, e⟩ (fun h2 a ha u1 u2 u3 => ⟨a, rfl, rfl, rfl, u1, u2, fun nk => absurd ⟨by omega, by omega, by omega, by omega⟩ nk, fun _ => ⟨fun q => by omega, fun _ => by rw [ha]; exact kv, fun q => by omega, fun q => by omega, fun q => by omega, fun q => by omega⟩⟩)
    · obtain ⟨v, kv, v0, v1⟩ := hp_row (cst := cst) (i := xx.toInt) hy (show ly_ths ly_TH 51 = some (.inl (.int, 80, -2147483648, 2147483647)) from rfl) (by omega) (by omega)
      exact btc c hM hD hy xx.toInt n v (by omega) (by omega) n0 n1 v0 v1 (by omega) kn kv rfl ⟨xx, rfl, rfl⟩ ⟨xy, rfl, e⟩ (fun h2 a ha u1 u2 u3 => ⟨a, rfl, rfl, rfl, u1, u2, fun nk => absurd ⟨by omega, by omega, by omega, by omega⟩ nk, fun _ => ⟨fun q => by omega, fun q => by omega, fun _ => by rw [ha]; exact kv, fun q => by omega, fun q => by omega, fun q => by omega⟩⟩)
    · obtain ⟨v, kv, v0, v1⟩ := hp_row (cst := cst) (i := xx.toInt) hy (show ly_ths ly_TH 52 = some (.inl (.int, 80, -2147483648, 2147483647)) from rfl) (by omega) (by omega)
      exact btd c hM hD hy xx.toInt n v (by omega) (by omega) n0 n1 v0 v1 (by omega) kn kv rfl ⟨xx, rfl, rfl⟩ ⟨xy, rfl, e⟩ (fun h2 a ha u1 u2 u3 => ⟨a, rfl, rfl, rfl, u1, u2, fun nk => absurd ⟨by omega, by omega, by omega, by omega⟩ nk, fun _ => ⟨fun q => by omega, fun q => by omega, fun q => by omega, fun _ => by rw [ha]; exact kv, fun q => by omega, fun q => by omega⟩⟩)
    · obtain ⟨v, kv, v0, v1⟩ := hp_row (cst := cst) (i := xx.toInt) hy (show ly_ths ly_TH 53 = some (.inl (.int, 80, -2147483648, 2147483647)) from rfl) (by omega) (by omega)
      exact bte c hM hD hy xx.toInt n v (by omega) (by omega) n0 n1 v0 v1 (by omega) kn kv rfl ⟨xx, rfl, rfl⟩ ⟨xy, rfl, e⟩ (fun h2 a ha u1 u2 u3 => ⟨a, rfl, rfl, rfl, u1, u2, fun nk => absurd ⟨by omega, by omega, by omega, by omega⟩ nk, fun _ => ⟨fun q => by omega, fun q => by omega, fun q => by omega, fun q => by omega, fun _ => by rw [ha]; exact kv, fun q => by omega⟩⟩)
    · obtain ⟨v, kv, v0, v1⟩ := hp_row (cst := cst) (i := xx.toInt) hy (show ly_ths ly_TH 54 = some (.inl (.int, 80, -2147483648, 2147483647)) from rfl) (by omega) (by omega)
      exact btf c hM hD hy xx.toInt n v (by omega) (by omega) n0 n1 v0 v1 (by omega) kn kv rfl ⟨xx, rfl, rfl⟩ ⟨xy, rfl, e⟩ (fun h2 a ha u1 u2 u3 => ⟨a, rfl, rfl, rfl, u1, u2, fun nk => absurd ⟨by omega, by omega, by omega, by omega⟩ nk, fun _ => ⟨fun q => by omega, fun q => by omega, fun q => by omega, fun q => by omega, fun q => by omega, fun _ => by rw [ha]; exact kv⟩⟩)
  obtain ⟨n', r, hgo, a, r1, r2, r3, r4⟩ := go
  simp only [Nat.zero_add] at r2 r3
  exact ⟨r, Or.inr ⟨M, n', hM, hl, hgo⟩, a, r1, r2, r3, r4⟩
theorem bz_run {cst : am_K} {strs : List Nat} {D : Nat} {h : am_H} (c : hp_C cst strs D) (hD : (4 : Int) ≤ (D : Int) + 1) (hy : ly_hy m_tt ly_TH h) {xx xy : Int32} {n : Int} (n0 : 0 ≤ n) (n1 : n ≤ 80) (kn : ly_hv cst h 20073 0 = some n) :
    ∃ r, am_Run cst m_cl m_tt m_P strs sx_bi (D + 1) 389 [.ref 94, .int xx, .int xy] h r ∧ (dd_Φ cst h (fun a => bt_a (ly_hv cst h 39424) (ly_hv cst h 39680) (ly_hv cst h 39936) (ly_hv cst h 40192) (ly_hv cst h 40448) (ly_hv cst h 40704) n xx.toInt xy.toInt a)) r := by
  obtain ⟨M, hM, hl⟩ := hp_M (mi := 389) (k := 3) (by decide +kernel)
  have a0 := xx.le_toInt
  have a1 := xx.toInt_le
  have b0 := xy.le_toInt
  have b1 := xy.toInt_le
  have go : hp_F cst strs (dd_Φ cst h (fun a => bt_a (ly_hv cst h 39424) (ly_hv cst h 39680) (ly_hv cst h 39936) (ly_hv cst h 40192) (ly_hv cst h 40448) (ly_hv cst h 40704) n xx.toInt xy.toInt a)) D M 0 (lv_args 0 [.ref 94, .int xx, .int xy]) [] h := by
    have no : ¬ (0 ≤ xx.toInt ∧ xx.toInt < n ∧ 0 ≤ xy.toInt ∧ xy.toInt ≤ 5) → ∀ (h' : am_H) (w : Int32), w.toInt = -1 → ly_hy m_tt ly_TH h' → ly_fr cst [] h h' → h.length ≤ h'.length → (dd_Φ cst h (fun a => bt_a (ly_hv cst h 39424) (ly_hv cst h 39680) (ly_hv cst h 39936) (ly_hv cst h 40192) (ly_hv cst h 40448) (ly_hv cst h 40704) n xx.toInt xy.toInt a)) (some (.int w), h', 0, 0) := fun nk h' w hw w1 w2 w3 => ⟨w, rfl, rfl, rfl, w1, w2, fun _ => hw, fun ok => absurd ok nk⟩
    by_cases p1 : xx.toInt ≤ -1
    · exact bz0 c hM hD hy xx.toInt xy.toInt n a0 p1 b0 b1 n0 n1 kn rfl ⟨xx, rfl, rfl⟩ ⟨xy, rfl, rfl⟩ (no (fun k => by omega))
    by_cases p2 : n ≤ xx.toInt
    · exact bz1 c hM hD hy xx.toInt xy.toInt n (by omega) a1 b0 b1 n0 n1 (by omega) kn rfl ⟨xx, rfl, rfl⟩ ⟨xy, rfl, rfl⟩ (no (fun k => by omega))
    by_cases p3 : xy.toInt ≤ -1
    · exact bz2 c hM hD hy xx.toInt xy.toInt n (by omega) (by omega) b0 p3 n0 n1 (by omega) kn rfl ⟨xx, rfl, rfl⟩ ⟨xy, rfl, rfl⟩ (no (fun k => by omega))
    by_cases p4 : 6 ≤ xy.toInt
    · exact bz3 c hM hD hy xx.toInt xy.toInt n (by omega) (by omega) p4 b1 n0 n1 (by omega) kn rfl ⟨xx, rfl, rfl⟩ ⟨xy, rfl, rfl⟩ (no (fun k => by omega))
    have this : xy.toInt = 0 ∨ xy.toInt = 1 ∨ xy.toInt = 2 ∨ xy.toInt = 3 ∨ xy.toInt = 4 ∨ xy.toInt = 5 := by omega
    rcases this with e | e | e | e | e | e
    · obtain ⟨v, kv, v0, v1⟩ := hp_row (cst := cst) (i := xx.toInt) hy (show ly_ths ly_TH 154 = some (.inl (.int, 80, -2147483648, 2147483647)) from rfl) (by omega) (by omega)
      exact bza c hM hD hy xx.toInt n v (by omega) (by omega) n0 n1 v0 v1 (by omega) kn kv rfl ⟨xx, rfl, rfl⟩ ⟨xy, rfl, e⟩ (fun h2 a ha u1 u2 u3 => ⟨a, rfl, rfl, rfl, u1, u2, fun nk => absurd ⟨by omega, by omega, by omega, by omega⟩ nk, fun _ => ⟨fun _ => by rw [ha]; exact kv, fun q => by omega, fun q => by omega, fun q => by omega, fun q => by omega, fun q => by omega⟩⟩)
    · obtain ⟨v, kv, v0, v1⟩ := hp_row (cst := cst) (i := xx.toInt) hy (show ly_ths ly_TH 155 = some (.inl (.int, 80, -2147483648, 2147483647)) from rfl) (by omega) (by omega)
      exact bzb c hM hD hy xx.toInt n v (by omega) (by omega) n0 n1 v0 v1 (by omega) kn kv rfl ⟨xx, rfl, rfl⟩ ⟨xy, rfl, e⟩ (fun h2 a ha u1 u2 u3 => ⟨a, rfl, rfl, rfl, u1, u2, fun nk => absurd ⟨by omega, by omega, by omega, by omega⟩ nk, fun _ => ⟨fun q => by omega, fun _ => by rw [ha]; exact kv, fun q => by omega, fun q => by omega, fun q => by omega, fun q => by omega⟩⟩)
    · obtain ⟨v, kv, v0, v1⟩ := hp_row (cst := cst) (i := xx.toInt) hy (show ly_ths ly_TH 156 = some (.inl (.int, 80, -2147483648, 2147483647)) from rfl) (by omega) (by omega)
      exact bzc c hM hD hy xx.toInt n v (by omega) (by omega) n0 n1 v0 v1 (by omega) kn kv rfl ⟨xx, rfl, rfl⟩ ⟨xy, rfl, e⟩ (fun h2 a ha u1 u2 u3 => ⟨a, rfl, rfl, rfl, u1, u2, fun nk => absurd ⟨by omega, by omega, by omega, by omega⟩ nk, fun _ => ⟨fun q => by omega, fun q => by omega, fun _ => by rw [ha]; exact kv, fun q => by omega, fun q => by omega, fun q => by omega⟩⟩)
    · obtain ⟨v, kv, v0, v1⟩ := hp_row (cst := cst) (i := xx.toInt) hy (show ly_ths ly_TH 157 = some (.inl (.int, 80, -2147483648, 2147483647)) from rfl) (by omega) (by omega)
      exact bzd c hM hD hy xx.toInt n v (by omega) (by omega) n0 n1 v0 v1 (by omega) kn kv rfl ⟨xx, rfl, rfl⟩ ⟨xy, rfl, e⟩ (fun h2 a ha u1 u2 u3 => ⟨a, rfl, rfl, rfl, u1, u2, fun nk => absurd ⟨by omega, by omega, by omega, by omega⟩ nk, fun _ => ⟨fun q => by omega, fun q => by omega, fun q => by omega, fun _ => by rw [ha]; exact kv, fun q => by omega, fun q => by omega⟩⟩)
    · obtain ⟨v, kv, v0, v1⟩ := hp_row (cst := cst) (i := xx.toInt) hy (show ly_ths ly_TH 158 = some (.inl (.int, 80, -2147483648, 2147483647)) from rfl) (by omega) (by omega)
      exact bze c hM hD hy xx.toInt n v (by omega) (by omega) n0 n1 v0 v1 (by omega) kn kv rfl ⟨xx, rfl, rfl⟩ ⟨xy, rfl, e⟩ (fun h2 a ha u1 u2 u3 => ⟨a, rfl, rfl, rfl, u1, u2, fun nk => absurd ⟨by omega, by omega, by omega, by omega⟩ nk, fun _ => ⟨fun q => by omega, fun q => by omega, fun q => by omega, fun q => by omega, fun _ => by rw [ha]; exact kv, fun q => by omega⟩⟩)
    · obtain ⟨v, kv, v0, v1⟩ := hp_row (cst := cst) (i := xx.toInt) hy (show ly_ths ly_TH 159 = some (.inl (.int, 80, -2147483648, 2147483647)) from rfl) (by omega) (by omega)
      exact bzf c hM hD hy xx.toInt n v (by omega) (by omega) n0 n1 v0 v1 (by omega) kn kv rfl ⟨xx, rfl, rfl⟩ ⟨xy, rfl, e⟩ (fun h2 a ha u1 u2 u3 => ⟨a, rfl, rfl, rfl, u1, u2, fun nk => absurd ⟨by omega, by omega, by omega, by omega⟩ nk, fun _ => ⟨fun q => by omega, fun q => by omega, fun q => by omega, fun q => by omega, fun q => by omega, fun _ => by rw [ha]; exact kv⟩⟩)
  obtain ⟨n', r, hgo, a, r1, r2, r3, r4⟩ := go
  simp only [Nat.zero_add] at r2 r3
  exact ⟨r, Or.inr ⟨M, n', hM, hl, hgo⟩, a, r1, r2, r3, r4⟩
theorem bty_run {cst : am_K} {strs : List Nat} {D : Nat} {h : am_H} (c1 : hp_C cst strs D) (c : hp_C cst strs (D + 1)) (hD : (4 : Int) ≤ (D : Int) + 1) (hy : ly_hy m_tt ly_TH h) {xx xy : Int32} {n : Int} (n0 : 0 ≤ n) (n1 : n ≤ 80) (kn : ly_hv cst h 11014 0 = some n) :
    ∃ r, am_Run cst m_cl m_tt m_P strs sx_bi (D + 1 + 1) 211 [.ref 16, .int xx, .int xy] h r ∧ dd_Φ cst h (fun a => bt_a (ly_hv cst h 12544) (ly_hv cst h 12800) (ly_hv cst h 13056) (ly_hv cst h 13312) (ly_hv cst h 13568) (ly_hv cst h 13824) n xx.toInt xy.toInt a) r := by
  obtain ⟨M, hM, hl⟩ := hp_M (mi := 211) (k := 3) (by decide +kernel)
  have go : hp_F cst strs (dd_Φ cst h (fun a => bt_a (ly_hv cst h 12544) (ly_hv cst h 12800) (ly_hv cst h 13056) (ly_hv cst h 13312) (ly_hv cst h 13568) (ly_hv cst h 13824) n xx.toInt xy.toInt a)) (D + 1) M 0 (lv_args 0 [.ref 16, .int xx, .int xy]) [] h := by
    refine bty c hM (by omega) hy xx.toInt xy.toInt xx.le_toInt xx.toInt_le xy.le_toInt xy.toInt_le rfl ⟨xx, rfl, rfl⟩ ⟨xy, rfl, rfl⟩ (fun l1 h1 y0 y1 f0 f1 w1 w2 w3 j0 => ?_)
    obtain ⟨r, hrun, a, r1, r2, r3, rhy, rfr, ra⟩ := bt_run (xx := y1) (xy := y0) c1 hD w1 n0 n1 (w2 _ _ _ rfl kn)
    refine hp_call (mi := 211) (pc := 6) (tg := 212) (na := 3) (c := 43) (ci := 7) (st0 := [.int y0, .int y1, .ref 59]) (st := []) (av := [.int y1, .int y0]) hM (by decide +kernel) w1 rfl rfl rfl (Nat.le_of_ble_eq_true rfl) hrun r2 r3 ?_
    rw [r1]
    rw [f0, f1, hp_same (show ly_ths ly_TH 49 = some (.inl (.int, 80, -2147483648, 2147483647)) from rfl) rfl hy w1 w2, hp_same (show ly_ths ly_TH 50 = some (.inl (.int, 80, -2147483648, 2147483647)) from rfl) rfl hy w1 w2, hp_same (show ly_ths ly_TH 51 = some (.inl (.int, 80, -2147483648, 2147483647)) from rfl) rfl hy w1 w2, hp_same (show ly_ths ly_TH 52 = some (.inl (.int, 80, -2147483648, 2147483647)) from rfl) rfl hy w1 w2, hp_same (show ly_ths ly_TH 53 = some (.inl (.int, 80, -2147483648, 2147483647)) from rfl) rfl hy w1 w2, hp_same (show ly_ths ly_TH 54 = some (.inl (.int, 80, -2147483648, 2147483647)) from rfl) rfl hy w1 w2] at ra
    exact btz c hM (by omega) rhy a.toInt a rfl a.le_toInt a.toInt_le j0 (fun h3 z hz t1 t2 t3 => ⟨z, rfl, rfl, rfl, t1, ly_fr_tr w2 (ly_fr_tr rfr t2), by rw [hz]; exact ra⟩)
  obtain ⟨n', r, hgo, a, r1, r2, r3, r4⟩ := go
  simp only [Nat.zero_add] at r2 r3
  exact ⟨r, Or.inr ⟨M, n', hM, hl, hgo⟩, a, r1, r2, r3, r4⟩
