/-! PRINTED by wip/p2/hp_bits.py: bits by hand; which acts are begun -/
theorem ab0_k : hp_chk 54 0 2 [(0, (-2147483648), 2147483647), (1, (-2147483648), 2147483647)] [] [(0, .inr (.inr (.inl (some 30)))), (1, .inl (0, [(0, 1)])), (2, .inl (0, [(1, 1)]))] [] [] [] 2 [(5, ([], 2, [(0, (-2147483648), 2147483647), (1, (-2147483648), 2147483647)], [], [(0, .inr (.inr (.inl (some 30)))), (1, .inl (0, [(0, 1)])), (2, .inl (0, [(1, 1)])), (3, .inl (0, [])), (4, .inl (0, []))], [], []))] [] = true := by decide +kernel
theorem ab0 {cst : am_K} {strs : List Nat} {Φ : am_Q → Prop} {D : Nat} {M : am_M} {h : am_H} {l : am_L} (c : hp_C cst strs D) (hM : m_P[54]? = some M) (hD : (2 : Int) ≤ (D : Int) + 1) (hy : ly_hy m_tt ly_TH h) (d k : Int) (b0 : (-2147483648) ≤ d) (t0 : d ≤ 2147483647) (b1 : (-2147483648) ≤ k) (t1 : k ≤ 2147483647) (l0 : hp_a l 0 30) (l1 : hp_i l 1 (d)) (l2 : hp_i l 2 (k)) (e0 : ∀ (l' : am_L) (h' : am_H), ly_hy m_tt ly_TH h' → ly_fr cst [] h h' → h.length ≤ h'.length → hp_a l' 0 30 → hp_i l' 1 (d) → hp_i l' 2 (k) → hp_i l' 3 0 → hp_i l' 4 0 → hp_F cst strs Φ D M 5 l' [] h') : hp_F cst strs Φ D M 0 l [] h := by
  refine hp_arc c hM ab0_k hD [d, k] rfl hy (hp_Bc (z := d) rfl b0 t0 (hp_Bc (z := k) rfl b1 t1 hp_Bn)) hp_Fn hp_Kn (hp_La l0 (hp_Li (z := (0 + (1 * d + 0))) l1 rfl (by omega) (hp_Li (z := (0 + (1 * k + 0))) l2 rfl (by omega) hp_Ln))) trivial ?_ ?_
  · intro p hp ys l' st' h' hys a1 a2 a3 gZ gL gS
    rcases List.mem_cons.mp hp with rfl | hp
    · obtain rfl := hp_y0 hys
      cases hp_gSn gS
      exact e0 l' h' a1 a2 a3 (hp_gLa gL (List.mem_of_getElem? (i := 0) rfl) (by decide)) (hp_gLi (z := (0 + (1 * d + 0))) gL (List.mem_of_getElem? (i := 1) rfl) rfl (by omega)) (hp_gLi (z := (0 + (1 * k + 0))) gL (List.mem_of_getElem? (i := 2) rfl) rfl (by omega)) (hp_gLi (z := (0 + 0)) gL (List.mem_of_getElem? (i := 3) rfl) rfl (by omega)) (hp_gLi (z := (0 + 0)) gL (List.mem_of_getElem? (i := 4) rfl) rfl (by omega))
    cases hp
  · intro p hp ys v h' hys a1 a2 a3 gZ gS
    cases hp
theorem ab1_k : hp_chk 54 5 4 [(0, (-2147483648), 2147483647), (1, (-2147483648), 2147483647), (2, (-2147483648), 2147483647), (3, 0, 30)] [] [(0, .inr (.inr (.inl (some 30)))), (1, .inl (0, [(0, 1)])), (2, .inl (0, [(1, 1)])), (3, .inl (0, [(2, 1)])), (4, .inl (0, [(3, 1)]))] [] [(3584, (0, []), (0, [(3, 1)]))] [] 2 [] [([], 4, [(0, (-2147483648), 2147483647), (1, (-2147483648), 2147483647), (2, (-2147483648), 2147483647), (3, 0, 30)], [], [], [.inl (0, [(2, 1)])], [])] = true := by decide +kernel
theorem ab1 {cst : am_K} {strs : List Nat} {Φ : am_Q → Prop} {D : Nat} {M : am_M} {h : am_H} {l : am_L} (c : hp_C cst strs D) (hM : m_P[54]? = some M) (hD : (2 : Int) ≤ (D : Int) + 1) (hy : ly_hy m_tt ly_TH h) (d k b a : Int) (b0 : (-2147483648) ≤ d) (t0 : d ≤ 2147483647) (b1 : (-2147483648) ≤ k) (t1 : k ≤ 2147483647) (b2 : (-2147483648) ≤ b) (t2 : b ≤ 2147483647) (b3 : 0 ≤ a) (t3 : a ≤ 30) (k0 : ly_hv cst h 3584 0 = some (a)) (l0 : hp_a l 0 30) (l1 : hp_i l 1 (d)) (l2 : hp_i l 2 (k)) (l3 : hp_i l 3 (b)) (l4 : hp_i l 4 (a)) (r0 : ∀ (h' : am_H) (y0 : Int32), y0.toInt = (b) → ly_hy m_tt ly_TH h' → ly_fr cst [] h h' → h.length ≤ h'.length → Φ (some (.int y0), h', 0, 0)) : hp_F cst strs Φ D M 5 l [] h := by
  refine hp_arc c hM ab1_k hD [d, k, b, a] rfl hy (hp_Bc (z := d) rfl b0 t0 (hp_Bc (z := k) rfl b1 t1 (hp_Bc (z := b) rfl b2 t2 (hp_Bc (z := a) rfl b3 t3 hp_Bn)))) hp_Fn (hp_Kc (zi := (0 + 0)) (zv := (0 + (1 * a + 0))) k0 rfl rfl (by omega) (by omega) hp_Kn) (hp_La l0 (hp_Li (z := (0 + (1 * d + 0))) l1 rfl (by omega) (hp_Li (z := (0 + (1 * k + 0))) l2 rfl (by omega) (hp_Li (z := (0 + (1 * b + 0))) l3 rfl (by omega) (hp_Li (z := (0 + (1 * a + 0))) l4 rfl (by omega) hp_Ln))))) trivial ?_ ?_
  · intro p hp ys l' st' h' hys a1 a2 a3 gZ gL gS
    cases hp
  · intro p hp ys v h' hys a1 a2 a3 gZ gS
    rcases List.mem_cons.mp hp with rfl | hp
    · obtain rfl := hp_y0 hys
      cases v with
      | none => cases gS
      | some w =>
        obtain ⟨y0, t0, s0, q0, -⟩ := hp_gSi (z := (0 + (1 * b + 0))) gS rfl
        cases s0
        exact r0 h' y0 (by omega) a1 a2 a3
    cases hp
theorem ab2_k : hp_chk 54 5 6 [(0, (-2147483648), 2147483647), (1, (-2147483648), 2147483647), (2, (-2147483648), 2147483647), (3, 0, 29), (4, 0, 30), (5, (-2147483648), 2147483647)] [((-1), [(3, (-1)), (4, 1)]), ((-1), [(0, (-1)), (5, 1)])] [(0, .inr (.inr (.inl (some 30)))), (1, .inl (0, [(0, 1)])), (2, .inl (0, [(1, 1)])), (3, .inl (0, [(2, 1)])), (4, .inl (0, [(3, 1)]))] [] [(3584, (0, []), (0, [(4, 1)])), (3840, (0, [(3, 1)]), (0, [(5, 1)]))] [] 2 [(5, ([], 6, [(0, (-2147483648), 2147483647), (1, (-2147483648), 2147483647), (2, (-2147483648), 2147483647), (3, 0, 29), (4, 0, 30), (5, (-2147483648), 2147483647)], [], [(0, .inr (.inr (.inl (some 30)))), (1, .inl (0, [(0, 1)])), (2, .inl (0, [(1, 1)])), (3, .inl (0, [(2, 1)])), (4, .inl (1, [(3, 1)]))], [], []))] [] = true := by decide +kernel
theorem ab2 {cst : am_K} {strs : List Nat} {Φ : am_Q → Prop} {D : Nat} {M : am_M} {h : am_H} {l : am_L} (c : hp_C cst strs D) (hM : m_P[54]? = some M) (hD : (2 : Int) ≤ (D : Int) + 1) (hy : ly_hy m_tt ly_TH h) (d k b a n x : Int) (b0 : (-2147483648) ≤ d) (t0 : d ≤ 2147483647) (b1 : (-2147483648) ≤ k) (t1 : k ≤ 2147483647) (b2 : (-2147483648) ≤ b) (t2 : b ≤ 2147483647) (b3 : 0 ≤ a) (t3 : a ≤ 29) (b4 : 0 ≤ n) (t4 : n ≤ 30) (b5 : (-2147483648) ≤ x) (t5 : x ≤ 2147483647) (f0 : 0 ≤ (n - a - 1)) (f1 : 0 ≤ (x - d - 1)) (k0 : ly_hv cst h 3584 0 = some (n)) (k1 : ly_hv cst h 3840 (a) = some (x)) (l0 : hp_a l 0 30) (l1 : hp_i l 1 (d)) (l2 : hp_i l 2 (k)) (l3 : hp_i l 3 (b)) (l4 : hp_i l 4 (a)) (e0 : ∀ (l' : am_L) (h' : am_H), ly_hy m_tt ly_TH h' → ly_fr cst [] h h' → h.length ≤ h'.length → hp_a l' 0 30 → hp_i l' 1 (d) → hp_i l' 2 (k) → hp_i l' 3 (b) → hp_i l' 4 (a + 1) → hp_F cst strs Φ D M 5 l' [] h') : hp_F cst strs Φ D M 5 l [] h := by
  refine hp_arc c hM ab2_k hD [d, k, b, a, n, x] rfl hy (hp_Bc (z := d) rfl b0 t0 (hp_Bc (z := k) rfl b1 t1 (hp_Bc (z := b) rfl b2 t2 (hp_Bc (z := a) rfl b3 t3 (hp_Bc (z := n) rfl b4 t4 (hp_Bc (z := x) rfl b5 t5 hp_Bn)))))) (hp_Fc (z := ((-1) + ((-1) * a + (1 * n + 0)))) rfl (by omega) (hp_Fc (z := ((-1) + ((-1) * d + (1 * x + 0)))) rfl (by omega) hp_Fn)) (hp_Kc (zi := (0 + 0)) (zv := (0 + (1 * n + 0))) k0 rfl rfl (by omega) (by omega) (hp_Kc (zi := (0 + (1 * a + 0))) (zv := (0 + (1 * x + 0))) k1 rfl rfl (by omega) (by omega) hp_Kn)) (hp_La l0 (hp_Li (z := (0 + (1 * d + 0))) l1 rfl (by omega) (hp_Li (z := (0 + (1 * k + 0))) l2 rfl (by omega) (hp_Li (z := (0 + (1 * b + 0))) l3 rfl (by omega) (hp_Li (z := (0 + (1 * a + 0))) l4 rfl (by omega) hp_Ln))))) trivial ?_ ?_
  · intro p hp ys l' st' h' hys a1 a2 a3 gZ gL gS
    rcases List.mem_cons.mp hp with rfl | hp
    · obtain rfl := hp_y0 hys
      cases hp_gSn gS
      exact e0 l' h' a1 a2 a3 (hp_gLa gL (List.mem_of_getElem? (i := 0) rfl) (by decide)) (hp_gLi (z := (0 + (1 * d + 0))) gL (List.mem_of_getElem? (i := 1) rfl) rfl (by omega)) (hp_gLi (z := (0 + (1 * k + 0))) gL (List.mem_of_getElem? (i := 2) rfl) rfl (by omega)) (hp_gLi (z := (0 + (1 * b + 0))) gL (List.mem_of_getElem? (i := 3) rfl) rfl (by omega)) (hp_gLi (z := (1 + (1 * a + 0))) gL (List.mem_of_getElem? (i := 4) rfl) rfl (by omega))
    cases hp
  · intro p hp ys v h' hys a1 a2 a3 gZ gS
    cases hp
theorem ab3_k : hp_chk 54 5 7 [(0, (-2147483648), 2147483647), (1, (-2147483648), 2147483647), (2, (-2147483648), 2147483647), (3, 0, 29), (4, 0, 30), (5, (-2147483648), 2147483647), (6, (-2147483648), 2147483647)] [((-1), [(3, (-1)), (4, 1)]), (0, [(0, 1), (5, (-1))])] [(0, .inr (.inr (.inl (some 30)))), (1, .inl (0, [(0, 1)])), (2, .inl (0, [(1, 1)])), (3, .inl (0, [(2, 1)])), (4, .inl (0, [(3, 1)]))] [] [(3584, (0, []), (0, [(4, 1)])), (3840, (0, [(3, 1)]), (0, [(5, 1)])), (4096, (0, [(3, 1)]), (0, [(6, 1)]))] [] 2 [(33, ([], 7, [(0, (-2147483648), 2147483647), (1, (-2147483648), 2147483647), (2, (-2147483648), 2147483647), (3, 0, 29), (4, 0, 30), (5, (-2147483648), 2147483647), (6, (-2147483648), 2147483647)], [], [(0, .inr (.inr (.inl (some 30)))), (1, .inl (0, [(0, 1)])), (2, .inl (0, [(1, 1)])), (3, .inl (0, [(2, 1)])), (4, .inl (0, [(3, 1)]))], [.inl (0, [(1, 1)]), .inl (0, [(6, 1)])], []))] [] = true := by decide +kernel
theorem ab3 {cst : am_K} {strs : List Nat} {Φ : am_Q → Prop} {D : Nat} {M : am_M} {h : am_H} {l : am_L} (c : hp_C cst strs D) (hM : m_P[54]? = some M) (hD : (2 : Int) ≤ (D : Int) + 1) (hy : ly_hy m_tt ly_TH h) (d k b a n x s : Int) (b0 : (-2147483648) ≤ d) (t0 : d ≤ 2147483647) (b1 : (-2147483648) ≤ k) (t1 : k ≤ 2147483647) (b2 : (-2147483648) ≤ b) (t2 : b ≤ 2147483647) (b3 : 0 ≤ a) (t3 : a ≤ 29) (b4 : 0 ≤ n) (t4 : n ≤ 30) (b5 : (-2147483648) ≤ x) (t5 : x ≤ 2147483647) (b6 : (-2147483648) ≤ s) (t6 : s ≤ 2147483647) (f0 : 0 ≤ (n - a - 1)) (f1 : 0 ≤ (d - x)) (k0 : ly_hv cst h 3584 0 = some (n)) (k1 : ly_hv cst h 3840 (a) = some (x)) (k2 : ly_hv cst h 4096 (a) = some (s)) (l0 : hp_a l 0 30) (l1 : hp_i l 1 (d)) (l2 : hp_i l 2 (k)) (l3 : hp_i l 3 (b)) (l4 : hp_i l 4 (a)) (e0 : ∀ (l' : am_L) (h' : am_H) (y0 : Int32) (y1 : Int32), y0.toInt = (k) → y1.toInt = (s) → ly_hy m_tt ly_TH h' → ly_fr cst [] h h' → h.length ≤ h'.length → hp_a l' 0 30 → hp_i l' 1 (d) → hp_i l' 2 (k) → hp_i l' 3 (b) → hp_i l' 4 (a) → hp_F cst strs Φ D M 33 l' [.int y0, .int y1] h') : hp_F cst strs Φ D M 5 l [] h := by
  refine hp_arc c hM ab3_k hD [d, k, b, a, n, x, s] rfl hy (hp_Bc (z := d) rfl b0 t0 (hp_Bc (z := k) rfl b1 t1 (hp_Bc (z := b) rfl b2 t2 (hp_Bc (z := a) rfl b3 t3 (hp_Bc (z := n) rfl b4 t4 (hp_Bc (z := x) rfl b5 t5 (hp_Bc (z := s) rfl b6 t6 hp_Bn))))))) (hp_Fc (z := ((-1) + ((-1) * a + (1 * n + 0)))) rfl (by omega) (hp_Fc (z := (0 + (1 * d + ((-1) * x + 0)))) rfl (by omega) hp_Fn)) (hp_Kc (zi := (0 + 0)) (zv := (0 + (1 * n + 0))) k0 rfl rfl (by omega) (by omega) (hp_Kc (zi := (0 + (1 * a + 0))) (zv := (0 + (1 * x + 0))) k1 rfl rfl (by omega) (by omega) (hp_Kc (zi := (0 + (1 * a + 0))) (zv := (0 + (1 * s + 0))) k2 rfl rfl (by omega) (by omega) hp_Kn))) (hp_La l0 (hp_Li (z := (0 + (1 * d + 0))) l1 rfl (by omega) (hp_Li (z := (0 + (1 * k + 0))) l2 rfl (by omega) (hp_Li (z := (0 + (1 * b + 0))) l3 rfl (by omega) (hp_Li (z := (0 + (1 * a + 0))) l4 rfl (by omega) hp_Ln))))) trivial ?_ ?_
  · intro p hp ys l' st' h' hys a1 a2 a3 gZ gL gS
    rcases List.mem_cons.mp hp with rfl | hp
    · obtain rfl := hp_y0 hys
      obtain ⟨y0, t0, rfl, q0, g0⟩ := hp_gSi (z := (0 + (1 * k + 0))) gS rfl
      obtain ⟨y1, t1, rfl, q1, g1⟩ := hp_gSi (z := (0 + (1 * s + 0))) g0 rfl
      cases hp_gSn g1
      exact e0 l' h' y0 y1 (by omega) (by omega) a1 a2 a3 (hp_gLa gL (List.mem_of_getElem? (i := 0) rfl) (by decide)) (hp_gLi (z := (0 + (1 * d + 0))) gL (List.mem_of_getElem? (i := 1) rfl) rfl (by omega)) (hp_gLi (z := (0 + (1 * k + 0))) gL (List.mem_of_getElem? (i := 2) rfl) rfl (by omega)) (hp_gLi (z := (0 + (1 * b + 0))) gL (List.mem_of_getElem? (i := 3) rfl) rfl (by omega)) (hp_gLi (z := (0 + (1 * a + 0))) gL (List.mem_of_getElem? (i := 4) rfl) rfl (by omega))
    cases hp
  · intro p hp ys v h' hys a1 a2 a3 gZ gS
    cases hp
theorem ab4_k : hp_chk 54 34 5 [(0, (-2147483648), 2147483647), (1, (-2147483648), 2147483647), (2, (-2147483648), 2147483647), (3, 0, 29), (4, (-2147483648), 2147483647)] [] [(0, .inr (.inr (.inl (some 30)))), (1, .inl (0, [(0, 1)])), (2, .inl (0, [(1, 1)])), (3, .inl (0, [(2, 1)])), (4, .inl (0, [(3, 1)]))] [.inl (0, [(4, 1)])] [] [] 2 [(35, ([], 5, [(0, (-2147483648), 2147483647), (1, (-2147483648), 2147483647), (2, (-2147483648), 2147483647), (3, 0, 29), (4, (-2147483648), 2147483647)], [], [(0, .inr (.inr (.inl (some 30)))), (1, .inl (0, [(0, 1)])), (2, .inl (0, [(1, 1)])), (3, .inl (0, [(2, 1)])), (4, .inl (0, [(3, 1)]))], [.inl (1, []), .inl (0, [(4, 1)])], []))] [] = true := by decide +kernel
theorem ab4 {cst : am_K} {strs : List Nat} {Φ : am_Q → Prop} {D : Nat} {M : am_M} {h : am_H} {l : am_L} (c : hp_C cst strs D) (hM : m_P[54]? = some M) (hD : (2 : Int) ≤ (D : Int) + 1) (hy : ly_hy m_tt ly_TH h) (d k b a v : Int) (x0 : Int32) (hx0 : x0.toInt = (v)) (b0 : (-2147483648) ≤ d) (t0 : d ≤ 2147483647) (b1 : (-2147483648) ≤ k) (t1 : k ≤ 2147483647) (b2 : (-2147483648) ≤ b) (t2 : b ≤ 2147483647) (b3 : 0 ≤ a) (t3 : a ≤ 29) (b4 : (-2147483648) ≤ v) (t4 : v ≤ 2147483647) (l0 : hp_a l 0 30) (l1 : hp_i l 1 (d)) (l2 : hp_i l 2 (k)) (l3 : hp_i l 3 (b)) (l4 : hp_i l 4 (a)) (e0 : ∀ (l' : am_L) (h' : am_H) (y0 : Int32) (y1 : Int32), y0.toInt = 1 → y1.toInt = (v) → ly_hy m_tt ly_TH h' → ly_fr cst [] h h' → h.length ≤ h'.length → hp_a l' 0 30 → hp_i l' 1 (d) → hp_i l' 2 (k) → hp_i l' 3 (b) → hp_i l' 4 (a) → hp_F cst strs Φ D M 35 l' [.int y0, .int y1] h') : hp_F cst strs Φ D M 34 l [.int x0] h := by
  refine hp_arc c hM ab4_k hD [d, k, b, a, v] rfl hy (hp_Bc (z := d) rfl b0 t0 (hp_Bc (z := k) rfl b1 t1 (hp_Bc (z := b) rfl b2 t2 (hp_Bc (z := a) rfl b3 t3 (hp_Bc (z := v) rfl b4 t4 hp_Bn))))) hp_Fn hp_Kn (hp_La l0 (hp_Li (z := (0 + (1 * d + 0))) l1 rfl (by omega) (hp_Li (z := (0 + (1 * k + 0))) l2 rfl (by omega) (hp_Li (z := (0 + (1 * b + 0))) l3 rfl (by omega) (hp_Li (z := (0 + (1 * a + 0))) l4 rfl (by omega) hp_Ln))))) (hp_Si (z := (0 + (1 * v + 0))) rfl (by omega) trivial) ?_ ?_
  · intro p hp ys l' st' h' hys a1 a2 a3 gZ gL gS
    rcases List.mem_cons.mp hp with rfl | hp
    · obtain rfl := hp_y0 hys
      obtain ⟨y0, t0, rfl, q0, g0⟩ := hp_gSi (z := (1 + 0)) gS rfl
      obtain ⟨y1, t1, rfl, q1, g1⟩ := hp_gSi (z := (0 + (1 * v + 0))) g0 rfl
      cases hp_gSn g1
      exact e0 l' h' y0 y1 (by omega) (by omega) a1 a2 a3 (hp_gLa gL (List.mem_of_getElem? (i := 0) rfl) (by decide)) (hp_gLi (z := (0 + (1 * d + 0))) gL (List.mem_of_getElem? (i := 1) rfl) rfl (by omega)) (hp_gLi (z := (0 + (1 * k + 0))) gL (List.mem_of_getElem? (i := 2) rfl) rfl (by omega)) (hp_gLi (z := (0 + (1 * b + 0))) gL (List.mem_of_getElem? (i := 3) rfl) rfl (by omega)) (hp_gLi (z := (0 + (1 * a + 0))) gL (List.mem_of_getElem? (i := 4) rfl) rfl (by omega))
    cases hp
  · intro p hp ys v h' hys a1 a2 a3 gZ gS
    cases hp
theorem ab5_k : hp_chk 54 36 5 [(0, (-2147483648), 2147483647), (1, (-2147483648), 2147483647), (2, (-2147483648), 2147483647), (3, 0, 29), (4, (-2147483648), 2147483647)] [] [(0, .inr (.inr (.inl (some 30)))), (1, .inl (0, [(0, 1)])), (2, .inl (0, [(1, 1)])), (3, .inl (0, [(2, 1)])), (4, .inl (0, [(3, 1)]))] [.inl (0, [(4, 1)])] [(61000, ((-1), [(4, 1)]), (1, []))] [] 2 [(5, ([], 5, [(0, (-2147483648), 2147483647), (1, (-2147483648), 2147483647), (2, (-2147483648), 2147483647), (3, 0, 29), (4, (-2147483648), 2147483647)], [], [(0, .inr (.inr (.inl (some 30)))), (1, .inl (0, [(0, 1)])), (2, .inl (0, [(1, 1)])), (3, .inl (0, [(2, 1)])), (4, .inl (1, [(3, 1)]))], [], []))] [] = true := by decide +kernel
theorem ab5 {cst : am_K} {strs : List Nat} {Φ : am_Q → Prop} {D : Nat} {M : am_M} {h : am_H} {l : am_L} (c : hp_C cst strs D) (hM : m_P[54]? = some M) (hD : (2 : Int) ≤ (D : Int) + 1) (hy : ly_hy m_tt ly_TH h) (d k b a u : Int) (x0 : Int32) (hx0 : x0.toInt = (u)) (b0 : (-2147483648) ≤ d) (t0 : d ≤ 2147483647) (b1 : (-2147483648) ≤ k) (t1 : k ≤ 2147483647) (b2 : (-2147483648) ≤ b) (t2 : b ≤ 2147483647) (b3 : 0 ≤ a) (t3 : a ≤ 29) (b4 : (-2147483648) ≤ u) (t4 : u ≤ 2147483647) (k0 : ly_hv cst h 61000 (u - 1) = some 1) (l0 : hp_a l 0 30) (l1 : hp_i l 1 (d)) (l2 : hp_i l 2 (k)) (l3 : hp_i l 3 (b)) (l4 : hp_i l 4 (a)) (e0 : ∀ (l' : am_L) (h' : am_H), ly_hy m_tt ly_TH h' → ly_fr cst [] h h' → h.length ≤ h'.length → hp_a l' 0 30 → hp_i l' 1 (d) → hp_i l' 2 (k) → hp_i l' 3 (b) → hp_i l' 4 (a + 1) → hp_F cst strs Φ D M 5 l' [] h') : hp_F cst strs Φ D M 36 l [.int x0] h := by
  refine hp_arc c hM ab5_k hD [d, k, b, a, u] rfl hy (hp_Bc (z := d) rfl b0 t0 (hp_Bc (z := k) rfl b1 t1 (hp_Bc (z := b) rfl b2 t2 (hp_Bc (z := a) rfl b3 t3 (hp_Bc (z := u) rfl b4 t4 hp_Bn))))) hp_Fn (hp_Kc (zi := ((-1) + (1 * u + 0))) (zv := (1 + 0)) k0 rfl rfl (by omega) (by omega) hp_Kn) (hp_La l0 (hp_Li (z := (0 + (1 * d + 0))) l1 rfl (by omega) (hp_Li (z := (0 + (1 * k + 0))) l2 rfl (by omega) (hp_Li (z := (0 + (1 * b + 0))) l3 rfl (by omega) (hp_Li (z := (0 + (1 * a + 0))) l4 rfl (by omega) hp_Ln))))) (hp_Si (z := (0 + (1 * u + 0))) rfl (by omega) trivial) ?_ ?_
  · intro p hp ys l' st' h' hys a1 a2 a3 gZ gL gS
    rcases List.mem_cons.mp hp with rfl | hp
    · obtain rfl := hp_y0 hys
      cases hp_gSn gS
      exact e0 l' h' a1 a2 a3 (hp_gLa gL (List.mem_of_getElem? (i := 0) rfl) (by decide)) (hp_gLi (z := (0 + (1 * d + 0))) gL (List.mem_of_getElem? (i := 1) rfl) rfl (by omega)) (hp_gLi (z := (0 + (1 * k + 0))) gL (List.mem_of_getElem? (i := 2) rfl) rfl (by omega)) (hp_gLi (z := (0 + (1 * b + 0))) gL (List.mem_of_getElem? (i := 3) rfl) rfl (by omega)) (hp_gLi (z := (1 + (1 * a + 0))) gL (List.mem_of_getElem? (i := 4) rfl) rfl (by omega))
    cases hp
  · intro p hp ys v h' hys a1 a2 a3 gZ gS
    cases hp
theorem ab6_k : hp_chk 54 36 4 [(0, (-2147483648), 2147483647), (1, (-2147483648), 2147483647), (2, (-2147483648), 2147483647), (3, 0, 29)] [] [(0, .inr (.inr (.inl (some 30)))), (1, .inl (0, [(0, 1)])), (2, .inl (0, [(1, 1)])), (3, .inl (0, [(2, 1)])), (4, .inl (0, [(3, 1)]))] [.inl (1, [])] [] [] 2 [(44, ([], 4, [(0, (-2147483648), 2147483647), (1, (-2147483648), 2147483647), (2, (-2147483648), 2147483647), (3, 0, 29)], [], [(0, .inr (.inr (.inl (some 30)))), (1, .inl (0, [(0, 1)])), (2, .inl (0, [(1, 1)])), (3, .inl (0, [(2, 1)])), (4, .inl (0, [(3, 1)]))], [.inl (0, [(3, 1)]), .inl (1, []), .inl (0, [(2, 1)])], []))] [] = true := by decide +kernel
theorem ab6 {cst : am_K} {strs : List Nat} {Φ : am_Q → Prop} {D : Nat} {M : am_M} {h : am_H} {l : am_L} (c : hp_C cst strs D) (hM : m_P[54]? = some M) (hD : (2 : Int) ≤ (D : Int) + 1) (hy : ly_hy m_tt ly_TH h) (d k b a : Int) (x0 : Int32) (hx0 : x0.toInt = 1) (b0 : (-2147483648) ≤ d) (t0 : d ≤ 2147483647) (b1 : (-2147483648) ≤ k) (t1 : k ≤ 2147483647) (b2 : (-2147483648) ≤ b) (t2 : b ≤ 2147483647) (b3 : 0 ≤ a) (t3 : a ≤ 29) (l0 : hp_a l 0 30) (l1 : hp_i l 1 (d)) (l2 : hp_i l 2 (k)) (l3 : hp_i l 3 (b)) (l4 : hp_i l 4 (a)) (e0 : ∀ (l' : am_L) (h' : am_H) (y0 : Int32) (y1 : Int32) (y2 : Int32), y0.toInt = (a) → y1.toInt = 1 → y2.toInt = (b) → ly_hy m_tt ly_TH h' → ly_fr cst [] h h' → h.length ≤ h'.length → hp_a l' 0 30 → hp_i l' 1 (d) → hp_i l' 2 (k) → hp_i l' 3 (b) → hp_i l' 4 (a) → hp_F cst strs Φ D M 44 l' [.int y0, .int y1, .int y2] h') : hp_F cst strs Φ D M 36 l [.int x0] h := by
  refine hp_arc c hM ab6_k hD [d, k, b, a] rfl hy (hp_Bc (z := d) rfl b0 t0 (hp_Bc (z := k) rfl b1 t1 (hp_Bc (z := b) rfl b2 t2 (hp_Bc (z := a) rfl b3 t3 hp_Bn)))) hp_Fn hp_Kn (hp_La l0 (hp_Li (z := (0 + (1 * d + 0))) l1 rfl (by omega) (hp_Li (z := (0 + (1 * k + 0))) l2 rfl (by omega) (hp_Li (z := (0 + (1 * b + 0))) l3 rfl (by omega) (hp_Li (z := (0 + (1 * a + 0))) l4 rfl (by omega) hp_Ln))))) (hp_Si (z := (1 + 0)) rfl (by omega) trivial) ?_ ?_
  · intro p hp ys l' st' h' hys a1 a2 a3 gZ gL gS
    rcases List.mem_cons.mp hp with rfl | hp
    · obtain rfl := hp_y0 hys
      obtain ⟨y0, t0, rfl, q0, g0⟩ := hp_gSi (z := (0 + (1 * a + 0))) gS rfl
      obtain ⟨y1, t1, rfl, q1, g1⟩ := hp_gSi (z := (1 + 0)) g0 rfl
      obtain ⟨y2, t2, rfl, q2, g2⟩ := hp_gSi (z := (0 + (1 * b + 0))) g1 rfl
      cases hp_gSn g2
      exact e0 l' h' y0 y1 y2 (by omega) (by omega) (by omega) a1 a2 a3 (hp_gLa gL (List.mem_of_getElem? (i := 0) rfl) (by decide)) (hp_gLi (z := (0 + (1 * d + 0))) gL (List.mem_of_getElem? (i := 1) rfl) rfl (by omega)) (hp_gLi (z := (0 + (1 * k + 0))) gL (List.mem_of_getElem? (i := 2) rfl) rfl (by omega)) (hp_gLi (z := (0 + (1 * b + 0))) gL (List.mem_of_getElem? (i := 3) rfl) rfl (by omega)) (hp_gLi (z := (0 + (1 * a + 0))) gL (List.mem_of_getElem? (i := 4) rfl) rfl (by omega))
    cases hp
  · intro p hp ys v h' hys a1 a2 a3 gZ gS
    cases hp
theorem ab7_k : hp_chk 54 46 5 [(0, (-2147483648), 2147483647), (1, (-2147483648), 2147483647), (2, (-2147483648), 2147483647), (3, 0, 29), (4, (-2147483648), 2147483647)] [] [(0, .inr (.inr (.inl (some 30)))), (1, .inl (0, [(0, 1)])), (2, .inl (0, [(1, 1)])), (3, .inl (0, [(2, 1)])), (4, .inl (0, [(3, 1)]))] [.inl (0, [(4, 1)])] [] [] 2 [(5, ([], 5, [(0, (-2147483648), 2147483647), (1, (-2147483648), 2147483647), (2, (-2147483648), 2147483647), (3, 0, 29), (4, (-2147483648), 2147483647)], [], [(0, .inr (.inr (.inl (some 30)))), (1, .inl (0, [(0, 1)])), (2, .inl (0, [(1, 1)])), (3, .inl (0, [(4, 1)])), (4, .inl (1, [(3, 1)]))], [], []))] [] = true := by decide +kernel
theorem ab7 {cst : am_K} {strs : List Nat} {Φ : am_Q → Prop} {D : Nat} {M : am_M} {h : am_H} {l : am_L} (c : hp_C cst strs D) (hM : m_P[54]? = some M) (hD : (2 : Int) ≤ (D : Int) + 1) (hy : ly_hy m_tt ly_TH h) (d k b a cc : Int) (x0 : Int32) (hx0 : x0.toInt = (cc)) (b0 : (-2147483648) ≤ d) (t0 : d ≤ 2147483647) (b1 : (-2147483648) ≤ k) (t1 : k ≤ 2147483647) (b2 : (-2147483648) ≤ b) (t2 : b ≤ 2147483647) (b3 : 0 ≤ a) (t3 : a ≤ 29) (b4 : (-2147483648) ≤ cc) (t4 : cc ≤ 2147483647) (l0 : hp_a l 0 30) (l1 : hp_i l 1 (d)) (l2 : hp_i l 2 (k)) (l3 : hp_i l 3 (b)) (l4 : hp_i l 4 (a)) (e0 : ∀ (l' : am_L) (h' : am_H), ly_hy m_tt ly_TH h' → ly_fr cst [] h h' → h.length ≤ h'.length → hp_a l' 0 30 → hp_i l' 1 (d) → hp_i l' 2 (k) → hp_i l' 3 (cc) → hp_i l' 4 (a + 1) → hp_F cst strs Φ D M 5 l' [] h') : hp_F cst strs Φ D M 46 l [.int x0] h := by
  refine hp_arc c hM ab7_k hD [d, k, b, a, cc] rfl hy (hp_Bc (z := d) rfl b0 t0 (hp_Bc (z := k) rfl b1 t1 (hp_Bc (z := b) rfl b2 t2 (hp_Bc (z := a) rfl b3 t3 (hp_Bc (z := cc) rfl b4 t4 hp_Bn))))) hp_Fn hp_Kn (hp_La l0 (hp_Li (z := (0 + (1 * d + 0))) l1 rfl (by omega) (hp_Li (z := (0 + (1 * k + 0))) l2 rfl (by omega) (hp_Li (z := (0 + (1 * b + 0))) l3 rfl (by omega) (hp_Li (z := (0 + (1 * a + 0))) l4 rfl (by omega) hp_Ln))))) (hp_Si (z := (0 + (1 * cc + 0))) rfl (by omega) trivial) ?_ ?_
  · intro p hp ys l' st' h' hys a1 a2 a3 gZ gL gS
    rcases List.mem_cons.mp hp with rfl | hp
    · obtain rfl := hp_y0 hys
      cases hp_gSn gS
      exact e0 l' h' a1 a2 a3 (hp_gLa gL (List.mem_of_getElem? (i := 0) rfl) (by decide)) (hp_gLi (z := (0 + (1 * d + 0))) gL (List.mem_of_getElem? (i := 1) rfl) rfl (by omega)) (hp_gLi (z := (0 + (1 * k + 0))) gL (List.mem_of_getElem? (i := 2) rfl) rfl (by omega)) (hp_gLi (z := (0 + (1 * cc + 0))) gL (List.mem_of_getElem? (i := 3) rfl) rfl (by omega)) (hp_gLi (z := (1 + (1 * a + 0))) gL (List.mem_of_getElem? (i := 4) rfl) rfl (by omega))
    cases hp
  · intro p hp ys v h' hys a1 a2 a3 gZ gS
    cases hp
theorem ib0_k : hp_chk 286 0 4 [(0, 0, 29), (1, (-2147483648), 2147483647), (2, (-2147483648), 2147483647), (3, (-2147483648), 2147483647)] [((-1), [(1, (-1)), (3, 1)])] [(0, .inr (.inr (.inl (some 94)))), (1, .inl (0, [(0, 1)])), (2, .inl (0, [(1, 1)])), (3, .inl (0, [(2, 1)]))] [] [(22784, (0, [(0, 1)]), (0, [(3, 1)]))] [] 2 [] [([], 4, [(0, 0, 29), (1, (-2147483648), 2147483647), (2, (-2147483648), 2147483647), (3, (-2147483648), 2147483647)], [], [], [.inl (0, [])], [])] = true := by decide +kernel
theorem ib0 {cst : am_K} {strs : List Nat} {Φ : am_Q → Prop} {D : Nat} {M : am_M} {h : am_H} {l : am_L} (c : hp_C cst strs D) (hM : m_P[286]? = some M) (hD : (2 : Int) ≤ (D : Int) + 1) (hy : ly_hy m_tt ly_TH h) (a d k x : Int) (b0 : 0 ≤ a) (t0 : a ≤ 29) (b1 : (-2147483648) ≤ d) (t1 : d ≤ 2147483647) (b2 : (-2147483648) ≤ k) (t2 : k ≤ 2147483647) (b3 : (-2147483648) ≤ x) (t3 : x ≤ 2147483647) (f0 : 0 ≤ (x - d - 1)) (k0 : ly_hv cst h 22784 (a) = some (x)) (l0 : hp_a l 0 94) (l1 : hp_i l 1 (a)) (l2 : hp_i l 2 (d)) (l3 : hp_i l 3 (k)) (r0 : ∀ (h' : am_H) (y0 : Int32), y0.toInt = 0 → ly_hy m_tt ly_TH h' → ly_fr cst [] h h' → h.length ≤ h'.length → Φ (some (.int y0), h', 0, 0)) : hp_F cst strs Φ D M 0 l [] h := by
  refine hp_arc c hM ib0_k hD [a, d, k, x] rfl hy (hp_Bc (z := a) rfl b0 t0 (hp_Bc (z := d) rfl b1 t1 (hp_Bc (z := k) rfl b2 t2 (hp_Bc (z := x) rfl b3 t3 hp_Bn)))) (hp_Fc (z := ((-1) + ((-1) * d + (1 * x + 0)))) rfl (by omega) hp_Fn) (hp_Kc (zi := (0 + (1 * a + 0))) (zv := (0 + (1 * x + 0))) k0 rfl rfl (by omega) (by omega) hp_Kn) (hp_La l0 (hp_Li (z := (0 + (1 * a + 0))) l1 rfl (by omega) (hp_Li (z := (0 + (1 * d + 0))) l2 rfl (by omega) (hp_Li (z := (0 + (1 * k + 0))) l3 rfl (by omega) hp_Ln)))) trivial ?_ ?_
  · intro p hp ys l' st' h' hys a1 a2 a3 gZ gL gS
    cases hp
  · intro p hp ys v h' hys a1 a2 a3 gZ gS
    rcases List.mem_cons.mp hp with rfl | hp
    · obtain rfl := hp_y0 hys
      cases v with
      | none => cases gS
      | some w =>
        obtain ⟨y0, t0, s0, q0, -⟩ := hp_gSi (z := (0 + 0)) gS rfl
        cases s0
        exact r0 h' y0 (by omega) a1 a2 a3
    cases hp
theorem ib1_k : hp_chk 286 0 5 [(0, 0, 29), (1, (-2147483648), 2147483647), (2, (-2147483648), 2147483647), (3, (-2147483648), 2147483647), (4, (-2147483648), 2147483647)] [(0, [(1, 1), (3, (-1))])] [(0, .inr (.inr (.inl (some 94)))), (1, .inl (0, [(0, 1)])), (2, .inl (0, [(1, 1)])), (3, .inl (0, [(2, 1)]))] [] [(22784, (0, [(0, 1)]), (0, [(3, 1)])), (23040, (0, [(0, 1)]), (0, [(4, 1)]))] [] 2 [(17, ([], 5, [(0, 0, 29), (1, (-2147483648), 2147483647), (2, (-2147483648), 2147483647), (3, (-2147483648), 2147483647), (4, (-2147483648), 2147483647)], [], [(0, .inr (.inr (.inl (some 94)))), (1, .inl (0, [(0, 1)])), (2, .inl (0, [(1, 1)])), (3, .inl (0, [(2, 1)]))], [.inl (0, [(2, 1)]), .inl (0, [(4, 1)])], []))] [] = true := by decide +kernel
theorem ib1 {cst : am_K} {strs : List Nat} {Φ : am_Q → Prop} {D : Nat} {M : am_M} {h : am_H} {l : am_L} (c : hp_C cst strs D) (hM : m_P[286]? = some M) (hD : (2 : Int) ≤ (D : Int) + 1) (hy : ly_hy m_tt ly_TH h) (a d k x s : Int) (b0 : 0 ≤ a) (t0 : a ≤ 29) (b1 : (-2147483648) ≤ d) (t1 : d ≤ 2147483647) (b2 : (-2147483648) ≤ k) (t2 : k ≤ 2147483647) (b3 : (-2147483648) ≤ x) (t3 : x ≤ 2147483647) (b4 : (-2147483648) ≤ s) (t4 : s ≤ 2147483647) (f0 : 0 ≤ (d - x)) (k0 : ly_hv cst h 22784 (a) = some (x)) (k1 : ly_hv cst h 23040 (a) = some (s)) (l0 : hp_a l 0 94) (l1 : hp_i l 1 (a)) (l2 : hp_i l 2 (d)) (l3 : hp_i l 3 (k)) (e0 : ∀ (l' : am_L) (h' : am_H) (y0 : Int32) (y1 : Int32), y0.toInt = (k) → y1.toInt = (s) → ly_hy m_tt ly_TH h' → ly_fr cst [] h h' → h.length ≤ h'.length → hp_a l' 0 94 → hp_i l' 1 (a) → hp_i l' 2 (d) → hp_i l' 3 (k) → hp_F cst strs Φ D M 17 l' [.int y0, .int y1] h') : hp_F cst strs Φ D M 0 l [] h := by
  refine hp_arc c hM ib1_k hD [a, d, k, x, s] rfl hy (hp_Bc (z := a) rfl b0 t0 (hp_Bc (z := d) rfl b1 t1 (hp_Bc (z := k) rfl b2 t2 (hp_Bc (z := x) rfl b3 t3 (hp_Bc (z := s) rfl b4 t4 hp_Bn))))) (hp_Fc (z := (0 + (1 * d + ((-1) * x + 0)))) rfl (by omega) hp_Fn) (hp_Kc (zi := (0 + (1 * a + 0))) (zv := (0 + (1 * x + 0))) k0 rfl rfl (by omega) (by omega) (hp_Kc (zi := (0 + (1 * a + 0))) (zv := (0 + (1 * s + 0))) k1 rfl rfl (by omega) (by omega) hp_Kn)) (hp_La l0 (hp_Li (z := (0 + (1 * a + 0))) l1 rfl (by omega) (hp_Li (z := (0 + (1 * d + 0))) l2 rfl (by omega) (hp_Li (z := (0 + (1 * k + 0))) l3 rfl (by omega) hp_Ln)))) trivial ?_ ?_
  · intro p hp ys l' st' h' hys a1 a2 a3 gZ gL gS
    rcases List.mem_cons.mp hp with rfl | hp
    · obtain rfl := hp_y0 hys
      obtain ⟨y0, t0, rfl, q0, g0⟩ := hp_gSi (z := (0 + (1 * k + 0))) gS rfl
      obtain ⟨y1, t1, rfl, q1, g1⟩ := hp_gSi (z := (0 + (1 * s + 0))) g0 rfl
      cases hp_gSn g1
      exact e0 l' h' y0 y1 (by omega) (by omega) a1 a2 a3 (hp_gLa gL (List.mem_of_getElem? (i := 0) rfl) (by decide)) (hp_gLi (z := (0 + (1 * a + 0))) gL (List.mem_of_getElem? (i := 1) rfl) rfl (by omega)) (hp_gLi (z := (0 + (1 * d + 0))) gL (List.mem_of_getElem? (i := 2) rfl) rfl (by omega)) (hp_gLi (z := (0 + (1 * k + 0))) gL (List.mem_of_getElem? (i := 3) rfl) rfl (by omega))
    cases hp
  · intro p hp ys v h' hys a1 a2 a3 gZ gS
    cases hp
theorem ib2_k : hp_chk 286 18 4 [(0, 0, 29), (1, (-2147483648), 2147483647), (2, (-2147483648), 2147483647), (3, (-2147483648), 2147483647)] [] [(0, .inr (.inr (.inl (some 94)))), (1, .inl (0, [(0, 1)])), (2, .inl (0, [(1, 1)])), (3, .inl (0, [(2, 1)]))] [.inl (0, [(3, 1)])] [] [] 2 [(19, ([], 4, [(0, 0, 29), (1, (-2147483648), 2147483647), (2, (-2147483648), 2147483647), (3, (-2147483648), 2147483647)], [], [(0, .inr (.inr (.inl (some 94)))), (1, .inl (0, [(0, 1)])), (2, .inl (0, [(1, 1)])), (3, .inl (0, [(2, 1)]))], [.inl (1, []), .inl (0, [(3, 1)])], []))] [] = true := by decide +kernel
theorem ib2 {cst : am_K} {strs : List Nat} {Φ : am_Q → Prop} {D : Nat} {M : am_M} {h : am_H} {l : am_L} (c : hp_C cst strs D) (hM : m_P[286]? = some M) (hD : (2 : Int) ≤ (D : Int) + 1) (hy : ly_hy m_tt ly_TH h) (a d k v : Int) (x0 : Int32) (hx0 : x0.toInt = (v)) (b0 : 0 ≤ a) (t0 : a ≤ 29) (b1 : (-2147483648) ≤ d) (t1 : d ≤ 2147483647) (b2 : (-2147483648) ≤ k) (t2 : k ≤ 2147483647) (b3 : (-2147483648) ≤ v) (t3 : v ≤ 2147483647) (l0 : hp_a l 0 94) (l1 : hp_i l 1 (a)) (l2 : hp_i l 2 (d)) (l3 : hp_i l 3 (k)) (e0 : ∀ (l' : am_L) (h' : am_H) (y0 : Int32) (y1 : Int32), y0.toInt = 1 → y1.toInt = (v) → ly_hy m_tt ly_TH h' → ly_fr cst [] h h' → h.length ≤ h'.length → hp_a l' 0 94 → hp_i l' 1 (a) → hp_i l' 2 (d) → hp_i l' 3 (k) → hp_F cst strs Φ D M 19 l' [.int y0, .int y1] h') : hp_F cst strs Φ D M 18 l [.int x0] h := by
  refine hp_arc c hM ib2_k hD [a, d, k, v] rfl hy (hp_Bc (z := a) rfl b0 t0 (hp_Bc (z := d) rfl b1 t1 (hp_Bc (z := k) rfl b2 t2 (hp_Bc (z := v) rfl b3 t3 hp_Bn)))) hp_Fn hp_Kn (hp_La l0 (hp_Li (z := (0 + (1 * a + 0))) l1 rfl (by omega) (hp_Li (z := (0 + (1 * d + 0))) l2 rfl (by omega) (hp_Li (z := (0 + (1 * k + 0))) l3 rfl (by omega) hp_Ln)))) (hp_Si (z := (0 + (1 * v + 0))) rfl (by omega) trivial) ?_ ?_
  · intro p hp ys l' st' h' hys a1 a2 a3 gZ gL gS
    rcases List.mem_cons.mp hp with rfl | hp
    · obtain rfl := hp_y0 hys
      obtain ⟨y0, t0, rfl, q0, g0⟩ := hp_gSi (z := (1 + 0)) gS rfl
      obtain ⟨y1, t1, rfl, q1, g1⟩ := hp_gSi (z := (0 + (1 * v + 0))) g0 rfl
      cases hp_gSn g1
      exact e0 l' h' y0 y1 (by omega) (by omega) a1 a2 a3 (hp_gLa gL (List.mem_of_getElem? (i := 0) rfl) (by decide)) (hp_gLi (z := (0 + (1 * a + 0))) gL (List.mem_of_getElem? (i := 1) rfl) rfl (by omega)) (hp_gLi (z := (0 + (1 * d + 0))) gL (List.mem_of_getElem? (i := 2) rfl) rfl (by omega)) (hp_gLi (z := (0 + (1 * k + 0))) gL (List.mem_of_getElem? (i := 3) rfl) rfl (by omega))
    cases hp
  · intro p hp ys v h' hys a1 a2 a3 gZ gS
    cases hp
theorem ib3_k : hp_chk 286 20 4 [(0, 0, 29), (1, (-2147483648), 2147483647), (2, (-2147483648), 2147483647), (3, (-2147483648), 2147483647)] [] [(0, .inr (.inr (.inl (some 94)))), (1, .inl (0, [(0, 1)])), (2, .inl (0, [(1, 1)])), (3, .inl (0, [(2, 1)]))] [.inl (0, [(3, 1)])] [(61000, ((-1), [(3, 1)]), (1, []))] [] 2 [] [([], 4, [(0, 0, 29), (1, (-2147483648), 2147483647), (2, (-2147483648), 2147483647), (3, (-2147483648), 2147483647)], [], [], [.inl (0, [])], [])] = true := by decide +kernel
theorem ib3 {cst : am_K} {strs : List Nat} {Φ : am_Q → Prop} {D : Nat} {M : am_M} {h : am_H} {l : am_L} (c : hp_C cst strs D) (hM : m_P[286]? = some M) (hD : (2 : Int) ≤ (D : Int) + 1) (hy : ly_hy m_tt ly_TH h) (a d k u : Int) (x0 : Int32) (hx0 : x0.toInt = (u)) (b0 : 0 ≤ a) (t0 : a ≤ 29) (b1 : (-2147483648) ≤ d) (t1 : d ≤ 2147483647) (b2 : (-2147483648) ≤ k) (t2 : k ≤ 2147483647) (b3 : (-2147483648) ≤ u) (t3 : u ≤ 2147483647) (k0 : ly_hv cst h 61000 (u - 1) = some 1) (l0 : hp_a l 0 94) (l1 : hp_i l 1 (a)) (l2 : hp_i l 2 (d)) (l3 : hp_i l 3 (k)) (r0 : ∀ (h' : am_H) (y0 : Int32), y0.toInt = 0 → ly_hy m_tt ly_TH h' → ly_fr cst [] h h' → h.length ≤ h'.length → Φ (some (.int y0), h', 0, 0)) : hp_F cst strs Φ D M 20 l [.int x0] h := by
  refine hp_arc c hM ib3_k hD [a, d, k, u] rfl hy (hp_Bc (z := a) rfl b0 t0 (hp_Bc (z := d) rfl b1 t1 (hp_Bc (z := k) rfl b2 t2 (hp_Bc (z := u) rfl b3 t3 hp_Bn)))) hp_Fn (hp_Kc (zi := ((-1) + (1 * u + 0))) (zv := (1 + 0)) k0 rfl rfl (by omega) (by omega) hp_Kn) (hp_La l0 (hp_Li (z := (0 + (1 * a + 0))) l1 rfl (by omega) (hp_Li (z := (0 + (1 * d + 0))) l2 rfl (by omega) (hp_Li (z := (0 + (1 * k + 0))) l3 rfl (by omega) hp_Ln)))) (hp_Si (z := (0 + (1 * u + 0))) rfl (by omega) trivial) ?_ ?_
  · intro p hp ys l' st' h' hys a1 a2 a3 gZ gL gS
    cases hp
  · intro p hp ys v h' hys a1 a2 a3 gZ gS
    rcases List.mem_cons.mp hp with rfl | hp
    · obtain rfl := hp_y0 hys
      cases v with
      | none => cases gS
      | some w =>
        obtain ⟨y0, t0, s0, q0, -⟩ := hp_gSi (z := (0 + 0)) gS rfl
        cases s0
        exact r0 h' y0 (by omega) a1 a2 a3
    cases hp
theorem ib4_k : hp_chk 286 20 3 [(0, 0, 29), (1, (-2147483648), 2147483647), (2, (-2147483648), 2147483647)] [] [(0, .inr (.inr (.inl (some 94)))), (1, .inl (0, [(0, 1)])), (2, .inl (0, [(1, 1)])), (3, .inl (0, [(2, 1)]))] [.inl (1, [])] [] [] 2 [] [([], 3, [(0, 0, 29), (1, (-2147483648), 2147483647), (2, (-2147483648), 2147483647)], [], [], [.inl (1, [])], [])] = true := by decide +kernel
theorem ib4 {cst : am_K} {strs : List Nat} {Φ : am_Q → Prop} {D : Nat} {M : am_M} {h : am_H} {l : am_L} (c : hp_C cst strs D) (hM : m_P[286]? = some M) (hD : (2 : Int) ≤ (D : Int) + 1) (hy : ly_hy m_tt ly_TH h) (a d k : Int) (x0 : Int32) (hx0 : x0.toInt = 1) (b0 : 0 ≤ a) (t0 : a ≤ 29) (b1 : (-2147483648) ≤ d) (t1 : d ≤ 2147483647) (b2 : (-2147483648) ≤ k) (t2 : k ≤ 2147483647) (l0 : hp_a l 0 94) (l1 : hp_i l 1 (a)) (l2 : hp_i l 2 (d)) (l3 : hp_i l 3 (k)) (r0 : ∀ (h' : am_H) (y0 : Int32), y0.toInt = 1 → ly_hy m_tt ly_TH h' → ly_fr cst [] h h' → h.length ≤ h'.length → Φ (some (.int y0), h', 0, 0)) : hp_F cst strs Φ D M 20 l [.int x0] h := by
  refine hp_arc c hM ib4_k hD [a, d, k] rfl hy (hp_Bc (z := a) rfl b0 t0 (hp_Bc (z := d) rfl b1 t1 (hp_Bc (z := k) rfl b2 t2 hp_Bn))) hp_Fn hp_Kn (hp_La l0 (hp_Li (z := (0 + (1 * a + 0))) l1 rfl (by omega) (hp_Li (z := (0 + (1 * d + 0))) l2 rfl (by omega) (hp_Li (z := (0 + (1 * k + 0))) l3 rfl (by omega) hp_Ln)))) (hp_Si (z := (1 + 0)) rfl (by omega) trivial) ?_ ?_
  · intro p hp ys l' st' h' hys a1 a2 a3 gZ gL gS
    cases hp
  · intro p hp ys v h' hys a1 a2 a3 gZ gS
    rcases List.mem_cons.mp hp with rfl | hp
    · obtain rfl := hp_y0 hys
      cases v with
      | none => cases gS
      | some w =>
        obtain ⟨y0, t0, s0, q0, -⟩ := hp_gSi (z := (1 + 0)) gS rfl
        cases s0
        exact r0 h' y0 (by omega) a1 a2 a3
    cases hp
noncomputable def btq_is_ishr (mi pc : Nat) : Bool := match sx_ch 16 mi sx_T with
  | some m => Nat.beq m.1 mi && (match sx_find pc m.2.2.2.2 with
    | some (.ishr, _) => true
    | _ => false)
  | none => false
theorem btq_ishr {cst : am_K} {strs : List Nat} {Φ : am_Q → Prop} {D : Nat} {M : am_M} {mi pc : Nat} {h : am_H} {l : am_L} {st : List Value} {x y : Int32} (hM : m_P[mi]? = some M) (hI : btq_is_ishr mi pc = true) (k : hp_F cst strs Φ D M (pc + 1) l (.int (x >>> (y &&& 31)) :: st) h) : hp_F cst strs Φ D M pc l (.int y :: .int x :: st) h := by
  unfold btq_is_ishr at hI
  split at hI
  case h_2 => cases hI
  rename_i m hm
  rw [Bool.and_eq_true, sx_beqn] at hI
  obtain ⟨c0, hI⟩ := hI
  split at hI
  case h_2 => cases hI
  rename_i X hX
  obtain ⟨M', hM', hmok, -⟩ := sx_tok_m mi m hm c0
  rw [hM] at hM'
  cases hM'
  have hfind := hmok.2.2 _ _ hX
  have hs : am_s cst m_cl m_tt .ishr X pc l (.int y :: .int x :: st) h = some (pc + 1, l, .int (x >>> (y &&& 31)) :: st, h) := rfl
  exact sx_Fin_step rfl (fun n r hgo => ⟨_, X, hfind, Or.inl ⟨_, hs, hgo⟩⟩) k
noncomputable def btq_is_ishl (mi pc : Nat) : Bool := match sx_ch 16 mi sx_T with
  | some m => Nat.beq m.1 mi && (match sx_find pc m.2.2.2.2 with
    | some (.ishl, _) => true
    | _ => false)
  | none => false
theorem btq_ishl {cst : am_K} {strs : List Nat} {Φ : am_Q → Prop} {D : Nat} {M : am_M} {mi pc : Nat} {h : am_H} {l : am_L} {st : List Value} {x y : Int32} (hM : m_P[mi]? = some M) (hI : btq_is_ishl mi pc = true) (k : hp_F cst strs Φ D M (pc + 1) l (.int (x <<< (y &&& 31)) :: st) h) : hp_F cst strs Φ D M pc l (.int y :: .int x :: st) h := by
  unfold btq_is_ishl at hI
  split at hI
  case h_2 => cases hI
  rename_i m hm
  rw [Bool.and_eq_true, sx_beqn] at hI
  obtain ⟨c0, hI⟩ := hI
  split at hI
  case h_2 => cases hI
  rename_i X hX
  obtain ⟨M', hM', hmok, -⟩ := sx_tok_m mi m hm c0
  rw [hM] at hM'
  cases hM'
  have hfind := hmok.2.2 _ _ hX
  have hs : am_s cst m_cl m_tt .ishl X pc l (.int y :: .int x :: st) h = some (pc + 1, l, .int (x <<< (y &&& 31)) :: st, h) := rfl
  exact sx_Fin_step rfl (fun n r hgo => ⟨_, X, hfind, Or.inl ⟨_, hs, hgo⟩⟩) k
noncomputable def btq_is_iand (mi pc : Nat) : Bool := match sx_ch 16 mi sx_T with
  | some m => Nat.beq m.1 mi && (match sx_find pc m.2.2.2.2 with
    | some (.iand, _) => true
    | _ => false)
  | none => false
theorem btq_iand {cst : am_K} {strs : List Nat} {Φ : am_Q → Prop} {D : Nat} {M : am_M} {mi pc : Nat} {h : am_H} {l : am_L} {st : List Value} {x y : Int32} (hM : m_P[mi]? = some M) (hI : btq_is_iand mi pc = true) (k : hp_F cst strs Φ D M (pc + 1) l (.int (x &&& y) :: st) h) : hp_F cst strs Φ D M pc l (.int y :: .int x :: st) h := by
  unfold btq_is_iand at hI
  split at hI
  case h_2 => cases hI
  rename_i m hm
  rw [Bool.and_eq_true, sx_beqn] at hI
  obtain ⟨c0, hI⟩ := hI
  split at hI
  case h_2 => cases hI
  rename_i X hX
  obtain ⟨M', hM', hmok, -⟩ := sx_tok_m mi m hm c0
  rw [hM] at hM'
  cases hM'
  have hfind := hmok.2.2 _ _ hX
  have hs : am_s cst m_cl m_tt .iand X pc l (.int y :: .int x :: st) h = some (pc + 1, l, .int (x &&& y) :: st, h) := rfl
  exact sx_Fin_step rfl (fun n r hgo => ⟨_, X, hfind, Or.inl ⟨_, hs, hgo⟩⟩) k
noncomputable def btq_is_ior (mi pc : Nat) : Bool := match sx_ch 16 mi sx_T with
  | some m => Nat.beq m.1 mi && (match sx_find pc m.2.2.2.2 with
    | some (.ior, _) => true
    | _ => false)
  | none => false
theorem btq_ior {cst : am_K} {strs : List Nat} {Φ : am_Q → Prop} {D : Nat} {M : am_M} {mi pc : Nat} {h : am_H} {l : am_L} {st : List Value} {x y : Int32} (hM : m_P[mi]? = some M) (hI : btq_is_ior mi pc = true) (k : hp_F cst strs Φ D M (pc + 1) l (.int (x ||| y) :: st) h) : hp_F cst strs Φ D M pc l (.int y :: .int x :: st) h := by
  unfold btq_is_ior at hI
  split at hI
  case h_2 => cases hI
  rename_i m hm
  rw [Bool.and_eq_true, sx_beqn] at hI
  obtain ⟨c0, hI⟩ := hI
  split at hI
  case h_2 => cases hI
  rename_i X hX
  obtain ⟨M', hM', hmok, -⟩ := sx_tok_m mi m hm c0
  rw [hM] at hM'
  cases hM'
  have hfind := hmok.2.2 _ _ hX
  have hs : am_s cst m_cl m_tt .ior X pc l (.int y :: .int x :: st) h = some (pc + 1, l, .int (x ||| y) :: st, h) := rfl
  exact sx_Fin_step rfl (fun n r hgo => ⟨_, X, hfind, Or.inl ⟨_, hs, hgo⟩⟩) k
/-- the bit i -/
def btq_b (x : Int32) (i : Nat) : Bool := x.toBitVec.getLsbD i
theorem btq_ext {x y : Int32} (h : ∀ i, i < 32 → btq_b x i = btq_b y i) : x = y := Int32.toBitVec_inj.mp (BitVec.eq_of_getLsbD_eq (fun i hi => h i hi))
theorem btq_bor (x y : Int32) (i : Nat) : btq_b (x ||| y) i = (btq_b x i || btq_b y i) := by
  unfold btq_b
  rw [Int32.toBitVec_or, BitVec.getLsbD_or]
theorem btq_band (x y : Int32) (i : Nat) : btq_b (x &&& y) i = (btq_b x i && btq_b y i) := by
  unfold btq_b
  rw [Int32.toBitVec_and, BitVec.getLsbD_and]
theorem btq_0 (i : Nat) : btq_b 0 i = false := BitVec.getLsbD_zero
theorem btq_1 : ∀ i, i < 32 → btq_b 1 i = decide (i = 0) := by decide +kernel
theorem btq_n : ∀ n, n < 32 → (Int32.ofNat n).toInt = (n : Int) := by decide +kernel
theorem btq_s : ∀ n, n < 32 → ((Int32.ofNat n &&& 31).toBitVec.smod 32).toNat = n := by decide +kernel
theorem btq_k {k : Int32} {n : Nat} (e : k.toInt = (n : Int)) (hn : n < 32) : k = Int32.ofNat n := Int32.toInt_inj.mp (by rw [e, btq_n n hn])
theorem btq_shl {k : Int32} {n : Nat} (e : k.toInt = (n : Int)) (hn : n < 32) (x : Int32) {i : Nat} (hi : i < 32) : btq_b (x <<< (k &&& 31)) i = (decide (n ≤ i) && btq_b x (i - n)) := by
  rw [btq_k e hn]
  unfold btq_b
  rw [Int32.toBitVec_shiftLeft]
  show (x.toBitVec <<< ((Int32.ofNat n &&& 31).toBitVec.smod 32).toNat).getLsbD i = _
  rw [btq_s n hn, BitVec.getLsbD_shiftLeft]
  rcases Nat.lt_or_ge i n with h | h
  · simp [h, Nat.not_le.mpr h]
  · simp [hi, h, Nat.not_lt.mpr h]
theorem btq_shr {k : Int32} {n : Nat} (e : k.toInt = (n : Int)) (hn : n < 32) (x : Int32) {i : Nat} (hi : i < 32) : btq_b (x >>> (k &&& 31)) i = if n + i < 32 then btq_b x (n + i) else btq_b x 31 := by
  rw [btq_k e hn]
  unfold btq_b
  rw [Int32.toBitVec_shiftRight]
  show (x.toBitVec.sshiftRight ((Int32.ofNat n &&& 31).toBitVec.smod 32).toNat).getLsbD i = _
  rw [btq_s n hn, BitVec.getLsbD_sshiftRight, BitVec.msb_eq_getLsbD_last]
  simp [hi]
/-- x >> n & 1 -/
theorem btq_at {k : Int32} {n : Nat} (e : k.toInt = (n : Int)) (hn : n < 32) (x : Int32) : (x >>> (k &&& 31)) &&& 1 = bif btq_b x n then 1 else 0 := by
  refine btq_ext (fun i hi => ?_)
  rw [btq_band, btq_1 i hi, btq_shr e hn x hi]
  by_cases z : i = 0
  · subst z
    rw [Nat.add_zero, if_pos hn]
    cases btq_b x n <;> rfl
  · rw [decide_eq_false z, Bool.and_false]
    cases btq_b x n
    · exact (btq_0 i).symm
    · show false = btq_b 1 i
      rw [btq_1 i hi, decide_eq_false z]
/-- b | 1 << n -/
theorem btq_set {k : Int32} {n : Nat} (e : k.toInt = (n : Int)) (hn : n < 32) (x : Int32) {i : Nat} (hi : i < 32) : btq_b (x ||| ((1 : Int32) <<< (k &&& 31))) i = (btq_b x i || decide (i = n)) := by
  rw [btq_bor, btq_shl e hn 1 hi]
  by_cases z : n ≤ i
  · rw [decide_eq_true z, Bool.true_and, btq_1 (i - n) (by omega)]
    by_cases y : i = n
    · rw [decide_eq_true (show i - n = 0 by omega), decide_eq_true y]
    · rw [decide_eq_false (show ¬ i - n = 0 by omega), decide_eq_false y]
  · rw [decide_eq_false z, Bool.false_and, decide_eq_false (show ¬ i = n by omega)]
/-- s >> k & 1, as both work it out -/
def btq_g (s k : Int) : Int := ((Int32.ofInt s >>> (Int32.ofInt k &&& 31)) &&& 1).toInt
theorem btq_go {x y : Int32} : ((x >>> (y &&& 31)) &&& 1).toInt = btq_g x.toInt y.toInt := by
  unfold btq_g
  rw [Int32.ofInt_toInt, Int32.ofInt_toInt]
/-- an act is begun on the day d and holds in the shire k -/
def bgn (d k : Int) (x : rX) : Bool := decide (x.1 ≤ d) && decide (btq_g x.2.1 k = 1)
theorem bgn_d {d k : Int} {x : rX} (h : d < x.1) : bgn d k x = false := by
  unfold bgn
  rw [decide_eq_false (by omega), Bool.false_and]
theorem bgn_t {d k : Int} {x : rX} (h : x.1 ≤ d) (g : btq_g x.2.1 k = 1) : bgn d k x = true := by
  unfold bgn
  rw [decide_eq_true h, decide_eq_true g]
  rfl
theorem bgn_f {d k : Int} {x : rX} (g : ¬ btq_g x.2.1 k = 1) : bgn d k x = false := by
  unfold bgn
  rw [decide_eq_false g, Bool.and_false]
/-- isBegun of the reference -/
theorem ib_run {cst : am_K} {strs : List Nat} {D : Nat} {h : am_H} (c : hp_C cst strs D) (hD : 1 ≤ D) (hy : ly_hy m_tt ly_TH h) {X : List rX} (I : rA cst h X) (x30 : X.length ≤ 30) {a : Nat} (ha : a < X.length) {xa xd xk : Int32} (ea : xa.toInt = (a : Int)) :
    ∃ r, am_Run cst m_cl m_tt m_P strs sx_bi (D + 1) 286 [.ref 94, .int xa, .int xd, .int xk] h r ∧ (fun r : am_Q => ∃ v : Int32, r.1 = some (.int v) ∧ r.2.2.1 = 0 ∧ r.2.2.2 = 0 ∧ ly_hy m_tt ly_TH r.2.1 ∧ ly_fr cst [] h r.2.1 ∧ v.toInt = bif bgn xd.toInt xk.toInt (X[a]) then 1 else 0) r := by
  obtain ⟨M, hM, hl⟩ := hp_M (mi := 286) (k := 4) (by decide +kernel)
  have bd : -2147483648 ≤ xd.toInt := xd.le_toInt
  have bd' : xd.toInt ≤ 2147483647 := xd.toInt_le
  have bk : -2147483648 ≤ xk.toInt := xk.le_toInt
  have bk' : xk.toInt ≤ 2147483647 := xk.toInt_le
  have k1 : ly_hv cst h 22784 (a : Int) = some (X[a]).1 := (I.2 a ha).1.1
  have k2 : ly_hv cst h 23040 (a : Int) = some (X[a]).2.1 := (I.2 a ha).1.2.1
  obtain ⟨u, ku, ul, uh⟩ := hp_row (cst := cst) (i := (a : Int)) hy (show ly_ths ly_TH 89 = some (.inl (.int, 31, -2147483648, 2147483647)) from rfl) (by omega) (by omega)
  have ku : ly_hv cst h 22784 (a : Int) = some u := ku
  rw [k1] at ku
  have eu := Option.some.inj ku
  obtain ⟨w, kw, wl, wh⟩ := hp_row (cst := cst) (i := (a : Int)) hy (show ly_ths ly_TH 90 = some (.inl (.int, 31, -2147483648, 2147483647)) from rfl) (by omega) (by omega)
  have kw : ly_hv cst h 23040 (a : Int) = some w := kw
  rw [k2] at kw
  have ew := Option.some.inj kw
  have go : hp_F cst strs (fun r : am_Q => ∃ v : Int32, r.1 = some (.int v) ∧ r.2.2.1 = 0 ∧ r.2.2.2 = 0 ∧ ly_hy m_tt ly_TH r.2.1 ∧ ly_fr cst [] h r.2.1 ∧ v.toInt = bif bgn xd.toInt xk.toInt (X[a]) then 1 else 0) D M 0 (lv_args 0 [.ref 94, .int xa, .int xd, .int xk]) [] h := by
    by_cases q : xd.toInt < (X[a]).1
    · exact ib0 c hM (by omega) hy (a : Int) xd.toInt xk.toInt (X[a]).1 (by omega) (by omega) bd bd' bk bk' (by omega) (by omega) (by omega) k1 rfl ⟨xa, rfl, ea⟩ ⟨xd, rfl, rfl⟩ ⟨xk, rfl, rfl⟩ (fun h2 v hv u1 u2 u3 => ⟨v, rfl, rfl, rfl, u1, u2, by rw [bgn_d q, hv]; rfl⟩)
    refine ib1 c hM (by omega) hy (a : Int) xd.toInt xk.toInt (X[a]).1 (X[a]).2.1 (by omega) (by omega) bd bd' bk bk' (by omega) (by omega) (by omega) (by omega) (by omega) k1 k2 rfl ⟨xa, rfl, ea⟩ ⟨xd, rfl, rfl⟩ ⟨xk, rfl, rfl⟩ (fun l1 h1 y0 y1 f0 f1 u1 u2 u3 g0 g1 g2 g3 => ?_)
    refine btq_ishr hM (by decide +kernel) ?_
    refine ib2 c hM (by omega) u1 (a : Int) xd.toInt xk.toInt (y1 >>> (y0 &&& 31)).toInt (y1 >>> (y0 &&& 31)) rfl (by omega) (by omega) bd bd' bk bk' (Int32.le_toInt _) (Int32.toInt_le _) g0 g1 g2 g3 (fun l2 h2 z0 z1 e0 e1 v1 v2 v3 m0 m1 m2 m3 => ?_)
    have ez : z1 &&& z0 = (y1 >>> (y0 &&& 31)) &&& 1 := by
      rw [Int32.toInt_inj.mp e1, Int32.toInt_inj.mp (show z0.toInt = (1 : Int32).toInt from e0)]
    refine btq_iand hM (by decide +kernel) ?_
    rw [ez]
    have eg : ((y1 >>> (y0 &&& 31)) &&& 1).toInt = btq_g (X[a]).2.1 xk.toInt := by rw [btq_go, f0, f1]
    by_cases q2 : btq_g (X[a]).2.1 xk.toInt = 1
    · exact ib4 c hM (by omega) v1 (a : Int) xd.toInt xk.toInt ((y1 >>> (y0 &&& 31)) &&& 1) (by rw [eg, q2]) (by omega) (by omega) bd bd' bk bk' m0 m1 m2 m3 (fun h3 v hv w1 w2 w3 => ⟨v, rfl, rfl, rfl, w1, ly_fr_tr u2 (ly_fr_tr v2 w2), by rw [bgn_t (by omega) q2, hv]; rfl⟩)
    · exact ib3 c hM (by omega) v1 (a : Int) xd.toInt xk.toInt ((y1 >>> (y0 &&& 31)) &&& 1).toInt ((y1 >>> (y0 &&& 31)) &&& 1) rfl (by omega) (by omega) bd bd' bk bk' (Int32.le_toInt _) (Int32.toInt_le _) (hp_ne (by rw [eg]; omega)) m0 m1 m2 m3 (fun h3 v hv w1 w2 w3 => ⟨v, rfl, rfl, rfl, w1, ly_fr_tr u2 (ly_fr_tr v2 w2), by rw [bgn_f q2, hv]; rfl⟩)
  obtain ⟨n', r, hgo, v, r1, r2, r3, r4⟩ := go
  simp only [Nat.zero_add] at r2 r3
  exact ⟨r, Or.inr ⟨M, n', hM, hl, hgo⟩, v, r1, r2, r3, r4⟩
/-- the acts below m that are begun, as bits -/
def bgs (d k : Int) (X : List rX) (m : Nat) (b : Int32) : Prop := (∀ i (hi : i < X.length), i < m → btq_b b i = bgn d k (X[i])) ∧ ∀ i, m ≤ i → i < 32 → btq_b b i = false
theorem bgs_0 {d k : Int} {X : List rX} {b : Int32} (e : b.toInt = 0) : bgs d k X 0 b := by
  have z : b = 0 := Int32.toInt_inj.mp e
  subst z
  exact ⟨fun i hi hm => absurd hm (Nat.not_lt_zero _), fun i _ _ => btq_0 i⟩
theorem bgs_n {d k : Int} {X : List rX} {m : Nat} {b : Int32} (B : bgs d k X m b) (hm : m < X.length) (m32 : m < 32) (n : bgn d k (X[m]) = false) : bgs d k X (m + 1) b := by
  refine ⟨fun i hi h9 => ?_, fun i h9 h32 => B.2 i (by omega) h32⟩
  by_cases e : i = m
  · subst e
    rw [n]
    exact B.2 i (Nat.le_refl _) m32
  · exact B.1 i hi (by omega)
theorem bgs_y {d k : Int} {X : List rX} {m : Nat} {b x : Int32} (B : bgs d k X m b) (hm : m < X.length) (m32 : m < 32) (ex : x.toInt = (m : Int)) (n : bgn d k (X[m]) = true) : bgs d k X (m + 1) (b ||| ((1 : Int32) <<< (x &&& 31))) := by
  refine ⟨fun i hi h9 => ?_, fun i h9 h32 => ?_⟩
  · rw [btq_set ex m32 b (by omega)]
    by_cases e : i = m
    · subst e
      rw [n, decide_eq_true rfl, Bool.or_true]
    · rw [decide_eq_false e, Bool.or_false]
      exact B.1 i hi (by omega)
  · rw [btq_set ex m32 b h32, decide_eq_false (by omega), Bool.or_false]
    exact B.2 i (by omega) h32
set_option maxRecDepth 8000 in
theorem ab_lp {cst : am_K} {strs : List Nat} {D : Nat} {M : am_M} {h0 : am_H} (c : hp_C cst strs D) (hM : m_P[54]? = some M) (hD : 1 ≤ D) {X : List rX} {i0 : List Int} (I : LC cst h0 X i0) (x30 : X.length ≤ 30) {xd xk : Int32} : ∀ (Q : Nat) (h : am_H) (l : am_L) (a : Nat) (b : Int32), X.length - a < Q → a ≤ X.length → ly_hy m_tt ly_TH h → ly_fr cst [] h0 h → bgs xd.toInt xk.toInt X a b → hp_a l 0 30 → hp_i l 1 xd.toInt → hp_i l 2 xk.toInt → hp_i l 3 b.toInt → hp_i l 4 (a : Int) → hp_F cst strs (fun r : am_Q => ∃ v : Int32, r.1 = some (.int v) ∧ r.2.2.1 = 0 ∧ r.2.2.2 = 0 ∧ ly_hy m_tt ly_TH r.2.1 ∧ ly_fr cst [] h0 r.2.1 ∧ bgs xd.toInt xk.toInt X X.length v) D M 5 l [] h := by
  have bd : -2147483648 ≤ xd.toInt := xd.le_toInt
  have bd' : xd.toInt ≤ 2147483647 := xd.toInt_le
  have bk : -2147483648 ≤ xk.toInt := xk.le_toInt
  have bk' : xk.toInt ≤ 2147483647 := xk.toInt_le
  intro Q
  induction Q with
  | zero => intro h l a b hN; omega
  | succ Q ih =>
    intro h l a b hN ha hy fr B l0 l1 l2 l3 l4
    have kA : ly_hv cst h 3584 0 = some (X.length : Int) := fr _ _ _ rfl I.1.1
    have bb : -2147483648 ≤ b.toInt := b.le_toInt
    have bb' : b.toInt ≤ 2147483647 := b.toInt_le
    by_cases z : a = X.length
    · subst z
      exact ab1 c hM (by omega) hy xd.toInt xk.toInt b.toInt (X.length : Int) bd bd' bk bk' bb bb' (by omega) (by omega) kA l0 l1 l2 l3 l4 (fun h2 v hv u1 u2 u3 => ⟨v, rfl, rfl, rfl, u1, ly_fr_tr fr u2, by rw [Int32.toInt_inj.mp hv]; exact B⟩)
    have hl : a < X.length := by omega
    have k1 : ly_hv cst h 3840 (a : Int) = some (X[a]).1 := fr _ _ _ rfl (I.2.1 a hl).1
    have k2 : ly_hv cst h 4096 (a : Int) = some (X[a]).2.1 := fr _ _ _ rfl (I.2.1 a hl).2
    obtain ⟨u, ku, ul, uh⟩ := hp_row (cst := cst) (i := (a : Int)) hy (show ly_ths ly_TH 15 = some (.inl (.int, 30, -2147483648, 2147483647)) from rfl) (by omega) (by omega)
    have ku : ly_hv cst h 3840 (a : Int) = some u := ku
    rw [k1] at ku
    have eu := Option.some.inj ku
    obtain ⟨w, kw, wl, wh⟩ := hp_row (cst := cst) (i := (a : Int)) hy (show ly_ths ly_TH 16 = some (.inl (.int, 30, -2147483648, 2147483647)) from rfl) (by omega) (by omega)
    have kw : ly_hv cst h 4096 (a : Int) = some w := kw
    rw [k2] at kw
    have ew := Option.some.inj kw
    have nx : ((a + 1 : Nat) : Int) = (a : Int) + 1 := by omega
    by_cases q : xd.toInt < (X[a]).1
    · exact ab2 c hM (by omega) hy xd.toInt xk.toInt b.toInt (a : Int) (X.length : Int) (X[a]).1 bd bd' bk bk' bb bb' (by omega) (by omega) (by omega) (by omega) (by omega) (by omega) (by omega) (by omega) kA k1 l0 l1 l2 l3 l4 (fun l1' h1 u1 u2 u3 g0 g1 g2 g3 g4 => ih h1 l1' (a + 1) b (by omega) (by omega) u1 (ly_fr_tr fr u2) (bgs_n B hl (by omega) (bgn_d q)) g0 g1 g2 g3 (by rw [nx]; exact g4))
    refine ab3 c hM (by omega) hy xd.toInt xk.toInt b.toInt (a : Int) (X.length : Int) (X[a]).1 (X[a]).2.1 bd bd' bk bk' bb bb' (by omega) (by omega) (by omega) (by omega) (by omega) (by omega) (by omega) (by omega) (by omega) (by omega) kA k1 k2 l0 l1 l2 l3 l4 (fun l1' h1 y0 y1 f0 f1 u1 u2 u3 g0 g1 g2 g3 g4 => ?_)
    refine btq_ishr hM (by decide +kernel) ?_
    refine ab4 c hM (by omega) u1 xd.toInt xk.toInt b.toInt (a : Int) (y1 >>> (y0 &&& 31)).toInt (y1 >>> (y0 &&& 31)) rfl bd bd' bk bk' bb bb' (by omega) (by omega) (Int32.le_toInt _) (Int32.toInt_le _) g0 g1 g2 g3 g4 (fun l2' h2 z0 z1 e0 e1 v1 v2 v3 m0 m1 m2 m3 m4 => ?_)
    have ez : z1 &&& z0 = (y1 >>> (y0 &&& 31)) &&& 1 := by
      rw [Int32.toInt_inj.mp e1, Int32.toInt_inj.mp (show z0.toInt = (1 : Int32).toInt from e0)]
    refine btq_iand hM (by decide +kernel) ?_
    rw [ez]
    have eg : ((y1 >>> (y0 &&& 31)) &&& 1).toInt = btq_g (X[a]).2.1 xk.toInt := by rw [btq_go, f0, f1]
    have fr2 : ly_fr cst [] h0 h2 := ly_fr_tr fr (ly_fr_tr u2 v2)
    by_cases q2 : btq_g (X[a]).2.1 xk.toInt = 1
    rotate_left
    · exact ab5 c hM (by omega) v1 xd.toInt xk.toInt b.toInt (a : Int) ((y1 >>> (y0 &&& 31)) &&& 1).toInt ((y1 >>> (y0 &&& 31)) &&& 1) rfl bd bd' bk bk' bb bb' (by omega) (by omega) (Int32.le_toInt _) (Int32.toInt_le _) (hp_ne (by rw [eg]; omega)) m0 m1 m2 m3 m4 (fun l3' h3 w1 w2 w3 o0 o1 o2 o3 o4 => ih h3 l3' (a + 1) b (by omega) (by omega) w1 (ly_fr_tr fr2 w2) (bgs_n B hl (by omega) (bgn_f q2)) o0 o1 o2 o3 (by rw [nx]; exact o4))
    refine ab6 c hM (by omega) v1 xd.toInt xk.toInt b.toInt (a : Int) ((y1 >>> (y0 &&& 31)) &&& 1) (by rw [eg, q2]) bd bd' bk bk' bb bb' (by omega) (by omega) m0 m1 m2 m3 m4 (fun l3' h3 p0 p1 p2 s0 s1 s2 w1 w2 w3 o0 o1 o2 o3 o4 => ?_)
    refine btq_ishl hM (by decide +kernel) ?_
    refine btq_ior hM (by decide +kernel) ?_
    have e1' : p1 = 1 := Int32.toInt_inj.mp s1
    have e2' : p2 = b := Int32.toInt_inj.mp s2
    rw [e1', e2']
    exact ab7 c hM (by omega) w1 xd.toInt xk.toInt b.toInt (a : Int) (b ||| ((1 : Int32) <<< (p0 &&& 31))).toInt (b ||| ((1 : Int32) <<< (p0 &&& 31))) rfl bd bd' bk bk' bb bb' (by omega) (by omega) (Int32.le_toInt _) (Int32.toInt_le _) o0 o1 o2 o3 o4 (fun l4' h4 x1 x2 x3 r0 r1 r2 r3 r4 => ih h4 l4' (a + 1) (b ||| ((1 : Int32) <<< (p0 &&& 31))) (by omega) (by omega) x1 (ly_fr_tr fr2 (ly_fr_tr w2 x2)) (bgs_y B hl (by omega) s0 (bgn_t (by omega) q2)) r0 r1 r2 r3 (by rw [nx]; exact r4))
/-- actsBegun of the class -/
theorem ab_run {cst : am_K} {strs : List Nat} {D : Nat} {h0 : am_H} (c : hp_C cst strs D) (hD : 1 ≤ D) (hy : ly_hy m_tt ly_TH h0) {X : List rX} {i0 : List Int} (I : LC cst h0 X i0) (x30 : X.length ≤ 30) {xd xk : Int32} :
    ∃ r, am_Run cst m_cl m_tt m_P strs sx_bi (D + 1) 54 [.ref 30, .int xd, .int xk] h0 r ∧ (fun r : am_Q => ∃ v : Int32, r.1 = some (.int v) ∧ r.2.2.1 = 0 ∧ r.2.2.2 = 0 ∧ ly_hy m_tt ly_TH r.2.1 ∧ ly_fr cst [] h0 r.2.1 ∧ bgs xd.toInt xk.toInt X X.length v) r := by
  obtain ⟨M, hM, hl⟩ := hp_M (mi := 54) (k := 3) (by decide +kernel)
  have go : hp_F cst strs (fun r : am_Q => ∃ v : Int32, r.1 = some (.int v) ∧ r.2.2.1 = 0 ∧ r.2.2.2 = 0 ∧ ly_hy m_tt ly_TH r.2.1 ∧ ly_fr cst [] h0 r.2.1 ∧ bgs xd.toInt xk.toInt X X.length v) D M 0 (lv_args 0 [.ref 30, .int xd, .int xk]) [] h0 := ab0 c hM (by omega) hy xd.toInt xk.toInt xd.le_toInt xd.toInt_le xk.le_toInt xk.toInt_le rfl ⟨xd, rfl, rfl⟩ ⟨xk, rfl, rfl⟩ (fun l1 h1 u1 u2 u3 g0 g1 g2 g3 g4 => ab_lp c hM hD I x30 (X.length + 1) h1 l1 0 0 (by omega) (by omega) u1 u2 (bgs_0 rfl) g0 g1 g2 g3 g4)
  obtain ⟨n', r, hgo, v, r1, r2, r3, r4⟩ := go
  simp only [Nat.zero_add] at r2 r3
  exact ⟨r, Or.inr ⟨M, n', hM, hl, hgo⟩, v, r1, r2, r3, r4⟩
