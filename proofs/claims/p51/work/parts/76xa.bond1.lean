/-! PRINTED by wip/p2/hp_bond.py: bonds run out: class and reference, exactly -/
theorem bx0_k : hp_chk 32 0 1 [(0, 0, 399)] [] [(0, .inr (.inr (.inl (some 59)))), (1, .inl (0, [(0, 1)])), (2, .inr (.inr (.inl (some 22))))] [] [] [] 2 [(2, ([], 1, [(0, 0, 399)], [], [(0, .inr (.inr (.inl (some 59)))), (1, .inl (0, [(0, 1)])), (2, .inr (.inr (.inl (some 22)))), (3, .inl (0, []))], [], []))] [] = true := by decide +kernel
theorem bx0 {cst : am_K} {strs : List Nat} {Φ : am_Q → Prop} {D : Nat} {M : am_M} {h : am_H} {l : am_L} (c : hp_C cst strs D) (hM : m_P[32]? = some M) (hD : (2 : Int) ≤ (D : Int) + 1) (hy : ly_hy m_tt ly_TH h) (g : Int) (b0 : 0 ≤ g) (t0 : g ≤ 399) (l0 : hp_a l 0 59) (l1 : hp_i l 1 (g)) (l2 : hp_a l 2 22) (e0 : ∀ (l' : am_L) (h' : am_H), ly_hy m_tt ly_TH h' → ly_fr cst [] h h' → h.length ≤ h'.length → hp_a l' 0 59 → hp_i l' 1 (g) → hp_a l' 2 22 → hp_i l' 3 0 → hp_F cst strs Φ D M 2 l' [] h') : hp_F cst strs Φ D M 0 l [] h := by
  refine hp_arc c hM bx0_k hD [g] rfl hy (hp_Bc (z := g) rfl b0 t0 hp_Bn) hp_Fn hp_Kn (hp_La l0 (hp_Li (z := (0 + (1 * g + 0))) l1 rfl (by omega) (hp_La l2 hp_Ln))) trivial ?_ ?_
  · intro p hp ys l' st' h' hys a1 a2 a3 gZ gL gS
    rcases List.mem_cons.mp hp with rfl | hp
    · obtain rfl := hp_y0 hys
      cases hp_gSn gS
      exact e0 l' h' a1 a2 a3 (hp_gLa gL (List.mem_of_getElem? (i := 0) rfl) (by decide)) (hp_gLi (z := (0 + (1 * g + 0))) gL (List.mem_of_getElem? (i := 1) rfl) rfl (by omega)) (hp_gLa gL (List.mem_of_getElem? (i := 2) rfl) (by decide)) (hp_gLi (z := (0 + 0)) gL (List.mem_of_getElem? (i := 3) rfl) rfl (by omega))
    cases hp
  · intro p hp ys v h' hys a1 a2 a3 gZ gS
    cases hp
theorem bxa_k : hp_chk 32 2 4 [(0, 0, 399), (1, 0, 80), (2, 0, 79), (3, (-2147483648), 2147483647)] [((-1), [(1, 1), (2, (-1))])] [(0, .inr (.inr (.inl (some 59)))), (1, .inl (0, [(0, 1)])), (2, .inr (.inr (.inl (some 22)))), (3, .inl (0, [(2, 1)]))] [] [(11014, (0, []), (0, [(1, 1)])), (13824, (0, [(2, 1)]), (0, [(3, 1)])), (61000, (0, [(3, 1)]), (1, []))] [] 2 [(2, ([], 4, [(0, 0, 399), (1, 0, 80), (2, 0, 79), (3, (-2147483648), 2147483647)], [], [(0, .inr (.inr (.inl (some 59)))), (1, .inl (0, [(0, 1)])), (2, .inr (.inr (.inl (some 22)))), (3, .inl (1, [(2, 1)]))], [], []))] [] = true := by decide +kernel
theorem bxa {cst : am_K} {strs : List Nat} {Φ : am_Q → Prop} {D : Nat} {M : am_M} {h : am_H} {l : am_L} (c : hp_C cst strs D) (hM : m_P[32]? = some M) (hD : (2 : Int) ≤ (D : Int) + 1) (hy : ly_hy m_tt ly_TH h) (g n i a : Int) (b0 : 0 ≤ g) (t0 : g ≤ 399) (b1 : 0 ≤ n) (t1 : n ≤ 80) (b2 : 0 ≤ i) (t2 : i ≤ 79) (b3 : (-2147483648) ≤ a) (t3 : a ≤ 2147483647) (f0 : 0 ≤ (n - i - 1)) (k0 : ly_hv cst h 11014 0 = some (n)) (k1 : ly_hv cst h 13824 (i) = some (a)) (k2 : ly_hv cst h 61000 (a) = some 1) (l0 : hp_a l 0 59) (l1 : hp_i l 1 (g)) (l2 : hp_a l 2 22) (l3 : hp_i l 3 (i)) (e0 : ∀ (l' : am_L) (h' : am_H), ly_hy m_tt ly_TH h' → ly_fr cst [] h h' → h.length ≤ h'.length → hp_a l' 0 59 → hp_i l' 1 (g) → hp_a l' 2 22 → hp_i l' 3 (i + 1) → hp_F cst strs Φ D M 2 l' [] h') : hp_F cst strs Φ D M 2 l [] h := by
  refine hp_arc c hM bxa_k hD [g, n, i, a] rfl hy (hp_Bc (z := g) rfl b0 t0 (hp_Bc (z := n) rfl b1 t1 (hp_Bc (z := i) rfl b2 t2 (hp_Bc (z := a) rfl b3 t3 hp_Bn)))) (hp_Fc (z := ((-1) + (1 * n + ((-1) * i + 0)))) rfl (by omega) hp_Fn) (hp_Kc (zi := (0 + 0)) (zv := (0 + (1 * n + 0))) k0 rfl rfl (by omega) (by omega) (hp_Kc (zi := (0 + (1 * i + 0))) (zv := (0 + (1 * a + 0))) k1 rfl rfl (by omega) (by omega) (hp_Kc (zi := (0 + (1 * a + 0))) (zv := (1 + 0)) k2 rfl rfl (by omega) (by omega) hp_Kn))) (hp_La l0 (hp_Li (z := (0 + (1 * g + 0))) l1 rfl (by omega) (hp_La l2 (hp_Li (z := (0 + (1 * i + 0))) l3 rfl (by omega) hp_Ln)))) trivial ?_ ?_
  · intro p hp ys l' st' h' hys a1 a2 a3 gZ gL gS
    rcases List.mem_cons.mp hp with rfl | hp
    · obtain rfl := hp_y0 hys
      cases hp_gSn gS
      exact e0 l' h' a1 a2 a3 (hp_gLa gL (List.mem_of_getElem? (i := 0) rfl) (by decide)) (hp_gLi (z := (0 + (1 * g + 0))) gL (List.mem_of_getElem? (i := 1) rfl) rfl (by omega)) (hp_gLa gL (List.mem_of_getElem? (i := 2) rfl) (by decide)) (hp_gLi (z := (1 + (1 * i + 0))) gL (List.mem_of_getElem? (i := 3) rfl) rfl (by omega))
    cases hp
  · intro p hp ys v h' hys a1 a2 a3 gZ gS
    cases hp
theorem bxb_k : hp_chk 32 2 4 [(0, 0, 399), (1, 0, 80), (2, 0, 79), (3, (-2147483648), 2147483647)] [((-1), [(1, 1), (2, (-1))]), (0, [(0, (-1)), (3, 1)])] [(0, .inr (.inr (.inl (some 59)))), (1, .inl (0, [(0, 1)])), (2, .inr (.inr (.inl (some 22)))), (3, .inl (0, [(2, 1)]))] [] [(11014, (0, []), (0, [(1, 1)])), (13824, (0, [(2, 1)]), (0, [])), (13312, (0, [(2, 1)]), (0, [(3, 1)]))] [] 2 [(2, ([], 4, [(0, 0, 399), (1, 0, 80), (2, 0, 79), (3, (-2147483648), 2147483647)], [], [(0, .inr (.inr (.inl (some 59)))), (1, .inl (0, [(0, 1)])), (2, .inr (.inr (.inl (some 22)))), (3, .inl (1, [(2, 1)]))], [], []))] [] = true := by decide +kernel
theorem bxb {cst : am_K} {strs : List Nat} {Φ : am_Q → Prop} {D : Nat} {M : am_M} {h : am_H} {l : am_L} (c : hp_C cst strs D) (hM : m_P[32]? = some M) (hD : (2 : Int) ≤ (D : Int) + 1) (hy : ly_hy m_tt ly_TH h) (g n i e : Int) (b0 : 0 ≤ g) (t0 : g ≤ 399) (b1 : 0 ≤ n) (t1 : n ≤ 80) (b2 : 0 ≤ i) (t2 : i ≤ 79) (b3 : (-2147483648) ≤ e) (t3 : e ≤ 2147483647) (f0 : 0 ≤ (n - i - 1)) (f1 : 0 ≤ (e - g)) (k0 : ly_hv cst h 11014 0 = some (n)) (k1 : ly_hv cst h 13824 (i) = some 0) (k2 : ly_hv cst h 13312 (i) = some (e)) (l0 : hp_a l 0 59) (l1 : hp_i l 1 (g)) (l2 : hp_a l 2 22) (l3 : hp_i l 3 (i)) (e0 : ∀ (l' : am_L) (h' : am_H), ly_hy m_tt ly_TH h' → ly_fr cst [] h h' → h.length ≤ h'.length → hp_a l' 0 59 → hp_i l' 1 (g) → hp_a l' 2 22 → hp_i l' 3 (i + 1) → hp_F cst strs Φ D M 2 l' [] h') : hp_F cst strs Φ D M 2 l [] h := by
  refine hp_arc c hM bxb_k hD [g, n, i, e] rfl hy (hp_Bc (z := g) rfl b0 t0 (hp_Bc (z := n) rfl b1 t1 (hp_Bc (z := i) rfl b2 t2 (hp_Bc (z := e) rfl b3 t3 hp_Bn)))) (hp_Fc (z := ((-1) + (1 * n + ((-1) * i + 0)))) rfl (by omega) (hp_Fc (z := (0 + ((-1) * g + (1 * e + 0)))) rfl (by omega) hp_Fn)) (hp_Kc (zi := (0 + 0)) (zv := (0 + (1 * n + 0))) k0 rfl rfl (by omega) (by omega) (hp_Kc (zi := (0 + (1 * i + 0))) (zv := (0 + 0)) k1 rfl rfl (by omega) (by omega) (hp_Kc (zi := (0 + (1 * i + 0))) (zv := (0 + (1 * e + 0))) k2 rfl rfl (by omega) (by omega) hp_Kn))) (hp_La l0 (hp_Li (z := (0 + (1 * g + 0))) l1 rfl (by omega) (hp_La l2 (hp_Li (z := (0 + (1 * i + 0))) l3 rfl (by omega) hp_Ln)))) trivial ?_ ?_
  · intro p hp ys l' st' h' hys a1 a2 a3 gZ gL gS
    rcases List.mem_cons.mp hp with rfl | hp
    · obtain rfl := hp_y0 hys
      cases hp_gSn gS
      exact e0 l' h' a1 a2 a3 (hp_gLa gL (List.mem_of_getElem? (i := 0) rfl) (by decide)) (hp_gLi (z := (0 + (1 * g + 0))) gL (List.mem_of_getElem? (i := 1) rfl) rfl (by omega)) (hp_gLa gL (List.mem_of_getElem? (i := 2) rfl) (by decide)) (hp_gLi (z := (1 + (1 * i + 0))) gL (List.mem_of_getElem? (i := 3) rfl) rfl (by omega))
    cases hp
  · intro p hp ys v h' hys a1 a2 a3 gZ gS
    cases hp
theorem bxc_k : hp_chk 32 2 5 [(0, 0, 399), (1, 0, 80), (2, 0, 79), (3, (-2147483648), 2147483647), (4, (-2147483648), 2147483647)] [((-1), [(1, 1), (2, (-1))]), ((-1), [(0, 1), (3, (-1))])] [(0, .inr (.inr (.inl (some 59)))), (1, .inl (0, [(0, 1)])), (2, .inr (.inr (.inl (some 22)))), (3, .inl (0, [(2, 1)]))] [] [(11014, (0, []), (0, [(1, 1)])), (13824, (0, [(2, 1)]), (0, [])), (13312, (0, [(2, 1)]), (0, [(3, 1)])), (12544, (0, [(2, 1)]), (0, [(4, 1)]))] [] 2 [(48, ([], 5, [(0, 0, 399), (1, 0, 80), (2, 0, 79), (3, (-2147483648), 2147483647), (4, (-2147483648), 2147483647)], [], [(0, .inr (.inr (.inl (some 59)))), (1, .inl (0, [(0, 1)])), (2, .inr (.inr (.inl (some 22)))), (3, .inl (0, [(2, 1)]))], [.inl (0, [(3, 1)]), .inl (0, [(3, 1)]), .inl (0, [(4, 1)]), .inr (.inr (.inl (some 22)))], []))] [] = true := by decide +kernel
theorem bxc {cst : am_K} {strs : List Nat} {Φ : am_Q → Prop} {D : Nat} {M : am_M} {h : am_H} {l : am_L} (c : hp_C cst strs D) (hM : m_P[32]? = some M) (hD : (2 : Int) ≤ (D : Int) + 1) (hy : ly_hy m_tt ly_TH h) (g n i e w : Int) (b0 : 0 ≤ g) (t0 : g ≤ 399) (b1 : 0 ≤ n) (t1 : n ≤ 80) (b2 : 0 ≤ i) (t2 : i ≤ 79) (b3 : (-2147483648) ≤ e) (t3 : e ≤ 2147483647) (b4 : (-2147483648) ≤ w) (t4 : w ≤ 2147483647) (f0 : 0 ≤ (n - i - 1)) (f1 : 0 ≤ (g - e - 1)) (k0 : ly_hv cst h 11014 0 = some (n)) (k1 : ly_hv cst h 13824 (i) = some 0) (k2 : ly_hv cst h 13312 (i) = some (e)) (k3 : ly_hv cst h 12544 (i) = some (w)) (l0 : hp_a l 0 59) (l1 : hp_i l 1 (g)) (l2 : hp_a l 2 22) (l3 : hp_i l 3 (i)) (e0 : ∀ (l' : am_L) (h' : am_H) (y0 : Int32) (y1 : Int32) (y2 : Int32), y0.toInt = (e) → y1.toInt = (e) → y2.toInt = (w) → ly_hy m_tt ly_TH h' → ly_fr cst [] h h' → h.length ≤ h'.length → hp_a l' 0 59 → hp_i l' 1 (g) → hp_a l' 2 22 → hp_i l' 3 (i) → hp_F cst strs Φ D M 48 l' [.int y0, .int y1, .int y2, .ref 22] h') : hp_F cst strs Φ D M 2 l [] h := by
  refine hp_arc c hM bxc_k hD [g, n, i, e, w] rfl hy (hp_Bc (z := g) rfl b0 t0 (hp_Bc (z := n) rfl b1 t1 (hp_Bc (z := i) rfl b2 t2 (hp_Bc (z := e) rfl b3 t3 (hp_Bc (z := w) rfl b4 t4 hp_Bn))))) (hp_Fc (z := ((-1) + (1 * n + ((-1) * i + 0)))) rfl (by omega) (hp_Fc (z := ((-1) + (1 * g + ((-1) * e + 0)))) rfl (by omega) hp_Fn)) (hp_Kc (zi := (0 + 0)) (zv := (0 + (1 * n + 0))) k0 rfl rfl (by omega) (by omega) (hp_Kc (zi := (0 + (1 * i + 0))) (zv := (0 + 0)) k1 rfl rfl (by omega) (by omega) (hp_Kc (zi := (0 + (1 * i + 0))) (zv := (0 + (1 * e + 0))) k2 rfl rfl (by omega) (by omega) (hp_Kc (zi := (0 + (1 * i + 0))) (zv := (0 + (1 * w + 0))) k3 rfl rfl (by omega) (by omega) hp_Kn)))) (hp_La l0 (hp_Li (z := (0 + (1 * g + 0))) l1 rfl (by omega) (hp_La l2 (hp_Li (z := (0 + (1 * i + 0))) l3 rfl (by omega) hp_Ln)))) trivial ?_ ?_
  · intro p hp ys l' st' h' hys a1 a2 a3 gZ gL gS
    rcases List.mem_cons.mp hp with rfl | hp
    · obtain rfl := hp_y0 hys
      obtain ⟨y0, t0, rfl, q0, g0⟩ := hp_gSi (z := (0 + (1 * e + 0))) gS rfl
      obtain ⟨y1, t1, rfl, q1, g1⟩ := hp_gSi (z := (0 + (1 * e + 0))) g0 rfl
      obtain ⟨y2, t2, rfl, q2, g2⟩ := hp_gSi (z := (0 + (1 * w + 0))) g1 rfl
      obtain ⟨t3, rfl, g3⟩ := hp_gSa g2 (by decide)
      cases hp_gSn g3
      exact e0 l' h' y0 y1 y2 (by omega) (by omega) (by omega) a1 a2 a3 (hp_gLa gL (List.mem_of_getElem? (i := 0) rfl) (by decide)) (hp_gLi (z := (0 + (1 * g + 0))) gL (List.mem_of_getElem? (i := 1) rfl) rfl (by omega)) (hp_gLa gL (List.mem_of_getElem? (i := 2) rfl) (by decide)) (hp_gLi (z := (0 + (1 * i + 0))) gL (List.mem_of_getElem? (i := 3) rfl) rfl (by omega))
    cases hp
  · intro p hp ys v h' hys a1 a2 a3 gZ gS
    cases hp
theorem bxd_k : hp_chk 32 51 2 [(0, 0, 399), (1, 0, 79)] [] [(0, .inr (.inr (.inl (some 59)))), (1, .inl (0, [(0, 1)])), (2, .inr (.inr (.inl (some 22)))), (3, .inl (0, [(1, 1)]))] [.inl (1, [])] [] [] 2 [(68, ([], 2, [(0, 0, 399), (1, 0, 79)], [], [(0, .inr (.inr (.inl (some 59)))), (1, .inl (0, [(0, 1)])), (2, .inr (.inr (.inl (some 22)))), (3, .inl (0, [(1, 1)])), (4, .inl (1, []))], [.inl (3, []), .inl (0, [(1, 1)]), .inr (.inr (.inl (some 70)))], []))] [] = true := by decide +kernel
theorem bxd {cst : am_K} {strs : List Nat} {Φ : am_Q → Prop} {D : Nat} {M : am_M} {h : am_H} {l : am_L} (c : hp_C cst strs D) (hM : m_P[32]? = some M) (hD : (2 : Int) ≤ (D : Int) + 1) (hy : ly_hy m_tt ly_TH h) (g i : Int) (x0 : Int32) (hx0 : x0.toInt = 1) (b0 : 0 ≤ g) (t0 : g ≤ 399) (b1 : 0 ≤ i) (t1 : i ≤ 79) (l0 : hp_a l 0 59) (l1 : hp_i l 1 (g)) (l2 : hp_a l 2 22) (l3 : hp_i l 3 (i)) (e0 : ∀ (l' : am_L) (h' : am_H) (y0 : Int32) (y1 : Int32), y0.toInt = 3 → y1.toInt = (i) → ly_hy m_tt ly_TH h' → ly_fr cst [] h h' → h.length ≤ h'.length → hp_a l' 0 59 → hp_i l' 1 (g) → hp_a l' 2 22 → hp_i l' 3 (i) → hp_i l' 4 1 → hp_F cst strs Φ D M 68 l' [.int y0, .int y1, .ref 70] h') : hp_F cst strs Φ D M 51 l [.int x0] h := by
  refine hp_arc c hM bxd_k hD [g, i] rfl hy (hp_Bc (z := g) rfl b0 t0 (hp_Bc (z := i) rfl b1 t1 hp_Bn)) hp_Fn hp_Kn (hp_La l0 (hp_Li (z := (0 + (1 * g + 0))) l1 rfl (by omega) (hp_La l2 (hp_Li (z := (0 + (1 * i + 0))) l3 rfl (by omega) hp_Ln)))) (hp_Si (z := (1 + 0)) rfl (by omega) trivial) ?_ ?_
  · intro p hp ys l' st' h' hys a1 a2 a3 gZ gL gS
    rcases List.mem_cons.mp hp with rfl | hp
    · obtain rfl := hp_y0 hys
      obtain ⟨y0, t0, rfl, q0, g0⟩ := hp_gSi (z := (3 + 0)) gS rfl
      obtain ⟨y1, t1, rfl, q1, g1⟩ := hp_gSi (z := (0 + (1 * i + 0))) g0 rfl
      obtain ⟨t2, rfl, g2⟩ := hp_gSa g1 (by decide)
      cases hp_gSn g2
      exact e0 l' h' y0 y1 (by omega) (by omega) a1 a2 a3 (hp_gLa gL (List.mem_of_getElem? (i := 0) rfl) (by decide)) (hp_gLi (z := (0 + (1 * g + 0))) gL (List.mem_of_getElem? (i := 1) rfl) rfl (by omega)) (hp_gLa gL (List.mem_of_getElem? (i := 2) rfl) (by decide)) (hp_gLi (z := (0 + (1 * i + 0))) gL (List.mem_of_getElem? (i := 3) rfl) rfl (by omega)) (hp_gLi (z := (1 + 0)) gL (List.mem_of_getElem? (i := 4) rfl) rfl (by omega))
    cases hp
  · intro p hp ys v h' hys a1 a2 a3 gZ gS
    cases hp
theorem bxe_k : hp_chk 32 51 2 [(0, 0, 399), (1, 0, 79)] [] [(0, .inr (.inr (.inl (some 59)))), (1, .inl (0, [(0, 1)])), (2, .inr (.inr (.inl (some 22)))), (3, .inl (0, [(1, 1)]))] [.inl (0, [])] [] [] 2 [(68, ([], 2, [(0, 0, 399), (1, 0, 79)], [], [(0, .inr (.inr (.inl (some 59)))), (1, .inl (0, [(0, 1)])), (2, .inr (.inr (.inl (some 22)))), (3, .inl (0, [(1, 1)])), (4, .inl (0, []))], [.inl (2, []), .inl (0, [(1, 1)]), .inr (.inr (.inl (some 70)))], []))] [] = true := by decide +kernel
theorem bxe {cst : am_K} {strs : List Nat} {Φ : am_Q → Prop} {D : Nat} {M : am_M} {h : am_H} {l : am_L} (c : hp_C cst strs D) (hM : m_P[32]? = some M) (hD : (2 : Int) ≤ (D : Int) + 1) (hy : ly_hy m_tt ly_TH h) (g i : Int) (x0 : Int32) (hx0 : x0.toInt = 0) (b0 : 0 ≤ g) (t0 : g ≤ 399) (b1 : 0 ≤ i) (t1 : i ≤ 79) (l0 : hp_a l 0 59) (l1 : hp_i l 1 (g)) (l2 : hp_a l 2 22) (l3 : hp_i l 3 (i)) (e0 : ∀ (l' : am_L) (h' : am_H) (y0 : Int32) (y1 : Int32), y0.toInt = 2 → y1.toInt = (i) → ly_hy m_tt ly_TH h' → ly_fr cst [] h h' → h.length ≤ h'.length → hp_a l' 0 59 → hp_i l' 1 (g) → hp_a l' 2 22 → hp_i l' 3 (i) → hp_i l' 4 0 → hp_F cst strs Φ D M 68 l' [.int y0, .int y1, .ref 70] h') : hp_F cst strs Φ D M 51 l [.int x0] h := by
  refine hp_arc c hM bxe_k hD [g, i] rfl hy (hp_Bc (z := g) rfl b0 t0 (hp_Bc (z := i) rfl b1 t1 hp_Bn)) hp_Fn hp_Kn (hp_La l0 (hp_Li (z := (0 + (1 * g + 0))) l1 rfl (by omega) (hp_La l2 (hp_Li (z := (0 + (1 * i + 0))) l3 rfl (by omega) hp_Ln)))) (hp_Si (z := (0 + 0)) rfl (by omega) trivial) ?_ ?_
  · intro p hp ys l' st' h' hys a1 a2 a3 gZ gL gS
    rcases List.mem_cons.mp hp with rfl | hp
    · obtain rfl := hp_y0 hys
      obtain ⟨y0, t0, rfl, q0, g0⟩ := hp_gSi (z := (2 + 0)) gS rfl
      obtain ⟨y1, t1, rfl, q1, g1⟩ := hp_gSi (z := (0 + (1 * i + 0))) g0 rfl
      obtain ⟨t2, rfl, g2⟩ := hp_gSa g1 (by decide)
      cases hp_gSn g2
      exact e0 l' h' y0 y1 (by omega) (by omega) a1 a2 a3 (hp_gLa gL (List.mem_of_getElem? (i := 0) rfl) (by decide)) (hp_gLi (z := (0 + (1 * g + 0))) gL (List.mem_of_getElem? (i := 1) rfl) rfl (by omega)) (hp_gLa gL (List.mem_of_getElem? (i := 2) rfl) (by decide)) (hp_gLi (z := (0 + (1 * i + 0))) gL (List.mem_of_getElem? (i := 3) rfl) rfl (by omega)) (hp_gLi (z := (0 + 0)) gL (List.mem_of_getElem? (i := 4) rfl) rfl (by omega))
    cases hp
  · intro p hp ys v h' hys a1 a2 a3 gZ gS
    cases hp
theorem bxf_k : hp_chk 32 69 3 [(0, 0, 399), (1, 0, 79), (2, 0, 1)] [] [(0, .inr (.inr (.inl (some 59)))), (1, .inl (0, [(0, 1)])), (2, .inr (.inr (.inl (some 22)))), (3, .inl (0, [(1, 1)])), (4, .inl (0, [(2, 1)]))] [] [] [11015] 2 [(2, ([], 3, [(0, 0, 399), (1, 0, 79), (2, 0, 1)], [], [(0, .inr (.inr (.inl (some 59)))), (1, .inl (0, [(0, 1)])), (2, .inr (.inr (.inl (some 22)))), (3, .inl (1, [(1, 1)]))], [], []))] [] = true := by decide +kernel
theorem bxf {cst : am_K} {strs : List Nat} {Φ : am_Q → Prop} {D : Nat} {M : am_M} {h : am_H} {l : am_L} (c : hp_C cst strs D) (hM : m_P[32]? = some M) (hD : (2 : Int) ≤ (D : Int) + 1) (hy : ly_hy m_tt ly_TH h) (g i d : Int) (b0 : 0 ≤ g) (t0 : g ≤ 399) (b1 : 0 ≤ i) (t1 : i ≤ 79) (b2 : 0 ≤ d) (t2 : d ≤ 1) (l0 : hp_a l 0 59) (l1 : hp_i l 1 (g)) (l2 : hp_a l 2 22) (l3 : hp_i l 3 (i)) (l4 : hp_i l 4 (d)) (e0 : ∀ (l' : am_L) (h' : am_H), ly_hy m_tt ly_TH h' → ly_fr cst [11015] h h' → h.length ≤ h'.length → hp_a l' 0 59 → hp_i l' 1 (g) → hp_a l' 2 22 → hp_i l' 3 (i + 1) → hp_F cst strs Φ D M 2 l' [] h') : hp_F cst strs Φ D M 69 l [] h := by
  refine hp_arc c hM bxf_k hD [g, i, d] rfl hy (hp_Bc (z := g) rfl b0 t0 (hp_Bc (z := i) rfl b1 t1 (hp_Bc (z := d) rfl b2 t2 hp_Bn))) hp_Fn hp_Kn (hp_La l0 (hp_Li (z := (0 + (1 * g + 0))) l1 rfl (by omega) (hp_La l2 (hp_Li (z := (0 + (1 * i + 0))) l3 rfl (by omega) (hp_Li (z := (0 + (1 * d + 0))) l4 rfl (by omega) hp_Ln))))) trivial ?_ ?_
  · intro p hp ys l' st' h' hys a1 a2 a3 gZ gL gS
    rcases List.mem_cons.mp hp with rfl | hp
    · obtain rfl := hp_y0 hys
      cases hp_gSn gS
      exact e0 l' h' a1 a2 a3 (hp_gLa gL (List.mem_of_getElem? (i := 0) rfl) (by decide)) (hp_gLi (z := (0 + (1 * g + 0))) gL (List.mem_of_getElem? (i := 1) rfl) rfl (by omega)) (hp_gLa gL (List.mem_of_getElem? (i := 2) rfl) (by decide)) (hp_gLi (z := (1 + (1 * i + 0))) gL (List.mem_of_getElem? (i := 3) rfl) rfl (by omega))
    cases hp
  · intro p hp ys v h' hys a1 a2 a3 gZ gS
    cases hp
theorem bxg_k : hp_chk 32 2 2 [(0, 0, 399), (1, 0, 80)] [] [(0, .inr (.inr (.inl (some 59)))), (1, .inl (0, [(0, 1)])), (2, .inr (.inr (.inl (some 22)))), (3, .inl (0, [(1, 1)]))] [] [(11014, (0, []), (0, [(1, 1)]))] [] 2 [] [([], 2, [(0, 0, 399), (1, 0, 80)], [], [], [], [])] = true := by decide +kernel
theorem bxg {cst : am_K} {strs : List Nat} {Φ : am_Q → Prop} {D : Nat} {M : am_M} {h : am_H} {l : am_L} (c : hp_C cst strs D) (hM : m_P[32]? = some M) (hD : (2 : Int) ≤ (D : Int) + 1) (hy : ly_hy m_tt ly_TH h) (g n : Int) (b0 : 0 ≤ g) (t0 : g ≤ 399) (b1 : 0 ≤ n) (t1 : n ≤ 80) (k0 : ly_hv cst h 11014 0 = some (n)) (l0 : hp_a l 0 59) (l1 : hp_i l 1 (g)) (l2 : hp_a l 2 22) (l3 : hp_i l 3 (n)) (r0 : ∀ (h' : am_H), ly_hy m_tt ly_TH h' → ly_fr cst [] h h' → h.length ≤ h'.length → Φ (none, h', 0, 0)) : hp_F cst strs Φ D M 2 l [] h := by
  refine hp_arc c hM bxg_k hD [g, n] rfl hy (hp_Bc (z := g) rfl b0 t0 (hp_Bc (z := n) rfl b1 t1 hp_Bn)) hp_Fn (hp_Kc (zi := (0 + 0)) (zv := (0 + (1 * n + 0))) k0 rfl rfl (by omega) (by omega) hp_Kn) (hp_La l0 (hp_Li (z := (0 + (1 * g + 0))) l1 rfl (by omega) (hp_La l2 (hp_Li (z := (0 + (1 * n + 0))) l3 rfl (by omega) hp_Ln)))) trivial ?_ ?_
  · intro p hp ys l' st' h' hys a1 a2 a3 gZ gL gS
    cases hp
  · intro p hp ys v h' hys a1 a2 a3 gZ gS
    rcases List.mem_cons.mp hp with rfl | hp
    · obtain rfl := hp_y0 hys
      have sv := hp_gSn gS
      cases v with
      | some w => cases sv
      | none =>
        exact r0 h' a1 a2 a3
    cases hp
theorem bp0_k : hp_chk 31 0 2 [(0, (-2147483648), 0), (1, 0, 399)] [] [(0, .inr (.inr (.inl (some 16)))), (1, .inl (0, [(0, 1)]))] [] [(10, (0, []), (0, [(1, 1)]))] [] 4 [] [([], 2, [(0, (-2147483648), 0), (1, 0, 399)], [], [], [.inl ((-2), [])], [(10, (0, []), (0, [(1, 1)]))])] = true := by decide +kernel
theorem bp0 {cst : am_K} {strs : List Nat} {Φ : am_Q → Prop} {D : Nat} {M : am_M} {h : am_H} {l : am_L} (c : hp_C cst strs D) (hM : m_P[31]? = some M) (hD : (4 : Int) ≤ (D : Int) + 1) (hy : ly_hy m_tt ly_TH h) (x v : Int) (b0 : (-2147483648) ≤ x) (t0 : x ≤ 0) (b1 : 0 ≤ v) (t1 : v ≤ 399) (k0 : ly_hv cst h 10 0 = some (v)) (l0 : hp_a l 0 16) (l1 : hp_i l 1 (x)) (r0 : ∀ (h' : am_H) (y0 : Int32), y0.toInt = (-2) → ly_hy m_tt ly_TH h' → ly_fr cst [] h h' → h.length ≤ h'.length → ly_hv cst h' 10 0 = some (v) → Φ (some (.int y0), h', 0, 0)) : hp_F cst strs Φ D M 0 l [] h := by
  refine hp_arc c hM bp0_k hD [x, v] rfl hy (hp_Bc (z := x) rfl b0 t0 (hp_Bc (z := v) rfl b1 t1 hp_Bn)) hp_Fn (hp_Kc (zi := (0 + 0)) (zv := (0 + (1 * v + 0))) k0 rfl rfl (by omega) (by omega) hp_Kn) (hp_La l0 (hp_Li (z := (0 + (1 * x + 0))) l1 rfl (by omega) hp_Ln)) trivial ?_ ?_
  · intro p hp ys l' st' h' hys a1 a2 a3 gZ gL gS
    cases hp
  · intro p hp ys v h' hys a1 a2 a3 gZ gS
    rcases List.mem_cons.mp hp with rfl | hp
    · obtain rfl := hp_y0 hys
      cases v with
      | none => cases gS
      | some w =>
        obtain ⟨y0, t0, s0, q0, -⟩ := hp_gSi (z := ((-2) + 0)) gS rfl
        cases s0
        exact r0 h' y0 (by omega) a1 a2 a3 (hp_gK (zi := (0 + 0)) (zv := (0 + (1 * v + 0))) gZ.2.2.2 (List.mem_of_getElem? (i := 0) rfl) rfl rfl (by omega) (by omega))
    cases hp
theorem bp1_k : hp_chk 31 0 2 [(0, 101, 2147483647), (1, 0, 399)] [] [(0, .inr (.inr (.inl (some 16)))), (1, .inl (0, [(0, 1)]))] [] [(10, (0, []), (0, [(1, 1)]))] [] 4 [] [([], 2, [(0, 101, 2147483647), (1, 0, 399)], [], [], [.inl ((-2), [])], [(10, (0, []), (0, [(1, 1)]))])] = true := by decide +kernel
theorem bp1 {cst : am_K} {strs : List Nat} {Φ : am_Q → Prop} {D : Nat} {M : am_M} {h : am_H} {l : am_L} (c : hp_C cst strs D) (hM : m_P[31]? = some M) (hD : (4 : Int) ≤ (D : Int) + 1) (hy : ly_hy m_tt ly_TH h) (x v : Int) (b0 : 101 ≤ x) (t0 : x ≤ 2147483647) (b1 : 0 ≤ v) (t1 : v ≤ 399) (k0 : ly_hv cst h 10 0 = some (v)) (l0 : hp_a l 0 16) (l1 : hp_i l 1 (x)) (r0 : ∀ (h' : am_H) (y0 : Int32), y0.toInt = (-2) → ly_hy m_tt ly_TH h' → ly_fr cst [] h h' → h.length ≤ h'.length → ly_hv cst h' 10 0 = some (v) → Φ (some (.int y0), h', 0, 0)) : hp_F cst strs Φ D M 0 l [] h := by
  refine hp_arc c hM bp1_k hD [x, v] rfl hy (hp_Bc (z := x) rfl b0 t0 (hp_Bc (z := v) rfl b1 t1 hp_Bn)) hp_Fn (hp_Kc (zi := (0 + 0)) (zv := (0 + (1 * v + 0))) k0 rfl rfl (by omega) (by omega) hp_Kn) (hp_La l0 (hp_Li (z := (0 + (1 * x + 0))) l1 rfl (by omega) hp_Ln)) trivial ?_ ?_
  · intro p hp ys l' st' h' hys a1 a2 a3 gZ gL gS
    cases hp
  · intro p hp ys v h' hys a1 a2 a3 gZ gS
    rcases List.mem_cons.mp hp with rfl | hp
    · obtain rfl := hp_y0 hys
      cases v with
      | none => cases gS
      | some w =>
        obtain ⟨y0, t0, s0, q0, -⟩ := hp_gSi (z := ((-2) + 0)) gS rfl
        cases s0
        exact r0 h' y0 (by omega) a1 a2 a3 (hp_gK (zi := (0 + 0)) (zv := (0 + (1 * v + 0))) gZ.2.2.2 (List.mem_of_getElem? (i := 0) rfl) rfl rfl (by omega) (by omega))
    cases hp
theorem bp2_k : hp_chk 31 0 2 [(0, 1, 100), (1, 0, 399)] [((-400), [(0, 1), (1, 1)])] [(0, .inr (.inr (.inl (some 16)))), (1, .inl (0, [(0, 1)]))] [] [(10, (0, []), (0, [(1, 1)]))] [] 4 [] [([], 2, [(0, 1, 100), (1, 0, 399)], [], [], [.inl ((-2), [])], [(10, (0, []), (0, [(1, 1)]))])] = true := by decide +kernel
theorem bp2 {cst : am_K} {strs : List Nat} {Φ : am_Q → Prop} {D : Nat} {M : am_M} {h : am_H} {l : am_L} (c : hp_C cst strs D) (hM : m_P[31]? = some M) (hD : (4 : Int) ≤ (D : Int) + 1) (hy : ly_hy m_tt ly_TH h) (x v : Int) (b0 : 1 ≤ x) (t0 : x ≤ 100) (b1 : 0 ≤ v) (t1 : v ≤ 399) (f0 : 0 ≤ (v + x - 400)) (k0 : ly_hv cst h 10 0 = some (v)) (l0 : hp_a l 0 16) (l1 : hp_i l 1 (x)) (r0 : ∀ (h' : am_H) (y0 : Int32), y0.toInt = (-2) → ly_hy m_tt ly_TH h' → ly_fr cst [] h h' → h.length ≤ h'.length → ly_hv cst h' 10 0 = some (v) → Φ (some (.int y0), h', 0, 0)) : hp_F cst strs Φ D M 0 l [] h := by
  refine hp_arc c hM bp2_k hD [x, v] rfl hy (hp_Bc (z := x) rfl b0 t0 (hp_Bc (z := v) rfl b1 t1 hp_Bn)) (hp_Fc (z := ((-400) + (1 * x + (1 * v + 0)))) rfl (by omega) hp_Fn) (hp_Kc (zi := (0 + 0)) (zv := (0 + (1 * v + 0))) k0 rfl rfl (by omega) (by omega) hp_Kn) (hp_La l0 (hp_Li (z := (0 + (1 * x + 0))) l1 rfl (by omega) hp_Ln)) trivial ?_ ?_
  · intro p hp ys l' st' h' hys a1 a2 a3 gZ gL gS
    cases hp
  · intro p hp ys v h' hys a1 a2 a3 gZ gS
    rcases List.mem_cons.mp hp with rfl | hp
    · obtain rfl := hp_y0 hys
      cases v with
      | none => cases gS
      | some w =>
        obtain ⟨y0, t0, s0, q0, -⟩ := hp_gSi (z := ((-2) + 0)) gS rfl
        cases s0
        exact r0 h' y0 (by omega) a1 a2 a3 (hp_gK (zi := (0 + 0)) (zv := (0 + (1 * v + 0))) gZ.2.2.2 (List.mem_of_getElem? (i := 0) rfl) rfl rfl (by omega) (by omega))
    cases hp
theorem bp3_k : hp_chk 31 0 2 [(0, 1, 100), (1, 0, 399)] [(399, [(0, (-1)), (1, (-1))])] [(0, .inr (.inr (.inl (some 16)))), (1, .inl (0, [(0, 1)]))] [] [(10, (0, []), (0, [(1, 1)]))] [10] 4 [(47, ([], 2, [(0, 1, 100), (1, 0, 399)], [], [(0, .inr (.inr (.inl (some 16))))], [.inr (.inr (.inl (some 22))), .inl (0, [(0, 1), (1, 1)]), .inr (.inr (.inl (some 59)))], [(10, (0, []), (0, [(0, 1), (1, 1)]))]))] [] = true := by decide +kernel
theorem bp3 {cst : am_K} {strs : List Nat} {Φ : am_Q → Prop} {D : Nat} {M : am_M} {h : am_H} {l : am_L} (c : hp_C cst strs D) (hM : m_P[31]? = some M) (hD : (4 : Int) ≤ (D : Int) + 1) (hy : ly_hy m_tt ly_TH h) (x v : Int) (b0 : 1 ≤ x) (t0 : x ≤ 100) (b1 : 0 ≤ v) (t1 : v ≤ 399) (f0 : 0 ≤ (-v - x + 399)) (k0 : ly_hv cst h 10 0 = some (v)) (l0 : hp_a l 0 16) (l1 : hp_i l 1 (x)) (e0 : ∀ (l' : am_L) (h' : am_H) (y1 : Int32), y1.toInt = (v + x) → ly_hy m_tt ly_TH h' → ly_fr cst [10] h h' → h.length ≤ h'.length → ly_hv cst h' 10 0 = some (v + x) → hp_a l' 0 16 → hp_F cst strs Φ D M 47 l' [.ref 22, .int y1, .ref 59] h') : hp_F cst strs Φ D M 0 l [] h := by
  refine hp_arc c hM bp3_k hD [x, v] rfl hy (hp_Bc (z := x) rfl b0 t0 (hp_Bc (z := v) rfl b1 t1 hp_Bn)) (hp_Fc (z := (399 + ((-1) * x + ((-1) * v + 0)))) rfl (by omega) hp_Fn) (hp_Kc (zi := (0 + 0)) (zv := (0 + (1 * v + 0))) k0 rfl rfl (by omega) (by omega) hp_Kn) (hp_La l0 (hp_Li (z := (0 + (1 * x + 0))) l1 rfl (by omega) hp_Ln)) trivial ?_ ?_
  · intro p hp ys l' st' h' hys a1 a2 a3 gZ gL gS
    rcases List.mem_cons.mp hp with rfl | hp
    · obtain rfl := hp_y0 hys
      obtain ⟨t0, rfl, g0⟩ := hp_gSa gS (by decide)
      obtain ⟨y1, t1, rfl, q1, g1⟩ := hp_gSi (z := (0 + (1 * x + (1 * v + 0)))) g0 rfl
      obtain ⟨t2, rfl, g2⟩ := hp_gSa g1 (by decide)
      cases hp_gSn g2
      exact e0 l' h' y1 (by omega) a1 a2 a3 (hp_gK (zi := (0 + 0)) (zv := (0 + (1 * x + (1 * v + 0)))) gZ.2.2.2 (List.mem_of_getElem? (i := 0) rfl) rfl rfl (by omega) (by omega)) (hp_gLa gL (List.mem_of_getElem? (i := 0) rfl) (by decide))
    cases hp
  · intro p hp ys v h' hys a1 a2 a3 gZ gS
    cases hp
theorem bp4_k : hp_chk 31 50 1 [(0, 0, 399)] [] [(0, .inr (.inr (.inl (some 16))))] [] [(10, (0, []), (0, [(0, 1)]))] [] 2 [] [([], 1, [(0, 0, 399)], [], [], [.inl (0, [(0, 1)])], [(10, (0, []), (0, [(0, 1)]))])] = true := by decide +kernel
theorem bp4 {cst : am_K} {strs : List Nat} {Φ : am_Q → Prop} {D : Nat} {M : am_M} {h : am_H} {l : am_L} (c : hp_C cst strs D) (hM : m_P[31]? = some M) (hD : (2 : Int) ≤ (D : Int) + 1) (hy : ly_hy m_tt ly_TH h) (z : Int) (b0 : 0 ≤ z) (t0 : z ≤ 399) (k0 : ly_hv cst h 10 0 = some (z)) (l0 : hp_a l 0 16) (r0 : ∀ (h' : am_H) (y0 : Int32), y0.toInt = (z) → ly_hy m_tt ly_TH h' → ly_fr cst [] h h' → h.length ≤ h'.length → ly_hv cst h' 10 0 = some (z) → Φ (some (.int y0), h', 0, 0)) : hp_F cst strs Φ D M 50 l [] h := by
  refine hp_arc c hM bp4_k hD [z] rfl hy (hp_Bc (z := z) rfl b0 t0 hp_Bn) hp_Fn (hp_Kc (zi := (0 + 0)) (zv := (0 + (1 * z + 0))) k0 rfl rfl (by omega) (by omega) hp_Kn) (hp_La l0 hp_Ln) trivial ?_ ?_
  · intro p hp ys l' st' h' hys a1 a2 a3 gZ gL gS
    cases hp
  · intro p hp ys v h' hys a1 a2 a3 gZ gS
    rcases List.mem_cons.mp hp with rfl | hp
    · obtain rfl := hp_y0 hys
      cases v with
      | none => cases gS
      | some w =>
        obtain ⟨y0, t0, s0, q0, -⟩ := hp_gSi (z := (0 + (1 * z + 0))) gS rfl
        cases s0
        exact r0 h' y0 (by omega) a1 a2 a3 (hp_gK (zi := (0 + 0)) (zv := (0 + (1 * z + 0))) gZ.2.2.2 (List.mem_of_getElem? (i := 0) rfl) rfl rfl (by omega) (by omega))
    cases hp
theorem bq0_k : hp_chk 387 0 2 [(0, (-2147483648), 0), (1, 0, 399)] [] [(0, .inr (.inr (.inl (some 94)))), (1, .inl (0, [(0, 1)]))] [] [(19977, (0, []), (0, [(1, 1)]))] [] 4 [] [([], 2, [(0, (-2147483648), 0), (1, 0, 399)], [], [], [.inl ((-2), [])], [(19977, (0, []), (0, [(1, 1)]))])] = true := by decide +kernel
theorem bq0 {cst : am_K} {strs : List Nat} {Φ : am_Q → Prop} {D : Nat} {M : am_M} {h : am_H} {l : am_L} (c : hp_C cst strs D) (hM : m_P[387]? = some M) (hD : (4 : Int) ≤ (D : Int) + 1) (hy : ly_hy m_tt ly_TH h) (x v : Int) (b0 : (-2147483648) ≤ x) (t0 : x ≤ 0) (b1 : 0 ≤ v) (t1 : v ≤ 399) (k0 : ly_hv cst h 19977 0 = some (v)) (l0 : hp_a l 0 94) (l1 : hp_i l 1 (x)) (r0 : ∀ (h' : am_H) (y0 : Int32), y0.toInt = (-2) → ly_hy m_tt ly_TH h' → ly_fr cst [] h h' → h.length ≤ h'.length → ly_hv cst h' 19977 0 = some (v) → Φ (some (.int y0), h', 0, 0)) : hp_F cst strs Φ D M 0 l [] h := by
  refine hp_arc c hM bq0_k hD [x, v] rfl hy (hp_Bc (z := x) rfl b0 t0 (hp_Bc (z := v) rfl b1 t1 hp_Bn)) hp_Fn (hp_Kc (zi := (0 + 0)) (zv := (0 + (1 * v + 0))) k0 rfl rfl (by omega) (by omega) hp_Kn) (hp_La l0 (hp_Li (z := (0 + (1 * x + 0))) l1 rfl (by omega) hp_Ln)) trivial ?_ ?_
  · intro p hp ys l' st' h' hys a1 a2 a3 gZ gL gS
    cases hp
  · intro p hp ys v h' hys a1 a2 a3 gZ gS
    rcases List.mem_cons.mp hp with rfl | hp
    · obtain rfl := hp_y0 hys
      cases v with
      | none => cases gS
      | some w =>
        obtain ⟨y0, t0, s0, q0, -⟩ := hp_gSi (z := ((-2) + 0)) gS rfl
        cases s0
        exact r0 h' y0 (by omega) a1 a2 a3 (hp_gK (zi := (0 + 0)) (zv := (0 + (1 * v + 0))) gZ.2.2.2 (List.mem_of_getElem? (i := 0) rfl) rfl rfl (by omega) (by omega))
    cases hp
theorem bq1_k : hp_chk 387 0 2 [(0, 101, 2147483647), (1, 0, 399)] [] [(0, .inr (.inr (.inl (some 94)))), (1, .inl (0, [(0, 1)]))] [] [(19977, (0, []), (0, [(1, 1)]))] [] 4 [] [([], 2, [(0, 101, 2147483647), (1, 0, 399)], [], [], [.inl ((-2), [])], [(19977, (0, []), (0, [(1, 1)]))])] = true := by decide +kernel
theorem bq1 {cst : am_K} {strs : List Nat} {Φ : am_Q → Prop} {D : Nat} {M : am_M} {h : am_H} {l : am_L} (c : hp_C cst strs D) (hM : m_P[387]? = some M) (hD : (4 : Int) ≤ (D : Int) + 1) (hy : ly_hy m_tt ly_TH h) (x v : Int) (b0 : 101 ≤ x) (t0 : x ≤ 2147483647) (b1 : 0 ≤ v) (t1 : v ≤ 399) (k0 : ly_hv cst h 19977 0 = some (v)) (l0 : hp_a l 0 94) (l1 : hp_i l 1 (x)) (r0 : ∀ (h' : am_H) (y0 : Int32), y0.toInt = (-2) → ly_hy m_tt ly_TH h' → ly_fr cst [] h h' → h.length ≤ h'.length → ly_hv cst h' 19977 0 = some (v) → Φ (some (.int y0), h', 0, 0)) : hp_F cst strs Φ D M 0 l [] h := by
  refine hp_arc c hM bq1_k hD [x, v] rfl hy (hp_Bc (z := x) rfl b0 t0 (hp_Bc (z := v) rfl b1 t1 hp_Bn)) hp_Fn (hp_Kc (zi := (0 + 0)) (zv := (0 + (1 * v + 0))) k0 rfl rfl (by omega) (by omega) hp_Kn) (hp_La l0 (hp_Li (z := (0 + (1 * x + 0))) l1 rfl (by omega) hp_Ln)) trivial ?_ ?_
  · intro p hp ys l' st' h' hys a1 a2 a3 gZ gL gS
    cases hp
  · intro p hp ys v h' hys a1 a2 a3 gZ gS
    rcases List.mem_cons.mp hp with rfl | hp
    · obtain rfl := hp_y0 hys
      cases v with
      | none => cases gS
      | some w =>
        obtain ⟨y0, t0, s0, q0, -⟩ := hp_gSi (z := ((-2) + 0)) gS rfl
        cases s0
        exact r0 h' y0 (by omega) a1 a2 a3 (hp_gK (zi := (0 + 0)) (zv := (0 + (1 * v + 0))) gZ.2.2.2 (List.mem_of_getElem? (i := 0) rfl) rfl rfl (by omega) (by omega))
    cases hp
theorem bq2_k : hp_chk 387 0 2 [(0, 1, 100), (1, 0, 399)] [((-400), [(0, 1), (1, 1)])] [(0, .inr (.inr (.inl (some 94)))), (1, .inl (0, [(0, 1)]))] [] [(19977, (0, []), (0, [(1, 1)]))] [] 4 [] [([], 2, [(0, 1, 100), (1, 0, 399)], [], [], [.inl ((-2), [])], [(19977, (0, []), (0, [(1, 1)]))])] = true := by decide +kernel
theorem bq2 {cst : am_K} {strs : List Nat} {Φ : am_Q → Prop} {D : Nat} {M : am_M} {h : am_H} {l : am_L} (c : hp_C cst strs D) (hM : m_P[387]? = some M) (hD : (4 : Int) ≤ (D : Int) + 1) (hy : ly_hy m_tt ly_TH h) (x v : Int) (b0 : 1 ≤ x) (t0 : x ≤ 100) (b1 : 0 ≤ v) (t1 : v ≤ 399) (f0 : 0 ≤ (v + x - 400)) (k0 : ly_hv cst h 19977 0 = some (v)) (l0 : hp_a l 0 94) (l1 : hp_i l 1 (x)) (r0 : ∀ (h' : am_H) (y0 : Int32), y0.toInt = (-2) → ly_hy m_tt ly_TH h' → ly_fr cst [] h h' → h.length ≤ h'.length → ly_hv cst h' 19977 0 = some (v) → Φ (some (.int y0), h', 0, 0)) : hp_F cst strs Φ D M 0 l [] h := by
  refine hp_arc c hM bq2_k hD [x, v] rfl hy (hp_Bc (z := x) rfl b0 t0 (hp_Bc (z := v) rfl b1 t1 hp_Bn)) (hp_Fc (z := ((-400) + (1 * x + (1 * v + 0)))) rfl (by omega) hp_Fn) (hp_Kc (zi := (0 + 0)) (zv := (0 + (1 * v + 0))) k0 rfl rfl (by omega) (by omega) hp_Kn) (hp_La l0 (hp_Li (z := (0 + (1 * x + 0))) l1 rfl (by omega) hp_Ln)) trivial ?_ ?_
  · intro p hp ys l' st' h' hys a1 a2 a3 gZ gL gS
    cases hp
  · intro p hp ys v h' hys a1 a2 a3 gZ gS
    rcases List.mem_cons.mp hp with rfl | hp
    · obtain rfl := hp_y0 hys
      cases v with
      | none => cases gS
      | some w =>
        obtain ⟨y0, t0, s0, q0, -⟩ := hp_gSi (z := ((-2) + 0)) gS rfl
        cases s0
        exact r0 h' y0 (by omega) a1 a2 a3 (hp_gK (zi := (0 + 0)) (zv := (0 + (1 * v + 0))) gZ.2.2.2 (List.mem_of_getElem? (i := 0) rfl) rfl rfl (by omega) (by omega))
    cases hp
theorem bq3_k : hp_chk 387 0 2 [(0, 1, 100), (1, 0, 399)] [(399, [(0, (-1)), (1, (-1))])] [(0, .inr (.inr (.inl (some 94)))), (1, .inl (0, [(0, 1)]))] [] [(19977, (0, []), (0, [(1, 1)]))] [19977] 4 [(37, ([], 2, [(0, 1, 100), (1, 0, 399)], [], [(0, .inr (.inr (.inl (some 94)))), (2, .inl (0, []))], [], [(19977, (0, []), (0, [(0, 1), (1, 1)]))]))] [] = true := by decide +kernel
theorem bq3 {cst : am_K} {strs : List Nat} {Φ : am_Q → Prop} {D : Nat} {M : am_M} {h : am_H} {l : am_L} (c : hp_C cst strs D) (hM : m_P[387]? = some M) (hD : (4 : Int) ≤ (D : Int) + 1) (hy : ly_hy m_tt ly_TH h) (x v : Int) (b0 : 1 ≤ x) (t0 : x ≤ 100) (b1 : 0 ≤ v) (t1 : v ≤ 399) (f0 : 0 ≤ (-v - x + 399)) (k0 : ly_hv cst h 19977 0 = some (v)) (l0 : hp_a l 0 94) (l1 : hp_i l 1 (x)) (e0 : ∀ (l' : am_L) (h' : am_H), ly_hy m_tt ly_TH h' → ly_fr cst [19977] h h' → h.length ≤ h'.length → ly_hv cst h' 19977 0 = some (v + x) → hp_a l' 0 94 → hp_i l' 2 0 → hp_F cst strs Φ D M 37 l' [] h') : hp_F cst strs Φ D M 0 l [] h := by
  refine hp_arc c hM bq3_k hD [x, v] rfl hy (hp_Bc (z := x) rfl b0 t0 (hp_Bc (z := v) rfl b1 t1 hp_Bn)) (hp_Fc (z := (399 + ((-1) * x + ((-1) * v + 0)))) rfl (by omega) hp_Fn) (hp_Kc (zi := (0 + 0)) (zv := (0 + (1 * v + 0))) k0 rfl rfl (by omega) (by omega) hp_Kn) (hp_La l0 (hp_Li (z := (0 + (1 * x + 0))) l1 rfl (by omega) hp_Ln)) trivial ?_ ?_
  · intro p hp ys l' st' h' hys a1 a2 a3 gZ gL gS
    rcases List.mem_cons.mp hp with rfl | hp
    · obtain rfl := hp_y0 hys
      cases hp_gSn gS
      exact e0 l' h' a1 a2 a3 (hp_gK (zi := (0 + 0)) (zv := (0 + (1 * x + (1 * v + 0)))) gZ.2.2.2 (List.mem_of_getElem? (i := 0) rfl) rfl rfl (by omega) (by omega)) (hp_gLa gL (List.mem_of_getElem? (i := 0) rfl) (by decide)) (hp_gLi (z := (0 + 0)) gL (List.mem_of_getElem? (i := 1) rfl) rfl (by omega))
    cases hp
  · intro p hp ys v h' hys a1 a2 a3 gZ gS
    cases hp
theorem bqa_k : hp_chk 387 37 4 [(0, 0, 399), (1, 0, 80), (2, 0, 79), (3, (-2147483648), 2147483647)] [((-1), [(1, 1), (2, (-1))])] [(0, .inr (.inr (.inl (some 94)))), (2, .inl (0, [(2, 1)]))] [] [(20073, (0, []), (0, [(1, 1)])), (19977, (0, []), (0, [(0, 1)])), (40704, (0, [(2, 1)]), (0, [(3, 1)])), (61000, (0, [(3, 1)]), (1, []))] [] 2 [(37, ([], 4, [(0, 0, 399), (1, 0, 80), (2, 0, 79), (3, (-2147483648), 2147483647)], [], [(0, .inr (.inr (.inl (some 94)))), (2, .inl (1, [(2, 1)]))], [], []))] [] = true := by decide +kernel
theorem bqa {cst : am_K} {strs : List Nat} {Φ : am_Q → Prop} {D : Nat} {M : am_M} {h : am_H} {l : am_L} (c : hp_C cst strs D) (hM : m_P[387]? = some M) (hD : (2 : Int) ≤ (D : Int) + 1) (hy : ly_hy m_tt ly_TH h) (g n i a : Int) (b0 : 0 ≤ g) (t0 : g ≤ 399) (b1 : 0 ≤ n) (t1 : n ≤ 80) (b2 : 0 ≤ i) (t2 : i ≤ 79) (b3 : (-2147483648) ≤ a) (t3 : a ≤ 2147483647) (f0 : 0 ≤ (n - i - 1)) (k0 : ly_hv cst h 20073 0 = some (n)) (k1 : ly_hv cst h 19977 0 = some (g)) (k2 : ly_hv cst h 40704 (i) = some (a)) (k3 : ly_hv cst h 61000 (a) = some 1) (l0 : hp_a l 0 94) (l2 : hp_i l 2 (i)) (e0 : ∀ (l' : am_L) (h' : am_H), ly_hy m_tt ly_TH h' → ly_fr cst [] h h' → h.length ≤ h'.length → hp_a l' 0 94 → hp_i l' 2 (i + 1) → hp_F cst strs Φ D M 37 l' [] h') : hp_F cst strs Φ D M 37 l [] h := by
  refine hp_arc c hM bqa_k hD [g, n, i, a] rfl hy (hp_Bc (z := g) rfl b0 t0 (hp_Bc (z := n) rfl b1 t1 (hp_Bc (z := i) rfl b2 t2 (hp_Bc (z := a) rfl b3 t3 hp_Bn)))) (hp_Fc (z := ((-1) + (1 * n + ((-1) * i + 0)))) rfl (by omega) hp_Fn) (hp_Kc (zi := (0 + 0)) (zv := (0 + (1 * n + 0))) k0 rfl rfl (by omega) (by omega) (hp_Kc (zi := (0 + 0)) (zv := (0 + (1 * g + 0))) k1 rfl rfl (by omega) (by omega) (hp_Kc (zi := (0 + (1 * i + 0))) (zv := (0 + (1 * a + 0))) k2 rfl rfl (by omega) (by omega) (hp_Kc (zi := (0 + (1 * a + 0))) (zv := (1 + 0)) k3 rfl rfl (by omega) (by omega) hp_Kn)))) (hp_La l0 (hp_Li (z := (0 + (1 * i + 0))) l2 rfl (by omega) hp_Ln)) trivial ?_ ?_
  · intro p hp ys l' st' h' hys a1 a2 a3 gZ gL gS
    rcases List.mem_cons.mp hp with rfl | hp
    · obtain rfl := hp_y0 hys
      cases hp_gSn gS
      exact e0 l' h' a1 a2 a3 (hp_gLa gL (List.mem_of_getElem? (i := 0) rfl) (by decide)) (hp_gLi (z := (1 + (1 * i + 0))) gL (List.mem_of_getElem? (i := 1) rfl) rfl (by omega))
    cases hp
  · intro p hp ys v h' hys a1 a2 a3 gZ gS
    cases hp
theorem bqb_k : hp_chk 387 37 4 [(0, 0, 399), (1, 0, 80), (2, 0, 79), (3, (-2147483648), 2147483647)] [((-1), [(1, 1), (2, (-1))]), (0, [(0, (-1)), (3, 1)])] [(0, .inr (.inr (.inl (some 94)))), (2, .inl (0, [(2, 1)]))] [] [(20073, (0, []), (0, [(1, 1)])), (19977, (0, []), (0, [(0, 1)])), (40704, (0, [(2, 1)]), (0, [])), (40192, (0, [(2, 1)]), (0, [(3, 1)]))] [] 2 [(37, ([], 4, [(0, 0, 399), (1, 0, 80), (2, 0, 79), (3, (-2147483648), 2147483647)], [], [(0, .inr (.inr (.inl (some 94)))), (2, .inl (1, [(2, 1)]))], [], []))] [] = true := by decide +kernel
theorem bqb {cst : am_K} {strs : List Nat} {Φ : am_Q → Prop} {D : Nat} {M : am_M} {h : am_H} {l : am_L} (c : hp_C cst strs D) (hM : m_P[387]? = some M) (hD : (2 : Int) ≤ (D : Int) + 1) (hy : ly_hy m_tt ly_TH h) (g n i e : Int) (b0 : 0 ≤ g) (t0 : g ≤ 399) (b1 : 0 ≤ n) (t1 : n ≤ 80) (b2 : 0 ≤ i) (t2 : i ≤ 79) (b3 : (-2147483648) ≤ e) (t3 : e ≤ 2147483647) (f0 : 0 ≤ (n - i - 1)) (f1 : 0 ≤ (e - g)) (k0 : ly_hv cst h 20073 0 = some (n)) (k1 : ly_hv cst h 19977 0 = some (g)) (k2 : ly_hv cst h 40704 (i) = some 0) (k3 : ly_hv cst h 40192 (i) = some (e)) (l0 : hp_a l 0 94) (l2 : hp_i l 2 (i)) (e0 : ∀ (l' : am_L) (h' : am_H), ly_hy m_tt ly_TH h' → ly_fr cst [] h h' → h.length ≤ h'.length → hp_a l' 0 94 → hp_i l' 2 (i + 1) → hp_F cst strs Φ D M 37 l' [] h') : hp_F cst strs Φ D M 37 l [] h := by
  refine hp_arc c hM bqb_k hD [g, n, i, e] rfl hy (hp_Bc (z := g) rfl b0 t0 (hp_Bc (z := n) rfl b1 t1 (hp_Bc (z := i) rfl b2 t2 (hp_Bc (z := e) rfl b3 t3 hp_Bn)))) (hp_Fc (z := ((-1) + (1 * n + ((-1) * i + 0)))) rfl (by omega) (hp_Fc (z := (0 + ((-1) * g + (1 * e + 0)))) rfl (by omega) hp_Fn)) (hp_Kc (zi := (0 + 0)) (zv := (0 + (1 * n + 0))) k0 rfl rfl (by omega) (by omega) (hp_Kc (zi := (0 + 0)) (zv := (0 + (1 * g + 0))) k1 rfl rfl (by omega) (by omega) (hp_Kc (zi := (0 + (1 * i + 0))) (zv := (0 + 0)) k2 rfl rfl (by omega) (by omega) (hp_Kc (zi := (0 + (1 * i + 0))) (zv := (0 + (1 * e + 0))) k3 rfl rfl (by omega) (by omega) hp_Kn)))) (hp_La l0 (hp_Li (z := (0 + (1 * i + 0))) l2 rfl (by omega) hp_Ln)) trivial ?_ ?_
  · intro p hp ys l' st' h' hys a1 a2 a3 gZ gL gS
    rcases List.mem_cons.mp hp with rfl | hp
    · obtain rfl := hp_y0 hys
      cases hp_gSn gS
      exact e0 l' h' a1 a2 a3 (hp_gLa gL (List.mem_of_getElem? (i := 0) rfl) (by decide)) (hp_gLi (z := (1 + (1 * i + 0))) gL (List.mem_of_getElem? (i := 1) rfl) rfl (by omega))
    cases hp
  · intro p hp ys v h' hys a1 a2 a3 gZ gS
    cases hp
theorem bqc_k : hp_chk 387 37 5 [(0, 0, 399), (1, 0, 80), (2, 0, 79), (3, (-2147483648), 2147483647), (4, (-2147483648), 2147483647)] [((-1), [(1, 1), (2, (-1))]), ((-1), [(0, 1), (3, (-1))])] [(0, .inr (.inr (.inl (some 94)))), (2, .inl (0, [(2, 1)]))] [] [(20073, (0, []), (0, [(1, 1)])), (19977, (0, []), (0, [(0, 1)])), (40704, (0, [(2, 1)]), (0, [])), (40192, (0, [(2, 1)]), (0, [(3, 1)])), (39424, (0, [(2, 1)]), (0, [(4, 1)]))] [] 2 [(92, ([], 5, [(0, 0, 399), (1, 0, 80), (2, 0, 79), (3, (-2147483648), 2147483647), (4, (-2147483648), 2147483647)], [], [(0, .inr (.inr (.inl (some 94)))), (2, .inl (0, [(2, 1)]))], [.inl (0, [(0, 1)]), .inl (0, [(3, 1)]), .inl (0, [(4, 1)]), .inr (.inr (.inl (some 94))), .inl (0, [(2, 1)]), .inr (.inr (.inl (some 175)))], []))] [] = true := by decide +kernel
theorem bqc {cst : am_K} {strs : List Nat} {Φ : am_Q → Prop} {D : Nat} {M : am_M} {h : am_H} {l : am_L} (c : hp_C cst strs D) (hM : m_P[387]? = some M) (hD : (2 : Int) ≤ (D : Int) + 1) (hy : ly_hy m_tt ly_TH h) (g n i e w : Int) (b0 : 0 ≤ g) (t0 : g ≤ 399) (b1 : 0 ≤ n) (t1 : n ≤ 80) (b2 : 0 ≤ i) (t2 : i ≤ 79) (b3 : (-2147483648) ≤ e) (t3 : e ≤ 2147483647) (b4 : (-2147483648) ≤ w) (t4 : w ≤ 2147483647) (f0 : 0 ≤ (n - i - 1)) (f1 : 0 ≤ (g - e - 1)) (k0 : ly_hv cst h 20073 0 = some (n)) (k1 : ly_hv cst h 19977 0 = some (g)) (k2 : ly_hv cst h 40704 (i) = some 0) (k3 : ly_hv cst h 40192 (i) = some (e)) (k4 : ly_hv cst h 39424 (i) = some (w)) (l0 : hp_a l 0 94) (l2 : hp_i l 2 (i)) (e0 : ∀ (l' : am_L) (h' : am_H) (y0 : Int32) (y1 : Int32) (y2 : Int32) (y4 : Int32), y0.toInt = (g) → y1.toInt = (e) → y2.toInt = (w) → y4.toInt = (i) → ly_hy m_tt ly_TH h' → ly_fr cst [] h h' → h.length ≤ h'.length → hp_a l' 0 94 → hp_i l' 2 (i) → hp_F cst strs Φ D M 92 l' [.int y0, .int y1, .int y2, .ref 94, .int y4, .ref 175] h') : hp_F cst strs Φ D M 37 l [] h := by
  refine hp_arc c hM bqc_k hD [g, n, i, e, w] rfl hy (hp_Bc (z := g) rfl b0 t0 (hp_Bc (z := n) rfl b1 t1 (hp_Bc (z := i) rfl b2 t2 (hp_Bc (z := e) rfl b3 t3 (hp_Bc (z := w) rfl b4 t4 hp_Bn))))) (hp_Fc (z := ((-1) + (1 * n + ((-1) * i + 0)))) rfl (by omega) (hp_Fc (z := ((-1) + (1 * g + ((-1) * e + 0)))) rfl (by omega) hp_Fn)) (hp_Kc (zi := (0 + 0)) (zv := (0 + (1 * n + 0))) k0 rfl rfl (by omega) (by omega) (hp_Kc (zi := (0 + 0)) (zv := (0 + (1 * g + 0))) k1 rfl rfl (by omega) (by omega) (hp_Kc (zi := (0 + (1 * i + 0))) (zv := (0 + 0)) k2 rfl rfl (by omega) (by omega) (hp_Kc (zi := (0 + (1 * i + 0))) (zv := (0 + (1 * e + 0))) k3 rfl rfl (by omega) (by omega) (hp_Kc (zi := (0 + (1 * i + 0))) (zv := (0 + (1 * w + 0))) k4 rfl rfl (by omega) (by omega) hp_Kn))))) (hp_La l0 (hp_Li (z := (0 + (1 * i + 0))) l2 rfl (by omega) hp_Ln)) trivial ?_ ?_
  · intro p hp ys l' st' h' hys a1 a2 a3 gZ gL gS
    rcases List.mem_cons.mp hp with rfl | hp
    · obtain rfl := hp_y0 hys
      obtain ⟨y0, t0, rfl, q0, g0⟩ := hp_gSi (z := (0 + (1 * g + 0))) gS rfl
      obtain ⟨y1, t1, rfl, q1, g1⟩ := hp_gSi (z := (0 + (1 * e + 0))) g0 rfl
      obtain ⟨y2, t2, rfl, q2, g2⟩ := hp_gSi (z := (0 + (1 * w + 0))) g1 rfl
      obtain ⟨t3, rfl, g3⟩ := hp_gSa g2 (by decide)
      obtain ⟨y4, t4, rfl, q4, g4⟩ := hp_gSi (z := (0 + (1 * i + 0))) g3 rfl
      obtain ⟨t5, rfl, g5⟩ := hp_gSa g4 (by decide)
      cases hp_gSn g5
      exact e0 l' h' y0 y1 y2 y4 (by omega) (by omega) (by omega) (by omega) a1 a2 a3 (hp_gLa gL (List.mem_of_getElem? (i := 0) rfl) (by decide)) (hp_gLi (z := (0 + (1 * i + 0))) gL (List.mem_of_getElem? (i := 1) rfl) rfl (by omega))
    cases hp
  · intro p hp ys v h' hys a1 a2 a3 gZ gS
    cases hp
theorem bqd_k : hp_chk 387 95 1 [(0, 0, 79)] [] [(0, .inr (.inr (.inl (some 94)))), (2, .inl (0, [(0, 1)]))] [.inl (1, []), .inl (0, [(0, 1)]), .inr (.inr (.inl (some 175)))] [] [] 2 [(103, ([], 1, [(0, 0, 79)], [], [(0, .inr (.inr (.inl (some 94)))), (2, .inl (0, [(0, 1)]))], [.inl (3, []), .inl (0, [(0, 1)]), .inr (.inr (.inl (some 175)))], []))] [] = true := by decide +kernel
theorem bqd {cst : am_K} {strs : List Nat} {Φ : am_Q → Prop} {D : Nat} {M : am_M} {h : am_H} {l : am_L} (c : hp_C cst strs D) (hM : m_P[387]? = some M) (hD : (2 : Int) ≤ (D : Int) + 1) (hy : ly_hy m_tt ly_TH h) (i : Int) (x0 : Int32) (x1 : Int32) (hx0 : x0.toInt = 1) (hx1 : x1.toInt = (i)) (b0 : 0 ≤ i) (t0 : i ≤ 79) (l0 : hp_a l 0 94) (l2 : hp_i l 2 (i)) (e0 : ∀ (l' : am_L) (h' : am_H) (y0 : Int32) (y1 : Int32), y0.toInt = 3 → y1.toInt = (i) → ly_hy m_tt ly_TH h' → ly_fr cst [] h h' → h.length ≤ h'.length → hp_a l' 0 94 → hp_i l' 2 (i) → hp_F cst strs Φ D M 103 l' [.int y0, .int y1, .ref 175] h') : hp_F cst strs Φ D M 95 l [.int x0, .int x1, .ref 175] h := by
  refine hp_arc c hM bqd_k hD [i] rfl hy (hp_Bc (z := i) rfl b0 t0 hp_Bn) hp_Fn hp_Kn (hp_La l0 (hp_Li (z := (0 + (1 * i + 0))) l2 rfl (by omega) hp_Ln)) (hp_Si (z := (1 + 0)) rfl (by omega) (hp_Si (z := (0 + (1 * i + 0))) rfl (by omega) (hp_Sa trivial))) ?_ ?_
  · intro p hp ys l' st' h' hys a1 a2 a3 gZ gL gS
    rcases List.mem_cons.mp hp with rfl | hp
    · obtain rfl := hp_y0 hys
      obtain ⟨y0, t0, rfl, q0, g0⟩ := hp_gSi (z := (3 + 0)) gS rfl
      obtain ⟨y1, t1, rfl, q1, g1⟩ := hp_gSi (z := (0 + (1 * i + 0))) g0 rfl
      obtain ⟨t2, rfl, g2⟩ := hp_gSa g1 (by decide)
      cases hp_gSn g2
      exact e0 l' h' y0 y1 (by omega) (by omega) a1 a2 a3 (hp_gLa gL (List.mem_of_getElem? (i := 0) rfl) (by decide)) (hp_gLi (z := (0 + (1 * i + 0))) gL (List.mem_of_getElem? (i := 1) rfl) rfl (by omega))
    cases hp
  · intro p hp ys v h' hys a1 a2 a3 gZ gS
    cases hp
theorem bqe_k : hp_chk 387 95 1 [(0, 0, 79)] [] [(0, .inr (.inr (.inl (some 94)))), (2, .inl (0, [(0, 1)]))] [.inl (0, []), .inl (0, [(0, 1)]), .inr (.inr (.inl (some 175)))] [] [] 2 [(103, ([], 1, [(0, 0, 79)], [], [(0, .inr (.inr (.inl (some 94)))), (2, .inl (0, [(0, 1)]))], [.inl (2, []), .inl (0, [(0, 1)]), .inr (.inr (.inl (some 175)))], []))] [] = true := by decide +kernel
theorem bqe {cst : am_K} {strs : List Nat} {Φ : am_Q → Prop} {D : Nat} {M : am_M} {h : am_H} {l : am_L} (c : hp_C cst strs D) (hM : m_P[387]? = some M) (hD : (2 : Int) ≤ (D : Int) + 1) (hy : ly_hy m_tt ly_TH h) (i : Int) (x0 : Int32) (x1 : Int32) (hx0 : x0.toInt = 0) (hx1 : x1.toInt = (i)) (b0 : 0 ≤ i) (t0 : i ≤ 79) (l0 : hp_a l 0 94) (l2 : hp_i l 2 (i)) (e0 : ∀ (l' : am_L) (h' : am_H) (y0 : Int32) (y1 : Int32), y0.toInt = 2 → y1.toInt = (i) → ly_hy m_tt ly_TH h' → ly_fr cst [] h h' → h.length ≤ h'.length → hp_a l' 0 94 → hp_i l' 2 (i) → hp_F cst strs Φ D M 103 l' [.int y0, .int y1, .ref 175] h') : hp_F cst strs Φ D M 95 l [.int x0, .int x1, .ref 175] h := by
  refine hp_arc c hM bqe_k hD [i] rfl hy (hp_Bc (z := i) rfl b0 t0 hp_Bn) hp_Fn hp_Kn (hp_La l0 (hp_Li (z := (0 + (1 * i + 0))) l2 rfl (by omega) hp_Ln)) (hp_Si (z := (0 + 0)) rfl (by omega) (hp_Si (z := (0 + (1 * i + 0))) rfl (by omega) (hp_Sa trivial))) ?_ ?_
  · intro p hp ys l' st' h' hys a1 a2 a3 gZ gL gS
    rcases List.mem_cons.mp hp with rfl | hp
    · obtain rfl := hp_y0 hys
      obtain ⟨y0, t0, rfl, q0, g0⟩ := hp_gSi (z := (2 + 0)) gS rfl
      obtain ⟨y1, t1, rfl, q1, g1⟩ := hp_gSi (z := (0 + (1 * i + 0))) g0 rfl
      obtain ⟨t2, rfl, g2⟩ := hp_gSa g1 (by decide)
      cases hp_gSn g2
      exact e0 l' h' y0 y1 (by omega) (by omega) a1 a2 a3 (hp_gLa gL (List.mem_of_getElem? (i := 0) rfl) (by decide)) (hp_gLi (z := (0 + (1 * i + 0))) gL (List.mem_of_getElem? (i := 1) rfl) rfl (by omega))
    cases hp
  · intro p hp ys v h' hys a1 a2 a3 gZ gS
    cases hp
theorem bqf_k : hp_chk 387 104 1 [(0, 0, 79)] [] [(0, .inr (.inr (.inl (some 94)))), (2, .inl (0, [(0, 1)]))] [] [] [20053] 2 [(37, ([], 1, [(0, 0, 79)], [], [(0, .inr (.inr (.inl (some 94)))), (2, .inl (1, [(0, 1)]))], [], []))] [] = true := by decide +kernel
theorem bqf {cst : am_K} {strs : List Nat} {Φ : am_Q → Prop} {D : Nat} {M : am_M} {h : am_H} {l : am_L} (c : hp_C cst strs D) (hM : m_P[387]? = some M) (hD : (2 : Int) ≤ (D : Int) + 1) (hy : ly_hy m_tt ly_TH h) (i : Int) (b0 : 0 ≤ i) (t0 : i ≤ 79) (l0 : hp_a l 0 94) (l2 : hp_i l 2 (i)) (e0 : ∀ (l' : am_L) (h' : am_H), ly_hy m_tt ly_TH h' → ly_fr cst [20053] h h' → h.length ≤ h'.length → hp_a l' 0 94 → hp_i l' 2 (i + 1) → hp_F cst strs Φ D M 37 l' [] h') : hp_F cst strs Φ D M 104 l [] h := by
  refine hp_arc c hM bqf_k hD [i] rfl hy (hp_Bc (z := i) rfl b0 t0 hp_Bn) hp_Fn hp_Kn (hp_La l0 (hp_Li (z := (0 + (1 * i + 0))) l2 rfl (by omega) hp_Ln)) trivial ?_ ?_
  · intro p hp ys l' st' h' hys a1 a2 a3 gZ gL gS
    rcases List.mem_cons.mp hp with rfl | hp
    · obtain rfl := hp_y0 hys
      cases hp_gSn gS
      exact e0 l' h' a1 a2 a3 (hp_gLa gL (List.mem_of_getElem? (i := 0) rfl) (by decide)) (hp_gLi (z := (1 + (1 * i + 0))) gL (List.mem_of_getElem? (i := 1) rfl) rfl (by omega))
    cases hp
  · intro p hp ys v h' hys a1 a2 a3 gZ gS
    cases hp
theorem bqg_k : hp_chk 387 37 2 [(0, 0, 399), (1, 0, 80)] [] [(0, .inr (.inr (.inl (some 94)))), (2, .inl (0, [(1, 1)]))] [] [(20073, (0, []), (0, [(1, 1)])), (19977, (0, []), (0, [(0, 1)]))] [] 2 [] [([], 2, [(0, 0, 399), (1, 0, 80)], [], [], [.inl (0, [(0, 1)])], [(19977, (0, []), (0, [(0, 1)]))])] = true := by decide +kernel
theorem bqg {cst : am_K} {strs : List Nat} {Φ : am_Q → Prop} {D : Nat} {M : am_M} {h : am_H} {l : am_L} (c : hp_C cst strs D) (hM : m_P[387]? = some M) (hD : (2 : Int) ≤ (D : Int) + 1) (hy : ly_hy m_tt ly_TH h) (g n : Int) (b0 : 0 ≤ g) (t0 : g ≤ 399) (b1 : 0 ≤ n) (t1 : n ≤ 80) (k0 : ly_hv cst h 20073 0 = some (n)) (k1 : ly_hv cst h 19977 0 = some (g)) (l0 : hp_a l 0 94) (l2 : hp_i l 2 (n)) (r0 : ∀ (h' : am_H) (y0 : Int32), y0.toInt = (g) → ly_hy m_tt ly_TH h' → ly_fr cst [] h h' → h.length ≤ h'.length → ly_hv cst h' 19977 0 = some (g) → Φ (some (.int y0), h', 0, 0)) : hp_F cst strs Φ D M 37 l [] h := by
  refine hp_arc c hM bqg_k hD [g, n] rfl hy (hp_Bc (z := g) rfl b0 t0 (hp_Bc (z := n) rfl b1 t1 hp_Bn)) hp_Fn (hp_Kc (zi := (0 + 0)) (zv := (0 + (1 * n + 0))) k0 rfl rfl (by omega) (by omega) (hp_Kc (zi := (0 + 0)) (zv := (0 + (1 * g + 0))) k1 rfl rfl (by omega) (by omega) hp_Kn)) (hp_La l0 (hp_Li (z := (0 + (1 * n + 0))) l2 rfl (by omega) hp_Ln)) trivial ?_ ?_
  · intro p hp ys l' st' h' hys a1 a2 a3 gZ gL gS
    cases hp
  · intro p hp ys v h' hys a1 a2 a3 gZ gS
    rcases List.mem_cons.mp hp with rfl | hp
    · obtain rfl := hp_y0 hys
      cases v with
      | none => cases gS
      | some w =>
        obtain ⟨y0, t0, s0, q0, -⟩ := hp_gSi (z := (0 + (1 * g + 0))) gS rfl
        cases s0
        exact r0 h' y0 (by omega) a1 a2 a3 (hp_gK (zi := (0 + 0)) (zv := (0 + (1 * g + 0))) gZ.2.2.2 (List.mem_of_getElem? (i := 0) rfl) rfl rfl (by omega) (by omega))
    cases hp
/-- places below i that V tells get its value, the others stand -/
def bu (V : Int → Int → Prop) (S : Int → Option Int) (i : Int) (S' : Int → Option Int) : Prop := ∀ k, ((0 ≤ k ∧ k < i) → ∀ v, V k v → S' k = some v) ∧ ((¬ (0 ≤ k ∧ k < i) ∨ ∀ v, ¬ V k v) → S' k = S k)
theorem bu_0 (V : Int → Int → Prop) (S : Int → Option Int) : bu V S 0 S := fun k => ⟨fun h => by omega, fun _ => rfl⟩
theorem bu_no {V : Int → Int → Prop} {S S' : Int → Option Int} {i : Int} (H : bu V S i S') (no : ∀ v, ¬ V i v) : bu V S (i + 1) S' := by
  intro k
  refine ⟨fun h v hv => ?_, fun h => ?_⟩
  · by_cases q : k = i
    · subst q
      exact absurd hv (no v)
    · exact (H k).1 (by omega) v hv
  · refine (H k).2 ?_
    rcases h with h | h
    · exact Or.inl (by omega)
    · exact Or.inr h
theorem bu_yes {V : Int → Int → Prop} {S S' : Int → Option Int} {i w : Int} (i0 : 0 ≤ i) (H : bu V S i S') (hw : V i w) (un : ∀ v, V i v → v = w) : bu V S (i + 1) (hp_upd S' i w) := by
  intro k
  by_cases q : k = i
  · subst q
    refine ⟨fun _ v hv => ?_, fun h => ?_⟩
    · rw [un v hv]
      exact if_pos rfl
    · rcases h with h | h
      · omega
      · exact absurd hw (h w)
  · refine ⟨fun h v hv => ?_, fun h => ?_⟩
    · rw [show hp_upd S' i w k = S' k from if_neg q]
      exact (H k).1 (by omega) v hv
    · rw [show hp_upd S' i w k = S' k from if_neg q]
      refine (H k).2 ?_
      rcases h with h | h
      · exact Or.inl (by omega)
      · exact Or.inr h
theorem bu_at {V : Int → Int → Prop} {S S' : Int → Option Int} {i : Int} (H : bu V S i S') : S' i = S i := (H i).2 (Or.inl (by omega))
theorem bu_uni {V V' : Int → Int → Prop} {S S' S'' : Int → Option Int} {i : Int} (hV : ∀ k v, 0 ≤ k → k < i → (V k v ↔ V' k v)) (H : bu V S i S') (H' : bu V' S i S'') : S' = S'' := by
  funext k
  by_cases r : 0 ≤ k ∧ k < i
  · by_cases e : ∃ v, V k v
    · obtain ⟨v, hv⟩ := e
      rw [(H k).1 r v hv, (H' k).1 r v ((hV k v r.1 r.2).mp hv)]
    · have n1 : ∀ v, ¬ V k v := fun v hv => e ⟨v, hv⟩
      have n2 : ∀ v, ¬ V' k v := fun v hv => e ⟨v, (hV k v r.1 r.2).mpr hv⟩
      rw [(H k).2 (Or.inr n1), (H' k).2 (Or.inr n2)]
  · rw [(H k).2 (Or.inl r), (H' k).2 (Or.inl r)]
/-- a bond that runs out by g: its state -/
def bo_V (S T : Int → Option Int) (g : Int) (Dd : Int → Prop) (k v : Int) : Prop := S k = some 0 ∧ (∃ e, T k = some e ∧ e < g) ∧ ((Dd k ∧ v = 3) ∨ (¬ Dd k ∧ v = 2))
theorem bo_un {S T : Int → Option Int} {g : Int} {Dd : Int → Prop} {k v w : Int} (a : bo_V S T g Dd k v) (b : bo_V S T g Dd k w) : v = w := by
  rcases a.2.2 with ⟨d, e⟩ | ⟨d, e⟩
  · rcases b.2.2 with ⟨d', e'⟩ | ⟨d', e'⟩
    · omega
    · exact absurd d d'
  · rcases b.2.2 with ⟨d', e'⟩ | ⟨d', e'⟩
    · exact absurd d' d
    · omega
def bo_D (W T K O N F : Int → Option Int) (t : Int) (known : Int → Int) (k : Int) : Prop := ∃ w e, W k = some w ∧ T k = some e ∧ dd K O N F t w e (known e)
def bo_ok (x v : Int) : Prop := 1 ≤ x ∧ x ≤ 100 ∧ v + x ≤ 399
theorem bx_loop {cst : am_K} {strs : List Nat} {D : Nat} {M : am_M} {h0 : am_H} (c1 : hp_C cst strs D) (c : hp_C cst strs (D + 1)) (hM : m_P[32]? = some M) (hD : (2 : Int) ≤ (D : Int) + 1) {g n t : Int} (g0 : 0 ≤ g) (g1 : g ≤ 399) (n0 : 0 ≤ n) (n1 : n ≤ 80) (t0 : 0 ≤ t) (t1 : t ≤ 300) (hy0 : ly_hy m_tt ly_TH h0) : ∀ (N : Nat) (h : am_H) (l : am_L) (i : Int), (n - i).toNat < N → 0 ≤ i → i ≤ n → ly_hy m_tt ly_TH h → ly_fr cst [11015, 13824] h0 h → ly_hv cst h 11014 0 = some n → ly_hv cst h 1537 0 = some t → bu (bo_V (ly_hv cst h0 13824) (ly_hv cst h0 13312) g (bo_D (ly_hv cst h0 12544) (ly_hv cst h0 13312) (ly_hv cst h0 2304) (ly_hv cst h0 2560) (ly_hv cst h0 3328) (ly_hv cst h0 3072) t (fun e => e))) (ly_hv cst h0 13824) i (ly_hv cst h 13824) → hp_a l 0 59 → hp_i l 1 g → hp_a l 2 22 → hp_i l 3 i → hp_F cst strs (fun r : am_Q => r.1 = none ∧ r.2.2.1 = 0 ∧ r.2.2.2 = 0 ∧ ly_hy m_tt ly_TH r.2.1 ∧ ly_fr cst [11015, 13824] h0 r.2.1 ∧ bu (bo_V (ly_hv cst h0 13824) (ly_hv cst h0 13312) g (bo_D (ly_hv cst h0 12544) (ly_hv cst h0 13312) (ly_hv cst h0 2304) (ly_hv cst h0 2560) (ly_hv cst h0 3328) (ly_hv cst h0 3072) t (fun e => e))) (ly_hv cst h0 13824) n (ly_hv cst r.2.1 13824)) (D + 1) M 2 l [] h := by
  intro N
  induction N with
  | zero => intro h l i hN; omega
  | succ N ih =>
    intro h l i hN i0 i1 hy fr kn kt H l0 l1 l2 l3
    have eT : ly_hv cst h 13312 = ly_hv cst h0 13312 := hp_same (show ly_ths ly_TH 52 = some (.inl (.int, 80, -2147483648, 2147483647)) from rfl) rfl hy0 hy fr
    have eW : ly_hv cst h 12544 = ly_hv cst h0 12544 := hp_same (show ly_ths ly_TH 49 = some (.inl (.int, 80, -2147483648, 2147483647)) from rfl) rfl hy0 hy fr
    by_cases hi : i = n
    · subst hi
      exact bxg c hM (by omega) hy g i g0 g1 n0 n1 kn l0 l1 l2 l3 (fun h2 u1 u2 u3 => ⟨rfl, rfl, rfl, u1, ly_fr_tr fr (fun r i v _ e => u2 r i v rfl e), by show bu _ _ _ (ly_hv cst h2 13824); rw [hp_same (show ly_ths ly_TH 54 = some (.inl (.int, 80, -2147483648, 2147483647)) from rfl) rfl hy u1 u2]; exact H⟩)
    · skip
      obtain ⟨xa, ka, ab0, ab1⟩ := hp_row (cst := cst) (i := i) hy (show ly_ths ly_TH 54 = some (.inl (.int, 80, -2147483648, 2147483647)) from rfl) i0 (by omega)
      obtain ⟨xe, ke, eb0, eb1⟩ := hp_row (cst := cst) (i := i) hy (show ly_ths ly_TH 52 = some (.inl (.int, 80, -2147483648, 2147483647)) from rfl) i0 (by omega)
      obtain ⟨xw, kw, wb0, wb1⟩ := hp_row (cst := cst) (i := i) hy (show ly_ths ly_TH 49 = some (.inl (.int, 80, -2147483648, 2147483647)) from rfl) i0 (by omega)
      have ka' : ly_hv cst h0 13824 i = some xa := by rw [← bu_at H]; exact ka
      have ke' : ly_hv cst h0 13312 i = some xe := by rw [← eT]; exact ke
      have kw' : ly_hv cst h0 12544 i = some xw := by rw [← eW]; exact kw
      have next : (∀ v, ¬ (bo_V (ly_hv cst h0 13824) (ly_hv cst h0 13312) g (bo_D (ly_hv cst h0 12544) (ly_hv cst h0 13312) (ly_hv cst h0 2304) (ly_hv cst h0 2560) (ly_hv cst h0 3328) (ly_hv cst h0 3072) t (fun e => e))) i v) → ∀ (l' : am_L) (h2 : am_H), ly_hy m_tt ly_TH h2 → ly_fr cst [] h h2 → h.length ≤ h2.length → hp_a l' 0 59 → hp_i l' 1 g → hp_a l' 2 22 → hp_i l' 3 (i + 1) → hp_F cst strs (fun r : am_Q => r.1 = none ∧ r.2.2.1 = 0 ∧ r.2.2.2 = 0 ∧ ly_hy m_tt ly_TH r.2.1 ∧ ly_fr cst [11015, 13824] h0 r.2.1 ∧ bu (bo_V (ly_hv cst h0 13824) (ly_hv cst h0 13312) g (bo_D (ly_hv cst h0 12544) (ly_hv cst h0 13312) (ly_hv cst h0 2304) (ly_hv cst h0 2560) (ly_hv cst h0 3328) (ly_hv cst h0 3072) t (fun e => e))) (ly_hv cst h0 13824) n (ly_hv cst r.2.1 13824)) (D + 1) M 2 l' [] h2 := fun nv l' h2 u1 u2 u3 l0' l1' l2' l3' => ih h2 l' (i + 1) (by omega) (by omega) (by omega) u1 (ly_fr_tr fr (fun r i v _ e => u2 r i v rfl e)) (u2 _ _ _ rfl kn) (u2 _ _ _ rfl kt) (by rw [hp_same (show ly_ths ly_TH 54 = some (.inl (.int, 80, -2147483648, 2147483647)) from rfl) rfl hy u1 u2]; exact bu_no H nv) l0' l1' l2' l3'
      by_cases qa : xa = 0
      rotate_left
      · exact bxa c hM (by omega) hy g n i xa g0 g1 n0 n1 i0 (by omega) ab0 ab1 (by omega) kn ka (hp_ne (by omega)) l0 l1 l2 l3 (next (fun v hv => by
          have := hv.1
          rw [ka'] at this
          cases this
          exact qa rfl))
      subst qa
      by_cases qe : xe < g
      rotate_left
      · exact bxb c hM (by omega) hy g n i xe g0 g1 n0 n1 i0 (by omega) eb0 eb1 (by omega) (by omega) kn ka ke l0 l1 l2 l3 (next (fun v hv => by
          obtain ⟨-, ⟨e', h1, h2⟩, -⟩ := hv
          rw [ke'] at h1
          cases h1
          exact qe h2))
      refine bxc c hM (by omega) hy g n i xe xw g0 g1 n0 n1 i0 (by omega) eb0 eb1 wb0 wb1 (by omega) (by omega) kn ka ke kw l0 l1 l2 l3 (fun l1 h1 y0 y1 y2 f0 f1 f2 u1 u2 u3 m0 m1 m2 m3 => ?_)
      obtain ⟨r, hrun, a, r1, r2, r3, rhy, rfr, ra⟩ := dc_run (xp := y2) (xy := y1) (xz := y0) c1 hD u1 t0 t1 (u2 _ _ _ rfl kt)
      refine hp_call (mi := 32) (pc := 48) (tg := 33) (na := 4) (c := 6) (ci := 2) (st0 := [.int y0, .int y1, .int y2, .ref 22]) (st := []) (av := [.int y2, .int y1, .int y0]) hM (by decide +kernel) u1 rfl rfl rfl (Nat.le_of_ble_eq_true rfl) hrun r2 r3 ?_
      rw [r1]
      have fr1 : ly_fr cst [11015, 13824] h0 h1 := ly_fr_tr fr (fun r i v _ e => u2 r i v rfl e)
      rw [f0, f1, f2, hp_same (show ly_ths ly_TH 9 = some (.inl (.int, 300, -2147483648, 2147483647)) from rfl) rfl hy0 u1 fr1, hp_same (show ly_ths ly_TH 10 = some (.inl (.int, 300, -2147483648, 2147483647)) from rfl) rfl hy0 u1 fr1, hp_same (show ly_ths ly_TH 13 = some (.inl (.int, 300, -2147483648, 2147483647)) from rfl) rfl hy0 u1 fr1, hp_same (show ly_ths ly_TH 12 = some (.inl (.int, 300, -2147483648, 2147483647)) from rfl) rfl hy0 u1 fr1] at ra
      have fr2 : ly_fr cst [11015, 13824] h0 r.2.1 := ly_fr_tr fr1 (fun r i v _ e => rfr r i v rfl e)
      have H2 : bu (bo_V (ly_hv cst h0 13824) (ly_hv cst h0 13312) g (bo_D (ly_hv cst h0 12544) (ly_hv cst h0 13312) (ly_hv cst h0 2304) (ly_hv cst h0 2560) (ly_hv cst h0 3328) (ly_hv cst h0 3072) t (fun e => e))) (ly_hv cst h0 13824) i (ly_hv cst r.2.1 13824) := by rw [hp_same (show ly_ths ly_TH 54 = some (.inl (.int, 80, -2147483648, 2147483647)) from rfl) rfl u1 rhy rfr, hp_same (show ly_ths ly_TH 54 = some (.inl (.int, 80, -2147483648, 2147483647)) from rfl) rfl hy u1 u2]; exact H
      have store : ∀ (v d : Int), (bo_V (ly_hv cst h0 13824) (ly_hv cst h0 13312) g (bo_D (ly_hv cst h0 12544) (ly_hv cst h0 13312) (ly_hv cst h0 2304) (ly_hv cst h0 2560) (ly_hv cst h0 3328) (ly_hv cst h0 3072) t (fun e => e))) i v → 0 ≤ d → d ≤ 1 → ∀ (l' : am_L) (h2 : am_H) (z0 z1 : Int32), z0.toInt = v → z1.toInt = i → ly_hy m_tt ly_TH h2 → ly_fr cst [] r.2.1 h2 → r.2.1.length ≤ h2.length → hp_a l' 0 59 → hp_i l' 1 g → hp_a l' 2 22 → hp_i l' 3 i → hp_i l' 4 d → hp_F cst strs (fun r : am_Q => r.1 = none ∧ r.2.2.1 = 0 ∧ r.2.2.2 = 0 ∧ ly_hy m_tt ly_TH r.2.1 ∧ ly_fr cst [11015, 13824] h0 r.2.1 ∧ bu (bo_V (ly_hv cst h0 13824) (ly_hv cst h0 13312) g (bo_D (ly_hv cst h0 12544) (ly_hv cst h0 13312) (ly_hv cst h0 2304) (ly_hv cst h0 2560) (ly_hv cst h0 3328) (ly_hv cst h0 3072) t (fun e => e))) (ly_hv cst h0 13824) n (ly_hv cst r.2.1 13824)) (D + 1) M 68 l' [.int z0, .int z1, .ref 70] h2 := by
        intro v d hv d0 d1 l' h2 z0 z1 ez0 ez1 s1 s2 s3 j0 j1 j2 j3 j4
        refine hp_st (c := 54) hM (by decide +kernel) s1 (show ly_ths ly_TH 54 = some (.inl (.int, 80, -2147483648, 2147483647)) from rfl) rfl (by omega) (by omega) z0.le_toInt z0.toInt_le (fun h3 q1 q2 q3 => ?_)
        rw [ez0, ez1] at q3
        refine bxf c hM (by omega) q1 g i d g0 g1 i0 (by omega) d0 d1 j0 j1 j2 j3 j4 (fun l4 h4 k1 k2 k3 p0 p1 p2 p3 => ?_)
        have fr3 : ly_fr cst [11015, 13824] r.2.1 h4 := ly_fr_tr (fun r i v _ e => s2 r i v rfl e) (ly_fr_tr (hp_put_fr (by rfl) q3) (hp_sub rfl k2))
        refine ih h4 l4 (i + 1) (by omega) (by omega) (by omega) k1 (ly_fr_tr fr2 fr3) (fr3 _ _ _ rfl (rfr _ _ _ rfl (u2 _ _ _ rfl kn))) (fr3 _ _ _ rfl (rfr _ _ _ rfl (u2 _ _ _ rfl kt))) ?_ p0 p1 p2 p3
        rw [hp_same (show ly_ths ly_TH 54 = some (.inl (.int, 80, -2147483648, 2147483647)) from rfl) rfl q1 k1 k2, hp_put_eq q3, hp_same (show ly_ths ly_TH 54 = some (.inl (.int, 80, -2147483648, 2147483647)) from rfl) rfl rhy s1 s2]
        exact bu_yes i0 H2 hv (fun w hw => bo_un hw hv)
      by_cases q : dd (ly_hv cst h0 2304) (ly_hv cst h0 2560) (ly_hv cst h0 3328) (ly_hv cst h0 3072) t xw xe xe
      · exact bxd c hM (by omega) rhy g i a (ra.1 q) g0 g1 i0 (by omega) m0 m1 m2 m3 (store 3 1 ⟨ka', ⟨xe, ke', qe⟩, Or.inl ⟨⟨xw, xe, kw', ke', q⟩, rfl⟩⟩ (by omega) (by omega))
      · exact bxe c hM (by omega) rhy g i a (ra.2 q) g0 g1 i0 (by omega) m0 m1 m2 m3 (store 2 0 ⟨ka', ⟨xe, ke', qe⟩, Or.inr ⟨fun ⟨w', e', h1, h2, h3⟩ => by
          rw [kw'] at h1
          rw [ke'] at h2
          cases h1
          cases h2
          exact q h3, rfl⟩⟩ (by omega) (by omega))
theorem bq_loop {cst : am_K} {strs : List Nat} {D : Nat} {M : am_M} {h0 : am_H} (c1 : hp_C cst strs D) (c : hp_C cst strs (D + 1)) (hM : m_P[387]? = some M) (hD : (2 : Int) ≤ (D : Int) + 1) {g n t : Int} (g0 : 0 ≤ g) (g1 : g ≤ 399) (n0 : 0 ≤ n) (n1 : n ≤ 80) (t0 : 0 ≤ t) (t1 : t ≤ 300) (hy0 : ly_hy m_tt ly_TH h0) : ∀ (N : Nat) (h : am_H) (l : am_L) (i : Int), (n - i).toNat < N → 0 ≤ i → i ≤ n → ly_hy m_tt ly_TH h → ly_fr cst [19977, 20053, 40704] h0 h → ly_hv cst h 20073 0 = some n → ly_hv cst h 19982 0 = some t → ly_hv cst h 19977 0 = some g → bu (bo_V (ly_hv cst h0 40704) (ly_hv cst h0 40192) g (bo_D (ly_hv cst h0 39424) (ly_hv cst h0 40192) (ly_hv cst h0 21248) (ly_hv cst h0 21504) (ly_hv cst h0 22528) (ly_hv cst h0 22272) t (fun _ => g))) (ly_hv cst h0 40704) i (ly_hv cst h 40704) → hp_a l 0 94 → hp_i l 2 i → hp_F cst strs (fun r : am_Q => (∃ a : Int32, r.1 = some (.int a)) ∧ r.2.2.1 = 0 ∧ r.2.2.2 = 0 ∧ ly_hy m_tt ly_TH r.2.1 ∧ ly_fr cst [19977, 20053, 40704] h0 r.2.1 ∧ ly_hv cst r.2.1 19977 0 = some g ∧ bu (bo_V (ly_hv cst h0 40704) (ly_hv cst h0 40192) g (bo_D (ly_hv cst h0 39424) (ly_hv cst h0 40192) (ly_hv cst h0 21248) (ly_hv cst h0 21504) (ly_hv cst h0 22528) (ly_hv cst h0 22272) t (fun _ => g))) (ly_hv cst h0 40704) n (ly_hv cst r.2.1 40704)) (D + 1) M 37 l [] h := by
  intro N
  induction N with
  | zero => intro h l i hN; omega
  | succ N ih =>
    intro h l i hN i0 i1 hy fr kn kt kg H l0 l2
    have eT : ly_hv cst h 40192 = ly_hv cst h0 40192 := hp_same (show ly_ths ly_TH 157 = some (.inl (.int, 80, -2147483648, 2147483647)) from rfl) rfl hy0 hy fr
    have eW : ly_hv cst h 39424 = ly_hv cst h0 39424 := hp_same (show ly_ths ly_TH 154 = some (.inl (.int, 80, -2147483648, 2147483647)) from rfl) rfl hy0 hy fr
    by_cases hi : i = n
    · subst hi
      exact bqg c hM (by omega) hy g i g0 g1 n0 n1 kn kg l0 l2 (fun h2 a ha u1 u2 u3 k1 => ⟨⟨a, rfl⟩, rfl, rfl, u1, ly_fr_tr fr (fun r i v _ e => u2 r i v rfl e), k1, by show bu _ _ _ (ly_hv cst h2 40704); rw [hp_same (show ly_ths ly_TH 159 = some (.inl (.int, 80, -2147483648, 2147483647)) from rfl) rfl hy u1 u2]; exact H⟩)
    · skip
      obtain ⟨xa, ka, ab0, ab1⟩ := hp_row (cst := cst) (i := i) hy (show ly_ths ly_TH 159 = some (.inl (.int, 80, -2147483648, 2147483647)) from rfl) i0 (by omega)
      obtain ⟨xe, ke, eb0, eb1⟩ := hp_row (cst := cst) (i := i) hy (show ly_ths ly_TH 157 = some (.inl (.int, 80, -2147483648, 2147483647)) from rfl) i0 (by omega)
      obtain ⟨xw, kw, wb0, wb1⟩ := hp_row (cst := cst) (i := i) hy (show ly_ths ly_TH 154 = some (.inl (.int, 80, -2147483648, 2147483647)) from rfl) i0 (by omega)
      have ka' : ly_hv cst h0 40704 i = some xa := by rw [← bu_at H]; exact ka
      have ke' : ly_hv cst h0 40192 i = some xe := by rw [← eT]; exact ke
      have kw' : ly_hv cst h0 39424 i = some xw := by rw [← eW]; exact kw
      have next : (∀ v, ¬ (bo_V (ly_hv cst h0 40704) (ly_hv cst h0 40192) g (bo_D (ly_hv cst h0 39424) (ly_hv cst h0 40192) (ly_hv cst h0 21248) (ly_hv cst h0 21504) (ly_hv cst h0 22528) (ly_hv cst h0 22272) t (fun _ => g))) i v) → ∀ (l' : am_L) (h2 : am_H), ly_hy m_tt ly_TH h2 → ly_fr cst [] h h2 → h.length ≤ h2.length → hp_a l' 0 94 → hp_i l' 2 (i + 1) → hp_F cst strs (fun r : am_Q => (∃ a : Int32, r.1 = some (.int a)) ∧ r.2.2.1 = 0 ∧ r.2.2.2 = 0 ∧ ly_hy m_tt ly_TH r.2.1 ∧ ly_fr cst [19977, 20053, 40704] h0 r.2.1 ∧ ly_hv cst r.2.1 19977 0 = some g ∧ bu (bo_V (ly_hv cst h0 40704) (ly_hv cst h0 40192) g (bo_D (ly_hv cst h0 39424) (ly_hv cst h0 40192) (ly_hv cst h0 21248) (ly_hv cst h0 21504) (ly_hv cst h0 22528) (ly_hv cst h0 22272) t (fun _ => g))) (ly_hv cst h0 40704) n (ly_hv cst r.2.1 40704)) (D + 1) M 37 l' [] h2 := fun nv l' h2 u1 u2 u3 l0' l2' => ih h2 l' (i + 1) (by omega) (by omega) (by omega) u1 (ly_fr_tr fr (fun r i v _ e => u2 r i v rfl e)) (u2 _ _ _ rfl kn) (u2 _ _ _ rfl kt) (u2 _ _ _ rfl kg) (by rw [hp_same (show ly_ths ly_TH 159 = some (.inl (.int, 80, -2147483648, 2147483647)) from rfl) rfl hy u1 u2]; exact bu_no H nv) l0' l2'
      by_cases qa : xa = 0
      rotate_left
      · exact bqa c hM (by omega) hy g n i xa g0 g1 n0 n1 i0 (by omega) ab0 ab1 (by omega) kn kg ka (hp_ne (by omega)) l0 l2 (next (fun v hv => by
          have := hv.1
          rw [ka'] at this
          cases this
          exact qa rfl))
      subst qa
      by_cases qe : xe < g
      rotate_left
      · exact bqb c hM (by omega) hy g n i xe g0 g1 n0 n1 i0 (by omega) eb0 eb1 (by omega) (by omega) kn kg ka ke l0 l2 (next (fun v hv => by
          obtain ⟨-, ⟨e', h1, h2⟩, -⟩ := hv
          rw [ke'] at h1
          cases h1
          exact qe h2))
      refine bqc c hM (by omega) hy g n i xe xw g0 g1 n0 n1 i0 (by omega) eb0 eb1 wb0 wb1 (by omega) (by omega) kn kg ka ke kw l0 l2 (fun l1 h1 y0 y1 y2 y4 f0 f1 f2 f4 u1 u2 u3 m0 m2 => ?_)
      obtain ⟨r, hrun, a, r1, r2, r3, rhy, rfr, ra⟩ := dm_run (xp := y2) (xy := y1) (xz := y0) c1 hD u1 t0 t1 (u2 _ _ _ rfl kt)
      refine hp_call (mi := 387) (pc := 92) (tg := 294) (na := 4) (c := 78) (ci := 12) (st0 := [.int y0, .int y1, .int y2, .ref 94]) (st := [.int y4, .ref 175]) (av := [.int y2, .int y1, .int y0]) hM (by decide +kernel) u1 rfl rfl rfl (Nat.le_of_ble_eq_true rfl) hrun r2 r3 ?_
      rw [r1]
      have fr1 : ly_fr cst [19977, 20053, 40704] h0 h1 := ly_fr_tr fr (fun r i v _ e => u2 r i v rfl e)
      rw [f0, f1, f2, hp_same (show ly_ths ly_TH 83 = some (.inl (.int, 300, -2147483648, 2147483647)) from rfl) rfl hy0 u1 fr1, hp_same (show ly_ths ly_TH 84 = some (.inl (.int, 300, -2147483648, 2147483647)) from rfl) rfl hy0 u1 fr1, hp_same (show ly_ths ly_TH 88 = some (.inl (.int, 300, -2147483648, 2147483647)) from rfl) rfl hy0 u1 fr1, hp_same (show ly_ths ly_TH 87 = some (.inl (.int, 300, -2147483648, 2147483647)) from rfl) rfl hy0 u1 fr1] at ra
      have fr2 : ly_fr cst [19977, 20053, 40704] h0 r.2.1 := ly_fr_tr fr1 (fun r i v _ e => rfr r i v rfl e)
      have H2 : bu (bo_V (ly_hv cst h0 40704) (ly_hv cst h0 40192) g (bo_D (ly_hv cst h0 39424) (ly_hv cst h0 40192) (ly_hv cst h0 21248) (ly_hv cst h0 21504) (ly_hv cst h0 22528) (ly_hv cst h0 22272) t (fun _ => g))) (ly_hv cst h0 40704) i (ly_hv cst r.2.1 40704) := by rw [hp_same (show ly_ths ly_TH 159 = some (.inl (.int, 80, -2147483648, 2147483647)) from rfl) rfl u1 rhy rfr, hp_same (show ly_ths ly_TH 159 = some (.inl (.int, 80, -2147483648, 2147483647)) from rfl) rfl hy u1 u2]; exact H
      have store : ∀ (v : Int), (bo_V (ly_hv cst h0 40704) (ly_hv cst h0 40192) g (bo_D (ly_hv cst h0 39424) (ly_hv cst h0 40192) (ly_hv cst h0 21248) (ly_hv cst h0 21504) (ly_hv cst h0 22528) (ly_hv cst h0 22272) t (fun _ => g))) i v → ∀ (l' : am_L) (h2 : am_H) (z0 z1 : Int32), z0.toInt = v → z1.toInt = i → ly_hy m_tt ly_TH h2 → ly_fr cst [] r.2.1 h2 → r.2.1.length ≤ h2.length → hp_a l' 0 94 → hp_i l' 2 i → hp_F cst strs (fun r : am_Q => (∃ a : Int32, r.1 = some (.int a)) ∧ r.2.2.1 = 0 ∧ r.2.2.2 = 0 ∧ ly_hy m_tt ly_TH r.2.1 ∧ ly_fr cst [19977, 20053, 40704] h0 r.2.1 ∧ ly_hv cst r.2.1 19977 0 = some g ∧ bu (bo_V (ly_hv cst h0 40704) (ly_hv cst h0 40192) g (bo_D (ly_hv cst h0 39424) (ly_hv cst h0 40192) (ly_hv cst h0 21248) (ly_hv cst h0 21504) (ly_hv cst h0 22528) (ly_hv cst h0 22272) t (fun _ => g))) (ly_hv cst h0 40704) n (ly_hv cst r.2.1 40704)) (D + 1) M 103 l' [.int z0, .int z1, .ref 175] h2 := by
        intro v hv l' h2 z0 z1 ez0 ez1 s1 s2 s3 j0 j2
        refine hp_st (c := 159) hM (by decide +kernel) s1 (show ly_ths ly_TH 159 = some (.inl (.int, 80, -2147483648, 2147483647)) from rfl) rfl (by omega) (by omega) z0.le_toInt z0.toInt_le (fun h3 q1 q2 q3 => ?_)
        rw [ez0, ez1] at q3
        refine bqf c hM (by omega) q1 i i0 (by omega) j0 j2 (fun l4 h4 k1 k2 k3 p0 p2 => ?_)
        have fr3 : ly_fr cst [20053, 40704] r.2.1 h4 := ly_fr_tr (fun r i v _ e => s2 r i v rfl e) (ly_fr_tr (hp_put_fr (by rfl) q3) (hp_sub rfl k2))
        refine ih h4 l4 (i + 1) (by omega) (by omega) (by omega) k1 (ly_fr_tr fr2 (hp_sub rfl fr3)) (fr3 _ _ _ rfl (rfr _ _ _ rfl (u2 _ _ _ rfl kn))) (fr3 _ _ _ rfl (rfr _ _ _ rfl (u2 _ _ _ rfl kt))) (fr3 _ _ _ rfl (rfr _ _ _ rfl (u2 _ _ _ rfl kg))) ?_ p0 p2
        rw [hp_same (show ly_ths ly_TH 159 = some (.inl (.int, 80, -2147483648, 2147483647)) from rfl) rfl q1 k1 k2, hp_put_eq q3, hp_same (show ly_ths ly_TH 159 = some (.inl (.int, 80, -2147483648, 2147483647)) from rfl) rfl rhy s1 s2]
        exact bu_yes i0 H2 hv (fun w hw => bo_un hw hv)
      by_cases q : dd (ly_hv cst h0 21248) (ly_hv cst h0 21504) (ly_hv cst h0 22528) (ly_hv cst h0 22272) t xw xe g
      · exact bqd c hM (by omega) rhy i a y4 (ra.1 q) f4 i0 (by omega) m0 m2 (store 3 ⟨ka', ⟨xe, ke', qe⟩, Or.inl ⟨⟨xw, xe, kw', ke', q⟩, rfl⟩⟩)
      · exact bqe c hM (by omega) rhy i a y4 (ra.2 q) f4 i0 (by omega) m0 m2 (store 2 ⟨ka', ⟨xe, ke', qe⟩, Or.inr ⟨fun ⟨w', e', h1, h2, h3⟩ => by
          rw [kw'] at h1
          rw [ke'] at h2
          cases h1
          cases h2
          exact q h3, rfl⟩⟩)
theorem bp_run {cst : am_K} {strs : List Nat} {D : Nat} {h : am_H} (c1 : hp_C cst strs D) (c2 : hp_C cst strs (D + 1)) (c : hp_C cst strs (D + 1 + 1)) (hD : (4 : Int) ≤ (D : Int) + 1) (hy : ly_hy m_tt ly_TH h) {xx : Int32} {v n t : Int} (v0 : 0 ≤ v) (v1 : v ≤ 399) (kv : ly_hv cst h 10 0 = some v) (n0 : 0 ≤ n) (n1 : n ≤ 80) (kn : ly_hv cst h 11014 0 = some n) (t0 : 0 ≤ t) (t1 : t ≤ 300) (kt : ly_hv cst h 1537 0 = some t) :
    ∃ r, am_Run cst m_cl m_tt m_P strs sx_bi (D + 1 + 1 + 1) 31 [.ref 16, .int xx] h r ∧ (fun r : am_Q => (∃ a : Int32, r.1 = some (.int a)) ∧ r.2.2.1 = 0 ∧ r.2.2.2 = 0 ∧ ly_hy m_tt ly_TH r.2.1 ∧ ly_fr cst [10, 11015, 13824] h r.2.1 ∧ ((¬ bo_ok xx.toInt v → ly_hv cst r.2.1 10 0 = some v ∧ ly_hv cst r.2.1 13824 = ly_hv cst h 13824) ∧ (bo_ok xx.toInt v → ly_hv cst r.2.1 10 0 = some (v + xx.toInt) ∧ bu (bo_V (ly_hv cst h 13824) (ly_hv cst h 13312) (v + xx.toInt) (bo_D (ly_hv cst h 12544) (ly_hv cst h 13312) (ly_hv cst h 2304) (ly_hv cst h 2560) (ly_hv cst h 3328) (ly_hv cst h 3072) t (fun e => e))) (ly_hv cst h 13824) n (ly_hv cst r.2.1 13824)))) r := by
  obtain ⟨M, hM, hl⟩ := hp_M (mi := 31) (k := 2) (by decide +kernel)
  have a0 := xx.le_toInt
  have a1 := xx.toInt_le
  have go : hp_F cst strs (fun r : am_Q => (∃ a : Int32, r.1 = some (.int a)) ∧ r.2.2.1 = 0 ∧ r.2.2.2 = 0 ∧ ly_hy m_tt ly_TH r.2.1 ∧ ly_fr cst [10, 11015, 13824] h r.2.1 ∧ ((¬ bo_ok xx.toInt v → ly_hv cst r.2.1 10 0 = some v ∧ ly_hv cst r.2.1 13824 = ly_hv cst h 13824) ∧ (bo_ok xx.toInt v → ly_hv cst r.2.1 10 0 = some (v + xx.toInt) ∧ bu (bo_V (ly_hv cst h 13824) (ly_hv cst h 13312) (v + xx.toInt) (bo_D (ly_hv cst h 12544) (ly_hv cst h 13312) (ly_hv cst h 2304) (ly_hv cst h 2560) (ly_hv cst h 3328) (ly_hv cst h 3072) t (fun e => e))) (ly_hv cst h 13824) n (ly_hv cst r.2.1 13824)))) (D + 1 + 1) M 0 (lv_args 0 [.ref 16, .int xx]) [] h := by
    have no : ¬ bo_ok xx.toInt v → ∀ (h' : am_H) (w : Int32), w.toInt = -2 → ly_hy m_tt ly_TH h' → ly_fr cst [] h h' → h.length ≤ h'.length → ly_hv cst h' 10 0 = some v → (fun r : am_Q => (∃ a : Int32, r.1 = some (.int a)) ∧ r.2.2.1 = 0 ∧ r.2.2.2 = 0 ∧ ly_hy m_tt ly_TH r.2.1 ∧ ly_fr cst [10, 11015, 13824] h r.2.1 ∧ ((¬ bo_ok xx.toInt v → ly_hv cst r.2.1 10 0 = some v ∧ ly_hv cst r.2.1 13824 = ly_hv cst h 13824) ∧ (bo_ok xx.toInt v → ly_hv cst r.2.1 10 0 = some (v + xx.toInt) ∧ bu (bo_V (ly_hv cst h 13824) (ly_hv cst h 13312) (v + xx.toInt) (bo_D (ly_hv cst h 12544) (ly_hv cst h 13312) (ly_hv cst h 2304) (ly_hv cst h 2560) (ly_hv cst h 3328) (ly_hv cst h 3072) t (fun e => e))) (ly_hv cst h 13824) n (ly_hv cst r.2.1 13824)))) (some (.int w), h', 0, 0) := fun nk h' w hw w1 w2 w3 w4 => ⟨⟨w, rfl⟩, rfl, rfl, w1, (fun r i x _ e => w2 r i x rfl e), fun _ => ⟨w4, hp_same (show ly_ths ly_TH 54 = some (.inl (.int, 80, -2147483648, 2147483647)) from rfl) rfl hy w1 w2⟩, fun ok => absurd ok nk⟩
    by_cases p1 : xx.toInt ≤ 0
    · exact bp0 c hM (by omega) hy xx.toInt v a0 p1 v0 v1 kv rfl ⟨xx, rfl, rfl⟩ (no (fun k => by have := k.1; omega))
    by_cases p2 : 101 ≤ xx.toInt
    · exact bp1 c hM (by omega) hy xx.toInt v p2 a1 v0 v1 kv rfl ⟨xx, rfl, rfl⟩ (no (fun k => by have := k.2.1; omega))
    by_cases p3 : 400 ≤ v + xx.toInt
    · exact bp2 c hM (by omega) hy xx.toInt v (by omega) (by omega) v0 v1 (by omega) kv rfl ⟨xx, rfl, rfl⟩ (no (fun k => by have := k.2.2; omega))
    have ok : bo_ok xx.toInt v := ⟨by omega, by omega, by omega⟩
    refine bp3 c hM (by omega) hy xx.toInt v (by omega) (by omega) v0 v1 (by omega) kv rfl ⟨xx, rfl, rfl⟩ (fun l1 h1 y1 f1 u1 u2 u3 k1 j0 => ?_)
    have go2 : ∃ r, am_Run cst m_cl m_tt m_P strs sx_bi (D + 1 + 1) 32 [.ref 59, .int y1, .ref 22] h1 r ∧ r.1 = none ∧ r.2.2.1 = 0 ∧ r.2.2.2 = 0 ∧ ly_hy m_tt ly_TH r.2.1 ∧ ly_fr cst [11015, 13824] h1 r.2.1 ∧ bu (bo_V (ly_hv cst h1 13824) (ly_hv cst h1 13312) (v + xx.toInt) (bo_D (ly_hv cst h1 12544) (ly_hv cst h1 13312) (ly_hv cst h1 2304) (ly_hv cst h1 2560) (ly_hv cst h1 3328) (ly_hv cst h1 3072) t (fun e => e))) (ly_hv cst h1 13824) n (ly_hv cst r.2.1 13824) := by
      obtain ⟨M2, hM2, hl2⟩ := hp_M (mi := 32) (k := 3) (by decide +kernel)
      obtain ⟨n', r, hgo, r1, r2, r3, r4⟩ := bx0 c2 hM2 (by omega) u1 (v + xx.toInt) (by omega) (by omega) (l := lv_args 0 [.ref 59, .int y1, .ref 22]) rfl ⟨y1, rfl, f1⟩ rfl (fun l' h2 w1 w2 w3 z0 z1 z2 z3 => bx_loop (h0 := h1) c1 c2 hM2 (by omega) (by omega) (by omega) n0 n1 t0 t1 u1 ((n - 0).toNat + 1) h2 l' 0 (Nat.lt_succ_self _) (by omega) n0 w1 (fun r i x _ e => w2 r i x rfl e) (w2 _ _ _ rfl (u2 _ _ _ rfl kn)) (w2 _ _ _ rfl (u2 _ _ _ rfl kt)) (by rw [hp_same (show ly_ths ly_TH 54 = some (.inl (.int, 80, -2147483648, 2147483647)) from rfl) rfl u1 w1 w2]; exact bu_0 _ _) z0 z1 z2 z3)
      simp only [Nat.zero_add] at r2 r3
      exact ⟨r, Or.inr ⟨M2, n', hM2, hl2, hgo⟩, r1, r2, r3, r4⟩
    obtain ⟨r, hrun, r1, r2, r3, rhy, rfr, rb⟩ := go2
    refine hp_call (mi := 31) (pc := 47) (tg := 32) (na := 3) (c := 43) (ci := 7) (st0 := [.ref 22, .int y1, .ref 59]) (st := []) (av := [.int y1, .ref 22]) hM (by decide +kernel) u1 rfl rfl rfl (Nat.le_of_ble_eq_true rfl) hrun r2 r3 ?_
    rw [r1]
    rw [hp_same (show ly_ths ly_TH 54 = some (.inl (.int, 80, -2147483648, 2147483647)) from rfl) rfl hy u1 u2, hp_same (show ly_ths ly_TH 52 = some (.inl (.int, 80, -2147483648, 2147483647)) from rfl) rfl hy u1 u2, hp_same (show ly_ths ly_TH 49 = some (.inl (.int, 80, -2147483648, 2147483647)) from rfl) rfl hy u1 u2, hp_same (show ly_ths ly_TH 9 = some (.inl (.int, 300, -2147483648, 2147483647)) from rfl) rfl hy u1 u2, hp_same (show ly_ths ly_TH 10 = some (.inl (.int, 300, -2147483648, 2147483647)) from rfl) rfl hy u1 u2, hp_same (show ly_ths ly_TH 13 = some (.inl (.int, 300, -2147483648, 2147483647)) from rfl) rfl hy u1 u2, hp_same (show ly_ths ly_TH 12 = some (.inl (.int, 300, -2147483648, 2147483647)) from rfl) rfl hy u1 u2] at rb
    exact bp4 c hM (by omega) rhy (v + xx.toInt) (by omega) (by omega) (rfr _ _ _ rfl k1) j0 (fun h3 a ha t1' t2' t3' k3 => ⟨⟨a, rfl⟩, rfl, rfl, t1', ly_fr_tr (hp_sub rfl u2) (ly_fr_tr (hp_sub rfl rfr) (fun r i x _ e => t2' r i x rfl e)), fun nk => absurd ok nk, fun _ => ⟨k3, by rw [hp_same (show ly_ths ly_TH 54 = some (.inl (.int, 80, -2147483648, 2147483647)) from rfl) rfl rhy t1' t2']; exact rb⟩⟩)
  obtain ⟨n', r, hgo, r1, r2, r3, r4⟩ := go
  simp only [Nat.zero_add] at r2 r3
  exact ⟨r, Or.inr ⟨M, n', hM, hl, hgo⟩, r1, r2, r3, r4⟩
theorem bq_run {cst : am_K} {strs : List Nat} {D : Nat} {h : am_H} (c1 : hp_C cst strs D) (c2 : hp_C cst strs (D + 1)) (hD : (4 : Int) ≤ (D : Int) + 1) (hy : ly_hy m_tt ly_TH h) {xx : Int32} {v n t : Int} (v0 : 0 ≤ v) (v1 : v ≤ 399) (kv : ly_hv cst h 19977 0 = some v) (n0 : 0 ≤ n) (n1 : n ≤ 80) (kn : ly_hv cst h 20073 0 = some n) (t0 : 0 ≤ t) (t1 : t ≤ 300) (kt : ly_hv cst h 19982 0 = some t) :
    ∃ r, am_Run cst m_cl m_tt m_P strs sx_bi (D + 1 + 1) 387 [.ref 94, .int xx] h r ∧ (fun r : am_Q => (∃ a : Int32, r.1 = some (.int a)) ∧ r.2.2.1 = 0 ∧ r.2.2.2 = 0 ∧ ly_hy m_tt ly_TH r.2.1 ∧ ly_fr cst [19977, 20053, 40704] h r.2.1 ∧ ((¬ bo_ok xx.toInt v → ly_hv cst r.2.1 19977 0 = some v ∧ ly_hv cst r.2.1 40704 = ly_hv cst h 40704) ∧ (bo_ok xx.toInt v → ly_hv cst r.2.1 19977 0 = some (v + xx.toInt) ∧ bu (bo_V (ly_hv cst h 40704) (ly_hv cst h 40192) (v + xx.toInt) (bo_D (ly_hv cst h 39424) (ly_hv cst h 40192) (ly_hv cst h 21248) (ly_hv cst h 21504) (ly_hv cst h 22528) (ly_hv cst h 22272) t (fun _ => v + xx.toInt))) (ly_hv cst h 40704) n (ly_hv cst r.2.1 40704)))) r := by
  obtain ⟨M, hM, hl⟩ := hp_M (mi := 387) (k := 2) (by decide +kernel)
  have a0 := xx.le_toInt
  have a1 := xx.toInt_le
  have go : hp_F cst strs (fun r : am_Q => (∃ a : Int32, r.1 = some (.int a)) ∧ r.2.2.1 = 0 ∧ r.2.2.2 = 0 ∧ ly_hy m_tt ly_TH r.2.1 ∧ ly_fr cst [19977, 20053, 40704] h r.2.1 ∧ ((¬ bo_ok xx.toInt v → ly_hv cst r.2.1 19977 0 = some v ∧ ly_hv cst r.2.1 40704 = ly_hv cst h 40704) ∧ (bo_ok xx.toInt v → ly_hv cst r.2.1 19977 0 = some (v + xx.toInt) ∧ bu (bo_V (ly_hv cst h 40704) (ly_hv cst h 40192) (v + xx.toInt) (bo_D (ly_hv cst h 39424) (ly_hv cst h 40192) (ly_hv cst h 21248) (ly_hv cst h 21504) (ly_hv cst h 22528) (ly_hv cst h 22272) t (fun _ => v + xx.toInt))) (ly_hv cst h 40704) n (ly_hv cst r.2.1 40704)))) (D + 1) M 0 (lv_args 0 [.ref 94, .int xx]) [] h := by
    have no : ¬ bo_ok xx.toInt v → ∀ (h' : am_H) (w : Int32), w.toInt = -2 → ly_hy m_tt ly_TH h' → ly_fr cst [] h h' → h.length ≤ h'.length → ly_hv cst h' 19977 0 = some v → (fun r : am_Q => (∃ a : Int32, r.1 = some (.int a)) ∧ r.2.2.1 = 0 ∧ r.2.2.2 = 0 ∧ ly_hy m_tt ly_TH r.2.1 ∧ ly_fr cst [19977, 20053, 40704] h r.2.1 ∧ ((¬ bo_ok xx.toInt v → ly_hv cst r.2.1 19977 0 = some v ∧ ly_hv cst r.2.1 40704 = ly_hv cst h 40704) ∧ (bo_ok xx.toInt v → ly_hv cst r.2.1 19977 0 = some (v + xx.toInt) ∧ bu (bo_V (ly_hv cst h 40704) (ly_hv cst h 40192) (v + xx.toInt) (bo_D (ly_hv cst h 39424) (ly_hv cst h 40192) (ly_hv cst h 21248) (ly_hv cst h 21504) (ly_hv cst h 22528) (ly_hv cst h 22272) t (fun _ => v + xx.toInt))) (ly_hv cst h 40704) n (ly_hv cst r.2.1 40704)))) (some (.int w), h', 0, 0) := fun nk h' w hw w1 w2 w3 w4 => ⟨⟨w, rfl⟩, rfl, rfl, w1, (fun r i x _ e => w2 r i x rfl e), fun _ => ⟨w4, hp_same (show ly_ths ly_TH 159 = some (.inl (.int, 80, -2147483648, 2147483647)) from rfl) rfl hy w1 w2⟩, fun ok => absurd ok nk⟩
    by_cases p1 : xx.toInt ≤ 0
    · exact bq0 c2 hM (by omega) hy xx.toInt v a0 p1 v0 v1 kv rfl ⟨xx, rfl, rfl⟩ (no (fun k => by have := k.1; omega))
    by_cases p2 : 101 ≤ xx.toInt
    · exact bq1 c2 hM (by omega) hy xx.toInt v p2 a1 v0 v1 kv rfl ⟨xx, rfl, rfl⟩ (no (fun k => by have := k.2.1; omega))
    by_cases p3 : 400 ≤ v + xx.toInt
    · exact bq2 c2 hM (by omega) hy xx.toInt v (by omega) (by omega) v0 v1 (by omega) kv rfl ⟨xx, rfl, rfl⟩ (no (fun k => by have := k.2.2; omega))
    have ok : bo_ok xx.toInt v := ⟨by omega, by omega, by omega⟩
    refine bq3 c2 hM (by omega) hy xx.toInt v (by omega) (by omega) v0 v1 (by omega) kv rfl ⟨xx, rfl, rfl⟩ (fun l1 h1 u1 u2 u3 k1 j0 j2 => ?_)
    refine hp_mono (bq_loop (h0 := h1) (g := v + xx.toInt) (n := n) (t := t) c1 c2 hM (by omega) (by omega) (by omega) n0 n1 t0 t1 u1 ((n - 0).toNat + 1) h1 l1 0 (Nat.lt_succ_self _) (by omega) n0 u1 (fun r i x _ e => e) (u2 _ _ _ rfl kn) (u2 _ _ _ rfl kt) k1 (bu_0 _ _) j0 j2) (fun r ⟨d1, d2, d3, d4, d5, d6, d7⟩ => ⟨d1, d2, d3, d4, ly_fr_tr (hp_sub rfl u2) d5, fun nk => absurd ok nk, fun _ => ⟨d6, ?_⟩⟩)
    rw [hp_same (show ly_ths ly_TH 159 = some (.inl (.int, 80, -2147483648, 2147483647)) from rfl) rfl hy u1 u2, hp_same (show ly_ths ly_TH 157 = some (.inl (.int, 80, -2147483648, 2147483647)) from rfl) rfl hy u1 u2, hp_same (show ly_ths ly_TH 154 = some (.inl (.int, 80, -2147483648, 2147483647)) from rfl) rfl hy u1 u2, hp_same (show ly_ths ly_TH 83 = some (.inl (.int, 300, -2147483648, 2147483647)) from rfl) rfl hy u1 u2, hp_same (show ly_ths ly_TH 84 = some (.inl (.int, 300, -2147483648, 2147483647)) from rfl) rfl hy u1 u2, hp_same (show ly_ths ly_TH 88 = some (.inl (.int, 300, -2147483648, 2147483647)) from rfl) rfl hy u1 u2, hp_same (show ly_ths ly_TH 87 = some (.inl (.int, 300, -2147483648, 2147483647)) from rfl) rfl hy u1 u2] at d7
    exact d7
  obtain ⟨n', r, hgo, r1, r2, r3, r4⟩ := go
  simp only [Nat.zero_add] at r2 r3
  exact ⟨r, Or.inr ⟨M, n', hM, hl, hgo⟩, r1, r2, r3, r4⟩
