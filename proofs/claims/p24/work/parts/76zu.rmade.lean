/-! PRINTED by wip/p2/hp_rmade.py: isMade, lackOf of the reference -/
theorem mk0_k : hp_chk 332 0 2 [(0, 0, 1199), (1, (-2147483648), 2147483647)] [] [(0, .inr (.inr (.inl (some 94)))), (1, .inl (0, [(0, 1)])), (2, .inl (0, [(1, 1)]))] [] [] [] 2 [(5, ([], 2, [(0, 0, 1199), (1, (-2147483648), 2147483647)], [], [(0, .inr (.inr (.inl (some 94)))), (1, .inl (0, [(0, 1)])), (2, .inl (0, [(1, 1)])), (3, .inl (0, [])), (4, .inl (0, []))], [], []))] [] = true := by decide +kernel
theorem mk0 {cst : am_K} {strs : List Nat} {Φ : am_Q → Prop} {D : Nat} {M : am_M} {h : am_H} {l : am_L} (c : hp_C cst strs D) (hM : m_P[332]? = some M) (hD : (2 : Int) ≤ (D : Int) + 1) (hy : ly_hy m_tt ly_TH h) (cc me : Int) (b0 : 0 ≤ cc) (t0 : cc ≤ 1199) (b1 : (-2147483648) ≤ me) (t1 : me ≤ 2147483647) (l0 : hp_a l 0 94) (l1 : hp_i l 1 (cc)) (l2 : hp_i l 2 (me)) (e0 : ∀ (l' : am_L) (h' : am_H), ly_hy m_tt ly_TH h' → ly_fr cst [] h h' → h.length ≤ h'.length → hp_a l' 0 94 → hp_i l' 1 (cc) → hp_i l' 2 (me) → hp_i l' 3 0 → hp_i l' 4 0 → hp_F cst strs Φ D M 5 l' [] h') : hp_F cst strs Φ D M 0 l [] h := by
  refine hp_arc c hM mk0_k hD [cc, me] rfl hy (hp_Bc (z := cc) rfl b0 t0 (hp_Bc (z := me) rfl b1 t1 hp_Bn)) hp_Fn hp_Kn (hp_La l0 (hp_Li (z := (0 + (1 * cc + 0))) l1 rfl (by omega) (hp_Li (z := (0 + (1 * me + 0))) l2 rfl (by omega) hp_Ln))) trivial ?_ ?_
  · intro p_9 hp ys l' st' h' hys a1_9 a2 a3 gZ gL gS
    rcases List.mem_cons.mp hp with rfl | hp
    · obtain rfl := hp_y0 hys
      cases hp_gSn gS
      exact e0 l' h' a1_9 a2 a3 (hp_gLa gL (List.mem_of_getElem? (i := 0) rfl) (by decide)) (hp_gLi (z := (0 + (1 * cc + 0))) gL (List.mem_of_getElem? (i := 1) rfl) rfl (by omega)) (hp_gLi (z := (0 + (1 * me + 0))) gL (List.mem_of_getElem? (i := 2) rfl) rfl (by omega)) (hp_gLi (z := (0 + 0)) gL (List.mem_of_getElem? (i := 3) rfl) rfl (by omega)) (hp_gLi (z := (0 + 0)) gL (List.mem_of_getElem? (i := 4) rfl) rfl (by omega))
    cases hp
  · intro p_9 hp ys v_9 h' hys a1_9 a2 a3 gZ gS
    cases hp
theorem mkE_k : hp_chk 332 5 5 [(0, 0, 1199), (1, (-2147483648), 2147483647), (2, 0, 40), (3, 0, 820), (4, 0, 1)] [] [(0, .inr (.inr (.inl (some 94)))), (1, .inl (0, [(0, 1)])), (2, .inl (0, [(1, 1)])), (3, .inl (0, [(2, 1)])), (4, .inl (0, [(3, 1)]))] [] [(25088, (0, [(0, 1)]), (0, [(3, 1)])), (28160, (0, []), (0, [(4, 1)]))] [] 2 [] [([], 5, [(0, 0, 1199), (1, (-2147483648), 2147483647), (2, 0, 40), (3, 0, 820), (4, 0, 1)], [], [], [.inl (0, [(4, 1)])], [])] = true := by decide +kernel
theorem mkE {cst : am_K} {strs : List Nat} {Φ : am_Q → Prop} {D : Nat} {M : am_M} {h : am_H} {l : am_L} (c : hp_C cst strs D) (hM : m_P[332]? = some M) (hD : (2 : Int) ≤ (D : Int) + 1) (hy : ly_hy m_tt ly_TH h) (cc me n le v : Int) (b0 : 0 ≤ cc) (t0 : cc ≤ 1199) (b1 : (-2147483648) ≤ me) (t1 : me ≤ 2147483647) (b2 : 0 ≤ n) (t2 : n ≤ 40) (b3 : 0 ≤ le) (t3 : le ≤ 820) (b4 : 0 ≤ v) (t4 : v ≤ 1) (k0 : ly_hv cst h 25088 (cc) = some (le)) (k1 : ly_hv cst h 28160 0 = some (v)) (l0 : hp_a l 0 94) (l1 : hp_i l 1 (cc)) (l2 : hp_i l 2 (me)) (l3 : hp_i l 3 (n)) (l4 : hp_i l 4 (le)) (r0 : ∀ (h' : am_H) (y0 : Int32), y0.toInt = (v) → ly_hy m_tt ly_TH h' → ly_fr cst [] h h' → h.length ≤ h'.length → Φ (some (.int y0), h', 0, 0)) : hp_F cst strs Φ D M 5 l [] h := by
  refine hp_arc c hM mkE_k hD [cc, me, n, le, v] rfl hy (hp_Bc (z := cc) rfl b0 t0 (hp_Bc (z := me) rfl b1 t1 (hp_Bc (z := n) rfl b2 t2 (hp_Bc (z := le) rfl b3 t3 (hp_Bc (z := v) rfl b4 t4 hp_Bn))))) hp_Fn (hp_Kc (zi := (0 + (1 * cc + 0))) (zv := (0 + (1 * le + 0))) k0 rfl rfl (by omega) (by omega) (hp_Kc (zi := (0 + 0)) (zv := (0 + (1 * v + 0))) k1 rfl rfl (by omega) (by omega) hp_Kn)) (hp_La l0 (hp_Li (z := (0 + (1 * cc + 0))) l1 rfl (by omega) (hp_Li (z := (0 + (1 * me + 0))) l2 rfl (by omega) (hp_Li (z := (0 + (1 * n + 0))) l3 rfl (by omega) (hp_Li (z := (0 + (1 * le + 0))) l4 rfl (by omega) hp_Ln))))) trivial ?_ ?_
  · intro p_9 hp ys l' st' h' hys a1_9 a2 a3 gZ gL gS
    cases hp
  · intro p_9 hp ys v h' hys a1_9 a2 a3 gZ gS
    rcases List.mem_cons.mp hp with rfl | hp
    · obtain rfl := hp_y0 hys
      cases v with
      | none => cases gS
      | some wz =>
        obtain ⟨y0, t0, s0_9, q0, -⟩ := hp_gSi (z := (0 + (1 * v + 0))) gS rfl
        cases s0_9
        exact r0 h' y0 (by omega) a1_9 a2 a3
    cases hp
theorem mkP0_k : hp_chk 332 5 8 [(0, 0, 1199), (1, 0, 29), (2, (-2147483648), 2147483647), (3, 0, 40), (4, 0, 820), (5, 0, 820), (6, 0, 820), (7, 0, 19)] [((-1), [(4, (-1)), (5, 1)]), (819, [(4, (-1)), (6, (-1))])] [(0, .inr (.inr (.inl (some 94)))), (1, .inl (0, [(0, 1)])), (2, .inl (0, [(2, 1)])), (3, .inl (0, [(3, 1)])), (4, .inl (0, [(4, 1)]))] [] [(62040, (0, [(0, 1)]), (0, [(1, 1)])), (25088, (0, [(0, 1)]), (0, [(5, 1)])), (24832, (0, [(0, 1)]), (0, [(6, 1)])), (26880, (0, [(1, 820), (4, 1), (6, 1)]), (0, [(7, 1)]))] [] 2 [(54, ([], 8, [(0, 0, 1199), (1, 0, 29), (2, (-2147483648), 2147483647), (3, 0, 40), (4, 0, 820), (5, 0, 820), (6, 0, 820), (7, 0, 19)], [], [(0, .inr (.inr (.inl (some 94)))), (1, .inl (0, [(0, 1)])), (2, .inl (0, [(2, 1)])), (3, .inl (0, [(3, 1)])), (4, .inl (0, [(4, 1)])), (5, .inl (0, [(7, 1)]))], [.inl (0, [(7, 1)]), .inl (0, [(2, 1)]), .inl (0, [(3, 1)]), .inr (.inr (.inl (some 126)))], []))] [] = true := by decide +kernel
theorem mkP0 {cst : am_K} {strs : List Nat} {Φ : am_Q → Prop} {D : Nat} {M : am_M} {h : am_H} {l : am_L} (c : hp_C cst strs D) (hM : m_P[332]? = some M) (hD : (2 : Int) ≤ (D : Int) + 1) (hy : ly_hy m_tt ly_TH h) (cc a me n i le z s : Int) (b0 : 0 ≤ cc) (t0 : cc ≤ 1199) (b1 : 0 ≤ a) (t1 : a ≤ 29) (b2 : (-2147483648) ≤ me) (t2 : me ≤ 2147483647) (b3 : 0 ≤ n) (t3 : n ≤ 40) (b4 : 0 ≤ i) (t4 : i ≤ 820) (b5 : 0 ≤ le) (t5 : le ≤ 820) (b6 : 0 ≤ z) (t6 : z ≤ 820) (b7 : 0 ≤ s) (t7 : s ≤ 19) (f0 : 0 ≤ (le - i - 1)) (f1 : 0 ≤ (-z - i + 819)) (k0 : ly_hv cst h 62040 (cc) = some (a)) (k1 : ly_hv cst h 25088 (cc) = some (le)) (k2 : ly_hv cst h 24832 (cc) = some (z)) (k3 : ly_hv cst h 26880 (820 * a + z + i) = some (s)) (l0 : hp_a l 0 94) (l1 : hp_i l 1 (cc)) (l2 : hp_i l 2 (me)) (l3 : hp_i l 3 (n)) (l4 : hp_i l 4 (i)) (e0 : ∀ (l' : am_L) (h' : am_H) (y0 : Int32) (y1 : Int32) (y2 : Int32), y0.toInt = (s) → y1.toInt = (me) → y2.toInt = (n) → ly_hy m_tt ly_TH h' → ly_fr cst [] h h' → h.length ≤ h'.length → hp_a l' 0 94 → hp_i l' 1 (cc) → hp_i l' 2 (me) → hp_i l' 3 (n) → hp_i l' 4 (i) → hp_i l' 5 (s) → hp_F cst strs Φ D M 54 l' [.int y0, .int y1, .int y2, .ref 126] h') : hp_F cst strs Φ D M 5 l [] h := by
  refine hp_arc c hM mkP0_k hD [cc, a, me, n, i, le, z, s] rfl hy (hp_Bc (z := cc) rfl b0 t0 (hp_Bc (z := a) rfl b1 t1 (hp_Bc (z := me) rfl b2 t2 (hp_Bc (z := n) rfl b3 t3 (hp_Bc (z := i) rfl b4 t4 (hp_Bc (z := le) rfl b5 t5 (hp_Bc (z := z) rfl b6 t6 (hp_Bc (z := s) rfl b7 t7 hp_Bn)))))))) (hp_Fc (z := ((-1) + ((-1) * i + (1 * le + 0)))) rfl (by omega) (hp_Fc (z := (819 + ((-1) * i + ((-1) * z + 0)))) rfl (by omega) hp_Fn)) (hp_Kc (zi := (0 + (1 * cc + 0))) (zv := (0 + (1 * a + 0))) k0 rfl rfl (by omega) (by omega) (hp_Kc (zi := (0 + (1 * cc + 0))) (zv := (0 + (1 * le + 0))) k1 rfl rfl (by omega) (by omega) (hp_Kc (zi := (0 + (1 * cc + 0))) (zv := (0 + (1 * z + 0))) k2 rfl rfl (by omega) (by omega) (hp_Kc (zi := (0 + (820 * a + (1 * i + (1 * z + 0))))) (zv := (0 + (1 * s + 0))) k3 rfl rfl (by omega) (by omega) hp_Kn)))) (hp_La l0 (hp_Li (z := (0 + (1 * cc + 0))) l1 rfl (by omega) (hp_Li (z := (0 + (1 * me + 0))) l2 rfl (by omega) (hp_Li (z := (0 + (1 * n + 0))) l3 rfl (by omega) (hp_Li (z := (0 + (1 * i + 0))) l4 rfl (by omega) hp_Ln))))) trivial ?_ ?_
  · intro p_9 hp ys l' st' h' hys a1_9 a2 a3 gZ gL gS
    rcases List.mem_cons.mp hp with rfl | hp
    · obtain rfl := hp_y0 hys
      obtain ⟨y0, t0, rfl, q0, g0⟩ := hp_gSi (z := (0 + (1 * s + 0))) gS rfl
      obtain ⟨y1, t1, rfl, q1_9, g1⟩ := hp_gSi (z := (0 + (1 * me + 0))) g0 rfl
      obtain ⟨y2, t2, rfl, q2_9, g2⟩ := hp_gSi (z := (0 + (1 * n + 0))) g1 rfl
      obtain ⟨t3, rfl, g3_9⟩ := hp_gSa g2 (by decide)
      cases hp_gSn g3_9
      exact e0 l' h' y0 y1 y2 (by omega) (by omega) (by omega) a1_9 a2 a3 (hp_gLa gL (List.mem_of_getElem? (i := 0) rfl) (by decide)) (hp_gLi (z := (0 + (1 * cc + 0))) gL (List.mem_of_getElem? (i := 1) rfl) rfl (by omega)) (hp_gLi (z := (0 + (1 * me + 0))) gL (List.mem_of_getElem? (i := 2) rfl) rfl (by omega)) (hp_gLi (z := (0 + (1 * n + 0))) gL (List.mem_of_getElem? (i := 3) rfl) rfl (by omega)) (hp_gLi (z := (0 + (1 * i + 0))) gL (List.mem_of_getElem? (i := 4) rfl) rfl (by omega)) (hp_gLi (z := (0 + (1 * s + 0))) gL (List.mem_of_getElem? (i := 5) rfl) rfl (by omega))
    cases hp
  · intro p_9 hp ys v_9 h' hys a1_9 a2 a3 gZ gS
    cases hp
theorem mkP1_k : hp_chk 332 55 5 [(0, 0, 1199), (1, (-2147483648), 2147483647), (2, 0, 40), (3, 0, 820), (4, (-2147483648), 2147483647)] [] [(0, .inr (.inr (.inl (some 94)))), (1, .inl (0, [(0, 1)])), (2, .inl (0, [(1, 1)])), (3, .inl (0, [(2, 1)])), (4, .inl (0, [(3, 1)]))] [.inl (0, [(4, 1)]), .inl (0, [(2, 1)]), .inr (.inr (.inl (some 126)))] [] [] 2 [(56, ([], 5, [(0, 0, 1199), (1, (-2147483648), 2147483647), (2, 0, 40), (3, 0, 820), (4, (-2147483648), 2147483647)], [], [(0, .inr (.inr (.inl (some 94)))), (1, .inl (0, [(0, 1)])), (2, .inl (0, [(1, 1)])), (3, .inl (0, [(2, 1)])), (4, .inl (0, [(3, 1)]))], [.inl (1, []), .inl (0, [(4, 1)]), .inl (0, [(2, 1)]), .inr (.inr (.inl (some 126)))], []))] [] = true := by decide +kernel
theorem mkP1 {cst : am_K} {strs : List Nat} {Φ : am_Q → Prop} {D : Nat} {M : am_M} {h : am_H} {l : am_L} (c : hp_C cst strs D) (hM : m_P[332]? = some M) (hD : (2 : Int) ≤ (D : Int) + 1) (hy : ly_hy m_tt ly_TH h) (cc me n i u : Int) (x0 : Int32) (x1 : Int32) (hx0 : x0.toInt = (u)) (hx1 : x1.toInt = (n)) (b0 : 0 ≤ cc) (t0 : cc ≤ 1199) (b1 : (-2147483648) ≤ me) (t1 : me ≤ 2147483647) (b2 : 0 ≤ n) (t2 : n ≤ 40) (b3 : 0 ≤ i) (t3 : i ≤ 820) (b4 : (-2147483648) ≤ u) (t4 : u ≤ 2147483647) (l0 : hp_a l 0 94) (l1 : hp_i l 1 (cc)) (l2 : hp_i l 2 (me)) (l3 : hp_i l 3 (n)) (l4 : hp_i l 4 (i)) (e0 : ∀ (l' : am_L) (h' : am_H) (y0 : Int32) (y1 : Int32) (y2 : Int32), y0.toInt = 1 → y1.toInt = (u) → y2.toInt = (n) → ly_hy m_tt ly_TH h' → ly_fr cst [] h h' → h.length ≤ h'.length → hp_a l' 0 94 → hp_i l' 1 (cc) → hp_i l' 2 (me) → hp_i l' 3 (n) → hp_i l' 4 (i) → hp_F cst strs Φ D M 56 l' [.int y0, .int y1, .int y2, .ref 126] h') : hp_F cst strs Φ D M 55 l [.int x0, .int x1, .ref 126] h := by
  refine hp_arc c hM mkP1_k hD [cc, me, n, i, u] rfl hy (hp_Bc (z := cc) rfl b0 t0 (hp_Bc (z := me) rfl b1 t1 (hp_Bc (z := n) rfl b2 t2 (hp_Bc (z := i) rfl b3 t3 (hp_Bc (z := u) rfl b4 t4 hp_Bn))))) hp_Fn hp_Kn (hp_La l0 (hp_Li (z := (0 + (1 * cc + 0))) l1 rfl (by omega) (hp_Li (z := (0 + (1 * me + 0))) l2 rfl (by omega) (hp_Li (z := (0 + (1 * n + 0))) l3 rfl (by omega) (hp_Li (z := (0 + (1 * i + 0))) l4 rfl (by omega) hp_Ln))))) (hp_Si (z := (0 + (1 * u + 0))) rfl (by omega) (hp_Si (z := (0 + (1 * n + 0))) rfl (by omega) (hp_Sa trivial))) ?_ ?_
  · intro p_9 hp ys l' st' h' hys a1_9 a2 a3 gZ gL gS
    rcases List.mem_cons.mp hp with rfl | hp
    · obtain rfl := hp_y0 hys
      obtain ⟨y0, t0, rfl, q0, g0⟩ := hp_gSi (z := (1 + 0)) gS rfl
      obtain ⟨y1, t1, rfl, q1_9, g1⟩ := hp_gSi (z := (0 + (1 * u + 0))) g0 rfl
      obtain ⟨y2, t2, rfl, q2_9, g2⟩ := hp_gSi (z := (0 + (1 * n + 0))) g1 rfl
      obtain ⟨t3, rfl, g3_9⟩ := hp_gSa g2 (by decide)
      cases hp_gSn g3_9
      exact e0 l' h' y0 y1 y2 (by omega) (by omega) (by omega) a1_9 a2 a3 (hp_gLa gL (List.mem_of_getElem? (i := 0) rfl) (by decide)) (hp_gLi (z := (0 + (1 * cc + 0))) gL (List.mem_of_getElem? (i := 1) rfl) rfl (by omega)) (hp_gLi (z := (0 + (1 * me + 0))) gL (List.mem_of_getElem? (i := 2) rfl) rfl (by omega)) (hp_gLi (z := (0 + (1 * n + 0))) gL (List.mem_of_getElem? (i := 3) rfl) rfl (by omega)) (hp_gLi (z := (0 + (1 * i + 0))) gL (List.mem_of_getElem? (i := 4) rfl) rfl (by omega))
    cases hp
  · intro p_9 hp ys v_9 h' hys a1_9 a2 a3 gZ gS
    cases hp
theorem mkP20_k : hp_chk 332 57 4 [(0, 0, 1199), (1, (-2147483648), 2147483647), (2, 0, 40), (3, 0, 820)] [] [(0, .inr (.inr (.inl (some 94)))), (1, .inl (0, [(0, 1)])), (2, .inl (0, [(1, 1)])), (3, .inl (0, [(2, 1)])), (4, .inl (0, [(3, 1)]))] [.inl (0, []), .inl (0, [(2, 1)]), .inr (.inr (.inl (some 126)))] [] [] 2 [(66, ([], 4, [(0, 0, 1199), (1, (-2147483648), 2147483647), (2, 0, 40), (3, 0, 820)], [], [(0, .inr (.inr (.inl (some 94)))), (1, .inl (0, [(0, 1)])), (2, .inl (0, [(1, 1)])), (3, .inl (0, [(2, 1)])), (4, .inl (0, [(3, 1)]))], [.inl (0, []), .inl (0, [(2, 1)]), .inr (.inr (.inl (some 126)))], []))] [] = true := by decide +kernel
theorem mkP20 {cst : am_K} {strs : List Nat} {Φ : am_Q → Prop} {D : Nat} {M : am_M} {h : am_H} {l : am_L} (c : hp_C cst strs D) (hM : m_P[332]? = some M) (hD : (2 : Int) ≤ (D : Int) + 1) (hy : ly_hy m_tt ly_TH h) (cc me n i : Int) (x0 : Int32) (x1 : Int32) (hx0 : x0.toInt = 0) (hx1 : x1.toInt = (n)) (b0 : 0 ≤ cc) (t0 : cc ≤ 1199) (b1 : (-2147483648) ≤ me) (t1 : me ≤ 2147483647) (b2 : 0 ≤ n) (t2 : n ≤ 40) (b3 : 0 ≤ i) (t3 : i ≤ 820) (l0 : hp_a l 0 94) (l1 : hp_i l 1 (cc)) (l2 : hp_i l 2 (me)) (l3 : hp_i l 3 (n)) (l4 : hp_i l 4 (i)) (e0 : ∀ (l' : am_L) (h' : am_H) (y0 : Int32) (y1 : Int32), y0.toInt = 0 → y1.toInt = (n) → ly_hy m_tt ly_TH h' → ly_fr cst [] h h' → h.length ≤ h'.length → hp_a l' 0 94 → hp_i l' 1 (cc) → hp_i l' 2 (me) → hp_i l' 3 (n) → hp_i l' 4 (i) → hp_F cst strs Φ D M 66 l' [.int y0, .int y1, .ref 126] h') : hp_F cst strs Φ D M 57 l [.int x0, .int x1, .ref 126] h := by
  refine hp_arc c hM mkP20_k hD [cc, me, n, i] rfl hy (hp_Bc (z := cc) rfl b0 t0 (hp_Bc (z := me) rfl b1 t1 (hp_Bc (z := n) rfl b2 t2 (hp_Bc (z := i) rfl b3 t3 hp_Bn)))) hp_Fn hp_Kn (hp_La l0 (hp_Li (z := (0 + (1 * cc + 0))) l1 rfl (by omega) (hp_Li (z := (0 + (1 * me + 0))) l2 rfl (by omega) (hp_Li (z := (0 + (1 * n + 0))) l3 rfl (by omega) (hp_Li (z := (0 + (1 * i + 0))) l4 rfl (by omega) hp_Ln))))) (hp_Si (z := (0 + 0)) rfl (by omega) (hp_Si (z := (0 + (1 * n + 0))) rfl (by omega) (hp_Sa trivial))) ?_ ?_
  · intro p_9 hp ys l' st' h' hys a1_9 a2 a3 gZ gL gS
    rcases List.mem_cons.mp hp with rfl | hp
    · obtain rfl := hp_y0 hys
      obtain ⟨y0, t0, rfl, q0, g0⟩ := hp_gSi (z := (0 + 0)) gS rfl
      obtain ⟨y1, t1, rfl, q1_9, g1⟩ := hp_gSi (z := (0 + (1 * n + 0))) g0 rfl
      obtain ⟨t2, rfl, g2⟩ := hp_gSa g1 (by decide)
      cases hp_gSn g2
      exact e0 l' h' y0 y1 (by omega) (by omega) a1_9 a2 a3 (hp_gLa gL (List.mem_of_getElem? (i := 0) rfl) (by decide)) (hp_gLi (z := (0 + (1 * cc + 0))) gL (List.mem_of_getElem? (i := 1) rfl) rfl (by omega)) (hp_gLi (z := (0 + (1 * me + 0))) gL (List.mem_of_getElem? (i := 2) rfl) rfl (by omega)) (hp_gLi (z := (0 + (1 * n + 0))) gL (List.mem_of_getElem? (i := 3) rfl) rfl (by omega)) (hp_gLi (z := (0 + (1 * i + 0))) gL (List.mem_of_getElem? (i := 4) rfl) rfl (by omega))
    cases hp
  · intro p_9 hp ys v_9 h' hys a1_9 a2 a3 gZ gS
    cases hp
theorem mkP21_k : hp_chk 332 57 4 [(0, 0, 1199), (1, (-2147483648), 2147483647), (2, 0, 40), (3, 0, 820)] [] [(0, .inr (.inr (.inl (some 94)))), (1, .inl (0, [(0, 1)])), (2, .inl (0, [(1, 1)])), (3, .inl (0, [(2, 1)])), (4, .inl (0, [(3, 1)]))] [.inl (1, []), .inl (0, [(2, 1)]), .inr (.inr (.inl (some 126)))] [] [] 2 [(66, ([], 4, [(0, 0, 1199), (1, (-2147483648), 2147483647), (2, 0, 40), (3, 0, 820)], [], [(0, .inr (.inr (.inl (some 94)))), (1, .inl (0, [(0, 1)])), (2, .inl (0, [(1, 1)])), (3, .inl (0, [(2, 1)])), (4, .inl (0, [(3, 1)]))], [.inl (1, []), .inl (0, [(2, 1)]), .inr (.inr (.inl (some 126)))], []))] [] = true := by decide +kernel
theorem mkP21 {cst : am_K} {strs : List Nat} {Φ : am_Q → Prop} {D : Nat} {M : am_M} {h : am_H} {l : am_L} (c : hp_C cst strs D) (hM : m_P[332]? = some M) (hD : (2 : Int) ≤ (D : Int) + 1) (hy : ly_hy m_tt ly_TH h) (cc me n i : Int) (x0 : Int32) (x1 : Int32) (hx0 : x0.toInt = 1) (hx1 : x1.toInt = (n)) (b0 : 0 ≤ cc) (t0 : cc ≤ 1199) (b1 : (-2147483648) ≤ me) (t1 : me ≤ 2147483647) (b2 : 0 ≤ n) (t2 : n ≤ 40) (b3 : 0 ≤ i) (t3 : i ≤ 820) (l0 : hp_a l 0 94) (l1 : hp_i l 1 (cc)) (l2 : hp_i l 2 (me)) (l3 : hp_i l 3 (n)) (l4 : hp_i l 4 (i)) (e0 : ∀ (l' : am_L) (h' : am_H) (y0 : Int32) (y1 : Int32), y0.toInt = 1 → y1.toInt = (n) → ly_hy m_tt ly_TH h' → ly_fr cst [] h h' → h.length ≤ h'.length → hp_a l' 0 94 → hp_i l' 1 (cc) → hp_i l' 2 (me) → hp_i l' 3 (n) → hp_i l' 4 (i) → hp_F cst strs Φ D M 66 l' [.int y0, .int y1, .ref 126] h') : hp_F cst strs Φ D M 57 l [.int x0, .int x1, .ref 126] h := by
  refine hp_arc c hM mkP21_k hD [cc, me, n, i] rfl hy (hp_Bc (z := cc) rfl b0 t0 (hp_Bc (z := me) rfl b1 t1 (hp_Bc (z := n) rfl b2 t2 (hp_Bc (z := i) rfl b3 t3 hp_Bn)))) hp_Fn hp_Kn (hp_La l0 (hp_Li (z := (0 + (1 * cc + 0))) l1 rfl (by omega) (hp_Li (z := (0 + (1 * me + 0))) l2 rfl (by omega) (hp_Li (z := (0 + (1 * n + 0))) l3 rfl (by omega) (hp_Li (z := (0 + (1 * i + 0))) l4 rfl (by omega) hp_Ln))))) (hp_Si (z := (1 + 0)) rfl (by omega) (hp_Si (z := (0 + (1 * n + 0))) rfl (by omega) (hp_Sa trivial))) ?_ ?_
  · intro p_9 hp ys l' st' h' hys a1_9 a2 a3 gZ gL gS
    rcases List.mem_cons.mp hp with rfl | hp
    · obtain rfl := hp_y0 hys
      obtain ⟨y0, t0, rfl, q0, g0⟩ := hp_gSi (z := (1 + 0)) gS rfl
      obtain ⟨y1, t1, rfl, q1_9, g1⟩ := hp_gSi (z := (0 + (1 * n + 0))) g0 rfl
      obtain ⟨t2, rfl, g2⟩ := hp_gSa g1 (by decide)
      cases hp_gSn g2
      exact e0 l' h' y0 y1 (by omega) (by omega) a1_9 a2 a3 (hp_gLa gL (List.mem_of_getElem? (i := 0) rfl) (by decide)) (hp_gLi (z := (0 + (1 * cc + 0))) gL (List.mem_of_getElem? (i := 1) rfl) rfl (by omega)) (hp_gLi (z := (0 + (1 * me + 0))) gL (List.mem_of_getElem? (i := 2) rfl) rfl (by omega)) (hp_gLi (z := (0 + (1 * n + 0))) gL (List.mem_of_getElem? (i := 3) rfl) rfl (by omega)) (hp_gLi (z := (0 + (1 * i + 0))) gL (List.mem_of_getElem? (i := 4) rfl) rfl (by omega))
    cases hp
  · intro p_9 hp ys v_9 h' hys a1_9 a2 a3 gZ gS
    cases hp
theorem mkP3_k : hp_chk 332 67 4 [(0, 0, 1199), (1, (-2147483648), 2147483647), (2, 0, 40), (3, 0, 820)] [] [(0, .inr (.inr (.inl (some 94)))), (1, .inl (0, [(0, 1)])), (2, .inl (0, [(1, 1)])), (3, .inl (0, [(2, 1)])), (4, .inl (0, [(3, 1)]))] [] [] [] 2 [(5, ([], 4, [(0, 0, 1199), (1, (-2147483648), 2147483647), (2, 0, 40), (3, 0, 820)], [], [(0, .inr (.inr (.inl (some 94)))), (1, .inl (0, [(0, 1)])), (2, .inl (0, [(1, 1)])), (3, .inl (1, [(2, 1)])), (4, .inl (1, [(3, 1)]))], [], []))] [] = true := by decide +kernel
theorem mkP3 {cst : am_K} {strs : List Nat} {Φ : am_Q → Prop} {D : Nat} {M : am_M} {h : am_H} {l : am_L} (c : hp_C cst strs D) (hM : m_P[332]? = some M) (hD : (2 : Int) ≤ (D : Int) + 1) (hy : ly_hy m_tt ly_TH h) (cc me n i : Int) (b0 : 0 ≤ cc) (t0 : cc ≤ 1199) (b1 : (-2147483648) ≤ me) (t1 : me ≤ 2147483647) (b2 : 0 ≤ n) (t2 : n ≤ 40) (b3 : 0 ≤ i) (t3 : i ≤ 820) (l0 : hp_a l 0 94) (l1 : hp_i l 1 (cc)) (l2 : hp_i l 2 (me)) (l3 : hp_i l 3 (n)) (l4 : hp_i l 4 (i)) (e0 : ∀ (l' : am_L) (h' : am_H), ly_hy m_tt ly_TH h' → ly_fr cst [] h h' → h.length ≤ h'.length → hp_a l' 0 94 → hp_i l' 1 (cc) → hp_i l' 2 (me) → hp_i l' 3 (n + 1) → hp_i l' 4 (i + 1) → hp_F cst strs Φ D M 5 l' [] h') : hp_F cst strs Φ D M 67 l [] h := by
  refine hp_arc c hM mkP3_k hD [cc, me, n, i] rfl hy (hp_Bc (z := cc) rfl b0 t0 (hp_Bc (z := me) rfl b1 t1 (hp_Bc (z := n) rfl b2 t2 (hp_Bc (z := i) rfl b3 t3 hp_Bn)))) hp_Fn hp_Kn (hp_La l0 (hp_Li (z := (0 + (1 * cc + 0))) l1 rfl (by omega) (hp_Li (z := (0 + (1 * me + 0))) l2 rfl (by omega) (hp_Li (z := (0 + (1 * n + 0))) l3 rfl (by omega) (hp_Li (z := (0 + (1 * i + 0))) l4 rfl (by omega) hp_Ln))))) trivial ?_ ?_
  · intro p_9 hp ys l' st' h' hys a1_9 a2 a3 gZ gL gS
    rcases List.mem_cons.mp hp with rfl | hp
    · obtain rfl := hp_y0 hys
      cases hp_gSn gS
      exact e0 l' h' a1_9 a2 a3 (hp_gLa gL (List.mem_of_getElem? (i := 0) rfl) (by decide)) (hp_gLi (z := (0 + (1 * cc + 0))) gL (List.mem_of_getElem? (i := 1) rfl) rfl (by omega)) (hp_gLi (z := (0 + (1 * me + 0))) gL (List.mem_of_getElem? (i := 2) rfl) rfl (by omega)) (hp_gLi (z := (1 + (1 * n + 0))) gL (List.mem_of_getElem? (i := 3) rfl) rfl (by omega)) (hp_gLi (z := (1 + (1 * i + 0))) gL (List.mem_of_getElem? (i := 4) rfl) rfl (by omega))
    cases hp
  · intro p_9 hp ys v_9 h' hys a1_9 a2 a3 gZ gS
    cases hp
theorem mkN0_k : hp_chk 332 5 7 [(0, 0, 1199), (1, 0, 29), (2, (-2147483648), 2147483647), (3, 1, 40), (4, 0, 820), (5, 0, 820), (6, 0, 820)] [((-1), [(4, (-1)), (5, 1)]), (819, [(4, (-1)), (6, (-1))])] [(0, .inr (.inr (.inl (some 94)))), (1, .inl (0, [(0, 1)])), (2, .inl (0, [(2, 1)])), (3, .inl (0, [(3, 1)])), (4, .inl (0, [(4, 1)]))] [] [(62040, (0, [(0, 1)]), (0, [(1, 1)])), (25088, (0, [(0, 1)]), (0, [(5, 1)])), (24832, (0, [(0, 1)]), (0, [(6, 1)])), (26880, (0, [(1, 820), (4, 1), (6, 1)]), ((-3), [])), (28160, ((-1), [(3, 1)]), (0, []))] [] 2 [(103, ([], 7, [(0, 0, 1199), (1, 0, 29), (2, (-2147483648), 2147483647), (3, 1, 40), (4, 0, 820), (5, 0, 820), (6, 0, 820)], [], [(0, .inr (.inr (.inl (some 94)))), (1, .inl (0, [(0, 1)])), (2, .inl (0, [(2, 1)])), (3, .inl (0, [(3, 1)])), (4, .inl (0, [(4, 1)]))], [.inl (1, []), .inl ((-1), [(3, 1)]), .inr (.inr (.inl (some 126)))], []))] [] = true := by decide +kernel
theorem mkN0 {cst : am_K} {strs : List Nat} {Φ : am_Q → Prop} {D : Nat} {M : am_M} {h : am_H} {l : am_L} (c : hp_C cst strs D) (hM : m_P[332]? = some M) (hD : (2 : Int) ≤ (D : Int) + 1) (hy : ly_hy m_tt ly_TH h) (cc a me n i le z : Int) (b0 : 0 ≤ cc) (t0 : cc ≤ 1199) (b1 : 0 ≤ a) (t1 : a ≤ 29) (b2 : (-2147483648) ≤ me) (t2 : me ≤ 2147483647) (b3 : 1 ≤ n) (t3 : n ≤ 40) (b4 : 0 ≤ i) (t4 : i ≤ 820) (b5 : 0 ≤ le) (t5 : le ≤ 820) (b6 : 0 ≤ z) (t6 : z ≤ 820) (f0 : 0 ≤ (le - i - 1)) (f1 : 0 ≤ (-z - i + 819)) (k0 : ly_hv cst h 62040 (cc) = some (a)) (k1 : ly_hv cst h 25088 (cc) = some (le)) (k2 : ly_hv cst h 24832 (cc) = some (z)) (k3 : ly_hv cst h 26880 (820 * a + z + i) = some (-3)) (k4 : ly_hv cst h 28160 (n - 1) = some 0) (l0 : hp_a l 0 94) (l1 : hp_i l 1 (cc)) (l2 : hp_i l 2 (me)) (l3 : hp_i l 3 (n)) (l4 : hp_i l 4 (i)) (e0 : ∀ (l' : am_L) (h' : am_H) (y0 : Int32) (y1 : Int32), y0.toInt = 1 → y1.toInt = (n - 1) → ly_hy m_tt ly_TH h' → ly_fr cst [] h h' → h.length ≤ h'.length → hp_a l' 0 94 → hp_i l' 1 (cc) → hp_i l' 2 (me) → hp_i l' 3 (n) → hp_i l' 4 (i) → hp_F cst strs Φ D M 103 l' [.int y0, .int y1, .ref 126] h') : hp_F cst strs Φ D M 5 l [] h := by
  refine hp_arc c hM mkN0_k hD [cc, a, me, n, i, le, z] rfl hy (hp_Bc (z := cc) rfl b0 t0 (hp_Bc (z := a) rfl b1 t1 (hp_Bc (z := me) rfl b2 t2 (hp_Bc (z := n) rfl b3 t3 (hp_Bc (z := i) rfl b4 t4 (hp_Bc (z := le) rfl b5 t5 (hp_Bc (z := z) rfl b6 t6 hp_Bn))))))) (hp_Fc (z := ((-1) + ((-1) * i + (1 * le + 0)))) rfl (by omega) (hp_Fc (z := (819 + ((-1) * i + ((-1) * z + 0)))) rfl (by omega) hp_Fn)) (hp_Kc (zi := (0 + (1 * cc + 0))) (zv := (0 + (1 * a + 0))) k0 rfl rfl (by omega) (by omega) (hp_Kc (zi := (0 + (1 * cc + 0))) (zv := (0 + (1 * le + 0))) k1 rfl rfl (by omega) (by omega) (hp_Kc (zi := (0 + (1 * cc + 0))) (zv := (0 + (1 * z + 0))) k2 rfl rfl (by omega) (by omega) (hp_Kc (zi := (0 + (820 * a + (1 * i + (1 * z + 0))))) (zv := ((-3) + 0)) k3 rfl rfl (by omega) (by omega) (hp_Kc (zi := ((-1) + (1 * n + 0))) (zv := (0 + 0)) k4 rfl rfl (by omega) (by omega) hp_Kn))))) (hp_La l0 (hp_Li (z := (0 + (1 * cc + 0))) l1 rfl (by omega) (hp_Li (z := (0 + (1 * me + 0))) l2 rfl (by omega) (hp_Li (z := (0 + (1 * n + 0))) l3 rfl (by omega) (hp_Li (z := (0 + (1 * i + 0))) l4 rfl (by omega) hp_Ln))))) trivial ?_ ?_
  · intro p_9 hp ys l' st' h' hys a1_9 a2 a3 gZ gL gS
    rcases List.mem_cons.mp hp with rfl | hp
    · obtain rfl := hp_y0 hys
      obtain ⟨y0, t0, rfl, q0, g0⟩ := hp_gSi (z := (1 + 0)) gS rfl
      obtain ⟨y1, t1, rfl, q1_9, g1⟩ := hp_gSi (z := ((-1) + (1 * n + 0))) g0 rfl
      obtain ⟨t2, rfl, g2⟩ := hp_gSa g1 (by decide)
      cases hp_gSn g2
      exact e0 l' h' y0 y1 (by omega) (by omega) a1_9 a2 a3 (hp_gLa gL (List.mem_of_getElem? (i := 0) rfl) (by decide)) (hp_gLi (z := (0 + (1 * cc + 0))) gL (List.mem_of_getElem? (i := 1) rfl) rfl (by omega)) (hp_gLi (z := (0 + (1 * me + 0))) gL (List.mem_of_getElem? (i := 2) rfl) rfl (by omega)) (hp_gLi (z := (0 + (1 * n + 0))) gL (List.mem_of_getElem? (i := 3) rfl) rfl (by omega)) (hp_gLi (z := (0 + (1 * i + 0))) gL (List.mem_of_getElem? (i := 4) rfl) rfl (by omega))
    cases hp
  · intro p_9 hp ys v_9 h' hys a1_9 a2 a3 gZ gS
    cases hp
theorem mkN1_k : hp_chk 332 5 7 [(0, 0, 1199), (1, 0, 29), (2, (-2147483648), 2147483647), (3, 1, 40), (4, 0, 820), (5, 0, 820), (6, 0, 820)] [((-1), [(4, (-1)), (5, 1)]), (819, [(4, (-1)), (6, (-1))])] [(0, .inr (.inr (.inl (some 94)))), (1, .inl (0, [(0, 1)])), (2, .inl (0, [(2, 1)])), (3, .inl (0, [(3, 1)])), (4, .inl (0, [(4, 1)]))] [] [(62040, (0, [(0, 1)]), (0, [(1, 1)])), (25088, (0, [(0, 1)]), (0, [(5, 1)])), (24832, (0, [(0, 1)]), (0, [(6, 1)])), (26880, (0, [(1, 820), (4, 1), (6, 1)]), ((-3), [])), (28160, ((-1), [(3, 1)]), (1, []))] [] 2 [(103, ([], 7, [(0, 0, 1199), (1, 0, 29), (2, (-2147483648), 2147483647), (3, 1, 40), (4, 0, 820), (5, 0, 820), (6, 0, 820)], [], [(0, .inr (.inr (.inl (some 94)))), (1, .inl (0, [(0, 1)])), (2, .inl (0, [(2, 1)])), (3, .inl (0, [(3, 1)])), (4, .inl (0, [(4, 1)]))], [.inl (0, []), .inl ((-1), [(3, 1)]), .inr (.inr (.inl (some 126)))], []))] [] = true := by decide +kernel
theorem mkN1 {cst : am_K} {strs : List Nat} {Φ : am_Q → Prop} {D : Nat} {M : am_M} {h : am_H} {l : am_L} (c : hp_C cst strs D) (hM : m_P[332]? = some M) (hD : (2 : Int) ≤ (D : Int) + 1) (hy : ly_hy m_tt ly_TH h) (cc a me n i le z : Int) (b0 : 0 ≤ cc) (t0 : cc ≤ 1199) (b1 : 0 ≤ a) (t1 : a ≤ 29) (b2 : (-2147483648) ≤ me) (t2 : me ≤ 2147483647) (b3 : 1 ≤ n) (t3 : n ≤ 40) (b4 : 0 ≤ i) (t4 : i ≤ 820) (b5 : 0 ≤ le) (t5 : le ≤ 820) (b6 : 0 ≤ z) (t6 : z ≤ 820) (f0 : 0 ≤ (le - i - 1)) (f1 : 0 ≤ (-z - i + 819)) (k0 : ly_hv cst h 62040 (cc) = some (a)) (k1 : ly_hv cst h 25088 (cc) = some (le)) (k2 : ly_hv cst h 24832 (cc) = some (z)) (k3 : ly_hv cst h 26880 (820 * a + z + i) = some (-3)) (k4 : ly_hv cst h 28160 (n - 1) = some 1) (l0 : hp_a l 0 94) (l1 : hp_i l 1 (cc)) (l2 : hp_i l 2 (me)) (l3 : hp_i l 3 (n)) (l4 : hp_i l 4 (i)) (e0 : ∀ (l' : am_L) (h' : am_H) (y0 : Int32) (y1 : Int32), y0.toInt = 0 → y1.toInt = (n - 1) → ly_hy m_tt ly_TH h' → ly_fr cst [] h h' → h.length ≤ h'.length → hp_a l' 0 94 → hp_i l' 1 (cc) → hp_i l' 2 (me) → hp_i l' 3 (n) → hp_i l' 4 (i) → hp_F cst strs Φ D M 103 l' [.int y0, .int y1, .ref 126] h') : hp_F cst strs Φ D M 5 l [] h := by
  refine hp_arc c hM mkN1_k hD [cc, a, me, n, i, le, z] rfl hy (hp_Bc (z := cc) rfl b0 t0 (hp_Bc (z := a) rfl b1 t1 (hp_Bc (z := me) rfl b2 t2 (hp_Bc (z := n) rfl b3 t3 (hp_Bc (z := i) rfl b4 t4 (hp_Bc (z := le) rfl b5 t5 (hp_Bc (z := z) rfl b6 t6 hp_Bn))))))) (hp_Fc (z := ((-1) + ((-1) * i + (1 * le + 0)))) rfl (by omega) (hp_Fc (z := (819 + ((-1) * i + ((-1) * z + 0)))) rfl (by omega) hp_Fn)) (hp_Kc (zi := (0 + (1 * cc + 0))) (zv := (0 + (1 * a + 0))) k0 rfl rfl (by omega) (by omega) (hp_Kc (zi := (0 + (1 * cc + 0))) (zv := (0 + (1 * le + 0))) k1 rfl rfl (by omega) (by omega) (hp_Kc (zi := (0 + (1 * cc + 0))) (zv := (0 + (1 * z + 0))) k2 rfl rfl (by omega) (by omega) (hp_Kc (zi := (0 + (820 * a + (1 * i + (1 * z + 0))))) (zv := ((-3) + 0)) k3 rfl rfl (by omega) (by omega) (hp_Kc (zi := ((-1) + (1 * n + 0))) (zv := (1 + 0)) k4 rfl rfl (by omega) (by omega) hp_Kn))))) (hp_La l0 (hp_Li (z := (0 + (1 * cc + 0))) l1 rfl (by omega) (hp_Li (z := (0 + (1 * me + 0))) l2 rfl (by omega) (hp_Li (z := (0 + (1 * n + 0))) l3 rfl (by omega) (hp_Li (z := (0 + (1 * i + 0))) l4 rfl (by omega) hp_Ln))))) trivial ?_ ?_
  · intro p_9 hp ys l' st' h' hys a1_9 a2 a3 gZ gL gS
    rcases List.mem_cons.mp hp with rfl | hp
    · obtain rfl := hp_y0 hys
      obtain ⟨y0, t0, rfl, q0, g0⟩ := hp_gSi (z := (0 + 0)) gS rfl
      obtain ⟨y1, t1, rfl, q1_9, g1⟩ := hp_gSi (z := ((-1) + (1 * n + 0))) g0 rfl
      obtain ⟨t2, rfl, g2⟩ := hp_gSa g1 (by decide)
      cases hp_gSn g2
      exact e0 l' h' y0 y1 (by omega) (by omega) a1_9 a2 a3 (hp_gLa gL (List.mem_of_getElem? (i := 0) rfl) (by decide)) (hp_gLi (z := (0 + (1 * cc + 0))) gL (List.mem_of_getElem? (i := 1) rfl) rfl (by omega)) (hp_gLi (z := (0 + (1 * me + 0))) gL (List.mem_of_getElem? (i := 2) rfl) rfl (by omega)) (hp_gLi (z := (0 + (1 * n + 0))) gL (List.mem_of_getElem? (i := 3) rfl) rfl (by omega)) (hp_gLi (z := (0 + (1 * i + 0))) gL (List.mem_of_getElem? (i := 4) rfl) rfl (by omega))
    cases hp
  · intro p_9 hp ys v_9 h' hys a1_9 a2 a3 gZ gS
    cases hp
theorem mkN3_k : hp_chk 332 104 4 [(0, 0, 1199), (1, (-2147483648), 2147483647), (2, 0, 40), (3, 0, 820)] [] [(0, .inr (.inr (.inl (some 94)))), (1, .inl (0, [(0, 1)])), (2, .inl (0, [(1, 1)])), (3, .inl (0, [(2, 1)])), (4, .inl (0, [(3, 1)]))] [] [] [] 2 [(5, ([], 4, [(0, 0, 1199), (1, (-2147483648), 2147483647), (2, 0, 40), (3, 0, 820)], [], [(0, .inr (.inr (.inl (some 94)))), (1, .inl (0, [(0, 1)])), (2, .inl (0, [(1, 1)])), (3, .inl (0, [(2, 1)])), (4, .inl (1, [(3, 1)]))], [], []))] [] = true := by decide +kernel
theorem mkN3 {cst : am_K} {strs : List Nat} {Φ : am_Q → Prop} {D : Nat} {M : am_M} {h : am_H} {l : am_L} (c : hp_C cst strs D) (hM : m_P[332]? = some M) (hD : (2 : Int) ≤ (D : Int) + 1) (hy : ly_hy m_tt ly_TH h) (cc me n i : Int) (b0 : 0 ≤ cc) (t0 : cc ≤ 1199) (b1 : (-2147483648) ≤ me) (t1 : me ≤ 2147483647) (b2 : 0 ≤ n) (t2 : n ≤ 40) (b3 : 0 ≤ i) (t3 : i ≤ 820) (l0 : hp_a l 0 94) (l1 : hp_i l 1 (cc)) (l2 : hp_i l 2 (me)) (l3 : hp_i l 3 (n)) (l4 : hp_i l 4 (i)) (e0 : ∀ (l' : am_L) (h' : am_H), ly_hy m_tt ly_TH h' → ly_fr cst [] h h' → h.length ≤ h'.length → hp_a l' 0 94 → hp_i l' 1 (cc) → hp_i l' 2 (me) → hp_i l' 3 (n) → hp_i l' 4 (i + 1) → hp_F cst strs Φ D M 5 l' [] h') : hp_F cst strs Φ D M 104 l [] h := by
  refine hp_arc c hM mkN3_k hD [cc, me, n, i] rfl hy (hp_Bc (z := cc) rfl b0 t0 (hp_Bc (z := me) rfl b1 t1 (hp_Bc (z := n) rfl b2 t2 (hp_Bc (z := i) rfl b3 t3 hp_Bn)))) hp_Fn hp_Kn (hp_La l0 (hp_Li (z := (0 + (1 * cc + 0))) l1 rfl (by omega) (hp_Li (z := (0 + (1 * me + 0))) l2 rfl (by omega) (hp_Li (z := (0 + (1 * n + 0))) l3 rfl (by omega) (hp_Li (z := (0 + (1 * i + 0))) l4 rfl (by omega) hp_Ln))))) trivial ?_ ?_
  · intro p_9 hp ys l' st' h' hys a1_9 a2 a3 gZ gL gS
    rcases List.mem_cons.mp hp with rfl | hp
    · obtain rfl := hp_y0 hys
      cases hp_gSn gS
      exact e0 l' h' a1_9 a2 a3 (hp_gLa gL (List.mem_of_getElem? (i := 0) rfl) (by decide)) (hp_gLi (z := (0 + (1 * cc + 0))) gL (List.mem_of_getElem? (i := 1) rfl) rfl (by omega)) (hp_gLi (z := (0 + (1 * me + 0))) gL (List.mem_of_getElem? (i := 2) rfl) rfl (by omega)) (hp_gLi (z := (0 + (1 * n + 0))) gL (List.mem_of_getElem? (i := 3) rfl) rfl (by omega)) (hp_gLi (z := (1 + (1 * i + 0))) gL (List.mem_of_getElem? (i := 4) rfl) rfl (by omega))
    cases hp
  · intro p_9 hp ys v_9 h' hys a1_9 a2 a3 gZ gS
    cases hp
theorem mkJ100_k : hp_chk 332 5 7 [(0, 0, 1199), (1, 0, 29), (2, (-2147483648), 2147483647), (3, 2, 40), (4, 0, 820), (5, 0, 820), (6, 0, 820)] [((-1), [(4, (-1)), (5, 1)]), (819, [(4, (-1)), (6, (-1))])] [(0, .inr (.inr (.inl (some 94)))), (1, .inl (0, [(0, 1)])), (2, .inl (0, [(2, 1)])), (3, .inl (0, [(3, 1)])), (4, .inl (0, [(4, 1)]))] [] [(62040, (0, [(0, 1)]), (0, [(1, 1)])), (25088, (0, [(0, 1)]), (0, [(5, 1)])), (24832, (0, [(0, 1)]), (0, [(6, 1)])), (26880, (0, [(1, 820), (4, 1), (6, 1)]), ((-1), [])), (28160, ((-1), [(3, 1)]), (0, [])), (28160, ((-2), [(3, 1)]), (0, []))] [] 2 [(207, ([], 7, [(0, 0, 1199), (1, 0, 29), (2, (-2147483648), 2147483647), (3, 2, 40), (4, 0, 820), (5, 0, 820), (6, 0, 820)], [], [(0, .inr (.inr (.inl (some 94)))), (1, .inl (0, [(0, 1)])), (2, .inl (0, [(2, 1)])), (3, .inl ((-1), [(3, 1)])), (4, .inl (0, [(4, 1)]))], [.inl (0, []), .inl ((-2), [(3, 1)]), .inr (.inr (.inl (some 126)))], []))] [] = true := by decide +kernel
theorem mkJ100 {cst : am_K} {strs : List Nat} {Φ : am_Q → Prop} {D : Nat} {M : am_M} {h : am_H} {l : am_L} (c : hp_C cst strs D) (hM : m_P[332]? = some M) (hD : (2 : Int) ≤ (D : Int) + 1) (hy : ly_hy m_tt ly_TH h) (cc a me n i le z : Int) (b0 : 0 ≤ cc) (t0 : cc ≤ 1199) (b1 : 0 ≤ a) (t1 : a ≤ 29) (b2 : (-2147483648) ≤ me) (t2 : me ≤ 2147483647) (b3 : 2 ≤ n) (t3 : n ≤ 40) (b4 : 0 ≤ i) (t4 : i ≤ 820) (b5 : 0 ≤ le) (t5 : le ≤ 820) (b6 : 0 ≤ z) (t6 : z ≤ 820) (f0 : 0 ≤ (le - i - 1)) (f1 : 0 ≤ (-z - i + 819)) (k0 : ly_hv cst h 62040 (cc) = some (a)) (k1 : ly_hv cst h 25088 (cc) = some (le)) (k2 : ly_hv cst h 24832 (cc) = some (z)) (k3 : ly_hv cst h 26880 (820 * a + z + i) = some (-1)) (k4 : ly_hv cst h 28160 (n - 1) = some 0) (k5 : ly_hv cst h 28160 (n - 2) = some 0) (l0 : hp_a l 0 94) (l1 : hp_i l 1 (cc)) (l2 : hp_i l 2 (me)) (l3 : hp_i l 3 (n)) (l4 : hp_i l 4 (i)) (e0 : ∀ (l' : am_L) (h' : am_H) (y0 : Int32) (y1 : Int32), y0.toInt = 0 → y1.toInt = (n - 2) → ly_hy m_tt ly_TH h' → ly_fr cst [] h h' → h.length ≤ h'.length → hp_a l' 0 94 → hp_i l' 1 (cc) → hp_i l' 2 (me) → hp_i l' 3 (n - 1) → hp_i l' 4 (i) → hp_F cst strs Φ D M 207 l' [.int y0, .int y1, .ref 126] h') : hp_F cst strs Φ D M 5 l [] h := by
  refine hp_arc c hM mkJ100_k hD [cc, a, me, n, i, le, z] rfl hy (hp_Bc (z := cc) rfl b0 t0 (hp_Bc (z := a) rfl b1 t1 (hp_Bc (z := me) rfl b2 t2 (hp_Bc (z := n) rfl b3 t3 (hp_Bc (z := i) rfl b4 t4 (hp_Bc (z := le) rfl b5 t5 (hp_Bc (z := z) rfl b6 t6 hp_Bn))))))) (hp_Fc (z := ((-1) + ((-1) * i + (1 * le + 0)))) rfl (by omega) (hp_Fc (z := (819 + ((-1) * i + ((-1) * z + 0)))) rfl (by omega) hp_Fn)) (hp_Kc (zi := (0 + (1 * cc + 0))) (zv := (0 + (1 * a + 0))) k0 rfl rfl (by omega) (by omega) (hp_Kc (zi := (0 + (1 * cc + 0))) (zv := (0 + (1 * le + 0))) k1 rfl rfl (by omega) (by omega) (hp_Kc (zi := (0 + (1 * cc + 0))) (zv := (0 + (1 * z + 0))) k2 rfl rfl (by omega) (by omega) (hp_Kc (zi := (0 + (820 * a + (1 * i + (1 * z + 0))))) (zv := ((-1) + 0)) k3 rfl rfl (by omega) (by omega) (hp_Kc (zi := ((-1) + (1 * n + 0))) (zv := (0 + 0)) k4 rfl rfl (by omega) (by omega) (hp_Kc (zi := ((-2) + (1 * n + 0))) (zv := (0 + 0)) k5 rfl rfl (by omega) (by omega) hp_Kn)))))) (hp_La l0 (hp_Li (z := (0 + (1 * cc + 0))) l1 rfl (by omega) (hp_Li (z := (0 + (1 * me + 0))) l2 rfl (by omega) (hp_Li (z := (0 + (1 * n + 0))) l3 rfl (by omega) (hp_Li (z := (0 + (1 * i + 0))) l4 rfl (by omega) hp_Ln))))) trivial ?_ ?_
  · intro p_9 hp ys l' st' h' hys a1_9 a2 a3 gZ gL gS
    rcases List.mem_cons.mp hp with rfl | hp
    · obtain rfl := hp_y0 hys
      obtain ⟨y0, t0, rfl, q0, g0⟩ := hp_gSi (z := (0 + 0)) gS rfl
      obtain ⟨y1, t1, rfl, q1_9, g1⟩ := hp_gSi (z := ((-2) + (1 * n + 0))) g0 rfl
      obtain ⟨t2, rfl, g2⟩ := hp_gSa g1 (by decide)
      cases hp_gSn g2
      exact e0 l' h' y0 y1 (by omega) (by omega) a1_9 a2 a3 (hp_gLa gL (List.mem_of_getElem? (i := 0) rfl) (by decide)) (hp_gLi (z := (0 + (1 * cc + 0))) gL (List.mem_of_getElem? (i := 1) rfl) rfl (by omega)) (hp_gLi (z := (0 + (1 * me + 0))) gL (List.mem_of_getElem? (i := 2) rfl) rfl (by omega)) (hp_gLi (z := ((-1) + (1 * n + 0))) gL (List.mem_of_getElem? (i := 3) rfl) rfl (by omega)) (hp_gLi (z := (0 + (1 * i + 0))) gL (List.mem_of_getElem? (i := 4) rfl) rfl (by omega))
    cases hp
  · intro p_9 hp ys v_9 h' hys a1_9 a2 a3 gZ gS
    cases hp
theorem mkJ101_k : hp_chk 332 5 7 [(0, 0, 1199), (1, 0, 29), (2, (-2147483648), 2147483647), (3, 2, 40), (4, 0, 820), (5, 0, 820), (6, 0, 820)] [((-1), [(4, (-1)), (5, 1)]), (819, [(4, (-1)), (6, (-1))])] [(0, .inr (.inr (.inl (some 94)))), (1, .inl (0, [(0, 1)])), (2, .inl (0, [(2, 1)])), (3, .inl (0, [(3, 1)])), (4, .inl (0, [(4, 1)]))] [] [(62040, (0, [(0, 1)]), (0, [(1, 1)])), (25088, (0, [(0, 1)]), (0, [(5, 1)])), (24832, (0, [(0, 1)]), (0, [(6, 1)])), (26880, (0, [(1, 820), (4, 1), (6, 1)]), ((-1), [])), (28160, ((-1), [(3, 1)]), (1, [])), (28160, ((-2), [(3, 1)]), (0, []))] [] 2 [(207, ([], 7, [(0, 0, 1199), (1, 0, 29), (2, (-2147483648), 2147483647), (3, 2, 40), (4, 0, 820), (5, 0, 820), (6, 0, 820)], [], [(0, .inr (.inr (.inl (some 94)))), (1, .inl (0, [(0, 1)])), (2, .inl (0, [(2, 1)])), (3, .inl ((-1), [(3, 1)])), (4, .inl (0, [(4, 1)]))], [.inl (0, []), .inl ((-2), [(3, 1)]), .inr (.inr (.inl (some 126)))], []))] [] = true := by decide +kernel
theorem mkJ101 {cst : am_K} {strs : List Nat} {Φ : am_Q → Prop} {D : Nat} {M : am_M} {h : am_H} {l : am_L} (c : hp_C cst strs D) (hM : m_P[332]? = some M) (hD : (2 : Int) ≤ (D : Int) + 1) (hy : ly_hy m_tt ly_TH h) (cc a me n i le z : Int) (b0 : 0 ≤ cc) (t0 : cc ≤ 1199) (b1 : 0 ≤ a) (t1 : a ≤ 29) (b2 : (-2147483648) ≤ me) (t2 : me ≤ 2147483647) (b3 : 2 ≤ n) (t3 : n ≤ 40) (b4 : 0 ≤ i) (t4 : i ≤ 820) (b5 : 0 ≤ le) (t5 : le ≤ 820) (b6 : 0 ≤ z) (t6 : z ≤ 820) (f0 : 0 ≤ (le - i - 1)) (f1 : 0 ≤ (-z - i + 819)) (k0 : ly_hv cst h 62040 (cc) = some (a)) (k1 : ly_hv cst h 25088 (cc) = some (le)) (k2 : ly_hv cst h 24832 (cc) = some (z)) (k3 : ly_hv cst h 26880 (820 * a + z + i) = some (-1)) (k4 : ly_hv cst h 28160 (n - 1) = some 1) (k5 : ly_hv cst h 28160 (n - 2) = some 0) (l0 : hp_a l 0 94) (l1 : hp_i l 1 (cc)) (l2 : hp_i l 2 (me)) (l3 : hp_i l 3 (n)) (l4 : hp_i l 4 (i)) (e0 : ∀ (l' : am_L) (h' : am_H) (y0 : Int32) (y1 : Int32), y0.toInt = 0 → y1.toInt = (n - 2) → ly_hy m_tt ly_TH h' → ly_fr cst [] h h' → h.length ≤ h'.length → hp_a l' 0 94 → hp_i l' 1 (cc) → hp_i l' 2 (me) → hp_i l' 3 (n - 1) → hp_i l' 4 (i) → hp_F cst strs Φ D M 207 l' [.int y0, .int y1, .ref 126] h') : hp_F cst strs Φ D M 5 l [] h := by
  refine hp_arc c hM mkJ101_k hD [cc, a, me, n, i, le, z] rfl hy (hp_Bc (z := cc) rfl b0 t0 (hp_Bc (z := a) rfl b1 t1 (hp_Bc (z := me) rfl b2 t2 (hp_Bc (z := n) rfl b3 t3 (hp_Bc (z := i) rfl b4 t4 (hp_Bc (z := le) rfl b5 t5 (hp_Bc (z := z) rfl b6 t6 hp_Bn))))))) (hp_Fc (z := ((-1) + ((-1) * i + (1 * le + 0)))) rfl (by omega) (hp_Fc (z := (819 + ((-1) * i + ((-1) * z + 0)))) rfl (by omega) hp_Fn)) (hp_Kc (zi := (0 + (1 * cc + 0))) (zv := (0 + (1 * a + 0))) k0 rfl rfl (by omega) (by omega) (hp_Kc (zi := (0 + (1 * cc + 0))) (zv := (0 + (1 * le + 0))) k1 rfl rfl (by omega) (by omega) (hp_Kc (zi := (0 + (1 * cc + 0))) (zv := (0 + (1 * z + 0))) k2 rfl rfl (by omega) (by omega) (hp_Kc (zi := (0 + (820 * a + (1 * i + (1 * z + 0))))) (zv := ((-1) + 0)) k3 rfl rfl (by omega) (by omega) (hp_Kc (zi := ((-1) + (1 * n + 0))) (zv := (1 + 0)) k4 rfl rfl (by omega) (by omega) (hp_Kc (zi := ((-2) + (1 * n + 0))) (zv := (0 + 0)) k5 rfl rfl (by omega) (by omega) hp_Kn)))))) (hp_La l0 (hp_Li (z := (0 + (1 * cc + 0))) l1 rfl (by omega) (hp_Li (z := (0 + (1 * me + 0))) l2 rfl (by omega) (hp_Li (z := (0 + (1 * n + 0))) l3 rfl (by omega) (hp_Li (z := (0 + (1 * i + 0))) l4 rfl (by omega) hp_Ln))))) trivial ?_ ?_
  · intro p_9 hp ys l' st' h' hys a1_9 a2 a3 gZ gL gS
    rcases List.mem_cons.mp hp with rfl | hp
    · obtain rfl := hp_y0 hys
      obtain ⟨y0, t0, rfl, q0, g0⟩ := hp_gSi (z := (0 + 0)) gS rfl
      obtain ⟨y1, t1, rfl, q1_9, g1⟩ := hp_gSi (z := ((-2) + (1 * n + 0))) g0 rfl
      obtain ⟨t2, rfl, g2⟩ := hp_gSa g1 (by decide)
      cases hp_gSn g2
      exact e0 l' h' y0 y1 (by omega) (by omega) a1_9 a2 a3 (hp_gLa gL (List.mem_of_getElem? (i := 0) rfl) (by decide)) (hp_gLi (z := (0 + (1 * cc + 0))) gL (List.mem_of_getElem? (i := 1) rfl) rfl (by omega)) (hp_gLi (z := (0 + (1 * me + 0))) gL (List.mem_of_getElem? (i := 2) rfl) rfl (by omega)) (hp_gLi (z := ((-1) + (1 * n + 0))) gL (List.mem_of_getElem? (i := 3) rfl) rfl (by omega)) (hp_gLi (z := (0 + (1 * i + 0))) gL (List.mem_of_getElem? (i := 4) rfl) rfl (by omega))
    cases hp
  · intro p_9 hp ys v_9 h' hys a1_9 a2 a3 gZ gS
    cases hp
theorem mkJ110_k : hp_chk 332 5 7 [(0, 0, 1199), (1, 0, 29), (2, (-2147483648), 2147483647), (3, 2, 40), (4, 0, 820), (5, 0, 820), (6, 0, 820)] [((-1), [(4, (-1)), (5, 1)]), (819, [(4, (-1)), (6, (-1))])] [(0, .inr (.inr (.inl (some 94)))), (1, .inl (0, [(0, 1)])), (2, .inl (0, [(2, 1)])), (3, .inl (0, [(3, 1)])), (4, .inl (0, [(4, 1)]))] [] [(62040, (0, [(0, 1)]), (0, [(1, 1)])), (25088, (0, [(0, 1)]), (0, [(5, 1)])), (24832, (0, [(0, 1)]), (0, [(6, 1)])), (26880, (0, [(1, 820), (4, 1), (6, 1)]), ((-1), [])), (28160, ((-1), [(3, 1)]), (0, [])), (28160, ((-2), [(3, 1)]), (1, []))] [] 2 [(207, ([], 7, [(0, 0, 1199), (1, 0, 29), (2, (-2147483648), 2147483647), (3, 2, 40), (4, 0, 820), (5, 0, 820), (6, 0, 820)], [], [(0, .inr (.inr (.inl (some 94)))), (1, .inl (0, [(0, 1)])), (2, .inl (0, [(2, 1)])), (3, .inl ((-1), [(3, 1)])), (4, .inl (0, [(4, 1)]))], [.inl (0, []), .inl ((-2), [(3, 1)]), .inr (.inr (.inl (some 126)))], []))] [] = true := by decide +kernel
theorem mkJ110 {cst : am_K} {strs : List Nat} {Φ : am_Q → Prop} {D : Nat} {M : am_M} {h : am_H} {l : am_L} (c : hp_C cst strs D) (hM : m_P[332]? = some M) (hD : (2 : Int) ≤ (D : Int) + 1) (hy : ly_hy m_tt ly_TH h) (cc a me n i le z : Int) (b0 : 0 ≤ cc) (t0 : cc ≤ 1199) (b1 : 0 ≤ a) (t1 : a ≤ 29) (b2 : (-2147483648) ≤ me) (t2 : me ≤ 2147483647) (b3 : 2 ≤ n) (t3 : n ≤ 40) (b4 : 0 ≤ i) (t4 : i ≤ 820) (b5 : 0 ≤ le) (t5 : le ≤ 820) (b6 : 0 ≤ z) (t6 : z ≤ 820) (f0 : 0 ≤ (le - i - 1)) (f1 : 0 ≤ (-z - i + 819)) (k0 : ly_hv cst h 62040 (cc) = some (a)) (k1 : ly_hv cst h 25088 (cc) = some (le)) (k2 : ly_hv cst h 24832 (cc) = some (z)) (k3 : ly_hv cst h 26880 (820 * a + z + i) = some (-1)) (k4 : ly_hv cst h 28160 (n - 1) = some 0) (k5 : ly_hv cst h 28160 (n - 2) = some 1) (l0 : hp_a l 0 94) (l1 : hp_i l 1 (cc)) (l2 : hp_i l 2 (me)) (l3 : hp_i l 3 (n)) (l4 : hp_i l 4 (i)) (e0 : ∀ (l' : am_L) (h' : am_H) (y0 : Int32) (y1 : Int32), y0.toInt = 0 → y1.toInt = (n - 2) → ly_hy m_tt ly_TH h' → ly_fr cst [] h h' → h.length ≤ h'.length → hp_a l' 0 94 → hp_i l' 1 (cc) → hp_i l' 2 (me) → hp_i l' 3 (n - 1) → hp_i l' 4 (i) → hp_F cst strs Φ D M 207 l' [.int y0, .int y1, .ref 126] h') : hp_F cst strs Φ D M 5 l [] h := by
  refine hp_arc c hM mkJ110_k hD [cc, a, me, n, i, le, z] rfl hy (hp_Bc (z := cc) rfl b0 t0 (hp_Bc (z := a) rfl b1 t1 (hp_Bc (z := me) rfl b2 t2 (hp_Bc (z := n) rfl b3 t3 (hp_Bc (z := i) rfl b4 t4 (hp_Bc (z := le) rfl b5 t5 (hp_Bc (z := z) rfl b6 t6 hp_Bn))))))) (hp_Fc (z := ((-1) + ((-1) * i + (1 * le + 0)))) rfl (by omega) (hp_Fc (z := (819 + ((-1) * i + ((-1) * z + 0)))) rfl (by omega) hp_Fn)) (hp_Kc (zi := (0 + (1 * cc + 0))) (zv := (0 + (1 * a + 0))) k0 rfl rfl (by omega) (by omega) (hp_Kc (zi := (0 + (1 * cc + 0))) (zv := (0 + (1 * le + 0))) k1 rfl rfl (by omega) (by omega) (hp_Kc (zi := (0 + (1 * cc + 0))) (zv := (0 + (1 * z + 0))) k2 rfl rfl (by omega) (by omega) (hp_Kc (zi := (0 + (820 * a + (1 * i + (1 * z + 0))))) (zv := ((-1) + 0)) k3 rfl rfl (by omega) (by omega) (hp_Kc (zi := ((-1) + (1 * n + 0))) (zv := (0 + 0)) k4 rfl rfl (by omega) (by omega) (hp_Kc (zi := ((-2) + (1 * n + 0))) (zv := (1 + 0)) k5 rfl rfl (by omega) (by omega) hp_Kn)))))) (hp_La l0 (hp_Li (z := (0 + (1 * cc + 0))) l1 rfl (by omega) (hp_Li (z := (0 + (1 * me + 0))) l2 rfl (by omega) (hp_Li (z := (0 + (1 * n + 0))) l3 rfl (by omega) (hp_Li (z := (0 + (1 * i + 0))) l4 rfl (by omega) hp_Ln))))) trivial ?_ ?_
  · intro p_9 hp ys l' st' h' hys a1_9 a2 a3 gZ gL gS
    rcases List.mem_cons.mp hp with rfl | hp
    · obtain rfl := hp_y0 hys
      obtain ⟨y0, t0, rfl, q0, g0⟩ := hp_gSi (z := (0 + 0)) gS rfl
      obtain ⟨y1, t1, rfl, q1_9, g1⟩ := hp_gSi (z := ((-2) + (1 * n + 0))) g0 rfl
      obtain ⟨t2, rfl, g2⟩ := hp_gSa g1 (by decide)
      cases hp_gSn g2
      exact e0 l' h' y0 y1 (by omega) (by omega) a1_9 a2 a3 (hp_gLa gL (List.mem_of_getElem? (i := 0) rfl) (by decide)) (hp_gLi (z := (0 + (1 * cc + 0))) gL (List.mem_of_getElem? (i := 1) rfl) rfl (by omega)) (hp_gLi (z := (0 + (1 * me + 0))) gL (List.mem_of_getElem? (i := 2) rfl) rfl (by omega)) (hp_gLi (z := ((-1) + (1 * n + 0))) gL (List.mem_of_getElem? (i := 3) rfl) rfl (by omega)) (hp_gLi (z := (0 + (1 * i + 0))) gL (List.mem_of_getElem? (i := 4) rfl) rfl (by omega))
    cases hp
  · intro p_9 hp ys v_9 h' hys a1_9 a2 a3 gZ gS
    cases hp
theorem mkJ111_k : hp_chk 332 5 7 [(0, 0, 1199), (1, 0, 29), (2, (-2147483648), 2147483647), (3, 2, 40), (4, 0, 820), (5, 0, 820), (6, 0, 820)] [((-1), [(4, (-1)), (5, 1)]), (819, [(4, (-1)), (6, (-1))])] [(0, .inr (.inr (.inl (some 94)))), (1, .inl (0, [(0, 1)])), (2, .inl (0, [(2, 1)])), (3, .inl (0, [(3, 1)])), (4, .inl (0, [(4, 1)]))] [] [(62040, (0, [(0, 1)]), (0, [(1, 1)])), (25088, (0, [(0, 1)]), (0, [(5, 1)])), (24832, (0, [(0, 1)]), (0, [(6, 1)])), (26880, (0, [(1, 820), (4, 1), (6, 1)]), ((-1), [])), (28160, ((-1), [(3, 1)]), (1, [])), (28160, ((-2), [(3, 1)]), (1, []))] [] 2 [(207, ([], 7, [(0, 0, 1199), (1, 0, 29), (2, (-2147483648), 2147483647), (3, 2, 40), (4, 0, 820), (5, 0, 820), (6, 0, 820)], [], [(0, .inr (.inr (.inl (some 94)))), (1, .inl (0, [(0, 1)])), (2, .inl (0, [(2, 1)])), (3, .inl ((-1), [(3, 1)])), (4, .inl (0, [(4, 1)]))], [.inl (1, []), .inl ((-2), [(3, 1)]), .inr (.inr (.inl (some 126)))], []))] [] = true := by decide +kernel
theorem mkJ111 {cst : am_K} {strs : List Nat} {Φ : am_Q → Prop} {D : Nat} {M : am_M} {h : am_H} {l : am_L} (c : hp_C cst strs D) (hM : m_P[332]? = some M) (hD : (2 : Int) ≤ (D : Int) + 1) (hy : ly_hy m_tt ly_TH h) (cc a me n i le z : Int) (b0 : 0 ≤ cc) (t0 : cc ≤ 1199) (b1 : 0 ≤ a) (t1 : a ≤ 29) (b2 : (-2147483648) ≤ me) (t2 : me ≤ 2147483647) (b3 : 2 ≤ n) (t3 : n ≤ 40) (b4 : 0 ≤ i) (t4 : i ≤ 820) (b5 : 0 ≤ le) (t5 : le ≤ 820) (b6 : 0 ≤ z) (t6 : z ≤ 820) (f0 : 0 ≤ (le - i - 1)) (f1 : 0 ≤ (-z - i + 819)) (k0 : ly_hv cst h 62040 (cc) = some (a)) (k1 : ly_hv cst h 25088 (cc) = some (le)) (k2 : ly_hv cst h 24832 (cc) = some (z)) (k3 : ly_hv cst h 26880 (820 * a + z + i) = some (-1)) (k4 : ly_hv cst h 28160 (n - 1) = some 1) (k5 : ly_hv cst h 28160 (n - 2) = some 1) (l0 : hp_a l 0 94) (l1 : hp_i l 1 (cc)) (l2 : hp_i l 2 (me)) (l3 : hp_i l 3 (n)) (l4 : hp_i l 4 (i)) (e0 : ∀ (l' : am_L) (h' : am_H) (y0 : Int32) (y1 : Int32), y0.toInt = 1 → y1.toInt = (n - 2) → ly_hy m_tt ly_TH h' → ly_fr cst [] h h' → h.length ≤ h'.length → hp_a l' 0 94 → hp_i l' 1 (cc) → hp_i l' 2 (me) → hp_i l' 3 (n - 1) → hp_i l' 4 (i) → hp_F cst strs Φ D M 207 l' [.int y0, .int y1, .ref 126] h') : hp_F cst strs Φ D M 5 l [] h := by
  refine hp_arc c hM mkJ111_k hD [cc, a, me, n, i, le, z] rfl hy (hp_Bc (z := cc) rfl b0 t0 (hp_Bc (z := a) rfl b1 t1 (hp_Bc (z := me) rfl b2 t2 (hp_Bc (z := n) rfl b3 t3 (hp_Bc (z := i) rfl b4 t4 (hp_Bc (z := le) rfl b5 t5 (hp_Bc (z := z) rfl b6 t6 hp_Bn))))))) (hp_Fc (z := ((-1) + ((-1) * i + (1 * le + 0)))) rfl (by omega) (hp_Fc (z := (819 + ((-1) * i + ((-1) * z + 0)))) rfl (by omega) hp_Fn)) (hp_Kc (zi := (0 + (1 * cc + 0))) (zv := (0 + (1 * a + 0))) k0 rfl rfl (by omega) (by omega) (hp_Kc (zi := (0 + (1 * cc + 0))) (zv := (0 + (1 * le + 0))) k1 rfl rfl (by omega) (by omega) (hp_Kc (zi := (0 + (1 * cc + 0))) (zv := (0 + (1 * z + 0))) k2 rfl rfl (by omega) (by omega) (hp_Kc (zi := (0 + (820 * a + (1 * i + (1 * z + 0))))) (zv := ((-1) + 0)) k3 rfl rfl (by omega) (by omega) (hp_Kc (zi := ((-1) + (1 * n + 0))) (zv := (1 + 0)) k4 rfl rfl (by omega) (by omega) (hp_Kc (zi := ((-2) + (1 * n + 0))) (zv := (1 + 0)) k5 rfl rfl (by omega) (by omega) hp_Kn)))))) (hp_La l0 (hp_Li (z := (0 + (1 * cc + 0))) l1 rfl (by omega) (hp_Li (z := (0 + (1 * me + 0))) l2 rfl (by omega) (hp_Li (z := (0 + (1 * n + 0))) l3 rfl (by omega) (hp_Li (z := (0 + (1 * i + 0))) l4 rfl (by omega) hp_Ln))))) trivial ?_ ?_
  · intro p_9 hp ys l' st' h' hys a1_9 a2 a3 gZ gL gS
    rcases List.mem_cons.mp hp with rfl | hp
    · obtain rfl := hp_y0 hys
      obtain ⟨y0, t0, rfl, q0, g0⟩ := hp_gSi (z := (1 + 0)) gS rfl
      obtain ⟨y1, t1, rfl, q1_9, g1⟩ := hp_gSi (z := ((-2) + (1 * n + 0))) g0 rfl
      obtain ⟨t2, rfl, g2⟩ := hp_gSa g1 (by decide)
      cases hp_gSn g2
      exact e0 l' h' y0 y1 (by omega) (by omega) a1_9 a2 a3 (hp_gLa gL (List.mem_of_getElem? (i := 0) rfl) (by decide)) (hp_gLi (z := (0 + (1 * cc + 0))) gL (List.mem_of_getElem? (i := 1) rfl) rfl (by omega)) (hp_gLi (z := (0 + (1 * me + 0))) gL (List.mem_of_getElem? (i := 2) rfl) rfl (by omega)) (hp_gLi (z := ((-1) + (1 * n + 0))) gL (List.mem_of_getElem? (i := 3) rfl) rfl (by omega)) (hp_gLi (z := (0 + (1 * i + 0))) gL (List.mem_of_getElem? (i := 4) rfl) rfl (by omega))
    cases hp
  · intro p_9 hp ys v_9 h' hys a1_9 a2 a3 gZ gS
    cases hp
theorem mkJ200_k : hp_chk 332 5 7 [(0, 0, 1199), (1, 0, 29), (2, (-2147483648), 2147483647), (3, 2, 40), (4, 0, 820), (5, 0, 820), (6, 0, 820)] [((-1), [(4, (-1)), (5, 1)]), (819, [(4, (-1)), (6, (-1))])] [(0, .inr (.inr (.inl (some 94)))), (1, .inl (0, [(0, 1)])), (2, .inl (0, [(2, 1)])), (3, .inl (0, [(3, 1)])), (4, .inl (0, [(4, 1)]))] [] [(62040, (0, [(0, 1)]), (0, [(1, 1)])), (25088, (0, [(0, 1)]), (0, [(5, 1)])), (24832, (0, [(0, 1)]), (0, [(6, 1)])), (26880, (0, [(1, 820), (4, 1), (6, 1)]), ((-2), [])), (28160, ((-1), [(3, 1)]), (0, [])), (28160, ((-2), [(3, 1)]), (0, []))] [] 2 [(207, ([], 7, [(0, 0, 1199), (1, 0, 29), (2, (-2147483648), 2147483647), (3, 2, 40), (4, 0, 820), (5, 0, 820), (6, 0, 820)], [], [(0, .inr (.inr (.inl (some 94)))), (1, .inl (0, [(0, 1)])), (2, .inl (0, [(2, 1)])), (3, .inl ((-1), [(3, 1)])), (4, .inl (0, [(4, 1)]))], [.inl (0, []), .inl ((-2), [(3, 1)]), .inr (.inr (.inl (some 126)))], []))] [] = true := by decide +kernel
theorem mkJ200 {cst : am_K} {strs : List Nat} {Φ : am_Q → Prop} {D : Nat} {M : am_M} {h : am_H} {l : am_L} (c : hp_C cst strs D) (hM : m_P[332]? = some M) (hD : (2 : Int) ≤ (D : Int) + 1) (hy : ly_hy m_tt ly_TH h) (cc a me n i le z : Int) (b0 : 0 ≤ cc) (t0 : cc ≤ 1199) (b1 : 0 ≤ a) (t1 : a ≤ 29) (b2 : (-2147483648) ≤ me) (t2 : me ≤ 2147483647) (b3 : 2 ≤ n) (t3 : n ≤ 40) (b4 : 0 ≤ i) (t4 : i ≤ 820) (b5 : 0 ≤ le) (t5 : le ≤ 820) (b6 : 0 ≤ z) (t6 : z ≤ 820) (f0 : 0 ≤ (le - i - 1)) (f1 : 0 ≤ (-z - i + 819)) (k0 : ly_hv cst h 62040 (cc) = some (a)) (k1 : ly_hv cst h 25088 (cc) = some (le)) (k2 : ly_hv cst h 24832 (cc) = some (z)) (k3 : ly_hv cst h 26880 (820 * a + z + i) = some (-2)) (k4 : ly_hv cst h 28160 (n - 1) = some 0) (k5 : ly_hv cst h 28160 (n - 2) = some 0) (l0 : hp_a l 0 94) (l1 : hp_i l 1 (cc)) (l2 : hp_i l 2 (me)) (l3 : hp_i l 3 (n)) (l4 : hp_i l 4 (i)) (e0 : ∀ (l' : am_L) (h' : am_H) (y0 : Int32) (y1 : Int32), y0.toInt = 0 → y1.toInt = (n - 2) → ly_hy m_tt ly_TH h' → ly_fr cst [] h h' → h.length ≤ h'.length → hp_a l' 0 94 → hp_i l' 1 (cc) → hp_i l' 2 (me) → hp_i l' 3 (n - 1) → hp_i l' 4 (i) → hp_F cst strs Φ D M 207 l' [.int y0, .int y1, .ref 126] h') : hp_F cst strs Φ D M 5 l [] h := by
  refine hp_arc c hM mkJ200_k hD [cc, a, me, n, i, le, z] rfl hy (hp_Bc (z := cc) rfl b0 t0 (hp_Bc (z := a) rfl b1 t1 (hp_Bc (z := me) rfl b2 t2 (hp_Bc (z := n) rfl b3 t3 (hp_Bc (z := i) rfl b4 t4 (hp_Bc (z := le) rfl b5 t5 (hp_Bc (z := z) rfl b6 t6 hp_Bn))))))) (hp_Fc (z := ((-1) + ((-1) * i + (1 * le + 0)))) rfl (by omega) (hp_Fc (z := (819 + ((-1) * i + ((-1) * z + 0)))) rfl (by omega) hp_Fn)) (hp_Kc (zi := (0 + (1 * cc + 0))) (zv := (0 + (1 * a + 0))) k0 rfl rfl (by omega) (by omega) (hp_Kc (zi := (0 + (1 * cc + 0))) (zv := (0 + (1 * le + 0))) k1 rfl rfl (by omega) (by omega) (hp_Kc (zi := (0 + (1 * cc + 0))) (zv := (0 + (1 * z + 0))) k2 rfl rfl (by omega) (by omega) (hp_Kc (zi := (0 + (820 * a + (1 * i + (1 * z + 0))))) (zv := ((-2) + 0)) k3 rfl rfl (by omega) (by omega) (hp_Kc (zi := ((-1) + (1 * n + 0))) (zv := (0 + 0)) k4 rfl rfl (by omega) (by omega) (hp_Kc (zi := ((-2) + (1 * n + 0))) (zv := (0 + 0)) k5 rfl rfl (by omega) (by omega) hp_Kn)))))) (hp_La l0 (hp_Li (z := (0 + (1 * cc + 0))) l1 rfl (by omega) (hp_Li (z := (0 + (1 * me + 0))) l2 rfl (by omega) (hp_Li (z := (0 + (1 * n + 0))) l3 rfl (by omega) (hp_Li (z := (0 + (1 * i + 0))) l4 rfl (by omega) hp_Ln))))) trivial ?_ ?_
  · intro p_9 hp ys l' st' h' hys a1_9 a2 a3 gZ gL gS
    rcases List.mem_cons.mp hp with rfl | hp
    · obtain rfl := hp_y0 hys
      obtain ⟨y0, t0, rfl, q0, g0⟩ := hp_gSi (z := (0 + 0)) gS rfl
      obtain ⟨y1, t1, rfl, q1_9, g1⟩ := hp_gSi (z := ((-2) + (1 * n + 0))) g0 rfl
      obtain ⟨t2, rfl, g2⟩ := hp_gSa g1 (by decide)
      cases hp_gSn g2
      exact e0 l' h' y0 y1 (by omega) (by omega) a1_9 a2 a3 (hp_gLa gL (List.mem_of_getElem? (i := 0) rfl) (by decide)) (hp_gLi (z := (0 + (1 * cc + 0))) gL (List.mem_of_getElem? (i := 1) rfl) rfl (by omega)) (hp_gLi (z := (0 + (1 * me + 0))) gL (List.mem_of_getElem? (i := 2) rfl) rfl (by omega)) (hp_gLi (z := ((-1) + (1 * n + 0))) gL (List.mem_of_getElem? (i := 3) rfl) rfl (by omega)) (hp_gLi (z := (0 + (1 * i + 0))) gL (List.mem_of_getElem? (i := 4) rfl) rfl (by omega))
    cases hp
  · intro p_9 hp ys v_9 h' hys a1_9 a2 a3 gZ gS
    cases hp
theorem mkJ201_k : hp_chk 332 5 7 [(0, 0, 1199), (1, 0, 29), (2, (-2147483648), 2147483647), (3, 2, 40), (4, 0, 820), (5, 0, 820), (6, 0, 820)] [((-1), [(4, (-1)), (5, 1)]), (819, [(4, (-1)), (6, (-1))])] [(0, .inr (.inr (.inl (some 94)))), (1, .inl (0, [(0, 1)])), (2, .inl (0, [(2, 1)])), (3, .inl (0, [(3, 1)])), (4, .inl (0, [(4, 1)]))] [] [(62040, (0, [(0, 1)]), (0, [(1, 1)])), (25088, (0, [(0, 1)]), (0, [(5, 1)])), (24832, (0, [(0, 1)]), (0, [(6, 1)])), (26880, (0, [(1, 820), (4, 1), (6, 1)]), ((-2), [])), (28160, ((-1), [(3, 1)]), (1, [])), (28160, ((-2), [(3, 1)]), (0, []))] [] 2 [(207, ([], 7, [(0, 0, 1199), (1, 0, 29), (2, (-2147483648), 2147483647), (3, 2, 40), (4, 0, 820), (5, 0, 820), (6, 0, 820)], [], [(0, .inr (.inr (.inl (some 94)))), (1, .inl (0, [(0, 1)])), (2, .inl (0, [(2, 1)])), (3, .inl ((-1), [(3, 1)])), (4, .inl (0, [(4, 1)]))], [.inl (1, []), .inl ((-2), [(3, 1)]), .inr (.inr (.inl (some 126)))], []))] [] = true := by decide +kernel
theorem mkJ201 {cst : am_K} {strs : List Nat} {Φ : am_Q → Prop} {D : Nat} {M : am_M} {h : am_H} {l : am_L} (c : hp_C cst strs D) (hM : m_P[332]? = some M) (hD : (2 : Int) ≤ (D : Int) + 1) (hy : ly_hy m_tt ly_TH h) (cc a me n i le z : Int) (b0 : 0 ≤ cc) (t0 : cc ≤ 1199) (b1 : 0 ≤ a) (t1 : a ≤ 29) (b2 : (-2147483648) ≤ me) (t2 : me ≤ 2147483647) (b3 : 2 ≤ n) (t3 : n ≤ 40) (b4 : 0 ≤ i) (t4 : i ≤ 820) (b5 : 0 ≤ le) (t5 : le ≤ 820) (b6 : 0 ≤ z) (t6 : z ≤ 820) (f0 : 0 ≤ (le - i - 1)) (f1 : 0 ≤ (-z - i + 819)) (k0 : ly_hv cst h 62040 (cc) = some (a)) (k1 : ly_hv cst h 25088 (cc) = some (le)) (k2 : ly_hv cst h 24832 (cc) = some (z)) (k3 : ly_hv cst h 26880 (820 * a + z + i) = some (-2)) (k4 : ly_hv cst h 28160 (n - 1) = some 1) (k5 : ly_hv cst h 28160 (n - 2) = some 0) (l0 : hp_a l 0 94) (l1 : hp_i l 1 (cc)) (l2 : hp_i l 2 (me)) (l3 : hp_i l 3 (n)) (l4 : hp_i l 4 (i)) (e0 : ∀ (l' : am_L) (h' : am_H) (y0 : Int32) (y1 : Int32), y0.toInt = 1 → y1.toInt = (n - 2) → ly_hy m_tt ly_TH h' → ly_fr cst [] h h' → h.length ≤ h'.length → hp_a l' 0 94 → hp_i l' 1 (cc) → hp_i l' 2 (me) → hp_i l' 3 (n - 1) → hp_i l' 4 (i) → hp_F cst strs Φ D M 207 l' [.int y0, .int y1, .ref 126] h') : hp_F cst strs Φ D M 5 l [] h := by
  refine hp_arc c hM mkJ201_k hD [cc, a, me, n, i, le, z] rfl hy (hp_Bc (z := cc) rfl b0 t0 (hp_Bc (z := a) rfl b1 t1 (hp_Bc (z := me) rfl b2 t2 (hp_Bc (z := n) rfl b3 t3 (hp_Bc (z := i) rfl b4 t4 (hp_Bc (z := le) rfl b5 t5 (hp_Bc (z := z) rfl b6 t6 hp_Bn))))))) (hp_Fc (z := ((-1) + ((-1) * i + (1 * le + 0)))) rfl (by omega) (hp_Fc (z := (819 + ((-1) * i + ((-1) * z + 0)))) rfl (by omega) hp_Fn)) (hp_Kc (zi := (0 + (1 * cc + 0))) (zv := (0 + (1 * a + 0))) k0 rfl rfl (by omega) (by omega) (hp_Kc (zi := (0 + (1 * cc + 0))) (zv := (0 + (1 * le + 0))) k1 rfl rfl (by omega) (by omega) (hp_Kc (zi := (0 + (1 * cc + 0))) (zv := (0 + (1 * z + 0))) k2 rfl rfl (by omega) (by omega) (hp_Kc (zi := (0 + (820 * a + (1 * i + (1 * z + 0))))) (zv := ((-2) + 0)) k3 rfl rfl (by omega) (by omega) (hp_Kc (zi := ((-1) + (1 * n + 0))) (zv := (1 + 0)) k4 rfl rfl (by omega) (by omega) (hp_Kc (zi := ((-2) + (1 * n + 0))) (zv := (0 + 0)) k5 rfl rfl (by omega) (by omega) hp_Kn)))))) (hp_La l0 (hp_Li (z := (0 + (1 * cc + 0))) l1 rfl (by omega) (hp_Li (z := (0 + (1 * me + 0))) l2 rfl (by omega) (hp_Li (z := (0 + (1 * n + 0))) l3 rfl (by omega) (hp_Li (z := (0 + (1 * i + 0))) l4 rfl (by omega) hp_Ln))))) trivial ?_ ?_
  · intro p_9 hp ys l' st' h' hys a1_9 a2 a3 gZ gL gS
    rcases List.mem_cons.mp hp with rfl | hp
    · obtain rfl := hp_y0 hys
      obtain ⟨y0, t0, rfl, q0, g0⟩ := hp_gSi (z := (1 + 0)) gS rfl
      obtain ⟨y1, t1, rfl, q1_9, g1⟩ := hp_gSi (z := ((-2) + (1 * n + 0))) g0 rfl
      obtain ⟨t2, rfl, g2⟩ := hp_gSa g1 (by decide)
      cases hp_gSn g2
      exact e0 l' h' y0 y1 (by omega) (by omega) a1_9 a2 a3 (hp_gLa gL (List.mem_of_getElem? (i := 0) rfl) (by decide)) (hp_gLi (z := (0 + (1 * cc + 0))) gL (List.mem_of_getElem? (i := 1) rfl) rfl (by omega)) (hp_gLi (z := (0 + (1 * me + 0))) gL (List.mem_of_getElem? (i := 2) rfl) rfl (by omega)) (hp_gLi (z := ((-1) + (1 * n + 0))) gL (List.mem_of_getElem? (i := 3) rfl) rfl (by omega)) (hp_gLi (z := (0 + (1 * i + 0))) gL (List.mem_of_getElem? (i := 4) rfl) rfl (by omega))
    cases hp
  · intro p_9 hp ys v_9 h' hys a1_9 a2 a3 gZ gS
    cases hp
theorem mkJ210_k : hp_chk 332 5 7 [(0, 0, 1199), (1, 0, 29), (2, (-2147483648), 2147483647), (3, 2, 40), (4, 0, 820), (5, 0, 820), (6, 0, 820)] [((-1), [(4, (-1)), (5, 1)]), (819, [(4, (-1)), (6, (-1))])] [(0, .inr (.inr (.inl (some 94)))), (1, .inl (0, [(0, 1)])), (2, .inl (0, [(2, 1)])), (3, .inl (0, [(3, 1)])), (4, .inl (0, [(4, 1)]))] [] [(62040, (0, [(0, 1)]), (0, [(1, 1)])), (25088, (0, [(0, 1)]), (0, [(5, 1)])), (24832, (0, [(0, 1)]), (0, [(6, 1)])), (26880, (0, [(1, 820), (4, 1), (6, 1)]), ((-2), [])), (28160, ((-1), [(3, 1)]), (0, [])), (28160, ((-2), [(3, 1)]), (1, []))] [] 2 [(207, ([], 7, [(0, 0, 1199), (1, 0, 29), (2, (-2147483648), 2147483647), (3, 2, 40), (4, 0, 820), (5, 0, 820), (6, 0, 820)], [], [(0, .inr (.inr (.inl (some 94)))), (1, .inl (0, [(0, 1)])), (2, .inl (0, [(2, 1)])), (3, .inl ((-1), [(3, 1)])), (4, .inl (0, [(4, 1)]))], [.inl (1, []), .inl ((-2), [(3, 1)]), .inr (.inr (.inl (some 126)))], []))] [] = true := by decide +kernel
theorem mkJ210 {cst : am_K} {strs : List Nat} {Φ : am_Q → Prop} {D : Nat} {M : am_M} {h : am_H} {l : am_L} (c : hp_C cst strs D) (hM : m_P[332]? = some M) (hD : (2 : Int) ≤ (D : Int) + 1) (hy : ly_hy m_tt ly_TH h) (cc a me n i le z : Int) (b0 : 0 ≤ cc) (t0 : cc ≤ 1199) (b1 : 0 ≤ a) (t1 : a ≤ 29) (b2 : (-2147483648) ≤ me) (t2 : me ≤ 2147483647) (b3 : 2 ≤ n) (t3 : n ≤ 40) (b4 : 0 ≤ i) (t4 : i ≤ 820) (b5 : 0 ≤ le) (t5 : le ≤ 820) (b6 : 0 ≤ z) (t6 : z ≤ 820) (f0 : 0 ≤ (le - i - 1)) (f1 : 0 ≤ (-z - i + 819)) (k0 : ly_hv cst h 62040 (cc) = some (a)) (k1 : ly_hv cst h 25088 (cc) = some (le)) (k2 : ly_hv cst h 24832 (cc) = some (z)) (k3 : ly_hv cst h 26880 (820 * a + z + i) = some (-2)) (k4 : ly_hv cst h 28160 (n - 1) = some 0) (k5 : ly_hv cst h 28160 (n - 2) = some 1) (l0 : hp_a l 0 94) (l1 : hp_i l 1 (cc)) (l2 : hp_i l 2 (me)) (l3 : hp_i l 3 (n)) (l4 : hp_i l 4 (i)) (e0 : ∀ (l' : am_L) (h' : am_H) (y0 : Int32) (y1 : Int32), y0.toInt = 1 → y1.toInt = (n - 2) → ly_hy m_tt ly_TH h' → ly_fr cst [] h h' → h.length ≤ h'.length → hp_a l' 0 94 → hp_i l' 1 (cc) → hp_i l' 2 (me) → hp_i l' 3 (n - 1) → hp_i l' 4 (i) → hp_F cst strs Φ D M 207 l' [.int y0, .int y1, .ref 126] h') : hp_F cst strs Φ D M 5 l [] h := by
  refine hp_arc c hM mkJ210_k hD [cc, a, me, n, i, le, z] rfl hy (hp_Bc (z := cc) rfl b0 t0 (hp_Bc (z := a) rfl b1 t1 (hp_Bc (z := me) rfl b2 t2 (hp_Bc (z := n) rfl b3 t3 (hp_Bc (z := i) rfl b4 t4 (hp_Bc (z := le) rfl b5 t5 (hp_Bc (z := z) rfl b6 t6 hp_Bn))))))) (hp_Fc (z := ((-1) + ((-1) * i + (1 * le + 0)))) rfl (by omega) (hp_Fc (z := (819 + ((-1) * i + ((-1) * z + 0)))) rfl (by omega) hp_Fn)) (hp_Kc (zi := (0 + (1 * cc + 0))) (zv := (0 + (1 * a + 0))) k0 rfl rfl (by omega) (by omega) (hp_Kc (zi := (0 + (1 * cc + 0))) (zv := (0 + (1 * le + 0))) k1 rfl rfl (by omega) (by omega) (hp_Kc (zi := (0 + (1 * cc + 0))) (zv := (0 + (1 * z + 0))) k2 rfl rfl (by omega) (by omega) (hp_Kc (zi := (0 + (820 * a + (1 * i + (1 * z + 0))))) (zv := ((-2) + 0)) k3 rfl rfl (by omega) (by omega) (hp_Kc (zi := ((-1) + (1 * n + 0))) (zv := (0 + 0)) k4 rfl rfl (by omega) (by omega) (hp_Kc (zi := ((-2) + (1 * n + 0))) (zv := (1 + 0)) k5 rfl rfl (by omega) (by omega) hp_Kn)))))) (hp_La l0 (hp_Li (z := (0 + (1 * cc + 0))) l1 rfl (by omega) (hp_Li (z := (0 + (1 * me + 0))) l2 rfl (by omega) (hp_Li (z := (0 + (1 * n + 0))) l3 rfl (by omega) (hp_Li (z := (0 + (1 * i + 0))) l4 rfl (by omega) hp_Ln))))) trivial ?_ ?_
  · intro p_9 hp ys l' st' h' hys a1_9 a2 a3 gZ gL gS
    rcases List.mem_cons.mp hp with rfl | hp
    · obtain rfl := hp_y0 hys
      obtain ⟨y0, t0, rfl, q0, g0⟩ := hp_gSi (z := (1 + 0)) gS rfl
      obtain ⟨y1, t1, rfl, q1_9, g1⟩ := hp_gSi (z := ((-2) + (1 * n + 0))) g0 rfl
      obtain ⟨t2, rfl, g2⟩ := hp_gSa g1 (by decide)
      cases hp_gSn g2
      exact e0 l' h' y0 y1 (by omega) (by omega) a1_9 a2 a3 (hp_gLa gL (List.mem_of_getElem? (i := 0) rfl) (by decide)) (hp_gLi (z := (0 + (1 * cc + 0))) gL (List.mem_of_getElem? (i := 1) rfl) rfl (by omega)) (hp_gLi (z := (0 + (1 * me + 0))) gL (List.mem_of_getElem? (i := 2) rfl) rfl (by omega)) (hp_gLi (z := ((-1) + (1 * n + 0))) gL (List.mem_of_getElem? (i := 3) rfl) rfl (by omega)) (hp_gLi (z := (0 + (1 * i + 0))) gL (List.mem_of_getElem? (i := 4) rfl) rfl (by omega))
    cases hp
  · intro p_9 hp ys v_9 h' hys a1_9 a2 a3 gZ gS
    cases hp
theorem mkJ211_k : hp_chk 332 5 7 [(0, 0, 1199), (1, 0, 29), (2, (-2147483648), 2147483647), (3, 2, 40), (4, 0, 820), (5, 0, 820), (6, 0, 820)] [((-1), [(4, (-1)), (5, 1)]), (819, [(4, (-1)), (6, (-1))])] [(0, .inr (.inr (.inl (some 94)))), (1, .inl (0, [(0, 1)])), (2, .inl (0, [(2, 1)])), (3, .inl (0, [(3, 1)])), (4, .inl (0, [(4, 1)]))] [] [(62040, (0, [(0, 1)]), (0, [(1, 1)])), (25088, (0, [(0, 1)]), (0, [(5, 1)])), (24832, (0, [(0, 1)]), (0, [(6, 1)])), (26880, (0, [(1, 820), (4, 1), (6, 1)]), ((-2), [])), (28160, ((-1), [(3, 1)]), (1, [])), (28160, ((-2), [(3, 1)]), (1, []))] [] 2 [(207, ([], 7, [(0, 0, 1199), (1, 0, 29), (2, (-2147483648), 2147483647), (3, 2, 40), (4, 0, 820), (5, 0, 820), (6, 0, 820)], [], [(0, .inr (.inr (.inl (some 94)))), (1, .inl (0, [(0, 1)])), (2, .inl (0, [(2, 1)])), (3, .inl ((-1), [(3, 1)])), (4, .inl (0, [(4, 1)]))], [.inl (1, []), .inl ((-2), [(3, 1)]), .inr (.inr (.inl (some 126)))], []))] [] = true := by decide +kernel
theorem mkJ211 {cst : am_K} {strs : List Nat} {Φ : am_Q → Prop} {D : Nat} {M : am_M} {h : am_H} {l : am_L} (c : hp_C cst strs D) (hM : m_P[332]? = some M) (hD : (2 : Int) ≤ (D : Int) + 1) (hy : ly_hy m_tt ly_TH h) (cc a me n i le z : Int) (b0 : 0 ≤ cc) (t0 : cc ≤ 1199) (b1 : 0 ≤ a) (t1 : a ≤ 29) (b2 : (-2147483648) ≤ me) (t2 : me ≤ 2147483647) (b3 : 2 ≤ n) (t3 : n ≤ 40) (b4 : 0 ≤ i) (t4 : i ≤ 820) (b5 : 0 ≤ le) (t5 : le ≤ 820) (b6 : 0 ≤ z) (t6 : z ≤ 820) (f0 : 0 ≤ (le - i - 1)) (f1 : 0 ≤ (-z - i + 819)) (k0 : ly_hv cst h 62040 (cc) = some (a)) (k1 : ly_hv cst h 25088 (cc) = some (le)) (k2 : ly_hv cst h 24832 (cc) = some (z)) (k3 : ly_hv cst h 26880 (820 * a + z + i) = some (-2)) (k4 : ly_hv cst h 28160 (n - 1) = some 1) (k5 : ly_hv cst h 28160 (n - 2) = some 1) (l0 : hp_a l 0 94) (l1 : hp_i l 1 (cc)) (l2 : hp_i l 2 (me)) (l3 : hp_i l 3 (n)) (l4 : hp_i l 4 (i)) (e0 : ∀ (l' : am_L) (h' : am_H) (y0 : Int32) (y1 : Int32), y0.toInt = 1 → y1.toInt = (n - 2) → ly_hy m_tt ly_TH h' → ly_fr cst [] h h' → h.length ≤ h'.length → hp_a l' 0 94 → hp_i l' 1 (cc) → hp_i l' 2 (me) → hp_i l' 3 (n - 1) → hp_i l' 4 (i) → hp_F cst strs Φ D M 207 l' [.int y0, .int y1, .ref 126] h') : hp_F cst strs Φ D M 5 l [] h := by
  refine hp_arc c hM mkJ211_k hD [cc, a, me, n, i, le, z] rfl hy (hp_Bc (z := cc) rfl b0 t0 (hp_Bc (z := a) rfl b1 t1 (hp_Bc (z := me) rfl b2 t2 (hp_Bc (z := n) rfl b3 t3 (hp_Bc (z := i) rfl b4 t4 (hp_Bc (z := le) rfl b5 t5 (hp_Bc (z := z) rfl b6 t6 hp_Bn))))))) (hp_Fc (z := ((-1) + ((-1) * i + (1 * le + 0)))) rfl (by omega) (hp_Fc (z := (819 + ((-1) * i + ((-1) * z + 0)))) rfl (by omega) hp_Fn)) (hp_Kc (zi := (0 + (1 * cc + 0))) (zv := (0 + (1 * a + 0))) k0 rfl rfl (by omega) (by omega) (hp_Kc (zi := (0 + (1 * cc + 0))) (zv := (0 + (1 * le + 0))) k1 rfl rfl (by omega) (by omega) (hp_Kc (zi := (0 + (1 * cc + 0))) (zv := (0 + (1 * z + 0))) k2 rfl rfl (by omega) (by omega) (hp_Kc (zi := (0 + (820 * a + (1 * i + (1 * z + 0))))) (zv := ((-2) + 0)) k3 rfl rfl (by omega) (by omega) (hp_Kc (zi := ((-1) + (1 * n + 0))) (zv := (1 + 0)) k4 rfl rfl (by omega) (by omega) (hp_Kc (zi := ((-2) + (1 * n + 0))) (zv := (1 + 0)) k5 rfl rfl (by omega) (by omega) hp_Kn)))))) (hp_La l0 (hp_Li (z := (0 + (1 * cc + 0))) l1 rfl (by omega) (hp_Li (z := (0 + (1 * me + 0))) l2 rfl (by omega) (hp_Li (z := (0 + (1 * n + 0))) l3 rfl (by omega) (hp_Li (z := (0 + (1 * i + 0))) l4 rfl (by omega) hp_Ln))))) trivial ?_ ?_
  · intro p_9 hp ys l' st' h' hys a1_9 a2 a3 gZ gL gS
    rcases List.mem_cons.mp hp with rfl | hp
    · obtain rfl := hp_y0 hys
      obtain ⟨y0, t0, rfl, q0, g0⟩ := hp_gSi (z := (1 + 0)) gS rfl
      obtain ⟨y1, t1, rfl, q1_9, g1⟩ := hp_gSi (z := ((-2) + (1 * n + 0))) g0 rfl
      obtain ⟨t2, rfl, g2⟩ := hp_gSa g1 (by decide)
      cases hp_gSn g2
      exact e0 l' h' y0 y1 (by omega) (by omega) a1_9 a2 a3 (hp_gLa gL (List.mem_of_getElem? (i := 0) rfl) (by decide)) (hp_gLi (z := (0 + (1 * cc + 0))) gL (List.mem_of_getElem? (i := 1) rfl) rfl (by omega)) (hp_gLi (z := (0 + (1 * me + 0))) gL (List.mem_of_getElem? (i := 2) rfl) rfl (by omega)) (hp_gLi (z := ((-1) + (1 * n + 0))) gL (List.mem_of_getElem? (i := 3) rfl) rfl (by omega)) (hp_gLi (z := (0 + (1 * i + 0))) gL (List.mem_of_getElem? (i := 4) rfl) rfl (by omega))
    cases hp
  · intro p_9 hp ys v_9 h' hys a1_9 a2 a3 gZ gS
    cases hp
theorem mkJ400_k : hp_chk 332 5 7 [(0, 0, 1199), (1, 0, 29), (2, (-2147483648), 2147483647), (3, 2, 40), (4, 0, 820), (5, 0, 820), (6, 0, 820)] [((-1), [(4, (-1)), (5, 1)]), (819, [(4, (-1)), (6, (-1))])] [(0, .inr (.inr (.inl (some 94)))), (1, .inl (0, [(0, 1)])), (2, .inl (0, [(2, 1)])), (3, .inl (0, [(3, 1)])), (4, .inl (0, [(4, 1)]))] [] [(62040, (0, [(0, 1)]), (0, [(1, 1)])), (25088, (0, [(0, 1)]), (0, [(5, 1)])), (24832, (0, [(0, 1)]), (0, [(6, 1)])), (26880, (0, [(1, 820), (4, 1), (6, 1)]), ((-4), [])), (28160, ((-1), [(3, 1)]), (0, [])), (28160, ((-2), [(3, 1)]), (0, []))] [] 2 [(207, ([], 7, [(0, 0, 1199), (1, 0, 29), (2, (-2147483648), 2147483647), (3, 2, 40), (4, 0, 820), (5, 0, 820), (6, 0, 820)], [], [(0, .inr (.inr (.inl (some 94)))), (1, .inl (0, [(0, 1)])), (2, .inl (0, [(2, 1)])), (3, .inl ((-1), [(3, 1)])), (4, .inl (0, [(4, 1)]))], [.inl (0, []), .inl ((-2), [(3, 1)]), .inr (.inr (.inl (some 126)))], []))] [] = true := by decide +kernel
theorem mkJ400 {cst : am_K} {strs : List Nat} {Φ : am_Q → Prop} {D : Nat} {M : am_M} {h : am_H} {l : am_L} (c : hp_C cst strs D) (hM : m_P[332]? = some M) (hD : (2 : Int) ≤ (D : Int) + 1) (hy : ly_hy m_tt ly_TH h) (cc a me n i le z : Int) (b0 : 0 ≤ cc) (t0 : cc ≤ 1199) (b1 : 0 ≤ a) (t1 : a ≤ 29) (b2 : (-2147483648) ≤ me) (t2 : me ≤ 2147483647) (b3 : 2 ≤ n) (t3 : n ≤ 40) (b4 : 0 ≤ i) (t4 : i ≤ 820) (b5 : 0 ≤ le) (t5 : le ≤ 820) (b6 : 0 ≤ z) (t6 : z ≤ 820) (f0 : 0 ≤ (le - i - 1)) (f1 : 0 ≤ (-z - i + 819)) (k0 : ly_hv cst h 62040 (cc) = some (a)) (k1 : ly_hv cst h 25088 (cc) = some (le)) (k2 : ly_hv cst h 24832 (cc) = some (z)) (k3 : ly_hv cst h 26880 (820 * a + z + i) = some (-4)) (k4 : ly_hv cst h 28160 (n - 1) = some 0) (k5 : ly_hv cst h 28160 (n - 2) = some 0) (l0 : hp_a l 0 94) (l1 : hp_i l 1 (cc)) (l2 : hp_i l 2 (me)) (l3 : hp_i l 3 (n)) (l4 : hp_i l 4 (i)) (e0 : ∀ (l' : am_L) (h' : am_H) (y0 : Int32) (y1 : Int32), y0.toInt = 0 → y1.toInt = (n - 2) → ly_hy m_tt ly_TH h' → ly_fr cst [] h h' → h.length ≤ h'.length → hp_a l' 0 94 → hp_i l' 1 (cc) → hp_i l' 2 (me) → hp_i l' 3 (n - 1) → hp_i l' 4 (i) → hp_F cst strs Φ D M 207 l' [.int y0, .int y1, .ref 126] h') : hp_F cst strs Φ D M 5 l [] h := by
  refine hp_arc c hM mkJ400_k hD [cc, a, me, n, i, le, z] rfl hy (hp_Bc (z := cc) rfl b0 t0 (hp_Bc (z := a) rfl b1 t1 (hp_Bc (z := me) rfl b2 t2 (hp_Bc (z := n) rfl b3 t3 (hp_Bc (z := i) rfl b4 t4 (hp_Bc (z := le) rfl b5 t5 (hp_Bc (z := z) rfl b6 t6 hp_Bn))))))) (hp_Fc (z := ((-1) + ((-1) * i + (1 * le + 0)))) rfl (by omega) (hp_Fc (z := (819 + ((-1) * i + ((-1) * z + 0)))) rfl (by omega) hp_Fn)) (hp_Kc (zi := (0 + (1 * cc + 0))) (zv := (0 + (1 * a + 0))) k0 rfl rfl (by omega) (by omega) (hp_Kc (zi := (0 + (1 * cc + 0))) (zv := (0 + (1 * le + 0))) k1 rfl rfl (by omega) (by omega) (hp_Kc (zi := (0 + (1 * cc + 0))) (zv := (0 + (1 * z + 0))) k2 rfl rfl (by omega) (by omega) (hp_Kc (zi := (0 + (820 * a + (1 * i + (1 * z + 0))))) (zv := ((-4) + 0)) k3 rfl rfl (by omega) (by omega) (hp_Kc (zi := ((-1) + (1 * n + 0))) (zv := (0 + 0)) k4 rfl rfl (by omega) (by omega) (hp_Kc (zi := ((-2) + (1 * n + 0))) (zv := (0 + 0)) k5 rfl rfl (by omega) (by omega) hp_Kn)))))) (hp_La l0 (hp_Li (z := (0 + (1 * cc + 0))) l1 rfl (by omega) (hp_Li (z := (0 + (1 * me + 0))) l2 rfl (by omega) (hp_Li (z := (0 + (1 * n + 0))) l3 rfl (by omega) (hp_Li (z := (0 + (1 * i + 0))) l4 rfl (by omega) hp_Ln))))) trivial ?_ ?_
  · intro p_9 hp ys l' st' h' hys a1_9 a2 a3 gZ gL gS
    rcases List.mem_cons.mp hp with rfl | hp
    · obtain rfl := hp_y0 hys
      obtain ⟨y0, t0, rfl, q0, g0⟩ := hp_gSi (z := (0 + 0)) gS rfl
      obtain ⟨y1, t1, rfl, q1_9, g1⟩ := hp_gSi (z := ((-2) + (1 * n + 0))) g0 rfl
      obtain ⟨t2, rfl, g2⟩ := hp_gSa g1 (by decide)
      cases hp_gSn g2
      exact e0 l' h' y0 y1 (by omega) (by omega) a1_9 a2 a3 (hp_gLa gL (List.mem_of_getElem? (i := 0) rfl) (by decide)) (hp_gLi (z := (0 + (1 * cc + 0))) gL (List.mem_of_getElem? (i := 1) rfl) rfl (by omega)) (hp_gLi (z := (0 + (1 * me + 0))) gL (List.mem_of_getElem? (i := 2) rfl) rfl (by omega)) (hp_gLi (z := ((-1) + (1 * n + 0))) gL (List.mem_of_getElem? (i := 3) rfl) rfl (by omega)) (hp_gLi (z := (0 + (1 * i + 0))) gL (List.mem_of_getElem? (i := 4) rfl) rfl (by omega))
    cases hp
  · intro p_9 hp ys v_9 h' hys a1_9 a2 a3 gZ gS
    cases hp
theorem mkJ401_k : hp_chk 332 5 7 [(0, 0, 1199), (1, 0, 29), (2, (-2147483648), 2147483647), (3, 2, 40), (4, 0, 820), (5, 0, 820), (6, 0, 820)] [((-1), [(4, (-1)), (5, 1)]), (819, [(4, (-1)), (6, (-1))])] [(0, .inr (.inr (.inl (some 94)))), (1, .inl (0, [(0, 1)])), (2, .inl (0, [(2, 1)])), (3, .inl (0, [(3, 1)])), (4, .inl (0, [(4, 1)]))] [] [(62040, (0, [(0, 1)]), (0, [(1, 1)])), (25088, (0, [(0, 1)]), (0, [(5, 1)])), (24832, (0, [(0, 1)]), (0, [(6, 1)])), (26880, (0, [(1, 820), (4, 1), (6, 1)]), ((-4), [])), (28160, ((-1), [(3, 1)]), (1, [])), (28160, ((-2), [(3, 1)]), (0, []))] [] 2 [(207, ([], 7, [(0, 0, 1199), (1, 0, 29), (2, (-2147483648), 2147483647), (3, 2, 40), (4, 0, 820), (5, 0, 820), (6, 0, 820)], [], [(0, .inr (.inr (.inl (some 94)))), (1, .inl (0, [(0, 1)])), (2, .inl (0, [(2, 1)])), (3, .inl ((-1), [(3, 1)])), (4, .inl (0, [(4, 1)]))], [.inl (0, []), .inl ((-2), [(3, 1)]), .inr (.inr (.inl (some 126)))], []))] [] = true := by decide +kernel
theorem mkJ401 {cst : am_K} {strs : List Nat} {Φ : am_Q → Prop} {D : Nat} {M : am_M} {h : am_H} {l : am_L} (c : hp_C cst strs D) (hM : m_P[332]? = some M) (hD : (2 : Int) ≤ (D : Int) + 1) (hy : ly_hy m_tt ly_TH h) (cc a me n i le z : Int) (b0 : 0 ≤ cc) (t0 : cc ≤ 1199) (b1 : 0 ≤ a) (t1 : a ≤ 29) (b2 : (-2147483648) ≤ me) (t2 : me ≤ 2147483647) (b3 : 2 ≤ n) (t3 : n ≤ 40) (b4 : 0 ≤ i) (t4 : i ≤ 820) (b5 : 0 ≤ le) (t5 : le ≤ 820) (b6 : 0 ≤ z) (t6 : z ≤ 820) (f0 : 0 ≤ (le - i - 1)) (f1 : 0 ≤ (-z - i + 819)) (k0 : ly_hv cst h 62040 (cc) = some (a)) (k1 : ly_hv cst h 25088 (cc) = some (le)) (k2 : ly_hv cst h 24832 (cc) = some (z)) (k3 : ly_hv cst h 26880 (820 * a + z + i) = some (-4)) (k4 : ly_hv cst h 28160 (n - 1) = some 1) (k5 : ly_hv cst h 28160 (n - 2) = some 0) (l0 : hp_a l 0 94) (l1 : hp_i l 1 (cc)) (l2 : hp_i l 2 (me)) (l3 : hp_i l 3 (n)) (l4 : hp_i l 4 (i)) (e0 : ∀ (l' : am_L) (h' : am_H) (y0 : Int32) (y1 : Int32), y0.toInt = 0 → y1.toInt = (n - 2) → ly_hy m_tt ly_TH h' → ly_fr cst [] h h' → h.length ≤ h'.length → hp_a l' 0 94 → hp_i l' 1 (cc) → hp_i l' 2 (me) → hp_i l' 3 (n - 1) → hp_i l' 4 (i) → hp_F cst strs Φ D M 207 l' [.int y0, .int y1, .ref 126] h') : hp_F cst strs Φ D M 5 l [] h := by
  refine hp_arc c hM mkJ401_k hD [cc, a, me, n, i, le, z] rfl hy (hp_Bc (z := cc) rfl b0 t0 (hp_Bc (z := a) rfl b1 t1 (hp_Bc (z := me) rfl b2 t2 (hp_Bc (z := n) rfl b3 t3 (hp_Bc (z := i) rfl b4 t4 (hp_Bc (z := le) rfl b5 t5 (hp_Bc (z := z) rfl b6 t6 hp_Bn))))))) (hp_Fc (z := ((-1) + ((-1) * i + (1 * le + 0)))) rfl (by omega) (hp_Fc (z := (819 + ((-1) * i + ((-1) * z + 0)))) rfl (by omega) hp_Fn)) (hp_Kc (zi := (0 + (1 * cc + 0))) (zv := (0 + (1 * a + 0))) k0 rfl rfl (by omega) (by omega) (hp_Kc (zi := (0 + (1 * cc + 0))) (zv := (0 + (1 * le + 0))) k1 rfl rfl (by omega) (by omega) (hp_Kc (zi := (0 + (1 * cc + 0))) (zv := (0 + (1 * z + 0))) k2 rfl rfl (by omega) (by omega) (hp_Kc (zi := (0 + (820 * a + (1 * i + (1 * z + 0))))) (zv := ((-4) + 0)) k3 rfl rfl (by omega) (by omega) (hp_Kc (zi := ((-1) + (1 * n + 0))) (zv := (1 + 0)) k4 rfl rfl (by omega) (by omega) (hp_Kc (zi := ((-2) + (1 * n + 0))) (zv := (0 + 0)) k5 rfl rfl (by omega) (by omega) hp_Kn)))))) (hp_La l0 (hp_Li (z := (0 + (1 * cc + 0))) l1 rfl (by omega) (hp_Li (z := (0 + (1 * me + 0))) l2 rfl (by omega) (hp_Li (z := (0 + (1 * n + 0))) l3 rfl (by omega) (hp_Li (z := (0 + (1 * i + 0))) l4 rfl (by omega) hp_Ln))))) trivial ?_ ?_
  · intro p_9 hp ys l' st' h' hys a1_9 a2 a3 gZ gL gS
    rcases List.mem_cons.mp hp with rfl | hp
    · obtain rfl := hp_y0 hys
      obtain ⟨y0, t0, rfl, q0, g0⟩ := hp_gSi (z := (0 + 0)) gS rfl
      obtain ⟨y1, t1, rfl, q1_9, g1⟩ := hp_gSi (z := ((-2) + (1 * n + 0))) g0 rfl
      obtain ⟨t2, rfl, g2⟩ := hp_gSa g1 (by decide)
      cases hp_gSn g2
      exact e0 l' h' y0 y1 (by omega) (by omega) a1_9 a2 a3 (hp_gLa gL (List.mem_of_getElem? (i := 0) rfl) (by decide)) (hp_gLi (z := (0 + (1 * cc + 0))) gL (List.mem_of_getElem? (i := 1) rfl) rfl (by omega)) (hp_gLi (z := (0 + (1 * me + 0))) gL (List.mem_of_getElem? (i := 2) rfl) rfl (by omega)) (hp_gLi (z := ((-1) + (1 * n + 0))) gL (List.mem_of_getElem? (i := 3) rfl) rfl (by omega)) (hp_gLi (z := (0 + (1 * i + 0))) gL (List.mem_of_getElem? (i := 4) rfl) rfl (by omega))
    cases hp
  · intro p_9 hp ys v_9 h' hys a1_9 a2 a3 gZ gS
    cases hp
theorem mkJ410_k : hp_chk 332 5 7 [(0, 0, 1199), (1, 0, 29), (2, (-2147483648), 2147483647), (3, 2, 40), (4, 0, 820), (5, 0, 820), (6, 0, 820)] [((-1), [(4, (-1)), (5, 1)]), (819, [(4, (-1)), (6, (-1))])] [(0, .inr (.inr (.inl (some 94)))), (1, .inl (0, [(0, 1)])), (2, .inl (0, [(2, 1)])), (3, .inl (0, [(3, 1)])), (4, .inl (0, [(4, 1)]))] [] [(62040, (0, [(0, 1)]), (0, [(1, 1)])), (25088, (0, [(0, 1)]), (0, [(5, 1)])), (24832, (0, [(0, 1)]), (0, [(6, 1)])), (26880, (0, [(1, 820), (4, 1), (6, 1)]), ((-4), [])), (28160, ((-1), [(3, 1)]), (0, [])), (28160, ((-2), [(3, 1)]), (1, []))] [] 2 [(207, ([], 7, [(0, 0, 1199), (1, 0, 29), (2, (-2147483648), 2147483647), (3, 2, 40), (4, 0, 820), (5, 0, 820), (6, 0, 820)], [], [(0, .inr (.inr (.inl (some 94)))), (1, .inl (0, [(0, 1)])), (2, .inl (0, [(2, 1)])), (3, .inl ((-1), [(3, 1)])), (4, .inl (0, [(4, 1)]))], [.inl (1, []), .inl ((-2), [(3, 1)]), .inr (.inr (.inl (some 126)))], []))] [] = true := by decide +kernel
theorem mkJ410 {cst : am_K} {strs : List Nat} {Φ : am_Q → Prop} {D : Nat} {M : am_M} {h : am_H} {l : am_L} (c : hp_C cst strs D) (hM : m_P[332]? = some M) (hD : (2 : Int) ≤ (D : Int) + 1) (hy : ly_hy m_tt ly_TH h) (cc a me n i le z : Int) (b0 : 0 ≤ cc) (t0 : cc ≤ 1199) (b1 : 0 ≤ a) (t1 : a ≤ 29) (b2 : (-2147483648) ≤ me) (t2 : me ≤ 2147483647) (b3 : 2 ≤ n) (t3 : n ≤ 40) (b4 : 0 ≤ i) (t4 : i ≤ 820) (b5 : 0 ≤ le) (t5 : le ≤ 820) (b6 : 0 ≤ z) (t6 : z ≤ 820) (f0 : 0 ≤ (le - i - 1)) (f1 : 0 ≤ (-z - i + 819)) (k0 : ly_hv cst h 62040 (cc) = some (a)) (k1 : ly_hv cst h 25088 (cc) = some (le)) (k2 : ly_hv cst h 24832 (cc) = some (z)) (k3 : ly_hv cst h 26880 (820 * a + z + i) = some (-4)) (k4 : ly_hv cst h 28160 (n - 1) = some 0) (k5 : ly_hv cst h 28160 (n - 2) = some 1) (l0 : hp_a l 0 94) (l1 : hp_i l 1 (cc)) (l2 : hp_i l 2 (me)) (l3 : hp_i l 3 (n)) (l4 : hp_i l 4 (i)) (e0 : ∀ (l' : am_L) (h' : am_H) (y0 : Int32) (y1 : Int32), y0.toInt = 1 → y1.toInt = (n - 2) → ly_hy m_tt ly_TH h' → ly_fr cst [] h h' → h.length ≤ h'.length → hp_a l' 0 94 → hp_i l' 1 (cc) → hp_i l' 2 (me) → hp_i l' 3 (n - 1) → hp_i l' 4 (i) → hp_F cst strs Φ D M 207 l' [.int y0, .int y1, .ref 126] h') : hp_F cst strs Φ D M 5 l [] h := by
  refine hp_arc c hM mkJ410_k hD [cc, a, me, n, i, le, z] rfl hy (hp_Bc (z := cc) rfl b0 t0 (hp_Bc (z := a) rfl b1 t1 (hp_Bc (z := me) rfl b2 t2 (hp_Bc (z := n) rfl b3 t3 (hp_Bc (z := i) rfl b4 t4 (hp_Bc (z := le) rfl b5 t5 (hp_Bc (z := z) rfl b6 t6 hp_Bn))))))) (hp_Fc (z := ((-1) + ((-1) * i + (1 * le + 0)))) rfl (by omega) (hp_Fc (z := (819 + ((-1) * i + ((-1) * z + 0)))) rfl (by omega) hp_Fn)) (hp_Kc (zi := (0 + (1 * cc + 0))) (zv := (0 + (1 * a + 0))) k0 rfl rfl (by omega) (by omega) (hp_Kc (zi := (0 + (1 * cc + 0))) (zv := (0 + (1 * le + 0))) k1 rfl rfl (by omega) (by omega) (hp_Kc (zi := (0 + (1 * cc + 0))) (zv := (0 + (1 * z + 0))) k2 rfl rfl (by omega) (by omega) (hp_Kc (zi := (0 + (820 * a + (1 * i + (1 * z + 0))))) (zv := ((-4) + 0)) k3 rfl rfl (by omega) (by omega) (hp_Kc (zi := ((-1) + (1 * n + 0))) (zv := (0 + 0)) k4 rfl rfl (by omega) (by omega) (hp_Kc (zi := ((-2) + (1 * n + 0))) (zv := (1 + 0)) k5 rfl rfl (by omega) (by omega) hp_Kn)))))) (hp_La l0 (hp_Li (z := (0 + (1 * cc + 0))) l1 rfl (by omega) (hp_Li (z := (0 + (1 * me + 0))) l2 rfl (by omega) (hp_Li (z := (0 + (1 * n + 0))) l3 rfl (by omega) (hp_Li (z := (0 + (1 * i + 0))) l4 rfl (by omega) hp_Ln))))) trivial ?_ ?_
  · intro p_9 hp ys l' st' h' hys a1_9 a2 a3 gZ gL gS
    rcases List.mem_cons.mp hp with rfl | hp
    · obtain rfl := hp_y0 hys
      obtain ⟨y0, t0, rfl, q0, g0⟩ := hp_gSi (z := (1 + 0)) gS rfl
      obtain ⟨y1, t1, rfl, q1_9, g1⟩ := hp_gSi (z := ((-2) + (1 * n + 0))) g0 rfl
      obtain ⟨t2, rfl, g2⟩ := hp_gSa g1 (by decide)
      cases hp_gSn g2
      exact e0 l' h' y0 y1 (by omega) (by omega) a1_9 a2 a3 (hp_gLa gL (List.mem_of_getElem? (i := 0) rfl) (by decide)) (hp_gLi (z := (0 + (1 * cc + 0))) gL (List.mem_of_getElem? (i := 1) rfl) rfl (by omega)) (hp_gLi (z := (0 + (1 * me + 0))) gL (List.mem_of_getElem? (i := 2) rfl) rfl (by omega)) (hp_gLi (z := ((-1) + (1 * n + 0))) gL (List.mem_of_getElem? (i := 3) rfl) rfl (by omega)) (hp_gLi (z := (0 + (1 * i + 0))) gL (List.mem_of_getElem? (i := 4) rfl) rfl (by omega))
    cases hp
  · intro p_9 hp ys v_9 h' hys a1_9 a2 a3 gZ gS
    cases hp
theorem mkJ411_k : hp_chk 332 5 7 [(0, 0, 1199), (1, 0, 29), (2, (-2147483648), 2147483647), (3, 2, 40), (4, 0, 820), (5, 0, 820), (6, 0, 820)] [((-1), [(4, (-1)), (5, 1)]), (819, [(4, (-1)), (6, (-1))])] [(0, .inr (.inr (.inl (some 94)))), (1, .inl (0, [(0, 1)])), (2, .inl (0, [(2, 1)])), (3, .inl (0, [(3, 1)])), (4, .inl (0, [(4, 1)]))] [] [(62040, (0, [(0, 1)]), (0, [(1, 1)])), (25088, (0, [(0, 1)]), (0, [(5, 1)])), (24832, (0, [(0, 1)]), (0, [(6, 1)])), (26880, (0, [(1, 820), (4, 1), (6, 1)]), ((-4), [])), (28160, ((-1), [(3, 1)]), (1, [])), (28160, ((-2), [(3, 1)]), (1, []))] [] 2 [(207, ([], 7, [(0, 0, 1199), (1, 0, 29), (2, (-2147483648), 2147483647), (3, 2, 40), (4, 0, 820), (5, 0, 820), (6, 0, 820)], [], [(0, .inr (.inr (.inl (some 94)))), (1, .inl (0, [(0, 1)])), (2, .inl (0, [(2, 1)])), (3, .inl ((-1), [(3, 1)])), (4, .inl (0, [(4, 1)]))], [.inl (0, []), .inl ((-2), [(3, 1)]), .inr (.inr (.inl (some 126)))], []))] [] = true := by decide +kernel
theorem mkJ411 {cst : am_K} {strs : List Nat} {Φ : am_Q → Prop} {D : Nat} {M : am_M} {h : am_H} {l : am_L} (c : hp_C cst strs D) (hM : m_P[332]? = some M) (hD : (2 : Int) ≤ (D : Int) + 1) (hy : ly_hy m_tt ly_TH h) (cc a me n i le z : Int) (b0 : 0 ≤ cc) (t0 : cc ≤ 1199) (b1 : 0 ≤ a) (t1 : a ≤ 29) (b2 : (-2147483648) ≤ me) (t2 : me ≤ 2147483647) (b3 : 2 ≤ n) (t3 : n ≤ 40) (b4 : 0 ≤ i) (t4 : i ≤ 820) (b5 : 0 ≤ le) (t5 : le ≤ 820) (b6 : 0 ≤ z) (t6 : z ≤ 820) (f0 : 0 ≤ (le - i - 1)) (f1 : 0 ≤ (-z - i + 819)) (k0 : ly_hv cst h 62040 (cc) = some (a)) (k1 : ly_hv cst h 25088 (cc) = some (le)) (k2 : ly_hv cst h 24832 (cc) = some (z)) (k3 : ly_hv cst h 26880 (820 * a + z + i) = some (-4)) (k4 : ly_hv cst h 28160 (n - 1) = some 1) (k5 : ly_hv cst h 28160 (n - 2) = some 1) (l0 : hp_a l 0 94) (l1 : hp_i l 1 (cc)) (l2 : hp_i l 2 (me)) (l3 : hp_i l 3 (n)) (l4 : hp_i l 4 (i)) (e0 : ∀ (l' : am_L) (h' : am_H) (y0 : Int32) (y1 : Int32), y0.toInt = 0 → y1.toInt = (n - 2) → ly_hy m_tt ly_TH h' → ly_fr cst [] h h' → h.length ≤ h'.length → hp_a l' 0 94 → hp_i l' 1 (cc) → hp_i l' 2 (me) → hp_i l' 3 (n - 1) → hp_i l' 4 (i) → hp_F cst strs Φ D M 207 l' [.int y0, .int y1, .ref 126] h') : hp_F cst strs Φ D M 5 l [] h := by
  refine hp_arc c hM mkJ411_k hD [cc, a, me, n, i, le, z] rfl hy (hp_Bc (z := cc) rfl b0 t0 (hp_Bc (z := a) rfl b1 t1 (hp_Bc (z := me) rfl b2 t2 (hp_Bc (z := n) rfl b3 t3 (hp_Bc (z := i) rfl b4 t4 (hp_Bc (z := le) rfl b5 t5 (hp_Bc (z := z) rfl b6 t6 hp_Bn))))))) (hp_Fc (z := ((-1) + ((-1) * i + (1 * le + 0)))) rfl (by omega) (hp_Fc (z := (819 + ((-1) * i + ((-1) * z + 0)))) rfl (by omega) hp_Fn)) (hp_Kc (zi := (0 + (1 * cc + 0))) (zv := (0 + (1 * a + 0))) k0 rfl rfl (by omega) (by omega) (hp_Kc (zi := (0 + (1 * cc + 0))) (zv := (0 + (1 * le + 0))) k1 rfl rfl (by omega) (by omega) (hp_Kc (zi := (0 + (1 * cc + 0))) (zv := (0 + (1 * z + 0))) k2 rfl rfl (by omega) (by omega) (hp_Kc (zi := (0 + (820 * a + (1 * i + (1 * z + 0))))) (zv := ((-4) + 0)) k3 rfl rfl (by omega) (by omega) (hp_Kc (zi := ((-1) + (1 * n + 0))) (zv := (1 + 0)) k4 rfl rfl (by omega) (by omega) (hp_Kc (zi := ((-2) + (1 * n + 0))) (zv := (1 + 0)) k5 rfl rfl (by omega) (by omega) hp_Kn)))))) (hp_La l0 (hp_Li (z := (0 + (1 * cc + 0))) l1 rfl (by omega) (hp_Li (z := (0 + (1 * me + 0))) l2 rfl (by omega) (hp_Li (z := (0 + (1 * n + 0))) l3 rfl (by omega) (hp_Li (z := (0 + (1 * i + 0))) l4 rfl (by omega) hp_Ln))))) trivial ?_ ?_
  · intro p_9 hp ys l' st' h' hys a1_9 a2 a3 gZ gL gS
    rcases List.mem_cons.mp hp with rfl | hp
    · obtain rfl := hp_y0 hys
      obtain ⟨y0, t0, rfl, q0, g0⟩ := hp_gSi (z := (0 + 0)) gS rfl
      obtain ⟨y1, t1, rfl, q1_9, g1⟩ := hp_gSi (z := ((-2) + (1 * n + 0))) g0 rfl
      obtain ⟨t2, rfl, g2⟩ := hp_gSa g1 (by decide)
      cases hp_gSn g2
      exact e0 l' h' y0 y1 (by omega) (by omega) a1_9 a2 a3 (hp_gLa gL (List.mem_of_getElem? (i := 0) rfl) (by decide)) (hp_gLi (z := (0 + (1 * cc + 0))) gL (List.mem_of_getElem? (i := 1) rfl) rfl (by omega)) (hp_gLi (z := (0 + (1 * me + 0))) gL (List.mem_of_getElem? (i := 2) rfl) rfl (by omega)) (hp_gLi (z := ((-1) + (1 * n + 0))) gL (List.mem_of_getElem? (i := 3) rfl) rfl (by omega)) (hp_gLi (z := (0 + (1 * i + 0))) gL (List.mem_of_getElem? (i := 4) rfl) rfl (by omega))
    cases hp
  · intro p_9 hp ys v_9 h' hys a1_9 a2 a3 gZ gS
    cases hp
theorem mkJ3_k : hp_chk 332 208 4 [(0, 0, 1199), (1, (-2147483648), 2147483647), (2, 0, 40), (3, 0, 820)] [] [(0, .inr (.inr (.inl (some 94)))), (1, .inl (0, [(0, 1)])), (2, .inl (0, [(1, 1)])), (3, .inl (0, [(2, 1)])), (4, .inl (0, [(3, 1)]))] [] [] [] 2 [(5, ([], 4, [(0, 0, 1199), (1, (-2147483648), 2147483647), (2, 0, 40), (3, 0, 820)], [], [(0, .inr (.inr (.inl (some 94)))), (1, .inl (0, [(0, 1)])), (2, .inl (0, [(1, 1)])), (3, .inl (0, [(2, 1)])), (4, .inl (1, [(3, 1)]))], [], []))] [] = true := by decide +kernel
theorem mkJ3 {cst : am_K} {strs : List Nat} {Φ : am_Q → Prop} {D : Nat} {M : am_M} {h : am_H} {l : am_L} (c : hp_C cst strs D) (hM : m_P[332]? = some M) (hD : (2 : Int) ≤ (D : Int) + 1) (hy : ly_hy m_tt ly_TH h) (cc me n i : Int) (b0 : 0 ≤ cc) (t0 : cc ≤ 1199) (b1 : (-2147483648) ≤ me) (t1 : me ≤ 2147483647) (b2 : 0 ≤ n) (t2 : n ≤ 40) (b3 : 0 ≤ i) (t3 : i ≤ 820) (l0 : hp_a l 0 94) (l1 : hp_i l 1 (cc)) (l2 : hp_i l 2 (me)) (l3 : hp_i l 3 (n)) (l4 : hp_i l 4 (i)) (e0 : ∀ (l' : am_L) (h' : am_H), ly_hy m_tt ly_TH h' → ly_fr cst [] h h' → h.length ≤ h'.length → hp_a l' 0 94 → hp_i l' 1 (cc) → hp_i l' 2 (me) → hp_i l' 3 (n) → hp_i l' 4 (i + 1) → hp_F cst strs Φ D M 5 l' [] h') : hp_F cst strs Φ D M 208 l [] h := by
  refine hp_arc c hM mkJ3_k hD [cc, me, n, i] rfl hy (hp_Bc (z := cc) rfl b0 t0 (hp_Bc (z := me) rfl b1 t1 (hp_Bc (z := n) rfl b2 t2 (hp_Bc (z := i) rfl b3 t3 hp_Bn)))) hp_Fn hp_Kn (hp_La l0 (hp_Li (z := (0 + (1 * cc + 0))) l1 rfl (by omega) (hp_Li (z := (0 + (1 * me + 0))) l2 rfl (by omega) (hp_Li (z := (0 + (1 * n + 0))) l3 rfl (by omega) (hp_Li (z := (0 + (1 * i + 0))) l4 rfl (by omega) hp_Ln))))) trivial ?_ ?_
  · intro p_9 hp ys l' st' h' hys a1_9 a2 a3 gZ gL gS
    rcases List.mem_cons.mp hp with rfl | hp
    · obtain rfl := hp_y0 hys
      cases hp_gSn gS
      exact e0 l' h' a1_9 a2 a3 (hp_gLa gL (List.mem_of_getElem? (i := 0) rfl) (by decide)) (hp_gLi (z := (0 + (1 * cc + 0))) gL (List.mem_of_getElem? (i := 1) rfl) rfl (by omega)) (hp_gLi (z := (0 + (1 * me + 0))) gL (List.mem_of_getElem? (i := 2) rfl) rfl (by omega)) (hp_gLi (z := (0 + (1 * n + 0))) gL (List.mem_of_getElem? (i := 3) rfl) rfl (by omega)) (hp_gLi (z := (1 + (1 * i + 0))) gL (List.mem_of_getElem? (i := 4) rfl) rfl (by omega))
    cases hp
  · intro p_9 hp ys v_9 h' hys a1_9 a2 a3 gZ gS
    cases hp
theorem lf0_k : hp_chk 331 0 2 [(0, 0, 1199), (1, (-2147483648), 2147483647)] [] [(0, .inr (.inr (.inl (some 94)))), (1, .inl (0, [(0, 1)])), (2, .inl (0, [(1, 1)]))] [] [] [] 2 [(3, ([], 2, [(0, 0, 1199), (1, (-2147483648), 2147483647)], [], [(0, .inr (.inr (.inl (some 94)))), (1, .inl (0, [(0, 1)])), (2, .inl (0, [(1, 1)]))], [.inl (0, [(1, 1)]), .inl (0, [(0, 1)]), .inr (.inr (.inl (some 94)))], []))] [] = true := by decide +kernel
theorem lf0 {cst : am_K} {strs : List Nat} {Φ : am_Q → Prop} {D : Nat} {M : am_M} {h : am_H} {l : am_L} (c : hp_C cst strs D) (hM : m_P[331]? = some M) (hD : (2 : Int) ≤ (D : Int) + 1) (hy : ly_hy m_tt ly_TH h) (cc me : Int) (b0 : 0 ≤ cc) (t0 : cc ≤ 1199) (b1 : (-2147483648) ≤ me) (t1 : me ≤ 2147483647) (l0 : hp_a l 0 94) (l1 : hp_i l 1 (cc)) (l2 : hp_i l 2 (me)) (e0 : ∀ (l' : am_L) (h' : am_H) (y0 : Int32) (y1 : Int32), y0.toInt = (me) → y1.toInt = (cc) → ly_hy m_tt ly_TH h' → ly_fr cst [] h h' → h.length ≤ h'.length → hp_a l' 0 94 → hp_i l' 1 (cc) → hp_i l' 2 (me) → hp_F cst strs Φ D M 3 l' [.int y0, .int y1, .ref 94] h') : hp_F cst strs Φ D M 0 l [] h := by
  refine hp_arc c hM lf0_k hD [cc, me] rfl hy (hp_Bc (z := cc) rfl b0 t0 (hp_Bc (z := me) rfl b1 t1 hp_Bn)) hp_Fn hp_Kn (hp_La l0 (hp_Li (z := (0 + (1 * cc + 0))) l1 rfl (by omega) (hp_Li (z := (0 + (1 * me + 0))) l2 rfl (by omega) hp_Ln))) trivial ?_ ?_
  · intro p_9 hp ys l' st' h' hys a1_9 a2 a3 gZ gL gS
    rcases List.mem_cons.mp hp with rfl | hp
    · obtain rfl := hp_y0 hys
      obtain ⟨y0, t0, rfl, q0, g0⟩ := hp_gSi (z := (0 + (1 * me + 0))) gS rfl
      obtain ⟨y1, t1, rfl, q1_9, g1⟩ := hp_gSi (z := (0 + (1 * cc + 0))) g0 rfl
      obtain ⟨t2_9, rfl, g2⟩ := hp_gSa g1 (by decide)
      cases hp_gSn g2
      exact e0 l' h' y0 y1 (by omega) (by omega) a1_9 a2 a3 (hp_gLa gL (List.mem_of_getElem? (i := 0) rfl) (by decide)) (hp_gLi (z := (0 + (1 * cc + 0))) gL (List.mem_of_getElem? (i := 1) rfl) rfl (by omega)) (hp_gLi (z := (0 + (1 * me + 0))) gL (List.mem_of_getElem? (i := 2) rfl) rfl (by omega))
    cases hp
  · intro p_9 hp ys v_9 h' hys a1_9 a2 a3 gZ gS
    cases hp
theorem lf1_k : hp_chk 331 6 2 [(0, 0, 1199), (1, (-2147483648), 2147483647)] [] [(0, .inr (.inr (.inl (some 94)))), (1, .inl (0, [(0, 1)])), (2, .inl (0, [(1, 1)]))] [.inl (1, [])] [] [] 2 [] [([], 2, [(0, 0, 1199), (1, (-2147483648), 2147483647)], [], [], [.inl ((-1), [])], [])] = true := by decide +kernel
theorem lf1 {cst : am_K} {strs : List Nat} {Φ : am_Q → Prop} {D : Nat} {M : am_M} {h : am_H} {l : am_L} (c : hp_C cst strs D) (hM : m_P[331]? = some M) (hD : (2 : Int) ≤ (D : Int) + 1) (hy : ly_hy m_tt ly_TH h) (cc me : Int) (x0 : Int32) (hx0 : x0.toInt = 1) (b0 : 0 ≤ cc) (t0 : cc ≤ 1199) (b1 : (-2147483648) ≤ me) (t1 : me ≤ 2147483647) (l0 : hp_a l 0 94) (l1 : hp_i l 1 (cc)) (l2 : hp_i l 2 (me)) (r0 : ∀ (h' : am_H) (y0 : Int32), y0.toInt = (-1) → ly_hy m_tt ly_TH h' → ly_fr cst [] h h' → h.length ≤ h'.length → Φ (some (.int y0), h', 0, 0)) : hp_F cst strs Φ D M 6 l [.int x0] h := by
  refine hp_arc c hM lf1_k hD [cc, me] rfl hy (hp_Bc (z := cc) rfl b0 t0 (hp_Bc (z := me) rfl b1 t1 hp_Bn)) hp_Fn hp_Kn (hp_La l0 (hp_Li (z := (0 + (1 * cc + 0))) l1 rfl (by omega) (hp_Li (z := (0 + (1 * me + 0))) l2 rfl (by omega) hp_Ln))) (hp_Si (z := (1 + 0)) rfl (by omega) trivial) ?_ ?_
  · intro p_9 hp ys l' st' h' hys a1_9 a2 a3 gZ gL gS
    cases hp
  · intro p_9 hp ys v_9 h' hys a1_9 a2 a3 gZ gS
    rcases List.mem_cons.mp hp with rfl | hp
    · obtain rfl := hp_y0 hys
      cases v_9 with
      | none => cases gS
      | some wz =>
        obtain ⟨y0, t0, s0_9, q0, -⟩ := hp_gSi (z := ((-1) + 0)) gS rfl
        cases s0_9
        exact r0 h' y0 (by omega) a1_9 a2 a3
    cases hp
theorem lf2_k : hp_chk 331 6 2 [(0, 0, 1199), (1, (-2147483648), 2147483647)] [] [(0, .inr (.inr (.inl (some 94)))), (1, .inl (0, [(0, 1)])), (2, .inl (0, [(1, 1)]))] [.inl (0, [])] [] [] 2 [(13, ([], 2, [(0, 0, 1199), (1, (-2147483648), 2147483647)], [], [(0, .inr (.inr (.inl (some 94)))), (1, .inl (0, [(0, 1)])), (2, .inl (0, [(1, 1)])), (3, .inl (0, []))], [], []))] [] = true := by decide +kernel
theorem lf2 {cst : am_K} {strs : List Nat} {Φ : am_Q → Prop} {D : Nat} {M : am_M} {h : am_H} {l : am_L} (c : hp_C cst strs D) (hM : m_P[331]? = some M) (hD : (2 : Int) ≤ (D : Int) + 1) (hy : ly_hy m_tt ly_TH h) (cc me : Int) (x0 : Int32) (hx0 : x0.toInt = 0) (b0 : 0 ≤ cc) (t0 : cc ≤ 1199) (b1 : (-2147483648) ≤ me) (t1 : me ≤ 2147483647) (l0 : hp_a l 0 94) (l1 : hp_i l 1 (cc)) (l2 : hp_i l 2 (me)) (e0 : ∀ (l' : am_L) (h' : am_H), ly_hy m_tt ly_TH h' → ly_fr cst [] h h' → h.length ≤ h'.length → hp_a l' 0 94 → hp_i l' 1 (cc) → hp_i l' 2 (me) → hp_i l' 3 0 → hp_F cst strs Φ D M 13 l' [] h') : hp_F cst strs Φ D M 6 l [.int x0] h := by
  refine hp_arc c hM lf2_k hD [cc, me] rfl hy (hp_Bc (z := cc) rfl b0 t0 (hp_Bc (z := me) rfl b1 t1 hp_Bn)) hp_Fn hp_Kn (hp_La l0 (hp_Li (z := (0 + (1 * cc + 0))) l1 rfl (by omega) (hp_Li (z := (0 + (1 * me + 0))) l2 rfl (by omega) hp_Ln))) (hp_Si (z := (0 + 0)) rfl (by omega) trivial) ?_ ?_
  · intro p_9 hp ys l' st' h' hys a1_9 a2 a3 gZ gL gS
    rcases List.mem_cons.mp hp with rfl | hp
    · obtain rfl := hp_y0 hys
      cases hp_gSn gS
      exact e0 l' h' a1_9 a2 a3 (hp_gLa gL (List.mem_of_getElem? (i := 0) rfl) (by decide)) (hp_gLi (z := (0 + (1 * cc + 0))) gL (List.mem_of_getElem? (i := 1) rfl) rfl (by omega)) (hp_gLi (z := (0 + (1 * me + 0))) gL (List.mem_of_getElem? (i := 2) rfl) rfl (by omega)) (hp_gLi (z := (0 + 0)) gL (List.mem_of_getElem? (i := 3) rfl) rfl (by omega))
    cases hp
  · intro p_9 hp ys v_9 h' hys a1_9 a2 a3 gZ gS
    cases hp
theorem lf3_k : hp_chk 331 13 3 [(0, 0, 1199), (1, (-2147483648), 2147483647), (2, 0, 20)] [] [(0, .inr (.inr (.inl (some 94)))), (1, .inl (0, [(0, 1)])), (2, .inl (0, [(1, 1)])), (3, .inl (0, [(2, 1)]))] [] [(24576, (0, [(0, 1)]), (0, [(2, 1)]))] [] 2 [] [([], 3, [(0, 0, 1199), (1, (-2147483648), 2147483647), (2, 0, 20)], [], [], [.inl (99, [])], [])] = true := by decide +kernel
theorem lf3 {cst : am_K} {strs : List Nat} {Φ : am_Q → Prop} {D : Nat} {M : am_M} {h : am_H} {l : am_L} (c : hp_C cst strs D) (hM : m_P[331]? = some M) (hD : (2 : Int) ≤ (D : Int) + 1) (hy : ly_hy m_tt ly_TH h) (cc me m : Int) (b0 : 0 ≤ cc) (t0 : cc ≤ 1199) (b1 : (-2147483648) ≤ me) (t1 : me ≤ 2147483647) (b2 : 0 ≤ m) (t2 : m ≤ 20) (k0 : ly_hv cst h 24576 (cc) = some (m)) (l0 : hp_a l 0 94) (l1 : hp_i l 1 (cc)) (l2 : hp_i l 2 (me)) (l3 : hp_i l 3 (m)) (r0 : ∀ (h' : am_H) (y0 : Int32), y0.toInt = 99 → ly_hy m_tt ly_TH h' → ly_fr cst [] h h' → h.length ≤ h'.length → Φ (some (.int y0), h', 0, 0)) : hp_F cst strs Φ D M 13 l [] h := by
  refine hp_arc c hM lf3_k hD [cc, me, m] rfl hy (hp_Bc (z := cc) rfl b0 t0 (hp_Bc (z := me) rfl b1 t1 (hp_Bc (z := m) rfl b2 t2 hp_Bn))) hp_Fn (hp_Kc (zi := (0 + (1 * cc + 0))) (zv := (0 + (1 * m + 0))) k0 rfl rfl (by omega) (by omega) hp_Kn) (hp_La l0 (hp_Li (z := (0 + (1 * cc + 0))) l1 rfl (by omega) (hp_Li (z := (0 + (1 * me + 0))) l2 rfl (by omega) (hp_Li (z := (0 + (1 * m + 0))) l3 rfl (by omega) hp_Ln)))) trivial ?_ ?_
  · intro p_9 hp ys l' st' h' hys a1_9 a2 a3 gZ gL gS
    cases hp
  · intro p_9 hp ys v_9 h' hys a1_9 a2 a3 gZ gS
    rcases List.mem_cons.mp hp with rfl | hp
    · obtain rfl := hp_y0 hys
      cases v_9 with
      | none => cases gS
      | some wz =>
        obtain ⟨y0, t0, s0_9, q0, -⟩ := hp_gSi (z := (99 + 0)) gS rfl
        cases s0_9
        exact r0 h' y0 (by omega) a1_9 a2 a3
    cases hp
theorem lf4_k : hp_chk 331 13 4 [(0, 0, 1199), (1, (-2147483648), 2147483647), (2, 0, 20), (3, 0, 20)] [((-1), [(2, (-1)), (3, 1)])] [(0, .inr (.inr (.inl (some 94)))), (1, .inl (0, [(0, 1)])), (2, .inl (0, [(1, 1)])), (3, .inl (0, [(2, 1)]))] [] [(24576, (0, [(0, 1)]), (0, [(3, 1)]))] [] 2 [(28, ([], 4, [(0, 0, 1199), (1, (-2147483648), 2147483647), (2, 0, 20), (3, 0, 20)], [], [(0, .inr (.inr (.inl (some 94)))), (1, .inl (0, [(0, 1)])), (2, .inl (0, [(1, 1)])), (3, .inl (0, [(2, 1)]))], [.inl (0, [(2, 1)]), .inl (1, []), .inl (0, [(1, 1)]), .inl (0, [(0, 1)]), .inr (.inr (.inl (some 94)))], []))] [] = true := by decide +kernel
theorem lf4 {cst : am_K} {strs : List Nat} {Φ : am_Q → Prop} {D : Nat} {M : am_M} {h : am_H} {l : am_L} (c : hp_C cst strs D) (hM : m_P[331]? = some M) (hD : (2 : Int) ≤ (D : Int) + 1) (hy : ly_hy m_tt ly_TH h) (cc me t m : Int) (b0 : 0 ≤ cc) (t0 : cc ≤ 1199) (b1 : (-2147483648) ≤ me) (t1 : me ≤ 2147483647) (b2 : 0 ≤ t) (t2 : t ≤ 20) (b3 : 0 ≤ m) (t3 : m ≤ 20) (f0 : 0 ≤ (m - t - 1)) (k0 : ly_hv cst h 24576 (cc) = some (m)) (l0 : hp_a l 0 94) (l1 : hp_i l 1 (cc)) (l2 : hp_i l 2 (me)) (l3 : hp_i l 3 (t)) (e0 : ∀ (l' : am_L) (h' : am_H) (y0 : Int32) (y1 : Int32) (y2 : Int32) (y3 : Int32), y0.toInt = (t) → y1.toInt = 1 → y2.toInt = (me) → y3.toInt = (cc) → ly_hy m_tt ly_TH h' → ly_fr cst [] h h' → h.length ≤ h'.length → hp_a l' 0 94 → hp_i l' 1 (cc) → hp_i l' 2 (me) → hp_i l' 3 (t) → hp_F cst strs Φ D M 28 l' [.int y0, .int y1, .int y2, .int y3, .ref 94] h') : hp_F cst strs Φ D M 13 l [] h := by
  refine hp_arc c hM lf4_k hD [cc, me, t, m] rfl hy (hp_Bc (z := cc) rfl b0 t0 (hp_Bc (z := me) rfl b1 t1 (hp_Bc (z := t) rfl b2 t2 (hp_Bc (z := m) rfl b3 t3 hp_Bn)))) (hp_Fc (z := ((-1) + ((-1) * t + (1 * m + 0)))) rfl (by omega) hp_Fn) (hp_Kc (zi := (0 + (1 * cc + 0))) (zv := (0 + (1 * m + 0))) k0 rfl rfl (by omega) (by omega) hp_Kn) (hp_La l0 (hp_Li (z := (0 + (1 * cc + 0))) l1 rfl (by omega) (hp_Li (z := (0 + (1 * me + 0))) l2 rfl (by omega) (hp_Li (z := (0 + (1 * t + 0))) l3 rfl (by omega) hp_Ln)))) trivial ?_ ?_
  · intro p_9 hp ys l' st' h' hys a1_9 a2 a3 gZ gL gS
    rcases List.mem_cons.mp hp with rfl | hp
    · obtain rfl := hp_y0 hys
      obtain ⟨y0, t0, rfl, q0, g0⟩ := hp_gSi (z := (0 + (1 * t + 0))) gS rfl
      obtain ⟨y1, t1, rfl, q1_9, g1⟩ := hp_gSi (z := (1 + 0)) g0 rfl
      obtain ⟨y2, t2, rfl, q2_9, g2⟩ := hp_gSi (z := (0 + (1 * me + 0))) g1 rfl
      obtain ⟨y3, t3, rfl, q3_9, g3_9⟩ := hp_gSi (z := (0 + (1 * cc + 0))) g2 rfl
      obtain ⟨t4_9, rfl, g4⟩ := hp_gSa g3_9 (by decide)
      cases hp_gSn g4
      exact e0 l' h' y0 y1 y2 y3 (by omega) (by omega) (by omega) (by omega) a1_9 a2 a3 (hp_gLa gL (List.mem_of_getElem? (i := 0) rfl) (by decide)) (hp_gLi (z := (0 + (1 * cc + 0))) gL (List.mem_of_getElem? (i := 1) rfl) rfl (by omega)) (hp_gLi (z := (0 + (1 * me + 0))) gL (List.mem_of_getElem? (i := 2) rfl) rfl (by omega)) (hp_gLi (z := (0 + (1 * t + 0))) gL (List.mem_of_getElem? (i := 3) rfl) rfl (by omega))
    cases hp
  · intro p_9 hp ys v_9 h' hys a1_9 a2 a3 gZ gS
    cases hp
theorem lf5_k : hp_chk 331 33 3 [(0, 0, 1199), (1, (-2147483648), 2147483647), (2, 0, 20)] [] [(0, .inr (.inr (.inl (some 94)))), (1, .inl (0, [(0, 1)])), (2, .inl (0, [(1, 1)])), (3, .inl (0, [(2, 1)]))] [.inl (1, [])] [] [] 2 [] [([], 3, [(0, 0, 1199), (1, (-2147483648), 2147483647), (2, 0, 20)], [], [], [.inl (0, [(2, 1)])], [])] = true := by decide +kernel
theorem lf5 {cst : am_K} {strs : List Nat} {Φ : am_Q → Prop} {D : Nat} {M : am_M} {h : am_H} {l : am_L} (c : hp_C cst strs D) (hM : m_P[331]? = some M) (hD : (2 : Int) ≤ (D : Int) + 1) (hy : ly_hy m_tt ly_TH h) (cc me t : Int) (x0 : Int32) (hx0 : x0.toInt = 1) (b0 : 0 ≤ cc) (t0 : cc ≤ 1199) (b1 : (-2147483648) ≤ me) (t1 : me ≤ 2147483647) (b2 : 0 ≤ t) (t2 : t ≤ 20) (l0 : hp_a l 0 94) (l1 : hp_i l 1 (cc)) (l2 : hp_i l 2 (me)) (l3 : hp_i l 3 (t)) (r0 : ∀ (h' : am_H) (y0 : Int32), y0.toInt = (t) → ly_hy m_tt ly_TH h' → ly_fr cst [] h h' → h.length ≤ h'.length → Φ (some (.int y0), h', 0, 0)) : hp_F cst strs Φ D M 33 l [.int x0] h := by
  refine hp_arc c hM lf5_k hD [cc, me, t] rfl hy (hp_Bc (z := cc) rfl b0 t0 (hp_Bc (z := me) rfl b1 t1 (hp_Bc (z := t) rfl b2 t2 hp_Bn))) hp_Fn hp_Kn (hp_La l0 (hp_Li (z := (0 + (1 * cc + 0))) l1 rfl (by omega) (hp_Li (z := (0 + (1 * me + 0))) l2 rfl (by omega) (hp_Li (z := (0 + (1 * t + 0))) l3 rfl (by omega) hp_Ln)))) (hp_Si (z := (1 + 0)) rfl (by omega) trivial) ?_ ?_
  · intro p_9 hp ys l' st' h' hys a1_9 a2 a3 gZ gL gS
    cases hp
  · intro p_9 hp ys v_9 h' hys a1_9 a2 a3 gZ gS
    rcases List.mem_cons.mp hp with rfl | hp
    · obtain rfl := hp_y0 hys
      cases v_9 with
      | none => cases gS
      | some wz =>
        obtain ⟨y0, t0, s0_9, q0, -⟩ := hp_gSi (z := (0 + (1 * t + 0))) gS rfl
        cases s0_9
        exact r0 h' y0 (by omega) a1_9 a2 a3
    cases hp
theorem lf6_k : hp_chk 331 33 3 [(0, 0, 1199), (1, (-2147483648), 2147483647), (2, 0, 20)] [] [(0, .inr (.inr (.inl (some 94)))), (1, .inl (0, [(0, 1)])), (2, .inl (0, [(1, 1)])), (3, .inl (0, [(2, 1)]))] [.inl (0, [])] [] [] 2 [(13, ([], 3, [(0, 0, 1199), (1, (-2147483648), 2147483647), (2, 0, 20)], [], [(0, .inr (.inr (.inl (some 94)))), (1, .inl (0, [(0, 1)])), (2, .inl (0, [(1, 1)])), (3, .inl (1, [(2, 1)]))], [], []))] [] = true := by decide +kernel
theorem lf6 {cst : am_K} {strs : List Nat} {Φ : am_Q → Prop} {D : Nat} {M : am_M} {h : am_H} {l : am_L} (c : hp_C cst strs D) (hM : m_P[331]? = some M) (hD : (2 : Int) ≤ (D : Int) + 1) (hy : ly_hy m_tt ly_TH h) (cc me t : Int) (x0 : Int32) (hx0 : x0.toInt = 0) (b0 : 0 ≤ cc) (t0 : cc ≤ 1199) (b1 : (-2147483648) ≤ me) (t1 : me ≤ 2147483647) (b2 : 0 ≤ t) (t2 : t ≤ 20) (l0 : hp_a l 0 94) (l1 : hp_i l 1 (cc)) (l2 : hp_i l 2 (me)) (l3 : hp_i l 3 (t)) (e0 : ∀ (l' : am_L) (h' : am_H), ly_hy m_tt ly_TH h' → ly_fr cst [] h h' → h.length ≤ h'.length → hp_a l' 0 94 → hp_i l' 1 (cc) → hp_i l' 2 (me) → hp_i l' 3 (t + 1) → hp_F cst strs Φ D M 13 l' [] h') : hp_F cst strs Φ D M 33 l [.int x0] h := by
  refine hp_arc c hM lf6_k hD [cc, me, t] rfl hy (hp_Bc (z := cc) rfl b0 t0 (hp_Bc (z := me) rfl b1 t1 (hp_Bc (z := t) rfl b2 t2 hp_Bn))) hp_Fn hp_Kn (hp_La l0 (hp_Li (z := (0 + (1 * cc + 0))) l1 rfl (by omega) (hp_Li (z := (0 + (1 * me + 0))) l2 rfl (by omega) (hp_Li (z := (0 + (1 * t + 0))) l3 rfl (by omega) hp_Ln)))) (hp_Si (z := (0 + 0)) rfl (by omega) trivial) ?_ ?_
  · intro p_9 hp ys l' st' h' hys a1_9 a2 a3 gZ gL gS
    rcases List.mem_cons.mp hp with rfl | hp
    · obtain rfl := hp_y0 hys
      cases hp_gSn gS
      exact e0 l' h' a1_9 a2 a3 (hp_gLa gL (List.mem_of_getElem? (i := 0) rfl) (by decide)) (hp_gLi (z := (0 + (1 * cc + 0))) gL (List.mem_of_getElem? (i := 1) rfl) rfl (by omega)) (hp_gLi (z := (0 + (1 * me + 0))) gL (List.mem_of_getElem? (i := 2) rfl) rfl (by omega)) (hp_gLi (z := (1 + (1 * t + 0))) gL (List.mem_of_getElem? (i := 3) rfl) rfl (by omega))
    cases hp
  · intro p_9 hp ys v_9 h' hys a1_9 a2 a3 gZ gS
    cases hp
theorem hp_sbo {cst : am_K} {strs : List Nat} {Φ : am_Q → Prop} {D mi pc : Nat} {M : am_M} {l : am_L} {st : List Value} {h : am_H} {c n : Nat} {lo hi : Int} {x i : Int32} (hM : m_P[mi]? = some M) (hI : hp_isBs mi pc = true) (hy : ly_hy m_tt ly_TH h) (ht : ly_ths ly_TH c = some (.inl (.boolean, n, lo, hi))) (hg : ly_dg (256 * c) = []) (h0 : 0 ≤ i.toInt) (h1 : i.toInt < (n : Int)) (v0 : lo ≤ (vp_nar .boolean x).toInt) (v1 : (vp_nar .boolean x).toInt ≤ hi)
    (k : ∀ h', ly_hy m_tt ly_TH h' → h'.length = h.length → hp_put cst (256 * c) i.toInt (vp_nar .boolean x).toInt h h' → hp_F cst strs Φ D M (pc + 1) l st h') : hp_F cst strs Φ D M pc l (.int x :: .int i :: .ref (16 + c) :: st) h := by
  have hc_9 := ly_ths_lt ht
  obtain ⟨xc, hx, cc, rfl, f_9, rfl, hf⟩ := hy.2.1 _ _ ht
  unfold hp_isBs at hI
  split at hI
  case h_2 => cases hI
  rename_i m_9 hm_9
  rw [Bool.and_eq_true, sx_beqn] at hI
  obtain ⟨c0_9, hI⟩ := hI
  split at hI
  case h_2 => cases hI
  rename_i X_9 hX
  obtain ⟨M', hM', hmok, -⟩ := sx_tok_m mi m_9 hm_9 c0_9
  rw [hM] at hM'
  cases hM'
  have hfind := hmok.2.2 _ _ hX
  have en : i.toNatClampNeg = i.toInt.toNat := rfl
  have hlt : ¬ (i < 0 ∨ n ≤ i.toNatClampNeg) := by
    rintro (q_9 | q_9)
    · have := Int32.lt_iff_toInt_lt.mp q_9
      have z_9 : (0 : Int32).toInt = 0 := rfl
      omega
    · omega
  have hs : am_s cst m_cl m_tt .bastore X_9 pc l (.int x :: .int i :: .ref (16 + c) :: st) h = some (pc + 1, l, st, h.set c (.inl (.boolean, n, .inl (upd f_9 i.toNatClampNeg (vp_nar .boolean x))))) := by
    have e16_9 : 16 + c - 16 = c := by omega
    have g16 : ¬ 16 + c < 16 := by omega
    simp only [am_s, if_neg g16, e16_9, hx, if_neg hlt]
  have up_9 : ∀ j_9, upd f_9 i.toNatClampNeg (vp_nar .boolean x) j_9 = if j_9 = i.toNatClampNeg then vp_nar .boolean x else f_9 j_9 := fun j_9 => rfl
  refine sx_Fin_step rfl (fun n r_9 hgo => ⟨_, X_9, hfind, Or.inl ⟨_, hs, hgo⟩⟩) (k _ (ly_hy_set1 hy hc_9 fun t_9 ht' => ?_) (by rw [List.length_set]) (hp_put_of (n := n) hg hc_9 hx ?_ ?_))
  · rw [ht] at ht'
    cases ht'
    refine ⟨_, rfl, _, rfl, fun j_9 hj => ?_⟩
    rw [up_9]
    by_cases ej : j_9 = i.toNatClampNeg
    · rw [if_pos ej]; exact ⟨v0, v1⟩
    · rw [if_neg ej]; exact hf j_9 hj
  · simp only [ly_hs]
    rw [if_pos ⟨trivial, h0, by omega⟩, up_9, if_pos (by omega)]
  · intro k i' hne
    simp only [ly_hs]
    by_cases hk : k = 0 ∧ 0 ≤ i' ∧ i'.toNat < n
    · rw [if_pos hk, if_pos hk, up_9, if_neg]
      have := hne.resolve_left (fun q_9 => q_9 hk.1)
      omega
    · rw [if_neg hk, if_neg hk]
theorem nar_b1 {x : Int32} (x0 : 0 ≤ x.toInt) (x1 : x.toInt ≤ 1) : (vp_nar .boolean x).toInt = x.toInt := by
  by_cases z_9 : x.toInt = 0
  · have : x = 0 := Int32.toInt_inj.mp (z_9.trans rfl)
    rw [this]
    rfl
  · have : x = 1 := Int32.toInt_inj.mp ((show x.toInt = 1 by omega).trans rfl)
    rw [this]
    rfl
theorem th_SK : ly_ths ly_TH 110 = some (.inl (.boolean, 64, 0, 1)) := rfl
/-- the values that wait, as the reference keeps them -/
def skR (cst : am_K) (h : am_H) (st : List Bool) : Prop := ∀ k (hk : k < st.length), ly_hv cst h 28160 ((st.length : Int) - 1 - (k : Int)) = some (bif st[k] then 1 else 0)
theorem skR_mv {cst : am_K} {h h' : am_H} {st : List Bool} {ms : List Nat} (X : skR cst h st) (fr : ly_fr cst ms h h') (q : ly_has 28160 ms = false) : skR cst h' st := fun k_9 hk => fr _ _ _ q (X k_9 hk)
set_option maxRecDepth 8000 in
theorem skR_push {cst : am_K} {h h' : am_H} {st : List Bool} {p : Bool} {v : Int} (X : skR cst h st) (ev : v = bif p then 1 else 0) (u : hp_put cst 28160 (st.length : Int) v h h') : skR cst h' (p :: st) := fun k_9 hk => by
  rw [List.length_cons]
  cases k_9 with
  | zero =>
    show ly_hv cst h' 28160 ((((st.length + 1 : Nat)) : Int) - 1 - ((0 : Nat) : Int)) = some (bif p then 1 else 0)
    rw [show ((((st.length + 1 : Nat)) : Int) - 1 - ((0 : Nat) : Int)) = (st.length : Int) by omega, u.1, ev]
  | succ k_9 =>
    have hk' : k_9 < st.length := Nat.lt_of_succ_lt_succ hk
    show ly_hv cst h' 28160 ((((st.length + 1 : Nat)) : Int) - 1 - (((k_9 + 1 : Nat)) : Int)) = some (bif st[k_9] then 1 else 0)
    rw [show ((((st.length + 1 : Nat)) : Int) - 1 - (((k_9 + 1 : Nat)) : Int)) = (st.length : Int) - 1 - (k_9 : Int) by omega, u.2 _ _ (Or.inr (by omega))]
    exact X k_9 hk'
theorem skR_not {cst : am_K} {h h' : am_H} {st : List Bool} {p p' : Bool} {v : Int} (X : skR cst h (p :: st)) (ev : v = bif p' then 1 else 0) (u : hp_put cst 28160 (st.length : Int) v h h') : skR cst h' (p' :: st) := skR_push (fun k hk => by
  have z := X (k + 1) (Nat.succ_lt_succ hk)
  rw [List.length_cons] at z
  have z : ly_hv cst h 28160 ((((st.length + 1 : Nat)) : Int) - 1 - (((k + 1 : Nat)) : Int)) = some (bif st[k] then 1 else 0) := z
  rw [show ((((st.length + 1 : Nat)) : Int) - 1 - (((k + 1 : Nat)) : Int)) = (st.length : Int) - 1 - (k : Int) by omega] at z
  exact z) ev u
theorem skR_tl {cst : am_K} {h : am_H} {st : List Bool} {p : Bool} (X : skR cst h (p :: st)) : skR cst h st ∧ ly_hv cst h 28160 (st.length : Int) = some (bif p then 1 else 0) := by
  refine ⟨fun k_9 hk => ?_, ?_⟩
  · have z_9 := X (k_9 + 1) (Nat.succ_lt_succ hk)
    rw [List.length_cons] at z_9
    have z_9 : ly_hv cst h 28160 ((((st.length + 1 : Nat)) : Int) - 1 - (((k_9 + 1 : Nat)) : Int)) = some (bif st[k_9] then 1 else 0) := z_9
    rw [show ((((st.length + 1 : Nat)) : Int) - 1 - (((k_9 + 1 : Nat)) : Int)) = (st.length : Int) - 1 - (k_9 : Int) by omega] at z_9
    exact z_9
  · have z_9 := X 0 (Nat.zero_lt_succ _)
    rw [List.length_cons] at z_9
    have z_9 : ly_hv cst h 28160 ((((st.length + 1 : Nat)) : Int) - 1 - ((0 : Nat) : Int)) = some (bif p then 1 else 0) := z_9
    rw [show ((((st.length + 1 : Nat)) : Int) - 1 - ((0 : Nat) : Int)) = (st.length : Int) by omega] at z_9
    exact z_9
theorem qe_p {s : Int} {S : List Int} {k d : Nat} (hs : 0 ≤ s) (h : qe (s :: S) k = some d) : qe S (k + 1) = some d := by
  have h : (if 0 ≤ s then qe S (k + 1) else if s = -3 then (if 1 ≤ k then qe S k else none) else if 2 ≤ k then qe S (k - 1) else none) = some d := h
  rw [if_pos hs] at h
  exact h
theorem qe_n {s : Int} {S : List Int} {k d : Nat} (hs : s = -3) (h : qe (s :: S) k = some d) : 1 ≤ k ∧ qe S k = some d := by
  have h : (if 0 ≤ s then qe S (k + 1) else if s = -3 then (if 1 ≤ k then qe S k else none) else if 2 ≤ k then qe S (k - 1) else none) = some d := h
  rw [if_neg (by omega), if_pos hs] at h
  split at h
  · exact ⟨by assumption, h⟩
  · cases h
theorem qe_j {s : Int} {S : List Int} {k d : Nat} (h0 : ¬ 0 ≤ s) (hs : s ≠ -3) (h : qe (s :: S) k = some d) : 2 ≤ k ∧ qe S (k - 1) = some d := by
  have h : (if 0 ≤ s then qe S (k + 1) else if s = -3 then (if 1 ≤ k then qe S k else none) else if 2 ≤ k then qe S (k - 1) else none) = some d := h
  rw [if_neg h0, if_neg hs] at h
  split at h
  · exact ⟨by assumption, h⟩
  · cases h
set_option maxRecDepth 8000 in
theorem mk_lp9 {cst : am_K} {strs : List Nat} {D : Nat} {M : am_M} {h0 : am_H} (cc : ∀ d_9, hp_C cst strs d_9) (hM : m_P[332]? = some M) (hD : 1 ≤ D) {me : Int32} {bv : (Nat → Bool) → Bool} {a j N : Nat} (a30 : a < 30) (hj : j < 40) {z : Nat} (kl : ly_hv cst h0 25088 (40 * (a : Int) + (j : Int)) = some (N : Int)) (kz : ly_hv cst h0 24832 (40 * (a : Int) + (j : Int)) = some (z : Int)) (zN : z + N ≤ 820) :
    ∀ (S_9 : List Int) (h_9 : am_H) (l : am_L) (i : Nat) (st : List Bool), i + S_9.length = N → st.length + qn S_9 ≤ 20 → qe S_9 st.length = some 1 → qv_r (fun i => btq_b me i) S_9 st = [bv (fun i => btq_b me i)] → (∀ k_9 (hk : k_9 < S_9.length), ly_hv cst h0 26880 (820 * (a : Int) + (z : Int) + ((i + k_9 : Nat) : Int)) = some (S_9[k_9])) → ly_hy m_tt ly_TH h_9 → ly_fr cst [28160] h0 h_9 → skR cst h_9 st → hp_a l 0 94 → hp_i l 1 (40 * (a : Int) + (j : Int)) → hp_i l 2 me.toInt → hp_i l 3 (st.length : Int) → hp_i l 4 (i : Int) → hp_F cst strs (fun r_9 : am_Q => ∃ w_9 : Int32, r_9.1 = some (.int w_9) ∧ r_9.2.2.1 = 0 ∧ r_9.2.2.2 = 0 ∧ ly_hy m_tt ly_TH r_9.2.1 ∧ ly_fr cst [28160] h0 r_9.2.1 ∧ w_9.toInt = bif bv (fun i => btq_b me i) then 1 else 0) D M 5 l [] h_9 := by
  have c : hp_C cst strs D := cc _
  intro S_9
  induction S_9 with
  | nil =>
    intro h_9 l i st eN_9 sb dp ec _ hy fr_9 B_9 l0 l1 l2 l3 l4
    have eN_9 : i = N := eN_9
    have ec : st = [bv (fun i => btq_b me i)] := ec
    subst ec
    rw [eN_9] at l4
    have kv := (skR_tl B_9).2
    have kv : ly_hv cst h_9 28160 0 = some (bif bv (fun i => btq_b me i) then 1 else 0) := kv
    have bb : 0 ≤ (bif bv (fun i => btq_b me i) then (1 : Int) else 0) ∧ (bif bv (fun i => btq_b me i) then (1 : Int) else 0) ≤ 1 := by cases bv (fun i => btq_b me i) <;> decide
    exact mkE c hM (by omega) hy (40 * (a : Int) + (j : Int)) me.toInt 1 (N : Int) (bif bv (fun i => btq_b me i) then 1 else 0) (by omega) (by omega) me.le_toInt me.toInt_le (by omega) (by omega) (by omega) (by omega) bb.1 bb.2 (fr_9 _ _ _ rfl kl) kv l0 l1 l2 l3 l4 (fun h2 w_9 hw u1_9 u2_9 u3 => ⟨w_9, rfl, rfl, rfl, u1_9, ly_fr_tr fr_9 (hp_sub2 rfl u2_9), hw⟩)
  | cons s_9 S_9 ih_9 =>
    intro h_9 l i st eN_9 sb dp ec row_9 hy fr_9 B_9 l0 l1 l2 l3 l4
    have eN_9 : i + (S_9.length + 1) = N := eN_9
    have sb : st.length + ((if 0 ≤ s_9 then 1 else 0) + qn S_9) ≤ 20 := sb
    have ks_9 : ly_hv cst h_9 26880 (820 * (a : Int) + (z : Int) + (i : Int)) = some s_9 := by
      have y_9 := row_9 0 (Nat.zero_lt_succ _)
      rw [Nat.add_zero] at y_9
      exact fr_9 _ _ _ rfl y_9
    have row' : ∀ k_9 (hk : k_9 < S_9.length), ly_hv cst h0 26880 (820 * (a : Int) + (z : Int) + ((i + 1 + k_9 : Nat) : Int)) = some (S_9[k_9]) := fun k_9 hk => by
      have y_9 := row_9 (k_9 + 1) (Nat.succ_lt_succ hk)
      rw [show i + (k_9 + 1) = i + 1 + k_9 by omega] at y_9
      exact y_9
    obtain ⟨v_9, kv, v0_9, v1_9⟩ := hp_row (cst := cst) (i := 820 * (a : Int) + (z : Int) + (i : Int)) hy (show ly_ths ly_TH 105 = some (.inl (.int, 25420, -4, 19)) from rfl) (by omega) (by omega)
    have kv : ly_hv cst h_9 26880 (820 * (a : Int) + (z : Int) + (i : Int)) = some v_9 := kv
    have ev_9 := Option.some.inj (ks_9.symm.trans kv)
    have kl' := fr_9 _ _ _ rfl kl
    have kz' := fr_9 _ _ _ rfl kz
    have ec : qv_r (fun i => btq_b me i) S_9 (qv_r1 (fun i => btq_b me i) st s_9) = [bv (fun i => btq_b me i)] := ec
    have ni : (((i + 1 : Nat)) : Int) = (i : Int) + 1 := by omega
    by_cases s0_9 : 0 ≤ s_9
    · rw [if_pos s0_9] at sb
      have e1_9 : qv_r1 (fun i => btq_b me i) st s_9 = btq_b me s_9.toNat :: st := if_pos s0_9
      rw [e1_9] at ec
      refine mkP0 c hM (by omega) hy (40 * (a : Int) + (j : Int)) (a : Int) me.toInt (st.length : Int) (i : Int) (N : Int) (z : Int) s_9 (by omega) (by omega) (by omega) (by omega) me.le_toInt me.toInt_le (by omega) (by omega) (by omega) (by omega) (by omega) (by omega) (by omega) (by omega) s0_9 (by omega) (by omega) (by omega) (q40 hj) kl' kz' ks_9 l0 l1 l2 l3 l4 (fun l2' h2 y0 y1 y2 e0_9 e1_9 e2_9 u1_9 u2_9 u3 m0_9 m1_9 m2_9 m3_9 m4_9 m5_9 => ?_)
      have em1 : y1 = me := Int32.toInt_inj.mp e1_9
      rw [em1]
      refine btq_ishr hM (by decide +kernel) ?_
      refine mkP1 c hM (by omega) u1_9 (40 * (a : Int) + (j : Int)) me.toInt (st.length : Int) (i : Int) (me >>> (y0 &&& 31)).toInt (me >>> (y0 &&& 31)) y2 rfl e2_9 (by omega) (by omega) me.le_toInt me.toInt_le (by omega) (by omega) (by omega) (by omega) (Int32.le_toInt _) (Int32.toInt_le _) m0_9 m1_9 m2_9 m3_9 m4_9 (fun l3' h3 b0 b1 b2 f0_9 f1_9 f2_9 w1_9 w2_9 w3_9 n0_9 n1_9 n2_9 n3_9 n4_9 => ?_)
      have em3 : b1 = me >>> (y0 &&& 31) := Int32.toInt_inj.mp f1_9
      have em0 : b0 = 1 := Int32.toInt_inj.mp (show b0.toInt = (1 : Int32).toInt from f0_9)
      rw [em3, em0]
      refine btq_iand hM (by decide +kernel) ?_
      have ez : (me >>> (y0 &&& 31)) &&& 1 = bif btq_b me s_9.toNat then 1 else 0 := btq_at (n := s_9.toNat) (by omega) (by omega) me
      rw [ez]
      have F3 : ly_fr cst [28160] h0 h3 := ly_fr_tr fr_9 (ly_fr_tr (hp_sub2 rfl u2_9) (hp_sub2 rfl w2_9))
      have B3 : skR cst h3 st := skR_mv (skR_mv B_9 u2_9 rfl) w2_9 rfl
      have st8_9 : ∀ (p_9 : Bool), btq_b me s_9.toNat = p_9 → ∀ (l4' : am_L) (h4 : am_H) (x0_9 x1_9 : Int32), x0_9.toInt = (bif p_9 then 1 else 0) → x1_9.toInt = (st.length : Int) → ly_hy m_tt ly_TH h4 → ly_fr cst [] h3 h4 → hp_a l4' 0 94 → hp_i l4' 1 (40 * (a : Int) + (j : Int)) → hp_i l4' 2 me.toInt → hp_i l4' 3 (st.length : Int) → hp_i l4' 4 (i : Int) → hp_F cst strs (fun r_9 : am_Q => ∃ w_9 : Int32, r_9.1 = some (.int w_9) ∧ r_9.2.2.1 = 0 ∧ r_9.2.2.2 = 0 ∧ ly_hy m_tt ly_TH r_9.2.1 ∧ ly_fr cst [28160] h0 r_9.2.1 ∧ w_9.toInt = bif bv (fun i => btq_b me i) then 1 else 0) D M 66 l4' [.int x0_9, .int x1_9, .ref 126] h4 := by
        intro p_9 ep l4' h4 x0_9 x1_9 g0 g1 q1_9 q2_9 p0_9 p1_9 p2_9 p3_9 p4_9
        have xb : 0 ≤ x0_9.toInt ∧ x0_9.toInt ≤ 1 := by
          rw [g0]
          cases p_9 <;> decide
        refine hp_sbo (c := 110) hM (by decide +kernel) q1_9 th_SK rfl (by omega) (by omega) (by rw [nar_b1 xb.1 xb.2]; exact xb.1) (by rw [nar_b1 xb.1 xb.2]; exact xb.2) (fun h5 t1_9 t2_9 t3_9 => ?_)
        rw [nar_b1 xb.1 xb.2, g0, g1] at t3_9
        have t3_9 : hp_put cst 28160 (st.length : Int) (bif p_9 then 1 else 0) h4 h5 := t3_9
        have B5 : skR cst h5 (p_9 :: st) := skR_push (skR_mv B3 q2_9 rfl) rfl t3_9
        have F5 : ly_fr cst [28160] h0 h5 := ly_fr_tr F3 (ly_fr_tr (hp_sub2 rfl q2_9) (hp_put_fr (by rfl) t3_9))
        rw [ep] at ec
        exact mkP3 c hM (by omega) t1_9 (40 * (a : Int) + (j : Int)) me.toInt (st.length : Int) (i : Int) (by omega) (by omega) me.le_toInt me.toInt_le (by omega) (by omega) (by omega) (by omega) p0_9 p1_9 p2_9 p3_9 p4_9 (fun l6 h6 r1_9 r2 r3 d0_9 d1_9 d2_9 d3_9 d4_9 => ih_9 h6 l6 (i + 1) (p_9 :: st) (by omega) (by rw [List.length_cons]; omega) (by rw [List.length_cons]; exact qe_p s0_9 dp) ec row' r1_9 (ly_fr_tr F5 (hp_sub2 rfl r2)) (skR_mv B5 r2 rfl) d0_9 d1_9 d2_9 (by rw [List.length_cons, show (((st.length + 1 : Nat)) : Int) = (st.length : Int) + 1 by omega]; exact d3_9) (by rw [ni]; exact d4_9))
      cases eb : btq_b me s_9.toNat
      · exact mkP20 c hM (by omega) w1_9 (40 * (a : Int) + (j : Int)) me.toInt (st.length : Int) (i : Int) 0 b2 rfl f2_9 (by omega) (by omega) me.le_toInt me.toInt_le (by omega) (by omega) (by omega) (by omega) n0_9 n1_9 n2_9 n3_9 n4_9 (fun l4' h4 x0_9 x1_9 g0 g1 q1_9 q2_9 q3_9 p0_9 p1_9 p2_9 p3_9 p4_9 => st8_9 false eb l4' h4 x0_9 x1_9 g0 g1 q1_9 q2_9 p0_9 p1_9 p2_9 p3_9 p4_9)
      · exact mkP21 c hM (by omega) w1_9 (40 * (a : Int) + (j : Int)) me.toInt (st.length : Int) (i : Int) 1 b2 rfl f2_9 (by omega) (by omega) me.le_toInt me.toInt_le (by omega) (by omega) (by omega) (by omega) n0_9 n1_9 n2_9 n3_9 n4_9 (fun l4' h4 x0_9 x1_9 g0 g1 q1_9 q2_9 q3_9 p0_9 p1_9 p2_9 p3_9 p4_9 => st8_9 true eb l4' h4 x0_9 x1_9 g0 g1 q1_9 q2_9 p0_9 p1_9 p2_9 p3_9 p4_9)
    rw [if_neg s0_9, Nat.zero_add] at sb
    by_cases s3_9 : s_9 = -3
    · obtain ⟨kd, dp'⟩ := qe_n s3_9 dp
      cases st with
      | nil => exact absurd kd (by decide)
      | cons p_9 st =>
        have e1_9 : qv_r1 (fun i => btq_b me i) (p_9 :: st) s_9 = (!p_9) :: st := by
          unfold qv_r1
          rw [if_neg s0_9, if_pos s3_9]
          rfl
        rw [e1_9] at ec
        rw [s3_9] at ks_9
        rw [List.length_cons] at sb l3
        have l3 : hp_i l 3 ((st.length : Int) + 1) := by
          rw [show ((st.length : Int) + 1) = (((st.length + 1 : Nat)) : Int) by omega]
          exact l3
        have kp_9 := (skR_tl B_9).2
        have st8_9 : ∀ (l4' : am_L) (h4 : am_H) (x0_9 x1_9 : Int32), x0_9.toInt = (bif (!p_9) then 1 else 0) → x1_9.toInt = (st.length : Int) → ly_hy m_tt ly_TH h4 → ly_fr cst [] h_9 h4 → hp_a l4' 0 94 → hp_i l4' 1 (40 * (a : Int) + (j : Int)) → hp_i l4' 2 me.toInt → hp_i l4' 3 ((st.length : Int) + 1) → hp_i l4' 4 (i : Int) → hp_F cst strs (fun r_9 : am_Q => ∃ w_9 : Int32, r_9.1 = some (.int w_9) ∧ r_9.2.2.1 = 0 ∧ r_9.2.2.2 = 0 ∧ ly_hy m_tt ly_TH r_9.2.1 ∧ ly_fr cst [28160] h0 r_9.2.1 ∧ w_9.toInt = bif bv (fun i => btq_b me i) then 1 else 0) D M 103 l4' [.int x0_9, .int x1_9, .ref 126] h4 := by
          intro l4' h4 x0_9 x1_9 g0 g1 q1_9 q2_9 p0_9 p1_9 p2_9 p3_9 p4_9
          have xb : 0 ≤ x0_9.toInt ∧ x0_9.toInt ≤ 1 := by
            rw [g0]
            cases p_9 <;> decide
          refine hp_sbo (c := 110) hM (by decide +kernel) q1_9 th_SK rfl (by omega) (by omega) (by rw [nar_b1 xb.1 xb.2]; exact xb.1) (by rw [nar_b1 xb.1 xb.2]; exact xb.2) (fun h5 t1_9 t2_9 t3_9 => ?_)
          rw [nar_b1 xb.1 xb.2, g0, g1] at t3_9
          have t3_9 : hp_put cst 28160 (st.length : Int) (bif (!p_9) then 1 else 0) h4 h5 := t3_9
          have B5 : skR cst h5 ((!p_9) :: st) := skR_not (skR_mv B_9 q2_9 rfl) rfl t3_9
          have F5 : ly_fr cst [28160] h0 h5 := ly_fr_tr fr_9 (ly_fr_tr (hp_sub2 rfl q2_9) (hp_put_fr (by rfl) t3_9))
          exact mkN3 c hM (by omega) t1_9 (40 * (a : Int) + (j : Int)) me.toInt ((st.length : Int) + 1) (i : Int) (by omega) (by omega) me.le_toInt me.toInt_le (by omega) (by omega) (by omega) (by omega) p0_9 p1_9 p2_9 p3_9 p4_9 (fun l6 h6 r1_9 r2 r3 d0_9 d1_9 d2_9 d3_9 d4_9 => ih_9 h6 l6 (i + 1) ((!p_9) :: st) (by omega) (by rw [List.length_cons]; omega) dp' ec row' r1_9 (ly_fr_tr F5 (hp_sub2 rfl r2)) (skR_mv B5 r2 rfl) d0_9 d1_9 d2_9 (by rw [List.length_cons, show (((st.length + 1 : Nat)) : Int) = (st.length : Int) + 1 by omega]; exact d3_9) (by rw [ni]; exact d4_9))
        have go' : ∀ (l4' : am_L) (h4 : am_H) (x0_9 x1_9 : Int32), x0_9.toInt = (bif (!p_9) then 1 else 0) → x1_9.toInt = (st.length : Int) + 1 - 1 → ly_hy m_tt ly_TH h4 → ly_fr cst [] h_9 h4 → h_9.length ≤ h4.length → hp_a l4' 0 94 → hp_i l4' 1 (40 * (a : Int) + (j : Int)) → hp_i l4' 2 me.toInt → hp_i l4' 3 ((st.length : Int) + 1) → hp_i l4' 4 (i : Int) → hp_F cst strs (fun r_9 : am_Q => ∃ w_9 : Int32, r_9.1 = some (.int w_9) ∧ r_9.2.2.1 = 0 ∧ r_9.2.2.2 = 0 ∧ ly_hy m_tt ly_TH r_9.2.1 ∧ ly_fr cst [28160] h0 r_9.2.1 ∧ w_9.toInt = bif bv (fun i => btq_b me i) then 1 else 0) D M 103 l4' [.int x0_9, .int x1_9, .ref 126] h4 := fun l4' h4 x0_9 x1_9 g0 g1 q1_9 q2_9 q3_9 p0_9 p1_9 p2_9 p3_9 p4_9 => st8_9 l4' h4 x0_9 x1_9 g0 (by omega) q1_9 q2_9 p0_9 p1_9 p2_9 p3_9 p4_9
        have kp' : ly_hv cst h_9 28160 ((st.length : Int) + 1 - 1) = some (bif p_9 then 1 else 0) := by
          rw [show ((st.length : Int) + 1 - 1) = (st.length : Int) by omega]
          exact kp_9
        cases p_9
        · exact mkN0 c hM (by omega) hy (40 * (a : Int) + (j : Int)) (a : Int) me.toInt ((st.length : Int) + 1) (i : Int) (N : Int) (z : Int) (by omega) (by omega) (by omega) (by omega) me.le_toInt me.toInt_le (by omega) (by omega) (by omega) (by omega) (by omega) (by omega) (by omega) (by omega) (by omega) (by omega) (q40 hj) kl' kz' ks_9 kp' l0 l1 l2 l3 l4 go'
        · exact mkN1 c hM (by omega) hy (40 * (a : Int) + (j : Int)) (a : Int) me.toInt ((st.length : Int) + 1) (i : Int) (N : Int) (z : Int) (by omega) (by omega) (by omega) (by omega) me.le_toInt me.toInt_le (by omega) (by omega) (by omega) (by omega) (by omega) (by omega) (by omega) (by omega) (by omega) (by omega) (q40 hj) kl' kz' ks_9 kp' l0 l1 l2 l3 l4 go'
    obtain ⟨kd, dp'⟩ := qe_j s0_9 s3_9 dp
    cases st with
    | nil => exact absurd kd (by decide)
    | cons p_9 st =>
      cases st with
      | nil => exact absurd kd (show ¬ 2 ≤ 1 by decide)
      | cons p2_9 st =>
        rw [List.length_cons, List.length_cons] at sb l3
        have l3 : hp_i l 3 ((st.length : Int) + 2) := by
          rw [show ((st.length : Int) + 2) = (((st.length + 1 + 1 : Nat)) : Int) by omega]
          exact l3
        have B1 := skR_tl B_9
        have B2 := skR_tl B1.1
        have kp_9 : ly_hv cst h_9 28160 ((st.length : Int) + 2 - 1) = some (bif p_9 then 1 else 0) := by
          have y_9 := B1.2
          rw [List.length_cons] at y_9
          rw [show ((st.length : Int) + 2 - 1) = (((st.length + 1 : Nat)) : Int) by omega]
          exact y_9
        have kp2 : ly_hv cst h_9 28160 ((st.length : Int) + 2 - 2) = some (bif p2_9 then 1 else 0) := by
          rw [show ((st.length : Int) + 2 - 2) = (st.length : Int) by omega]
          exact B2.2
        have dp'' : qe S_9 (st.length + 1) = some 1 := dp'
        have go' : ∀ (q_9 : Bool), qv_r (fun i => btq_b me i) S_9 (q_9 :: st) = [bv (fun i => btq_b me i)] → ∀ (l4' : am_L) (h4 : am_H) (x0_9 x1_9 : Int32), x0_9.toInt = (bif q_9 then 1 else 0) → x1_9.toInt = (st.length : Int) + 2 - 2 → ly_hy m_tt ly_TH h4 → ly_fr cst [] h_9 h4 → h_9.length ≤ h4.length → hp_a l4' 0 94 → hp_i l4' 1 (40 * (a : Int) + (j : Int)) → hp_i l4' 2 me.toInt → hp_i l4' 3 ((st.length : Int) + 2 - 1) → hp_i l4' 4 (i : Int) → hp_F cst strs (fun r_9 : am_Q => ∃ w_9 : Int32, r_9.1 = some (.int w_9) ∧ r_9.2.2.1 = 0 ∧ r_9.2.2.2 = 0 ∧ ly_hy m_tt ly_TH r_9.2.1 ∧ ly_fr cst [28160] h0 r_9.2.1 ∧ w_9.toInt = bif bv (fun i => btq_b me i) then 1 else 0) D M 207 l4' [.int x0_9, .int x1_9, .ref 126] h4 := by
          intro q_9 eq_9 l4' h4 x0_9 x1_9 g0 g1 q1_9 q2_9 q3_9 p0_9 p1_9 p2_9 p3_9 p4_9
          have xb : 0 ≤ x0_9.toInt ∧ x0_9.toInt ≤ 1 := by
            rw [g0]
            cases q_9 <;> decide
          refine hp_sbo (c := 110) hM (by decide +kernel) q1_9 th_SK rfl (by omega) (by omega) (by rw [nar_b1 xb.1 xb.2]; exact xb.1) (by rw [nar_b1 xb.1 xb.2]; exact xb.2) (fun h5 t1_9 t2_9 t3_9 => ?_)
          rw [nar_b1 xb.1 xb.2, g0, g1, show ((st.length : Int) + 2 - 2) = (st.length : Int) by omega] at t3_9
          have t3_9 : hp_put cst 28160 (st.length : Int) (bif q_9 then 1 else 0) h4 h5 := t3_9
          have B5 : skR cst h5 (q_9 :: st) := skR_push (skR_mv B2.1 q2_9 rfl) rfl t3_9
          have F5 : ly_fr cst [28160] h0 h5 := ly_fr_tr fr_9 (ly_fr_tr (hp_sub2 rfl q2_9) (hp_put_fr (by rfl) t3_9))
          rw [show ((st.length : Int) + 2 - 1) = (st.length : Int) + 1 by omega] at p3_9
          exact mkJ3 c hM (by omega) t1_9 (40 * (a : Int) + (j : Int)) me.toInt ((st.length : Int) + 1) (i : Int) (by omega) (by omega) me.le_toInt me.toInt_le (by omega) (by omega) (by omega) (by omega) p0_9 p1_9 p2_9 p3_9 p4_9 (fun l6 h6 r1_9 r2 r3 d0_9 d1_9 d2_9 d3_9 d4_9 => ih_9 h6 l6 (i + 1) (q_9 :: st) (by omega) (by rw [List.length_cons]; omega) (by rw [List.length_cons]; exact dp'') eq_9 row' r1_9 (ly_fr_tr F5 (hp_sub2 rfl r2)) (skR_mv B5 r2 rfl) d0_9 d1_9 d2_9 (by rw [List.length_cons, show (((st.length + 1 : Nat)) : Int) = (st.length : Int) + 1 by omega]; exact d3_9) (by rw [ni]; exact d4_9))
        by_cases s5 : s_9 = -1
        · rw [s5] at ks_9
          have e1_9 : qv_r1 (fun i => btq_b me i) (p_9 :: p2_9 :: st) s_9 = (p2_9 && p_9) :: st := by
            unfold qv_r1
            rw [if_neg s0_9, if_neg s3_9, if_pos s5]
            rfl
          rw [e1_9] at ec
          cases p2_9 <;> cases p_9
          · exact mkJ100 c hM (by omega) hy (40 * (a : Int) + (j : Int)) (a : Int) me.toInt ((st.length : Int) + 2) (i : Int) (N : Int) (z : Int) (by omega) (by omega) (by omega) (by omega) me.le_toInt me.toInt_le (by omega) (by omega) (by omega) (by omega) (by omega) (by omega) (by omega) (by omega) (by omega) (by omega) (q40 hj) kl' kz' ks_9 kp_9 kp2 l0 l1 l2 l3 l4 (go' false ec)
          · exact mkJ101 c hM (by omega) hy (40 * (a : Int) + (j : Int)) (a : Int) me.toInt ((st.length : Int) + 2) (i : Int) (N : Int) (z : Int) (by omega) (by omega) (by omega) (by omega) me.le_toInt me.toInt_le (by omega) (by omega) (by omega) (by omega) (by omega) (by omega) (by omega) (by omega) (by omega) (by omega) (q40 hj) kl' kz' ks_9 kp_9 kp2 l0 l1 l2 l3 l4 (go' false ec)
          · exact mkJ110 c hM (by omega) hy (40 * (a : Int) + (j : Int)) (a : Int) me.toInt ((st.length : Int) + 2) (i : Int) (N : Int) (z : Int) (by omega) (by omega) (by omega) (by omega) me.le_toInt me.toInt_le (by omega) (by omega) (by omega) (by omega) (by omega) (by omega) (by omega) (by omega) (by omega) (by omega) (q40 hj) kl' kz' ks_9 kp_9 kp2 l0 l1 l2 l3 l4 (go' false ec)
          · exact mkJ111 c hM (by omega) hy (40 * (a : Int) + (j : Int)) (a : Int) me.toInt ((st.length : Int) + 2) (i : Int) (N : Int) (z : Int) (by omega) (by omega) (by omega) (by omega) me.le_toInt me.toInt_le (by omega) (by omega) (by omega) (by omega) (by omega) (by omega) (by omega) (by omega) (by omega) (by omega) (q40 hj) kl' kz' ks_9 kp_9 kp2 l0 l1 l2 l3 l4 (go' true ec)
        by_cases s6_9 : s_9 = -2
        · rw [s6_9] at ks_9
          have e1_9 : qv_r1 (fun i => btq_b me i) (p_9 :: p2_9 :: st) s_9 = (p2_9 || p_9) :: st := by
            unfold qv_r1
            rw [if_neg s0_9, if_neg s3_9, if_neg (by omega), if_pos s6_9]
            rfl
          rw [e1_9] at ec
          cases p2_9 <;> cases p_9
          · exact mkJ200 c hM (by omega) hy (40 * (a : Int) + (j : Int)) (a : Int) me.toInt ((st.length : Int) + 2) (i : Int) (N : Int) (z : Int) (by omega) (by omega) (by omega) (by omega) me.le_toInt me.toInt_le (by omega) (by omega) (by omega) (by omega) (by omega) (by omega) (by omega) (by omega) (by omega) (by omega) (q40 hj) kl' kz' ks_9 kp_9 kp2 l0 l1 l2 l3 l4 (go' false ec)
          · exact mkJ201 c hM (by omega) hy (40 * (a : Int) + (j : Int)) (a : Int) me.toInt ((st.length : Int) + 2) (i : Int) (N : Int) (z : Int) (by omega) (by omega) (by omega) (by omega) me.le_toInt me.toInt_le (by omega) (by omega) (by omega) (by omega) (by omega) (by omega) (by omega) (by omega) (by omega) (by omega) (q40 hj) kl' kz' ks_9 kp_9 kp2 l0 l1 l2 l3 l4 (go' true ec)
          · exact mkJ210 c hM (by omega) hy (40 * (a : Int) + (j : Int)) (a : Int) me.toInt ((st.length : Int) + 2) (i : Int) (N : Int) (z : Int) (by omega) (by omega) (by omega) (by omega) me.le_toInt me.toInt_le (by omega) (by omega) (by omega) (by omega) (by omega) (by omega) (by omega) (by omega) (by omega) (by omega) (q40 hj) kl' kz' ks_9 kp_9 kp2 l0 l1 l2 l3 l4 (go' true ec)
          · exact mkJ211 c hM (by omega) hy (40 * (a : Int) + (j : Int)) (a : Int) me.toInt ((st.length : Int) + 2) (i : Int) (N : Int) (z : Int) (by omega) (by omega) (by omega) (by omega) me.le_toInt me.toInt_le (by omega) (by omega) (by omega) (by omega) (by omega) (by omega) (by omega) (by omega) (by omega) (by omega) (q40 hj) kl' kz' ks_9 kp_9 kp2 l0 l1 l2 l3 l4 (go' true ec)
        by_cases s8 : s_9 = -4
        · rw [s8] at ks_9
          have e1_9 : qv_r1 (fun i => btq_b me i) (p_9 :: p2_9 :: st) s_9 = (p2_9 && !p_9) :: st := by
            unfold qv_r1
            rw [if_neg s0_9, if_neg s3_9, if_neg (by omega), if_neg (by omega)]
            rfl
          rw [e1_9] at ec
          cases p2_9 <;> cases p_9
          · exact mkJ400 c hM (by omega) hy (40 * (a : Int) + (j : Int)) (a : Int) me.toInt ((st.length : Int) + 2) (i : Int) (N : Int) (z : Int) (by omega) (by omega) (by omega) (by omega) me.le_toInt me.toInt_le (by omega) (by omega) (by omega) (by omega) (by omega) (by omega) (by omega) (by omega) (by omega) (by omega) (q40 hj) kl' kz' ks_9 kp_9 kp2 l0 l1 l2 l3 l4 (go' false ec)
          · exact mkJ401 c hM (by omega) hy (40 * (a : Int) + (j : Int)) (a : Int) me.toInt ((st.length : Int) + 2) (i : Int) (N : Int) (z : Int) (by omega) (by omega) (by omega) (by omega) me.le_toInt me.toInt_le (by omega) (by omega) (by omega) (by omega) (by omega) (by omega) (by omega) (by omega) (by omega) (by omega) (q40 hj) kl' kz' ks_9 kp_9 kp2 l0 l1 l2 l3 l4 (go' false ec)
          · exact mkJ410 c hM (by omega) hy (40 * (a : Int) + (j : Int)) (a : Int) me.toInt ((st.length : Int) + 2) (i : Int) (N : Int) (z : Int) (by omega) (by omega) (by omega) (by omega) me.le_toInt me.toInt_le (by omega) (by omega) (by omega) (by omega) (by omega) (by omega) (by omega) (by omega) (by omega) (by omega) (q40 hj) kl' kz' ks_9 kp_9 kp2 l0 l1 l2 l3 l4 (go' true ec)
          · exact mkJ411 c hM (by omega) hy (40 * (a : Int) + (j : Int)) (a : Int) me.toInt ((st.length : Int) + 2) (i : Int) (N : Int) (z : Int) (by omega) (by omega) (by omega) (by omega) me.le_toInt me.toInt_le (by omega) (by omega) (by omega) (by omega) (by omega) (by omega) (by omega) (by omega) (by omega) (by omega) (q40 hj) kl' kz' ks_9 kp_9 kp2 l0 l1 l2 l3 l4 (go' false ec)
        omega
/-- a deed's steps and what they are worth -/
def dSt (S : List Int) (bv : (Nat → Bool) → Bool) (m : Nat) : Prop := (∀ k, qe S k = some (k + 1)) ∧ qn S = m ∧ m ≤ 20 ∧ ∀ (met : Nat → Bool) (st : List Bool), qv_r met S st = bv met :: st
/-- isMade -/
theorem mk_run9 {cst : am_K} {strs : List Nat} {D : Nat} {h0 : am_H} (cc : ∀ d_9, hp_C cst strs d_9) (hD : 1 ≤ D) (hy : ly_hy m_tt ly_TH h0) {S : List Int} {bv : (Nat → Bool) → Bool} {m : Nat} (H : dSt S bv m) {a j : Nat} (a30 : a < 30) (hj : j < 40) {z : Nat} (kl : ly_hv cst h0 25088 (40 * (a : Int) + (j : Int)) = some (S.length : Int)) (kz : ly_hv cst h0 24832 (40 * (a : Int) + (j : Int)) = some (z : Int)) (zN : z + S.length ≤ 820) (row : fn_N cst h0 26880 (820 * (a : Int) + (z : Int)) S) {xc me : Int32} (ec : xc.toInt = 40 * (a : Int) + (j : Int)) :
    ∃ r_9, am_Run cst m_cl m_tt m_P strs sx_bi (D + 1) 332 [.ref 94, .int xc, .int me] h0 r_9 ∧ (fun r_9 : am_Q => ∃ w_9 : Int32, r_9.1 = some (.int w_9) ∧ r_9.2.2.1 = 0 ∧ r_9.2.2.2 = 0 ∧ ly_hy m_tt ly_TH r_9.2.1 ∧ ly_fr cst [28160] h0 r_9.2.1 ∧ w_9.toInt = bif bv (fun i_9 => btq_b me i_9) then 1 else 0) r_9 := by
  obtain ⟨M_9, hM_9, hl⟩ := hp_M (mi := 332) (k := 3) (by decide +kernel)
  have c_9 : hp_C cst strs D := cc _
  obtain ⟨d1_9, d2_9, d3_9, d4_9⟩ := H
  have go_9 : hp_F cst strs (fun r_9 : am_Q => ∃ w_9 : Int32, r_9.1 = some (.int w_9) ∧ r_9.2.2.1 = 0 ∧ r_9.2.2.2 = 0 ∧ ly_hy m_tt ly_TH r_9.2.1 ∧ ly_fr cst [28160] h0 r_9.2.1 ∧ w_9.toInt = bif bv (fun i_9 => btq_b me i_9) then 1 else 0) D M_9 0 (lv_args 0 [.ref 94, .int xc, .int me]) [] h0 := mk0 c_9 hM_9 (by omega) hy (40 * (a : Int) + (j : Int)) me.toInt (by omega) (by omega) me.le_toInt me.toInt_le rfl ⟨xc, rfl, ec⟩ ⟨me, rfl, rfl⟩ (fun l1 h1 u1_9 u2_9 u3 m0_9 m1_9 m2_9 m3_9 m4_9 => mk_lp9 cc hM_9 hD a30 hj kl kz zN S h1 l1 0 [] (by omega) (by show 0 + qn S ≤ 20; omega) (d1_9 0) (d4_9 _ _) (fun k hk => by rw [Nat.zero_add]; exact row k hk) u1_9 (hp_sub2 rfl u2_9) (fun k hk => absurd hk (Nat.not_lt_zero _)) m0_9 m1_9 m2_9 m3_9 m4_9)
  obtain ⟨n', r_9, hgo, w_9, r1_9, r2, r3, r4⟩ := go_9
  simp only [Nat.zero_add] at r2 r3
  exact ⟨r_9, Or.inr ⟨M_9, n', hM_9, hl, hgo⟩, w_9, r1_9, r2, r3, r4⟩
set_option maxRecDepth 8000 in
theorem lf_lp {cst : am_K} {strs : List Nat} {D : Nat} {M : am_M} {h0 : am_H} (cc : ∀ d_9, hp_C cst strs d_9) (hM : m_P[331]? = some M) (hD : 1 ≤ D) {S : List Int} {bv : (Nat → Bool) → Bool} {m : Nat} (H : dSt S bv m) {a j : Nat} (a30 : a < 30) (hj : j < 40) {z : Nat} (km : ly_hv cst h0 24576 (40 * (a : Int) + (j : Int)) = some (m : Int)) (kl : ly_hv cst h0 25088 (40 * (a : Int) + (j : Int)) = some (S.length : Int)) (kz : ly_hv cst h0 24832 (40 * (a : Int) + (j : Int)) = some (z : Int)) (zN : z + S.length ≤ 820) (row : fn_N cst h0 26880 (820 * (a : Int) + (z : Int)) S) {me : Int32} (nb : bv (fun i_9 => btq_b me i_9) = false) : ∀ (F_9 : Nat) (h_9 : am_H) (l : am_L) (t_9 : Nat), t_9 + F_9 = m → lck (fun x_9 => bv (fun i_9 => btq_b x_9 i_9)) me F_9 t_9 = lck (fun x_9 => bv (fun i_9 => btq_b x_9 i_9)) me m 0 → ly_hy m_tt ly_TH h_9 → ly_fr cst [28160] h0 h_9 → hp_a l 0 94 → hp_i l 1 (40 * (a : Int) + (j : Int)) → hp_i l 2 me.toInt → hp_i l 3 (t_9 : Int) → hp_F cst strs (fun r_9 : am_Q => ∃ w_9 : Int32, r_9.1 = some (.int w_9) ∧ r_9.2.2.1 = 0 ∧ r_9.2.2.2 = 0 ∧ ly_hy m_tt ly_TH r_9.2.1 ∧ ly_fr cst [28160] h0 r_9.2.1 ∧ w_9.toInt = lcks (fun x_9 => bv (fun i_9 => btq_b x_9 i_9)) me m) (D + 1) M 13 l [] h_9 := by
  have c' : hp_C cst strs (D + 1) := cc _
  have m20 := H.2.2.1
  have ek : ∀ v_9, v_9 = lck (fun x_9 => bv (fun i_9 => btq_b x_9 i_9)) me m 0 → v_9 = lcks (fun x_9 => bv (fun i_9 => btq_b x_9 i_9)) me m := fun v_9 e_9 => by
    unfold lcks
    rw [if_neg (fun z => by
      have z : bv (fun i_9 => btq_b me i_9) = true := z
      rw [nb] at z
      cases z)]
    exact e_9
  intro F_9
  induction F_9 with
  | zero =>
    intro h_9 l t_9 et el hy fr_9 l0 l1 l2 l3
    have et : t_9 = m := et
    rw [et] at l3
    exact lf3 c' hM (by omega) hy (40 * (a : Int) + (j : Int)) me.toInt (m : Int) (by omega) (by omega) me.le_toInt me.toInt_le (by omega) (by omega) (fr_9 _ _ _ rfl km) l0 l1 l2 l3 (fun h2 w_9 hw u1_9 u2_9 u3 => ⟨w_9, rfl, rfl, rfl, u1_9, ly_fr_tr fr_9 (hp_sub2 rfl u2_9), ek _ (by rw [hw]; exact el)⟩)
  | succ F_9 ih_9 =>
    intro h_9 l t_9 et el hy fr_9 l0 l1 l2 l3
    refine lf4 c' hM (by omega) hy (40 * (a : Int) + (j : Int)) me.toInt (t_9 : Int) (m : Int) (by omega) (by omega) me.le_toInt me.toInt_le (by omega) (by omega) (by omega) (by omega) (by omega) (fr_9 _ _ _ rfl km) l0 l1 l2 l3 (fun l3' h3 b0 b1 b2 b3 eb0 eb1 eb2 eb3 x1_9 x2_9 x3 p0_9 p1_9 p2_9 p3_9 => ?_)
    have em2 : b2 = me := Int32.toInt_inj.mp eb2
    have em1 : b1 = 1 := Int32.toInt_inj.mp (show b1.toInt = (1 : Int32).toInt from eb1)
    rw [em2, em1]
    refine btq_ishl hM (by decide +kernel) ?_
    refine btq_ixor hM (by decide +kernel) ?_
    have F3 : ly_fr cst [28160] h0 h3 := ly_fr_tr fr_9 (hp_sub2 rfl x2_9)
    obtain ⟨r_9, hrun, w_9, r1_9, r2, r3, rhy, rfr, ew⟩ := mk_run9 (D := D) cc hD x1_9 H a30 hj (F3 _ _ _ rfl kl) (F3 _ _ _ rfl kz) zN (fn_mv row F3 rfl) (xc := b3) (me := me ^^^ ((1 : Int32) <<< (b0 &&& 31))) eb3
    refine hp_call (mi := 331) (pc := 30) (tg := 332) (na := 3) (c := 78) (ci := 12) (st0 := [.int (me ^^^ ((1 : Int32) <<< (b0 &&& 31))), .int b3, .ref 94]) (st := []) (av := [.int b3, .int (me ^^^ ((1 : Int32) <<< (b0 &&& 31)))]) hM (by decide +kernel) x1_9 rfl rfl rfl (by decide) hrun r2 r3 ?_
    rw [r1_9]
    have F4 : ly_fr cst [28160] h0 r_9.2.1 := ly_fr_tr F3 rfr
    have eo : b0 = Int32.ofNat t_9 := btq_k eb0 (by omega)
    rw [eo] at ew
    have el : (if bv (fun i_9 => btq_b (me ^^^ ((1 : Int32) <<< (Int32.ofNat t_9 &&& 31))) i_9) = true then (t_9 : Int) else lck (fun x_9 => bv (fun i_9 => btq_b x_9 i_9)) me F_9 (t_9 + 1)) = lck (fun x_9 => bv (fun i_9 => btq_b x_9 i_9)) me m 0 := el
    cases eb : bv (fun i_9 => btq_b (me ^^^ ((1 : Int32) <<< (Int32.ofNat t_9 &&& 31))) i_9)
    · rw [eb] at ew el
      rw [if_neg (by decide)] at el
      exact lf6 c' hM (by omega) rhy (40 * (a : Int) + (j : Int)) me.toInt (t_9 : Int) w_9 ew (by omega) (by omega) me.le_toInt me.toInt_le (by omega) (by omega) p0_9 p1_9 p2_9 p3_9 (fun l5 h5 y1 y2 y3 q0 q1_9 q2_9 q3_9 => ih_9 h5 l5 (t_9 + 1) (by omega) el y1 (ly_fr_tr F4 (hp_sub2 rfl y2)) q0 q1_9 q2_9 (by rw [show (((t_9 + 1 : Nat)) : Int) = (t_9 : Int) + 1 by omega]; exact q3_9))
    · rw [eb] at ew el
      rw [if_pos rfl] at el
      exact lf5 c' hM (by omega) rhy (40 * (a : Int) + (j : Int)) me.toInt (t_9 : Int) w_9 ew (by omega) (by omega) me.le_toInt me.toInt_le (by omega) (by omega) p0_9 p1_9 p2_9 p3_9 (fun h5 v_9 hv y1 y2 y3 => ⟨v_9, rfl, rfl, rfl, y1, ly_fr_tr F4 (hp_sub2 rfl y2), ek _ (by rw [hv]; exact el)⟩)
/-- lackOf -/
theorem lf_run {cst : am_K} {strs : List Nat} {D : Nat} {h0 : am_H} (cc : ∀ d_9, hp_C cst strs d_9) (hD : 1 ≤ D) (hy : ly_hy m_tt ly_TH h0) {S : List Int} {bv : (Nat → Bool) → Bool} {m : Nat} (H : dSt S bv m) {a j : Nat} (a30 : a < 30) (hj : j < 40) {z : Nat} (km : ly_hv cst h0 24576 (40 * (a : Int) + (j : Int)) = some (m : Int)) (kl : ly_hv cst h0 25088 (40 * (a : Int) + (j : Int)) = some (S.length : Int)) (kz : ly_hv cst h0 24832 (40 * (a : Int) + (j : Int)) = some (z : Int)) (zN : z + S.length ≤ 820) (row : fn_N cst h0 26880 (820 * (a : Int) + (z : Int)) S) {xc me : Int32} (ec : xc.toInt = 40 * (a : Int) + (j : Int)) :
    ∃ r_9, am_Run cst m_cl m_tt m_P strs sx_bi (D + 2) 331 [.ref 94, .int xc, .int me] h0 r_9 ∧ (fun r_9 : am_Q => ∃ w_9 : Int32, r_9.1 = some (.int w_9) ∧ r_9.2.2.1 = 0 ∧ r_9.2.2.2 = 0 ∧ ly_hy m_tt ly_TH r_9.2.1 ∧ ly_fr cst [28160] h0 r_9.2.1 ∧ w_9.toInt = lcks (fun x_9 => bv (fun i_9 => btq_b x_9 i_9)) me m) r_9 := by
  obtain ⟨M_9, hM_9, hl⟩ := hp_M (mi := 331) (k := 3) (by decide +kernel)
  have c' : hp_C cst strs (D + 1) := cc _
  have go_9 : hp_F cst strs (fun r_9 : am_Q => ∃ w_9 : Int32, r_9.1 = some (.int w_9) ∧ r_9.2.2.1 = 0 ∧ r_9.2.2.2 = 0 ∧ ly_hy m_tt ly_TH r_9.2.1 ∧ ly_fr cst [28160] h0 r_9.2.1 ∧ w_9.toInt = lcks (fun x_9 => bv (fun i_9 => btq_b x_9 i_9)) me m) (D + 1) M_9 0 (lv_args 0 [.ref 94, .int xc, .int me]) [] h0 := by
    refine lf0 c' hM_9 (by omega) hy (40 * (a : Int) + (j : Int)) me.toInt (by omega) (by omega) me.le_toInt me.toInt_le rfl ⟨xc, rfl, ec⟩ ⟨me, rfl, rfl⟩ (fun l1 h1 b0 b1 eb0 eb1 u1_9 u2_9 u3 p0_9 p1_9 p2_9 => ?_)
    have em0 : b0 = me := Int32.toInt_inj.mp eb0
    rw [em0]
    obtain ⟨r_9, hrun, w_9, r1_9, r2, r3, rhy, rfr, ew⟩ := mk_run9 (D := D) cc hD u1_9 H a30 hj (u2_9 _ _ _ rfl kl) (u2_9 _ _ _ rfl kz) zN (fn_mv row u2_9 rfl) (xc := b1) (me := me) eb1
    refine hp_call (mi := 331) (pc := 3) (tg := 332) (na := 3) (c := 78) (ci := 12) (st0 := [.int me, .int b1, .ref 94]) (st := []) (av := [.int b1, .int me]) hM_9 (by decide +kernel) u1_9 rfl rfl rfl (by decide) hrun r2 r3 ?_
    rw [r1_9]
    have F2 : ly_fr cst [28160] h0 r_9.2.1 := ly_fr_tr (hp_sub2 rfl u2_9) rfr
    cases eb : bv (fun i_9 => btq_b me i_9)
    · rw [eb] at ew
      exact lf2 c' hM_9 (by omega) rhy (40 * (a : Int) + (j : Int)) me.toInt w_9 ew (by omega) (by omega) me.le_toInt me.toInt_le p0_9 p1_9 p2_9 (fun l5 h5 y1 y2 y3 q0 q1_9 q2_9 q3_9 => lf_lp cc hM_9 hD H a30 hj km kl kz zN row eb m h5 l5 0 (by omega) rfl y1 (ly_fr_tr F2 (hp_sub2 rfl y2)) q0 q1_9 q2_9 q3_9)
    · rw [eb] at ew
      exact lf1 c' hM_9 (by omega) rhy (40 * (a : Int) + (j : Int)) me.toInt w_9 ew (by omega) (by omega) me.le_toInt me.toInt_le p0_9 p1_9 p2_9 (fun h5 v_9 hv y1 y2 y3 => ⟨v_9, rfl, rfl, rfl, y1, ly_fr_tr F2 (hp_sub2 rfl y2), by
        rw [hv]
        unfold lcks
        rw [if_pos eb]⟩)
  obtain ⟨n', r_9, hgo, w_9, r1_9, r2, r3, r4⟩ := go_9
  simp only [Nat.zero_add] at r2 r3
  exact ⟨r_9, Or.inr ⟨M_9, n', hM_9, hl, hgo⟩, w_9, r1_9, r2, r3, r4⟩
