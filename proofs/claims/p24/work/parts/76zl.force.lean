/-! PRINTED by wip/p2/hp_force.py: the clause in force, of the class -/
theorem sj0_k : hp_chk 57 0 4 [(0, 0, 29), (1, (-9223372036854775808), 9223372036854775807), (2, (-2147483648), 2147483647), (3, 0, 1240)] [] [(0, .inr (.inr (.inl (some 30)))), (1, .inl (0, [(0, 1)])), (2, .inr (.inl (0, [(1, 1)]))), (4, .inl (0, [(2, 1)]))] [] [(4352, (1, [(0, 1)]), (0, [(3, 1)]))] [] 2 [(10, ([], 4, [(0, 0, 29), (1, (-9223372036854775808), 9223372036854775807), (2, (-2147483648), 2147483647), (3, 0, 1240)], [], [(0, .inr (.inr (.inl (some 30)))), (1, .inl (0, [(0, 1)])), (2, .inr (.inl (0, [(1, 1)]))), (4, .inl (0, [(2, 1)])), (5, .inl (0, [(3, 1)]))], [], []))] [] = true := by decide +kernel
theorem sj0 {cst : am_K} {strs : List Nat} {Φ : am_Q → Prop} {D : Nat} {M : am_M} {h : am_H} {l : am_L} (c : hp_C cst strs D) (hM : m_P[57]? = some M) (hD : (2 : Int) ≤ (D : Int) + 1) (hy : ly_hy m_tt ly_TH h) (a d b f : Int) (b0 : 0 ≤ a) (t0 : a ≤ 29) (b1 : (-9223372036854775808) ≤ d) (t1 : d ≤ 9223372036854775807) (b2 : (-2147483648) ≤ b) (t2 : b ≤ 2147483647) (b3 : 0 ≤ f) (t3 : f ≤ 1240) (k0 : ly_hv cst h 4352 (a + 1) = some (f)) (l0 : hp_a l 0 30) (l1 : hp_i l 1 (a)) (l2 : hp_j l 2 (d)) (l4 : hp_i l 4 (b)) (e0 : ∀ (l' : am_L) (h' : am_H), ly_hy m_tt ly_TH h' → ly_fr cst [] h h' → h.length ≤ h'.length → hp_a l' 0 30 → hp_i l' 1 (a) → hp_j l' 2 (d) → hp_i l' 4 (b) → hp_i l' 5 (f) → hp_F cst strs Φ D M 10 l' [] h') : hp_F cst strs Φ D M 0 l [] h := by
  refine hp_arc c hM sj0_k hD [a, d, b, f] rfl hy (hp_Bc (z := a) rfl b0 t0 (hp_Bc (z := d) rfl b1 t1 (hp_Bc (z := b) rfl b2 t2 (hp_Bc (z := f) rfl b3 t3 hp_Bn)))) hp_Fn (hp_Kc (zi := (1 + (1 * a + 0))) (zv := (0 + (1 * f + 0))) k0 rfl rfl (by omega) (by omega) hp_Kn) (hp_La l0 (hp_Li (z := (0 + (1 * a + 0))) l1 rfl (by omega) (hp_Lj (z := (0 + (1 * d + 0))) l2 rfl (by omega) (hp_Li (z := (0 + (1 * b + 0))) l4 rfl (by omega) hp_Ln)))) trivial ?_ ?_
  · intro p_9 hp ys l' st' h' hys a1_9 a2 a3 gZ gL gS
    rcases List.mem_cons.mp hp with rfl | hp
    · obtain rfl := hp_y0 hys
      cases hp_gSn gS
      exact e0 l' h' a1_9 a2 a3 (hp_gLa gL (List.mem_of_getElem? (i := 0) rfl) (by decide)) (hp_gLi (z := (0 + (1 * a + 0))) gL (List.mem_of_getElem? (i := 1) rfl) rfl (by omega)) (hp_gLj (z := (0 + (1 * d + 0))) gL (List.mem_of_getElem? (i := 2) rfl) rfl (by omega)) (hp_gLi (z := (0 + (1 * b + 0))) gL (List.mem_of_getElem? (i := 3) rfl) rfl (by omega)) (hp_gLi (z := (0 + (1 * f + 0))) gL (List.mem_of_getElem? (i := 4) rfl) rfl (by omega))
    cases hp
  · intro p_9 hp ys v_9 h' hys a1_9 a2 a3 gZ gS
    cases hp
theorem sjA_k : hp_chk 57 10 5 [(0, 0, 29), (1, (-9223372036854775808), 9223372036854775807), (2, (-2147483648), 2147483647), (3, 0, 30), (4, 0, 1240)] [] [(0, .inr (.inr (.inl (some 30)))), (1, .inl (0, [(0, 1)])), (2, .inr (.inl (0, [(1, 1)]))), (4, .inl (0, [(2, 1)])), (5, .inl (0, [(4, 1)]))] [] [(3584, (0, []), (0, [(3, 1)])), (4352, (0, [(3, 1)]), (0, [(4, 1)]))] [] 2 [] [([], 5, [(0, 0, 29), (1, (-9223372036854775808), 9223372036854775807), (2, (-2147483648), 2147483647), (3, 0, 30), (4, 0, 1240)], [], [], [.inl (0, [])], [])] = true := by decide +kernel
theorem sjA {cst : am_K} {strs : List Nat} {Φ : am_Q → Prop} {D : Nat} {M : am_M} {h : am_H} {l : am_L} (c : hp_C cst strs D) (hM : m_P[57]? = some M) (hD : (2 : Int) ≤ (D : Int) + 1) (hy : ly_hy m_tt ly_TH h) (a d b n e : Int) (b0 : 0 ≤ a) (t0 : a ≤ 29) (b1 : (-9223372036854775808) ≤ d) (t1 : d ≤ 9223372036854775807) (b2 : (-2147483648) ≤ b) (t2 : b ≤ 2147483647) (b3 : 0 ≤ n) (t3 : n ≤ 30) (b4 : 0 ≤ e) (t4 : e ≤ 1240) (k0 : ly_hv cst h 3584 0 = some (n)) (k1 : ly_hv cst h 4352 (n) = some (e)) (l0 : hp_a l 0 30) (l1 : hp_i l 1 (a)) (l2 : hp_j l 2 (d)) (l4 : hp_i l 4 (b)) (l5 : hp_i l 5 (e)) (r0 : ∀ (h' : am_H) (y0 : Int32), y0.toInt = 0 → ly_hy m_tt ly_TH h' → ly_fr cst [] h h' → h.length ≤ h'.length → Φ (some (.int y0), h', 0, 0)) : hp_F cst strs Φ D M 10 l [] h := by
  refine hp_arc c hM sjA_k hD [a, d, b, n, e] rfl hy (hp_Bc (z := a) rfl b0 t0 (hp_Bc (z := d) rfl b1 t1 (hp_Bc (z := b) rfl b2 t2 (hp_Bc (z := n) rfl b3 t3 (hp_Bc (z := e) rfl b4 t4 hp_Bn))))) hp_Fn (hp_Kc (zi := (0 + 0)) (zv := (0 + (1 * n + 0))) k0 rfl rfl (by omega) (by omega) (hp_Kc (zi := (0 + (1 * n + 0))) (zv := (0 + (1 * e + 0))) k1 rfl rfl (by omega) (by omega) hp_Kn)) (hp_La l0 (hp_Li (z := (0 + (1 * a + 0))) l1 rfl (by omega) (hp_Lj (z := (0 + (1 * d + 0))) l2 rfl (by omega) (hp_Li (z := (0 + (1 * b + 0))) l4 rfl (by omega) (hp_Li (z := (0 + (1 * e + 0))) l5 rfl (by omega) hp_Ln))))) trivial ?_ ?_
  · intro p_9 hp ys l' st' h' hys a1_9 a2 a3 gZ gL gS
    cases hp
  · intro p_9 hp ys v_9 h' hys a1_9 a2 a3 gZ gS
    rcases List.mem_cons.mp hp with rfl | hp
    · obtain rfl := hp_y0 hys
      cases v_9 with
      | none => cases gS
      | some wz =>
        obtain ⟨y0, t0, s0_9, q0, -⟩ := hp_gSi (z := (0 + 0)) gS rfl
        cases s0_9
        exact r0 h' y0 (by omega) a1_9 a2 a3
    cases hp
theorem sjB_k : hp_chk 57 10 7 [(0, 0, 29), (1, (-9223372036854775808), 9223372036854775807), (2, (-2147483648), 2147483647), (3, 0, 30), (4, 0, 1240), (5, 0, 1239), (6, (-2147483648), 2147483647)] [((-1), [(4, 1), (5, (-1))])] [(0, .inr (.inr (.inl (some 30)))), (1, .inl (0, [(0, 1)])), (2, .inr (.inl (0, [(1, 1)]))), (4, .inl (0, [(2, 1)])), (5, .inl (0, [(5, 1)]))] [] [(3584, (0, []), (0, [(3, 1)])), (4352, (0, [(3, 1)]), (0, [(4, 1)])), (4608, (0, [(5, 1)]), (0, [(6, 1)])), (61000, ((-14), [(6, 1)]), (1, []))] [] 2 [(10, ([], 7, [(0, 0, 29), (1, (-9223372036854775808), 9223372036854775807), (2, (-2147483648), 2147483647), (3, 0, 30), (4, 0, 1240), (5, 0, 1239), (6, (-2147483648), 2147483647)], [], [(0, .inr (.inr (.inl (some 30)))), (1, .inl (0, [(0, 1)])), (2, .inr (.inl (0, [(1, 1)]))), (4, .inl (0, [(2, 1)])), (5, .inl (1, [(5, 1)]))], [], []))] [] = true := by decide +kernel
theorem sjB {cst : am_K} {strs : List Nat} {Φ : am_Q → Prop} {D : Nat} {M : am_M} {h : am_H} {l : am_L} (c : hp_C cst strs D) (hM : m_P[57]? = some M) (hD : (2 : Int) ≤ (D : Int) + 1) (hy : ly_hy m_tt ly_TH h) (a d b n e cc x : Int) (b0 : 0 ≤ a) (t0 : a ≤ 29) (b1 : (-9223372036854775808) ≤ d) (t1 : d ≤ 9223372036854775807) (b2 : (-2147483648) ≤ b) (t2 : b ≤ 2147483647) (b3 : 0 ≤ n) (t3 : n ≤ 30) (b4 : 0 ≤ e) (t4 : e ≤ 1240) (b5 : 0 ≤ cc) (t5 : cc ≤ 1239) (b6 : (-2147483648) ≤ x) (t6 : x ≤ 2147483647) (f0 : 0 ≤ (e - cc - 1)) (k0 : ly_hv cst h 3584 0 = some (n)) (k1 : ly_hv cst h 4352 (n) = some (e)) (k2 : ly_hv cst h 4608 (cc) = some (x)) (k3 : ly_hv cst h 61000 (x - 14) = some 1) (l0 : hp_a l 0 30) (l1 : hp_i l 1 (a)) (l2 : hp_j l 2 (d)) (l4 : hp_i l 4 (b)) (l5 : hp_i l 5 (cc)) (e0 : ∀ (l' : am_L) (h' : am_H), ly_hy m_tt ly_TH h' → ly_fr cst [] h h' → h.length ≤ h'.length → hp_a l' 0 30 → hp_i l' 1 (a) → hp_j l' 2 (d) → hp_i l' 4 (b) → hp_i l' 5 (cc + 1) → hp_F cst strs Φ D M 10 l' [] h') : hp_F cst strs Φ D M 10 l [] h := by
  refine hp_arc c hM sjB_k hD [a, d, b, n, e, cc, x] rfl hy (hp_Bc (z := a) rfl b0 t0 (hp_Bc (z := d) rfl b1 t1 (hp_Bc (z := b) rfl b2 t2 (hp_Bc (z := n) rfl b3 t3 (hp_Bc (z := e) rfl b4 t4 (hp_Bc (z := cc) rfl b5 t5 (hp_Bc (z := x) rfl b6 t6 hp_Bn))))))) (hp_Fc (z := ((-1) + (1 * e + ((-1) * cc + 0)))) rfl (by omega) hp_Fn) (hp_Kc (zi := (0 + 0)) (zv := (0 + (1 * n + 0))) k0 rfl rfl (by omega) (by omega) (hp_Kc (zi := (0 + (1 * n + 0))) (zv := (0 + (1 * e + 0))) k1 rfl rfl (by omega) (by omega) (hp_Kc (zi := (0 + (1 * cc + 0))) (zv := (0 + (1 * x + 0))) k2 rfl rfl (by omega) (by omega) (hp_Kc (zi := ((-14) + (1 * x + 0))) (zv := (1 + 0)) k3 rfl rfl (by omega) (by omega) hp_Kn)))) (hp_La l0 (hp_Li (z := (0 + (1 * a + 0))) l1 rfl (by omega) (hp_Lj (z := (0 + (1 * d + 0))) l2 rfl (by omega) (hp_Li (z := (0 + (1 * b + 0))) l4 rfl (by omega) (hp_Li (z := (0 + (1 * cc + 0))) l5 rfl (by omega) hp_Ln))))) trivial ?_ ?_
  · intro p_9 hp ys l' st' h' hys a1_9 a2 a3 gZ gL gS
    rcases List.mem_cons.mp hp with rfl | hp
    · obtain rfl := hp_y0 hys
      cases hp_gSn gS
      exact e0 l' h' a1_9 a2 a3 (hp_gLa gL (List.mem_of_getElem? (i := 0) rfl) (by decide)) (hp_gLi (z := (0 + (1 * a + 0))) gL (List.mem_of_getElem? (i := 1) rfl) rfl (by omega)) (hp_gLj (z := (0 + (1 * d + 0))) gL (List.mem_of_getElem? (i := 2) rfl) rfl (by omega)) (hp_gLi (z := (0 + (1 * b + 0))) gL (List.mem_of_getElem? (i := 3) rfl) rfl (by omega)) (hp_gLi (z := (1 + (1 * cc + 0))) gL (List.mem_of_getElem? (i := 4) rfl) rfl (by omega))
    cases hp
  · intro p_9 hp ys v_9 h' hys a1_9 a2 a3 gZ gS
    cases hp
theorem sjC_k : hp_chk 57 10 7 [(0, 0, 29), (1, (-9223372036854775808), 9223372036854775807), (2, (-2147483648), 2147483647), (3, 0, 30), (4, 0, 1240), (5, 0, 1239), (6, (-2147483648), 2147483647)] [((-1), [(4, 1), (5, (-1))])] [(0, .inr (.inr (.inl (some 30)))), (1, .inl (0, [(0, 1)])), (2, .inr (.inl (0, [(1, 1)]))), (4, .inl (0, [(2, 1)])), (5, .inl (0, [(5, 1)]))] [] [(3584, (0, []), (0, [(3, 1)])), (4352, (0, [(3, 1)]), (0, [(4, 1)])), (4608, (0, [(5, 1)]), (14, [])), (5120, (0, [(5, 1)]), (0, [(6, 1)])), (61000, (0, [(0, (-1)), (6, 1)]), (1, []))] [] 2 [(10, ([], 7, [(0, 0, 29), (1, (-9223372036854775808), 9223372036854775807), (2, (-2147483648), 2147483647), (3, 0, 30), (4, 0, 1240), (5, 0, 1239), (6, (-2147483648), 2147483647)], [], [(0, .inr (.inr (.inl (some 30)))), (1, .inl (0, [(0, 1)])), (2, .inr (.inl (0, [(1, 1)]))), (4, .inl (0, [(2, 1)])), (5, .inl (1, [(5, 1)]))], [], []))] [] = true := by decide +kernel
theorem sjC {cst : am_K} {strs : List Nat} {Φ : am_Q → Prop} {D : Nat} {M : am_M} {h : am_H} {l : am_L} (c : hp_C cst strs D) (hM : m_P[57]? = some M) (hD : (2 : Int) ≤ (D : Int) + 1) (hy : ly_hy m_tt ly_TH h) (a d b n e cc y : Int) (b0 : 0 ≤ a) (t0 : a ≤ 29) (b1 : (-9223372036854775808) ≤ d) (t1 : d ≤ 9223372036854775807) (b2 : (-2147483648) ≤ b) (t2 : b ≤ 2147483647) (b3 : 0 ≤ n) (t3 : n ≤ 30) (b4 : 0 ≤ e) (t4 : e ≤ 1240) (b5 : 0 ≤ cc) (t5 : cc ≤ 1239) (b6 : (-2147483648) ≤ y) (t6 : y ≤ 2147483647) (f0 : 0 ≤ (e - cc - 1)) (k0 : ly_hv cst h 3584 0 = some (n)) (k1 : ly_hv cst h 4352 (n) = some (e)) (k2 : ly_hv cst h 4608 (cc) = some 14) (k3 : ly_hv cst h 5120 (cc) = some (y)) (k4 : ly_hv cst h 61000 (y - a) = some 1) (l0 : hp_a l 0 30) (l1 : hp_i l 1 (a)) (l2 : hp_j l 2 (d)) (l4 : hp_i l 4 (b)) (l5 : hp_i l 5 (cc)) (e0 : ∀ (l' : am_L) (h' : am_H), ly_hy m_tt ly_TH h' → ly_fr cst [] h h' → h.length ≤ h'.length → hp_a l' 0 30 → hp_i l' 1 (a) → hp_j l' 2 (d) → hp_i l' 4 (b) → hp_i l' 5 (cc + 1) → hp_F cst strs Φ D M 10 l' [] h') : hp_F cst strs Φ D M 10 l [] h := by
  refine hp_arc c hM sjC_k hD [a, d, b, n, e, cc, y] rfl hy (hp_Bc (z := a) rfl b0 t0 (hp_Bc (z := d) rfl b1 t1 (hp_Bc (z := b) rfl b2 t2 (hp_Bc (z := n) rfl b3 t3 (hp_Bc (z := e) rfl b4 t4 (hp_Bc (z := cc) rfl b5 t5 (hp_Bc (z := y) rfl b6 t6 hp_Bn))))))) (hp_Fc (z := ((-1) + (1 * e + ((-1) * cc + 0)))) rfl (by omega) hp_Fn) (hp_Kc (zi := (0 + 0)) (zv := (0 + (1 * n + 0))) k0 rfl rfl (by omega) (by omega) (hp_Kc (zi := (0 + (1 * n + 0))) (zv := (0 + (1 * e + 0))) k1 rfl rfl (by omega) (by omega) (hp_Kc (zi := (0 + (1 * cc + 0))) (zv := (14 + 0)) k2 rfl rfl (by omega) (by omega) (hp_Kc (zi := (0 + (1 * cc + 0))) (zv := (0 + (1 * y + 0))) k3 rfl rfl (by omega) (by omega) (hp_Kc (zi := (0 + ((-1) * a + (1 * y + 0)))) (zv := (1 + 0)) k4 rfl rfl (by omega) (by omega) hp_Kn))))) (hp_La l0 (hp_Li (z := (0 + (1 * a + 0))) l1 rfl (by omega) (hp_Lj (z := (0 + (1 * d + 0))) l2 rfl (by omega) (hp_Li (z := (0 + (1 * b + 0))) l4 rfl (by omega) (hp_Li (z := (0 + (1 * cc + 0))) l5 rfl (by omega) hp_Ln))))) trivial ?_ ?_
  · intro p_9 hp ys l' st' h' hys a1_9 a2 a3 gZ gL gS
    rcases List.mem_cons.mp hp with rfl | hp
    · obtain rfl := hp_y0 hys
      cases hp_gSn gS
      exact e0 l' h' a1_9 a2 a3 (hp_gLa gL (List.mem_of_getElem? (i := 0) rfl) (by decide)) (hp_gLi (z := (0 + (1 * a + 0))) gL (List.mem_of_getElem? (i := 1) rfl) rfl (by omega)) (hp_gLj (z := (0 + (1 * d + 0))) gL (List.mem_of_getElem? (i := 2) rfl) rfl (by omega)) (hp_gLi (z := (0 + (1 * b + 0))) gL (List.mem_of_getElem? (i := 3) rfl) rfl (by omega)) (hp_gLi (z := (1 + (1 * cc + 0))) gL (List.mem_of_getElem? (i := 4) rfl) rfl (by omega))
    cases hp
  · intro p_9 hp ys v_9 h' hys a1_9 a2 a3 gZ gS
    cases hp
theorem sjD_k : hp_chk 57 10 7 [(0, 0, 29), (1, (-9223372036854775808), 9223372036854775807), (2, (-2147483648), 2147483647), (3, 0, 30), (4, 0, 1240), (5, 0, 1239), (6, (-9223372036854775808), 9223372036854775807)] [((-1), [(4, 1), (5, (-1))])] [(0, .inr (.inr (.inl (some 30)))), (1, .inl (0, [(0, 1)])), (2, .inr (.inl (0, [(1, 1)]))), (4, .inl (0, [(2, 1)])), (5, .inl (0, [(5, 1)]))] [] [(3584, (0, []), (0, [(3, 1)])), (4352, (0, [(3, 1)]), (0, [(4, 1)])), (4608, (0, [(5, 1)]), (14, [])), (5120, (0, [(5, 1)]), (0, [(0, 1)])), (4864, (0, [(5, 1)]), (0, [(6, 1)])), (61000, (0, [(6, 1)]), (1, [])), (61000, (0, [(1, (-1)), (6, 1)]), (1, []))] [] 2 [(10, ([], 7, [(0, 0, 29), (1, (-9223372036854775808), 9223372036854775807), (2, (-2147483648), 2147483647), (3, 0, 30), (4, 0, 1240), (5, 0, 1239), (6, (-9223372036854775808), 9223372036854775807)], [], [(0, .inr (.inr (.inl (some 30)))), (1, .inl (0, [(0, 1)])), (2, .inr (.inl (0, [(1, 1)]))), (4, .inl (0, [(2, 1)])), (5, .inl (1, [(5, 1)]))], [], []))] [] = true := by decide +kernel
theorem sjD {cst : am_K} {strs : List Nat} {Φ : am_Q → Prop} {D : Nat} {M : am_M} {h : am_H} {l : am_L} (c : hp_C cst strs D) (hM : m_P[57]? = some M) (hD : (2 : Int) ≤ (D : Int) + 1) (hy : ly_hy m_tt ly_TH h) (a d b n e cc z : Int) (b0 : 0 ≤ a) (t0 : a ≤ 29) (b1 : (-9223372036854775808) ≤ d) (t1 : d ≤ 9223372036854775807) (b2 : (-2147483648) ≤ b) (t2 : b ≤ 2147483647) (b3 : 0 ≤ n) (t3 : n ≤ 30) (b4 : 0 ≤ e) (t4 : e ≤ 1240) (b5 : 0 ≤ cc) (t5 : cc ≤ 1239) (b6 : (-9223372036854775808) ≤ z) (t6 : z ≤ 9223372036854775807) (f0 : 0 ≤ (e - cc - 1)) (k0 : ly_hv cst h 3584 0 = some (n)) (k1 : ly_hv cst h 4352 (n) = some (e)) (k2 : ly_hv cst h 4608 (cc) = some 14) (k3 : ly_hv cst h 5120 (cc) = some (a)) (k4 : ly_hv cst h 4864 (cc) = some (z)) (k5 : ly_hv cst h 61000 (z) = some 1) (k6 : ly_hv cst h 61000 (z - d) = some 1) (l0 : hp_a l 0 30) (l1 : hp_i l 1 (a)) (l2 : hp_j l 2 (d)) (l4 : hp_i l 4 (b)) (l5 : hp_i l 5 (cc)) (e0 : ∀ (l' : am_L) (h' : am_H), ly_hy m_tt ly_TH h' → ly_fr cst [] h h' → h.length ≤ h'.length → hp_a l' 0 30 → hp_i l' 1 (a) → hp_j l' 2 (d) → hp_i l' 4 (b) → hp_i l' 5 (cc + 1) → hp_F cst strs Φ D M 10 l' [] h') : hp_F cst strs Φ D M 10 l [] h := by
  refine hp_arc c hM sjD_k hD [a, d, b, n, e, cc, z] rfl hy (hp_Bc (z := a) rfl b0 t0 (hp_Bc (z := d) rfl b1 t1 (hp_Bc (z := b) rfl b2 t2 (hp_Bc (z := n) rfl b3 t3 (hp_Bc (z := e) rfl b4 t4 (hp_Bc (z := cc) rfl b5 t5 (hp_Bc (z := z) rfl b6 t6 hp_Bn))))))) (hp_Fc (z := ((-1) + (1 * e + ((-1) * cc + 0)))) rfl (by omega) hp_Fn) (hp_Kc (zi := (0 + 0)) (zv := (0 + (1 * n + 0))) k0 rfl rfl (by omega) (by omega) (hp_Kc (zi := (0 + (1 * n + 0))) (zv := (0 + (1 * e + 0))) k1 rfl rfl (by omega) (by omega) (hp_Kc (zi := (0 + (1 * cc + 0))) (zv := (14 + 0)) k2 rfl rfl (by omega) (by omega) (hp_Kc (zi := (0 + (1 * cc + 0))) (zv := (0 + (1 * a + 0))) k3 rfl rfl (by omega) (by omega) (hp_Kc (zi := (0 + (1 * cc + 0))) (zv := (0 + (1 * z + 0))) k4 rfl rfl (by omega) (by omega) (hp_Kc (zi := (0 + (1 * z + 0))) (zv := (1 + 0)) k5 rfl rfl (by omega) (by omega) (hp_Kc (zi := (0 + ((-1) * d + (1 * z + 0)))) (zv := (1 + 0)) k6 rfl rfl (by omega) (by omega) hp_Kn))))))) (hp_La l0 (hp_Li (z := (0 + (1 * a + 0))) l1 rfl (by omega) (hp_Lj (z := (0 + (1 * d + 0))) l2 rfl (by omega) (hp_Li (z := (0 + (1 * b + 0))) l4 rfl (by omega) (hp_Li (z := (0 + (1 * cc + 0))) l5 rfl (by omega) hp_Ln))))) trivial ?_ ?_
  · intro p_9 hp ys l' st' h' hys a1_9 a2 a3 gZ gL gS
    rcases List.mem_cons.mp hp with rfl | hp
    · obtain rfl := hp_y0 hys
      cases hp_gSn gS
      exact e0 l' h' a1_9 a2 a3 (hp_gLa gL (List.mem_of_getElem? (i := 0) rfl) (by decide)) (hp_gLi (z := (0 + (1 * a + 0))) gL (List.mem_of_getElem? (i := 1) rfl) rfl (by omega)) (hp_gLj (z := (0 + (1 * d + 0))) gL (List.mem_of_getElem? (i := 2) rfl) rfl (by omega)) (hp_gLi (z := (0 + (1 * b + 0))) gL (List.mem_of_getElem? (i := 3) rfl) rfl (by omega)) (hp_gLi (z := (1 + (1 * cc + 0))) gL (List.mem_of_getElem? (i := 4) rfl) rfl (by omega))
    cases hp
  · intro p_9 hp ys v_9 h' hys a1_9 a2 a3 gZ gS
    cases hp
theorem sjE_k : hp_chk 57 10 7 [(0, 0, 29), (1, (-9223372036854775808), 9223372036854775807), (2, (-2147483648), 2147483647), (3, 0, 30), (4, 0, 1240), (5, 0, 1239), (6, 0, 30)] [((-1), [(4, 1), (5, (-1))])] [(0, .inr (.inr (.inl (some 30)))), (1, .inl (0, [(0, 1)])), (2, .inr (.inl (0, [(1, 1)]))), (4, .inl (0, [(2, 1)])), (5, .inl (0, [(5, 1)]))] [] [(3584, (0, []), (0, [(3, 1)])), (4352, (0, [(3, 1)]), (0, [(4, 1)])), (4608, (0, [(5, 1)]), (14, [])), (5120, (0, [(5, 1)]), (0, [(0, 1)])), (4864, (0, [(5, 1)]), (0, [])), (5376, (0, [(5, 1)]), (0, [(6, 1)]))] [] 2 [(80, ([], 7, [(0, 0, 29), (1, (-9223372036854775808), 9223372036854775807), (2, (-2147483648), 2147483647), (3, 0, 30), (4, 0, 1240), (5, 0, 1239), (6, 0, 30)], [], [(0, .inr (.inr (.inl (some 30)))), (1, .inl (0, [(0, 1)])), (2, .inr (.inl (0, [(1, 1)]))), (4, .inl (0, [(2, 1)])), (5, .inl (0, [(5, 1)]))], [.inl (0, [(6, 1)]), .inl (0, [(2, 1)])], []))] [] = true := by decide +kernel
theorem sjE {cst : am_K} {strs : List Nat} {Φ : am_Q → Prop} {D : Nat} {M : am_M} {h : am_H} {l : am_L} (c : hp_C cst strs D) (hM : m_P[57]? = some M) (hD : (2 : Int) ≤ (D : Int) + 1) (hy : ly_hy m_tt ly_TH h) (a d b n e cc o : Int) (b0 : 0 ≤ a) (t0 : a ≤ 29) (b1 : (-9223372036854775808) ≤ d) (t1 : d ≤ 9223372036854775807) (b2 : (-2147483648) ≤ b) (t2 : b ≤ 2147483647) (b3 : 0 ≤ n) (t3 : n ≤ 30) (b4 : 0 ≤ e) (t4 : e ≤ 1240) (b5 : 0 ≤ cc) (t5 : cc ≤ 1239) (b6 : 0 ≤ o) (t6 : o ≤ 30) (f0 : 0 ≤ (e - cc - 1)) (k0 : ly_hv cst h 3584 0 = some (n)) (k1 : ly_hv cst h 4352 (n) = some (e)) (k2 : ly_hv cst h 4608 (cc) = some 14) (k3 : ly_hv cst h 5120 (cc) = some (a)) (k4 : ly_hv cst h 4864 (cc) = some 0) (k5 : ly_hv cst h 5376 (cc) = some (o)) (l0 : hp_a l 0 30) (l1 : hp_i l 1 (a)) (l2 : hp_j l 2 (d)) (l4 : hp_i l 4 (b)) (l5 : hp_i l 5 (cc)) (e0 : ∀ (l' : am_L) (h' : am_H) (y0 : Int32) (y1 : Int32), y0.toInt = (o) → y1.toInt = (b) → ly_hy m_tt ly_TH h' → ly_fr cst [] h h' → h.length ≤ h'.length → hp_a l' 0 30 → hp_i l' 1 (a) → hp_j l' 2 (d) → hp_i l' 4 (b) → hp_i l' 5 (cc) → hp_F cst strs Φ D M 80 l' [.int y0, .int y1] h') : hp_F cst strs Φ D M 10 l [] h := by
  refine hp_arc c hM sjE_k hD [a, d, b, n, e, cc, o] rfl hy (hp_Bc (z := a) rfl b0 t0 (hp_Bc (z := d) rfl b1 t1 (hp_Bc (z := b) rfl b2 t2 (hp_Bc (z := n) rfl b3 t3 (hp_Bc (z := e) rfl b4 t4 (hp_Bc (z := cc) rfl b5 t5 (hp_Bc (z := o) rfl b6 t6 hp_Bn))))))) (hp_Fc (z := ((-1) + (1 * e + ((-1) * cc + 0)))) rfl (by omega) hp_Fn) (hp_Kc (zi := (0 + 0)) (zv := (0 + (1 * n + 0))) k0 rfl rfl (by omega) (by omega) (hp_Kc (zi := (0 + (1 * n + 0))) (zv := (0 + (1 * e + 0))) k1 rfl rfl (by omega) (by omega) (hp_Kc (zi := (0 + (1 * cc + 0))) (zv := (14 + 0)) k2 rfl rfl (by omega) (by omega) (hp_Kc (zi := (0 + (1 * cc + 0))) (zv := (0 + (1 * a + 0))) k3 rfl rfl (by omega) (by omega) (hp_Kc (zi := (0 + (1 * cc + 0))) (zv := (0 + 0)) k4 rfl rfl (by omega) (by omega) (hp_Kc (zi := (0 + (1 * cc + 0))) (zv := (0 + (1 * o + 0))) k5 rfl rfl (by omega) (by omega) hp_Kn)))))) (hp_La l0 (hp_Li (z := (0 + (1 * a + 0))) l1 rfl (by omega) (hp_Lj (z := (0 + (1 * d + 0))) l2 rfl (by omega) (hp_Li (z := (0 + (1 * b + 0))) l4 rfl (by omega) (hp_Li (z := (0 + (1 * cc + 0))) l5 rfl (by omega) hp_Ln))))) trivial ?_ ?_
  · intro p_9 hp ys l' st' h' hys a1_9 a2 a3 gZ gL gS
    rcases List.mem_cons.mp hp with rfl | hp
    · obtain rfl := hp_y0 hys
      obtain ⟨y0, t0, rfl, q0, g0⟩ := hp_gSi (z := (0 + (1 * o + 0))) gS rfl
      obtain ⟨y1, t1, rfl, q1_9, g1⟩ := hp_gSi (z := (0 + (1 * b + 0))) g0 rfl
      cases hp_gSn g1
      exact e0 l' h' y0 y1 (by omega) (by omega) a1_9 a2 a3 (hp_gLa gL (List.mem_of_getElem? (i := 0) rfl) (by decide)) (hp_gLi (z := (0 + (1 * a + 0))) gL (List.mem_of_getElem? (i := 1) rfl) rfl (by omega)) (hp_gLj (z := (0 + (1 * d + 0))) gL (List.mem_of_getElem? (i := 2) rfl) rfl (by omega)) (hp_gLi (z := (0 + (1 * b + 0))) gL (List.mem_of_getElem? (i := 3) rfl) rfl (by omega)) (hp_gLi (z := (0 + (1 * cc + 0))) gL (List.mem_of_getElem? (i := 4) rfl) rfl (by omega))
    cases hp
  · intro p_9 hp ys v_9 h' hys a1_9 a2 a3 gZ gS
    cases hp
theorem sjF_k : hp_chk 57 10 7 [(0, 0, 29), (1, (-9223372036854775808), 9223372036854775807), (2, (-2147483648), 2147483647), (3, 0, 30), (4, 0, 1240), (5, 0, 1239), (6, 0, 30)] [((-1), [(4, 1), (5, (-1))])] [(0, .inr (.inr (.inl (some 30)))), (1, .inl (0, [(0, 1)])), (2, .inr (.inl (0, [(1, 1)]))), (4, .inl (0, [(2, 1)])), (5, .inl (0, [(5, 1)]))] [] [(3584, (0, []), (0, [(3, 1)])), (4352, (0, [(3, 1)]), (0, [(4, 1)])), (4608, (0, [(5, 1)]), (14, [])), (5120, (0, [(5, 1)]), (0, [(0, 1)])), (4864, (0, [(5, 1)]), (0, [(1, 1)])), (61000, (0, [(1, 1)]), (1, [])), (5376, (0, [(5, 1)]), (0, [(6, 1)]))] [] 2 [(80, ([], 7, [(0, 0, 29), (1, (-9223372036854775808), 9223372036854775807), (2, (-2147483648), 2147483647), (3, 0, 30), (4, 0, 1240), (5, 0, 1239), (6, 0, 30)], [], [(0, .inr (.inr (.inl (some 30)))), (1, .inl (0, [(0, 1)])), (2, .inr (.inl (0, [(1, 1)]))), (4, .inl (0, [(2, 1)])), (5, .inl (0, [(5, 1)]))], [.inl (0, [(6, 1)]), .inl (0, [(2, 1)])], []))] [] = true := by decide +kernel
theorem sjF {cst : am_K} {strs : List Nat} {Φ : am_Q → Prop} {D : Nat} {M : am_M} {h : am_H} {l : am_L} (c : hp_C cst strs D) (hM : m_P[57]? = some M) (hD : (2 : Int) ≤ (D : Int) + 1) (hy : ly_hy m_tt ly_TH h) (a d b n e cc o : Int) (b0 : 0 ≤ a) (t0 : a ≤ 29) (b1 : (-9223372036854775808) ≤ d) (t1 : d ≤ 9223372036854775807) (b2 : (-2147483648) ≤ b) (t2 : b ≤ 2147483647) (b3 : 0 ≤ n) (t3 : n ≤ 30) (b4 : 0 ≤ e) (t4 : e ≤ 1240) (b5 : 0 ≤ cc) (t5 : cc ≤ 1239) (b6 : 0 ≤ o) (t6 : o ≤ 30) (f0 : 0 ≤ (e - cc - 1)) (k0 : ly_hv cst h 3584 0 = some (n)) (k1 : ly_hv cst h 4352 (n) = some (e)) (k2 : ly_hv cst h 4608 (cc) = some 14) (k3 : ly_hv cst h 5120 (cc) = some (a)) (k4 : ly_hv cst h 4864 (cc) = some (d)) (k5 : ly_hv cst h 61000 (d) = some 1) (k6 : ly_hv cst h 5376 (cc) = some (o)) (l0 : hp_a l 0 30) (l1 : hp_i l 1 (a)) (l2 : hp_j l 2 (d)) (l4 : hp_i l 4 (b)) (l5 : hp_i l 5 (cc)) (e0 : ∀ (l' : am_L) (h' : am_H) (y0 : Int32) (y1 : Int32), y0.toInt = (o) → y1.toInt = (b) → ly_hy m_tt ly_TH h' → ly_fr cst [] h h' → h.length ≤ h'.length → hp_a l' 0 30 → hp_i l' 1 (a) → hp_j l' 2 (d) → hp_i l' 4 (b) → hp_i l' 5 (cc) → hp_F cst strs Φ D M 80 l' [.int y0, .int y1] h') : hp_F cst strs Φ D M 10 l [] h := by
  refine hp_arc c hM sjF_k hD [a, d, b, n, e, cc, o] rfl hy (hp_Bc (z := a) rfl b0 t0 (hp_Bc (z := d) rfl b1 t1 (hp_Bc (z := b) rfl b2 t2 (hp_Bc (z := n) rfl b3 t3 (hp_Bc (z := e) rfl b4 t4 (hp_Bc (z := cc) rfl b5 t5 (hp_Bc (z := o) rfl b6 t6 hp_Bn))))))) (hp_Fc (z := ((-1) + (1 * e + ((-1) * cc + 0)))) rfl (by omega) hp_Fn) (hp_Kc (zi := (0 + 0)) (zv := (0 + (1 * n + 0))) k0 rfl rfl (by omega) (by omega) (hp_Kc (zi := (0 + (1 * n + 0))) (zv := (0 + (1 * e + 0))) k1 rfl rfl (by omega) (by omega) (hp_Kc (zi := (0 + (1 * cc + 0))) (zv := (14 + 0)) k2 rfl rfl (by omega) (by omega) (hp_Kc (zi := (0 + (1 * cc + 0))) (zv := (0 + (1 * a + 0))) k3 rfl rfl (by omega) (by omega) (hp_Kc (zi := (0 + (1 * cc + 0))) (zv := (0 + (1 * d + 0))) k4 rfl rfl (by omega) (by omega) (hp_Kc (zi := (0 + (1 * d + 0))) (zv := (1 + 0)) k5 rfl rfl (by omega) (by omega) (hp_Kc (zi := (0 + (1 * cc + 0))) (zv := (0 + (1 * o + 0))) k6 rfl rfl (by omega) (by omega) hp_Kn))))))) (hp_La l0 (hp_Li (z := (0 + (1 * a + 0))) l1 rfl (by omega) (hp_Lj (z := (0 + (1 * d + 0))) l2 rfl (by omega) (hp_Li (z := (0 + (1 * b + 0))) l4 rfl (by omega) (hp_Li (z := (0 + (1 * cc + 0))) l5 rfl (by omega) hp_Ln))))) trivial ?_ ?_
  · intro p_9 hp ys l' st' h' hys a1_9 a2 a3 gZ gL gS
    rcases List.mem_cons.mp hp with rfl | hp
    · obtain rfl := hp_y0 hys
      obtain ⟨y0, t0, rfl, q0, g0⟩ := hp_gSi (z := (0 + (1 * o + 0))) gS rfl
      obtain ⟨y1, t1, rfl, q1_9, g1⟩ := hp_gSi (z := (0 + (1 * b + 0))) g0 rfl
      cases hp_gSn g1
      exact e0 l' h' y0 y1 (by omega) (by omega) a1_9 a2 a3 (hp_gLa gL (List.mem_of_getElem? (i := 0) rfl) (by decide)) (hp_gLi (z := (0 + (1 * a + 0))) gL (List.mem_of_getElem? (i := 1) rfl) rfl (by omega)) (hp_gLj (z := (0 + (1 * d + 0))) gL (List.mem_of_getElem? (i := 2) rfl) rfl (by omega)) (hp_gLi (z := (0 + (1 * b + 0))) gL (List.mem_of_getElem? (i := 3) rfl) rfl (by omega)) (hp_gLi (z := (0 + (1 * cc + 0))) gL (List.mem_of_getElem? (i := 4) rfl) rfl (by omega))
    cases hp
  · intro p_9 hp ys v_9 h' hys a1_9 a2 a3 gZ gS
    cases hp
theorem sjG_k : hp_chk 57 81 5 [(0, 0, 29), (1, (-9223372036854775808), 9223372036854775807), (2, (-2147483648), 2147483647), (3, 0, 1239), (4, (-2147483648), 2147483647)] [] [(0, .inr (.inr (.inl (some 30)))), (1, .inl (0, [(0, 1)])), (2, .inr (.inl (0, [(1, 1)]))), (4, .inl (0, [(2, 1)])), (5, .inl (0, [(3, 1)]))] [.inl (0, [(4, 1)])] [] [] 2 [(82, ([], 5, [(0, 0, 29), (1, (-9223372036854775808), 9223372036854775807), (2, (-2147483648), 2147483647), (3, 0, 1239), (4, (-2147483648), 2147483647)], [], [(0, .inr (.inr (.inl (some 30)))), (1, .inl (0, [(0, 1)])), (2, .inr (.inl (0, [(1, 1)]))), (4, .inl (0, [(2, 1)])), (5, .inl (0, [(3, 1)]))], [.inl (1, []), .inl (0, [(4, 1)])], []))] [] = true := by decide +kernel
theorem sjG {cst : am_K} {strs : List Nat} {Φ : am_Q → Prop} {D : Nat} {M : am_M} {h : am_H} {l : am_L} (c : hp_C cst strs D) (hM : m_P[57]? = some M) (hD : (2 : Int) ≤ (D : Int) + 1) (hy : ly_hy m_tt ly_TH h) (a d b cc v : Int) (x0 : Int32) (hx0 : x0.toInt = (v)) (b0 : 0 ≤ a) (t0 : a ≤ 29) (b1 : (-9223372036854775808) ≤ d) (t1 : d ≤ 9223372036854775807) (b2 : (-2147483648) ≤ b) (t2 : b ≤ 2147483647) (b3 : 0 ≤ cc) (t3 : cc ≤ 1239) (b4 : (-2147483648) ≤ v) (t4 : v ≤ 2147483647) (l0 : hp_a l 0 30) (l1 : hp_i l 1 (a)) (l2 : hp_j l 2 (d)) (l4 : hp_i l 4 (b)) (l5 : hp_i l 5 (cc)) (e0 : ∀ (l' : am_L) (h' : am_H) (y0 : Int32) (y1 : Int32), y0.toInt = 1 → y1.toInt = (v) → ly_hy m_tt ly_TH h' → ly_fr cst [] h h' → h.length ≤ h'.length → hp_a l' 0 30 → hp_i l' 1 (a) → hp_j l' 2 (d) → hp_i l' 4 (b) → hp_i l' 5 (cc) → hp_F cst strs Φ D M 82 l' [.int y0, .int y1] h') : hp_F cst strs Φ D M 81 l [.int x0] h := by
  refine hp_arc c hM sjG_k hD [a, d, b, cc, v] rfl hy (hp_Bc (z := a) rfl b0 t0 (hp_Bc (z := d) rfl b1 t1 (hp_Bc (z := b) rfl b2 t2 (hp_Bc (z := cc) rfl b3 t3 (hp_Bc (z := v) rfl b4 t4 hp_Bn))))) hp_Fn hp_Kn (hp_La l0 (hp_Li (z := (0 + (1 * a + 0))) l1 rfl (by omega) (hp_Lj (z := (0 + (1 * d + 0))) l2 rfl (by omega) (hp_Li (z := (0 + (1 * b + 0))) l4 rfl (by omega) (hp_Li (z := (0 + (1 * cc + 0))) l5 rfl (by omega) hp_Ln))))) (hp_Si (z := (0 + (1 * v + 0))) rfl (by omega) trivial) ?_ ?_
  · intro p_9 hp ys l' st' h' hys a1_9 a2 a3 gZ gL gS
    rcases List.mem_cons.mp hp with rfl | hp
    · obtain rfl := hp_y0 hys
      obtain ⟨y0, t0, rfl, q0, g0⟩ := hp_gSi (z := (1 + 0)) gS rfl
      obtain ⟨y1, t1, rfl, q1_9, g1⟩ := hp_gSi (z := (0 + (1 * v + 0))) g0 rfl
      cases hp_gSn g1
      exact e0 l' h' y0 y1 (by omega) (by omega) a1_9 a2 a3 (hp_gLa gL (List.mem_of_getElem? (i := 0) rfl) (by decide)) (hp_gLi (z := (0 + (1 * a + 0))) gL (List.mem_of_getElem? (i := 1) rfl) rfl (by omega)) (hp_gLj (z := (0 + (1 * d + 0))) gL (List.mem_of_getElem? (i := 2) rfl) rfl (by omega)) (hp_gLi (z := (0 + (1 * b + 0))) gL (List.mem_of_getElem? (i := 3) rfl) rfl (by omega)) (hp_gLi (z := (0 + (1 * cc + 0))) gL (List.mem_of_getElem? (i := 4) rfl) rfl (by omega))
    cases hp
  · intro p_9 hp ys v h' hys a1_9 a2 a3 gZ gS
    cases hp
theorem sjH_k : hp_chk 57 83 4 [(0, 0, 29), (1, (-9223372036854775808), 9223372036854775807), (2, (-2147483648), 2147483647), (3, 0, 1239)] [] [(0, .inr (.inr (.inl (some 30)))), (1, .inl (0, [(0, 1)])), (2, .inr (.inl (0, [(1, 1)]))), (4, .inl (0, [(2, 1)])), (5, .inl (0, [(3, 1)]))] [.inl (0, [])] [] [] 2 [(10, ([], 4, [(0, 0, 29), (1, (-9223372036854775808), 9223372036854775807), (2, (-2147483648), 2147483647), (3, 0, 1239)], [], [(0, .inr (.inr (.inl (some 30)))), (1, .inl (0, [(0, 1)])), (2, .inr (.inl (0, [(1, 1)]))), (4, .inl (0, [(2, 1)])), (5, .inl (1, [(3, 1)]))], [], []))] [] = true := by decide +kernel
theorem sjH {cst : am_K} {strs : List Nat} {Φ : am_Q → Prop} {D : Nat} {M : am_M} {h : am_H} {l : am_L} (c : hp_C cst strs D) (hM : m_P[57]? = some M) (hD : (2 : Int) ≤ (D : Int) + 1) (hy : ly_hy m_tt ly_TH h) (a d b cc : Int) (x0 : Int32) (hx0 : x0.toInt = 0) (b0 : 0 ≤ a) (t0 : a ≤ 29) (b1 : (-9223372036854775808) ≤ d) (t1 : d ≤ 9223372036854775807) (b2 : (-2147483648) ≤ b) (t2 : b ≤ 2147483647) (b3 : 0 ≤ cc) (t3 : cc ≤ 1239) (l0 : hp_a l 0 30) (l1 : hp_i l 1 (a)) (l2 : hp_j l 2 (d)) (l4 : hp_i l 4 (b)) (l5 : hp_i l 5 (cc)) (e0 : ∀ (l' : am_L) (h' : am_H), ly_hy m_tt ly_TH h' → ly_fr cst [] h h' → h.length ≤ h'.length → hp_a l' 0 30 → hp_i l' 1 (a) → hp_j l' 2 (d) → hp_i l' 4 (b) → hp_i l' 5 (cc + 1) → hp_F cst strs Φ D M 10 l' [] h') : hp_F cst strs Φ D M 83 l [.int x0] h := by
  refine hp_arc c hM sjH_k hD [a, d, b, cc] rfl hy (hp_Bc (z := a) rfl b0 t0 (hp_Bc (z := d) rfl b1 t1 (hp_Bc (z := b) rfl b2 t2 (hp_Bc (z := cc) rfl b3 t3 hp_Bn)))) hp_Fn hp_Kn (hp_La l0 (hp_Li (z := (0 + (1 * a + 0))) l1 rfl (by omega) (hp_Lj (z := (0 + (1 * d + 0))) l2 rfl (by omega) (hp_Li (z := (0 + (1 * b + 0))) l4 rfl (by omega) (hp_Li (z := (0 + (1 * cc + 0))) l5 rfl (by omega) hp_Ln))))) (hp_Si (z := (0 + 0)) rfl (by omega) trivial) ?_ ?_
  · intro p_9 hp ys l' st' h' hys a1_9 a2 a3 gZ gL gS
    rcases List.mem_cons.mp hp with rfl | hp
    · obtain rfl := hp_y0 hys
      cases hp_gSn gS
      exact e0 l' h' a1_9 a2 a3 (hp_gLa gL (List.mem_of_getElem? (i := 0) rfl) (by decide)) (hp_gLi (z := (0 + (1 * a + 0))) gL (List.mem_of_getElem? (i := 1) rfl) rfl (by omega)) (hp_gLj (z := (0 + (1 * d + 0))) gL (List.mem_of_getElem? (i := 2) rfl) rfl (by omega)) (hp_gLi (z := (0 + (1 * b + 0))) gL (List.mem_of_getElem? (i := 3) rfl) rfl (by omega)) (hp_gLi (z := (1 + (1 * cc + 0))) gL (List.mem_of_getElem? (i := 4) rfl) rfl (by omega))
    cases hp
  · intro p_9 hp ys v_9 h' hys a1_9 a2 a3 gZ gS
    cases hp
theorem sjI_k : hp_chk 57 83 4 [(0, 0, 29), (1, (-9223372036854775808), 9223372036854775807), (2, (-2147483648), 2147483647), (3, 0, 1239)] [] [(0, .inr (.inr (.inl (some 30)))), (1, .inl (0, [(0, 1)])), (2, .inr (.inl (0, [(1, 1)]))), (4, .inl (0, [(2, 1)])), (5, .inl (0, [(3, 1)]))] [.inl (1, [])] [] [] 2 [] [([], 4, [(0, 0, 29), (1, (-9223372036854775808), 9223372036854775807), (2, (-2147483648), 2147483647), (3, 0, 1239)], [], [], [.inl (1, [])], [])] = true := by decide +kernel
theorem sjI {cst : am_K} {strs : List Nat} {Φ : am_Q → Prop} {D : Nat} {M : am_M} {h : am_H} {l : am_L} (c : hp_C cst strs D) (hM : m_P[57]? = some M) (hD : (2 : Int) ≤ (D : Int) + 1) (hy : ly_hy m_tt ly_TH h) (a d b cc : Int) (x0 : Int32) (hx0 : x0.toInt = 1) (b0 : 0 ≤ a) (t0 : a ≤ 29) (b1 : (-9223372036854775808) ≤ d) (t1 : d ≤ 9223372036854775807) (b2 : (-2147483648) ≤ b) (t2 : b ≤ 2147483647) (b3 : 0 ≤ cc) (t3 : cc ≤ 1239) (l0 : hp_a l 0 30) (l1 : hp_i l 1 (a)) (l2 : hp_j l 2 (d)) (l4 : hp_i l 4 (b)) (l5 : hp_i l 5 (cc)) (r0 : ∀ (h' : am_H) (y0 : Int32), y0.toInt = 1 → ly_hy m_tt ly_TH h' → ly_fr cst [] h h' → h.length ≤ h'.length → Φ (some (.int y0), h', 0, 0)) : hp_F cst strs Φ D M 83 l [.int x0] h := by
  refine hp_arc c hM sjI_k hD [a, d, b, cc] rfl hy (hp_Bc (z := a) rfl b0 t0 (hp_Bc (z := d) rfl b1 t1 (hp_Bc (z := b) rfl b2 t2 (hp_Bc (z := cc) rfl b3 t3 hp_Bn)))) hp_Fn hp_Kn (hp_La l0 (hp_Li (z := (0 + (1 * a + 0))) l1 rfl (by omega) (hp_Lj (z := (0 + (1 * d + 0))) l2 rfl (by omega) (hp_Li (z := (0 + (1 * b + 0))) l4 rfl (by omega) (hp_Li (z := (0 + (1 * cc + 0))) l5 rfl (by omega) hp_Ln))))) (hp_Si (z := (1 + 0)) rfl (by omega) trivial) ?_ ?_
  · intro p_9 hp ys l' st' h' hys a1_9 a2 a3 gZ gL gS
    cases hp
  · intro p_9 hp ys v_9 h' hys a1_9 a2 a3 gZ gS
    rcases List.mem_cons.mp hp with rfl | hp
    · obtain rfl := hp_y0 hys
      cases v_9 with
      | none => cases gS
      | some wz =>
        obtain ⟨y0, t0, s0_9, q0, -⟩ := hp_gSi (z := (1 + 0)) gS rfl
        cases s0_9
        exact r0 h' y0 (by omega) a1_9 a2 a3
    cases hp
theorem ch0_k : hp_chk 55 0 4 [(0, 0, 29), (1, 0, 14), (2, (-9223372036854775808), 9223372036854775807), (3, (-2147483648), 2147483647)] [] [(0, .inr (.inr (.inl (some 30)))), (1, .inl (0, [(0, 1)])), (2, .inl (0, [(1, 1)])), (3, .inr (.inl (0, [(2, 1)]))), (5, .inl (0, [(3, 1)]))] [] [] [] 2 [(3, ([], 4, [(0, 0, 29), (1, 0, 14), (2, (-9223372036854775808), 9223372036854775807), (3, (-2147483648), 2147483647)], [], [(0, .inr (.inr (.inl (some 30)))), (1, .inl (0, [(0, 1)])), (2, .inl (0, [(1, 1)])), (3, .inr (.inl (0, [(2, 1)]))), (5, .inl (0, [(3, 1)]))], [.inl (0, [(0, 1)]), .inl (0, [(3, 1)])], []))] [] = true := by decide +kernel
theorem ch0 {cst : am_K} {strs : List Nat} {Φ : am_Q → Prop} {D : Nat} {M : am_M} {h : am_H} {l : am_L} (c : hp_C cst strs D) (hM : m_P[55]? = some M) (hD : (2 : Int) ≤ (D : Int) + 1) (hy : ly_hy m_tt ly_TH h) (a k d b : Int) (b0 : 0 ≤ a) (t0 : a ≤ 29) (b1 : 0 ≤ k) (t1 : k ≤ 14) (b2 : (-9223372036854775808) ≤ d) (t2 : d ≤ 9223372036854775807) (b3 : (-2147483648) ≤ b) (t3 : b ≤ 2147483647) (l0 : hp_a l 0 30) (l1 : hp_i l 1 (a)) (l2 : hp_i l 2 (k)) (l3 : hp_j l 3 (d)) (l5 : hp_i l 5 (b)) (e0 : ∀ (l' : am_L) (h' : am_H) (y0 : Int32) (y1 : Int32), y0.toInt = (a) → y1.toInt = (b) → ly_hy m_tt ly_TH h' → ly_fr cst [] h h' → h.length ≤ h'.length → hp_a l' 0 30 → hp_i l' 1 (a) → hp_i l' 2 (k) → hp_j l' 3 (d) → hp_i l' 5 (b) → hp_F cst strs Φ D M 3 l' [.int y0, .int y1] h') : hp_F cst strs Φ D M 0 l [] h := by
  refine hp_arc c hM ch0_k hD [a, k, d, b] rfl hy (hp_Bc (z := a) rfl b0 t0 (hp_Bc (z := k) rfl b1 t1 (hp_Bc (z := d) rfl b2 t2 (hp_Bc (z := b) rfl b3 t3 hp_Bn)))) hp_Fn hp_Kn (hp_La l0 (hp_Li (z := (0 + (1 * a + 0))) l1 rfl (by omega) (hp_Li (z := (0 + (1 * k + 0))) l2 rfl (by omega) (hp_Lj (z := (0 + (1 * d + 0))) l3 rfl (by omega) (hp_Li (z := (0 + (1 * b + 0))) l5 rfl (by omega) hp_Ln))))) trivial ?_ ?_
  · intro p_9 hp ys l' st' h' hys a1_9 a2 a3 gZ gL gS
    rcases List.mem_cons.mp hp with rfl | hp
    · obtain rfl := hp_y0 hys
      obtain ⟨y0, t0, rfl, q0, g0⟩ := hp_gSi (z := (0 + (1 * a + 0))) gS rfl
      obtain ⟨y1, t1, rfl, q1_9, g1⟩ := hp_gSi (z := (0 + (1 * b + 0))) g0 rfl
      cases hp_gSn g1
      exact e0 l' h' y0 y1 (by omega) (by omega) a1_9 a2 a3 (hp_gLa gL (List.mem_of_getElem? (i := 0) rfl) (by decide)) (hp_gLi (z := (0 + (1 * a + 0))) gL (List.mem_of_getElem? (i := 1) rfl) rfl (by omega)) (hp_gLi (z := (0 + (1 * k + 0))) gL (List.mem_of_getElem? (i := 2) rfl) rfl (by omega)) (hp_gLj (z := (0 + (1 * d + 0))) gL (List.mem_of_getElem? (i := 3) rfl) rfl (by omega)) (hp_gLi (z := (0 + (1 * b + 0))) gL (List.mem_of_getElem? (i := 4) rfl) rfl (by omega))
    cases hp
  · intro p_9 hp ys v_9 h' hys a1_9 a2 a3 gZ gS
    cases hp
theorem ch1_k : hp_chk 55 4 5 [(0, 0, 29), (1, 0, 14), (2, (-9223372036854775808), 9223372036854775807), (3, (-2147483648), 2147483647), (4, (-2147483648), 2147483647)] [] [(0, .inr (.inr (.inl (some 30)))), (1, .inl (0, [(0, 1)])), (2, .inl (0, [(1, 1)])), (3, .inr (.inl (0, [(2, 1)]))), (5, .inl (0, [(3, 1)]))] [.inl (0, [(4, 1)])] [] [] 2 [(5, ([], 5, [(0, 0, 29), (1, 0, 14), (2, (-9223372036854775808), 9223372036854775807), (3, (-2147483648), 2147483647), (4, (-2147483648), 2147483647)], [], [(0, .inr (.inr (.inl (some 30)))), (1, .inl (0, [(0, 1)])), (2, .inl (0, [(1, 1)])), (3, .inr (.inl (0, [(2, 1)]))), (5, .inl (0, [(3, 1)]))], [.inl (1, []), .inl (0, [(4, 1)])], []))] [] = true := by decide +kernel
theorem ch1 {cst : am_K} {strs : List Nat} {Φ : am_Q → Prop} {D : Nat} {M : am_M} {h : am_H} {l : am_L} (c : hp_C cst strs D) (hM : m_P[55]? = some M) (hD : (2 : Int) ≤ (D : Int) + 1) (hy : ly_hy m_tt ly_TH h) (a k d b v : Int) (x0 : Int32) (hx0 : x0.toInt = (v)) (b0 : 0 ≤ a) (t0 : a ≤ 29) (b1 : 0 ≤ k) (t1 : k ≤ 14) (b2 : (-9223372036854775808) ≤ d) (t2 : d ≤ 9223372036854775807) (b3 : (-2147483648) ≤ b) (t3 : b ≤ 2147483647) (b4 : (-2147483648) ≤ v) (t4 : v ≤ 2147483647) (l0 : hp_a l 0 30) (l1 : hp_i l 1 (a)) (l2 : hp_i l 2 (k)) (l3 : hp_j l 3 (d)) (l5 : hp_i l 5 (b)) (e0 : ∀ (l' : am_L) (h' : am_H) (y0 : Int32) (y1 : Int32), y0.toInt = 1 → y1.toInt = (v) → ly_hy m_tt ly_TH h' → ly_fr cst [] h h' → h.length ≤ h'.length → hp_a l' 0 30 → hp_i l' 1 (a) → hp_i l' 2 (k) → hp_j l' 3 (d) → hp_i l' 5 (b) → hp_F cst strs Φ D M 5 l' [.int y0, .int y1] h') : hp_F cst strs Φ D M 4 l [.int x0] h := by
  refine hp_arc c hM ch1_k hD [a, k, d, b, v] rfl hy (hp_Bc (z := a) rfl b0 t0 (hp_Bc (z := k) rfl b1 t1 (hp_Bc (z := d) rfl b2 t2 (hp_Bc (z := b) rfl b3 t3 (hp_Bc (z := v) rfl b4 t4 hp_Bn))))) hp_Fn hp_Kn (hp_La l0 (hp_Li (z := (0 + (1 * a + 0))) l1 rfl (by omega) (hp_Li (z := (0 + (1 * k + 0))) l2 rfl (by omega) (hp_Lj (z := (0 + (1 * d + 0))) l3 rfl (by omega) (hp_Li (z := (0 + (1 * b + 0))) l5 rfl (by omega) hp_Ln))))) (hp_Si (z := (0 + (1 * v + 0))) rfl (by omega) trivial) ?_ ?_
  · intro p_9 hp ys l' st' h' hys a1_9 a2 a3 gZ gL gS
    rcases List.mem_cons.mp hp with rfl | hp
    · obtain rfl := hp_y0 hys
      obtain ⟨y0, t0, rfl, q0, g0⟩ := hp_gSi (z := (1 + 0)) gS rfl
      obtain ⟨y1, t1, rfl, q1_9, g1⟩ := hp_gSi (z := (0 + (1 * v + 0))) g0 rfl
      cases hp_gSn g1
      exact e0 l' h' y0 y1 (by omega) (by omega) a1_9 a2 a3 (hp_gLa gL (List.mem_of_getElem? (i := 0) rfl) (by decide)) (hp_gLi (z := (0 + (1 * a + 0))) gL (List.mem_of_getElem? (i := 1) rfl) rfl (by omega)) (hp_gLi (z := (0 + (1 * k + 0))) gL (List.mem_of_getElem? (i := 2) rfl) rfl (by omega)) (hp_gLj (z := (0 + (1 * d + 0))) gL (List.mem_of_getElem? (i := 3) rfl) rfl (by omega)) (hp_gLi (z := (0 + (1 * b + 0))) gL (List.mem_of_getElem? (i := 4) rfl) rfl (by omega))
    cases hp
  · intro p_9 hp ys v h' hys a1_9 a2 a3 gZ gS
    cases hp
theorem ch2_k : hp_chk 55 6 4 [(0, 0, 29), (1, 0, 14), (2, (-9223372036854775808), 9223372036854775807), (3, (-2147483648), 2147483647)] [] [(0, .inr (.inr (.inl (some 30)))), (1, .inl (0, [(0, 1)])), (2, .inl (0, [(1, 1)])), (3, .inr (.inl (0, [(2, 1)]))), (5, .inl (0, [(3, 1)]))] [.inl (0, [])] [] [] 2 [] [([], 4, [(0, 0, 29), (1, 0, 14), (2, (-9223372036854775808), 9223372036854775807), (3, (-2147483648), 2147483647)], [], [], [.inl ((-1), [])], [])] = true := by decide +kernel
theorem ch2 {cst : am_K} {strs : List Nat} {Φ : am_Q → Prop} {D : Nat} {M : am_M} {h : am_H} {l : am_L} (c : hp_C cst strs D) (hM : m_P[55]? = some M) (hD : (2 : Int) ≤ (D : Int) + 1) (hy : ly_hy m_tt ly_TH h) (a k d b : Int) (x0 : Int32) (hx0 : x0.toInt = 0) (b0 : 0 ≤ a) (t0 : a ≤ 29) (b1 : 0 ≤ k) (t1 : k ≤ 14) (b2 : (-9223372036854775808) ≤ d) (t2 : d ≤ 9223372036854775807) (b3 : (-2147483648) ≤ b) (t3 : b ≤ 2147483647) (l0 : hp_a l 0 30) (l1 : hp_i l 1 (a)) (l2 : hp_i l 2 (k)) (l3 : hp_j l 3 (d)) (l5 : hp_i l 5 (b)) (r0 : ∀ (h' : am_H) (y0 : Int32), y0.toInt = (-1) → ly_hy m_tt ly_TH h' → ly_fr cst [] h h' → h.length ≤ h'.length → Φ (some (.int y0), h', 0, 0)) : hp_F cst strs Φ D M 6 l [.int x0] h := by
  refine hp_arc c hM ch2_k hD [a, k, d, b] rfl hy (hp_Bc (z := a) rfl b0 t0 (hp_Bc (z := k) rfl b1 t1 (hp_Bc (z := d) rfl b2 t2 (hp_Bc (z := b) rfl b3 t3 hp_Bn)))) hp_Fn hp_Kn (hp_La l0 (hp_Li (z := (0 + (1 * a + 0))) l1 rfl (by omega) (hp_Li (z := (0 + (1 * k + 0))) l2 rfl (by omega) (hp_Lj (z := (0 + (1 * d + 0))) l3 rfl (by omega) (hp_Li (z := (0 + (1 * b + 0))) l5 rfl (by omega) hp_Ln))))) (hp_Si (z := (0 + 0)) rfl (by omega) trivial) ?_ ?_
  · intro p_9 hp ys l' st' h' hys a1_9 a2 a3 gZ gL gS
    cases hp
  · intro p_9 hp ys v_9 h' hys a1_9 a2 a3 gZ gS
    rcases List.mem_cons.mp hp with rfl | hp
    · obtain rfl := hp_y0 hys
      cases v_9 with
      | none => cases gS
      | some wz =>
        obtain ⟨y0, t0, s0_9, q0, -⟩ := hp_gSi (z := ((-1) + 0)) gS rfl
        cases s0_9
        exact r0 h' y0 (by omega) a1_9 a2 a3
    cases hp
theorem ch3_k : hp_chk 55 6 6 [(0, 0, 29), (1, 0, 14), (2, (-9223372036854775808), 9223372036854775807), (3, (-2147483648), 2147483647), (4, 0, 1240), (5, 0, 1240)] [] [(0, .inr (.inr (.inl (some 30)))), (1, .inl (0, [(0, 1)])), (2, .inl (0, [(1, 1)])), (3, .inr (.inl (0, [(2, 1)]))), (5, .inl (0, [(3, 1)]))] [.inl (1, [])] [(4352, (0, [(0, 1)]), (0, [(4, 1)])), (4352, (1, [(0, 1)]), (0, [(5, 1)]))] [] 2 [(28, ([], 6, [(0, 0, 29), (1, 0, 14), (2, (-9223372036854775808), 9223372036854775807), (3, (-2147483648), 2147483647), (4, 0, 1240), (5, 0, 1240)], [], [(0, .inr (.inr (.inl (some 30)))), (1, .inl (0, [(0, 1)])), (2, .inl (0, [(1, 1)])), (3, .inr (.inl (0, [(2, 1)]))), (5, .inl (0, [(3, 1)]))], [.inr (.inl (0, [(2, 1)])), .inl (0, [(1, 1)]), .inl (0, [(5, 1)]), .inl (0, [(4, 1)]), .inr (.inr (.inl (some 30)))], []))] [] = true := by decide +kernel
theorem ch3 {cst : am_K} {strs : List Nat} {Φ : am_Q → Prop} {D : Nat} {M : am_M} {h : am_H} {l : am_L} (c : hp_C cst strs D) (hM : m_P[55]? = some M) (hD : (2 : Int) ≤ (D : Int) + 1) (hy : ly_hy m_tt ly_TH h) (a k d b f g : Int) (x0 : Int32) (hx0 : x0.toInt = 1) (b0 : 0 ≤ a) (t0 : a ≤ 29) (b1 : 0 ≤ k) (t1 : k ≤ 14) (b2 : (-9223372036854775808) ≤ d) (t2 : d ≤ 9223372036854775807) (b3 : (-2147483648) ≤ b) (t3 : b ≤ 2147483647) (b4 : 0 ≤ f) (t4 : f ≤ 1240) (b5 : 0 ≤ g) (t5 : g ≤ 1240) (k0 : ly_hv cst h 4352 (a) = some (f)) (k1 : ly_hv cst h 4352 (a + 1) = some (g)) (l0 : hp_a l 0 30) (l1 : hp_i l 1 (a)) (l2 : hp_i l 2 (k)) (l3 : hp_j l 3 (d)) (l5 : hp_i l 5 (b)) (e0 : ∀ (l' : am_L) (h' : am_H) (y0 : Int64) (y1 : Int32) (y2 : Int32) (y3 : Int32), y0.toInt = (d) → y1.toInt = (k) → y2.toInt = (g) → y3.toInt = (f) → ly_hy m_tt ly_TH h' → ly_fr cst [] h h' → h.length ≤ h'.length → hp_a l' 0 30 → hp_i l' 1 (a) → hp_i l' 2 (k) → hp_j l' 3 (d) → hp_i l' 5 (b) → hp_F cst strs Φ D M 28 l' [.long y0, .int y1, .int y2, .int y3, .ref 30] h') : hp_F cst strs Φ D M 6 l [.int x0] h := by
  refine hp_arc c hM ch3_k hD [a, k, d, b, f, g] rfl hy (hp_Bc (z := a) rfl b0 t0 (hp_Bc (z := k) rfl b1 t1 (hp_Bc (z := d) rfl b2 t2 (hp_Bc (z := b) rfl b3 t3 (hp_Bc (z := f) rfl b4 t4 (hp_Bc (z := g) rfl b5 t5 hp_Bn)))))) hp_Fn (hp_Kc (zi := (0 + (1 * a + 0))) (zv := (0 + (1 * f + 0))) k0 rfl rfl (by omega) (by omega) (hp_Kc (zi := (1 + (1 * a + 0))) (zv := (0 + (1 * g + 0))) k1 rfl rfl (by omega) (by omega) hp_Kn)) (hp_La l0 (hp_Li (z := (0 + (1 * a + 0))) l1 rfl (by omega) (hp_Li (z := (0 + (1 * k + 0))) l2 rfl (by omega) (hp_Lj (z := (0 + (1 * d + 0))) l3 rfl (by omega) (hp_Li (z := (0 + (1 * b + 0))) l5 rfl (by omega) hp_Ln))))) (hp_Si (z := (1 + 0)) rfl (by omega) trivial) ?_ ?_
  · intro p_9 hp ys l' st' h' hys a1_9 a2 a3 gZ gL gS
    rcases List.mem_cons.mp hp with rfl | hp
    · obtain rfl := hp_y0 hys
      obtain ⟨y0, t0, rfl, q0, g0⟩ := hp_gSj (z := (0 + (1 * d + 0))) gS rfl
      obtain ⟨y1, t1, rfl, q1_9, g1⟩ := hp_gSi (z := (0 + (1 * k + 0))) g0 rfl
      obtain ⟨y2, t2, rfl, q2_9, g2⟩ := hp_gSi (z := (0 + (1 * g + 0))) g1 rfl
      obtain ⟨y3, t3, rfl, q3_9, g3_9⟩ := hp_gSi (z := (0 + (1 * f + 0))) g2 rfl
      obtain ⟨t4, rfl, g4⟩ := hp_gSa g3_9 (by decide)
      cases hp_gSn g4
      exact e0 l' h' y0 y1 y2 y3 (by omega) (by omega) (by omega) (by omega) a1_9 a2 a3 (hp_gLa gL (List.mem_of_getElem? (i := 0) rfl) (by decide)) (hp_gLi (z := (0 + (1 * a + 0))) gL (List.mem_of_getElem? (i := 1) rfl) rfl (by omega)) (hp_gLi (z := (0 + (1 * k + 0))) gL (List.mem_of_getElem? (i := 2) rfl) rfl (by omega)) (hp_gLj (z := (0 + (1 * d + 0))) gL (List.mem_of_getElem? (i := 3) rfl) rfl (by omega)) (hp_gLi (z := (0 + (1 * b + 0))) gL (List.mem_of_getElem? (i := 4) rfl) rfl (by omega))
    cases hp
  · intro p_9 hp ys v_9 h' hys a1_9 a2 a3 gZ gS
    cases hp
theorem ch4_k : hp_chk 55 31 4 [(0, 0, 29), (1, 0, 14), (2, (-9223372036854775808), 9223372036854775807), (3, (-2147483648), 2147483647)] [] [(0, .inr (.inr (.inl (some 30)))), (1, .inl (0, [(0, 1)])), (2, .inl (0, [(1, 1)])), (3, .inr (.inl (0, [(2, 1)]))), (5, .inl (0, [(3, 1)]))] [.inl ((-1), [])] [] [] 2 [] [([], 4, [(0, 0, 29), (1, 0, 14), (2, (-9223372036854775808), 9223372036854775807), (3, (-2147483648), 2147483647)], [], [], [.inl ((-1), [])], [])] = true := by decide +kernel
theorem ch4 {cst : am_K} {strs : List Nat} {Φ : am_Q → Prop} {D : Nat} {M : am_M} {h : am_H} {l : am_L} (c : hp_C cst strs D) (hM : m_P[55]? = some M) (hD : (2 : Int) ≤ (D : Int) + 1) (hy : ly_hy m_tt ly_TH h) (a k d b : Int) (x0 : Int32) (hx0 : x0.toInt = (-1)) (b0 : 0 ≤ a) (t0 : a ≤ 29) (b1 : 0 ≤ k) (t1 : k ≤ 14) (b2 : (-9223372036854775808) ≤ d) (t2 : d ≤ 9223372036854775807) (b3 : (-2147483648) ≤ b) (t3 : b ≤ 2147483647) (l0 : hp_a l 0 30) (l1 : hp_i l 1 (a)) (l2 : hp_i l 2 (k)) (l3 : hp_j l 3 (d)) (l5 : hp_i l 5 (b)) (r0 : ∀ (h' : am_H) (y0 : Int32), y0.toInt = (-1) → ly_hy m_tt ly_TH h' → ly_fr cst [] h h' → h.length ≤ h'.length → Φ (some (.int y0), h', 0, 0)) : hp_F cst strs Φ D M 31 l [.int x0] h := by
  refine hp_arc c hM ch4_k hD [a, k, d, b] rfl hy (hp_Bc (z := a) rfl b0 t0 (hp_Bc (z := k) rfl b1 t1 (hp_Bc (z := d) rfl b2 t2 (hp_Bc (z := b) rfl b3 t3 hp_Bn)))) hp_Fn hp_Kn (hp_La l0 (hp_Li (z := (0 + (1 * a + 0))) l1 rfl (by omega) (hp_Li (z := (0 + (1 * k + 0))) l2 rfl (by omega) (hp_Lj (z := (0 + (1 * d + 0))) l3 rfl (by omega) (hp_Li (z := (0 + (1 * b + 0))) l5 rfl (by omega) hp_Ln))))) (hp_Si (z := ((-1) + 0)) rfl (by omega) trivial) ?_ ?_
  · intro p_9 hp ys l' st' h' hys a1_9 a2 a3 gZ gL gS
    cases hp
  · intro p_9 hp ys v_9 h' hys a1_9 a2 a3 gZ gS
    rcases List.mem_cons.mp hp with rfl | hp
    · obtain rfl := hp_y0 hys
      cases v_9 with
      | none => cases gS
      | some wz =>
        obtain ⟨y0, t0, s0_9, q0, -⟩ := hp_gSi (z := ((-1) + 0)) gS rfl
        cases s0_9
        exact r0 h' y0 (by omega) a1_9 a2 a3
    cases hp
theorem ch5_k : hp_chk 55 31 5 [(0, 0, 29), (1, 0, 14), (2, (-9223372036854775808), 9223372036854775807), (3, (-2147483648), 2147483647), (4, 0, 1239)] [] [(0, .inr (.inr (.inl (some 30)))), (1, .inl (0, [(0, 1)])), (2, .inl (0, [(1, 1)])), (3, .inr (.inl (0, [(2, 1)]))), (5, .inl (0, [(3, 1)]))] [.inl (0, [(4, 1)])] [] [] 2 [(44, ([], 5, [(0, 0, 29), (1, 0, 14), (2, (-9223372036854775808), 9223372036854775807), (3, (-2147483648), 2147483647), (4, 0, 1239)], [], [(0, .inr (.inr (.inl (some 30)))), (1, .inl (0, [(0, 1)])), (2, .inl (0, [(1, 1)])), (3, .inr (.inl (0, [(2, 1)]))), (5, .inl (0, [(3, 1)])), (6, .inl (0, [(4, 1)]))], [.inl (0, [(3, 1)]), .inr (.inl (0, [(2, 1)])), .inl (0, [(0, 1)]), .inr (.inr (.inl (some 30)))], []))] [] = true := by decide +kernel
theorem ch5 {cst : am_K} {strs : List Nat} {Φ : am_Q → Prop} {D : Nat} {M : am_M} {h : am_H} {l : am_L} (c : hp_C cst strs D) (hM : m_P[55]? = some M) (hD : (2 : Int) ≤ (D : Int) + 1) (hy : ly_hy m_tt ly_TH h) (a k d b w : Int) (x0 : Int32) (hx0 : x0.toInt = (w)) (b0 : 0 ≤ a) (t0 : a ≤ 29) (b1 : 0 ≤ k) (t1 : k ≤ 14) (b2 : (-9223372036854775808) ≤ d) (t2 : d ≤ 9223372036854775807) (b3 : (-2147483648) ≤ b) (t3 : b ≤ 2147483647) (b4 : 0 ≤ w) (t4 : w ≤ 1239) (l0 : hp_a l 0 30) (l1 : hp_i l 1 (a)) (l2 : hp_i l 2 (k)) (l3 : hp_j l 3 (d)) (l5 : hp_i l 5 (b)) (e0 : ∀ (l' : am_L) (h' : am_H) (y0 : Int32) (y1 : Int64) (y2 : Int32), y0.toInt = (b) → y1.toInt = (d) → y2.toInt = (a) → ly_hy m_tt ly_TH h' → ly_fr cst [] h h' → h.length ≤ h'.length → hp_a l' 0 30 → hp_i l' 1 (a) → hp_i l' 2 (k) → hp_j l' 3 (d) → hp_i l' 5 (b) → hp_i l' 6 (w) → hp_F cst strs Φ D M 44 l' [.int y0, .long y1, .int y2, .ref 30] h') : hp_F cst strs Φ D M 31 l [.int x0] h := by
  refine hp_arc c hM ch5_k hD [a, k, d, b, w] rfl hy (hp_Bc (z := a) rfl b0 t0 (hp_Bc (z := k) rfl b1 t1 (hp_Bc (z := d) rfl b2 t2 (hp_Bc (z := b) rfl b3 t3 (hp_Bc (z := w) rfl b4 t4 hp_Bn))))) hp_Fn hp_Kn (hp_La l0 (hp_Li (z := (0 + (1 * a + 0))) l1 rfl (by omega) (hp_Li (z := (0 + (1 * k + 0))) l2 rfl (by omega) (hp_Lj (z := (0 + (1 * d + 0))) l3 rfl (by omega) (hp_Li (z := (0 + (1 * b + 0))) l5 rfl (by omega) hp_Ln))))) (hp_Si (z := (0 + (1 * w + 0))) rfl (by omega) trivial) ?_ ?_
  · intro p_9 hp ys l' st' h' hys a1_9 a2 a3 gZ gL gS
    rcases List.mem_cons.mp hp with rfl | hp
    · obtain rfl := hp_y0 hys
      obtain ⟨y0, t0, rfl, q0, g0⟩ := hp_gSi (z := (0 + (1 * b + 0))) gS rfl
      obtain ⟨y1, t1, rfl, q1_9, g1⟩ := hp_gSj (z := (0 + (1 * d + 0))) g0 rfl
      obtain ⟨y2, t2, rfl, q2_9, g2⟩ := hp_gSi (z := (0 + (1 * a + 0))) g1 rfl
      obtain ⟨t3, rfl, g3_9⟩ := hp_gSa g2 (by decide)
      cases hp_gSn g3_9
      exact e0 l' h' y0 y1 y2 (by omega) (by omega) (by omega) a1_9 a2 a3 (hp_gLa gL (List.mem_of_getElem? (i := 0) rfl) (by decide)) (hp_gLi (z := (0 + (1 * a + 0))) gL (List.mem_of_getElem? (i := 1) rfl) rfl (by omega)) (hp_gLi (z := (0 + (1 * k + 0))) gL (List.mem_of_getElem? (i := 2) rfl) rfl (by omega)) (hp_gLj (z := (0 + (1 * d + 0))) gL (List.mem_of_getElem? (i := 3) rfl) rfl (by omega)) (hp_gLi (z := (0 + (1 * b + 0))) gL (List.mem_of_getElem? (i := 4) rfl) rfl (by omega)) (hp_gLi (z := (0 + (1 * w + 0))) gL (List.mem_of_getElem? (i := 5) rfl) rfl (by omega))
    cases hp
  · intro p_9 hp ys v_9 h' hys a1_9 a2 a3 gZ gS
    cases hp
theorem ch6_k : hp_chk 55 47 5 [(0, 0, 29), (1, 0, 14), (2, (-9223372036854775808), 9223372036854775807), (3, (-2147483648), 2147483647), (4, 0, 1239)] [] [(0, .inr (.inr (.inl (some 30)))), (1, .inl (0, [(0, 1)])), (2, .inl (0, [(1, 1)])), (3, .inr (.inl (0, [(2, 1)]))), (5, .inl (0, [(3, 1)])), (6, .inl (0, [(4, 1)]))] [.inl (1, [])] [] [] 2 [] [([], 5, [(0, 0, 29), (1, 0, 14), (2, (-9223372036854775808), 9223372036854775807), (3, (-2147483648), 2147483647), (4, 0, 1239)], [], [], [.inl ((-1), [])], [])] = true := by decide +kernel
theorem ch6 {cst : am_K} {strs : List Nat} {Φ : am_Q → Prop} {D : Nat} {M : am_M} {h : am_H} {l : am_L} (c : hp_C cst strs D) (hM : m_P[55]? = some M) (hD : (2 : Int) ≤ (D : Int) + 1) (hy : ly_hy m_tt ly_TH h) (a k d b w : Int) (x0 : Int32) (hx0 : x0.toInt = 1) (b0 : 0 ≤ a) (t0 : a ≤ 29) (b1 : 0 ≤ k) (t1 : k ≤ 14) (b2 : (-9223372036854775808) ≤ d) (t2 : d ≤ 9223372036854775807) (b3 : (-2147483648) ≤ b) (t3 : b ≤ 2147483647) (b4 : 0 ≤ w) (t4 : w ≤ 1239) (l0 : hp_a l 0 30) (l1 : hp_i l 1 (a)) (l2 : hp_i l 2 (k)) (l3 : hp_j l 3 (d)) (l5 : hp_i l 5 (b)) (l6 : hp_i l 6 (w)) (r0 : ∀ (h' : am_H) (y0 : Int32), y0.toInt = (-1) → ly_hy m_tt ly_TH h' → ly_fr cst [] h h' → h.length ≤ h'.length → Φ (some (.int y0), h', 0, 0)) : hp_F cst strs Φ D M 47 l [.int x0] h := by
  refine hp_arc c hM ch6_k hD [a, k, d, b, w] rfl hy (hp_Bc (z := a) rfl b0 t0 (hp_Bc (z := k) rfl b1 t1 (hp_Bc (z := d) rfl b2 t2 (hp_Bc (z := b) rfl b3 t3 (hp_Bc (z := w) rfl b4 t4 hp_Bn))))) hp_Fn hp_Kn (hp_La l0 (hp_Li (z := (0 + (1 * a + 0))) l1 rfl (by omega) (hp_Li (z := (0 + (1 * k + 0))) l2 rfl (by omega) (hp_Lj (z := (0 + (1 * d + 0))) l3 rfl (by omega) (hp_Li (z := (0 + (1 * b + 0))) l5 rfl (by omega) (hp_Li (z := (0 + (1 * w + 0))) l6 rfl (by omega) hp_Ln)))))) (hp_Si (z := (1 + 0)) rfl (by omega) trivial) ?_ ?_
  · intro p_9 hp ys l' st' h' hys a1_9 a2 a3 gZ gL gS
    cases hp
  · intro p_9 hp ys v_9 h' hys a1_9 a2 a3 gZ gS
    rcases List.mem_cons.mp hp with rfl | hp
    · obtain rfl := hp_y0 hys
      cases v_9 with
      | none => cases gS
      | some wz =>
        obtain ⟨y0, t0, s0_9, q0, -⟩ := hp_gSi (z := ((-1) + 0)) gS rfl
        cases s0_9
        exact r0 h' y0 (by omega) a1_9 a2 a3
    cases hp
theorem ch7_k : hp_chk 55 47 5 [(0, 0, 29), (1, 0, 14), (2, (-9223372036854775808), 9223372036854775807), (3, (-2147483648), 2147483647), (4, 0, 1239)] [] [(0, .inr (.inr (.inl (some 30)))), (1, .inl (0, [(0, 1)])), (2, .inl (0, [(1, 1)])), (3, .inr (.inl (0, [(2, 1)]))), (5, .inl (0, [(3, 1)])), (6, .inl (0, [(4, 1)]))] [.inl (0, [])] [] [] 2 [] [([], 5, [(0, 0, 29), (1, 0, 14), (2, (-9223372036854775808), 9223372036854775807), (3, (-2147483648), 2147483647), (4, 0, 1239)], [], [], [.inl (0, [(4, 1)])], [])] = true := by decide +kernel
theorem ch7 {cst : am_K} {strs : List Nat} {Φ : am_Q → Prop} {D : Nat} {M : am_M} {h : am_H} {l : am_L} (c : hp_C cst strs D) (hM : m_P[55]? = some M) (hD : (2 : Int) ≤ (D : Int) + 1) (hy : ly_hy m_tt ly_TH h) (a k d b w : Int) (x0 : Int32) (hx0 : x0.toInt = 0) (b0 : 0 ≤ a) (t0 : a ≤ 29) (b1 : 0 ≤ k) (t1 : k ≤ 14) (b2 : (-9223372036854775808) ≤ d) (t2 : d ≤ 9223372036854775807) (b3 : (-2147483648) ≤ b) (t3 : b ≤ 2147483647) (b4 : 0 ≤ w) (t4 : w ≤ 1239) (l0 : hp_a l 0 30) (l1 : hp_i l 1 (a)) (l2 : hp_i l 2 (k)) (l3 : hp_j l 3 (d)) (l5 : hp_i l 5 (b)) (l6 : hp_i l 6 (w)) (r0 : ∀ (h' : am_H) (y0 : Int32), y0.toInt = (w) → ly_hy m_tt ly_TH h' → ly_fr cst [] h h' → h.length ≤ h'.length → Φ (some (.int y0), h', 0, 0)) : hp_F cst strs Φ D M 47 l [.int x0] h := by
  refine hp_arc c hM ch7_k hD [a, k, d, b, w] rfl hy (hp_Bc (z := a) rfl b0 t0 (hp_Bc (z := k) rfl b1 t1 (hp_Bc (z := d) rfl b2 t2 (hp_Bc (z := b) rfl b3 t3 (hp_Bc (z := w) rfl b4 t4 hp_Bn))))) hp_Fn hp_Kn (hp_La l0 (hp_Li (z := (0 + (1 * a + 0))) l1 rfl (by omega) (hp_Li (z := (0 + (1 * k + 0))) l2 rfl (by omega) (hp_Lj (z := (0 + (1 * d + 0))) l3 rfl (by omega) (hp_Li (z := (0 + (1 * b + 0))) l5 rfl (by omega) (hp_Li (z := (0 + (1 * w + 0))) l6 rfl (by omega) hp_Ln)))))) (hp_Si (z := (0 + 0)) rfl (by omega) trivial) ?_ ?_
  · intro p_9 hp ys l' st' h' hys a1_9 a2 a3 gZ gL gS
    cases hp
  · intro p_9 hp ys v_9 h' hys a1_9 a2 a3 gZ gS
    rcases List.mem_cons.mp hp with rfl | hp
    · obtain rfl := hp_y0 hys
      cases v_9 with
      | none => cases gS
      | some wz =>
        obtain ⟨y0, t0, s0_9, q0, -⟩ := hp_gSi (z := (0 + (1 * w + 0))) gS rfl
        cases s0_9
        exact r0 h' y0 (by omega) a1_9 a2 a3
    cases hp
theorem ci0_k : hp_chk 53 0 4 [(0, 0, 14), (1, (-9223372036854775808), 9223372036854775807), (2, (-2147483648), 2147483647), (3, (-2147483648), 2147483647)] [] [(0, .inr (.inr (.inl (some 30)))), (1, .inl (0, [(0, 1)])), (2, .inr (.inl (0, [(1, 1)]))), (4, .inl (0, [(2, 1)])), (5, .inl (0, [(3, 1)]))] [] [] [] 2 [(5, ([], 4, [(0, 0, 14), (1, (-9223372036854775808), 9223372036854775807), (2, (-2147483648), 2147483647), (3, (-2147483648), 2147483647)], [], [(0, .inr (.inr (.inl (some 30)))), (1, .inl (0, [(0, 1)])), (2, .inr (.inl (0, [(1, 1)]))), (4, .inl (0, [(2, 1)])), (5, .inl (0, [(3, 1)]))], [.inl (0, [(3, 1)]), .inl (0, [(2, 1)]), .inr (.inr (.inl (some 30)))], []))] [] = true := by decide +kernel
theorem ci0 {cst : am_K} {strs : List Nat} {Φ : am_Q → Prop} {D : Nat} {M : am_M} {h : am_H} {l : am_L} (c : hp_C cst strs D) (hM : m_P[53]? = some M) (hD : (2 : Int) ≤ (D : Int) + 1) (hy : ly_hy m_tt ly_TH h) (k d y s : Int) (b0 : 0 ≤ k) (t0 : k ≤ 14) (b1 : (-9223372036854775808) ≤ d) (t1 : d ≤ 9223372036854775807) (b2 : (-2147483648) ≤ y) (t2 : y ≤ 2147483647) (b3 : (-2147483648) ≤ s) (t3 : s ≤ 2147483647) (l0 : hp_a l 0 30) (l1 : hp_i l 1 (k)) (l2 : hp_j l 2 (d)) (l4 : hp_i l 4 (y)) (l5 : hp_i l 5 (s)) (e0 : ∀ (l' : am_L) (h' : am_H) (y0 : Int32) (y1 : Int32), y0.toInt = (s) → y1.toInt = (y) → ly_hy m_tt ly_TH h' → ly_fr cst [] h h' → h.length ≤ h'.length → hp_a l' 0 30 → hp_i l' 1 (k) → hp_j l' 2 (d) → hp_i l' 4 (y) → hp_i l' 5 (s) → hp_F cst strs Φ D M 5 l' [.int y0, .int y1, .ref 30] h') : hp_F cst strs Φ D M 0 l [] h := by
  refine hp_arc c hM ci0_k hD [k, d, y, s] rfl hy (hp_Bc (z := k) rfl b0 t0 (hp_Bc (z := d) rfl b1 t1 (hp_Bc (z := y) rfl b2 t2 (hp_Bc (z := s) rfl b3 t3 hp_Bn)))) hp_Fn hp_Kn (hp_La l0 (hp_Li (z := (0 + (1 * k + 0))) l1 rfl (by omega) (hp_Lj (z := (0 + (1 * d + 0))) l2 rfl (by omega) (hp_Li (z := (0 + (1 * y + 0))) l4 rfl (by omega) (hp_Li (z := (0 + (1 * s + 0))) l5 rfl (by omega) hp_Ln))))) trivial ?_ ?_
  · intro p_9 hp ys l' st' h' hys a1_9 a2 a3 gZ gL gS
    rcases List.mem_cons.mp hp with rfl | hp
    · obtain rfl := hp_y0 hys
      obtain ⟨y0, t0, rfl, q0, g0⟩ := hp_gSi (z := (0 + (1 * s + 0))) gS rfl
      obtain ⟨y1, t1, rfl, q1_9, g1⟩ := hp_gSi (z := (0 + (1 * y + 0))) g0 rfl
      obtain ⟨t2, rfl, g2⟩ := hp_gSa g1 (by decide)
      cases hp_gSn g2
      exact e0 l' h' y0 y1 (by omega) (by omega) a1_9 a2 a3 (hp_gLa gL (List.mem_of_getElem? (i := 0) rfl) (by decide)) (hp_gLi (z := (0 + (1 * k + 0))) gL (List.mem_of_getElem? (i := 1) rfl) rfl (by omega)) (hp_gLj (z := (0 + (1 * d + 0))) gL (List.mem_of_getElem? (i := 2) rfl) rfl (by omega)) (hp_gLi (z := (0 + (1 * y + 0))) gL (List.mem_of_getElem? (i := 3) rfl) rfl (by omega)) (hp_gLi (z := (0 + (1 * s + 0))) gL (List.mem_of_getElem? (i := 4) rfl) rfl (by omega))
    cases hp
  · intro p_9 hp ys v_9 h' hys a1_9 a2 a3 gZ gS
    cases hp
theorem ci1_k : hp_chk 53 8 6 [(0, 0, 14), (1, (-9223372036854775808), 9223372036854775807), (2, (-2147483648), 2147483647), (3, (-2147483648), 2147483647), (4, (-2147483648), 2147483647), (5, 0, 30)] [] [(0, .inr (.inr (.inl (some 30)))), (1, .inl (0, [(0, 1)])), (2, .inr (.inl (0, [(1, 1)]))), (4, .inl (0, [(2, 1)])), (5, .inl (0, [(3, 1)]))] [.inl (0, [(4, 1)])] [(3584, (0, []), (0, [(5, 1)]))] [] 2 [(18, ([], 6, [(0, 0, 14), (1, (-9223372036854775808), 9223372036854775807), (2, (-2147483648), 2147483647), (3, (-2147483648), 2147483647), (4, (-2147483648), 2147483647), (5, 0, 30)], [], [(0, .inr (.inr (.inl (some 30)))), (1, .inl (0, [(0, 1)])), (2, .inr (.inl (0, [(1, 1)]))), (4, .inl (0, [(2, 1)])), (5, .inl (0, [(3, 1)])), (6, .inl (0, [(4, 1)])), (7, .inl ((-1), [(5, 1)]))], [], []))] [] = true := by decide +kernel
theorem ci1 {cst : am_K} {strs : List Nat} {Φ : am_Q → Prop} {D : Nat} {M : am_M} {h : am_H} {l : am_L} (c : hp_C cst strs D) (hM : m_P[53]? = some M) (hD : (2 : Int) ≤ (D : Int) + 1) (hy : ly_hy m_tt ly_TH h) (k d y s b n : Int) (x0 : Int32) (hx0 : x0.toInt = (b)) (b0 : 0 ≤ k) (t0 : k ≤ 14) (b1 : (-9223372036854775808) ≤ d) (t1 : d ≤ 9223372036854775807) (b2 : (-2147483648) ≤ y) (t2 : y ≤ 2147483647) (b3 : (-2147483648) ≤ s) (t3 : s ≤ 2147483647) (b4 : (-2147483648) ≤ b) (t4 : b ≤ 2147483647) (b5 : 0 ≤ n) (t5 : n ≤ 30) (k0 : ly_hv cst h 3584 0 = some (n)) (l0 : hp_a l 0 30) (l1 : hp_i l 1 (k)) (l2 : hp_j l 2 (d)) (l4 : hp_i l 4 (y)) (l5 : hp_i l 5 (s)) (e0 : ∀ (l' : am_L) (h' : am_H), ly_hy m_tt ly_TH h' → ly_fr cst [] h h' → h.length ≤ h'.length → hp_a l' 0 30 → hp_i l' 1 (k) → hp_j l' 2 (d) → hp_i l' 4 (y) → hp_i l' 5 (s) → hp_i l' 6 (b) → hp_i l' 7 (n - 1) → hp_F cst strs Φ D M 18 l' [] h') : hp_F cst strs Φ D M 8 l [.int x0] h := by
  refine hp_arc c hM ci1_k hD [k, d, y, s, b, n] rfl hy (hp_Bc (z := k) rfl b0 t0 (hp_Bc (z := d) rfl b1 t1 (hp_Bc (z := y) rfl b2 t2 (hp_Bc (z := s) rfl b3 t3 (hp_Bc (z := b) rfl b4 t4 (hp_Bc (z := n) rfl b5 t5 hp_Bn)))))) hp_Fn (hp_Kc (zi := (0 + 0)) (zv := (0 + (1 * n + 0))) k0 rfl rfl (by omega) (by omega) hp_Kn) (hp_La l0 (hp_Li (z := (0 + (1 * k + 0))) l1 rfl (by omega) (hp_Lj (z := (0 + (1 * d + 0))) l2 rfl (by omega) (hp_Li (z := (0 + (1 * y + 0))) l4 rfl (by omega) (hp_Li (z := (0 + (1 * s + 0))) l5 rfl (by omega) hp_Ln))))) (hp_Si (z := (0 + (1 * b + 0))) rfl (by omega) trivial) ?_ ?_
  · intro p_9 hp ys l' st' h' hys a1_9 a2 a3 gZ gL gS
    rcases List.mem_cons.mp hp with rfl | hp
    · obtain rfl := hp_y0 hys
      cases hp_gSn gS
      exact e0 l' h' a1_9 a2 a3 (hp_gLa gL (List.mem_of_getElem? (i := 0) rfl) (by decide)) (hp_gLi (z := (0 + (1 * k + 0))) gL (List.mem_of_getElem? (i := 1) rfl) rfl (by omega)) (hp_gLj (z := (0 + (1 * d + 0))) gL (List.mem_of_getElem? (i := 2) rfl) rfl (by omega)) (hp_gLi (z := (0 + (1 * y + 0))) gL (List.mem_of_getElem? (i := 3) rfl) rfl (by omega)) (hp_gLi (z := (0 + (1 * s + 0))) gL (List.mem_of_getElem? (i := 4) rfl) rfl (by omega)) (hp_gLi (z := (0 + (1 * b + 0))) gL (List.mem_of_getElem? (i := 5) rfl) rfl (by omega)) (hp_gLi (z := ((-1) + (1 * n + 0))) gL (List.mem_of_getElem? (i := 6) rfl) rfl (by omega))
    cases hp
  · intro p_9 hp ys v_9 h' hys a1_9 a2 a3 gZ gS
    cases hp
theorem ci2_k : hp_chk 53 18 5 [(0, 0, 14), (1, (-9223372036854775808), 9223372036854775807), (2, (-2147483648), 2147483647), (3, (-2147483648), 2147483647), (4, (-2147483648), 2147483647)] [] [(0, .inr (.inr (.inl (some 30)))), (1, .inl (0, [(0, 1)])), (2, .inr (.inl (0, [(1, 1)]))), (4, .inl (0, [(2, 1)])), (5, .inl (0, [(3, 1)])), (6, .inl (0, [(4, 1)])), (7, .inl ((-1), []))] [] [] [] 2 [] [([], 5, [(0, 0, 14), (1, (-9223372036854775808), 9223372036854775807), (2, (-2147483648), 2147483647), (3, (-2147483648), 2147483647), (4, (-2147483648), 2147483647)], [], [], [.inl ((-1), [])], [])] = true := by decide +kernel
theorem ci2 {cst : am_K} {strs : List Nat} {Φ : am_Q → Prop} {D : Nat} {M : am_M} {h : am_H} {l : am_L} (c : hp_C cst strs D) (hM : m_P[53]? = some M) (hD : (2 : Int) ≤ (D : Int) + 1) (hy : ly_hy m_tt ly_TH h) (k d y s b : Int) (b0 : 0 ≤ k) (t0 : k ≤ 14) (b1 : (-9223372036854775808) ≤ d) (t1 : d ≤ 9223372036854775807) (b2 : (-2147483648) ≤ y) (t2 : y ≤ 2147483647) (b3 : (-2147483648) ≤ s) (t3 : s ≤ 2147483647) (b4 : (-2147483648) ≤ b) (t4 : b ≤ 2147483647) (l0 : hp_a l 0 30) (l1 : hp_i l 1 (k)) (l2 : hp_j l 2 (d)) (l4 : hp_i l 4 (y)) (l5 : hp_i l 5 (s)) (l6 : hp_i l 6 (b)) (l7 : hp_i l 7 (-1)) (r0 : ∀ (h' : am_H) (y0 : Int32), y0.toInt = (-1) → ly_hy m_tt ly_TH h' → ly_fr cst [] h h' → h.length ≤ h'.length → Φ (some (.int y0), h', 0, 0)) : hp_F cst strs Φ D M 18 l [] h := by
  refine hp_arc c hM ci2_k hD [k, d, y, s, b] rfl hy (hp_Bc (z := k) rfl b0 t0 (hp_Bc (z := d) rfl b1 t1 (hp_Bc (z := y) rfl b2 t2 (hp_Bc (z := s) rfl b3 t3 (hp_Bc (z := b) rfl b4 t4 hp_Bn))))) hp_Fn hp_Kn (hp_La l0 (hp_Li (z := (0 + (1 * k + 0))) l1 rfl (by omega) (hp_Lj (z := (0 + (1 * d + 0))) l2 rfl (by omega) (hp_Li (z := (0 + (1 * y + 0))) l4 rfl (by omega) (hp_Li (z := (0 + (1 * s + 0))) l5 rfl (by omega) (hp_Li (z := (0 + (1 * b + 0))) l6 rfl (by omega) (hp_Li (z := ((-1) + 0)) l7 rfl (by omega) hp_Ln))))))) trivial ?_ ?_
  · intro p_9 hp ys l' st' h' hys a1_9 a2 a3 gZ gL gS
    cases hp
  · intro p_9 hp ys v_9 h' hys a1_9 a2 a3 gZ gS
    rcases List.mem_cons.mp hp with rfl | hp
    · obtain rfl := hp_y0 hys
      cases v_9 with
      | none => cases gS
      | some wz =>
        obtain ⟨y0, t0, s0_9, q0, -⟩ := hp_gSi (z := ((-1) + 0)) gS rfl
        cases s0_9
        exact r0 h' y0 (by omega) a1_9 a2 a3
    cases hp
theorem ci3_k : hp_chk 53 18 6 [(0, 0, 14), (1, (-9223372036854775808), 9223372036854775807), (2, (-2147483648), 2147483647), (3, (-2147483648), 2147483647), (4, (-2147483648), 2147483647), (5, 0, 29)] [] [(0, .inr (.inr (.inl (some 30)))), (1, .inl (0, [(0, 1)])), (2, .inr (.inl (0, [(1, 1)]))), (4, .inl (0, [(2, 1)])), (5, .inl (0, [(3, 1)])), (6, .inl (0, [(4, 1)])), (7, .inl (0, [(5, 1)]))] [] [] [] 2 [(30, ([], 6, [(0, 0, 14), (1, (-9223372036854775808), 9223372036854775807), (2, (-2147483648), 2147483647), (3, (-2147483648), 2147483647), (4, (-2147483648), 2147483647), (5, 0, 29)], [], [(0, .inr (.inr (.inl (some 30)))), (1, .inl (0, [(0, 1)])), (2, .inr (.inl (0, [(1, 1)]))), (4, .inl (0, [(2, 1)])), (5, .inl (0, [(3, 1)])), (6, .inl (0, [(4, 1)])), (7, .inl (0, [(5, 1)]))], [.inl (0, [(4, 1)]), .inr (.inl (0, [(1, 1)])), .inl (0, [(0, 1)]), .inl (0, [(5, 1)]), .inr (.inr (.inl (some 30)))], []))] [] = true := by decide +kernel
theorem ci3 {cst : am_K} {strs : List Nat} {Φ : am_Q → Prop} {D : Nat} {M : am_M} {h : am_H} {l : am_L} (c : hp_C cst strs D) (hM : m_P[53]? = some M) (hD : (2 : Int) ≤ (D : Int) + 1) (hy : ly_hy m_tt ly_TH h) (k d y s b a : Int) (b0 : 0 ≤ k) (t0 : k ≤ 14) (b1 : (-9223372036854775808) ≤ d) (t1 : d ≤ 9223372036854775807) (b2 : (-2147483648) ≤ y) (t2 : y ≤ 2147483647) (b3 : (-2147483648) ≤ s) (t3 : s ≤ 2147483647) (b4 : (-2147483648) ≤ b) (t4 : b ≤ 2147483647) (b5 : 0 ≤ a) (t5 : a ≤ 29) (l0 : hp_a l 0 30) (l1 : hp_i l 1 (k)) (l2 : hp_j l 2 (d)) (l4 : hp_i l 4 (y)) (l5 : hp_i l 5 (s)) (l6 : hp_i l 6 (b)) (l7 : hp_i l 7 (a)) (e0 : ∀ (l' : am_L) (h' : am_H) (y0 : Int32) (y1 : Int64) (y2 : Int32) (y3 : Int32), y0.toInt = (b) → y1.toInt = (d) → y2.toInt = (k) → y3.toInt = (a) → ly_hy m_tt ly_TH h' → ly_fr cst [] h h' → h.length ≤ h'.length → hp_a l' 0 30 → hp_i l' 1 (k) → hp_j l' 2 (d) → hp_i l' 4 (y) → hp_i l' 5 (s) → hp_i l' 6 (b) → hp_i l' 7 (a) → hp_F cst strs Φ D M 30 l' [.int y0, .long y1, .int y2, .int y3, .ref 30] h') : hp_F cst strs Φ D M 18 l [] h := by
  refine hp_arc c hM ci3_k hD [k, d, y, s, b, a] rfl hy (hp_Bc (z := k) rfl b0 t0 (hp_Bc (z := d) rfl b1 t1 (hp_Bc (z := y) rfl b2 t2 (hp_Bc (z := s) rfl b3 t3 (hp_Bc (z := b) rfl b4 t4 (hp_Bc (z := a) rfl b5 t5 hp_Bn)))))) hp_Fn hp_Kn (hp_La l0 (hp_Li (z := (0 + (1 * k + 0))) l1 rfl (by omega) (hp_Lj (z := (0 + (1 * d + 0))) l2 rfl (by omega) (hp_Li (z := (0 + (1 * y + 0))) l4 rfl (by omega) (hp_Li (z := (0 + (1 * s + 0))) l5 rfl (by omega) (hp_Li (z := (0 + (1 * b + 0))) l6 rfl (by omega) (hp_Li (z := (0 + (1 * a + 0))) l7 rfl (by omega) hp_Ln))))))) trivial ?_ ?_
  · intro p_9 hp ys l' st' h' hys a1_9 a2 a3 gZ gL gS
    rcases List.mem_cons.mp hp with rfl | hp
    · obtain rfl := hp_y0 hys
      obtain ⟨y0, t0, rfl, q0, g0⟩ := hp_gSi (z := (0 + (1 * b + 0))) gS rfl
      obtain ⟨y1, t1, rfl, q1_9, g1⟩ := hp_gSj (z := (0 + (1 * d + 0))) g0 rfl
      obtain ⟨y2, t2, rfl, q2_9, g2⟩ := hp_gSi (z := (0 + (1 * k + 0))) g1 rfl
      obtain ⟨y3, t3, rfl, q3_9, g3_9⟩ := hp_gSi (z := (0 + (1 * a + 0))) g2 rfl
      obtain ⟨t4, rfl, g4⟩ := hp_gSa g3_9 (by decide)
      cases hp_gSn g4
      exact e0 l' h' y0 y1 y2 y3 (by omega) (by omega) (by omega) (by omega) a1_9 a2 a3 (hp_gLa gL (List.mem_of_getElem? (i := 0) rfl) (by decide)) (hp_gLi (z := (0 + (1 * k + 0))) gL (List.mem_of_getElem? (i := 1) rfl) rfl (by omega)) (hp_gLj (z := (0 + (1 * d + 0))) gL (List.mem_of_getElem? (i := 2) rfl) rfl (by omega)) (hp_gLi (z := (0 + (1 * y + 0))) gL (List.mem_of_getElem? (i := 3) rfl) rfl (by omega)) (hp_gLi (z := (0 + (1 * s + 0))) gL (List.mem_of_getElem? (i := 4) rfl) rfl (by omega)) (hp_gLi (z := (0 + (1 * b + 0))) gL (List.mem_of_getElem? (i := 5) rfl) rfl (by omega)) (hp_gLi (z := (0 + (1 * a + 0))) gL (List.mem_of_getElem? (i := 6) rfl) rfl (by omega))
    cases hp
  · intro p_9 hp ys v_9 h' hys a1_9 a2 a3 gZ gS
    cases hp
theorem ci4_k : hp_chk 53 33 6 [(0, 0, 14), (1, (-9223372036854775808), 9223372036854775807), (2, (-2147483648), 2147483647), (3, (-2147483648), 2147483647), (4, (-2147483648), 2147483647), (5, 0, 29)] [] [(0, .inr (.inr (.inl (some 30)))), (1, .inl (0, [(0, 1)])), (2, .inr (.inl (0, [(1, 1)]))), (4, .inl (0, [(2, 1)])), (5, .inl (0, [(3, 1)])), (6, .inl (0, [(4, 1)])), (7, .inl (0, [(5, 1)]))] [.inl ((-1), [])] [] [] 2 [(18, ([], 6, [(0, 0, 14), (1, (-9223372036854775808), 9223372036854775807), (2, (-2147483648), 2147483647), (3, (-2147483648), 2147483647), (4, (-2147483648), 2147483647), (5, 0, 29)], [], [(0, .inr (.inr (.inl (some 30)))), (1, .inl (0, [(0, 1)])), (2, .inr (.inl (0, [(1, 1)]))), (4, .inl (0, [(2, 1)])), (5, .inl (0, [(3, 1)])), (6, .inl (0, [(4, 1)])), (7, .inl ((-1), [(5, 1)]))], [], []))] [] = true := by decide +kernel
theorem ci4 {cst : am_K} {strs : List Nat} {Φ : am_Q → Prop} {D : Nat} {M : am_M} {h : am_H} {l : am_L} (c : hp_C cst strs D) (hM : m_P[53]? = some M) (hD : (2 : Int) ≤ (D : Int) + 1) (hy : ly_hy m_tt ly_TH h) (k d y s b a : Int) (x0 : Int32) (hx0 : x0.toInt = (-1)) (b0 : 0 ≤ k) (t0 : k ≤ 14) (b1 : (-9223372036854775808) ≤ d) (t1 : d ≤ 9223372036854775807) (b2 : (-2147483648) ≤ y) (t2 : y ≤ 2147483647) (b3 : (-2147483648) ≤ s) (t3 : s ≤ 2147483647) (b4 : (-2147483648) ≤ b) (t4 : b ≤ 2147483647) (b5 : 0 ≤ a) (t5 : a ≤ 29) (l0 : hp_a l 0 30) (l1 : hp_i l 1 (k)) (l2 : hp_j l 2 (d)) (l4 : hp_i l 4 (y)) (l5 : hp_i l 5 (s)) (l6 : hp_i l 6 (b)) (l7 : hp_i l 7 (a)) (e0 : ∀ (l' : am_L) (h' : am_H), ly_hy m_tt ly_TH h' → ly_fr cst [] h h' → h.length ≤ h'.length → hp_a l' 0 30 → hp_i l' 1 (k) → hp_j l' 2 (d) → hp_i l' 4 (y) → hp_i l' 5 (s) → hp_i l' 6 (b) → hp_i l' 7 (a - 1) → hp_F cst strs Φ D M 18 l' [] h') : hp_F cst strs Φ D M 33 l [.int x0] h := by
  refine hp_arc c hM ci4_k hD [k, d, y, s, b, a] rfl hy (hp_Bc (z := k) rfl b0 t0 (hp_Bc (z := d) rfl b1 t1 (hp_Bc (z := y) rfl b2 t2 (hp_Bc (z := s) rfl b3 t3 (hp_Bc (z := b) rfl b4 t4 (hp_Bc (z := a) rfl b5 t5 hp_Bn)))))) hp_Fn hp_Kn (hp_La l0 (hp_Li (z := (0 + (1 * k + 0))) l1 rfl (by omega) (hp_Lj (z := (0 + (1 * d + 0))) l2 rfl (by omega) (hp_Li (z := (0 + (1 * y + 0))) l4 rfl (by omega) (hp_Li (z := (0 + (1 * s + 0))) l5 rfl (by omega) (hp_Li (z := (0 + (1 * b + 0))) l6 rfl (by omega) (hp_Li (z := (0 + (1 * a + 0))) l7 rfl (by omega) hp_Ln))))))) (hp_Si (z := ((-1) + 0)) rfl (by omega) trivial) ?_ ?_
  · intro p_9 hp ys l' st' h' hys a1_9 a2 a3 gZ gL gS
    rcases List.mem_cons.mp hp with rfl | hp
    · obtain rfl := hp_y0 hys
      cases hp_gSn gS
      exact e0 l' h' a1_9 a2 a3 (hp_gLa gL (List.mem_of_getElem? (i := 0) rfl) (by decide)) (hp_gLi (z := (0 + (1 * k + 0))) gL (List.mem_of_getElem? (i := 1) rfl) rfl (by omega)) (hp_gLj (z := (0 + (1 * d + 0))) gL (List.mem_of_getElem? (i := 2) rfl) rfl (by omega)) (hp_gLi (z := (0 + (1 * y + 0))) gL (List.mem_of_getElem? (i := 3) rfl) rfl (by omega)) (hp_gLi (z := (0 + (1 * s + 0))) gL (List.mem_of_getElem? (i := 4) rfl) rfl (by omega)) (hp_gLi (z := (0 + (1 * b + 0))) gL (List.mem_of_getElem? (i := 5) rfl) rfl (by omega)) (hp_gLi (z := ((-1) + (1 * a + 0))) gL (List.mem_of_getElem? (i := 6) rfl) rfl (by omega))
    cases hp
  · intro p_9 hp ys v_9 h' hys a1_9 a2 a3 gZ gS
    cases hp
theorem ci5_k : hp_chk 53 33 7 [(0, 0, 14), (1, (-9223372036854775808), 9223372036854775807), (2, (-2147483648), 2147483647), (3, (-2147483648), 2147483647), (4, (-2147483648), 2147483647), (5, 0, 29), (6, 0, 1239)] [] [(0, .inr (.inr (.inl (some 30)))), (1, .inl (0, [(0, 1)])), (2, .inr (.inl (0, [(1, 1)]))), (4, .inl (0, [(2, 1)])), (5, .inl (0, [(3, 1)])), (6, .inl (0, [(4, 1)])), (7, .inl (0, [(5, 1)]))] [.inl (0, [(6, 1)])] [] [] 2 [] [([], 7, [(0, 0, 14), (1, (-9223372036854775808), 9223372036854775807), (2, (-2147483648), 2147483647), (3, (-2147483648), 2147483647), (4, (-2147483648), 2147483647), (5, 0, 29), (6, 0, 1239)], [], [], [.inl (0, [(6, 1)])], [])] = true := by decide +kernel
theorem ci5 {cst : am_K} {strs : List Nat} {Φ : am_Q → Prop} {D : Nat} {M : am_M} {h : am_H} {l : am_L} (c : hp_C cst strs D) (hM : m_P[53]? = some M) (hD : (2 : Int) ≤ (D : Int) + 1) (hy : ly_hy m_tt ly_TH h) (k d y s b a w : Int) (x0 : Int32) (hx0 : x0.toInt = (w)) (b0 : 0 ≤ k) (t0 : k ≤ 14) (b1 : (-9223372036854775808) ≤ d) (t1 : d ≤ 9223372036854775807) (b2 : (-2147483648) ≤ y) (t2 : y ≤ 2147483647) (b3 : (-2147483648) ≤ s) (t3 : s ≤ 2147483647) (b4 : (-2147483648) ≤ b) (t4 : b ≤ 2147483647) (b5 : 0 ≤ a) (t5 : a ≤ 29) (b6 : 0 ≤ w) (t6 : w ≤ 1239) (l0 : hp_a l 0 30) (l1 : hp_i l 1 (k)) (l2 : hp_j l 2 (d)) (l4 : hp_i l 4 (y)) (l5 : hp_i l 5 (s)) (l6 : hp_i l 6 (b)) (l7 : hp_i l 7 (a)) (r0 : ∀ (h' : am_H) (y0 : Int32), y0.toInt = (w) → ly_hy m_tt ly_TH h' → ly_fr cst [] h h' → h.length ≤ h'.length → Φ (some (.int y0), h', 0, 0)) : hp_F cst strs Φ D M 33 l [.int x0] h := by
  refine hp_arc c hM ci5_k hD [k, d, y, s, b, a, w] rfl hy (hp_Bc (z := k) rfl b0 t0 (hp_Bc (z := d) rfl b1 t1 (hp_Bc (z := y) rfl b2 t2 (hp_Bc (z := s) rfl b3 t3 (hp_Bc (z := b) rfl b4 t4 (hp_Bc (z := a) rfl b5 t5 (hp_Bc (z := w) rfl b6 t6 hp_Bn))))))) hp_Fn hp_Kn (hp_La l0 (hp_Li (z := (0 + (1 * k + 0))) l1 rfl (by omega) (hp_Lj (z := (0 + (1 * d + 0))) l2 rfl (by omega) (hp_Li (z := (0 + (1 * y + 0))) l4 rfl (by omega) (hp_Li (z := (0 + (1 * s + 0))) l5 rfl (by omega) (hp_Li (z := (0 + (1 * b + 0))) l6 rfl (by omega) (hp_Li (z := (0 + (1 * a + 0))) l7 rfl (by omega) hp_Ln))))))) (hp_Si (z := (0 + (1 * w + 0))) rfl (by omega) trivial) ?_ ?_
  · intro p_9 hp ys l' st' h' hys a1_9 a2 a3 gZ gL gS
    cases hp
  · intro p_9 hp ys v_9 h' hys a1_9 a2 a3 gZ gS
    rcases List.mem_cons.mp hp with rfl | hp
    · obtain rfl := hp_y0 hys
      cases v_9 with
      | none => cases gS
      | some wz =>
        obtain ⟨y0, t0, s0_9, q0, -⟩ := hp_gSi (z := (0 + (1 * w + 0))) gS rfl
        cases s0_9
        exact r0 h' y0 (by omega) a1_9 a2 a3
    cases hp
/-- the first clause of the KIND k and the deed d among C -/
def fcl (k d : Int) (C : List cl) (j : Nat) : Prop := ∃ hj : j < C.length, (C[j]).1 = k ∧ (C[j]).2.1 = d ∧ ∀ i (hi : i < C.length), i < j → ¬ ((C[i]).1 = k ∧ (C[i]).2.1 = d)
def ncl (k d : Int) (C : List cl) : Prop := ∀ i (hi : i < C.length), ¬ ((C[i]).1 = k ∧ (C[i]).2.1 = d)
theorem fcl_u {k d : Int} {C : List cl} {i j : Nat} (A : fcl k d C i) (B : fcl k d C j) : i = j := by
  obtain ⟨h1, a1_9, a2, a3⟩ := A
  obtain ⟨h2, b1, b2, b3⟩ := B
  rcases Nat.lt_trichotomy i j with z_9 | z_9 | z_9
  · exact absurd ⟨a1_9, a2⟩ (b3 i h1 z_9)
  · exact z_9
  · exact absurd ⟨b1, b2⟩ (a3 j h2 z_9)
/-- a later act that is begun strikes the act a (or its deed d) -/
def stk (X : List rX) (y s d : Int) (a : Nat) : Prop := ∃ (b i : Nat) (hb : b < X.length) (hi : i < (X[b]).2.2.1.length), a < b ∧ bgn y s (X[b]) = true ∧ ((X[b]).2.2.1[i]).1 = 14 ∧ ((X[b]).2.2.1[i]).2.2.1 = (a : Int) ∧ (((X[b]).2.2.1[i]).2.1 = 0 ∨ ((X[b]).2.2.1[i]).2.1 = d)
/-- the clause j of the act a holds -/
def hol (X : List rX) (k d y s : Int) (a j : Nat) : Prop := ∃ ha : a < X.length, bgn y s (X[a]) = true ∧ fcl k d (X[a]).2.2.1 j ∧ ¬ stk X y s d a
def inF (X : List rX) (k d y s : Int) (a j : Nat) : Prop := hol X k d y s a j ∧ ∀ a' j', a < a' → ¬ hol X k d y s a' j'
def noF (X : List rX) (k d y s : Int) : Prop := ∀ a j, ¬ hol X k d y s a j
theorem inF_u {X : List rX} {k d y s : Int} {a j a' j' : Nat} (A : inF X k d y s a j) (B : inF X k d y s a' j') : a = a' ∧ j = j' := by
  rcases Nat.lt_trichotomy a a' with z_9 | z_9 | z_9
  · exact absurd B.1 (A.2 a' j' z_9)
  · subst z_9
    obtain ⟨⟨h1, -, f1_9, -⟩, -⟩ := A
    obtain ⟨⟨h2, -, f2_9, -⟩, -⟩ := B
    exact ⟨rfl, fcl_u f1_9 f2_9⟩
  · exact absurd A.1 (B.2 a j z_9)
set_option maxRecDepth 8000 in
theorem cg_lp {cst : am_K} {strs : List Nat} {D : Nat} {M : am_M} {h0 : am_H} (c : hp_C cst strs D) (hM : m_P[56]? = some M) (hD : 1 ≤ D) {f : Nat} {C : List cl} (rm : f + C.length ≤ 1240) (R1 : ∀ i (hi : i < C.length), ly_hv cst h0 4608 ((f : Int) + (i : Int)) = some (C[i]).1) (R2 : ∀ i (hi : i < C.length), ly_hv cst h0 4864 ((f : Int) + (i : Int)) = some (C[i]).2.1) {k d : Int} (k0 : 0 ≤ k) (k1 : k ≤ 14) (d0 : -9223372036854775808 ≤ d) (d1 : d ≤ 9223372036854775807) : ∀ (Q : Nat) (h : am_H) (l : am_L) (i : Nat), C.length - i < Q → i ≤ C.length → ly_hy m_tt ly_TH h → ly_fr cst [] h0 h → (∀ j (hj : j < C.length), j < i → ¬ ((C[j]).1 = k ∧ (C[j]).2.1 = d)) → hp_a l 0 30 → hp_i l 1 (f : Int) → hp_i l 2 ((f : Int) + (C.length : Int)) → hp_i l 3 k → hp_j l 4 d → hp_i l 6 ((f : Int) + (i : Int)) → hp_F cst strs (fun r : am_Q => ∃ w : Int32, r.1 = some (.int w) ∧ r.2.2.1 = 0 ∧ r.2.2.2 = 0 ∧ ly_hy m_tt ly_TH r.2.1 ∧ ly_fr cst [] h0 r.2.1 ∧ ((∃ j, fcl k d C j ∧ w.toInt = (f : Int) + (j : Int)) ∨ (ncl k d C ∧ w.toInt = -1))) D M 3 l [] h := by
  intro Q
  induction Q with
  | zero => intro h l i hN_9; omega
  | succ Q ih_9 =>
    intro h l i hN_9 hi hy fr_9 ne_9 l0 l1 l2 l3 l4 l6
    by_cases z_9 : i = C.length
    · rw [z_9] at l6
      exact cm4 c hM (by omega) hy (f : Int) ((f : Int) + (C.length : Int)) k d (by omega) (by omega) (by omega) (by omega) k0 k1 d0 d1 l0 l1 l2 l3 l4 l6 (fun h2 w hw u1_9 u2_9 u3 => ⟨w, rfl, rfl, rfl, u1_9, ly_fr_tr fr_9 u2_9, Or.inr ⟨fun j hj => ne_9 j hj (by omega), hw⟩⟩)
    · have hl : i < C.length := by omega
      have kk := fr_9 _ _ _ rfl (R1 i hl)
      have kd := fr_9 _ _ _ rfl (R2 i hl)
      obtain ⟨v_9, kv, v0_9, v1_9⟩ := hp_row (cst := cst) (i := (f : Int) + (i : Int)) hy (show ly_ths ly_TH 18 = some (.inl (.int, 1240, -2147483648, 2147483647)) from rfl) (by omega) (by omega)
      have kv : ly_hv cst h 4608 ((f : Int) + (i : Int)) = some v_9 := kv
      rw [kk] at kv
      have ev_9 := Option.some.inj kv
      obtain ⟨w, kw', w0_9, w1_9⟩ := hp_rowj (cst := cst) (i := (f : Int) + (i : Int)) hy (show ly_ths ly_TH 19 = some (.inl (.long, 1240, 0, 0)) from rfl) (by omega) (by omega)
      have kw' : ly_hv cst h 4864 ((f : Int) + (i : Int)) = some w := kw'
      rw [kd] at kw'
      have ew := Option.some.inj kw'
      have w0_9 : -9223372036854775808 ≤ w := w0_9
      have w1_9 : w ≤ 9223372036854775807 := w1_9
      have nx : ¬ ((C[i]).1 = k ∧ (C[i]).2.1 = d) → ∀ (l3' : am_L) (h3 : am_H), ly_hy m_tt ly_TH h3 → ly_fr cst [] h h3 → h.length ≤ h3.length → hp_a l3' 0 30 → hp_i l3' 1 (f : Int) → hp_i l3' 2 ((f : Int) + (C.length : Int)) → hp_i l3' 3 k → hp_j l3' 4 d → hp_i l3' 6 ((f : Int) + (i : Int) + 1) → hp_F cst strs (fun r : am_Q => ∃ w : Int32, r.1 = some (.int w) ∧ r.2.2.1 = 0 ∧ r.2.2.2 = 0 ∧ ly_hy m_tt ly_TH r.2.1 ∧ ly_fr cst [] h0 r.2.1 ∧ ((∃ j, fcl k d C j ∧ w.toInt = (f : Int) + (j : Int)) ∨ (ncl k d C ∧ w.toInt = -1))) D M 3 l3' [] h3 := fun e_9 l3' h3 u1_9 u2_9 u3 m0_9 m1_9 m2_9 m3_9 m4_9 m6_9 => ih_9 h3 l3' (i + 1) (by omega) (by omega) u1_9 (ly_fr_tr fr_9 u2_9) (fun j hj h9 => if w : j = i then by subst w; exact e_9 else ne_9 j hj (by omega)) m0_9 m1_9 m2_9 m3_9 m4_9 (by rw [show ((f : Int) + ((i + 1 : Nat) : Int)) = (f : Int) + (i : Int) + 1 by omega]; exact m6_9)
      by_cases e1_9 : (C[i]).1 = k
      rotate_left
      · exact cm1 c hM (by omega) hy (f : Int) ((f : Int) + (C.length : Int)) k d ((f : Int) + (i : Int)) (C[i]).1 (by omega) (by omega) (by omega) (by omega) k0 k1 d0 d1 (by omega) (by omega) (by omega) (by omega) (by omega) kk (hp_ne (by omega)) l0 l1 l2 l3 l4 l6 (nx (fun y_9 => e1_9 y_9.1))
      rw [e1_9] at kk
      by_cases e2_9 : (C[i]).2.1 = d
      · rw [e2_9] at kd
        exact cm3 c hM (by omega) hy (f : Int) ((f : Int) + (C.length : Int)) k d ((f : Int) + (i : Int)) (by omega) (by omega) (by omega) (by omega) k0 k1 d0 d1 (by omega) (by omega) (by omega) kk kd l0 l1 l2 l3 l4 l6 (fun h2 w hw u1_9 u2_9 u3 => ⟨w, rfl, rfl, rfl, u1_9, ly_fr_tr fr_9 u2_9, Or.inl ⟨i, ⟨hl, e1_9, e2_9, fun j hj h9 => ne_9 j hj h9⟩, hw⟩⟩)
      · exact cm2 c hM (by omega) hy (f : Int) ((f : Int) + (C.length : Int)) k d ((f : Int) + (i : Int)) (C[i]).2.1 (by omega) (by omega) (by omega) (by omega) k0 k1 d0 d1 (by omega) (by omega) (by omega) (by omega) (by omega) kk kd (hp_ne (by omega)) l0 l1 l2 l3 l4 l6 (nx (fun y_9 => e2_9 y_9.2))
/-- clauseAmong over the clauses C that begin at f -/
theorem cg_run {cst : am_K} {strs : List Nat} {D : Nat} {h0 : am_H} (c : hp_C cst strs D) (hD : 1 ≤ D) (hy : ly_hy m_tt ly_TH h0) {f : Nat} {C : List cl} (rm : f + C.length ≤ 1240) (R1 : ∀ i (hi : i < C.length), ly_hv cst h0 4608 ((f : Int) + (i : Int)) = some (C[i]).1) (R2 : ∀ i (hi : i < C.length), ly_hv cst h0 4864 ((f : Int) + (i : Int)) = some (C[i]).2.1) {k d : Int} (k0 : 0 ≤ k) (k1 : k ≤ 14) {xf xe xk : Int32} {xd : Int64} (ef : xf.toInt = (f : Int)) (ee : xe.toInt = (f : Int) + (C.length : Int)) (ek : xk.toInt = k) (ed : xd.toInt = d) :
    ∃ r, am_Run cst m_cl m_tt m_P strs sx_bi (D + 1) 56 [.ref 30, .int xf, .int xe, .int xk, .long xd] h0 r ∧ (fun r : am_Q => ∃ w : Int32, r.1 = some (.int w) ∧ r.2.2.1 = 0 ∧ r.2.2.2 = 0 ∧ ly_hy m_tt ly_TH r.2.1 ∧ ly_fr cst [] h0 r.2.1 ∧ ((∃ j, fcl k d C j ∧ w.toInt = (f : Int) + (j : Int)) ∨ (ncl k d C ∧ w.toInt = -1))) r := by
  obtain ⟨M_9, hM_9, hl⟩ := hp_M (mi := 56) (k := 6) (by decide +kernel)
  have d0_9 : -9223372036854775808 ≤ d := by rw [← ed]; exact xd.le_toInt
  have d1_9 : d ≤ 9223372036854775807 := by rw [← ed]; exact xd.toInt_le
  have go_9 : hp_F cst strs (fun r : am_Q => ∃ w : Int32, r.1 = some (.int w) ∧ r.2.2.1 = 0 ∧ r.2.2.2 = 0 ∧ ly_hy m_tt ly_TH r.2.1 ∧ ly_fr cst [] h0 r.2.1 ∧ ((∃ j, fcl k d C j ∧ w.toInt = (f : Int) + (j : Int)) ∨ (ncl k d C ∧ w.toInt = -1))) D M_9 0 (lv_args 0 [.ref 30, .int xf, .int xe, .int xk, .long xd]) [] h0 := cm0 c hM_9 (by omega) hy (f : Int) ((f : Int) + (C.length : Int)) k d (by omega) (by omega) (by omega) (by omega) k0 k1 d0_9 d1_9 rfl ⟨xf, rfl, ef⟩ ⟨xe, rfl, ee⟩ ⟨xk, rfl, ek⟩ ⟨xd, rfl, ed⟩ (fun l2 h2 w1_9 w2_9 w3_9 m0_9 m1_9 m2_9 m3_9 m4_9 m6_9 => cg_lp c hM_9 hD rm R1 R2 k0 k1 d0_9 d1_9 (C.length + 1) h2 l2 0 (by omega) (by omega) w1_9 w2_9 (fun j hj h9 => absurd h9 (Nat.not_lt_zero _)) m0_9 m1_9 m2_9 m3_9 m4_9 (by rw [show ((f : Int) + ((0 : Nat) : Int)) = (f : Int) by omega]; exact m6_9))
  obtain ⟨n', r, hgo, w, r1_9, r2, r3, r4⟩ := go_9
  simp only [Nat.zero_add] at r2 r3
  exact ⟨r, Or.inr ⟨M_9, n', hM_9, hl, hgo⟩, w, r1_9, r2, r3, r4⟩
/-- the clause j strikes: by the rows of the class -/
def skj (X : List rX) (y s d : Int) (a : Nat) (j : Nat) : Prop := ∃ (o i : Nat) (ho : o < X.length) (hi : i < (X[o]).2.2.1.length), j = (fX (X.take o)).length + i ∧ bgn y s (X[o]) = true ∧ ((X[o]).2.2.1[i]).1 = 14 ∧ ((X[o]).2.2.1[i]).2.2.1 = (a : Int) ∧ (((X[o]).2.2.1[i]).2.1 = 0 ∨ ((X[o]).2.2.1[i]).2.1 = d)
set_option maxRecDepth 8000 in
theorem fX_mo : ∀ (X : List rX) (a b : Nat), a ≤ b → b ≤ X.length → (fX (X.take a)).length ≤ (fX (X.take b)).length
  | X, a, 0, h, _ => by
    have e : a = 0 := Nat.le_zero.mp h
    subst e
    exact Nat.le_refl _
  | X, a, b + 1, h, hb => by
    by_cases e : a = b + 1
    · subst e
      exact Nat.le_refl _
    · have z := fX_mo X a b (by omega) (by omega)
      have t := fX_ts X b hb
      omega
theorem fX_le (X : List rX) (o : Nat) (ho : o < X.length) : (fX (X.take o)).length + (X[o]).2.2.1.length ≤ (fX X).length := by
  have z_9 := fX_mo X (o + 1) X.length ho (Nat.le_refl _)
  rw [fX_tl, fX_ts X o ho] at z_9
  exact z_9
/-- struck: by a clause behind those of the act a -/
theorem stk_j {X : List rX} {y s d : Int} {a : Nat} (ha : a < X.length) : stk X y s d a ↔ ∃ j, (fX (X.take (a + 1))).length ≤ j ∧ j < (fX X).length ∧ skj X y s d a j := by
  constructor
  · rintro ⟨b_9, i_9, hb_9, hi_9, lt_9, r_9⟩
    have z_9 := fX_mo X (a + 1) b_9 lt_9 (by omega)
    have z2 := fX_le X b_9 hb_9
    exact ⟨(fX (X.take b_9)).length + i_9, by omega, by omega, b_9, i_9, hb_9, hi_9, rfl, r_9⟩
  · rintro ⟨j, h1, h2, o, i_9, ho, hi_9, e_9, r_9⟩
    refine ⟨o, i_9, ho, hi_9, ?_, r_9⟩
    by_cases z_9 : a < o
    · exact z_9
    · have z2 := fX_mo X (o + 1) (a + 1) (by omega) ha
      have z3 := fX_ts X o ho
      omega
/-- a clause's act and place are its own -/
theorem skj_u {X : List rX} {o i o' i' : Nat} (ho : o < X.length) (hi : i < (X[o]).2.2.1.length) (ho' : o' < X.length) (hi' : i' < (X[o']).2.2.1.length) (e : (fX (X.take o)).length + i = (fX (X.take o')).length + i') : o = o' ∧ i = i' := by
  have t_9 := fX_ts X o ho
  have t' := fX_ts X o' ho'
  rcases Nat.lt_trichotomy o o' with z_9 | z_9 | z_9
  · have m_9 := fX_mo X (o + 1) o' z_9 (by omega)
    omega
  · subst z_9
    exact ⟨rfl, by omega⟩
  · have m_9 := fX_mo X (o' + 1) o z_9 (by omega)
    omega
theorem skj_n {X : List rX} {y s d : Int} {a j o i : Nat} (ho : o < X.length) (hi : i < (X[o]).2.2.1.length) (ej : j = (fX (X.take o)).length + i) (n : ¬ (bgn y s (X[o]) = true ∧ ((X[o]).2.2.1[i]).1 = 14 ∧ ((X[o]).2.2.1[i]).2.2.1 = (a : Int) ∧ (((X[o]).2.2.1[i]).2.1 = 0 ∨ ((X[o]).2.2.1[i]).2.1 = d))) : ¬ skj X y s d a j := by
  rintro ⟨o', i', ho', hi', e_9, r_9⟩
  obtain ⟨e1_9, e2_9⟩ := skj_u ho hi ho' hi' (ej.symm.trans e_9)
  subst e1_9
  subst e2_9
  exact n r_9
/-- the rows of a clause -/
theorem cl_at {cst : am_K} {h : am_H} {X : List rX} {i0 : List Int} (I : LC cst h X i0) {j o i : Nat} (ho : o < X.length) (hi : i < (X[o]).2.2.1.length) (ej : j = (fX (X.take o)).length + i) : ly_hv cst h 4608 (j : Int) = some ((X[o]).2.2.1[i]).1 ∧ ly_hv cst h 4864 (j : Int) = some ((X[o]).2.2.1[i]).2.1 ∧ ly_hv cst h 5120 (j : Int) = some ((X[o]).2.2.1[i]).2.2.1 := by
  obtain ⟨⟨-, -, ⟨-, d2_9, d3_9, d4_9, -⟩, -⟩, -⟩ := I
  rw [List.append_nil] at d2_9 d3_9 d4_9
  have hj : j < (fX X).length := by
    have z_9 := fX_le X o ho
    omega
  have eG : (fX X)[j] = (X[o]).2.2.1[i] := by
    have z_9 := fX_at X o ho i hi
    rw [← ej, List.getElem?_eq_getElem hj] at z_9
    exact Option.some.inj z_9
  have z2 := d2_9 j (by rw [List.length_map]; exact hj)
  have z3 := d3_9 j (by rw [List.length_map]; exact hj)
  have z4 := d4_9 j (by rw [List.length_map]; exact hj)
  rw [List.getElem_map, Int.zero_add, eG] at z2 z3 z4
  exact ⟨z2, z3, z4⟩
set_option maxRecDepth 8000 in
theorem sj_lp {cst : am_K} {strs : List Nat} {D : Nat} {M : am_M} {h0 : am_H} (c : hp_C cst strs D) (hM : m_P[57]? = some M) (hD : 1 ≤ D) {X : List rX} {i0 : List Int} (I : LC cst h0 X i0) (x30 : X.length ≤ 30) (g12 : (fX X).length ≤ 1240) {a : Nat} (ha : a < X.length) {y s d : Int} {b : Int32} (B : bgs y s X X.length b) (d0 : -9223372036854775808 ≤ d) (d1 : d ≤ 9223372036854775807) : ∀ (Q : Nat) (h : am_H) (l : am_L) (j : Nat), (fX X).length - j < Q → j ≤ (fX X).length → (fX (X.take (a + 1))).length ≤ j → ly_hy m_tt ly_TH h → ly_fr cst [] h0 h → (∀ j', (fX (X.take (a + 1))).length ≤ j' → j' < j → ¬ skj X y s d a j') → hp_a l 0 30 → hp_i l 1 (a : Int) → hp_j l 2 d → hp_i l 4 b.toInt → hp_i l 5 (j : Int) → hp_F cst strs (fun r : am_Q => ∃ w : Int32, r.1 = some (.int w) ∧ r.2.2.1 = 0 ∧ r.2.2.2 = 0 ∧ ly_hy m_tt ly_TH r.2.1 ∧ ly_fr cst [] h0 r.2.1 ∧ ((stk X y s d a ∧ w.toInt = 1) ∨ (¬ stk X y s d a ∧ w.toInt = 0))) D M 10 l [] h := by
  have bb : -2147483648 ≤ b.toInt := b.le_toInt
  have bb' : b.toInt ≤ 2147483647 := b.toInt_le
  intro Q
  induction Q with
  | zero => intro h l j hN_9; omega
  | succ Q ih_9 =>
    intro h l j hN_9 hj fj hy fr_9 no_9 l0 l1 l2 l4 l5
    have kA_9 : ly_hv cst h 3584 0 = some (X.length : Int) := fr_9 _ _ _ rfl I.1.1
    have kE : ly_hv cst h 4352 (X.length : Int) = some ((fX X).length : Int) := fr_9 _ _ _ rfl I.1.2.1
    by_cases z_9 : j = (fX X).length
    · rw [z_9] at l5
      exact sjA c hM (by omega) hy (a : Int) d b.toInt (X.length : Int) ((fX X).length : Int) (by omega) (by omega) d0 d1 bb bb' (by omega) (by omega) (by omega) (by omega) kA_9 kE l0 l1 l2 l4 l5 (fun h2 w hw u1_9 u2_9 u3 => ⟨w, rfl, rfl, rfl, u1_9, ly_fr_tr fr_9 u2_9, Or.inr ⟨fun t_9 => by
        obtain ⟨j', t1_9, t2_9, t3_9⟩ := (stk_j ha).mp t_9
        exact no_9 j' t1_9 (by omega) t3_9, hw⟩⟩)
    have hl : j < (fX X).length := by omega
    obtain ⟨o, i, ho, hi_9, ej, ko⟩ := ow_at I hl
    obtain ⟨r1_9, r2, r3⟩ := cl_at I ho hi_9 ej
    have ko := fr_9 _ _ _ rfl ko
    have r1_9 := fr_9 _ _ _ rfl r1_9
    have r2 := fr_9 _ _ _ rfl r2
    have r3 := fr_9 _ _ _ rfl r3
    obtain ⟨v_9, kv, v0_9, v1_9⟩ := hp_row (cst := cst) (i := (j : Int)) hy (show ly_ths ly_TH 18 = some (.inl (.int, 1240, -2147483648, 2147483647)) from rfl) (by omega) (by omega)
    have kv : ly_hv cst h 4608 (j : Int) = some v_9 := kv
    have ev_9 := Option.some.inj (r1_9.symm.trans kv)
    obtain ⟨v', kv', v0', v1'⟩ := hp_row (cst := cst) (i := (j : Int)) hy (show ly_ths ly_TH 20 = some (.inl (.int, 1240, -2147483648, 2147483647)) from rfl) (by omega) (by omega)
    have kv' : ly_hv cst h 5120 (j : Int) = some v' := kv'
    have ev' := Option.some.inj (r3.symm.trans kv')
    obtain ⟨w, kw', w0_9, w1_9⟩ := hp_rowj (cst := cst) (i := (j : Int)) hy (show ly_ths ly_TH 19 = some (.inl (.long, 1240, 0, 0)) from rfl) (by omega) (by omega)
    have kw' : ly_hv cst h 4864 (j : Int) = some w := kw'
    have ew := Option.some.inj (r2.symm.trans kw')
    have w0_9 : -9223372036854775808 ≤ w := w0_9
    have w1_9 : w ≤ 9223372036854775807 := w1_9
    have nx : ¬ skj X y s d a j → ∀ (l3 : am_L) (h3 : am_H), ly_hy m_tt ly_TH h3 → ly_fr cst [] h h3 → h.length ≤ h3.length → hp_a l3 0 30 → hp_i l3 1 (a : Int) → hp_j l3 2 d → hp_i l3 4 b.toInt → hp_i l3 5 ((j : Int) + 1) → hp_F cst strs (fun r : am_Q => ∃ w : Int32, r.1 = some (.int w) ∧ r.2.2.1 = 0 ∧ r.2.2.2 = 0 ∧ ly_hy m_tt ly_TH r.2.1 ∧ ly_fr cst [] h0 r.2.1 ∧ ((stk X y s d a ∧ w.toInt = 1) ∨ (¬ stk X y s d a ∧ w.toInt = 0))) D M 10 l3 [] h3 := fun e_9 l3 h3 u1_9 u2_9 u3 m0_9 m1_9 m2_9 m4_9 m5_9 => ih_9 h3 l3 (j + 1) (by omega) (by omega) (by omega) u1_9 (ly_fr_tr fr_9 u2_9) (fun j' t1_9 t2_9 => if w : j' = j then by subst w; exact e_9 else no_9 j' t1_9 (by omega)) m0_9 m1_9 m2_9 m4_9 (by rw [show (((j + 1 : Nat)) : Int) = (j : Int) + 1 by omega]; exact m5_9)
    by_cases e1_9 : ((X[o]).2.2.1[i]).1 = 14
    rotate_left
    · exact sjB c hM (by omega) hy (a : Int) d b.toInt (X.length : Int) ((fX X).length : Int) (j : Int) ((X[o]).2.2.1[i]).1 (by omega) (by omega) d0 d1 bb bb' (by omega) (by omega) (by omega) (by omega) (by omega) (by omega) (by omega) (by omega) (by omega) kA_9 kE r1_9 (hp_ne (by omega)) l0 l1 l2 l4 l5 (nx (skj_n ho hi_9 ej (fun t_9 => e1_9 t_9.2.1)))
    rw [e1_9] at r1_9
    by_cases e2_9 : ((X[o]).2.2.1[i]).2.2.1 = (a : Int)
    rotate_left
    · exact sjC c hM (by omega) hy (a : Int) d b.toInt (X.length : Int) ((fX X).length : Int) (j : Int) ((X[o]).2.2.1[i]).2.2.1 (by omega) (by omega) d0 d1 bb bb' (by omega) (by omega) (by omega) (by omega) (by omega) (by omega) (by omega) (by omega) (by omega) kA_9 kE r1_9 r3 (hp_ne (by omega)) l0 l1 l2 l4 l5 (nx (skj_n ho hi_9 ej (fun t_9 => e2_9 t_9.2.2.1)))
    rw [e2_9] at r3
    -- the act's bit
    have fin_9 : (((X[o]).2.2.1[i]).2.1 = 0 ∨ ((X[o]).2.2.1[i]).2.1 = d) → ∀ (l3 : am_L) (h3 : am_H) (p0_9 p1_9 : Int32), p0_9.toInt = (o : Int) → p1_9.toInt = b.toInt → ly_hy m_tt ly_TH h3 → ly_fr cst [] h h3 → h.length ≤ h3.length → hp_a l3 0 30 → hp_i l3 1 (a : Int) → hp_j l3 2 d → hp_i l3 4 b.toInt → hp_i l3 5 (j : Int) → hp_F cst strs (fun r : am_Q => ∃ w : Int32, r.1 = some (.int w) ∧ r.2.2.1 = 0 ∧ r.2.2.2 = 0 ∧ ly_hy m_tt ly_TH r.2.1 ∧ ly_fr cst [] h0 r.2.1 ∧ ((stk X y s d a ∧ w.toInt = 1) ∨ (¬ stk X y s d a ∧ w.toInt = 0))) D M 80 l3 [.int p0_9, .int p1_9] h3 := by
      intro dd l3 h3 p0_9 p1_9 e0_9 e1' u1_9 u2_9 u3 m0_9 m1_9 m2_9 m4_9 m5_9
      have ep : p1_9 = b := Int32.toInt_inj.mp e1'
      subst ep
      refine btq_ishr hM (by decide +kernel) ?_
      refine sjG c hM (by omega) u1_9 (a : Int) d p1_9.toInt (j : Int) (p1_9 >>> (p0_9 &&& 31)).toInt (p1_9 >>> (p0_9 &&& 31)) rfl (by omega) (by omega) d0 d1 bb bb' (by omega) (by omega) (Int32.le_toInt _) (Int32.toInt_le _) m0_9 m1_9 m2_9 m4_9 m5_9 (fun l4' h4 z0 z1 q0 q1_9 x1_9 x2_9 x3 n0_9 n1_9 n2_9 n4_9 n5_9 => ?_)
      have ez : z1 &&& z0 = bif btq_b p1_9 o then 1 else 0 := by
        rw [Int32.toInt_inj.mp q1_9, Int32.toInt_inj.mp (show z0.toInt = (1 : Int32).toInt from q0)]
        exact btq_at e0_9 (by omega) p1_9
      refine btq_iand hM (by decide +kernel) ?_
      rw [ez, B.1 o ho ho]
      have f4_9 : ly_fr cst [] h h4 := ly_fr_tr u2_9 x2_9
      cases eb : bgn y s (X[o])
      · exact sjH c hM (by omega) x1_9 (a : Int) d p1_9.toInt (j : Int) 0 rfl (by omega) (by omega) d0 d1 bb bb' (by omega) (by omega) n0_9 n1_9 n2_9 n4_9 n5_9 (fun l5' h5 y1 y2 y3 o0_9 o1 o2 o4_9 o5_9 => nx (skj_n ho hi_9 ej (fun t_9 => by have t1_9 := t_9.1; rw [eb] at t1_9; cases t1_9)) l5' h5 y1 (ly_fr_tr f4_9 y2) (by omega) o0_9 o1 o2 o4_9 o5_9)
      · exact sjI c hM (by omega) x1_9 (a : Int) d p1_9.toInt (j : Int) 1 rfl (by omega) (by omega) d0 d1 bb bb' (by omega) (by omega) n0_9 n1_9 n2_9 n4_9 n5_9 (fun h5 w hw y1 y2 y3 => ⟨w, rfl, rfl, rfl, y1, ly_fr_tr fr_9 (ly_fr_tr f4_9 y2), Or.inl ⟨(stk_j ha).mpr ⟨j, fj, hl, o, i, ho, hi_9, ej, eb, e1_9, e2_9, dd⟩, hw⟩⟩)
    by_cases e3_9 : ((X[o]).2.2.1[i]).2.1 = 0
    · rw [e3_9] at r2
      exact sjE c hM (by omega) hy (a : Int) d b.toInt (X.length : Int) ((fX X).length : Int) (j : Int) (o : Int) (by omega) (by omega) d0 d1 bb bb' (by omega) (by omega) (by omega) (by omega) (by omega) (by omega) (by omega) (by omega) (by omega) kA_9 kE r1_9 r3 r2 ko l0 l1 l2 l4 l5 (fun l3 h3 p0_9 p1_9 q0 q1_9 u1_9 u2_9 u3 m0_9 m1_9 m2_9 m4_9 m5_9 => fin_9 (Or.inl e3_9) l3 h3 p0_9 p1_9 q0 q1_9 u1_9 u2_9 u3 m0_9 m1_9 m2_9 m4_9 m5_9)
    by_cases e4_9 : ((X[o]).2.2.1[i]).2.1 = d
    · rw [e4_9] at r2
      exact sjF c hM (by omega) hy (a : Int) d b.toInt (X.length : Int) ((fX X).length : Int) (j : Int) (o : Int) (by omega) (by omega) d0 d1 bb bb' (by omega) (by omega) (by omega) (by omega) (by omega) (by omega) (by omega) (by omega) (by omega) kA_9 kE r1_9 r3 r2 (hp_ne (by omega)) ko l0 l1 l2 l4 l5 (fun l3 h3 p0_9 p1_9 q0 q1_9 u1_9 u2_9 u3 m0_9 m1_9 m2_9 m4_9 m5_9 => fin_9 (Or.inr e4_9) l3 h3 p0_9 p1_9 q0 q1_9 u1_9 u2_9 u3 m0_9 m1_9 m2_9 m4_9 m5_9)
    · exact sjD c hM (by omega) hy (a : Int) d b.toInt (X.length : Int) ((fX X).length : Int) (j : Int) ((X[o]).2.2.1[i]).2.1 (by omega) (by omega) d0 d1 bb bb' (by omega) (by omega) (by omega) (by omega) (by omega) (by omega) (by omega) (by omega) (by omega) kA_9 kE r1_9 r3 r2 (hp_ne (by omega)) (hp_ne (by omega)) l0 l1 l2 l4 l5 (nx (skj_n ho hi_9 ej (fun t_9 => t_9.2.2.2.elim e3_9 e4_9)))
/-- isStruck of the class -/
theorem sj_run {cst : am_K} {strs : List Nat} {D : Nat} {h0 : am_H} (c : hp_C cst strs D) (hD : 1 ≤ D) (hy : ly_hy m_tt ly_TH h0) {X : List rX} {i0 : List Int} (I : LC cst h0 X i0) (x30 : X.length ≤ 30) (g12 : (fX X).length ≤ 1240) {a : Nat} (ha : a < X.length) {y s d : Int} {b : Int32} (B : bgs y s X X.length b) {xa : Int32} {xd : Int64} (ea : xa.toInt = (a : Int)) (ed : xd.toInt = d) :
    ∃ r, am_Run cst m_cl m_tt m_P strs sx_bi (D + 1) 57 [.ref 30, .int xa, .long xd, .int b] h0 r ∧ (fun r : am_Q => ∃ w : Int32, r.1 = some (.int w) ∧ r.2.2.1 = 0 ∧ r.2.2.2 = 0 ∧ ly_hy m_tt ly_TH r.2.1 ∧ ly_fr cst [] h0 r.2.1 ∧ ((stk X y s d a ∧ w.toInt = 1) ∨ (¬ stk X y s d a ∧ w.toInt = 0))) r := by
  obtain ⟨M_9, hM_9, hl⟩ := hp_M (mi := 57) (k := 5) (by decide +kernel)
  have d0_9 : -9223372036854775808 ≤ d := by rw [← ed]; exact xd.le_toInt
  have d1_9 : d ≤ 9223372036854775807 := by rw [← ed]; exact xd.toInt_le
  have kf : ly_hv cst h0 4352 ((a : Int) + 1) = some ((fX (X.take (a + 1))).length : Int) := by
    have z_9 := I.2.2.1 (a + 1) ha
    rw [Int.natCast_add] at z_9
    exact z_9
  have fl_9 : (fX (X.take (a + 1))).length ≤ (fX X).length := by
    have z_9 := fX_mo X (a + 1) X.length ha (Nat.le_refl _)
    rw [fX_tl] at z_9
    exact z_9
  have go_9 : hp_F cst strs (fun r : am_Q => ∃ w : Int32, r.1 = some (.int w) ∧ r.2.2.1 = 0 ∧ r.2.2.2 = 0 ∧ ly_hy m_tt ly_TH r.2.1 ∧ ly_fr cst [] h0 r.2.1 ∧ ((stk X y s d a ∧ w.toInt = 1) ∨ (¬ stk X y s d a ∧ w.toInt = 0))) D M_9 0 (lv_args 0 [.ref 30, .int xa, .long xd, .int b]) [] h0 := sj0 c hM_9 (by omega) hy (a : Int) d b.toInt ((fX (X.take (a + 1))).length : Int) (by omega) (by omega) d0_9 d1_9 b.le_toInt b.toInt_le (by omega) (by omega) kf rfl ⟨xa, rfl, ea⟩ ⟨xd, rfl, ed⟩ ⟨b, rfl, rfl⟩ (fun l1 h1 u1_9 u2_9 u3 m0_9 m1_9 m2_9 m4_9 m5_9 => sj_lp c hM_9 hD I x30 g12 ha B d0_9 d1_9 ((fX X).length + 1) h1 l1 (fX (X.take (a + 1))).length (by omega) fl_9 (Nat.le_refl _) u1_9 u2_9 (fun j' t1_9 t2_9 => absurd t1_9 (Nat.not_le.mpr t2_9)) m0_9 m1_9 m2_9 m4_9 m5_9)
  obtain ⟨n', r, hgo, w, r1_9, r2, r3, r4⟩ := go_9
  simp only [Nat.zero_add] at r2 r3
  exact ⟨r, Or.inr ⟨M_9, n', hM_9, hl, hgo⟩, w, r1_9, r2, r3, r4⟩
