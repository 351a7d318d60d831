/-! PRINTED by wip/p2/hp_hw.py: holdsWith, lacking of the class -/
theorem hw0_k : hp_chk 129 0 2 [(0, 0, 1239), (1, (-2147483648), 2147483647)] [] [(0, .inr (.inr (.inl (some 30)))), (1, .inl (0, [(0, 1)])), (2, .inl (0, [(1, 1)]))] [] [] [] 2 [(8, ([], 2, [(0, 0, 1239), (1, (-2147483648), 2147483647)], [], [(0, .inr (.inr (.inl (some 30)))), (1, .inl (0, [(0, 1)])), (2, .inl (0, [(1, 1)])), (3, .inl (0, [])), (4, .inl (0, [])), (5, .inl (0, []))], [], []))] [] = true := by decide +kernel
theorem hw0 {cst : am_K} {strs : List Nat} {Φ : am_Q → Prop} {D : Nat} {M : am_M} {h : am_H} {l : am_L} (c : hp_C cst strs D) (hM : m_P[129]? = some M) (hD : (2 : Int) ≤ (D : Int) + 1) (hy : ly_hy m_tt ly_TH h) (cq me : Int) (b0 : 0 ≤ cq) (t0 : cq ≤ 1239) (b1 : (-2147483648) ≤ me) (t1 : me ≤ 2147483647) (l0 : hp_a l 0 30) (l1 : hp_i l 1 (cq)) (l2 : hp_i l 2 (me)) (e0 : ∀ (l' : am_L) (h' : am_H), ly_hy m_tt ly_TH h' → ly_fr cst [] h h' → h.length ≤ h'.length → hp_a l' 0 30 → hp_i l' 1 (cq) → hp_i l' 2 (me) → hp_i l' 3 0 → hp_i l' 4 0 → hp_i l' 5 0 → hp_F cst strs Φ D M 8 l' [] h') : hp_F cst strs Φ D M 0 l [] h := by
  refine hp_arc c hM hw0_k hD [cq, me] rfl hy (hp_Bc (z := cq) rfl b0 t0 (hp_Bc (z := me) rfl b1 t1 hp_Bn)) hp_Fn hp_Kn (hp_La l0 (hp_Li (z := (0 + (1 * cq + 0))) l1 rfl (by omega) (hp_Li (z := (0 + (1 * me + 0))) l2 rfl (by omega) hp_Ln))) trivial ?_ ?_
  · intro p_9 hp ys l' st' h' hys a1_9 a2 a3 gZ gL gS
    rcases List.mem_cons.mp hp with rfl | hp
    · obtain rfl := hp_y0 hys
      cases hp_gSn gS
      exact e0 l' h' a1_9 a2 a3 (hp_gLa gL (List.mem_of_getElem? (i := 0) rfl) (by decide)) (hp_gLi (z := (0 + (1 * cq + 0))) gL (List.mem_of_getElem? (i := 1) rfl) rfl (by omega)) (hp_gLi (z := (0 + (1 * me + 0))) gL (List.mem_of_getElem? (i := 2) rfl) rfl (by omega)) (hp_gLi (z := (0 + 0)) gL (List.mem_of_getElem? (i := 3) rfl) rfl (by omega)) (hp_gLi (z := (0 + 0)) gL (List.mem_of_getElem? (i := 4) rfl) rfl (by omega)) (hp_gLi (z := (0 + 0)) gL (List.mem_of_getElem? (i := 5) rfl) rfl (by omega))
    cases hp
  · intro p_9 hp ys v_9 h' hys a1_9 a2 a3 gZ gS
    cases hp
theorem hwE_k : hq_chk [124, 125] 129 8 7 [(0, 0, 1239), (1, (-2147483648), 2147483647), (2, (-2147483648), 2147483647), (3, 0, 31), (4, 0, 1240), (5, 0, 10240), (6, 0, 10240)] [((-1), [(0, (-1)), (4, 1)]), (0, [(5, (-1)), (6, 1)])] [(0, .inr (.inr (.inl (some 30)))), (1, .inl (0, [(0, 1)])), (2, .inl (0, [(1, 1)])), (3, .inl (0, [(2, 1)])), (4, .inl (0, [(3, 1)])), (5, .inl (0, [(5, (-1)), (6, 1)]))] [] [(3588, (0, []), (0, [(4, 1)])), (5632, (0, [(0, 1)]), (0, [(5, 1)])), (5632, (1, [(0, 1)]), (0, [(6, 1)]))] [] 4 [(115, ([], 7, [(0, 0, 1239), (1, (-2147483648), 2147483647), (2, (-2147483648), 2147483647), (3, 0, 31), (4, 0, 1240), (5, 0, 10240), (6, 0, 10240)], [], [(0, .inr (.inr (.inl (some 30))))], [.inl (1, []), .inl (0, [(2, 1)])], []))] [] = true := by decide +kernel
theorem hwE {cst : am_K} {strs : List Nat} {Φ : am_Q → Prop} {D : Nat} {M : am_M} {h : am_H} {l : am_L} (c : hp_C cst strs D) (hM : m_P[129]? = some M) (hD : (4 : Int) ≤ (D : Int) + 1) (hy : ly_hy m_tt ly_TH h) (cq me w n cl f g : Int) (b0 : 0 ≤ cq) (t0 : cq ≤ 1239) (b1 : (-2147483648) ≤ me) (t1 : me ≤ 2147483647) (b2 : (-2147483648) ≤ w) (t2 : w ≤ 2147483647) (b3 : 0 ≤ n) (t3 : n ≤ 31) (b4 : 0 ≤ cl) (t4 : cl ≤ 1240) (b5 : 0 ≤ f) (t5 : f ≤ 10240) (b6 : 0 ≤ g) (t6 : g ≤ 10240) (f0 : 0 ≤ (cl - cq - 1)) (f1 : 0 ≤ (g - f)) (k0 : ly_hv cst h 3588 0 = some (cl)) (k1 : ly_hv cst h 5632 (cq) = some (f)) (k2 : ly_hv cst h 5632 (cq + 1) = some (g)) (l0 : hp_a l 0 30) (l1 : hp_i l 1 (cq)) (l2 : hp_i l 2 (me)) (l3 : hp_i l 3 (w)) (l4 : hp_i l 4 (n)) (l5 : hp_i l 5 (g - f)) (e0 : ∀ (l' : am_L) (h' : am_H) (y0 : Int32) (y1 : Int32), y0.toInt = 1 → y1.toInt = (w) → ly_hy m_tt ly_TH h' → ly_fr cst [] h h' → h.length ≤ h'.length → hp_a l' 0 30 → hp_F cst strs Φ D M 115 l' [.int y0, .int y1] h') : hp_F cst strs Φ D M 8 l [] h := by
  refine hq_arc c hM hwE_k hD [cq, me, w, n, cl, f, g] rfl hy (hp_Bc (z := cq) rfl b0 t0 (hp_Bc (z := me) rfl b1 t1 (hp_Bc (z := w) rfl b2 t2 (hp_Bc (z := n) rfl b3 t3 (hp_Bc (z := cl) rfl b4 t4 (hp_Bc (z := f) rfl b5 t5 (hp_Bc (z := g) rfl b6 t6 hp_Bn))))))) (hp_Fc (z := ((-1) + ((-1) * cq + (1 * cl + 0)))) rfl (by omega) (hp_Fc (z := (0 + ((-1) * f + (1 * g + 0)))) rfl (by omega) hp_Fn)) (hp_Kc (zi := (0 + 0)) (zv := (0 + (1 * cl + 0))) k0 rfl rfl (by omega) (by omega) (hp_Kc (zi := (0 + (1 * cq + 0))) (zv := (0 + (1 * f + 0))) k1 rfl rfl (by omega) (by omega) (hp_Kc (zi := (1 + (1 * cq + 0))) (zv := (0 + (1 * g + 0))) k2 rfl rfl (by omega) (by omega) hp_Kn))) (hp_La l0 (hp_Li (z := (0 + (1 * cq + 0))) l1 rfl (by omega) (hp_Li (z := (0 + (1 * me + 0))) l2 rfl (by omega) (hp_Li (z := (0 + (1 * w + 0))) l3 rfl (by omega) (hp_Li (z := (0 + (1 * n + 0))) l4 rfl (by omega) (hp_Li (z := (0 + ((-1) * f + (1 * g + 0)))) l5 rfl (by omega) hp_Ln)))))) trivial ?_ ?_
  · intro p_9 hp ys l' st' h' hys a1_9 a2 a3 gZ gL gS
    rcases List.mem_cons.mp hp with rfl | hp
    · obtain rfl := hp_y0 hys
      obtain ⟨y0, t0, rfl, q0, g0⟩ := hp_gSi (z := (1 + 0)) gS rfl
      obtain ⟨y1, t1, rfl, q1_9, g1⟩ := hp_gSi (z := (0 + (1 * w + 0))) g0 rfl
      cases hp_gSn g1
      exact e0 l' h' y0 y1 (by omega) (by omega) a1_9 a2 a3 (hp_gLa gL (List.mem_of_getElem? (i := 0) rfl) (by decide))
    cases hp
  · intro p_9 hp ys v_9 h' hys a1_9 a2 a3 gZ gS
    cases hp
theorem hwE0_k : hp_chk 129 116 0 [] [] [(0, .inr (.inr (.inl (some 30))))] [.inl (0, [])] [] [] 2 [] [([], 0, [], [], [], [.inl (0, [])], [])] = true := by decide +kernel
theorem hwE0 {cst : am_K} {strs : List Nat} {Φ : am_Q → Prop} {D : Nat} {M : am_M} {h : am_H} {l : am_L} (c : hp_C cst strs D) (hM : m_P[129]? = some M) (hD : (2 : Int) ≤ (D : Int) + 1) (hy : ly_hy m_tt ly_TH h) (x0 : Int32) (hx0 : x0.toInt = 0) (l0 : hp_a l 0 30) (r0 : ∀ (h' : am_H) (y0 : Int32), y0.toInt = 0 → ly_hy m_tt ly_TH h' → ly_fr cst [] h h' → h.length ≤ h'.length → Φ (some (.int y0), h', 0, 0)) : hp_F cst strs Φ D M 116 l [.int x0] h := by
  refine hp_arc c hM hwE0_k hD [] rfl hy hp_Bn hp_Fn hp_Kn (hp_La l0 hp_Ln) (hp_Si (z := (0 + 0)) rfl (by omega) trivial) ?_ ?_
  · intro p_9 hp ys l' st' h' hys a1_9 a2 a3 gZ gL gS
    cases hp
  · intro p_9 hp ys v_9 h' hys a1_9 a2 a3 gZ gS
    rcases List.mem_cons.mp hp with rfl | hp
    · obtain rfl := hp_y0 hys
      cases v_9 with
      | none => cases gS
      | some wz =>
        obtain ⟨y0, t0_9, s0_9, q0, -⟩ := hp_gSi (z := (0 + 0)) gS rfl
        cases s0_9
        exact r0 h' y0 (by omega) a1_9 a2 a3
    cases hp
theorem hwE1_k : hp_chk 129 116 0 [] [] [(0, .inr (.inr (.inl (some 30))))] [.inl (1, [])] [] [] 2 [] [([], 0, [], [], [], [.inl (1, [])], [])] = true := by decide +kernel
theorem hwE1 {cst : am_K} {strs : List Nat} {Φ : am_Q → Prop} {D : Nat} {M : am_M} {h : am_H} {l : am_L} (c : hp_C cst strs D) (hM : m_P[129]? = some M) (hD : (2 : Int) ≤ (D : Int) + 1) (hy : ly_hy m_tt ly_TH h) (x0 : Int32) (hx0 : x0.toInt = 1) (l0 : hp_a l 0 30) (r0 : ∀ (h' : am_H) (y0 : Int32), y0.toInt = 1 → ly_hy m_tt ly_TH h' → ly_fr cst [] h h' → h.length ≤ h'.length → Φ (some (.int y0), h', 0, 0)) : hp_F cst strs Φ D M 116 l [.int x0] h := by
  refine hp_arc c hM hwE1_k hD [] rfl hy hp_Bn hp_Fn hp_Kn (hp_La l0 hp_Ln) (hp_Si (z := (1 + 0)) rfl (by omega) trivial) ?_ ?_
  · intro p_9 hp ys l' st' h' hys a1_9 a2 a3 gZ gL gS
    cases hp
  · intro p_9 hp ys v_9 h' hys a1_9 a2 a3 gZ gS
    rcases List.mem_cons.mp hp with rfl | hp
    · obtain rfl := hp_y0 hys
      cases v_9 with
      | none => cases gS
      | some wz =>
        obtain ⟨y0, t0_9, s0_9, q0, -⟩ := hp_gSi (z := (1 + 0)) gS rfl
        cases s0_9
        exact r0 h' y0 (by omega) a1_9 a2 a3
    cases hp
theorem hwP_k : hq_chk [124, 125] 129 8 9 [(0, 0, 1239), (1, (-2147483648), 2147483647), (2, (-2147483648), 2147483647), (3, 0, 31), (4, 0, 10240), (5, 0, 1240), (6, 0, 10240), (7, 0, 10240), (8, (-20003), 9223372036854775807)] [((-1), [(0, (-1)), (5, 1)]), ((-1), [(4, (-1)), (6, (-1)), (7, 1)])] [(0, .inr (.inr (.inl (some 30)))), (1, .inl (0, [(0, 1)])), (2, .inl (0, [(1, 1)])), (3, .inl (0, [(2, 1)])), (4, .inl (0, [(3, 1)])), (5, .inl (0, [(4, 1)]))] [] [(3588, (0, []), (0, [(5, 1)])), (5632, (0, [(0, 1)]), (0, [(6, 1)])), (5632, (1, [(0, 1)]), (0, [(7, 1)])), (5888, (0, [(4, 1), (6, 1)]), (0, [(8, 1)]))] [] 4 [(8, ([], 9, [(0, 0, 1239), (1, (-2147483648), 2147483647), (2, (-2147483648), 2147483647), (3, 0, 31), (4, 0, 10240), (5, 0, 1240), (6, 0, 10240), (7, 0, 10240), (8, (-20003), 9223372036854775807)], [], [(0, .inr (.inr (.inl (some 30)))), (1, .inl (0, [(0, 1)])), (2, .inl (0, [(1, 1)])), (3, .inl (0, [(2, 1)])), (4, .inl (0, [(3, 1)])), (5, .inl (1, [(4, 1)]))], [], []))] [] = true := by decide +kernel
theorem hwP {cst : am_K} {strs : List Nat} {Φ : am_Q → Prop} {D : Nat} {M : am_M} {h : am_H} {l : am_L} (c : hp_C cst strs D) (hM : m_P[129]? = some M) (hD : (4 : Int) ≤ (D : Int) + 1) (hy : ly_hy m_tt ly_TH h) (cq me w n i cl f g x : Int) (b0 : 0 ≤ cq) (t0 : cq ≤ 1239) (b1 : (-2147483648) ≤ me) (t1 : me ≤ 2147483647) (b2 : (-2147483648) ≤ w) (t2 : w ≤ 2147483647) (b3 : 0 ≤ n) (t3 : n ≤ 31) (b4 : 0 ≤ i) (t4 : i ≤ 10240) (b5 : 0 ≤ cl) (t5 : cl ≤ 1240) (b6 : 0 ≤ f) (t6 : f ≤ 10240) (b7 : 0 ≤ g) (t7 : g ≤ 10240) (b8 : (-20003) ≤ x) (t8 : x ≤ 9223372036854775807) (f0 : 0 ≤ (cl - cq - 1)) (f1 : 0 ≤ (g - f - i - 1)) (k0 : ly_hv cst h 3588 0 = some (cl)) (k1 : ly_hv cst h 5632 (cq) = some (f)) (k2 : ly_hv cst h 5632 (cq + 1) = some (g)) (k3 : ly_hv cst h 5888 (f + i) = some (x)) (l0 : hp_a l 0 30) (l1 : hp_i l 1 (cq)) (l2 : hp_i l 2 (me)) (l3 : hp_i l 3 (w)) (l4 : hp_i l 4 (n)) (l5 : hp_i l 5 (i)) (e0 : ∀ (l' : am_L) (h' : am_H), ly_hy m_tt ly_TH h' → ly_fr cst [] h h' → h.length ≤ h'.length → hp_a l' 0 30 → hp_i l' 1 (cq) → hp_i l' 2 (me) → hp_i l' 3 (w) → hp_i l' 4 (n) → hp_i l' 5 (i + 1) → hp_F cst strs Φ D M 8 l' [] h') : hp_F cst strs Φ D M 8 l [] h := by
  refine hq_arc c hM hwP_k hD [cq, me, w, n, i, cl, f, g, x] rfl hy (hp_Bc (z := cq) rfl b0 t0 (hp_Bc (z := me) rfl b1 t1 (hp_Bc (z := w) rfl b2 t2 (hp_Bc (z := n) rfl b3 t3 (hp_Bc (z := i) rfl b4 t4 (hp_Bc (z := cl) rfl b5 t5 (hp_Bc (z := f) rfl b6 t6 (hp_Bc (z := g) rfl b7 t7 (hp_Bc (z := x) rfl b8 t8 hp_Bn))))))))) (hp_Fc (z := ((-1) + ((-1) * cq + (1 * cl + 0)))) rfl (by omega) (hp_Fc (z := ((-1) + ((-1) * i + ((-1) * f + (1 * g + 0))))) rfl (by omega) hp_Fn)) (hp_Kc (zi := (0 + 0)) (zv := (0 + (1 * cl + 0))) k0 rfl rfl (by omega) (by omega) (hp_Kc (zi := (0 + (1 * cq + 0))) (zv := (0 + (1 * f + 0))) k1 rfl rfl (by omega) (by omega) (hp_Kc (zi := (1 + (1 * cq + 0))) (zv := (0 + (1 * g + 0))) k2 rfl rfl (by omega) (by omega) (hp_Kc (zi := (0 + (1 * i + (1 * f + 0)))) (zv := (0 + (1 * x + 0))) k3 rfl rfl (by omega) (by omega) hp_Kn)))) (hp_La l0 (hp_Li (z := (0 + (1 * cq + 0))) l1 rfl (by omega) (hp_Li (z := (0 + (1 * me + 0))) l2 rfl (by omega) (hp_Li (z := (0 + (1 * w + 0))) l3 rfl (by omega) (hp_Li (z := (0 + (1 * n + 0))) l4 rfl (by omega) (hp_Li (z := (0 + (1 * i + 0))) l5 rfl (by omega) hp_Ln)))))) trivial ?_ ?_
  · intro p_9 hp ys l' st' h' hys a1_9 a2 a3 gZ gL gS
    rcases List.mem_cons.mp hp with rfl | hp
    · obtain rfl := hp_y0 hys
      cases hp_gSn gS
      exact e0 l' h' a1_9 a2 a3 (hp_gLa gL (List.mem_of_getElem? (i := 0) rfl) (by decide)) (hp_gLi (z := (0 + (1 * cq + 0))) gL (List.mem_of_getElem? (i := 1) rfl) rfl (by omega)) (hp_gLi (z := (0 + (1 * me + 0))) gL (List.mem_of_getElem? (i := 2) rfl) rfl (by omega)) (hp_gLi (z := (0 + (1 * w + 0))) gL (List.mem_of_getElem? (i := 3) rfl) rfl (by omega)) (hp_gLi (z := (0 + (1 * n + 0))) gL (List.mem_of_getElem? (i := 4) rfl) rfl (by omega)) (hp_gLi (z := (1 + (1 * i + 0))) gL (List.mem_of_getElem? (i := 5) rfl) rfl (by omega))
    cases hp
  · intro p_9 hp ys v_9 h' hys a1_9 a2 a3 gZ gS
    cases hp
theorem hwQ_k : hq_chk [124, 125] 129 8 9 [(0, 0, 1239), (1, (-2147483648), 2147483647), (2, (-2147483648), 2147483647), (3, 0, 31), (4, 0, 10240), (5, 0, 1240), (6, 0, 10240), (7, 0, 10240), (8, (-9223372036854775808), (-20008))] [((-1), [(0, (-1)), (5, 1)]), ((-1), [(4, (-1)), (6, (-1)), (7, 1)])] [(0, .inr (.inr (.inl (some 30)))), (1, .inl (0, [(0, 1)])), (2, .inl (0, [(1, 1)])), (3, .inl (0, [(2, 1)])), (4, .inl (0, [(3, 1)])), (5, .inl (0, [(4, 1)]))] [] [(3588, (0, []), (0, [(5, 1)])), (5632, (0, [(0, 1)]), (0, [(6, 1)])), (5632, (1, [(0, 1)]), (0, [(7, 1)])), (5888, (0, [(4, 1), (6, 1)]), (0, [(8, 1)]))] [] 4 [(8, ([], 9, [(0, 0, 1239), (1, (-2147483648), 2147483647), (2, (-2147483648), 2147483647), (3, 0, 31), (4, 0, 10240), (5, 0, 1240), (6, 0, 10240), (7, 0, 10240), (8, (-9223372036854775808), (-20008))], [], [(0, .inr (.inr (.inl (some 30)))), (1, .inl (0, [(0, 1)])), (2, .inl (0, [(1, 1)])), (3, .inl (0, [(2, 1)])), (4, .inl (0, [(3, 1)])), (5, .inl (1, [(4, 1)]))], [], []))] [] = true := by decide +kernel
theorem hwQ {cst : am_K} {strs : List Nat} {Φ : am_Q → Prop} {D : Nat} {M : am_M} {h : am_H} {l : am_L} (c : hp_C cst strs D) (hM : m_P[129]? = some M) (hD : (4 : Int) ≤ (D : Int) + 1) (hy : ly_hy m_tt ly_TH h) (cq me w n i cl f g x : Int) (b0 : 0 ≤ cq) (t0 : cq ≤ 1239) (b1 : (-2147483648) ≤ me) (t1 : me ≤ 2147483647) (b2 : (-2147483648) ≤ w) (t2 : w ≤ 2147483647) (b3 : 0 ≤ n) (t3 : n ≤ 31) (b4 : 0 ≤ i) (t4 : i ≤ 10240) (b5 : 0 ≤ cl) (t5 : cl ≤ 1240) (b6 : 0 ≤ f) (t6 : f ≤ 10240) (b7 : 0 ≤ g) (t7 : g ≤ 10240) (b8 : (-9223372036854775808) ≤ x) (t8 : x ≤ (-20008)) (f0 : 0 ≤ (cl - cq - 1)) (f1 : 0 ≤ (g - f - i - 1)) (k0 : ly_hv cst h 3588 0 = some (cl)) (k1 : ly_hv cst h 5632 (cq) = some (f)) (k2 : ly_hv cst h 5632 (cq + 1) = some (g)) (k3 : ly_hv cst h 5888 (f + i) = some (x)) (l0 : hp_a l 0 30) (l1 : hp_i l 1 (cq)) (l2 : hp_i l 2 (me)) (l3 : hp_i l 3 (w)) (l4 : hp_i l 4 (n)) (l5 : hp_i l 5 (i)) (e0 : ∀ (l' : am_L) (h' : am_H), ly_hy m_tt ly_TH h' → ly_fr cst [] h h' → h.length ≤ h'.length → hp_a l' 0 30 → hp_i l' 1 (cq) → hp_i l' 2 (me) → hp_i l' 3 (w) → hp_i l' 4 (n) → hp_i l' 5 (i + 1) → hp_F cst strs Φ D M 8 l' [] h') : hp_F cst strs Φ D M 8 l [] h := by
  refine hq_arc c hM hwQ_k hD [cq, me, w, n, i, cl, f, g, x] rfl hy (hp_Bc (z := cq) rfl b0 t0 (hp_Bc (z := me) rfl b1 t1 (hp_Bc (z := w) rfl b2 t2 (hp_Bc (z := n) rfl b3 t3 (hp_Bc (z := i) rfl b4 t4 (hp_Bc (z := cl) rfl b5 t5 (hp_Bc (z := f) rfl b6 t6 (hp_Bc (z := g) rfl b7 t7 (hp_Bc (z := x) rfl b8 t8 hp_Bn))))))))) (hp_Fc (z := ((-1) + ((-1) * cq + (1 * cl + 0)))) rfl (by omega) (hp_Fc (z := ((-1) + ((-1) * i + ((-1) * f + (1 * g + 0))))) rfl (by omega) hp_Fn)) (hp_Kc (zi := (0 + 0)) (zv := (0 + (1 * cl + 0))) k0 rfl rfl (by omega) (by omega) (hp_Kc (zi := (0 + (1 * cq + 0))) (zv := (0 + (1 * f + 0))) k1 rfl rfl (by omega) (by omega) (hp_Kc (zi := (1 + (1 * cq + 0))) (zv := (0 + (1 * g + 0))) k2 rfl rfl (by omega) (by omega) (hp_Kc (zi := (0 + (1 * i + (1 * f + 0)))) (zv := (0 + (1 * x + 0))) k3 rfl rfl (by omega) (by omega) hp_Kn)))) (hp_La l0 (hp_Li (z := (0 + (1 * cq + 0))) l1 rfl (by omega) (hp_Li (z := (0 + (1 * me + 0))) l2 rfl (by omega) (hp_Li (z := (0 + (1 * w + 0))) l3 rfl (by omega) (hp_Li (z := (0 + (1 * n + 0))) l4 rfl (by omega) (hp_Li (z := (0 + (1 * i + 0))) l5 rfl (by omega) hp_Ln)))))) trivial ?_ ?_
  · intro p_9 hp ys l' st' h' hys a1_9 a2 a3 gZ gL gS
    rcases List.mem_cons.mp hp with rfl | hp
    · obtain rfl := hp_y0 hys
      cases hp_gSn gS
      exact e0 l' h' a1_9 a2 a3 (hp_gLa gL (List.mem_of_getElem? (i := 0) rfl) (by decide)) (hp_gLi (z := (0 + (1 * cq + 0))) gL (List.mem_of_getElem? (i := 1) rfl) rfl (by omega)) (hp_gLi (z := (0 + (1 * me + 0))) gL (List.mem_of_getElem? (i := 2) rfl) rfl (by omega)) (hp_gLi (z := (0 + (1 * w + 0))) gL (List.mem_of_getElem? (i := 3) rfl) rfl (by omega)) (hp_gLi (z := (0 + (1 * n + 0))) gL (List.mem_of_getElem? (i := 4) rfl) rfl (by omega)) (hp_gLi (z := (1 + (1 * i + 0))) gL (List.mem_of_getElem? (i := 5) rfl) rfl (by omega))
    cases hp
  · intro p_9 hp ys v_9 h' hys a1_9 a2 a3 gZ gS
    cases hp
theorem hwT0_k : hq_chk [124, 125] 129 8 8 [(0, 0, 1239), (1, (-2147483648), 2147483647), (2, (-2147483648), 2147483647), (3, 0, 31), (4, 0, 10240), (5, 0, 1240), (6, 0, 10240), (7, 0, 10240)] [((-1), [(0, (-1)), (5, 1)]), ((-1), [(4, (-1)), (6, (-1)), (7, 1)])] [(0, .inr (.inr (.inl (some 30)))), (1, .inl (0, [(0, 1)])), (2, .inl (0, [(1, 1)])), (3, .inl (0, [(2, 1)])), (4, .inl (0, [(3, 1)])), (5, .inl (0, [(4, 1)]))] [] [(3588, (0, []), (0, [(5, 1)])), (5632, (0, [(0, 1)]), (0, [(6, 1)])), (5632, (1, [(0, 1)]), (0, [(7, 1)])), (5888, (0, [(4, 1), (6, 1)]), ((-20004), []))] [] 4 [(38, ([], 8, [(0, 0, 1239), (1, (-2147483648), 2147483647), (2, (-2147483648), 2147483647), (3, 0, 31), (4, 0, 10240), (5, 0, 1240), (6, 0, 10240), (7, 0, 10240)], [], [(0, .inr (.inr (.inl (some 30)))), (1, .inl (0, [(0, 1)])), (2, .inl (0, [(1, 1)])), (3, .inl (0, [(2, 1)])), (4, .inl (0, [(3, 1)])), (5, .inl (0, [(4, 1)]))], [.inl (1, []), .inl (0, [(2, 1)])], []))] [] = true := by decide +kernel
theorem hwT0 {cst : am_K} {strs : List Nat} {Φ : am_Q → Prop} {D : Nat} {M : am_M} {h : am_H} {l : am_L} (c : hp_C cst strs D) (hM : m_P[129]? = some M) (hD : (4 : Int) ≤ (D : Int) + 1) (hy : ly_hy m_tt ly_TH h) (cq me w n i cl f g : Int) (b0 : 0 ≤ cq) (t0 : cq ≤ 1239) (b1 : (-2147483648) ≤ me) (t1 : me ≤ 2147483647) (b2 : (-2147483648) ≤ w) (t2 : w ≤ 2147483647) (b3 : 0 ≤ n) (t3 : n ≤ 31) (b4 : 0 ≤ i) (t4 : i ≤ 10240) (b5 : 0 ≤ cl) (t5 : cl ≤ 1240) (b6 : 0 ≤ f) (t6 : f ≤ 10240) (b7 : 0 ≤ g) (t7 : g ≤ 10240) (f0 : 0 ≤ (cl - cq - 1)) (f1 : 0 ≤ (g - f - i - 1)) (k0 : ly_hv cst h 3588 0 = some (cl)) (k1 : ly_hv cst h 5632 (cq) = some (f)) (k2 : ly_hv cst h 5632 (cq + 1) = some (g)) (k3 : ly_hv cst h 5888 (f + i) = some (-20004)) (l0 : hp_a l 0 30) (l1 : hp_i l 1 (cq)) (l2 : hp_i l 2 (me)) (l3 : hp_i l 3 (w)) (l4 : hp_i l 4 (n)) (l5 : hp_i l 5 (i)) (e0 : ∀ (l' : am_L) (h' : am_H) (y0 : Int32) (y1 : Int32), y0.toInt = 1 → y1.toInt = (w) → ly_hy m_tt ly_TH h' → ly_fr cst [] h h' → h.length ≤ h'.length → hp_a l' 0 30 → hp_i l' 1 (cq) → hp_i l' 2 (me) → hp_i l' 3 (w) → hp_i l' 4 (n) → hp_i l' 5 (i) → hp_F cst strs Φ D M 38 l' [.int y0, .int y1] h') : hp_F cst strs Φ D M 8 l [] h := by
  refine hq_arc c hM hwT0_k hD [cq, me, w, n, i, cl, f, g] rfl hy (hp_Bc (z := cq) rfl b0 t0 (hp_Bc (z := me) rfl b1 t1 (hp_Bc (z := w) rfl b2 t2 (hp_Bc (z := n) rfl b3 t3 (hp_Bc (z := i) rfl b4 t4 (hp_Bc (z := cl) rfl b5 t5 (hp_Bc (z := f) rfl b6 t6 (hp_Bc (z := g) rfl b7 t7 hp_Bn)))))))) (hp_Fc (z := ((-1) + ((-1) * cq + (1 * cl + 0)))) rfl (by omega) (hp_Fc (z := ((-1) + ((-1) * i + ((-1) * f + (1 * g + 0))))) rfl (by omega) hp_Fn)) (hp_Kc (zi := (0 + 0)) (zv := (0 + (1 * cl + 0))) k0 rfl rfl (by omega) (by omega) (hp_Kc (zi := (0 + (1 * cq + 0))) (zv := (0 + (1 * f + 0))) k1 rfl rfl (by omega) (by omega) (hp_Kc (zi := (1 + (1 * cq + 0))) (zv := (0 + (1 * g + 0))) k2 rfl rfl (by omega) (by omega) (hp_Kc (zi := (0 + (1 * i + (1 * f + 0)))) (zv := ((-20004) + 0)) k3 rfl rfl (by omega) (by omega) hp_Kn)))) (hp_La l0 (hp_Li (z := (0 + (1 * cq + 0))) l1 rfl (by omega) (hp_Li (z := (0 + (1 * me + 0))) l2 rfl (by omega) (hp_Li (z := (0 + (1 * w + 0))) l3 rfl (by omega) (hp_Li (z := (0 + (1 * n + 0))) l4 rfl (by omega) (hp_Li (z := (0 + (1 * i + 0))) l5 rfl (by omega) hp_Ln)))))) trivial ?_ ?_
  · intro p_9 hp ys l' st' h' hys a1_9 a2 a3 gZ gL gS
    rcases List.mem_cons.mp hp with rfl | hp
    · obtain rfl := hp_y0 hys
      obtain ⟨y0, t0, rfl, q0, g0⟩ := hp_gSi (z := (1 + 0)) gS rfl
      obtain ⟨y1, t1, rfl, q1_9, g1⟩ := hp_gSi (z := (0 + (1 * w + 0))) g0 rfl
      cases hp_gSn g1
      exact e0 l' h' y0 y1 (by omega) (by omega) a1_9 a2 a3 (hp_gLa gL (List.mem_of_getElem? (i := 0) rfl) (by decide)) (hp_gLi (z := (0 + (1 * cq + 0))) gL (List.mem_of_getElem? (i := 1) rfl) rfl (by omega)) (hp_gLi (z := (0 + (1 * me + 0))) gL (List.mem_of_getElem? (i := 2) rfl) rfl (by omega)) (hp_gLi (z := (0 + (1 * w + 0))) gL (List.mem_of_getElem? (i := 3) rfl) rfl (by omega)) (hp_gLi (z := (0 + (1 * n + 0))) gL (List.mem_of_getElem? (i := 4) rfl) rfl (by omega)) (hp_gLi (z := (0 + (1 * i + 0))) gL (List.mem_of_getElem? (i := 5) rfl) rfl (by omega))
    cases hp
  · intro p_9 hp ys v_9 h' hys a1_9 a2 a3 gZ gS
    cases hp
theorem hwT1_k : hq_chk [124, 125] 129 39 6 [(0, 0, 1239), (1, (-2147483648), 2147483647), (2, (-2147483648), 2147483647), (3, 0, 31), (4, 0, 10240), (5, (-2147483648), 2147483647)] [] [(0, .inr (.inr (.inl (some 30)))), (1, .inl (0, [(0, 1)])), (2, .inl (0, [(1, 1)])), (3, .inl (0, [(2, 1)])), (4, .inl (0, [(3, 1)])), (5, .inl (0, [(4, 1)]))] [.inl (0, [(5, 1)])] [] [] 4 [(42, ([], 6, [(0, 0, 1239), (1, (-2147483648), 2147483647), (2, (-2147483648), 2147483647), (3, 0, 31), (4, 0, 10240), (5, (-2147483648), 2147483647)], [], [(0, .inr (.inr (.inl (some 30)))), (1, .inl (0, [(0, 1)])), (2, .inl (0, [(1, 1)])), (3, .inl (0, [(2, 1)])), (4, .inl (0, [(3, 1)])), (5, .inl (0, [(4, 1)]))], [.inl (0, [(3, 1)]), .inl (0, [(1, 1)]), .inl (0, [(5, 1)])], []))] [] = true := by decide +kernel
theorem hwT1 {cst : am_K} {strs : List Nat} {Φ : am_Q → Prop} {D : Nat} {M : am_M} {h : am_H} {l : am_L} (c : hp_C cst strs D) (hM : m_P[129]? = some M) (hD : (4 : Int) ≤ (D : Int) + 1) (hy : ly_hy m_tt ly_TH h) (cq me w n i u : Int) (x0 : Int32) (hx0 : x0.toInt = (u)) (b0 : 0 ≤ cq) (t0 : cq ≤ 1239) (b1 : (-2147483648) ≤ me) (t1 : me ≤ 2147483647) (b2 : (-2147483648) ≤ w) (t2 : w ≤ 2147483647) (b3 : 0 ≤ n) (t3 : n ≤ 31) (b4 : 0 ≤ i) (t4 : i ≤ 10240) (b5 : (-2147483648) ≤ u) (t5 : u ≤ 2147483647) (l0 : hp_a l 0 30) (l1 : hp_i l 1 (cq)) (l2 : hp_i l 2 (me)) (l3 : hp_i l 3 (w)) (l4 : hp_i l 4 (n)) (l5 : hp_i l 5 (i)) (e0 : ∀ (l' : am_L) (h' : am_H) (y0 : Int32) (y1 : Int32) (y2 : Int32), y0.toInt = (n) → y1.toInt = (me) → y2.toInt = (u) → ly_hy m_tt ly_TH h' → ly_fr cst [] h h' → h.length ≤ h'.length → hp_a l' 0 30 → hp_i l' 1 (cq) → hp_i l' 2 (me) → hp_i l' 3 (w) → hp_i l' 4 (n) → hp_i l' 5 (i) → hp_F cst strs Φ D M 42 l' [.int y0, .int y1, .int y2] h') : hp_F cst strs Φ D M 39 l [.int x0] h := by
  refine hq_arc c hM hwT1_k hD [cq, me, w, n, i, u] rfl hy (hp_Bc (z := cq) rfl b0 t0 (hp_Bc (z := me) rfl b1 t1 (hp_Bc (z := w) rfl b2 t2 (hp_Bc (z := n) rfl b3 t3 (hp_Bc (z := i) rfl b4 t4 (hp_Bc (z := u) rfl b5 t5 hp_Bn)))))) hp_Fn hp_Kn (hp_La l0 (hp_Li (z := (0 + (1 * cq + 0))) l1 rfl (by omega) (hp_Li (z := (0 + (1 * me + 0))) l2 rfl (by omega) (hp_Li (z := (0 + (1 * w + 0))) l3 rfl (by omega) (hp_Li (z := (0 + (1 * n + 0))) l4 rfl (by omega) (hp_Li (z := (0 + (1 * i + 0))) l5 rfl (by omega) hp_Ln)))))) (hp_Si (z := (0 + (1 * u + 0))) rfl (by omega) trivial) ?_ ?_
  · intro p_9 hp ys l' st' h' hys a1_9 a2 a3 gZ gL gS
    rcases List.mem_cons.mp hp with rfl | hp
    · obtain rfl := hp_y0 hys
      obtain ⟨y0, t0, rfl, q0, g0⟩ := hp_gSi (z := (0 + (1 * n + 0))) gS rfl
      obtain ⟨y1, t1, rfl, q1_9, g1⟩ := hp_gSi (z := (0 + (1 * me + 0))) g0 rfl
      obtain ⟨y2, t2, rfl, q2_9, g2⟩ := hp_gSi (z := (0 + (1 * u + 0))) g1 rfl
      cases hp_gSn g2
      exact e0 l' h' y0 y1 y2 (by omega) (by omega) (by omega) a1_9 a2 a3 (hp_gLa gL (List.mem_of_getElem? (i := 0) rfl) (by decide)) (hp_gLi (z := (0 + (1 * cq + 0))) gL (List.mem_of_getElem? (i := 1) rfl) rfl (by omega)) (hp_gLi (z := (0 + (1 * me + 0))) gL (List.mem_of_getElem? (i := 2) rfl) rfl (by omega)) (hp_gLi (z := (0 + (1 * w + 0))) gL (List.mem_of_getElem? (i := 3) rfl) rfl (by omega)) (hp_gLi (z := (0 + (1 * n + 0))) gL (List.mem_of_getElem? (i := 4) rfl) rfl (by omega)) (hp_gLi (z := (0 + (1 * i + 0))) gL (List.mem_of_getElem? (i := 5) rfl) rfl (by omega))
    cases hp
  · intro p_9 hp ys v_9 h' hys a1_9 a2 a3 gZ gS
    cases hp
theorem hwT2_k : hq_chk [124, 125] 129 43 7 [(0, 0, 1239), (1, (-2147483648), 2147483647), (2, (-2147483648), 2147483647), (3, 0, 31), (4, 0, 10240), (5, (-2147483648), 2147483647), (6, (-2147483648), 2147483647)] [] [(0, .inr (.inr (.inl (some 30)))), (1, .inl (0, [(0, 1)])), (2, .inl (0, [(1, 1)])), (3, .inl (0, [(2, 1)])), (4, .inl (0, [(3, 1)])), (5, .inl (0, [(4, 1)]))] [.inl (0, [(6, 1)]), .inl (0, [(5, 1)])] [] [] 4 [(44, ([], 7, [(0, 0, 1239), (1, (-2147483648), 2147483647), (2, (-2147483648), 2147483647), (3, 0, 31), (4, 0, 10240), (5, (-2147483648), 2147483647), (6, (-2147483648), 2147483647)], [], [(0, .inr (.inr (.inl (some 30)))), (1, .inl (0, [(0, 1)])), (2, .inl (0, [(1, 1)])), (3, .inl (0, [(2, 1)])), (4, .inl (0, [(3, 1)])), (5, .inl (0, [(4, 1)]))], [.inl (1, []), .inl (0, [(6, 1)]), .inl (0, [(5, 1)])], []))] [] = true := by decide +kernel
theorem hwT2 {cst : am_K} {strs : List Nat} {Φ : am_Q → Prop} {D : Nat} {M : am_M} {h : am_H} {l : am_L} (c : hp_C cst strs D) (hM : m_P[129]? = some M) (hD : (4 : Int) ≤ (D : Int) + 1) (hy : ly_hy m_tt ly_TH h) (cq me w n i u d : Int) (x0 : Int32) (x1 : Int32) (hx0 : x0.toInt = (d)) (hx1 : x1.toInt = (u)) (b0 : 0 ≤ cq) (t0 : cq ≤ 1239) (b1 : (-2147483648) ≤ me) (t1 : me ≤ 2147483647) (b2 : (-2147483648) ≤ w) (t2 : w ≤ 2147483647) (b3 : 0 ≤ n) (t3 : n ≤ 31) (b4 : 0 ≤ i) (t4 : i ≤ 10240) (b5 : (-2147483648) ≤ u) (t5 : u ≤ 2147483647) (b6 : (-2147483648) ≤ d) (t6 : d ≤ 2147483647) (l0 : hp_a l 0 30) (l1 : hp_i l 1 (cq)) (l2 : hp_i l 2 (me)) (l3 : hp_i l 3 (w)) (l4 : hp_i l 4 (n)) (l5 : hp_i l 5 (i)) (e0 : ∀ (l' : am_L) (h' : am_H) (y0 : Int32) (y1 : Int32) (y2 : Int32), y0.toInt = 1 → y1.toInt = (d) → y2.toInt = (u) → ly_hy m_tt ly_TH h' → ly_fr cst [] h h' → h.length ≤ h'.length → hp_a l' 0 30 → hp_i l' 1 (cq) → hp_i l' 2 (me) → hp_i l' 3 (w) → hp_i l' 4 (n) → hp_i l' 5 (i) → hp_F cst strs Φ D M 44 l' [.int y0, .int y1, .int y2] h') : hp_F cst strs Φ D M 43 l [.int x0, .int x1] h := by
  refine hq_arc c hM hwT2_k hD [cq, me, w, n, i, u, d] rfl hy (hp_Bc (z := cq) rfl b0 t0 (hp_Bc (z := me) rfl b1 t1 (hp_Bc (z := w) rfl b2 t2 (hp_Bc (z := n) rfl b3 t3 (hp_Bc (z := i) rfl b4 t4 (hp_Bc (z := u) rfl b5 t5 (hp_Bc (z := d) rfl b6 t6 hp_Bn))))))) hp_Fn hp_Kn (hp_La l0 (hp_Li (z := (0 + (1 * cq + 0))) l1 rfl (by omega) (hp_Li (z := (0 + (1 * me + 0))) l2 rfl (by omega) (hp_Li (z := (0 + (1 * w + 0))) l3 rfl (by omega) (hp_Li (z := (0 + (1 * n + 0))) l4 rfl (by omega) (hp_Li (z := (0 + (1 * i + 0))) l5 rfl (by omega) hp_Ln)))))) (hp_Si (z := (0 + (1 * d + 0))) rfl (by omega) (hp_Si (z := (0 + (1 * u + 0))) rfl (by omega) trivial)) ?_ ?_
  · intro p_9 hp ys l' st' h' hys a1_9 a2 a3 gZ gL gS
    rcases List.mem_cons.mp hp with rfl | hp
    · obtain rfl := hp_y0 hys
      obtain ⟨y0, t0, rfl, q0, g0⟩ := hp_gSi (z := (1 + 0)) gS rfl
      obtain ⟨y1, t1, rfl, q1_9, g1⟩ := hp_gSi (z := (0 + (1 * d + 0))) g0 rfl
      obtain ⟨y2, t2, rfl, q2_9, g2⟩ := hp_gSi (z := (0 + (1 * u + 0))) g1 rfl
      cases hp_gSn g2
      exact e0 l' h' y0 y1 y2 (by omega) (by omega) (by omega) a1_9 a2 a3 (hp_gLa gL (List.mem_of_getElem? (i := 0) rfl) (by decide)) (hp_gLi (z := (0 + (1 * cq + 0))) gL (List.mem_of_getElem? (i := 1) rfl) rfl (by omega)) (hp_gLi (z := (0 + (1 * me + 0))) gL (List.mem_of_getElem? (i := 2) rfl) rfl (by omega)) (hp_gLi (z := (0 + (1 * w + 0))) gL (List.mem_of_getElem? (i := 3) rfl) rfl (by omega)) (hp_gLi (z := (0 + (1 * n + 0))) gL (List.mem_of_getElem? (i := 4) rfl) rfl (by omega)) (hp_gLi (z := (0 + (1 * i + 0))) gL (List.mem_of_getElem? (i := 5) rfl) rfl (by omega))
    cases hp
  · intro p_9 hp ys v_9 h' hys a1_9 a2 a3 gZ gS
    cases hp
theorem hwT3_k : hp_chk 129 46 6 [(0, 0, 1239), (1, (-2147483648), 2147483647), (2, (-2147483648), 2147483647), (3, 0, 31), (4, 0, 10240), (5, (-2147483648), 2147483647)] [] [(0, .inr (.inr (.inl (some 30)))), (1, .inl (0, [(0, 1)])), (2, .inl (0, [(1, 1)])), (3, .inl (0, [(2, 1)])), (4, .inl (0, [(3, 1)])), (5, .inl (0, [(4, 1)]))] [.inl (0, [(5, 1)])] [] [] 2 [(8, ([], 6, [(0, 0, 1239), (1, (-2147483648), 2147483647), (2, (-2147483648), 2147483647), (3, 0, 31), (4, 0, 10240), (5, (-2147483648), 2147483647)], [], [(0, .inr (.inr (.inl (some 30)))), (1, .inl (0, [(0, 1)])), (2, .inl (0, [(1, 1)])), (3, .inl (0, [(5, 1)])), (4, .inl (1, [(3, 1)])), (5, .inl (1, [(4, 1)]))], [], []))] [] = true := by decide +kernel
theorem hwT3 {cst : am_K} {strs : List Nat} {Φ : am_Q → Prop} {D : Nat} {M : am_M} {h : am_H} {l : am_L} (c : hp_C cst strs D) (hM : m_P[129]? = some M) (hD : (2 : Int) ≤ (D : Int) + 1) (hy : ly_hy m_tt ly_TH h) (cq me w n i u : Int) (x0 : Int32) (hx0 : x0.toInt = (u)) (b0 : 0 ≤ cq) (t0 : cq ≤ 1239) (b1 : (-2147483648) ≤ me) (t1 : me ≤ 2147483647) (b2 : (-2147483648) ≤ w) (t2 : w ≤ 2147483647) (b3 : 0 ≤ n) (t3 : n ≤ 31) (b4 : 0 ≤ i) (t4 : i ≤ 10240) (b5 : (-2147483648) ≤ u) (t5 : u ≤ 2147483647) (l0 : hp_a l 0 30) (l1 : hp_i l 1 (cq)) (l2 : hp_i l 2 (me)) (l3 : hp_i l 3 (w)) (l4 : hp_i l 4 (n)) (l5 : hp_i l 5 (i)) (e0 : ∀ (l' : am_L) (h' : am_H), ly_hy m_tt ly_TH h' → ly_fr cst [] h h' → h.length ≤ h'.length → hp_a l' 0 30 → hp_i l' 1 (cq) → hp_i l' 2 (me) → hp_i l' 3 (u) → hp_i l' 4 (n + 1) → hp_i l' 5 (i + 1) → hp_F cst strs Φ D M 8 l' [] h') : hp_F cst strs Φ D M 46 l [.int x0] h := by
  refine hp_arc c hM hwT3_k hD [cq, me, w, n, i, u] rfl hy (hp_Bc (z := cq) rfl b0 t0 (hp_Bc (z := me) rfl b1 t1 (hp_Bc (z := w) rfl b2 t2 (hp_Bc (z := n) rfl b3 t3 (hp_Bc (z := i) rfl b4 t4 (hp_Bc (z := u) rfl b5 t5 hp_Bn)))))) hp_Fn hp_Kn (hp_La l0 (hp_Li (z := (0 + (1 * cq + 0))) l1 rfl (by omega) (hp_Li (z := (0 + (1 * me + 0))) l2 rfl (by omega) (hp_Li (z := (0 + (1 * w + 0))) l3 rfl (by omega) (hp_Li (z := (0 + (1 * n + 0))) l4 rfl (by omega) (hp_Li (z := (0 + (1 * i + 0))) l5 rfl (by omega) hp_Ln)))))) (hp_Si (z := (0 + (1 * u + 0))) rfl (by omega) trivial) ?_ ?_
  · intro p_9 hp ys l' st' h' hys a1_9 a2 a3 gZ gL gS
    rcases List.mem_cons.mp hp with rfl | hp
    · obtain rfl := hp_y0 hys
      cases hp_gSn gS
      exact e0 l' h' a1_9 a2 a3 (hp_gLa gL (List.mem_of_getElem? (i := 0) rfl) (by decide)) (hp_gLi (z := (0 + (1 * cq + 0))) gL (List.mem_of_getElem? (i := 1) rfl) rfl (by omega)) (hp_gLi (z := (0 + (1 * me + 0))) gL (List.mem_of_getElem? (i := 2) rfl) rfl (by omega)) (hp_gLi (z := (0 + (1 * u + 0))) gL (List.mem_of_getElem? (i := 3) rfl) rfl (by omega)) (hp_gLi (z := (1 + (1 * n + 0))) gL (List.mem_of_getElem? (i := 4) rfl) rfl (by omega)) (hp_gLi (z := (1 + (1 * i + 0))) gL (List.mem_of_getElem? (i := 5) rfl) rfl (by omega))
    cases hp
  · intro p_9 hp ys v_9 h' hys a1_9 a2 a3 gZ gS
    cases hp
theorem hwN0_k : hq_chk [124, 125] 129 8 8 [(0, 0, 1239), (1, (-2147483648), 2147483647), (2, (-2147483648), 2147483647), (3, 0, 31), (4, 0, 10240), (5, 0, 1240), (6, 0, 10240), (7, 0, 10240)] [((-1), [(0, (-1)), (5, 1)]), ((-1), [(4, (-1)), (6, (-1)), (7, 1)])] [(0, .inr (.inr (.inl (some 30)))), (1, .inl (0, [(0, 1)])), (2, .inl (0, [(1, 1)])), (3, .inl (0, [(2, 1)])), (4, .inl (0, [(3, 1)])), (5, .inl (0, [(4, 1)]))] [] [(3588, (0, []), (0, [(5, 1)])), (5632, (0, [(0, 1)]), (0, [(6, 1)])), (5632, (1, [(0, 1)]), (0, [(7, 1)])), (5888, (0, [(4, 1), (6, 1)]), ((-20005), []))] [] 4 [(64, ([], 8, [(0, 0, 1239), (1, (-2147483648), 2147483647), (2, (-2147483648), 2147483647), (3, 0, 31), (4, 0, 10240), (5, 0, 1240), (6, 0, 10240), (7, 0, 10240)], [], [(0, .inr (.inr (.inl (some 30)))), (1, .inl (0, [(0, 1)])), (2, .inl (0, [(1, 1)])), (3, .inl (0, [(2, 1)])), (4, .inl (0, [(3, 1)])), (5, .inl (0, [(4, 1)]))], [.inl (1, []), .inl (0, [(2, 1)])], []))] [] = true := by decide +kernel
theorem hwN0 {cst : am_K} {strs : List Nat} {Φ : am_Q → Prop} {D : Nat} {M : am_M} {h : am_H} {l : am_L} (c : hp_C cst strs D) (hM : m_P[129]? = some M) (hD : (4 : Int) ≤ (D : Int) + 1) (hy : ly_hy m_tt ly_TH h) (cq me w n i cl f g : Int) (b0 : 0 ≤ cq) (t0 : cq ≤ 1239) (b1 : (-2147483648) ≤ me) (t1 : me ≤ 2147483647) (b2 : (-2147483648) ≤ w) (t2 : w ≤ 2147483647) (b3 : 0 ≤ n) (t3 : n ≤ 31) (b4 : 0 ≤ i) (t4 : i ≤ 10240) (b5 : 0 ≤ cl) (t5 : cl ≤ 1240) (b6 : 0 ≤ f) (t6 : f ≤ 10240) (b7 : 0 ≤ g) (t7 : g ≤ 10240) (f0 : 0 ≤ (cl - cq - 1)) (f1 : 0 ≤ (g - f - i - 1)) (k0 : ly_hv cst h 3588 0 = some (cl)) (k1 : ly_hv cst h 5632 (cq) = some (f)) (k2 : ly_hv cst h 5632 (cq + 1) = some (g)) (k3 : ly_hv cst h 5888 (f + i) = some (-20005)) (l0 : hp_a l 0 30) (l1 : hp_i l 1 (cq)) (l2 : hp_i l 2 (me)) (l3 : hp_i l 3 (w)) (l4 : hp_i l 4 (n)) (l5 : hp_i l 5 (i)) (e0 : ∀ (l' : am_L) (h' : am_H) (y0 : Int32) (y1 : Int32), y0.toInt = 1 → y1.toInt = (w) → ly_hy m_tt ly_TH h' → ly_fr cst [] h h' → h.length ≤ h'.length → hp_a l' 0 30 → hp_i l' 1 (cq) → hp_i l' 2 (me) → hp_i l' 3 (w) → hp_i l' 4 (n) → hp_i l' 5 (i) → hp_F cst strs Φ D M 64 l' [.int y0, .int y1] h') : hp_F cst strs Φ D M 8 l [] h := by
  refine hq_arc c hM hwN0_k hD [cq, me, w, n, i, cl, f, g] rfl hy (hp_Bc (z := cq) rfl b0 t0 (hp_Bc (z := me) rfl b1 t1 (hp_Bc (z := w) rfl b2 t2 (hp_Bc (z := n) rfl b3 t3 (hp_Bc (z := i) rfl b4 t4 (hp_Bc (z := cl) rfl b5 t5 (hp_Bc (z := f) rfl b6 t6 (hp_Bc (z := g) rfl b7 t7 hp_Bn)))))))) (hp_Fc (z := ((-1) + ((-1) * cq + (1 * cl + 0)))) rfl (by omega) (hp_Fc (z := ((-1) + ((-1) * i + ((-1) * f + (1 * g + 0))))) rfl (by omega) hp_Fn)) (hp_Kc (zi := (0 + 0)) (zv := (0 + (1 * cl + 0))) k0 rfl rfl (by omega) (by omega) (hp_Kc (zi := (0 + (1 * cq + 0))) (zv := (0 + (1 * f + 0))) k1 rfl rfl (by omega) (by omega) (hp_Kc (zi := (1 + (1 * cq + 0))) (zv := (0 + (1 * g + 0))) k2 rfl rfl (by omega) (by omega) (hp_Kc (zi := (0 + (1 * i + (1 * f + 0)))) (zv := ((-20005) + 0)) k3 rfl rfl (by omega) (by omega) hp_Kn)))) (hp_La l0 (hp_Li (z := (0 + (1 * cq + 0))) l1 rfl (by omega) (hp_Li (z := (0 + (1 * me + 0))) l2 rfl (by omega) (hp_Li (z := (0 + (1 * w + 0))) l3 rfl (by omega) (hp_Li (z := (0 + (1 * n + 0))) l4 rfl (by omega) (hp_Li (z := (0 + (1 * i + 0))) l5 rfl (by omega) hp_Ln)))))) trivial ?_ ?_
  · intro p_9 hp ys l' st' h' hys a1_9 a2 a3 gZ gL gS
    rcases List.mem_cons.mp hp with rfl | hp
    · obtain rfl := hp_y0 hys
      obtain ⟨y0, t0, rfl, q0, g0⟩ := hp_gSi (z := (1 + 0)) gS rfl
      obtain ⟨y1, t1, rfl, q1_9, g1⟩ := hp_gSi (z := (0 + (1 * w + 0))) g0 rfl
      cases hp_gSn g1
      exact e0 l' h' y0 y1 (by omega) (by omega) a1_9 a2 a3 (hp_gLa gL (List.mem_of_getElem? (i := 0) rfl) (by decide)) (hp_gLi (z := (0 + (1 * cq + 0))) gL (List.mem_of_getElem? (i := 1) rfl) rfl (by omega)) (hp_gLi (z := (0 + (1 * me + 0))) gL (List.mem_of_getElem? (i := 2) rfl) rfl (by omega)) (hp_gLi (z := (0 + (1 * w + 0))) gL (List.mem_of_getElem? (i := 3) rfl) rfl (by omega)) (hp_gLi (z := (0 + (1 * n + 0))) gL (List.mem_of_getElem? (i := 4) rfl) rfl (by omega)) (hp_gLi (z := (0 + (1 * i + 0))) gL (List.mem_of_getElem? (i := 5) rfl) rfl (by omega))
    cases hp
  · intro p_9 hp ys v_9 h' hys a1_9 a2 a3 gZ gS
    cases hp
theorem hwN1_k : hp_chk 129 65 6 [(0, 0, 1239), (1, (-2147483648), 2147483647), (2, (-2147483648), 2147483647), (3, 0, 31), (4, 0, 10240), (5, (-2147483648), 2147483647)] [] [(0, .inr (.inr (.inl (some 30)))), (1, .inl (0, [(0, 1)])), (2, .inl (0, [(1, 1)])), (3, .inl (0, [(2, 1)])), (4, .inl (0, [(3, 1)])), (5, .inl (0, [(4, 1)]))] [.inl (0, [(5, 1)])] [] [] 2 [(8, ([], 6, [(0, 0, 1239), (1, (-2147483648), 2147483647), (2, (-2147483648), 2147483647), (3, 0, 31), (4, 0, 10240), (5, (-2147483648), 2147483647)], [], [(0, .inr (.inr (.inl (some 30)))), (1, .inl (0, [(0, 1)])), (2, .inl (0, [(1, 1)])), (3, .inl (0, [(5, 1)])), (4, .inl (0, [(3, 1)])), (5, .inl (1, [(4, 1)]))], [], []))] [] = true := by decide +kernel
theorem hwN1 {cst : am_K} {strs : List Nat} {Φ : am_Q → Prop} {D : Nat} {M : am_M} {h : am_H} {l : am_L} (c : hp_C cst strs D) (hM : m_P[129]? = some M) (hD : (2 : Int) ≤ (D : Int) + 1) (hy : ly_hy m_tt ly_TH h) (cq me w n i u : Int) (x0 : Int32) (hx0 : x0.toInt = (u)) (b0 : 0 ≤ cq) (t0 : cq ≤ 1239) (b1 : (-2147483648) ≤ me) (t1 : me ≤ 2147483647) (b2 : (-2147483648) ≤ w) (t2 : w ≤ 2147483647) (b3 : 0 ≤ n) (t3 : n ≤ 31) (b4 : 0 ≤ i) (t4 : i ≤ 10240) (b5 : (-2147483648) ≤ u) (t5 : u ≤ 2147483647) (l0 : hp_a l 0 30) (l1 : hp_i l 1 (cq)) (l2 : hp_i l 2 (me)) (l3 : hp_i l 3 (w)) (l4 : hp_i l 4 (n)) (l5 : hp_i l 5 (i)) (e0 : ∀ (l' : am_L) (h' : am_H), ly_hy m_tt ly_TH h' → ly_fr cst [] h h' → h.length ≤ h'.length → hp_a l' 0 30 → hp_i l' 1 (cq) → hp_i l' 2 (me) → hp_i l' 3 (u) → hp_i l' 4 (n) → hp_i l' 5 (i + 1) → hp_F cst strs Φ D M 8 l' [] h') : hp_F cst strs Φ D M 65 l [.int x0] h := by
  refine hp_arc c hM hwN1_k hD [cq, me, w, n, i, u] rfl hy (hp_Bc (z := cq) rfl b0 t0 (hp_Bc (z := me) rfl b1 t1 (hp_Bc (z := w) rfl b2 t2 (hp_Bc (z := n) rfl b3 t3 (hp_Bc (z := i) rfl b4 t4 (hp_Bc (z := u) rfl b5 t5 hp_Bn)))))) hp_Fn hp_Kn (hp_La l0 (hp_Li (z := (0 + (1 * cq + 0))) l1 rfl (by omega) (hp_Li (z := (0 + (1 * me + 0))) l2 rfl (by omega) (hp_Li (z := (0 + (1 * w + 0))) l3 rfl (by omega) (hp_Li (z := (0 + (1 * n + 0))) l4 rfl (by omega) (hp_Li (z := (0 + (1 * i + 0))) l5 rfl (by omega) hp_Ln)))))) (hp_Si (z := (0 + (1 * u + 0))) rfl (by omega) trivial) ?_ ?_
  · intro p_9 hp ys l' st' h' hys a1_9 a2 a3 gZ gL gS
    rcases List.mem_cons.mp hp with rfl | hp
    · obtain rfl := hp_y0 hys
      cases hp_gSn gS
      exact e0 l' h' a1_9 a2 a3 (hp_gLa gL (List.mem_of_getElem? (i := 0) rfl) (by decide)) (hp_gLi (z := (0 + (1 * cq + 0))) gL (List.mem_of_getElem? (i := 1) rfl) rfl (by omega)) (hp_gLi (z := (0 + (1 * me + 0))) gL (List.mem_of_getElem? (i := 2) rfl) rfl (by omega)) (hp_gLi (z := (0 + (1 * u + 0))) gL (List.mem_of_getElem? (i := 3) rfl) rfl (by omega)) (hp_gLi (z := (0 + (1 * n + 0))) gL (List.mem_of_getElem? (i := 4) rfl) rfl (by omega)) (hp_gLi (z := (1 + (1 * i + 0))) gL (List.mem_of_getElem? (i := 5) rfl) rfl (by omega))
    cases hp
  · intro p_9 hp ys v_9 h' hys a1_9 a2 a3 gZ gS
    cases hp
theorem hwA0_k : hq_chk [124, 125] 129 8 8 [(0, 0, 1239), (1, (-2147483648), 2147483647), (2, (-2147483648), 2147483647), (3, 0, 31), (4, 0, 10240), (5, 0, 1240), (6, 0, 10240), (7, 0, 10240)] [((-1), [(0, (-1)), (5, 1)]), ((-1), [(4, (-1)), (6, (-1)), (7, 1)])] [(0, .inr (.inr (.inl (some 30)))), (1, .inl (0, [(0, 1)])), (2, .inl (0, [(1, 1)])), (3, .inl (0, [(2, 1)])), (4, .inl (0, [(3, 1)])), (5, .inl (0, [(4, 1)]))] [] [(3588, (0, []), (0, [(5, 1)])), (5632, (0, [(0, 1)]), (0, [(6, 1)])), (5632, (1, [(0, 1)]), (0, [(7, 1)])), (5888, (0, [(4, 1), (6, 1)]), ((-20006), []))] [] 4 [(80, ([], 8, [(0, 0, 1239), (1, (-2147483648), 2147483647), (2, (-2147483648), 2147483647), (3, 0, 31), (4, 0, 10240), (5, 0, 1240), (6, 0, 10240), (7, 0, 10240)], [], [(0, .inr (.inr (.inl (some 30)))), (1, .inl (0, [(0, 1)])), (2, .inl (0, [(1, 1)])), (3, .inl (0, [(2, 1)])), (4, .inl (0, [(3, 1)])), (5, .inl (0, [(4, 1)]))], [.inl (1, []), .inl (0, [(2, 1)])], []))] [] = true := by decide +kernel
theorem hwA0 {cst : am_K} {strs : List Nat} {Φ : am_Q → Prop} {D : Nat} {M : am_M} {h : am_H} {l : am_L} (c : hp_C cst strs D) (hM : m_P[129]? = some M) (hD : (4 : Int) ≤ (D : Int) + 1) (hy : ly_hy m_tt ly_TH h) (cq me w n i cl f g : Int) (b0 : 0 ≤ cq) (t0 : cq ≤ 1239) (b1 : (-2147483648) ≤ me) (t1 : me ≤ 2147483647) (b2 : (-2147483648) ≤ w) (t2 : w ≤ 2147483647) (b3 : 0 ≤ n) (t3 : n ≤ 31) (b4 : 0 ≤ i) (t4 : i ≤ 10240) (b5 : 0 ≤ cl) (t5 : cl ≤ 1240) (b6 : 0 ≤ f) (t6 : f ≤ 10240) (b7 : 0 ≤ g) (t7 : g ≤ 10240) (f0 : 0 ≤ (cl - cq - 1)) (f1 : 0 ≤ (g - f - i - 1)) (k0 : ly_hv cst h 3588 0 = some (cl)) (k1 : ly_hv cst h 5632 (cq) = some (f)) (k2 : ly_hv cst h 5632 (cq + 1) = some (g)) (k3 : ly_hv cst h 5888 (f + i) = some (-20006)) (l0 : hp_a l 0 30) (l1 : hp_i l 1 (cq)) (l2 : hp_i l 2 (me)) (l3 : hp_i l 3 (w)) (l4 : hp_i l 4 (n)) (l5 : hp_i l 5 (i)) (e0 : ∀ (l' : am_L) (h' : am_H) (y0 : Int32) (y1 : Int32), y0.toInt = 1 → y1.toInt = (w) → ly_hy m_tt ly_TH h' → ly_fr cst [] h h' → h.length ≤ h'.length → hp_a l' 0 30 → hp_i l' 1 (cq) → hp_i l' 2 (me) → hp_i l' 3 (w) → hp_i l' 4 (n) → hp_i l' 5 (i) → hp_F cst strs Φ D M 80 l' [.int y0, .int y1] h') : hp_F cst strs Φ D M 8 l [] h := by
  refine hq_arc c hM hwA0_k hD [cq, me, w, n, i, cl, f, g] rfl hy (hp_Bc (z := cq) rfl b0 t0 (hp_Bc (z := me) rfl b1 t1 (hp_Bc (z := w) rfl b2 t2 (hp_Bc (z := n) rfl b3 t3 (hp_Bc (z := i) rfl b4 t4 (hp_Bc (z := cl) rfl b5 t5 (hp_Bc (z := f) rfl b6 t6 (hp_Bc (z := g) rfl b7 t7 hp_Bn)))))))) (hp_Fc (z := ((-1) + ((-1) * cq + (1 * cl + 0)))) rfl (by omega) (hp_Fc (z := ((-1) + ((-1) * i + ((-1) * f + (1 * g + 0))))) rfl (by omega) hp_Fn)) (hp_Kc (zi := (0 + 0)) (zv := (0 + (1 * cl + 0))) k0 rfl rfl (by omega) (by omega) (hp_Kc (zi := (0 + (1 * cq + 0))) (zv := (0 + (1 * f + 0))) k1 rfl rfl (by omega) (by omega) (hp_Kc (zi := (1 + (1 * cq + 0))) (zv := (0 + (1 * g + 0))) k2 rfl rfl (by omega) (by omega) (hp_Kc (zi := (0 + (1 * i + (1 * f + 0)))) (zv := ((-20006) + 0)) k3 rfl rfl (by omega) (by omega) hp_Kn)))) (hp_La l0 (hp_Li (z := (0 + (1 * cq + 0))) l1 rfl (by omega) (hp_Li (z := (0 + (1 * me + 0))) l2 rfl (by omega) (hp_Li (z := (0 + (1 * w + 0))) l3 rfl (by omega) (hp_Li (z := (0 + (1 * n + 0))) l4 rfl (by omega) (hp_Li (z := (0 + (1 * i + 0))) l5 rfl (by omega) hp_Ln)))))) trivial ?_ ?_
  · intro p_9 hp ys l' st' h' hys a1_9 a2 a3 gZ gL gS
    rcases List.mem_cons.mp hp with rfl | hp
    · obtain rfl := hp_y0 hys
      obtain ⟨y0, t0, rfl, q0, g0⟩ := hp_gSi (z := (1 + 0)) gS rfl
      obtain ⟨y1, t1, rfl, q1_9, g1⟩ := hp_gSi (z := (0 + (1 * w + 0))) g0 rfl
      cases hp_gSn g1
      exact e0 l' h' y0 y1 (by omega) (by omega) a1_9 a2 a3 (hp_gLa gL (List.mem_of_getElem? (i := 0) rfl) (by decide)) (hp_gLi (z := (0 + (1 * cq + 0))) gL (List.mem_of_getElem? (i := 1) rfl) rfl (by omega)) (hp_gLi (z := (0 + (1 * me + 0))) gL (List.mem_of_getElem? (i := 2) rfl) rfl (by omega)) (hp_gLi (z := (0 + (1 * w + 0))) gL (List.mem_of_getElem? (i := 3) rfl) rfl (by omega)) (hp_gLi (z := (0 + (1 * n + 0))) gL (List.mem_of_getElem? (i := 4) rfl) rfl (by omega)) (hp_gLi (z := (0 + (1 * i + 0))) gL (List.mem_of_getElem? (i := 5) rfl) rfl (by omega))
    cases hp
  · intro p_9 hp ys v_9 h' hys a1_9 a2 a3 gZ gS
    cases hp
theorem hwA1_k : hq_chk [124, 125] 129 81 6 [(0, 0, 1239), (1, (-2147483648), 2147483647), (2, (-2147483648), 2147483647), (3, 0, 31), (4, 0, 10240), (5, (-2147483648), 2147483647)] [] [(0, .inr (.inr (.inl (some 30)))), (1, .inl (0, [(0, 1)])), (2, .inl (0, [(1, 1)])), (3, .inl (0, [(2, 1)])), (4, .inl (0, [(3, 1)])), (5, .inl (0, [(4, 1)]))] [.inl (0, [(5, 1)])] [] [] 4 [(84, ([], 6, [(0, 0, 1239), (1, (-2147483648), 2147483647), (2, (-2147483648), 2147483647), (3, 0, 31), (4, 0, 10240), (5, (-2147483648), 2147483647)], [], [(0, .inr (.inr (.inl (some 30)))), (1, .inl (0, [(0, 1)])), (2, .inl (0, [(1, 1)])), (3, .inl (0, [(2, 1)])), (4, .inl (0, [(3, 1)])), (5, .inl (0, [(4, 1)]))], [.inl ((-2), []), .inl (0, [(2, 1)]), .inl (0, [(5, 1)])], []))] [] = true := by decide +kernel
theorem hwA1 {cst : am_K} {strs : List Nat} {Φ : am_Q → Prop} {D : Nat} {M : am_M} {h : am_H} {l : am_L} (c : hp_C cst strs D) (hM : m_P[129]? = some M) (hD : (4 : Int) ≤ (D : Int) + 1) (hy : ly_hy m_tt ly_TH h) (cq me w n i u : Int) (x0 : Int32) (hx0 : x0.toInt = (u)) (b0 : 0 ≤ cq) (t0 : cq ≤ 1239) (b1 : (-2147483648) ≤ me) (t1 : me ≤ 2147483647) (b2 : (-2147483648) ≤ w) (t2 : w ≤ 2147483647) (b3 : 0 ≤ n) (t3 : n ≤ 31) (b4 : 0 ≤ i) (t4 : i ≤ 10240) (b5 : (-2147483648) ≤ u) (t5 : u ≤ 2147483647) (l0 : hp_a l 0 30) (l1 : hp_i l 1 (cq)) (l2 : hp_i l 2 (me)) (l3 : hp_i l 3 (w)) (l4 : hp_i l 4 (n)) (l5 : hp_i l 5 (i)) (e0 : ∀ (l' : am_L) (h' : am_H) (y0 : Int32) (y1 : Int32) (y2 : Int32), y0.toInt = (-2) → y1.toInt = (w) → y2.toInt = (u) → ly_hy m_tt ly_TH h' → ly_fr cst [] h h' → h.length ≤ h'.length → hp_a l' 0 30 → hp_i l' 1 (cq) → hp_i l' 2 (me) → hp_i l' 3 (w) → hp_i l' 4 (n) → hp_i l' 5 (i) → hp_F cst strs Φ D M 84 l' [.int y0, .int y1, .int y2] h') : hp_F cst strs Φ D M 81 l [.int x0] h := by
  refine hq_arc c hM hwA1_k hD [cq, me, w, n, i, u] rfl hy (hp_Bc (z := cq) rfl b0 t0 (hp_Bc (z := me) rfl b1 t1 (hp_Bc (z := w) rfl b2 t2 (hp_Bc (z := n) rfl b3 t3 (hp_Bc (z := i) rfl b4 t4 (hp_Bc (z := u) rfl b5 t5 hp_Bn)))))) hp_Fn hp_Kn (hp_La l0 (hp_Li (z := (0 + (1 * cq + 0))) l1 rfl (by omega) (hp_Li (z := (0 + (1 * me + 0))) l2 rfl (by omega) (hp_Li (z := (0 + (1 * w + 0))) l3 rfl (by omega) (hp_Li (z := (0 + (1 * n + 0))) l4 rfl (by omega) (hp_Li (z := (0 + (1 * i + 0))) l5 rfl (by omega) hp_Ln)))))) (hp_Si (z := (0 + (1 * u + 0))) rfl (by omega) trivial) ?_ ?_
  · intro p_9 hp ys l' st' h' hys a1_9 a2 a3 gZ gL gS
    rcases List.mem_cons.mp hp with rfl | hp
    · obtain rfl := hp_y0 hys
      obtain ⟨y0, t0, rfl, q0, g0⟩ := hp_gSi (z := ((-2) + 0)) gS rfl
      obtain ⟨y1, t1, rfl, q1_9, g1⟩ := hp_gSi (z := (0 + (1 * w + 0))) g0 rfl
      obtain ⟨y2, t2, rfl, q2_9, g2⟩ := hp_gSi (z := (0 + (1 * u + 0))) g1 rfl
      cases hp_gSn g2
      exact e0 l' h' y0 y1 y2 (by omega) (by omega) (by omega) a1_9 a2 a3 (hp_gLa gL (List.mem_of_getElem? (i := 0) rfl) (by decide)) (hp_gLi (z := (0 + (1 * cq + 0))) gL (List.mem_of_getElem? (i := 1) rfl) rfl (by omega)) (hp_gLi (z := (0 + (1 * me + 0))) gL (List.mem_of_getElem? (i := 2) rfl) rfl (by omega)) (hp_gLi (z := (0 + (1 * w + 0))) gL (List.mem_of_getElem? (i := 3) rfl) rfl (by omega)) (hp_gLi (z := (0 + (1 * n + 0))) gL (List.mem_of_getElem? (i := 4) rfl) rfl (by omega)) (hp_gLi (z := (0 + (1 * i + 0))) gL (List.mem_of_getElem? (i := 5) rfl) rfl (by omega))
    cases hp
  · intro p_9 hp ys v_9 h' hys a1_9 a2 a3 gZ gS
    cases hp
theorem hwA2_k : hp_chk 129 86 6 [(0, 0, 1239), (1, (-2147483648), 2147483647), (2, (-2147483648), 2147483647), (3, 0, 31), (4, 0, 10240), (5, (-2147483648), 2147483647)] [] [(0, .inr (.inr (.inl (some 30)))), (1, .inl (0, [(0, 1)])), (2, .inl (0, [(1, 1)])), (3, .inl (0, [(2, 1)])), (4, .inl (0, [(3, 1)])), (5, .inl (0, [(4, 1)]))] [.inl (0, [(5, 1)])] [] [] 2 [(8, ([], 6, [(0, 0, 1239), (1, (-2147483648), 2147483647), (2, (-2147483648), 2147483647), (3, 0, 31), (4, 0, 10240), (5, (-2147483648), 2147483647)], [], [(0, .inr (.inr (.inl (some 30)))), (1, .inl (0, [(0, 1)])), (2, .inl (0, [(1, 1)])), (3, .inl (0, [(5, 1)])), (4, .inl (0, [(3, 1)])), (5, .inl (1, [(4, 1)]))], [], []))] [] = true := by decide +kernel
theorem hwA2 {cst : am_K} {strs : List Nat} {Φ : am_Q → Prop} {D : Nat} {M : am_M} {h : am_H} {l : am_L} (c : hp_C cst strs D) (hM : m_P[129]? = some M) (hD : (2 : Int) ≤ (D : Int) + 1) (hy : ly_hy m_tt ly_TH h) (cq me w n i u : Int) (x0 : Int32) (hx0 : x0.toInt = (u)) (b0 : 0 ≤ cq) (t0 : cq ≤ 1239) (b1 : (-2147483648) ≤ me) (t1 : me ≤ 2147483647) (b2 : (-2147483648) ≤ w) (t2 : w ≤ 2147483647) (b3 : 0 ≤ n) (t3 : n ≤ 31) (b4 : 0 ≤ i) (t4 : i ≤ 10240) (b5 : (-2147483648) ≤ u) (t5 : u ≤ 2147483647) (l0 : hp_a l 0 30) (l1 : hp_i l 1 (cq)) (l2 : hp_i l 2 (me)) (l3 : hp_i l 3 (w)) (l4 : hp_i l 4 (n)) (l5 : hp_i l 5 (i)) (e0 : ∀ (l' : am_L) (h' : am_H), ly_hy m_tt ly_TH h' → ly_fr cst [] h h' → h.length ≤ h'.length → hp_a l' 0 30 → hp_i l' 1 (cq) → hp_i l' 2 (me) → hp_i l' 3 (u) → hp_i l' 4 (n) → hp_i l' 5 (i + 1) → hp_F cst strs Φ D M 8 l' [] h') : hp_F cst strs Φ D M 86 l [.int x0] h := by
  refine hp_arc c hM hwA2_k hD [cq, me, w, n, i, u] rfl hy (hp_Bc (z := cq) rfl b0 t0 (hp_Bc (z := me) rfl b1 t1 (hp_Bc (z := w) rfl b2 t2 (hp_Bc (z := n) rfl b3 t3 (hp_Bc (z := i) rfl b4 t4 (hp_Bc (z := u) rfl b5 t5 hp_Bn)))))) hp_Fn hp_Kn (hp_La l0 (hp_Li (z := (0 + (1 * cq + 0))) l1 rfl (by omega) (hp_Li (z := (0 + (1 * me + 0))) l2 rfl (by omega) (hp_Li (z := (0 + (1 * w + 0))) l3 rfl (by omega) (hp_Li (z := (0 + (1 * n + 0))) l4 rfl (by omega) (hp_Li (z := (0 + (1 * i + 0))) l5 rfl (by omega) hp_Ln)))))) (hp_Si (z := (0 + (1 * u + 0))) rfl (by omega) trivial) ?_ ?_
  · intro p_9 hp ys l' st' h' hys a1_9 a2 a3 gZ gL gS
    rcases List.mem_cons.mp hp with rfl | hp
    · obtain rfl := hp_y0 hys
      cases hp_gSn gS
      exact e0 l' h' a1_9 a2 a3 (hp_gLa gL (List.mem_of_getElem? (i := 0) rfl) (by decide)) (hp_gLi (z := (0 + (1 * cq + 0))) gL (List.mem_of_getElem? (i := 1) rfl) rfl (by omega)) (hp_gLi (z := (0 + (1 * me + 0))) gL (List.mem_of_getElem? (i := 2) rfl) rfl (by omega)) (hp_gLi (z := (0 + (1 * u + 0))) gL (List.mem_of_getElem? (i := 3) rfl) rfl (by omega)) (hp_gLi (z := (0 + (1 * n + 0))) gL (List.mem_of_getElem? (i := 4) rfl) rfl (by omega)) (hp_gLi (z := (1 + (1 * i + 0))) gL (List.mem_of_getElem? (i := 5) rfl) rfl (by omega))
    cases hp
  · intro p_9 hp ys v_9 h' hys a1_9 a2 a3 gZ gS
    cases hp
theorem hwO0_k : hq_chk [124, 125] 129 8 8 [(0, 0, 1239), (1, (-2147483648), 2147483647), (2, (-2147483648), 2147483647), (3, 0, 31), (4, 0, 10240), (5, 0, 1240), (6, 0, 10240), (7, 0, 10240)] [((-1), [(0, (-1)), (5, 1)]), ((-1), [(4, (-1)), (6, (-1)), (7, 1)])] [(0, .inr (.inr (.inl (some 30)))), (1, .inl (0, [(0, 1)])), (2, .inl (0, [(1, 1)])), (3, .inl (0, [(2, 1)])), (4, .inl (0, [(3, 1)])), (5, .inl (0, [(4, 1)]))] [] [(3588, (0, []), (0, [(5, 1)])), (5632, (0, [(0, 1)]), (0, [(6, 1)])), (5632, (1, [(0, 1)]), (0, [(7, 1)])), (5888, (0, [(4, 1), (6, 1)]), ((-20007), []))] [] 4 [(101, ([], 8, [(0, 0, 1239), (1, (-2147483648), 2147483647), (2, (-2147483648), 2147483647), (3, 0, 31), (4, 0, 10240), (5, 0, 1240), (6, 0, 10240), (7, 0, 10240)], [], [(0, .inr (.inr (.inl (some 30)))), (1, .inl (0, [(0, 1)])), (2, .inl (0, [(1, 1)])), (3, .inl (0, [(2, 1)])), (4, .inl (0, [(3, 1)])), (5, .inl (0, [(4, 1)]))], [.inl (1, []), .inl (0, [(2, 1)])], []))] [] = true := by decide +kernel
theorem hwO0 {cst : am_K} {strs : List Nat} {Φ : am_Q → Prop} {D : Nat} {M : am_M} {h : am_H} {l : am_L} (c : hp_C cst strs D) (hM : m_P[129]? = some M) (hD : (4 : Int) ≤ (D : Int) + 1) (hy : ly_hy m_tt ly_TH h) (cq me w n i cl f g : Int) (b0 : 0 ≤ cq) (t0 : cq ≤ 1239) (b1 : (-2147483648) ≤ me) (t1 : me ≤ 2147483647) (b2 : (-2147483648) ≤ w) (t2 : w ≤ 2147483647) (b3 : 0 ≤ n) (t3 : n ≤ 31) (b4 : 0 ≤ i) (t4 : i ≤ 10240) (b5 : 0 ≤ cl) (t5 : cl ≤ 1240) (b6 : 0 ≤ f) (t6 : f ≤ 10240) (b7 : 0 ≤ g) (t7 : g ≤ 10240) (f0 : 0 ≤ (cl - cq - 1)) (f1 : 0 ≤ (g - f - i - 1)) (k0 : ly_hv cst h 3588 0 = some (cl)) (k1 : ly_hv cst h 5632 (cq) = some (f)) (k2 : ly_hv cst h 5632 (cq + 1) = some (g)) (k3 : ly_hv cst h 5888 (f + i) = some (-20007)) (l0 : hp_a l 0 30) (l1 : hp_i l 1 (cq)) (l2 : hp_i l 2 (me)) (l3 : hp_i l 3 (w)) (l4 : hp_i l 4 (n)) (l5 : hp_i l 5 (i)) (e0 : ∀ (l' : am_L) (h' : am_H) (y0 : Int32) (y1 : Int32), y0.toInt = 1 → y1.toInt = (w) → ly_hy m_tt ly_TH h' → ly_fr cst [] h h' → h.length ≤ h'.length → hp_a l' 0 30 → hp_i l' 1 (cq) → hp_i l' 2 (me) → hp_i l' 3 (w) → hp_i l' 4 (n) → hp_i l' 5 (i) → hp_F cst strs Φ D M 101 l' [.int y0, .int y1] h') : hp_F cst strs Φ D M 8 l [] h := by
  refine hq_arc c hM hwO0_k hD [cq, me, w, n, i, cl, f, g] rfl hy (hp_Bc (z := cq) rfl b0 t0 (hp_Bc (z := me) rfl b1 t1 (hp_Bc (z := w) rfl b2 t2 (hp_Bc (z := n) rfl b3 t3 (hp_Bc (z := i) rfl b4 t4 (hp_Bc (z := cl) rfl b5 t5 (hp_Bc (z := f) rfl b6 t6 (hp_Bc (z := g) rfl b7 t7 hp_Bn)))))))) (hp_Fc (z := ((-1) + ((-1) * cq + (1 * cl + 0)))) rfl (by omega) (hp_Fc (z := ((-1) + ((-1) * i + ((-1) * f + (1 * g + 0))))) rfl (by omega) hp_Fn)) (hp_Kc (zi := (0 + 0)) (zv := (0 + (1 * cl + 0))) k0 rfl rfl (by omega) (by omega) (hp_Kc (zi := (0 + (1 * cq + 0))) (zv := (0 + (1 * f + 0))) k1 rfl rfl (by omega) (by omega) (hp_Kc (zi := (1 + (1 * cq + 0))) (zv := (0 + (1 * g + 0))) k2 rfl rfl (by omega) (by omega) (hp_Kc (zi := (0 + (1 * i + (1 * f + 0)))) (zv := ((-20007) + 0)) k3 rfl rfl (by omega) (by omega) hp_Kn)))) (hp_La l0 (hp_Li (z := (0 + (1 * cq + 0))) l1 rfl (by omega) (hp_Li (z := (0 + (1 * me + 0))) l2 rfl (by omega) (hp_Li (z := (0 + (1 * w + 0))) l3 rfl (by omega) (hp_Li (z := (0 + (1 * n + 0))) l4 rfl (by omega) (hp_Li (z := (0 + (1 * i + 0))) l5 rfl (by omega) hp_Ln)))))) trivial ?_ ?_
  · intro p_9 hp ys l' st' h' hys a1_9 a2 a3 gZ gL gS
    rcases List.mem_cons.mp hp with rfl | hp
    · obtain rfl := hp_y0 hys
      obtain ⟨y0, t0, rfl, q0, g0⟩ := hp_gSi (z := (1 + 0)) gS rfl
      obtain ⟨y1, t1, rfl, q1_9, g1⟩ := hp_gSi (z := (0 + (1 * w + 0))) g0 rfl
      cases hp_gSn g1
      exact e0 l' h' y0 y1 (by omega) (by omega) a1_9 a2 a3 (hp_gLa gL (List.mem_of_getElem? (i := 0) rfl) (by decide)) (hp_gLi (z := (0 + (1 * cq + 0))) gL (List.mem_of_getElem? (i := 1) rfl) rfl (by omega)) (hp_gLi (z := (0 + (1 * me + 0))) gL (List.mem_of_getElem? (i := 2) rfl) rfl (by omega)) (hp_gLi (z := (0 + (1 * w + 0))) gL (List.mem_of_getElem? (i := 3) rfl) rfl (by omega)) (hp_gLi (z := (0 + (1 * n + 0))) gL (List.mem_of_getElem? (i := 4) rfl) rfl (by omega)) (hp_gLi (z := (0 + (1 * i + 0))) gL (List.mem_of_getElem? (i := 5) rfl) rfl (by omega))
    cases hp
  · intro p_9 hp ys v_9 h' hys a1_9 a2 a3 gZ gS
    cases hp
theorem hwO1_k : hq_chk [124, 125] 129 102 6 [(0, 0, 1239), (1, (-2147483648), 2147483647), (2, (-2147483648), 2147483647), (3, 0, 31), (4, 0, 10240), (5, (-2147483648), 2147483647)] [] [(0, .inr (.inr (.inl (some 30)))), (1, .inl (0, [(0, 1)])), (2, .inl (0, [(1, 1)])), (3, .inl (0, [(2, 1)])), (4, .inl (0, [(3, 1)])), (5, .inl (0, [(4, 1)]))] [.inl (0, [(5, 1)])] [] [] 4 [(104, ([], 6, [(0, 0, 1239), (1, (-2147483648), 2147483647), (2, (-2147483648), 2147483647), (3, 0, 31), (4, 0, 10240), (5, (-2147483648), 2147483647)], [], [(0, .inr (.inr (.inl (some 30)))), (1, .inl (0, [(0, 1)])), (2, .inl (0, [(1, 1)])), (3, .inl (0, [(2, 1)])), (4, .inl (0, [(3, 1)])), (5, .inl (0, [(4, 1)]))], [.inl (1, []), .inl (0, [(2, 1)]), .inl (0, [(5, 1)])], []))] [] = true := by decide +kernel
theorem hwO1 {cst : am_K} {strs : List Nat} {Φ : am_Q → Prop} {D : Nat} {M : am_M} {h : am_H} {l : am_L} (c : hp_C cst strs D) (hM : m_P[129]? = some M) (hD : (4 : Int) ≤ (D : Int) + 1) (hy : ly_hy m_tt ly_TH h) (cq me w n i u : Int) (x0 : Int32) (hx0 : x0.toInt = (u)) (b0 : 0 ≤ cq) (t0 : cq ≤ 1239) (b1 : (-2147483648) ≤ me) (t1 : me ≤ 2147483647) (b2 : (-2147483648) ≤ w) (t2 : w ≤ 2147483647) (b3 : 0 ≤ n) (t3 : n ≤ 31) (b4 : 0 ≤ i) (t4 : i ≤ 10240) (b5 : (-2147483648) ≤ u) (t5 : u ≤ 2147483647) (l0 : hp_a l 0 30) (l1 : hp_i l 1 (cq)) (l2 : hp_i l 2 (me)) (l3 : hp_i l 3 (w)) (l4 : hp_i l 4 (n)) (l5 : hp_i l 5 (i)) (e0 : ∀ (l' : am_L) (h' : am_H) (y0 : Int32) (y1 : Int32) (y2 : Int32), y0.toInt = 1 → y1.toInt = (w) → y2.toInt = (u) → ly_hy m_tt ly_TH h' → ly_fr cst [] h h' → h.length ≤ h'.length → hp_a l' 0 30 → hp_i l' 1 (cq) → hp_i l' 2 (me) → hp_i l' 3 (w) → hp_i l' 4 (n) → hp_i l' 5 (i) → hp_F cst strs Φ D M 104 l' [.int y0, .int y1, .int y2] h') : hp_F cst strs Φ D M 102 l [.int x0] h := by
  refine hq_arc c hM hwO1_k hD [cq, me, w, n, i, u] rfl hy (hp_Bc (z := cq) rfl b0 t0 (hp_Bc (z := me) rfl b1 t1 (hp_Bc (z := w) rfl b2 t2 (hp_Bc (z := n) rfl b3 t3 (hp_Bc (z := i) rfl b4 t4 (hp_Bc (z := u) rfl b5 t5 hp_Bn)))))) hp_Fn hp_Kn (hp_La l0 (hp_Li (z := (0 + (1 * cq + 0))) l1 rfl (by omega) (hp_Li (z := (0 + (1 * me + 0))) l2 rfl (by omega) (hp_Li (z := (0 + (1 * w + 0))) l3 rfl (by omega) (hp_Li (z := (0 + (1 * n + 0))) l4 rfl (by omega) (hp_Li (z := (0 + (1 * i + 0))) l5 rfl (by omega) hp_Ln)))))) (hp_Si (z := (0 + (1 * u + 0))) rfl (by omega) trivial) ?_ ?_
  · intro p_9 hp ys l' st' h' hys a1_9 a2 a3 gZ gL gS
    rcases List.mem_cons.mp hp with rfl | hp
    · obtain rfl := hp_y0 hys
      obtain ⟨y0, t0, rfl, q0, g0⟩ := hp_gSi (z := (1 + 0)) gS rfl
      obtain ⟨y1, t1, rfl, q1_9, g1⟩ := hp_gSi (z := (0 + (1 * w + 0))) g0 rfl
      obtain ⟨y2, t2, rfl, q2_9, g2⟩ := hp_gSi (z := (0 + (1 * u + 0))) g1 rfl
      cases hp_gSn g2
      exact e0 l' h' y0 y1 y2 (by omega) (by omega) (by omega) a1_9 a2 a3 (hp_gLa gL (List.mem_of_getElem? (i := 0) rfl) (by decide)) (hp_gLi (z := (0 + (1 * cq + 0))) gL (List.mem_of_getElem? (i := 1) rfl) rfl (by omega)) (hp_gLi (z := (0 + (1 * me + 0))) gL (List.mem_of_getElem? (i := 2) rfl) rfl (by omega)) (hp_gLi (z := (0 + (1 * w + 0))) gL (List.mem_of_getElem? (i := 3) rfl) rfl (by omega)) (hp_gLi (z := (0 + (1 * n + 0))) gL (List.mem_of_getElem? (i := 4) rfl) rfl (by omega)) (hp_gLi (z := (0 + (1 * i + 0))) gL (List.mem_of_getElem? (i := 5) rfl) rfl (by omega))
    cases hp
  · intro p_9 hp ys v_9 h' hys a1_9 a2 a3 gZ gS
    cases hp
theorem hwO2_k : hp_chk 129 106 6 [(0, 0, 1239), (1, (-2147483648), 2147483647), (2, (-2147483648), 2147483647), (3, 0, 31), (4, 0, 10240), (5, (-2147483648), 2147483647)] [] [(0, .inr (.inr (.inl (some 30)))), (1, .inl (0, [(0, 1)])), (2, .inl (0, [(1, 1)])), (3, .inl (0, [(2, 1)])), (4, .inl (0, [(3, 1)])), (5, .inl (0, [(4, 1)]))] [.inl (0, [(5, 1)])] [] [] 2 [(8, ([], 6, [(0, 0, 1239), (1, (-2147483648), 2147483647), (2, (-2147483648), 2147483647), (3, 0, 31), (4, 0, 10240), (5, (-2147483648), 2147483647)], [], [(0, .inr (.inr (.inl (some 30)))), (1, .inl (0, [(0, 1)])), (2, .inl (0, [(1, 1)])), (3, .inl (0, [(5, 1)])), (4, .inl (0, [(3, 1)])), (5, .inl (1, [(4, 1)]))], [], []))] [] = true := by decide +kernel
theorem hwO2 {cst : am_K} {strs : List Nat} {Φ : am_Q → Prop} {D : Nat} {M : am_M} {h : am_H} {l : am_L} (c : hp_C cst strs D) (hM : m_P[129]? = some M) (hD : (2 : Int) ≤ (D : Int) + 1) (hy : ly_hy m_tt ly_TH h) (cq me w n i u : Int) (x0 : Int32) (hx0 : x0.toInt = (u)) (b0 : 0 ≤ cq) (t0 : cq ≤ 1239) (b1 : (-2147483648) ≤ me) (t1 : me ≤ 2147483647) (b2 : (-2147483648) ≤ w) (t2 : w ≤ 2147483647) (b3 : 0 ≤ n) (t3 : n ≤ 31) (b4 : 0 ≤ i) (t4 : i ≤ 10240) (b5 : (-2147483648) ≤ u) (t5 : u ≤ 2147483647) (l0 : hp_a l 0 30) (l1 : hp_i l 1 (cq)) (l2 : hp_i l 2 (me)) (l3 : hp_i l 3 (w)) (l4 : hp_i l 4 (n)) (l5 : hp_i l 5 (i)) (e0 : ∀ (l' : am_L) (h' : am_H), ly_hy m_tt ly_TH h' → ly_fr cst [] h h' → h.length ≤ h'.length → hp_a l' 0 30 → hp_i l' 1 (cq) → hp_i l' 2 (me) → hp_i l' 3 (u) → hp_i l' 4 (n) → hp_i l' 5 (i + 1) → hp_F cst strs Φ D M 8 l' [] h') : hp_F cst strs Φ D M 106 l [.int x0] h := by
  refine hp_arc c hM hwO2_k hD [cq, me, w, n, i, u] rfl hy (hp_Bc (z := cq) rfl b0 t0 (hp_Bc (z := me) rfl b1 t1 (hp_Bc (z := w) rfl b2 t2 (hp_Bc (z := n) rfl b3 t3 (hp_Bc (z := i) rfl b4 t4 (hp_Bc (z := u) rfl b5 t5 hp_Bn)))))) hp_Fn hp_Kn (hp_La l0 (hp_Li (z := (0 + (1 * cq + 0))) l1 rfl (by omega) (hp_Li (z := (0 + (1 * me + 0))) l2 rfl (by omega) (hp_Li (z := (0 + (1 * w + 0))) l3 rfl (by omega) (hp_Li (z := (0 + (1 * n + 0))) l4 rfl (by omega) (hp_Li (z := (0 + (1 * i + 0))) l5 rfl (by omega) hp_Ln)))))) (hp_Si (z := (0 + (1 * u + 0))) rfl (by omega) trivial) ?_ ?_
  · intro p_9 hp ys l' st' h' hys a1_9 a2 a3 gZ gL gS
    rcases List.mem_cons.mp hp with rfl | hp
    · obtain rfl := hp_y0 hys
      cases hp_gSn gS
      exact e0 l' h' a1_9 a2 a3 (hp_gLa gL (List.mem_of_getElem? (i := 0) rfl) (by decide)) (hp_gLi (z := (0 + (1 * cq + 0))) gL (List.mem_of_getElem? (i := 1) rfl) rfl (by omega)) (hp_gLi (z := (0 + (1 * me + 0))) gL (List.mem_of_getElem? (i := 2) rfl) rfl (by omega)) (hp_gLi (z := (0 + (1 * u + 0))) gL (List.mem_of_getElem? (i := 3) rfl) rfl (by omega)) (hp_gLi (z := (0 + (1 * n + 0))) gL (List.mem_of_getElem? (i := 4) rfl) rfl (by omega)) (hp_gLi (z := (1 + (1 * i + 0))) gL (List.mem_of_getElem? (i := 5) rfl) rfl (by omega))
    cases hp
  · intro p_9 hp ys v_9 h' hys a1_9 a2 a3 gZ gS
    cases hp
theorem lk90_k : hp_chk 128 0 2 [(0, 0, 1239), (1, (-2147483648), 2147483647)] [] [(0, .inr (.inr (.inl (some 30)))), (1, .inl (0, [(0, 1)])), (2, .inl (0, [(1, 1)]))] [] [] [] 2 [(3, ([], 2, [(0, 0, 1239), (1, (-2147483648), 2147483647)], [], [(0, .inr (.inr (.inl (some 30)))), (1, .inl (0, [(0, 1)])), (2, .inl (0, [(1, 1)]))], [.inl (0, [(1, 1)]), .inl (0, [(0, 1)]), .inr (.inr (.inl (some 30)))], []))] [] = true := by decide +kernel
theorem lk90 {cst : am_K} {strs : List Nat} {Φ : am_Q → Prop} {D : Nat} {M : am_M} {h : am_H} {l : am_L} (c : hp_C cst strs D) (hM : m_P[128]? = some M) (hD : (2 : Int) ≤ (D : Int) + 1) (hy : ly_hy m_tt ly_TH h) (cq me : Int) (b0 : 0 ≤ cq) (t0 : cq ≤ 1239) (b1 : (-2147483648) ≤ me) (t1 : me ≤ 2147483647) (l0 : hp_a l 0 30) (l1 : hp_i l 1 (cq)) (l2 : hp_i l 2 (me)) (e0 : ∀ (l' : am_L) (h' : am_H) (y0 : Int32) (y1 : Int32), y0.toInt = (me) → y1.toInt = (cq) → ly_hy m_tt ly_TH h' → ly_fr cst [] h h' → h.length ≤ h'.length → hp_a l' 0 30 → hp_i l' 1 (cq) → hp_i l' 2 (me) → hp_F cst strs Φ D M 3 l' [.int y0, .int y1, .ref 30] h') : hp_F cst strs Φ D M 0 l [] h := by
  refine hp_arc c hM lk90_k hD [cq, me] rfl hy (hp_Bc (z := cq) rfl b0 t0 (hp_Bc (z := me) rfl b1 t1 hp_Bn)) hp_Fn hp_Kn (hp_La l0 (hp_Li (z := (0 + (1 * cq + 0))) l1 rfl (by omega) (hp_Li (z := (0 + (1 * me + 0))) l2 rfl (by omega) hp_Ln))) trivial ?_ ?_
  · intro p_9 hp ys l' st' h' hys a1_9 a2 a3 gZ gL gS
    rcases List.mem_cons.mp hp with rfl | hp
    · obtain rfl := hp_y0 hys
      obtain ⟨y0, t0, rfl, q0, g0⟩ := hp_gSi (z := (0 + (1 * me + 0))) gS rfl
      obtain ⟨y1, t1, rfl, q1_9, g1⟩ := hp_gSi (z := (0 + (1 * cq + 0))) g0 rfl
      obtain ⟨t2_9, rfl, g2⟩ := hp_gSa g1 (by decide)
      cases hp_gSn g2
      exact e0 l' h' y0 y1 (by omega) (by omega) a1_9 a2 a3 (hp_gLa gL (List.mem_of_getElem? (i := 0) rfl) (by decide)) (hp_gLi (z := (0 + (1 * cq + 0))) gL (List.mem_of_getElem? (i := 1) rfl) rfl (by omega)) (hp_gLi (z := (0 + (1 * me + 0))) gL (List.mem_of_getElem? (i := 2) rfl) rfl (by omega))
    cases hp
  · intro p_9 hp ys v_9 h' hys a1_9 a2 a3 gZ gS
    cases hp
theorem lk91_k : hp_chk 128 6 2 [(0, 0, 1239), (1, (-2147483648), 2147483647)] [] [(0, .inr (.inr (.inl (some 30)))), (1, .inl (0, [(0, 1)])), (2, .inl (0, [(1, 1)]))] [.inl (1, [])] [] [] 2 [] [([], 2, [(0, 0, 1239), (1, (-2147483648), 2147483647)], [], [], [.inl ((-1), [])], [])] = true := by decide +kernel
theorem lk91 {cst : am_K} {strs : List Nat} {Φ : am_Q → Prop} {D : Nat} {M : am_M} {h : am_H} {l : am_L} (c : hp_C cst strs D) (hM : m_P[128]? = some M) (hD : (2 : Int) ≤ (D : Int) + 1) (hy : ly_hy m_tt ly_TH h) (cq me : Int) (x0 : Int32) (hx0 : x0.toInt = 1) (b0 : 0 ≤ cq) (t0 : cq ≤ 1239) (b1 : (-2147483648) ≤ me) (t1 : me ≤ 2147483647) (l0 : hp_a l 0 30) (l1 : hp_i l 1 (cq)) (l2 : hp_i l 2 (me)) (r0 : ∀ (h' : am_H) (y0 : Int32), y0.toInt = (-1) → ly_hy m_tt ly_TH h' → ly_fr cst [] h h' → h.length ≤ h'.length → Φ (some (.int y0), h', 0, 0)) : hp_F cst strs Φ D M 6 l [.int x0] h := by
  refine hp_arc c hM lk91_k hD [cq, me] rfl hy (hp_Bc (z := cq) rfl b0 t0 (hp_Bc (z := me) rfl b1 t1 hp_Bn)) hp_Fn hp_Kn (hp_La l0 (hp_Li (z := (0 + (1 * cq + 0))) l1 rfl (by omega) (hp_Li (z := (0 + (1 * me + 0))) l2 rfl (by omega) hp_Ln))) (hp_Si (z := (1 + 0)) rfl (by omega) trivial) ?_ ?_
  · intro p_9 hp ys l' st' h' hys a1_9 a2 a3 gZ gL gS
    cases hp
  · intro p_9 hp ys v_9 h' hys a1_9 a2 a3 gZ gS
    rcases List.mem_cons.mp hp with rfl | hp
    · obtain rfl := hp_y0 hys
      cases v_9 with
      | none => cases gS
      | some wz =>
        obtain ⟨y0, t0, s0_9, q0, -⟩ := hp_gSi (z := ((-1) + 0)) gS rfl
        cases s0_9
        exact r0 h' y0 (by omega) a1_9 a2 a3
    cases hp
theorem lk92_k : hp_chk 128 6 4 [(0, 0, 1239), (1, (-2147483648), 2147483647), (2, 0, 1240), (3, 0, 31)] [((-1), [(0, (-1)), (2, 1)])] [(0, .inr (.inr (.inl (some 30)))), (1, .inl (0, [(0, 1)])), (2, .inl (0, [(1, 1)]))] [.inl (0, [])] [(3588, (0, []), (0, [(2, 1)])), (5120, (0, [(0, 1)]), (0, [(3, 1)]))] [] 2 [(37, ([], 4, [(0, 0, 1239), (1, (-2147483648), 2147483647), (2, 0, 1240), (3, 0, 31)], [], [(0, .inr (.inr (.inl (some 30)))), (1, .inl (0, [(0, 1)])), (2, .inl (0, [(1, 1)])), (3, .inl (0, [(3, 1)])), (4, .inl (0, []))], [], []))] [] = true := by decide +kernel
theorem lk92 {cst : am_K} {strs : List Nat} {Φ : am_Q → Prop} {D : Nat} {M : am_M} {h : am_H} {l : am_L} (c : hp_C cst strs D) (hM : m_P[128]? = some M) (hD : (2 : Int) ≤ (D : Int) + 1) (hy : ly_hy m_tt ly_TH h) (cq me cl m : Int) (x0 : Int32) (hx0 : x0.toInt = 0) (b0 : 0 ≤ cq) (t0 : cq ≤ 1239) (b1 : (-2147483648) ≤ me) (t1 : me ≤ 2147483647) (b2 : 0 ≤ cl) (t2 : cl ≤ 1240) (b3 : 0 ≤ m) (t3 : m ≤ 31) (f0 : 0 ≤ (cl - cq - 1)) (k0 : ly_hv cst h 3588 0 = some (cl)) (k1 : ly_hv cst h 5120 (cq) = some (m)) (l0 : hp_a l 0 30) (l1 : hp_i l 1 (cq)) (l2 : hp_i l 2 (me)) (e0 : ∀ (l' : am_L) (h' : am_H), ly_hy m_tt ly_TH h' → ly_fr cst [] h h' → h.length ≤ h'.length → hp_a l' 0 30 → hp_i l' 1 (cq) → hp_i l' 2 (me) → hp_i l' 3 (m) → hp_i l' 4 0 → hp_F cst strs Φ D M 37 l' [] h') : hp_F cst strs Φ D M 6 l [.int x0] h := by
  refine hp_arc c hM lk92_k hD [cq, me, cl, m] rfl hy (hp_Bc (z := cq) rfl b0 t0 (hp_Bc (z := me) rfl b1 t1 (hp_Bc (z := cl) rfl b2 t2 (hp_Bc (z := m) rfl b3 t3 hp_Bn)))) (hp_Fc (z := ((-1) + ((-1) * cq + (1 * cl + 0)))) rfl (by omega) hp_Fn) (hp_Kc (zi := (0 + 0)) (zv := (0 + (1 * cl + 0))) k0 rfl rfl (by omega) (by omega) (hp_Kc (zi := (0 + (1 * cq + 0))) (zv := (0 + (1 * m + 0))) k1 rfl rfl (by omega) (by omega) hp_Kn)) (hp_La l0 (hp_Li (z := (0 + (1 * cq + 0))) l1 rfl (by omega) (hp_Li (z := (0 + (1 * me + 0))) l2 rfl (by omega) hp_Ln))) (hp_Si (z := (0 + 0)) rfl (by omega) trivial) ?_ ?_
  · intro p_9 hp ys l' st' h' hys a1_9 a2 a3 gZ gL gS
    rcases List.mem_cons.mp hp with rfl | hp
    · obtain rfl := hp_y0 hys
      cases hp_gSn gS
      exact e0 l' h' a1_9 a2 a3 (hp_gLa gL (List.mem_of_getElem? (i := 0) rfl) (by decide)) (hp_gLi (z := (0 + (1 * cq + 0))) gL (List.mem_of_getElem? (i := 1) rfl) rfl (by omega)) (hp_gLi (z := (0 + (1 * me + 0))) gL (List.mem_of_getElem? (i := 2) rfl) rfl (by omega)) (hp_gLi (z := (0 + (1 * m + 0))) gL (List.mem_of_getElem? (i := 3) rfl) rfl (by omega)) (hp_gLi (z := (0 + 0)) gL (List.mem_of_getElem? (i := 4) rfl) rfl (by omega))
    cases hp
  · intro p_9 hp ys v_9 h' hys a1_9 a2 a3 gZ gS
    cases hp
theorem lk93_k : hp_chk 128 37 3 [(0, 0, 1239), (1, (-2147483648), 2147483647), (2, 0, 31)] [] [(0, .inr (.inr (.inl (some 30)))), (1, .inl (0, [(0, 1)])), (2, .inl (0, [(1, 1)])), (3, .inl (0, [(2, 1)])), (4, .inl (0, [(2, 1)]))] [] [] [] 2 [] [([], 3, [(0, 0, 1239), (1, (-2147483648), 2147483647), (2, 0, 31)], [], [], [.inl (99, [])], [])] = true := by decide +kernel
theorem lk93 {cst : am_K} {strs : List Nat} {Φ : am_Q → Prop} {D : Nat} {M : am_M} {h : am_H} {l : am_L} (c : hp_C cst strs D) (hM : m_P[128]? = some M) (hD : (2 : Int) ≤ (D : Int) + 1) (hy : ly_hy m_tt ly_TH h) (cq me m : Int) (b0 : 0 ≤ cq) (t0 : cq ≤ 1239) (b1 : (-2147483648) ≤ me) (t1 : me ≤ 2147483647) (b2 : 0 ≤ m) (t2 : m ≤ 31) (l0 : hp_a l 0 30) (l1 : hp_i l 1 (cq)) (l2 : hp_i l 2 (me)) (l3 : hp_i l 3 (m)) (l4 : hp_i l 4 (m)) (r0 : ∀ (h' : am_H) (y0 : Int32), y0.toInt = 99 → ly_hy m_tt ly_TH h' → ly_fr cst [] h h' → h.length ≤ h'.length → Φ (some (.int y0), h', 0, 0)) : hp_F cst strs Φ D M 37 l [] h := by
  refine hp_arc c hM lk93_k hD [cq, me, m] rfl hy (hp_Bc (z := cq) rfl b0 t0 (hp_Bc (z := me) rfl b1 t1 (hp_Bc (z := m) rfl b2 t2 hp_Bn))) hp_Fn hp_Kn (hp_La l0 (hp_Li (z := (0 + (1 * cq + 0))) l1 rfl (by omega) (hp_Li (z := (0 + (1 * me + 0))) l2 rfl (by omega) (hp_Li (z := (0 + (1 * m + 0))) l3 rfl (by omega) (hp_Li (z := (0 + (1 * m + 0))) l4 rfl (by omega) hp_Ln))))) trivial ?_ ?_
  · intro p_9 hp ys l' st' h' hys a1_9 a2 a3 gZ gL gS
    cases hp
  · intro p_9 hp ys v_9 h' hys a1_9 a2 a3 gZ gS
    rcases List.mem_cons.mp hp with rfl | hp
    · obtain rfl := hp_y0 hys
      cases v_9 with
      | none => cases gS
      | some wz =>
        obtain ⟨y0, t0, s0_9, q0, -⟩ := hp_gSi (z := (99 + 0)) gS rfl
        cases s0_9
        exact r0 h' y0 (by omega) a1_9 a2 a3
    cases hp
theorem lk94_k : hp_chk 128 37 4 [(0, 0, 1239), (1, (-2147483648), 2147483647), (2, 0, 31), (3, 0, 31)] [((-1), [(2, 1), (3, (-1))])] [(0, .inr (.inr (.inl (some 30)))), (1, .inl (0, [(0, 1)])), (2, .inl (0, [(1, 1)])), (3, .inl (0, [(2, 1)])), (4, .inl (0, [(3, 1)]))] [] [] [] 2 [(49, ([], 4, [(0, 0, 1239), (1, (-2147483648), 2147483647), (2, 0, 31), (3, 0, 31)], [], [(0, .inr (.inr (.inl (some 30)))), (1, .inl (0, [(0, 1)])), (2, .inl (0, [(1, 1)])), (3, .inl (0, [(2, 1)])), (4, .inl (0, [(3, 1)]))], [.inl (0, [(3, 1)]), .inl (1, []), .inl (0, [(1, 1)]), .inl (0, [(0, 1)]), .inr (.inr (.inl (some 30)))], []))] [] = true := by decide +kernel
theorem lk94 {cst : am_K} {strs : List Nat} {Φ : am_Q → Prop} {D : Nat} {M : am_M} {h : am_H} {l : am_L} (c : hp_C cst strs D) (hM : m_P[128]? = some M) (hD : (2 : Int) ≤ (D : Int) + 1) (hy : ly_hy m_tt ly_TH h) (cq me m t : Int) (b0 : 0 ≤ cq) (t0 : cq ≤ 1239) (b1 : (-2147483648) ≤ me) (t1 : me ≤ 2147483647) (b2 : 0 ≤ m) (t2 : m ≤ 31) (b3 : 0 ≤ t) (t3 : t ≤ 31) (f0 : 0 ≤ (m - t - 1)) (l0 : hp_a l 0 30) (l1 : hp_i l 1 (cq)) (l2 : hp_i l 2 (me)) (l3 : hp_i l 3 (m)) (l4 : hp_i l 4 (t)) (e0 : ∀ (l' : am_L) (h' : am_H) (y0 : Int32) (y1 : Int32) (y2 : Int32) (y3 : Int32), y0.toInt = (t) → y1.toInt = 1 → y2.toInt = (me) → y3.toInt = (cq) → ly_hy m_tt ly_TH h' → ly_fr cst [] h h' → h.length ≤ h'.length → hp_a l' 0 30 → hp_i l' 1 (cq) → hp_i l' 2 (me) → hp_i l' 3 (m) → hp_i l' 4 (t) → hp_F cst strs Φ D M 49 l' [.int y0, .int y1, .int y2, .int y3, .ref 30] h') : hp_F cst strs Φ D M 37 l [] h := by
  refine hp_arc c hM lk94_k hD [cq, me, m, t] rfl hy (hp_Bc (z := cq) rfl b0 t0 (hp_Bc (z := me) rfl b1 t1 (hp_Bc (z := m) rfl b2 t2 (hp_Bc (z := t) rfl b3 t3 hp_Bn)))) (hp_Fc (z := ((-1) + (1 * m + ((-1) * t + 0)))) rfl (by omega) hp_Fn) hp_Kn (hp_La l0 (hp_Li (z := (0 + (1 * cq + 0))) l1 rfl (by omega) (hp_Li (z := (0 + (1 * me + 0))) l2 rfl (by omega) (hp_Li (z := (0 + (1 * m + 0))) l3 rfl (by omega) (hp_Li (z := (0 + (1 * t + 0))) l4 rfl (by omega) hp_Ln))))) trivial ?_ ?_
  · intro p_9 hp ys l' st' h' hys a1_9 a2 a3 gZ gL gS
    rcases List.mem_cons.mp hp with rfl | hp
    · obtain rfl := hp_y0 hys
      obtain ⟨y0, t0, rfl, q0, g0⟩ := hp_gSi (z := (0 + (1 * t + 0))) gS rfl
      obtain ⟨y1, t1, rfl, q1_9, g1⟩ := hp_gSi (z := (1 + 0)) g0 rfl
      obtain ⟨y2, t2, rfl, q2_9, g2⟩ := hp_gSi (z := (0 + (1 * me + 0))) g1 rfl
      obtain ⟨y3, t3, rfl, q3_9, g3_9⟩ := hp_gSi (z := (0 + (1 * cq + 0))) g2 rfl
      obtain ⟨t4_9, rfl, g4⟩ := hp_gSa g3_9 (by decide)
      cases hp_gSn g4
      exact e0 l' h' y0 y1 y2 y3 (by omega) (by omega) (by omega) (by omega) a1_9 a2 a3 (hp_gLa gL (List.mem_of_getElem? (i := 0) rfl) (by decide)) (hp_gLi (z := (0 + (1 * cq + 0))) gL (List.mem_of_getElem? (i := 1) rfl) rfl (by omega)) (hp_gLi (z := (0 + (1 * me + 0))) gL (List.mem_of_getElem? (i := 2) rfl) rfl (by omega)) (hp_gLi (z := (0 + (1 * m + 0))) gL (List.mem_of_getElem? (i := 3) rfl) rfl (by omega)) (hp_gLi (z := (0 + (1 * t + 0))) gL (List.mem_of_getElem? (i := 4) rfl) rfl (by omega))
    cases hp
  · intro p_9 hp ys v_9 h' hys a1_9 a2 a3 gZ gS
    cases hp
theorem lk96_k : hp_chk 128 54 4 [(0, 0, 1239), (1, (-2147483648), 2147483647), (2, 0, 31), (3, 0, 31)] [] [(0, .inr (.inr (.inl (some 30)))), (1, .inl (0, [(0, 1)])), (2, .inl (0, [(1, 1)])), (3, .inl (0, [(2, 1)])), (4, .inl (0, [(3, 1)]))] [.inl (1, [])] [] [] 2 [] [([], 4, [(0, 0, 1239), (1, (-2147483648), 2147483647), (2, 0, 31), (3, 0, 31)], [], [], [.inl (0, [(3, 1)])], [])] = true := by decide +kernel
theorem lk96 {cst : am_K} {strs : List Nat} {Φ : am_Q → Prop} {D : Nat} {M : am_M} {h : am_H} {l : am_L} (c : hp_C cst strs D) (hM : m_P[128]? = some M) (hD : (2 : Int) ≤ (D : Int) + 1) (hy : ly_hy m_tt ly_TH h) (cq me m t : Int) (x0 : Int32) (hx0 : x0.toInt = 1) (b0 : 0 ≤ cq) (t0 : cq ≤ 1239) (b1 : (-2147483648) ≤ me) (t1 : me ≤ 2147483647) (b2 : 0 ≤ m) (t2 : m ≤ 31) (b3 : 0 ≤ t) (t3 : t ≤ 31) (l0 : hp_a l 0 30) (l1 : hp_i l 1 (cq)) (l2 : hp_i l 2 (me)) (l3 : hp_i l 3 (m)) (l4 : hp_i l 4 (t)) (r0 : ∀ (h' : am_H) (y0 : Int32), y0.toInt = (t) → ly_hy m_tt ly_TH h' → ly_fr cst [] h h' → h.length ≤ h'.length → Φ (some (.int y0), h', 0, 0)) : hp_F cst strs Φ D M 54 l [.int x0] h := by
  refine hp_arc c hM lk96_k hD [cq, me, m, t] rfl hy (hp_Bc (z := cq) rfl b0 t0 (hp_Bc (z := me) rfl b1 t1 (hp_Bc (z := m) rfl b2 t2 (hp_Bc (z := t) rfl b3 t3 hp_Bn)))) hp_Fn hp_Kn (hp_La l0 (hp_Li (z := (0 + (1 * cq + 0))) l1 rfl (by omega) (hp_Li (z := (0 + (1 * me + 0))) l2 rfl (by omega) (hp_Li (z := (0 + (1 * m + 0))) l3 rfl (by omega) (hp_Li (z := (0 + (1 * t + 0))) l4 rfl (by omega) hp_Ln))))) (hp_Si (z := (1 + 0)) rfl (by omega) trivial) ?_ ?_
  · intro p_9 hp ys l' st' h' hys a1_9 a2 a3 gZ gL gS
    cases hp
  · intro p_9 hp ys v_9 h' hys a1_9 a2 a3 gZ gS
    rcases List.mem_cons.mp hp with rfl | hp
    · obtain rfl := hp_y0 hys
      cases v_9 with
      | none => cases gS
      | some wz =>
        obtain ⟨y0, t0, s0_9, q0, -⟩ := hp_gSi (z := (0 + (1 * t + 0))) gS rfl
        cases s0_9
        exact r0 h' y0 (by omega) a1_9 a2 a3
    cases hp
theorem lk97_k : hp_chk 128 54 4 [(0, 0, 1239), (1, (-2147483648), 2147483647), (2, 0, 31), (3, 0, 31)] [] [(0, .inr (.inr (.inl (some 30)))), (1, .inl (0, [(0, 1)])), (2, .inl (0, [(1, 1)])), (3, .inl (0, [(2, 1)])), (4, .inl (0, [(3, 1)]))] [.inl (0, [])] [] [] 2 [(37, ([], 4, [(0, 0, 1239), (1, (-2147483648), 2147483647), (2, 0, 31), (3, 0, 31)], [], [(0, .inr (.inr (.inl (some 30)))), (1, .inl (0, [(0, 1)])), (2, .inl (0, [(1, 1)])), (3, .inl (0, [(2, 1)])), (4, .inl (1, [(3, 1)]))], [], []))] [] = true := by decide +kernel
theorem lk97 {cst : am_K} {strs : List Nat} {Φ : am_Q → Prop} {D : Nat} {M : am_M} {h : am_H} {l : am_L} (c : hp_C cst strs D) (hM : m_P[128]? = some M) (hD : (2 : Int) ≤ (D : Int) + 1) (hy : ly_hy m_tt ly_TH h) (cq me m t : Int) (x0 : Int32) (hx0 : x0.toInt = 0) (b0 : 0 ≤ cq) (t0 : cq ≤ 1239) (b1 : (-2147483648) ≤ me) (t1 : me ≤ 2147483647) (b2 : 0 ≤ m) (t2 : m ≤ 31) (b3 : 0 ≤ t) (t3 : t ≤ 31) (l0 : hp_a l 0 30) (l1 : hp_i l 1 (cq)) (l2 : hp_i l 2 (me)) (l3 : hp_i l 3 (m)) (l4 : hp_i l 4 (t)) (e0 : ∀ (l' : am_L) (h' : am_H), ly_hy m_tt ly_TH h' → ly_fr cst [] h h' → h.length ≤ h'.length → hp_a l' 0 30 → hp_i l' 1 (cq) → hp_i l' 2 (me) → hp_i l' 3 (m) → hp_i l' 4 (t + 1) → hp_F cst strs Φ D M 37 l' [] h') : hp_F cst strs Φ D M 54 l [.int x0] h := by
  refine hp_arc c hM lk97_k hD [cq, me, m, t] rfl hy (hp_Bc (z := cq) rfl b0 t0 (hp_Bc (z := me) rfl b1 t1 (hp_Bc (z := m) rfl b2 t2 (hp_Bc (z := t) rfl b3 t3 hp_Bn)))) hp_Fn hp_Kn (hp_La l0 (hp_Li (z := (0 + (1 * cq + 0))) l1 rfl (by omega) (hp_Li (z := (0 + (1 * me + 0))) l2 rfl (by omega) (hp_Li (z := (0 + (1 * m + 0))) l3 rfl (by omega) (hp_Li (z := (0 + (1 * t + 0))) l4 rfl (by omega) hp_Ln))))) (hp_Si (z := (0 + 0)) rfl (by omega) trivial) ?_ ?_
  · intro p_9 hp ys l' st' h' hys a1_9 a2 a3 gZ gL gS
    rcases List.mem_cons.mp hp with rfl | hp
    · obtain rfl := hp_y0 hys
      cases hp_gSn gS
      exact e0 l' h' a1_9 a2 a3 (hp_gLa gL (List.mem_of_getElem? (i := 0) rfl) (by decide)) (hp_gLi (z := (0 + (1 * cq + 0))) gL (List.mem_of_getElem? (i := 1) rfl) rfl (by omega)) (hp_gLi (z := (0 + (1 * me + 0))) gL (List.mem_of_getElem? (i := 2) rfl) rfl (by omega)) (hp_gLi (z := (0 + (1 * m + 0))) gL (List.mem_of_getElem? (i := 3) rfl) rfl (by omega)) (hp_gLi (z := (1 + (1 * t + 0))) gL (List.mem_of_getElem? (i := 4) rfl) rfl (by omega))
    cases hp
  · intro p_9 hp ys v_9 h' hys a1_9 a2 a3 gZ gS
    cases hp
noncomputable def btq_is_ixor (mi pc : Nat) : Bool := match sx_ch 16 mi sx_T with
  | some m => Nat.beq m.1 mi && (match sx_find pc m.2.2.2.2 with
    | some (.ixor, _) => true
    | _ => false)
  | none => false
theorem btq_ixor {cst : am_K} {strs : List Nat} {Φ : am_Q → Prop} {D : Nat} {M : am_M} {mi pc : Nat} {h : am_H} {l : am_L} {st : List Value} {x y : Int32} (hM : m_P[mi]? = some M) (hI : btq_is_ixor mi pc = true) (k : hp_F cst strs Φ D M (pc + 1) l (.int (x ^^^ y) :: st) h) : hp_F cst strs Φ D M pc l (.int y :: .int x :: st) h := by
  unfold btq_is_ixor at hI
  split at hI
  case h_2 => cases hI
  rename_i m_9 hm_9
  rw [Bool.and_eq_true, sx_beqn] at hI
  obtain ⟨c0_9, hI⟩ := hI
  split at hI
  case h_2 => cases hI
  rename_i X_9 hX
  obtain ⟨M', hM', hmok, -⟩ := sx_tok_m mi m_9 hm_9 c0_9
  rw [hM] at hM'
  cases hM'
  have hfind := hmok.2.2 _ _ hX
  have hs : am_s cst m_cl m_tt .ixor X_9 pc l (.int y :: .int x :: st) h = some (pc + 1, l, .int (x ^^^ y) :: st, h) := rfl
  exact sx_Fin_step rfl (fun n_9 r_9 hgo => ⟨_, X_9, hfind, Or.inl ⟨_, hs, hgo⟩⟩) k
set_option maxRecDepth 8000 in
/-- an item that holdsWith passes over -/
theorem hw_sk {cst : am_K} {strs : List Nat} {D : Nat} {M : am_M} {h0 : am_H} {Φ : am_Q → Prop} (cc : ∀ d_9, hp_C cst strs d_9) (hM : m_P[129]? = some M) (hD : 3 ≤ D) {me : Int32} {c cl f g : Int} {N : Nat} (k1 : ly_hv cst h0 3588 0 = some cl) (c0 : 0 ≤ c) (c1 : c < cl) (c2 : cl ≤ 1240) (k2 : ly_hv cst h0 5632 c = some f) (k3 : ly_hv cst h0 5632 (c + 1) = some g) (f0 : 0 ≤ f) (eg : g = f + (N : Int)) (g1 : g ≤ 10240) : ∀ (E_9 : List Int) (h_9 : am_H) (l : am_L) (i n_9 : Nat) (w_9 : Int32), (∀ x_9 ∈ E_9, -20003 ≤ x_9 ∨ x_9 ≤ -20008) → i + E_9.length ≤ N → n_9 ≤ 31 → (∀ k_9 (hk : k_9 < E_9.length), ly_hv cst h0 5888 (f + ((i + k_9 : Nat) : Int)) = some (E_9[k_9])) → ly_hy m_tt ly_TH h_9 → ly_fr cst [] h0 h_9 → hp_a l 0 30 → hp_i l 1 c → hp_i l 2 me.toInt → hp_i l 3 w_9.toInt → hp_i l 4 (n_9 : Int) → hp_i l 5 (i : Int) → (∀ (h2 : am_H) (l2 : am_L), ly_hy m_tt ly_TH h2 → ly_fr cst [] h0 h2 → hp_a l2 0 30 → hp_i l2 1 c → hp_i l2 2 me.toInt → hp_i l2 3 w_9.toInt → hp_i l2 4 (n_9 : Int) → hp_i l2 5 ((i + E_9.length : Nat) : Int) → hp_F cst strs Φ D M 8 l2 [] h2) → hp_F cst strs Φ D M 8 l [] h_9 := by
  have c' : hp_C cst strs D := cc _
  intro E_9
  induction E_9 with
  | nil =>
    intro h_9 l i n_9 w_9 _ _ _ _ hy fr_9 l0 l1 l2 l3 l4 l5 k_9
    exact k_9 h_9 l hy fr_9 l0 l1 l2 l3 l4 l5
  | cons x_9 E_9 ih_9 =>
    intro h_9 l i n_9 w_9 nx eN_9 nb row_9 hy fr_9 l0 l1 l2 l3 l4 l5 k_9
    have eN_9 : i + (E_9.length + 1) ≤ N := eN_9
    have kx : ly_hv cst h_9 5888 (f + (i : Int)) = some x_9 := by
      have z_9 := row_9 0 (Nat.zero_lt_succ _)
      rw [Nat.add_zero] at z_9
      exact fr_9 _ _ _ rfl z_9
    have row' : ∀ k_9 (hk : k_9 < E_9.length), ly_hv cst h0 5888 (f + ((i + 1 + k_9 : Nat) : Int)) = some (E_9[k_9]) := fun k_9 hk => by
      have z_9 := row_9 (k_9 + 1) (Nat.succ_lt_succ hk)
      rw [show i + (k_9 + 1) = i + 1 + k_9 by omega] at z_9
      exact z_9
    obtain ⟨v_9, kw', w0_9, w1_9⟩ := hp_rowj (cst := cst) (i := f + (i : Int)) hy (show ly_ths ly_TH 23 = some (.inl (.long, 10240, 0, 0)) from rfl) (by omega) (by omega)
    have kw' : ly_hv cst h_9 5888 (f + (i : Int)) = some v_9 := kw'
    have ew := Option.some.inj (kx.symm.trans kw')
    have w0_9 : -9223372036854775808 ≤ v_9 := w0_9
    have w1_9 : v_9 ≤ 9223372036854775807 := w1_9
    have nxt_9 : ∀ (l2 : am_L) (h2 : am_H), ly_hy m_tt ly_TH h2 → ly_fr cst [] h_9 h2 → h_9.length ≤ h2.length → hp_a l2 0 30 → hp_i l2 1 c → hp_i l2 2 me.toInt → hp_i l2 3 w_9.toInt → hp_i l2 4 (n_9 : Int) → hp_i l2 5 ((i : Int) + 1) → hp_F cst strs Φ D M 8 l2 [] h2 := fun l2 h2 u1_9 u2_9 u3 m0_9 m1_9 m2_9 m3_9 m4_9 m5_9 => ih_9 h2 l2 (i + 1) n_9 w_9 (fun y_9 hy => nx y_9 (List.mem_cons_of_mem _ hy)) (by omega) nb row' u1_9 (ly_fr_tr fr_9 u2_9) m0_9 m1_9 m2_9 m3_9 m4_9 (by rw [show (((i + 1 : Nat)) : Int) = (i : Int) + 1 by omega]; exact m5_9) (fun h3 l3 v1_9 v2 o0_9 o1 o2 o3_9 o4_9 o5_9 => k_9 h3 l3 v1_9 v2 o0_9 o1 o2 o3_9 o4_9 (by rw [List.length_cons, show i + (E_9.length + 1) = i + 1 + E_9.length by omega]; exact o5_9))
    rcases nx x_9 List.mem_cons_self with z_9 | z_9
    · exact hwP c' hM (by omega) hy c me.toInt w_9.toInt (n_9 : Int) (i : Int) cl f g x_9 c0 (by omega) me.le_toInt me.toInt_le w_9.le_toInt w_9.toInt_le (by omega) (by omega) (by omega) (by omega) (by omega) c2 f0 (by omega) (by omega) g1 (by omega) (by omega) (by omega) (by omega) (fr_9 _ _ _ rfl k1) (fr_9 _ _ _ rfl k2) (fr_9 _ _ _ rfl k3) kx l0 l1 l2 l3 l4 l5 nxt_9
    · exact hwQ c' hM (by omega) hy c me.toInt w_9.toInt (n_9 : Int) (i : Int) cl f g x_9 c0 (by omega) me.le_toInt me.toInt_le w_9.le_toInt w_9.toInt_le (by omega) (by omega) (by omega) (by omega) (by omega) c2 f0 (by omega) (by omega) g1 (by omega) (by omega) (by omega) (by omega) (fr_9 _ _ _ rfl k1) (fr_9 _ _ _ rfl k2) (fr_9 _ _ _ rfl k3) kx l0 l1 l2 l3 l4 l5 nxt_9
theorem qt_e_n {x : qt_T} (w : qwt x) : ∀ i_9 ∈ qt_e x, -20003 ≤ i_9 ∨ i_9 ≤ -20008 := by
  obtain ⟨w0_9, w3_9, w1_9, w2_9⟩ := w
  obtain ⟨o, L_9, M_9⟩ := x
  have w0_9 : 0 ≤ o := w0_9
  have w3_9 : o ≤ 3 := w3_9
  have w1_9 : ∀ i_9 ∈ L_9, itw i_9 := w1_9
  have w2_9 : ∀ i_9 ∈ M_9, itw i_9 := w2_9
  unfold qt_e
  show ∀ i_9 ∈ L_9 ++ (if o = 0 then [] else (-20000 - o) :: M_9), _
  intro i_9 hi_9
  have ne_9 : itw i_9 → -20003 ≤ i_9 ∨ i_9 ≤ -20008 := fun h_9 => by rcases h_9 with h_9 | h_9 <;> omega
  by_cases z_9 : o = 0
  · rw [if_pos z_9, List.append_nil] at hi_9
    exact ne_9 (w1_9 i_9 hi_9)
  · rw [if_neg z_9] at hi_9
    rcases List.mem_append.mp hi_9 with hi_9 | hi_9
    · exact ne_9 (w1_9 i_9 hi_9)
    · rcases List.mem_cons.mp hi_9 with hi_9 | hi_9
      · omega
      · exact ne_9 (w2_9 i_9 hi_9)
theorem qv_d1 {x : qt_T} {V : List (qt_T ⊕ Int)} {k d : Nat} (h : qd (.inl x :: V) k = some d) : qd V (k + 1) = some d := h
theorem qv_dn {j : Int} {V : List (qt_T ⊕ Int)} {k d : Nat} (hj : j = -20005) (h : qd (.inr j :: V) k = some d) : 1 ≤ k ∧ qd V k = some d := by
  have h : (if j = -20005 then (if 1 ≤ k then qd V k else none) else if 2 ≤ k then qd V (k - 1) else none) = some d := h
  rw [if_pos hj] at h
  split at h
  · exact ⟨by assumption, h⟩
  · cases h
theorem qv_dj {j : Int} {V : List (qt_T ⊕ Int)} {k d : Nat} (hj : j ≠ -20005) (h : qd (.inr j :: V) k = some d) : 2 ≤ k ∧ qd V (k - 1) = some d := by
  have h : (if j = -20005 then (if 1 ≤ k then qd V k else none) else if 2 ≤ k then qd V (k - 1) else none) = some d := h
  rw [if_neg hj] at h
  split at h
  · exact ⟨by assumption, h⟩
  · cases h
set_option maxRecDepth 8000 in
/-- events as holdsWith takes them -/
theorem hw_lp {cst : am_K} {strs : List Nat} {D : Nat} {M : am_M} {h0 : am_H} {Φ : am_Q → Prop} (cc : ∀ d_9, hp_C cst strs d_9) (hM : m_P[129]? = some M) (hD : 3 ≤ D) {me : Int32} {c cl f g : Int} {N : Nat} (k1 : ly_hv cst h0 3588 0 = some cl) (c0 : 0 ≤ c) (c1 : c < cl) (c2 : cl ≤ 1240) (k2 : ly_hv cst h0 5632 c = some f) (k3 : ly_hv cst h0 5632 (c + 1) = some g) (f0 : 0 ≤ f) (eg : g = f + (N : Int)) (g1 : g ≤ 10240) {st9 : List Bool} {n9 d9 : Nat}
    (fin : ∀ (h_9 : am_H) (l : am_L) (w_9 : Int32), ly_hy m_tt ly_TH h_9 → ly_fr cst [] h0 h_9 → mbs st9 w_9 → hp_a l 0 30 → hp_i l 1 c → hp_i l 2 me.toInt → hp_i l 3 w_9.toInt → hp_i l 4 (n9 : Int) → hp_i l 5 (N : Int) → n9 ≤ 31 → hp_F cst strs Φ D M 8 l [] h_9) :
    ∀ (V : List (qt_T ⊕ Int)) (h_9 : am_H) (l : am_L) (i_9 n_9 : Nat) (st : List Bool) (w_9 : Int32), (∀ x_9 ∈ V, qw x_9) → i_9 + (qv_e V).length = N → n_9 + (qv_t V).length ≤ 20 → st.length ≤ n_9 → qd V st.length = some d9 → qv_c (fun i_9 => btq_b me i_9) V (st, n_9) = (st9, n9) → (∀ k_9 (hk : k_9 < (qv_e V).length), ly_hv cst h0 5888 (f + ((i_9 + k_9 : Nat) : Int)) = some ((qv_e V)[k_9])) → ly_hy m_tt ly_TH h_9 → ly_fr cst [] h0 h_9 → mbs st w_9 → hp_a l 0 30 → hp_i l 1 c → hp_i l 2 me.toInt → hp_i l 3 w_9.toInt → hp_i l 4 (n_9 : Int) → hp_i l 5 (i_9 : Int) → hp_F cst strs Φ D M 8 l [] h_9 := by
  have c' : hp_C cst strs D := cc _
  intro V
  induction V with
  | nil =>
    intro h_9 l i_9 n_9 st w_9 _ eN_9 nb sn _ ec _ hy fr_9 B_9 l0 l1 l2 l3 l4 l5
    have ec : (st, n_9) = (st9, n9) := ec
    have e1_9 : st = st9 := congrArg Prod.fst ec
    have e2_9 : n_9 = n9 := congrArg Prod.snd ec
    have eN_9 : i_9 + 0 = N := eN_9
    have nb : n_9 + 0 ≤ 20 := nb
    rw [e1_9] at B_9
    rw [e2_9] at l4
    exact fin h_9 l w_9 hy fr_9 B_9 l0 l1 l2 l3 l4 (by rw [← eN_9]; exact l5) (by omega)
  | cons y_9 V ih_9 =>
    intro h_9 l i_9 n_9 st w_9 wf eN_9 nb sn dp ec row_9 hy fr_9 B_9 l0 l1 l2 l3 l4 l5
    have wf' : ∀ x_9 ∈ V, qw x_9 := fun x_9 hx => wf x_9 (List.mem_cons_of_mem _ hx)
    have wy := wf y_9 List.mem_cons_self
    cases y_9 with
    | inl x_9 =>
      have wy : qwt x_9 := wy
      have eN_9 : i_9 + (qt_e x_9 ++ [-20004] ++ qv_e V).length = N := eN_9
      rw [List.length_append, List.length_append, List.length_singleton] at eN_9
      have nb : n_9 + ((qv_t V).length + 1) ≤ 20 := nb
      have row_9 : ∀ k_9 (hk : k_9 < (qt_e x_9 ++ [-20004] ++ qv_e V).length), ly_hv cst h0 5888 (f + ((i_9 + k_9 : Nat) : Int)) = some ((qt_e x_9 ++ [-20004] ++ qv_e V)[k_9]) := row_9
      refine hw_sk cc hM hD k1 c0 c1 c2 k2 k3 f0 eg g1 (qt_e x_9) h_9 l i_9 n_9 w_9 (qt_e_n wy) (by omega) (by omega) (fun k_9 hk => ?_) hy fr_9 l0 l1 l2 l3 l4 l5 (fun h2 l2' u1_9 u2_9 m0_9 m1_9 m2_9 m3_9 m4_9 m5_9 => ?_)
      · have z_9 := row_9 k_9 (by rw [List.length_append, List.length_append]; omega)
        rw [List.getElem_append_left (by rw [List.length_append]; omega), List.getElem_append_left hk] at z_9
        exact z_9
      have kx : ly_hv cst h2 5888 (f + ((i_9 + (qt_e x_9).length : Nat) : Int)) = some (-20004) := by
        have z_9 := row_9 (qt_e x_9).length (by rw [List.length_append, List.length_append, List.length_singleton]; omega)
        rw [List.getElem_append_left (by rw [List.length_append, List.length_singleton]; omega), List.getElem_append_right (Nat.le_refl _)] at z_9
        simp only [Nat.sub_self, List.getElem_singleton] at z_9
        exact u2_9 _ _ _ rfl z_9
      have bi : (((i_9 + (qt_e x_9).length : Nat) : Int)) ≤ 10240 := by omega
      refine hwT0 c' hM (by omega) u1_9 c me.toInt w_9.toInt (n_9 : Int) ((i_9 + (qt_e x_9).length : Nat) : Int) cl f g c0 (by omega) me.le_toInt me.toInt_le w_9.le_toInt w_9.toInt_le (by omega) (by omega) (by omega) (by omega) (by omega) c2 f0 (by omega) (by omega) g1 (by omega) (by omega) (u2_9 _ _ _ rfl k1) (u2_9 _ _ _ rfl k2) (u2_9 _ _ _ rfl k3) kx m0_9 m1_9 m2_9 m3_9 m4_9 m5_9 (fun l3' h3 a0_9 a1_9 ea0 ea1 v1_9 v2 v3 o0_9 o1 o2 o3_9 o4_9 o5_9 => ?_)
      have ew1 : a1_9 = w_9 := Int32.toInt_inj.mp ea1
      rw [ew1]
      refine btq_ishl hM (by decide +kernel) ?_
      refine hwT1 c' hM (by omega) v1_9 c me.toInt w_9.toInt (n_9 : Int) ((i_9 + (qt_e x_9).length : Nat) : Int) (w_9 <<< (a0_9 &&& 31)).toInt (w_9 <<< (a0_9 &&& 31)) rfl c0 (by omega) me.le_toInt me.toInt_le w_9.le_toInt w_9.toInt_le (by omega) (by omega) (by omega) (by omega) (Int32.le_toInt _) (Int32.toInt_le _) o0_9 o1 o2 o3_9 o4_9 o5_9 (fun l4' h4 b0 b1 b2 eb0 eb1 eb2 x1_9 x2_9 x3 p0_9 p1_9 p2_9 p3_9 p4_9 p5_9 => ?_)
      have em1 : b1 = me := Int32.toInt_inj.mp eb1
      have em2 : b2 = w_9 <<< (a0_9 &&& 31) := Int32.toInt_inj.mp eb2
      rw [em1, em2]
      refine btq_ishr hM (by decide +kernel) ?_
      refine hwT2 c' hM (by omega) x1_9 c me.toInt w_9.toInt (n_9 : Int) ((i_9 + (qt_e x_9).length : Nat) : Int) (w_9 <<< (a0_9 &&& 31)).toInt (me >>> (b0 &&& 31)).toInt (me >>> (b0 &&& 31)) (w_9 <<< (a0_9 &&& 31)) rfl rfl c0 (by omega) me.le_toInt me.toInt_le w_9.le_toInt w_9.toInt_le (by omega) (by omega) (by omega) (by omega) (Int32.le_toInt _) (Int32.toInt_le _) (Int32.le_toInt _) (Int32.toInt_le _) p0_9 p1_9 p2_9 p3_9 p4_9 p5_9 (fun l5' h5 d0_9 d1_9 d2_9 ed0 ed1 ed2 y1 y2 y3 s0_9 s1_9 s2_9 s3_9 s4_9 s5 => ?_)
      have em3 : d1_9 = me >>> (b0 &&& 31) := Int32.toInt_inj.mp ed1
      have em4 : d2_9 = w_9 <<< (a0_9 &&& 31) := Int32.toInt_inj.mp ed2
      have em5 : d0_9 = 1 := Int32.toInt_inj.mp (show d0_9.toInt = (1 : Int32).toInt from ed0)
      rw [em3, em4, em5]
      refine btq_iand hM (by decide +kernel) ?_
      refine btq_ior hM (by decide +kernel) ?_
      have ez : (me >>> (b0 &&& 31)) &&& 1 = bif btq_b me n_9 then 1 else 0 := btq_at eb0 (by omega) me
      have B2 : mbs (btq_b me n_9 :: st) ((w_9 <<< (a0_9 &&& 31)) ||| ((me >>> (b0 &&& 31)) &&& 1)) := mbs_push B_9 (by omega) ea0 ez
      have F5 : ly_fr cst [] h0 h5 := ly_fr_tr u2_9 (ly_fr_tr v2 (ly_fr_tr x2_9 y2))
      refine hwT3 c' hM (by omega) y1 c me.toInt w_9.toInt (n_9 : Int) ((i_9 + (qt_e x_9).length : Nat) : Int) ((w_9 <<< (a0_9 &&& 31)) ||| ((me >>> (b0 &&& 31)) &&& 1)).toInt ((w_9 <<< (a0_9 &&& 31)) ||| ((me >>> (b0 &&& 31)) &&& 1)) rfl c0 (by omega) me.le_toInt me.toInt_le w_9.le_toInt w_9.toInt_le (by omega) (by omega) (by omega) (by omega) (Int32.le_toInt _) (Int32.toInt_le _) s0_9 s1_9 s2_9 s3_9 s4_9 s5 (fun l6 h6 t1_9 t2_9 t3_9 q0 q1_9 q2_9 q3_9 q4_9 q5_9 => ?_)
      refine ih_9 h6 l6 (i_9 + (qt_e x_9).length + 1) (n_9 + 1) (btq_b me n_9 :: st) _ wf' (by omega) (by omega) (by rw [List.length_cons]; omega) (qv_d1 dp) ec (fun k_9 hk => ?_) t1_9 (ly_fr_tr F5 t2_9) B2 q0 q1_9 q2_9 q3_9 (by rw [show (((n_9 + 1 : Nat)) : Int) = (n_9 : Int) + 1 by omega]; exact q4_9) (by rw [show (((i_9 + (qt_e x_9).length + 1 : Nat)) : Int) = ((i_9 + (qt_e x_9).length : Nat) : Int) + 1 by omega]; exact q5_9)
      have z_9 := row_9 ((qt_e x_9).length + 1 + k_9) (by rw [List.length_append, List.length_append, List.length_singleton]; omega)
      rw [List.getElem_append_right (by rw [List.length_append, List.length_singleton]; omega)] at z_9
      rw [show i_9 + (qt_e x_9).length + 1 + k_9 = i_9 + ((qt_e x_9).length + 1 + k_9) by omega, z_9]
      congr 1
      simp only [List.length_append, List.length_singleton, Nat.add_sub_cancel_left]
    | inr j_9 =>
      have wj : j_9 = -20005 ∨ j_9 = -20006 ∨ j_9 = -20007 := wy
      have eN_9 : i_9 + ((qv_e V).length + 1) = N := eN_9
      have nb : n_9 + (qv_t V).length ≤ 20 := nb
      have row_9 : ∀ k_9 (hk : k_9 < (j_9 :: qv_e V).length), ly_hv cst h0 5888 (f + ((i_9 + k_9 : Nat) : Int)) = some ((j_9 :: qv_e V)[k_9]) := row_9
      have kx : ly_hv cst h_9 5888 (f + (i_9 : Int)) = some j_9 := by
        have z_9 := row_9 0 (Nat.zero_lt_succ _)
        rw [Nat.add_zero] at z_9
        exact fr_9 _ _ _ rfl z_9
      have row' : ∀ k_9 (hk : k_9 < (qv_e V).length), ly_hv cst h0 5888 (f + ((i_9 + 1 + k_9 : Nat) : Int)) = some ((qv_e V)[k_9]) := fun k_9 hk => by
        have z_9 := row_9 (k_9 + 1) (Nat.succ_lt_succ hk)
        rw [show i_9 + (k_9 + 1) = i_9 + 1 + k_9 by omega] at z_9
        exact z_9
      have q1_9 := fr_9 _ _ _ rfl k1
      have q2_9 := fr_9 _ _ _ rfl k2
      have q3_9 := fr_9 _ _ _ rfl k3
      have ni : (((i_9 + 1 : Nat)) : Int) = (i_9 : Int) + 1 := by omega
      have bi : (i_9 : Int) ≤ 10240 := by omega
      rcases wj with ej | ej | ej
      · rw [ej] at kx
        obtain ⟨kd, dp'⟩ := qv_dn ej dp
        cases st with
        | nil => exact absurd kd (by decide)
        | cons p_9 st =>
          have ec : qv_c (fun i_9 => btq_b me i_9) V ((if j_9 = -20005 then qv_n (p_9 :: st) else if j_9 = -20006 then qv_a (p_9 :: st) else if j_9 = -20007 then qv_o (p_9 :: st) else p_9 :: st), n_9) = (st9, n9) := ec
          rw [if_pos ej] at ec
          refine hwN0 c' hM (by omega) hy c me.toInt w_9.toInt (n_9 : Int) (i_9 : Int) cl f g c0 (by omega) me.le_toInt me.toInt_le w_9.le_toInt w_9.toInt_le (by omega) (by omega) (by omega) (by omega) (by omega) c2 f0 (by omega) (by omega) g1 (by omega) (by omega) q1_9 q2_9 q3_9 kx l0 l1 l2 l3 l4 l5 (fun l3' h3 a0_9 a1_9 ea0 ea1 v1_9 v2 v3 o0_9 o1 o2 o3_9 o4_9 o5_9 => ?_)
          have ew1 : a1_9 = w_9 := Int32.toInt_inj.mp ea1
          rw [ew1]
          refine btq_ixor hM (by decide +kernel) ?_
          exact hwN1 c' hM (by omega) v1_9 c me.toInt w_9.toInt (n_9 : Int) (i_9 : Int) (w_9 ^^^ a0_9).toInt (w_9 ^^^ a0_9) rfl c0 (by omega) me.le_toInt me.toInt_le w_9.le_toInt w_9.toInt_le (by omega) (by omega) (by omega) (by omega) (Int32.le_toInt _) (Int32.toInt_le _) o0_9 o1 o2 o3_9 o4_9 o5_9 (fun l6 h6 t1_9 t2_9 t3_9 s0_9 s1_9 s2_9 s3_9 s4_9 s5 => ih_9 h6 l6 (i_9 + 1) n_9 ((!p_9) :: st) (w_9 ^^^ a0_9) wf' (by omega) (by omega) sn dp' ec row' t1_9 (ly_fr_tr fr_9 (ly_fr_tr v2 t2_9)) (mbs_not B_9 ea0) s0_9 s1_9 s2_9 s3_9 s4_9 (by rw [ni]; exact s5))
      · rw [ej] at kx
        obtain ⟨kd, dp'⟩ := qv_dj (by omega) dp
        cases st with
        | nil => exact absurd kd (by decide)
        | cons p_9 st =>
          cases st with
          | nil => exact absurd kd (show ¬ 2 ≤ 1 by decide)
          | cons p2_9 st =>
            have ec : qv_c (fun i_9 => btq_b me i_9) V ((if j_9 = -20005 then qv_n (p_9 :: p2_9 :: st) else if j_9 = -20006 then qv_a (p_9 :: p2_9 :: st) else if j_9 = -20007 then qv_o (p_9 :: p2_9 :: st) else p_9 :: p2_9 :: st), n_9) = (st9, n9) := ec
            rw [if_neg (by omega), if_pos ej] at ec
            have sn : st.length + 1 + 1 ≤ n_9 := sn
            refine hwA0 c' hM (by omega) hy c me.toInt w_9.toInt (n_9 : Int) (i_9 : Int) cl f g c0 (by omega) me.le_toInt me.toInt_le w_9.le_toInt w_9.toInt_le (by omega) (by omega) (by omega) (by omega) (by omega) c2 f0 (by omega) (by omega) g1 (by omega) (by omega) q1_9 q2_9 q3_9 kx l0 l1 l2 l3 l4 l5 (fun l3' h3 a0_9 a1_9 ea0 ea1 v1_9 v2 v3 o0_9 o1 o2 o3_9 o4_9 o5_9 => ?_)
            have ew1 : a1_9 = w_9 := Int32.toInt_inj.mp ea1
            rw [ew1]
            refine btq_ishr hM (by decide +kernel) ?_
            refine hwA1 c' hM (by omega) v1_9 c me.toInt w_9.toInt (n_9 : Int) (i_9 : Int) (w_9 >>> (a0_9 &&& 31)).toInt (w_9 >>> (a0_9 &&& 31)) rfl c0 (by omega) me.le_toInt me.toInt_le w_9.le_toInt w_9.toInt_le (by omega) (by omega) (by omega) (by omega) (Int32.le_toInt _) (Int32.toInt_le _) o0_9 o1 o2 o3_9 o4_9 o5_9 (fun l4' h4 b0 b1 b2 eb0 eb1 eb2 x1_9 x2_9 x3 p0_9 p1_9 p2' p3_9 p4_9 p5_9 => ?_)
            have em1 : b1 = w_9 := Int32.toInt_inj.mp eb1
            have em2 : b2 = w_9 >>> (a0_9 &&& 31) := Int32.toInt_inj.mp eb2
            rw [em1, em2]
            refine btq_ior hM (by decide +kernel) ?_
            refine btq_iand hM (by decide +kernel) ?_
            exact hwA2 c' hM (by omega) x1_9 c me.toInt w_9.toInt (n_9 : Int) (i_9 : Int) ((w_9 >>> (a0_9 &&& 31)) &&& (w_9 ||| b0)).toInt ((w_9 >>> (a0_9 &&& 31)) &&& (w_9 ||| b0)) rfl c0 (by omega) me.le_toInt me.toInt_le w_9.le_toInt w_9.toInt_le (by omega) (by omega) (by omega) (by omega) (Int32.le_toInt _) (Int32.toInt_le _) p0_9 p1_9 p2' p3_9 p4_9 p5_9 (fun l6 h6 t1_9 t2_9 t3_9 s0_9 s1_9 s2_9 s3_9 s4_9 s5 => ih_9 h6 l6 (i_9 + 1) n_9 ((p2_9 && p_9) :: st) _ wf' (by omega) (by omega) (by rw [List.length_cons]; omega) dp' ec row' t1_9 (ly_fr_tr fr_9 (ly_fr_tr v2 (ly_fr_tr x2_9 t2_9))) (mbs_and B_9 (by omega) ea0 eb0) s0_9 s1_9 s2_9 s3_9 s4_9 (by rw [ni]; exact s5))
      · rw [ej] at kx
        obtain ⟨kd, dp'⟩ := qv_dj (by omega) dp
        cases st with
        | nil => exact absurd kd (by decide)
        | cons p_9 st =>
          cases st with
          | nil => exact absurd kd (show ¬ 2 ≤ 1 by decide)
          | cons p2_9 st =>
            have ec : qv_c (fun i_9 => btq_b me i_9) V ((if j_9 = -20005 then qv_n (p_9 :: p2_9 :: st) else if j_9 = -20006 then qv_a (p_9 :: p2_9 :: st) else if j_9 = -20007 then qv_o (p_9 :: p2_9 :: st) else p_9 :: p2_9 :: st), n_9) = (st9, n9) := ec
            rw [if_neg (by omega), if_neg (by omega), if_pos ej] at ec
            have sn : st.length + 1 + 1 ≤ n_9 := sn
            refine hwO0 c' hM (by omega) hy c me.toInt w_9.toInt (n_9 : Int) (i_9 : Int) cl f g c0 (by omega) me.le_toInt me.toInt_le w_9.le_toInt w_9.toInt_le (by omega) (by omega) (by omega) (by omega) (by omega) c2 f0 (by omega) (by omega) g1 (by omega) (by omega) q1_9 q2_9 q3_9 kx l0 l1 l2 l3 l4 l5 (fun l3' h3 a0_9 a1_9 ea0 ea1 v1_9 v2 v3 o0_9 o1 o2 o3_9 o4_9 o5_9 => ?_)
            have ew1 : a1_9 = w_9 := Int32.toInt_inj.mp ea1
            rw [ew1]
            refine btq_ishr hM (by decide +kernel) ?_
            refine hwO1 c' hM (by omega) v1_9 c me.toInt w_9.toInt (n_9 : Int) (i_9 : Int) (w_9 >>> (a0_9 &&& 31)).toInt (w_9 >>> (a0_9 &&& 31)) rfl c0 (by omega) me.le_toInt me.toInt_le w_9.le_toInt w_9.toInt_le (by omega) (by omega) (by omega) (by omega) (Int32.le_toInt _) (Int32.toInt_le _) o0_9 o1 o2 o3_9 o4_9 o5_9 (fun l4' h4 b0 b1 b2 eb0 eb1 eb2 x1_9 x2_9 x3 p0_9 p1_9 p2' p3_9 p4_9 p5_9 => ?_)
            have em1 : b1 = w_9 := Int32.toInt_inj.mp eb1
            have em2 : b2 = w_9 >>> (a0_9 &&& 31) := Int32.toInt_inj.mp eb2
            rw [em1, em2]
            refine btq_iand hM (by decide +kernel) ?_
            refine btq_ior hM (by decide +kernel) ?_
            exact hwO2 c' hM (by omega) x1_9 c me.toInt w_9.toInt (n_9 : Int) (i_9 : Int) ((w_9 >>> (a0_9 &&& 31)) ||| (w_9 &&& b0)).toInt ((w_9 >>> (a0_9 &&& 31)) ||| (w_9 &&& b0)) rfl c0 (by omega) me.le_toInt me.toInt_le w_9.le_toInt w_9.toInt_le (by omega) (by omega) (by omega) (by omega) (Int32.le_toInt _) (Int32.toInt_le _) p0_9 p1_9 p2' p3_9 p4_9 p5_9 (fun l6 h6 t1_9 t2_9 t3_9 s0_9 s1_9 s2_9 s3_9 s4_9 s5 => ih_9 h6 l6 (i_9 + 1) n_9 ((p2_9 || p_9) :: st) _ wf' (by omega) (by omega) (by rw [List.length_cons]; omega) dp' ec row' t1_9 (ly_fr_tr fr_9 (ly_fr_tr v2 (ly_fr_tr x2_9 t2_9))) (mbs_or B_9 (by omega) ea0 eb0) s0_9 s1_9 s2_9 s3_9 s4_9 (by rw [ni]; exact s5))
/-- a deed's condition: its events and what they are worth -/
def dV (V : List (qt_T ⊕ Int)) (bv : (Nat → Bool) → Bool) (m : Nat) : Prop := (∀ x ∈ V, qw x) ∧ (qv_t V).length = m ∧ m ≤ 20 ∧ (∀ k, qd V k = some (k + 1)) ∧ ∀ (met : Nat → Bool) (st : List Bool), qv_c met V (st, 0) = (bv met :: st, m)
/-- holdsWith -/
theorem hw_run {cst : am_K} {strs : List Nat} {D : Nat} {h0 : am_H} (cc : ∀ d_9, hp_C cst strs d_9) (hD : 3 ≤ D) (hy : ly_hy m_tt ly_TH h0) {c : Int} {V : List (qt_T ⊕ Int)} {bv : (Nat → Bool) → Bool} {m : Nat} (I : cI cst h0 c (qv_e V)) (H : dV V bv m) {xc me : Int32} (ec : xc.toInt = c) :
    ∃ r_9, am_Run cst m_cl m_tt m_P strs sx_bi (D + 1) 129 [.ref 30, .int xc, .int me] h0 r_9 ∧ (fun r_9 : am_Q => ∃ w_9 : Int32, r_9.1 = some (.int w_9) ∧ r_9.2.2.1 = 0 ∧ r_9.2.2.2 = 0 ∧ ly_hy m_tt ly_TH r_9.2.1 ∧ ly_fr cst [] h0 r_9.2.1 ∧ w_9.toInt = bif bv (fun i_9 => btq_b me i_9) then 1 else 0) r_9 := by
  obtain ⟨M_9, hM_9, hl⟩ := hp_M (mi := 129) (k := 3) (by decide +kernel)
  have c' : hp_C cst strs D := cc _
  obtain ⟨cl, f_9, a1_9, a2, a3, a4, a5, a6, a7, a8, a9⟩ := I
  obtain ⟨v1_9, v2, v3, v4_9, v5⟩ := H
  have go_9 : hp_F cst strs (fun r_9 : am_Q => ∃ w_9 : Int32, r_9.1 = some (.int w_9) ∧ r_9.2.2.1 = 0 ∧ r_9.2.2.2 = 0 ∧ ly_hy m_tt ly_TH r_9.2.1 ∧ ly_fr cst [] h0 r_9.2.1 ∧ w_9.toInt = bif bv (fun i_9 => btq_b me i_9) then 1 else 0) D M_9 0 (lv_args 0 [.ref 30, .int xc, .int me]) [] h0 := by
    refine hw0 c' hM_9 (by omega) hy c me.toInt a2 (by omega) me.le_toInt me.toInt_le rfl ⟨xc, rfl, ec⟩ ⟨me, rfl, rfl⟩ (fun l1 h1 u1_9 u2_9 u3 m0_9 m1_9 m2_9 m3_9 m4_9 m5_9 => ?_)
    refine hw_lp (N := (qv_e V).length) (st9 := [bv (fun i_9 => btq_b me i_9)]) (n9 := m) (d9 := 1) cc hM_9 hD a1_9 a2 a3 a4 a5 a6 a7 rfl a8 (fun h_9 l w_9 u1' u2' B_9 l0 l1' l2 l3 l4 l5 n31_9 => ?_) V h1 l1 0 0 [] 0 v1_9 (by omega) (by omega) (Nat.le_refl _) (v4_9 0) (v5 _ _) (fun k hk => by rw [Nat.zero_add]; exact a9 k hk) u1_9 u2_9 mbs_0 m0_9 m1_9 m2_9 m3_9 m4_9 m5_9
    rw [show (((qv_e V).length : Nat) : Int) = f_9 + ((qv_e V).length : Int) - f_9 by omega] at l5
    refine hwE c' hM_9 (by omega) u1' c me.toInt w_9.toInt (m : Int) cl f_9 (f_9 + ((qv_e V).length : Int)) a2 (by omega) me.le_toInt me.toInt_le w_9.le_toInt w_9.toInt_le (by omega) (by omega) (by omega) a4 a7 (by omega) (by omega) a8 (by omega) (by omega) (u2' _ _ _ rfl a1_9) (u2' _ _ _ rfl a5) (u2' _ _ _ rfl a6) l0 l1' l2 l3 l4 l5 (fun l7 h7 b0 b1 eb0 eb1 x1_9 x2_9 x3 p0_9 => ?_)
    have em1 : b1 = w_9 := Int32.toInt_inj.mp eb1
    have em0 : b0 = 1 := Int32.toInt_inj.mp (show b0.toInt = (1 : Int32).toInt from eb0)
    rw [em1, em0]
    refine btq_iand hM_9 (by decide +kernel) ?_
    have F7 : ly_fr cst [] h0 h7 := ly_fr_tr u2' x2_9
    have ew : w_9 &&& 1 = bif bv (fun i_9 => btq_b me i_9) then 1 else 0 := by
      refine btq_ext (fun i_9 hi_9 => ?_)
      rw [btq_band, btq_1 i_9 hi_9, B_9 i_9 hi_9]
      cases i_9 with
      | zero =>
        show (bv (fun i_9 => btq_b me i_9) && true) = _
        cases bv (fun i_9 => btq_b me i_9)
        · show false = btq_b 0 0
          rw [btq_0]
        · show true = btq_b 1 0
          rw [btq_1 0 (by decide)]
          rfl
      | succ i_9 =>
        rw [decide_eq_false (by omega), Bool.and_false]
        cases bv (fun i_9 => btq_b me i_9)
        · exact (btq_0 _).symm
        · show false = btq_b 1 (i_9 + 1)
          rw [btq_1 (i_9 + 1) hi_9, decide_eq_false (by omega)]
    rw [ew]
    cases eb : bv (fun i_9 => btq_b me i_9)
    · exact hwE0 c' hM_9 (by omega) x1_9 0 rfl p0_9 (fun h8 v_9 hv y1 y2 y3 => ⟨v_9, rfl, rfl, rfl, y1, ly_fr_tr F7 y2, by rw [hv]; rfl⟩)
    · exact hwE1 c' hM_9 (by omega) x1_9 1 rfl p0_9 (fun h8 v_9 hv y1 y2 y3 => ⟨v_9, rfl, rfl, rfl, y1, ly_fr_tr F7 y2, by rw [hv]; rfl⟩)
  obtain ⟨n', r_9, hgo, w_9, r1_9, r2, r3, r4⟩ := go_9
  simp only [Nat.zero_add] at r2 r3
  exact ⟨r_9, Or.inr ⟨M_9, n', hM_9, hl, hgo⟩, w_9, r1_9, r2, r3, r4⟩
set_option maxRecDepth 8000 in
theorem lk_lp {cst : am_K} {strs : List Nat} {D : Nat} {M : am_M} {h0 : am_H} (cc : ∀ d_9, hp_C cst strs d_9) (hM : m_P[128]? = some M) (hD : 3 ≤ D) {c : Int} {V : List (qt_T ⊕ Int)} {bv : (Nat → Bool) → Bool} {m : Nat} (I : cI cst h0 c (qv_e V)) (H : dV V bv m) {me : Int32} (nb : bv (fun i_9 => btq_b me i_9) = false) : ∀ (F_9 : Nat) (h_9 : am_H) (l : am_L) (t_9 : Nat), t_9 + F_9 = m → lck (fun x_9 => bv (fun i_9 => btq_b x_9 i_9)) me F_9 t_9 = lck (fun x_9 => bv (fun i_9 => btq_b x_9 i_9)) me m 0 → ly_hy m_tt ly_TH h_9 → ly_fr cst [] h0 h_9 → hp_a l 0 30 → hp_i l 1 c → hp_i l 2 me.toInt → hp_i l 3 (m : Int) → hp_i l 4 (t_9 : Int) → hp_F cst strs (fun r_9 : am_Q => ∃ w_9 : Int32, r_9.1 = some (.int w_9) ∧ r_9.2.2.1 = 0 ∧ r_9.2.2.2 = 0 ∧ ly_hy m_tt ly_TH r_9.2.1 ∧ ly_fr cst [] h0 r_9.2.1 ∧ w_9.toInt = lcks (fun x_9 => bv (fun i_9 => btq_b x_9 i_9)) me m) (D + 1) M 37 l [] h_9 := by
  have c' : hp_C cst strs (D + 1) := cc _
  obtain ⟨cl, f_9, a1_9, a2, a3, a4, -⟩ := id I
  have m20 := H.2.2.1
  have ek : ∀ v_9, v_9 = lck (fun x_9 => bv (fun i_9 => btq_b x_9 i_9)) me m 0 → v_9 = lcks (fun x_9 => bv (fun i_9 => btq_b x_9 i_9)) me m := fun v_9 e_9 => by
    unfold lcks
    rw [if_neg (fun z_9 => by
      have z_9 : bv (fun i_9 => btq_b me i_9) = true := z_9
      rw [nb] at z_9
      cases z_9)]
    exact e_9
  intro F_9
  induction F_9 with
  | zero =>
    intro h_9 l t_9 et el hy fr_9 l0 l1 l2 l3 l4
    have et : t_9 = m := et
    rw [et] at l4
    exact lk93 c' hM (by omega) hy c me.toInt (m : Int) a2 (by omega) me.le_toInt me.toInt_le (by omega) (by omega) l0 l1 l2 l3 l4 (fun h2 w_9 hw u1_9 u2_9 u3 => ⟨w_9, rfl, rfl, rfl, u1_9, ly_fr_tr fr_9 u2_9, ek _ (by rw [hw]; exact el)⟩)
  | succ F_9 ih_9 =>
    intro h_9 l t_9 et el hy fr_9 l0 l1 l2 l3 l4
    refine lk94 c' hM (by omega) hy c me.toInt (m : Int) (t_9 : Int) a2 (by omega) me.le_toInt me.toInt_le (by omega) (by omega) (by omega) (by omega) (by omega) l0 l1 l2 l3 l4 (fun l3' h3 b0 b1 b2 b3 eb0 eb1 eb2 eb3 x1_9 x2_9 x3 p0_9 p1_9 p2_9 p3_9 p4_9 => ?_)
    have em2 : b2 = me := Int32.toInt_inj.mp eb2
    have em1 : b1 = 1 := Int32.toInt_inj.mp (show b1.toInt = (1 : Int32).toInt from eb1)
    rw [em2, em1]
    refine btq_ishl hM (by decide +kernel) ?_
    refine btq_ixor hM (by decide +kernel) ?_
    have F3 : ly_fr cst [] h0 h3 := ly_fr_tr fr_9 x2_9
    obtain ⟨r_9, hrun, w_9, r1_9, r2, r3, rhy, rfr, ew⟩ := hw_run (D := D) cc hD x1_9 (cI_mv I F3 rfl rfl rfl) H (xc := b3) (me := me ^^^ ((1 : Int32) <<< (b0 &&& 31))) eb3
    refine hp_call (mi := 128) (pc := 51) (tg := 129) (na := 3) (c := 14) (ci := 3) (st0 := [.int (me ^^^ ((1 : Int32) <<< (b0 &&& 31))), .int b3, .ref 30]) (st := []) (av := [.int b3, .int (me ^^^ ((1 : Int32) <<< (b0 &&& 31)))]) hM (by decide +kernel) x1_9 rfl rfl rfl (by decide) hrun r2 r3 ?_
    rw [r1_9]
    have F4 : ly_fr cst [] h0 r_9.2.1 := ly_fr_tr F3 rfr
    have eo : b0 = Int32.ofNat t_9 := btq_k eb0 (by omega)
    rw [eo] at ew
    have el : (if bv (fun i_9 => btq_b (me ^^^ ((1 : Int32) <<< (Int32.ofNat t_9 &&& 31))) i_9) = true then (t_9 : Int) else lck (fun x_9 => bv (fun i_9 => btq_b x_9 i_9)) me F_9 (t_9 + 1)) = lck (fun x_9 => bv (fun i_9 => btq_b x_9 i_9)) me m 0 := el
    cases eb : bv (fun i_9 => btq_b (me ^^^ ((1 : Int32) <<< (Int32.ofNat t_9 &&& 31))) i_9)
    · rw [eb] at ew el
      rw [if_neg (by decide)] at el
      exact lk97 c' hM (by omega) rhy c me.toInt (m : Int) (t_9 : Int) w_9 ew a2 (by omega) me.le_toInt me.toInt_le (by omega) (by omega) (by omega) (by omega) p0_9 p1_9 p2_9 p3_9 p4_9 (fun l5 h5 y1 y2 y3 q0 q1_9 q2_9 q3_9 q4_9 => ih_9 h5 l5 (t_9 + 1) (by omega) el y1 (ly_fr_tr F4 y2) q0 q1_9 q2_9 q3_9 (by rw [show (((t_9 + 1 : Nat)) : Int) = (t_9 : Int) + 1 by omega]; exact q4_9))
    · rw [eb] at ew el
      rw [if_pos rfl] at el
      exact lk96 c' hM (by omega) rhy c me.toInt (m : Int) (t_9 : Int) w_9 ew a2 (by omega) me.le_toInt me.toInt_le (by omega) (by omega) (by omega) (by omega) p0_9 p1_9 p2_9 p3_9 p4_9 (fun h5 v_9 hv y1 y2 y3 => ⟨v_9, rfl, rfl, rfl, y1, ly_fr_tr F4 y2, ek _ (by rw [hv]; exact el)⟩)
/-- lacking -/
theorem lk_run9 {cst : am_K} {strs : List Nat} {D : Nat} {h0 : am_H} (cc : ∀ d_9, hp_C cst strs d_9) (hD : 3 ≤ D) (hy : ly_hy m_tt ly_TH h0) {c : Int} {V : List (qt_T ⊕ Int)} {bv : (Nat → Bool) → Bool} {m : Nat} (I : cI cst h0 c (qv_e V)) (H : dV V bv m) (kn : ly_hv cst h0 5120 c = some (m : Int)) {xc me : Int32} (ec : xc.toInt = c) :
    ∃ r_9, am_Run cst m_cl m_tt m_P strs sx_bi (D + 2) 128 [.ref 30, .int xc, .int me] h0 r_9 ∧ (fun r_9 : am_Q => ∃ w_9 : Int32, r_9.1 = some (.int w_9) ∧ r_9.2.2.1 = 0 ∧ r_9.2.2.2 = 0 ∧ ly_hy m_tt ly_TH r_9.2.1 ∧ ly_fr cst [] h0 r_9.2.1 ∧ w_9.toInt = lcks (fun x_9 => bv (fun i_9 => btq_b x_9 i_9)) me m) r_9 := by
  obtain ⟨M_9, hM_9, hl⟩ := hp_M (mi := 128) (k := 3) (by decide +kernel)
  have c' : hp_C cst strs (D + 1) := cc _
  obtain ⟨cl, f_9, a1_9, a2, a3, a4, -⟩ := id I
  have m20 := H.2.2.1
  have go_9 : hp_F cst strs (fun r_9 : am_Q => ∃ w_9 : Int32, r_9.1 = some (.int w_9) ∧ r_9.2.2.1 = 0 ∧ r_9.2.2.2 = 0 ∧ ly_hy m_tt ly_TH r_9.2.1 ∧ ly_fr cst [] h0 r_9.2.1 ∧ w_9.toInt = lcks (fun x_9 => bv (fun i_9 => btq_b x_9 i_9)) me m) (D + 1) M_9 0 (lv_args 0 [.ref 30, .int xc, .int me]) [] h0 := by
    refine lk90 c' hM_9 (by omega) hy c me.toInt a2 (by omega) me.le_toInt me.toInt_le rfl ⟨xc, rfl, ec⟩ ⟨me, rfl, rfl⟩ (fun l1 h1 b0 b1 eb0 eb1 u1_9 u2_9 u3 p0_9 p1_9 p2_9 => ?_)
    have em0 : b0 = me := Int32.toInt_inj.mp eb0
    rw [em0]
    obtain ⟨r_9, hrun, w_9, r1_9, r2, r3, rhy, rfr, ew⟩ := hw_run (D := D) cc hD u1_9 (cI_mv I u2_9 rfl rfl rfl) H (xc := b1) (me := me) eb1
    refine hp_call (mi := 128) (pc := 3) (tg := 129) (na := 3) (c := 14) (ci := 3) (st0 := [.int me, .int b1, .ref 30]) (st := []) (av := [.int b1, .int me]) hM_9 (by decide +kernel) u1_9 rfl rfl rfl (by decide) hrun r2 r3 ?_
    rw [r1_9]
    have F2 : ly_fr cst [] h0 r_9.2.1 := ly_fr_tr u2_9 rfr
    cases eb : bv (fun i_9 => btq_b me i_9)
    · rw [eb] at ew
      exact lk92 c' hM_9 (by omega) rhy c me.toInt cl (m : Int) w_9 ew a2 (by omega) me.le_toInt me.toInt_le (by omega) a4 (by omega) (by omega) (by omega) (F2 _ _ _ rfl a1_9) (F2 _ _ _ rfl kn) p0_9 p1_9 p2_9 (fun l5 h5 y1 y2 y3 q0 q1_9 q2_9 q3_9 q4_9 => lk_lp cc hM_9 hD I H eb m h5 l5 0 (by omega) rfl y1 (ly_fr_tr F2 y2) q0 q1_9 q2_9 q3_9 q4_9)
    · rw [eb] at ew
      exact lk91 c' hM_9 (by omega) rhy c me.toInt w_9 ew a2 (by omega) me.le_toInt me.toInt_le p0_9 p1_9 p2_9 (fun h5 v_9 hv y1 y2 y3 => ⟨v_9, rfl, rfl, rfl, y1, ly_fr_tr F2 y2, by
        rw [hv]
        unfold lcks
        rw [if_pos eb]⟩)
  obtain ⟨n', r_9, hgo, w_9, r1_9, r2, r3, r4⟩ := go_9
  simp only [Nat.zero_add] at r2 r3
  exact ⟨r_9, Or.inr ⟨M_9, n', hM_9, hl, hgo⟩, w_9, r1_9, r2, r3, r4⟩
