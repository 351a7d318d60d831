/-! PRINTED by wip/p2/hp_hold.py: the clause in force, of the class -/
theorem ai0_k : hp_chk 115 0 4 [(0, 0, 14), (1, (-9223372036854775808), 9223372036854775807), (2, (-2147483648), 2147483647), (3, (-2147483648), 2147483647)] [] [(0, .inr (.inr (.inl (some 30)))), (1, .inl (0, [(0, 1)])), (2, .inr (.inl (0, [(1, 1)]))), (4, .inl (0, [(2, 1)])), (5, .inl (0, [(3, 1)]))] [] [] [] 2 [(7, ([], 4, [(0, 0, 14), (1, (-9223372036854775808), 9223372036854775807), (2, (-2147483648), 2147483647), (3, (-2147483648), 2147483647)], [], [(0, .inr (.inr (.inl (some 30)))), (1, .inl (0, [(0, 1)])), (2, .inr (.inl (0, [(1, 1)]))), (4, .inl (0, [(2, 1)])), (5, .inl (0, [(3, 1)]))], [.inl (0, [(3, 1)]), .inl (0, [(2, 1)]), .inr (.inl (0, [(1, 1)])), .inl (0, [(0, 1)]), .inr (.inr (.inl (some 30)))], []))] [] = true := by decide +kernel
theorem ai0 {cst : am_K} {strs : List Nat} {Φ : am_Q → Prop} {D : Nat} {M : am_M} {h : am_H} {l : am_L} (c : hp_C cst strs D) (hM : m_P[115]? = some M) (hD : (2 : Int) ≤ (D : Int) + 1) (hy : ly_hy m_tt ly_TH h) (k d y s : Int) (b0 : 0 ≤ k) (t0 : k ≤ 14) (b1 : (-9223372036854775808) ≤ d) (t1 : d ≤ 9223372036854775807) (b2 : (-2147483648) ≤ y) (t2 : y ≤ 2147483647) (b3 : (-2147483648) ≤ s) (t3 : s ≤ 2147483647) (l0 : hp_a l 0 30) (l1 : hp_i l 1 (k)) (l2 : hp_j l 2 (d)) (l4 : hp_i l 4 (y)) (l5 : hp_i l 5 (s)) (e0 : ∀ (l' : am_L) (h' : am_H) (y0 : Int32) (y1 : Int32) (y2 : Int64) (y3 : Int32), y0.toInt = (s) → y1.toInt = (y) → y2.toInt = (d) → y3.toInt = (k) → ly_hy m_tt ly_TH h' → ly_fr cst [] h h' → h.length ≤ h'.length → hp_a l' 0 30 → hp_i l' 1 (k) → hp_j l' 2 (d) → hp_i l' 4 (y) → hp_i l' 5 (s) → hp_F cst strs Φ D M 7 l' [.int y0, .int y1, .long y2, .int y3, .ref 30] h') : hp_F cst strs Φ D M 0 l [] h := by
  refine hp_arc c hM ai0_k hD [k, d, y, s] rfl hy (hp_Bc (z := k) rfl b0 t0 (hp_Bc (z := d) rfl b1 t1 (hp_Bc (z := y) rfl b2 t2 (hp_Bc (z := s) rfl b3 t3 hp_Bn)))) hp_Fn hp_Kn (hp_La l0 (hp_Li (z := (0 + (1 * k + 0))) l1 rfl (by omega) (hp_Lj (z := (0 + (1 * d + 0))) l2 rfl (by omega) (hp_Li (z := (0 + (1 * y + 0))) l4 rfl (by omega) (hp_Li (z := (0 + (1 * s + 0))) l5 rfl (by omega) hp_Ln))))) trivial ?_ ?_
  · intro p_9 hp ys l' st' h' hys a1_9 a2 a3 gZ gL gS
    rcases List.mem_cons.mp hp with rfl | hp
    · obtain rfl := hp_y0 hys
      obtain ⟨y0, t0, rfl, q0, g0⟩ := hp_gSi (z := (0 + (1 * s + 0))) gS rfl
      obtain ⟨y1, t1, rfl, q1_9, g1⟩ := hp_gSi (z := (0 + (1 * y + 0))) g0 rfl
      obtain ⟨y2, t2, rfl, q2_9, g2⟩ := hp_gSj (z := (0 + (1 * d + 0))) g1 rfl
      obtain ⟨y3, t3, rfl, q3_9, g3_9⟩ := hp_gSi (z := (0 + (1 * k + 0))) g2 rfl
      obtain ⟨t4_9, rfl, g4⟩ := hp_gSa g3_9 (by decide)
      cases hp_gSn g4
      exact e0 l' h' y0 y1 y2 y3 (by omega) (by omega) (by omega) (by omega) a1_9 a2 a3 (hp_gLa gL (List.mem_of_getElem? (i := 0) rfl) (by decide)) (hp_gLi (z := (0 + (1 * k + 0))) gL (List.mem_of_getElem? (i := 1) rfl) rfl (by omega)) (hp_gLj (z := (0 + (1 * d + 0))) gL (List.mem_of_getElem? (i := 2) rfl) rfl (by omega)) (hp_gLi (z := (0 + (1 * y + 0))) gL (List.mem_of_getElem? (i := 3) rfl) rfl (by omega)) (hp_gLi (z := (0 + (1 * s + 0))) gL (List.mem_of_getElem? (i := 4) rfl) rfl (by omega))
    cases hp
  · intro p_9 hp ys v_9 h' hys a1_9 a2 a3 gZ gS
    cases hp
theorem nf0_k : hp_chk 52 0 4 [(0, 0, 14), (1, (-9223372036854775808), 9223372036854775807), (2, (-2147483648), 2147483647), (3, (-2147483648), 2147483647)] [] [(0, .inr (.inr (.inl (some 30)))), (1, .inl (0, [(0, 1)])), (2, .inr (.inl (0, [(1, 1)]))), (4, .inl (0, [(2, 1)])), (5, .inl (0, [(3, 1)]))] [] [] [] 2 [(7, ([], 4, [(0, 0, 14), (1, (-9223372036854775808), 9223372036854775807), (2, (-2147483648), 2147483647), (3, (-2147483648), 2147483647)], [], [(0, .inr (.inr (.inl (some 30)))), (1, .inl (0, [(0, 1)])), (2, .inr (.inl (0, [(1, 1)]))), (4, .inl (0, [(2, 1)])), (5, .inl (0, [(3, 1)]))], [.inl (0, [(3, 1)]), .inl (0, [(2, 1)]), .inr (.inl (0, [(1, 1)])), .inl (0, [(0, 1)]), .inr (.inr (.inl (some 30)))], []))] [] = true := by decide +kernel
theorem nf0 {cst : am_K} {strs : List Nat} {Φ : am_Q → Prop} {D : Nat} {M : am_M} {h : am_H} {l : am_L} (c : hp_C cst strs D) (hM : m_P[52]? = some M) (hD : (2 : Int) ≤ (D : Int) + 1) (hy : ly_hy m_tt ly_TH h) (k d y s : Int) (b0 : 0 ≤ k) (t0 : k ≤ 14) (b1 : (-9223372036854775808) ≤ d) (t1 : d ≤ 9223372036854775807) (b2 : (-2147483648) ≤ y) (t2 : y ≤ 2147483647) (b3 : (-2147483648) ≤ s) (t3 : s ≤ 2147483647) (l0 : hp_a l 0 30) (l1 : hp_i l 1 (k)) (l2 : hp_j l 2 (d)) (l4 : hp_i l 4 (y)) (l5 : hp_i l 5 (s)) (e0 : ∀ (l' : am_L) (h' : am_H) (y0 : Int32) (y1 : Int32) (y2 : Int64) (y3 : Int32), y0.toInt = (s) → y1.toInt = (y) → y2.toInt = (d) → y3.toInt = (k) → ly_hy m_tt ly_TH h' → ly_fr cst [] h h' → h.length ≤ h'.length → hp_a l' 0 30 → hp_i l' 1 (k) → hp_j l' 2 (d) → hp_i l' 4 (y) → hp_i l' 5 (s) → hp_F cst strs Φ D M 7 l' [.int y0, .int y1, .long y2, .int y3, .ref 30] h') : hp_F cst strs Φ D M 0 l [] h := by
  refine hp_arc c hM nf0_k hD [k, d, y, s] rfl hy (hp_Bc (z := k) rfl b0 t0 (hp_Bc (z := d) rfl b1 t1 (hp_Bc (z := y) rfl b2 t2 (hp_Bc (z := s) rfl b3 t3 hp_Bn)))) hp_Fn hp_Kn (hp_La l0 (hp_Li (z := (0 + (1 * k + 0))) l1 rfl (by omega) (hp_Lj (z := (0 + (1 * d + 0))) l2 rfl (by omega) (hp_Li (z := (0 + (1 * y + 0))) l4 rfl (by omega) (hp_Li (z := (0 + (1 * s + 0))) l5 rfl (by omega) hp_Ln))))) trivial ?_ ?_
  · intro p_9 hp ys l' st' h' hys a1_9 a2 a3 gZ gL gS
    rcases List.mem_cons.mp hp with rfl | hp
    · obtain rfl := hp_y0 hys
      obtain ⟨y0, t0, rfl, q0, g0⟩ := hp_gSi (z := (0 + (1 * s + 0))) gS rfl
      obtain ⟨y1, t1, rfl, q1_9, g1⟩ := hp_gSi (z := (0 + (1 * y + 0))) g0 rfl
      obtain ⟨y2, t2, rfl, q2_9, g2⟩ := hp_gSj (z := (0 + (1 * d + 0))) g1 rfl
      obtain ⟨y3, t3, rfl, q3_9, g3_9⟩ := hp_gSi (z := (0 + (1 * k + 0))) g2 rfl
      obtain ⟨t4_9, rfl, g4⟩ := hp_gSa g3_9 (by decide)
      cases hp_gSn g4
      exact e0 l' h' y0 y1 y2 y3 (by omega) (by omega) (by omega) (by omega) a1_9 a2 a3 (hp_gLa gL (List.mem_of_getElem? (i := 0) rfl) (by decide)) (hp_gLi (z := (0 + (1 * k + 0))) gL (List.mem_of_getElem? (i := 1) rfl) rfl (by omega)) (hp_gLj (z := (0 + (1 * d + 0))) gL (List.mem_of_getElem? (i := 2) rfl) rfl (by omega)) (hp_gLi (z := (0 + (1 * y + 0))) gL (List.mem_of_getElem? (i := 3) rfl) rfl (by omega)) (hp_gLi (z := (0 + (1 * s + 0))) gL (List.mem_of_getElem? (i := 4) rfl) rfl (by omega))
    cases hp
  · intro p_9 hp ys v_9 h' hys a1_9 a2 a3 gZ gS
    cases hp
theorem ai1_k : hp_chk 115 10 4 [(0, 0, 14), (1, (-9223372036854775808), 9223372036854775807), (2, (-2147483648), 2147483647), (3, (-2147483648), 2147483647)] [] [(0, .inr (.inr (.inl (some 30)))), (1, .inl (0, [(0, 1)])), (2, .inr (.inl (0, [(1, 1)]))), (4, .inl (0, [(2, 1)])), (5, .inl (0, [(3, 1)]))] [.inl ((-1), [])] [] [] 2 [] [([], 4, [(0, 0, 14), (1, (-9223372036854775808), 9223372036854775807), (2, (-2147483648), 2147483647), (3, (-2147483648), 2147483647)], [], [], [.inl ((-1), [])], [])] = true := by decide +kernel
theorem ai1 {cst : am_K} {strs : List Nat} {Φ : am_Q → Prop} {D : Nat} {M : am_M} {h : am_H} {l : am_L} (c : hp_C cst strs D) (hM : m_P[115]? = some M) (hD : (2 : Int) ≤ (D : Int) + 1) (hy : ly_hy m_tt ly_TH h) (k d y s : Int) (x0 : Int32) (hx0 : x0.toInt = (-1)) (b0 : 0 ≤ k) (t0 : k ≤ 14) (b1 : (-9223372036854775808) ≤ d) (t1 : d ≤ 9223372036854775807) (b2 : (-2147483648) ≤ y) (t2 : y ≤ 2147483647) (b3 : (-2147483648) ≤ s) (t3 : s ≤ 2147483647) (l0 : hp_a l 0 30) (l1 : hp_i l 1 (k)) (l2 : hp_j l 2 (d)) (l4 : hp_i l 4 (y)) (l5 : hp_i l 5 (s)) (r0 : ∀ (h' : am_H) (y0 : Int32), y0.toInt = (-1) → ly_hy m_tt ly_TH h' → ly_fr cst [] h h' → h.length ≤ h'.length → Φ (some (.int y0), h', 0, 0)) : hp_F cst strs Φ D M 10 l [.int x0] h := by
  refine hp_arc c hM ai1_k hD [k, d, y, s] rfl hy (hp_Bc (z := k) rfl b0 t0 (hp_Bc (z := d) rfl b1 t1 (hp_Bc (z := y) rfl b2 t2 (hp_Bc (z := s) rfl b3 t3 hp_Bn)))) hp_Fn hp_Kn (hp_La l0 (hp_Li (z := (0 + (1 * k + 0))) l1 rfl (by omega) (hp_Lj (z := (0 + (1 * d + 0))) l2 rfl (by omega) (hp_Li (z := (0 + (1 * y + 0))) l4 rfl (by omega) (hp_Li (z := (0 + (1 * s + 0))) l5 rfl (by omega) hp_Ln))))) (hp_Si (z := ((-1) + 0)) rfl (by omega) trivial) ?_ ?_
  · intro p_9 hp ys l' st' h' hys a1_9 a2 a3 gZ gL gS
    cases hp
  · intro p_9 hp ys v_9 h' hys a1_9 a2 a3 gZ gS
    rcases List.mem_cons.mp hp with rfl | hp
    · obtain rfl := hp_y0 hys
      cases v_9 with
      | none => cases gS
      | some wz =>
        obtain ⟨y0, t0, s0_9, q0, -⟩ := hp_gSi (z := ((-1) + 0)) gS rfl
        cases s0_9
        exact r0 h' y0 (by omega) a1_9 a2 a3
    cases hp
theorem ai2_k : hp_chk 115 10 6 [(0, 0, 14), (1, (-9223372036854775808), 9223372036854775807), (2, (-2147483648), 2147483647), (3, (-2147483648), 2147483647), (4, 0, 1239), (5, 0, 30)] [] [(0, .inr (.inr (.inl (some 30)))), (1, .inl (0, [(0, 1)])), (2, .inr (.inl (0, [(1, 1)]))), (4, .inl (0, [(2, 1)])), (5, .inl (0, [(3, 1)]))] [.inl (0, [(4, 1)])] [(5376, (0, [(4, 1)]), (0, [(5, 1)]))] [] 2 [] [([], 6, [(0, 0, 14), (1, (-9223372036854775808), 9223372036854775807), (2, (-2147483648), 2147483647), (3, (-2147483648), 2147483647), (4, 0, 1239), (5, 0, 30)], [], [], [.inl (0, [(5, 1)])], [])] = true := by decide +kernel
theorem ai2 {cst : am_K} {strs : List Nat} {Φ : am_Q → Prop} {D : Nat} {M : am_M} {h : am_H} {l : am_L} (c : hp_C cst strs D) (hM : m_P[115]? = some M) (hD : (2 : Int) ≤ (D : Int) + 1) (hy : ly_hy m_tt ly_TH h) (k d y s w o : Int) (x0 : Int32) (hx0 : x0.toInt = (w)) (b0 : 0 ≤ k) (t0 : k ≤ 14) (b1 : (-9223372036854775808) ≤ d) (t1 : d ≤ 9223372036854775807) (b2 : (-2147483648) ≤ y) (t2 : y ≤ 2147483647) (b3 : (-2147483648) ≤ s) (t3 : s ≤ 2147483647) (b4 : 0 ≤ w) (t4 : w ≤ 1239) (b5 : 0 ≤ o) (t5 : o ≤ 30) (k0 : ly_hv cst h 5376 (w) = some (o)) (l0 : hp_a l 0 30) (l1 : hp_i l 1 (k)) (l2 : hp_j l 2 (d)) (l4 : hp_i l 4 (y)) (l5 : hp_i l 5 (s)) (r0 : ∀ (h' : am_H) (y0 : Int32), y0.toInt = (o) → ly_hy m_tt ly_TH h' → ly_fr cst [] h h' → h.length ≤ h'.length → Φ (some (.int y0), h', 0, 0)) : hp_F cst strs Φ D M 10 l [.int x0] h := by
  refine hp_arc c hM ai2_k hD [k, d, y, s, w, o] rfl hy (hp_Bc (z := k) rfl b0 t0 (hp_Bc (z := d) rfl b1 t1 (hp_Bc (z := y) rfl b2 t2 (hp_Bc (z := s) rfl b3 t3 (hp_Bc (z := w) rfl b4 t4 (hp_Bc (z := o) rfl b5 t5 hp_Bn)))))) hp_Fn (hp_Kc (zi := (0 + (1 * w + 0))) (zv := (0 + (1 * o + 0))) k0 rfl rfl (by omega) (by omega) hp_Kn) (hp_La l0 (hp_Li (z := (0 + (1 * k + 0))) l1 rfl (by omega) (hp_Lj (z := (0 + (1 * d + 0))) l2 rfl (by omega) (hp_Li (z := (0 + (1 * y + 0))) l4 rfl (by omega) (hp_Li (z := (0 + (1 * s + 0))) l5 rfl (by omega) hp_Ln))))) (hp_Si (z := (0 + (1 * w + 0))) rfl (by omega) trivial) ?_ ?_
  · intro p_9 hp ys l' st' h' hys a1_9 a2 a3 gZ gL gS
    cases hp
  · intro p_9 hp ys v_9 h' hys a1_9 a2 a3 gZ gS
    rcases List.mem_cons.mp hp with rfl | hp
    · obtain rfl := hp_y0 hys
      cases v_9 with
      | none => cases gS
      | some wz =>
        obtain ⟨y0, t0, s0_9, q0, -⟩ := hp_gSi (z := (0 + (1 * o + 0))) gS rfl
        cases s0_9
        exact r0 h' y0 (by omega) a1_9 a2 a3
    cases hp
theorem nf2_k : hp_chk 52 10 6 [(0, 0, 14), (1, (-9223372036854775808), 9223372036854775807), (2, (-2147483648), 2147483647), (3, (-2147483648), 2147483647), (4, 0, 1239), (5, (-2147483648), 2147483647)] [] [(0, .inr (.inr (.inl (some 30)))), (1, .inl (0, [(0, 1)])), (2, .inr (.inl (0, [(1, 1)]))), (4, .inl (0, [(2, 1)])), (5, .inl (0, [(3, 1)]))] [.inl (0, [(4, 1)])] [(5120, (0, [(4, 1)]), (0, [(5, 1)]))] [] 2 [] [([], 6, [(0, 0, 14), (1, (-9223372036854775808), 9223372036854775807), (2, (-2147483648), 2147483647), (3, (-2147483648), 2147483647), (4, 0, 1239), (5, (-2147483648), 2147483647)], [], [], [.inl (0, [(5, 1)])], [])] = true := by decide +kernel
theorem nf2 {cst : am_K} {strs : List Nat} {Φ : am_Q → Prop} {D : Nat} {M : am_M} {h : am_H} {l : am_L} (c : hp_C cst strs D) (hM : m_P[52]? = some M) (hD : (2 : Int) ≤ (D : Int) + 1) (hy : ly_hy m_tt ly_TH h) (k d y s w v : Int) (x0 : Int32) (hx0 : x0.toInt = (w)) (b0 : 0 ≤ k) (t0 : k ≤ 14) (b1 : (-9223372036854775808) ≤ d) (t1 : d ≤ 9223372036854775807) (b2 : (-2147483648) ≤ y) (t2 : y ≤ 2147483647) (b3 : (-2147483648) ≤ s) (t3 : s ≤ 2147483647) (b4 : 0 ≤ w) (t4 : w ≤ 1239) (b5 : (-2147483648) ≤ v) (t5 : v ≤ 2147483647) (k0 : ly_hv cst h 5120 (w) = some (v)) (l0 : hp_a l 0 30) (l1 : hp_i l 1 (k)) (l2 : hp_j l 2 (d)) (l4 : hp_i l 4 (y)) (l5 : hp_i l 5 (s)) (r0 : ∀ (h' : am_H) (y0 : Int32), y0.toInt = (v) → ly_hy m_tt ly_TH h' → ly_fr cst [] h h' → h.length ≤ h'.length → Φ (some (.int y0), h', 0, 0)) : hp_F cst strs Φ D M 10 l [.int x0] h := by
  refine hp_arc c hM nf2_k hD [k, d, y, s, w, v] rfl hy (hp_Bc (z := k) rfl b0 t0 (hp_Bc (z := d) rfl b1 t1 (hp_Bc (z := y) rfl b2 t2 (hp_Bc (z := s) rfl b3 t3 (hp_Bc (z := w) rfl b4 t4 (hp_Bc (z := v) rfl b5 t5 hp_Bn)))))) hp_Fn (hp_Kc (zi := (0 + (1 * w + 0))) (zv := (0 + (1 * v + 0))) k0 rfl rfl (by omega) (by omega) hp_Kn) (hp_La l0 (hp_Li (z := (0 + (1 * k + 0))) l1 rfl (by omega) (hp_Lj (z := (0 + (1 * d + 0))) l2 rfl (by omega) (hp_Li (z := (0 + (1 * y + 0))) l4 rfl (by omega) (hp_Li (z := (0 + (1 * s + 0))) l5 rfl (by omega) hp_Ln))))) (hp_Si (z := (0 + (1 * w + 0))) rfl (by omega) trivial) ?_ ?_
  · intro p_9 hp ys l' st' h' hys a1_9 a2 a3 gZ gL gS
    cases hp
  · intro p_9 hp ys v h' hys a1_9 a2 a3 gZ gS
    rcases List.mem_cons.mp hp with rfl | hp
    · obtain rfl := hp_y0 hys
      cases v with
      | none => cases gS
      | some wz =>
        obtain ⟨y0, t0, s0_9, q0, -⟩ := hp_gSi (z := (0 + (1 * v + 0))) gS rfl
        cases s0_9
        exact r0 h' y0 (by omega) a1_9 a2 a3
    cases hp
theorem nfK0_k : hp_chk 52 10 3 [(0, (-9223372036854775808), 9223372036854775807), (1, (-2147483648), 2147483647), (2, (-2147483648), 2147483647)] [] [(0, .inr (.inr (.inl (some 30)))), (1, .inl (0, [])), (2, .inr (.inl (0, [(0, 1)]))), (4, .inl (0, [(1, 1)])), (5, .inl (0, [(2, 1)]))] [.inl ((-1), [])] [] [] 2 [] [([], 3, [(0, (-9223372036854775808), 9223372036854775807), (1, (-2147483648), 2147483647), (2, (-2147483648), 2147483647)], [], [], [.inl ((-1), [])], [])] = true := by decide +kernel
theorem nfK0 {cst : am_K} {strs : List Nat} {Φ : am_Q → Prop} {D : Nat} {M : am_M} {h : am_H} {l : am_L} (c : hp_C cst strs D) (hM : m_P[52]? = some M) (hD : (2 : Int) ≤ (D : Int) + 1) (hy : ly_hy m_tt ly_TH h) (d y s : Int) (x0 : Int32) (hx0 : x0.toInt = (-1)) (b0 : (-9223372036854775808) ≤ d) (t0 : d ≤ 9223372036854775807) (b1 : (-2147483648) ≤ y) (t1 : y ≤ 2147483647) (b2 : (-2147483648) ≤ s) (t2 : s ≤ 2147483647) (l0 : hp_a l 0 30) (l1 : hp_i l 1 0) (l2 : hp_j l 2 (d)) (l4 : hp_i l 4 (y)) (l5 : hp_i l 5 (s)) (r0 : ∀ (h' : am_H) (y0 : Int32), y0.toInt = (-1) → ly_hy m_tt ly_TH h' → ly_fr cst [] h h' → h.length ≤ h'.length → Φ (some (.int y0), h', 0, 0)) : hp_F cst strs Φ D M 10 l [.int x0] h := by
  refine hp_arc c hM nfK0_k hD [d, y, s] rfl hy (hp_Bc (z := d) rfl b0 t0 (hp_Bc (z := y) rfl b1 t1 (hp_Bc (z := s) rfl b2 t2 hp_Bn))) hp_Fn hp_Kn (hp_La l0 (hp_Li (z := (0 + 0)) l1 rfl (by omega) (hp_Lj (z := (0 + (1 * d + 0))) l2 rfl (by omega) (hp_Li (z := (0 + (1 * y + 0))) l4 rfl (by omega) (hp_Li (z := (0 + (1 * s + 0))) l5 rfl (by omega) hp_Ln))))) (hp_Si (z := ((-1) + 0)) rfl (by omega) trivial) ?_ ?_
  · intro p_9 hp ys l' st' h' hys a1_9 a2 a3 gZ gL gS
    cases hp
  · intro p_9 hp ys v_9 h' hys a1_9 a2 a3 gZ gS
    rcases List.mem_cons.mp hp with rfl | hp
    · obtain rfl := hp_y0 hys
      cases v_9 with
      | none => cases gS
      | some wz =>
        obtain ⟨y0, t0, s0_9, q0, -⟩ := hp_gSi (z := ((-1) + 0)) gS rfl
        cases s0_9
        exact r0 h' y0 (by omega) a1_9 a2 a3
    cases hp
theorem nfK1_k : hp_chk 52 10 3 [(0, (-9223372036854775808), 9223372036854775807), (1, (-2147483648), 2147483647), (2, (-2147483648), 2147483647)] [] [(0, .inr (.inr (.inl (some 30)))), (1, .inl (1, [])), (2, .inr (.inl (0, [(0, 1)]))), (4, .inl (0, [(1, 1)])), (5, .inl (0, [(2, 1)]))] [.inl ((-1), [])] [] [] 2 [] [([], 3, [(0, (-9223372036854775808), 9223372036854775807), (1, (-2147483648), 2147483647), (2, (-2147483648), 2147483647)], [], [], [.inl (0, [])], [])] = true := by decide +kernel
theorem nfK1 {cst : am_K} {strs : List Nat} {Φ : am_Q → Prop} {D : Nat} {M : am_M} {h : am_H} {l : am_L} (c : hp_C cst strs D) (hM : m_P[52]? = some M) (hD : (2 : Int) ≤ (D : Int) + 1) (hy : ly_hy m_tt ly_TH h) (d y s : Int) (x0 : Int32) (hx0 : x0.toInt = (-1)) (b0 : (-9223372036854775808) ≤ d) (t0 : d ≤ 9223372036854775807) (b1 : (-2147483648) ≤ y) (t1 : y ≤ 2147483647) (b2 : (-2147483648) ≤ s) (t2 : s ≤ 2147483647) (l0 : hp_a l 0 30) (l1 : hp_i l 1 1) (l2 : hp_j l 2 (d)) (l4 : hp_i l 4 (y)) (l5 : hp_i l 5 (s)) (r0 : ∀ (h' : am_H) (y0 : Int32), y0.toInt = 0 → ly_hy m_tt ly_TH h' → ly_fr cst [] h h' → h.length ≤ h'.length → Φ (some (.int y0), h', 0, 0)) : hp_F cst strs Φ D M 10 l [.int x0] h := by
  refine hp_arc c hM nfK1_k hD [d, y, s] rfl hy (hp_Bc (z := d) rfl b0 t0 (hp_Bc (z := y) rfl b1 t1 (hp_Bc (z := s) rfl b2 t2 hp_Bn))) hp_Fn hp_Kn (hp_La l0 (hp_Li (z := (1 + 0)) l1 rfl (by omega) (hp_Lj (z := (0 + (1 * d + 0))) l2 rfl (by omega) (hp_Li (z := (0 + (1 * y + 0))) l4 rfl (by omega) (hp_Li (z := (0 + (1 * s + 0))) l5 rfl (by omega) hp_Ln))))) (hp_Si (z := ((-1) + 0)) rfl (by omega) trivial) ?_ ?_
  · intro p_9 hp ys l' st' h' hys a1_9 a2 a3 gZ gL gS
    cases hp
  · intro p_9 hp ys v_9 h' hys a1_9 a2 a3 gZ gS
    rcases List.mem_cons.mp hp with rfl | hp
    · obtain rfl := hp_y0 hys
      cases v_9 with
      | none => cases gS
      | some wz =>
        obtain ⟨y0, t0, s0_9, q0, -⟩ := hp_gSi (z := (0 + 0)) gS rfl
        cases s0_9
        exact r0 h' y0 (by omega) a1_9 a2 a3
    cases hp
theorem nfK2_k : hp_chk 52 10 3 [(0, (-9223372036854775808), 9223372036854775807), (1, (-2147483648), 2147483647), (2, (-2147483648), 2147483647)] [] [(0, .inr (.inr (.inl (some 30)))), (1, .inl (2, [])), (2, .inr (.inl (0, [(0, 1)]))), (4, .inl (0, [(1, 1)])), (5, .inl (0, [(2, 1)]))] [.inl ((-1), [])] [] [] 2 [] [([], 3, [(0, (-9223372036854775808), 9223372036854775807), (1, (-2147483648), 2147483647), (2, (-2147483648), 2147483647)], [], [], [.inl (0, [])], [])] = true := by decide +kernel
theorem nfK2 {cst : am_K} {strs : List Nat} {Φ : am_Q → Prop} {D : Nat} {M : am_M} {h : am_H} {l : am_L} (c : hp_C cst strs D) (hM : m_P[52]? = some M) (hD : (2 : Int) ≤ (D : Int) + 1) (hy : ly_hy m_tt ly_TH h) (d y s : Int) (x0 : Int32) (hx0 : x0.toInt = (-1)) (b0 : (-9223372036854775808) ≤ d) (t0 : d ≤ 9223372036854775807) (b1 : (-2147483648) ≤ y) (t1 : y ≤ 2147483647) (b2 : (-2147483648) ≤ s) (t2 : s ≤ 2147483647) (l0 : hp_a l 0 30) (l1 : hp_i l 1 2) (l2 : hp_j l 2 (d)) (l4 : hp_i l 4 (y)) (l5 : hp_i l 5 (s)) (r0 : ∀ (h' : am_H) (y0 : Int32), y0.toInt = 0 → ly_hy m_tt ly_TH h' → ly_fr cst [] h h' → h.length ≤ h'.length → Φ (some (.int y0), h', 0, 0)) : hp_F cst strs Φ D M 10 l [.int x0] h := by
  refine hp_arc c hM nfK2_k hD [d, y, s] rfl hy (hp_Bc (z := d) rfl b0 t0 (hp_Bc (z := y) rfl b1 t1 (hp_Bc (z := s) rfl b2 t2 hp_Bn))) hp_Fn hp_Kn (hp_La l0 (hp_Li (z := (2 + 0)) l1 rfl (by omega) (hp_Lj (z := (0 + (1 * d + 0))) l2 rfl (by omega) (hp_Li (z := (0 + (1 * y + 0))) l4 rfl (by omega) (hp_Li (z := (0 + (1 * s + 0))) l5 rfl (by omega) hp_Ln))))) (hp_Si (z := ((-1) + 0)) rfl (by omega) trivial) ?_ ?_
  · intro p_9 hp ys l' st' h' hys a1_9 a2 a3 gZ gL gS
    cases hp
  · intro p_9 hp ys v_9 h' hys a1_9 a2 a3 gZ gS
    rcases List.mem_cons.mp hp with rfl | hp
    · obtain rfl := hp_y0 hys
      cases v_9 with
      | none => cases gS
      | some wz =>
        obtain ⟨y0, t0, s0_9, q0, -⟩ := hp_gSi (z := (0 + 0)) gS rfl
        cases s0_9
        exact r0 h' y0 (by omega) a1_9 a2 a3
    cases hp
theorem nfK3_k : hp_chk 52 10 3 [(0, (-9223372036854775808), 9223372036854775807), (1, (-2147483648), 2147483647), (2, (-2147483648), 2147483647)] [] [(0, .inr (.inr (.inl (some 30)))), (1, .inl (3, [])), (2, .inr (.inl (0, [(0, 1)]))), (4, .inl (0, [(1, 1)])), (5, .inl (0, [(2, 1)]))] [.inl ((-1), [])] [] [] 2 [] [([], 3, [(0, (-9223372036854775808), 9223372036854775807), (1, (-2147483648), 2147483647), (2, (-2147483648), 2147483647)], [], [], [.inl (0, [])], [])] = true := by decide +kernel
theorem nfK3 {cst : am_K} {strs : List Nat} {Φ : am_Q → Prop} {D : Nat} {M : am_M} {h : am_H} {l : am_L} (c : hp_C cst strs D) (hM : m_P[52]? = some M) (hD : (2 : Int) ≤ (D : Int) + 1) (hy : ly_hy m_tt ly_TH h) (d y s : Int) (x0 : Int32) (hx0 : x0.toInt = (-1)) (b0 : (-9223372036854775808) ≤ d) (t0 : d ≤ 9223372036854775807) (b1 : (-2147483648) ≤ y) (t1 : y ≤ 2147483647) (b2 : (-2147483648) ≤ s) (t2 : s ≤ 2147483647) (l0 : hp_a l 0 30) (l1 : hp_i l 1 3) (l2 : hp_j l 2 (d)) (l4 : hp_i l 4 (y)) (l5 : hp_i l 5 (s)) (r0 : ∀ (h' : am_H) (y0 : Int32), y0.toInt = 0 → ly_hy m_tt ly_TH h' → ly_fr cst [] h h' → h.length ≤ h'.length → Φ (some (.int y0), h', 0, 0)) : hp_F cst strs Φ D M 10 l [.int x0] h := by
  refine hp_arc c hM nfK3_k hD [d, y, s] rfl hy (hp_Bc (z := d) rfl b0 t0 (hp_Bc (z := y) rfl b1 t1 (hp_Bc (z := s) rfl b2 t2 hp_Bn))) hp_Fn hp_Kn (hp_La l0 (hp_Li (z := (3 + 0)) l1 rfl (by omega) (hp_Lj (z := (0 + (1 * d + 0))) l2 rfl (by omega) (hp_Li (z := (0 + (1 * y + 0))) l4 rfl (by omega) (hp_Li (z := (0 + (1 * s + 0))) l5 rfl (by omega) hp_Ln))))) (hp_Si (z := ((-1) + 0)) rfl (by omega) trivial) ?_ ?_
  · intro p_9 hp ys l' st' h' hys a1_9 a2 a3 gZ gL gS
    cases hp
  · intro p_9 hp ys v_9 h' hys a1_9 a2 a3 gZ gS
    rcases List.mem_cons.mp hp with rfl | hp
    · obtain rfl := hp_y0 hys
      cases v_9 with
      | none => cases gS
      | some wz =>
        obtain ⟨y0, t0, s0_9, q0, -⟩ := hp_gSi (z := (0 + 0)) gS rfl
        cases s0_9
        exact r0 h' y0 (by omega) a1_9 a2 a3
    cases hp
theorem nfK4_k : hp_chk 52 10 3 [(0, (-9223372036854775808), 9223372036854775807), (1, (-2147483648), 2147483647), (2, (-2147483648), 2147483647)] [] [(0, .inr (.inr (.inl (some 30)))), (1, .inl (4, [])), (2, .inr (.inl (0, [(0, 1)]))), (4, .inl (0, [(1, 1)])), (5, .inl (0, [(2, 1)]))] [.inl ((-1), [])] [] [] 2 [] [([], 3, [(0, (-9223372036854775808), 9223372036854775807), (1, (-2147483648), 2147483647), (2, (-2147483648), 2147483647)], [], [], [.inl (0, [])], [])] = true := by decide +kernel
theorem nfK4 {cst : am_K} {strs : List Nat} {Φ : am_Q → Prop} {D : Nat} {M : am_M} {h : am_H} {l : am_L} (c : hp_C cst strs D) (hM : m_P[52]? = some M) (hD : (2 : Int) ≤ (D : Int) + 1) (hy : ly_hy m_tt ly_TH h) (d y s : Int) (x0 : Int32) (hx0 : x0.toInt = (-1)) (b0 : (-9223372036854775808) ≤ d) (t0 : d ≤ 9223372036854775807) (b1 : (-2147483648) ≤ y) (t1 : y ≤ 2147483647) (b2 : (-2147483648) ≤ s) (t2 : s ≤ 2147483647) (l0 : hp_a l 0 30) (l1 : hp_i l 1 4) (l2 : hp_j l 2 (d)) (l4 : hp_i l 4 (y)) (l5 : hp_i l 5 (s)) (r0 : ∀ (h' : am_H) (y0 : Int32), y0.toInt = 0 → ly_hy m_tt ly_TH h' → ly_fr cst [] h h' → h.length ≤ h'.length → Φ (some (.int y0), h', 0, 0)) : hp_F cst strs Φ D M 10 l [.int x0] h := by
  refine hp_arc c hM nfK4_k hD [d, y, s] rfl hy (hp_Bc (z := d) rfl b0 t0 (hp_Bc (z := y) rfl b1 t1 (hp_Bc (z := s) rfl b2 t2 hp_Bn))) hp_Fn hp_Kn (hp_La l0 (hp_Li (z := (4 + 0)) l1 rfl (by omega) (hp_Lj (z := (0 + (1 * d + 0))) l2 rfl (by omega) (hp_Li (z := (0 + (1 * y + 0))) l4 rfl (by omega) (hp_Li (z := (0 + (1 * s + 0))) l5 rfl (by omega) hp_Ln))))) (hp_Si (z := ((-1) + 0)) rfl (by omega) trivial) ?_ ?_
  · intro p_9 hp ys l' st' h' hys a1_9 a2 a3 gZ gL gS
    cases hp
  · intro p_9 hp ys v_9 h' hys a1_9 a2 a3 gZ gS
    rcases List.mem_cons.mp hp with rfl | hp
    · obtain rfl := hp_y0 hys
      cases v_9 with
      | none => cases gS
      | some wz =>
        obtain ⟨y0, t0, s0_9, q0, -⟩ := hp_gSi (z := (0 + 0)) gS rfl
        cases s0_9
        exact r0 h' y0 (by omega) a1_9 a2 a3
    cases hp
theorem nfK5_k : hp_chk 52 10 3 [(0, (-9223372036854775808), 9223372036854775807), (1, (-2147483648), 2147483647), (2, (-2147483648), 2147483647)] [] [(0, .inr (.inr (.inl (some 30)))), (1, .inl (5, [])), (2, .inr (.inl (0, [(0, 1)]))), (4, .inl (0, [(1, 1)])), (5, .inl (0, [(2, 1)]))] [.inl ((-1), [])] [] [] 2 [] [([], 3, [(0, (-9223372036854775808), 9223372036854775807), (1, (-2147483648), 2147483647), (2, (-2147483648), 2147483647)], [], [], [.inl (0, [])], [])] = true := by decide +kernel
theorem nfK5 {cst : am_K} {strs : List Nat} {Φ : am_Q → Prop} {D : Nat} {M : am_M} {h : am_H} {l : am_L} (c : hp_C cst strs D) (hM : m_P[52]? = some M) (hD : (2 : Int) ≤ (D : Int) + 1) (hy : ly_hy m_tt ly_TH h) (d y s : Int) (x0 : Int32) (hx0 : x0.toInt = (-1)) (b0 : (-9223372036854775808) ≤ d) (t0 : d ≤ 9223372036854775807) (b1 : (-2147483648) ≤ y) (t1 : y ≤ 2147483647) (b2 : (-2147483648) ≤ s) (t2 : s ≤ 2147483647) (l0 : hp_a l 0 30) (l1 : hp_i l 1 5) (l2 : hp_j l 2 (d)) (l4 : hp_i l 4 (y)) (l5 : hp_i l 5 (s)) (r0 : ∀ (h' : am_H) (y0 : Int32), y0.toInt = 0 → ly_hy m_tt ly_TH h' → ly_fr cst [] h h' → h.length ≤ h'.length → Φ (some (.int y0), h', 0, 0)) : hp_F cst strs Φ D M 10 l [.int x0] h := by
  refine hp_arc c hM nfK5_k hD [d, y, s] rfl hy (hp_Bc (z := d) rfl b0 t0 (hp_Bc (z := y) rfl b1 t1 (hp_Bc (z := s) rfl b2 t2 hp_Bn))) hp_Fn hp_Kn (hp_La l0 (hp_Li (z := (5 + 0)) l1 rfl (by omega) (hp_Lj (z := (0 + (1 * d + 0))) l2 rfl (by omega) (hp_Li (z := (0 + (1 * y + 0))) l4 rfl (by omega) (hp_Li (z := (0 + (1 * s + 0))) l5 rfl (by omega) hp_Ln))))) (hp_Si (z := ((-1) + 0)) rfl (by omega) trivial) ?_ ?_
  · intro p_9 hp ys l' st' h' hys a1_9 a2 a3 gZ gL gS
    cases hp
  · intro p_9 hp ys v_9 h' hys a1_9 a2 a3 gZ gS
    rcases List.mem_cons.mp hp with rfl | hp
    · obtain rfl := hp_y0 hys
      cases v_9 with
      | none => cases gS
      | some wz =>
        obtain ⟨y0, t0, s0_9, q0, -⟩ := hp_gSi (z := (0 + 0)) gS rfl
        cases s0_9
        exact r0 h' y0 (by omega) a1_9 a2 a3
    cases hp
theorem nfK6_k : hp_chk 52 10 3 [(0, (-9223372036854775808), 9223372036854775807), (1, (-2147483648), 2147483647), (2, (-2147483648), 2147483647)] [] [(0, .inr (.inr (.inl (some 30)))), (1, .inl (6, [])), (2, .inr (.inl (0, [(0, 1)]))), (4, .inl (0, [(1, 1)])), (5, .inl (0, [(2, 1)]))] [.inl ((-1), [])] [] [] 2 [] [([], 3, [(0, (-9223372036854775808), 9223372036854775807), (1, (-2147483648), 2147483647), (2, (-2147483648), 2147483647)], [], [], [.inl (0, [])], [])] = true := by decide +kernel
theorem nfK6 {cst : am_K} {strs : List Nat} {Φ : am_Q → Prop} {D : Nat} {M : am_M} {h : am_H} {l : am_L} (c : hp_C cst strs D) (hM : m_P[52]? = some M) (hD : (2 : Int) ≤ (D : Int) + 1) (hy : ly_hy m_tt ly_TH h) (d y s : Int) (x0 : Int32) (hx0 : x0.toInt = (-1)) (b0 : (-9223372036854775808) ≤ d) (t0 : d ≤ 9223372036854775807) (b1 : (-2147483648) ≤ y) (t1 : y ≤ 2147483647) (b2 : (-2147483648) ≤ s) (t2 : s ≤ 2147483647) (l0 : hp_a l 0 30) (l1 : hp_i l 1 6) (l2 : hp_j l 2 (d)) (l4 : hp_i l 4 (y)) (l5 : hp_i l 5 (s)) (r0 : ∀ (h' : am_H) (y0 : Int32), y0.toInt = 0 → ly_hy m_tt ly_TH h' → ly_fr cst [] h h' → h.length ≤ h'.length → Φ (some (.int y0), h', 0, 0)) : hp_F cst strs Φ D M 10 l [.int x0] h := by
  refine hp_arc c hM nfK6_k hD [d, y, s] rfl hy (hp_Bc (z := d) rfl b0 t0 (hp_Bc (z := y) rfl b1 t1 (hp_Bc (z := s) rfl b2 t2 hp_Bn))) hp_Fn hp_Kn (hp_La l0 (hp_Li (z := (6 + 0)) l1 rfl (by omega) (hp_Lj (z := (0 + (1 * d + 0))) l2 rfl (by omega) (hp_Li (z := (0 + (1 * y + 0))) l4 rfl (by omega) (hp_Li (z := (0 + (1 * s + 0))) l5 rfl (by omega) hp_Ln))))) (hp_Si (z := ((-1) + 0)) rfl (by omega) trivial) ?_ ?_
  · intro p_9 hp ys l' st' h' hys a1_9 a2 a3 gZ gL gS
    cases hp
  · intro p_9 hp ys v_9 h' hys a1_9 a2 a3 gZ gS
    rcases List.mem_cons.mp hp with rfl | hp
    · obtain rfl := hp_y0 hys
      cases v_9 with
      | none => cases gS
      | some wz =>
        obtain ⟨y0, t0, s0_9, q0, -⟩ := hp_gSi (z := (0 + 0)) gS rfl
        cases s0_9
        exact r0 h' y0 (by omega) a1_9 a2 a3
    cases hp
theorem nfK7_k : hp_chk 52 10 3 [(0, (-9223372036854775808), 9223372036854775807), (1, (-2147483648), 2147483647), (2, (-2147483648), 2147483647)] [] [(0, .inr (.inr (.inl (some 30)))), (1, .inl (7, [])), (2, .inr (.inl (0, [(0, 1)]))), (4, .inl (0, [(1, 1)])), (5, .inl (0, [(2, 1)]))] [.inl ((-1), [])] [] [] 2 [] [([], 3, [(0, (-9223372036854775808), 9223372036854775807), (1, (-2147483648), 2147483647), (2, (-2147483648), 2147483647)], [], [], [.inl (6, [])], [])] = true := by decide +kernel
theorem nfK7 {cst : am_K} {strs : List Nat} {Φ : am_Q → Prop} {D : Nat} {M : am_M} {h : am_H} {l : am_L} (c : hp_C cst strs D) (hM : m_P[52]? = some M) (hD : (2 : Int) ≤ (D : Int) + 1) (hy : ly_hy m_tt ly_TH h) (d y s : Int) (x0 : Int32) (hx0 : x0.toInt = (-1)) (b0 : (-9223372036854775808) ≤ d) (t0 : d ≤ 9223372036854775807) (b1 : (-2147483648) ≤ y) (t1 : y ≤ 2147483647) (b2 : (-2147483648) ≤ s) (t2 : s ≤ 2147483647) (l0 : hp_a l 0 30) (l1 : hp_i l 1 7) (l2 : hp_j l 2 (d)) (l4 : hp_i l 4 (y)) (l5 : hp_i l 5 (s)) (r0 : ∀ (h' : am_H) (y0 : Int32), y0.toInt = 6 → ly_hy m_tt ly_TH h' → ly_fr cst [] h h' → h.length ≤ h'.length → Φ (some (.int y0), h', 0, 0)) : hp_F cst strs Φ D M 10 l [.int x0] h := by
  refine hp_arc c hM nfK7_k hD [d, y, s] rfl hy (hp_Bc (z := d) rfl b0 t0 (hp_Bc (z := y) rfl b1 t1 (hp_Bc (z := s) rfl b2 t2 hp_Bn))) hp_Fn hp_Kn (hp_La l0 (hp_Li (z := (7 + 0)) l1 rfl (by omega) (hp_Lj (z := (0 + (1 * d + 0))) l2 rfl (by omega) (hp_Li (z := (0 + (1 * y + 0))) l4 rfl (by omega) (hp_Li (z := (0 + (1 * s + 0))) l5 rfl (by omega) hp_Ln))))) (hp_Si (z := ((-1) + 0)) rfl (by omega) trivial) ?_ ?_
  · intro p_9 hp ys l' st' h' hys a1_9 a2 a3 gZ gL gS
    cases hp
  · intro p_9 hp ys v_9 h' hys a1_9 a2 a3 gZ gS
    rcases List.mem_cons.mp hp with rfl | hp
    · obtain rfl := hp_y0 hys
      cases v_9 with
      | none => cases gS
      | some wz =>
        obtain ⟨y0, t0, s0_9, q0, -⟩ := hp_gSi (z := (6 + 0)) gS rfl
        cases s0_9
        exact r0 h' y0 (by omega) a1_9 a2 a3
    cases hp
theorem nfK8_k : hp_chk 52 10 3 [(0, (-9223372036854775808), 9223372036854775807), (1, (-2147483648), 2147483647), (2, (-2147483648), 2147483647)] [] [(0, .inr (.inr (.inl (some 30)))), (1, .inl (8, [])), (2, .inr (.inl (0, [(0, 1)]))), (4, .inl (0, [(1, 1)])), (5, .inl (0, [(2, 1)]))] [.inl ((-1), [])] [] [] 2 [] [([], 3, [(0, (-9223372036854775808), 9223372036854775807), (1, (-2147483648), 2147483647), (2, (-2147483648), 2147483647)], [], [], [.inl (20, [])], [])] = true := by decide +kernel
theorem nfK8 {cst : am_K} {strs : List Nat} {Φ : am_Q → Prop} {D : Nat} {M : am_M} {h : am_H} {l : am_L} (c : hp_C cst strs D) (hM : m_P[52]? = some M) (hD : (2 : Int) ≤ (D : Int) + 1) (hy : ly_hy m_tt ly_TH h) (d y s : Int) (x0 : Int32) (hx0 : x0.toInt = (-1)) (b0 : (-9223372036854775808) ≤ d) (t0 : d ≤ 9223372036854775807) (b1 : (-2147483648) ≤ y) (t1 : y ≤ 2147483647) (b2 : (-2147483648) ≤ s) (t2 : s ≤ 2147483647) (l0 : hp_a l 0 30) (l1 : hp_i l 1 8) (l2 : hp_j l 2 (d)) (l4 : hp_i l 4 (y)) (l5 : hp_i l 5 (s)) (r0 : ∀ (h' : am_H) (y0 : Int32), y0.toInt = 20 → ly_hy m_tt ly_TH h' → ly_fr cst [] h h' → h.length ≤ h'.length → Φ (some (.int y0), h', 0, 0)) : hp_F cst strs Φ D M 10 l [.int x0] h := by
  refine hp_arc c hM nfK8_k hD [d, y, s] rfl hy (hp_Bc (z := d) rfl b0 t0 (hp_Bc (z := y) rfl b1 t1 (hp_Bc (z := s) rfl b2 t2 hp_Bn))) hp_Fn hp_Kn (hp_La l0 (hp_Li (z := (8 + 0)) l1 rfl (by omega) (hp_Lj (z := (0 + (1 * d + 0))) l2 rfl (by omega) (hp_Li (z := (0 + (1 * y + 0))) l4 rfl (by omega) (hp_Li (z := (0 + (1 * s + 0))) l5 rfl (by omega) hp_Ln))))) (hp_Si (z := ((-1) + 0)) rfl (by omega) trivial) ?_ ?_
  · intro p_9 hp ys l' st' h' hys a1_9 a2 a3 gZ gL gS
    cases hp
  · intro p_9 hp ys v_9 h' hys a1_9 a2 a3 gZ gS
    rcases List.mem_cons.mp hp with rfl | hp
    · obtain rfl := hp_y0 hys
      cases v_9 with
      | none => cases gS
      | some wz =>
        obtain ⟨y0, t0, s0_9, q0, -⟩ := hp_gSi (z := (20 + 0)) gS rfl
        cases s0_9
        exact r0 h' y0 (by omega) a1_9 a2 a3
    cases hp
theorem nfK9_k : hp_chk 52 10 3 [(0, (-9223372036854775808), 9223372036854775807), (1, (-2147483648), 2147483647), (2, (-2147483648), 2147483647)] [] [(0, .inr (.inr (.inl (some 30)))), (1, .inl (9, [])), (2, .inr (.inl (0, [(0, 1)]))), (4, .inl (0, [(1, 1)])), (5, .inl (0, [(2, 1)]))] [.inl ((-1), [])] [] [] 2 [] [([], 3, [(0, (-9223372036854775808), 9223372036854775807), (1, (-2147483648), 2147483647), (2, (-2147483648), 2147483647)], [], [], [.inl (2, [])], [])] = true := by decide +kernel
theorem nfK9 {cst : am_K} {strs : List Nat} {Φ : am_Q → Prop} {D : Nat} {M : am_M} {h : am_H} {l : am_L} (c : hp_C cst strs D) (hM : m_P[52]? = some M) (hD : (2 : Int) ≤ (D : Int) + 1) (hy : ly_hy m_tt ly_TH h) (d y s : Int) (x0 : Int32) (hx0 : x0.toInt = (-1)) (b0 : (-9223372036854775808) ≤ d) (t0 : d ≤ 9223372036854775807) (b1 : (-2147483648) ≤ y) (t1 : y ≤ 2147483647) (b2 : (-2147483648) ≤ s) (t2 : s ≤ 2147483647) (l0 : hp_a l 0 30) (l1 : hp_i l 1 9) (l2 : hp_j l 2 (d)) (l4 : hp_i l 4 (y)) (l5 : hp_i l 5 (s)) (r0 : ∀ (h' : am_H) (y0 : Int32), y0.toInt = 2 → ly_hy m_tt ly_TH h' → ly_fr cst [] h h' → h.length ≤ h'.length → Φ (some (.int y0), h', 0, 0)) : hp_F cst strs Φ D M 10 l [.int x0] h := by
  refine hp_arc c hM nfK9_k hD [d, y, s] rfl hy (hp_Bc (z := d) rfl b0 t0 (hp_Bc (z := y) rfl b1 t1 (hp_Bc (z := s) rfl b2 t2 hp_Bn))) hp_Fn hp_Kn (hp_La l0 (hp_Li (z := (9 + 0)) l1 rfl (by omega) (hp_Lj (z := (0 + (1 * d + 0))) l2 rfl (by omega) (hp_Li (z := (0 + (1 * y + 0))) l4 rfl (by omega) (hp_Li (z := (0 + (1 * s + 0))) l5 rfl (by omega) hp_Ln))))) (hp_Si (z := ((-1) + 0)) rfl (by omega) trivial) ?_ ?_
  · intro p_9 hp ys l' st' h' hys a1_9 a2 a3 gZ gL gS
    cases hp
  · intro p_9 hp ys v_9 h' hys a1_9 a2 a3 gZ gS
    rcases List.mem_cons.mp hp with rfl | hp
    · obtain rfl := hp_y0 hys
      cases v_9 with
      | none => cases gS
      | some wz =>
        obtain ⟨y0, t0, s0_9, q0, -⟩ := hp_gSi (z := (2 + 0)) gS rfl
        cases s0_9
        exact r0 h' y0 (by omega) a1_9 a2 a3
    cases hp
theorem nfK10_k : hp_chk 52 10 3 [(0, (-9223372036854775808), 9223372036854775807), (1, (-2147483648), 2147483647), (2, (-2147483648), 2147483647)] [] [(0, .inr (.inr (.inl (some 30)))), (1, .inl (10, [])), (2, .inr (.inl (0, [(0, 1)]))), (4, .inl (0, [(1, 1)])), (5, .inl (0, [(2, 1)]))] [.inl ((-1), [])] [] [] 2 [] [([], 3, [(0, (-9223372036854775808), 9223372036854775807), (1, (-2147483648), 2147483647), (2, (-2147483648), 2147483647)], [], [], [.inl (2, [])], [])] = true := by decide +kernel
theorem nfK10 {cst : am_K} {strs : List Nat} {Φ : am_Q → Prop} {D : Nat} {M : am_M} {h : am_H} {l : am_L} (c : hp_C cst strs D) (hM : m_P[52]? = some M) (hD : (2 : Int) ≤ (D : Int) + 1) (hy : ly_hy m_tt ly_TH h) (d y s : Int) (x0 : Int32) (hx0 : x0.toInt = (-1)) (b0 : (-9223372036854775808) ≤ d) (t0 : d ≤ 9223372036854775807) (b1 : (-2147483648) ≤ y) (t1 : y ≤ 2147483647) (b2 : (-2147483648) ≤ s) (t2 : s ≤ 2147483647) (l0 : hp_a l 0 30) (l1 : hp_i l 1 10) (l2 : hp_j l 2 (d)) (l4 : hp_i l 4 (y)) (l5 : hp_i l 5 (s)) (r0 : ∀ (h' : am_H) (y0 : Int32), y0.toInt = 2 → ly_hy m_tt ly_TH h' → ly_fr cst [] h h' → h.length ≤ h'.length → Φ (some (.int y0), h', 0, 0)) : hp_F cst strs Φ D M 10 l [.int x0] h := by
  refine hp_arc c hM nfK10_k hD [d, y, s] rfl hy (hp_Bc (z := d) rfl b0 t0 (hp_Bc (z := y) rfl b1 t1 (hp_Bc (z := s) rfl b2 t2 hp_Bn))) hp_Fn hp_Kn (hp_La l0 (hp_Li (z := (10 + 0)) l1 rfl (by omega) (hp_Lj (z := (0 + (1 * d + 0))) l2 rfl (by omega) (hp_Li (z := (0 + (1 * y + 0))) l4 rfl (by omega) (hp_Li (z := (0 + (1 * s + 0))) l5 rfl (by omega) hp_Ln))))) (hp_Si (z := ((-1) + 0)) rfl (by omega) trivial) ?_ ?_
  · intro p_9 hp ys l' st' h' hys a1_9 a2 a3 gZ gL gS
    cases hp
  · intro p_9 hp ys v_9 h' hys a1_9 a2 a3 gZ gS
    rcases List.mem_cons.mp hp with rfl | hp
    · obtain rfl := hp_y0 hys
      cases v_9 with
      | none => cases gS
      | some wz =>
        obtain ⟨y0, t0, s0_9, q0, -⟩ := hp_gSi (z := (2 + 0)) gS rfl
        cases s0_9
        exact r0 h' y0 (by omega) a1_9 a2 a3
    cases hp
theorem nfK11_k : hp_chk 52 10 3 [(0, (-9223372036854775808), 9223372036854775807), (1, (-2147483648), 2147483647), (2, (-2147483648), 2147483647)] [] [(0, .inr (.inr (.inl (some 30)))), (1, .inl (11, [])), (2, .inr (.inl (0, [(0, 1)]))), (4, .inl (0, [(1, 1)])), (5, .inl (0, [(2, 1)]))] [.inl ((-1), [])] [] [] 2 [] [([], 3, [(0, (-9223372036854775808), 9223372036854775807), (1, (-2147483648), 2147483647), (2, (-2147483648), 2147483647)], [], [], [.inl (1, [])], [])] = true := by decide +kernel
theorem nfK11 {cst : am_K} {strs : List Nat} {Φ : am_Q → Prop} {D : Nat} {M : am_M} {h : am_H} {l : am_L} (c : hp_C cst strs D) (hM : m_P[52]? = some M) (hD : (2 : Int) ≤ (D : Int) + 1) (hy : ly_hy m_tt ly_TH h) (d y s : Int) (x0 : Int32) (hx0 : x0.toInt = (-1)) (b0 : (-9223372036854775808) ≤ d) (t0 : d ≤ 9223372036854775807) (b1 : (-2147483648) ≤ y) (t1 : y ≤ 2147483647) (b2 : (-2147483648) ≤ s) (t2 : s ≤ 2147483647) (l0 : hp_a l 0 30) (l1 : hp_i l 1 11) (l2 : hp_j l 2 (d)) (l4 : hp_i l 4 (y)) (l5 : hp_i l 5 (s)) (r0 : ∀ (h' : am_H) (y0 : Int32), y0.toInt = 1 → ly_hy m_tt ly_TH h' → ly_fr cst [] h h' → h.length ≤ h'.length → Φ (some (.int y0), h', 0, 0)) : hp_F cst strs Φ D M 10 l [.int x0] h := by
  refine hp_arc c hM nfK11_k hD [d, y, s] rfl hy (hp_Bc (z := d) rfl b0 t0 (hp_Bc (z := y) rfl b1 t1 (hp_Bc (z := s) rfl b2 t2 hp_Bn))) hp_Fn hp_Kn (hp_La l0 (hp_Li (z := (11 + 0)) l1 rfl (by omega) (hp_Lj (z := (0 + (1 * d + 0))) l2 rfl (by omega) (hp_Li (z := (0 + (1 * y + 0))) l4 rfl (by omega) (hp_Li (z := (0 + (1 * s + 0))) l5 rfl (by omega) hp_Ln))))) (hp_Si (z := ((-1) + 0)) rfl (by omega) trivial) ?_ ?_
  · intro p_9 hp ys l' st' h' hys a1_9 a2 a3 gZ gL gS
    cases hp
  · intro p_9 hp ys v_9 h' hys a1_9 a2 a3 gZ gS
    rcases List.mem_cons.mp hp with rfl | hp
    · obtain rfl := hp_y0 hys
      cases v_9 with
      | none => cases gS
      | some wz =>
        obtain ⟨y0, t0, s0_9, q0, -⟩ := hp_gSi (z := (1 + 0)) gS rfl
        cases s0_9
        exact r0 h' y0 (by omega) a1_9 a2 a3
    cases hp
theorem nfK12_k : hp_chk 52 10 3 [(0, (-9223372036854775808), 9223372036854775807), (1, (-2147483648), 2147483647), (2, (-2147483648), 2147483647)] [] [(0, .inr (.inr (.inl (some 30)))), (1, .inl (12, [])), (2, .inr (.inl (0, [(0, 1)]))), (4, .inl (0, [(1, 1)])), (5, .inl (0, [(2, 1)]))] [.inl ((-1), [])] [] [] 2 [] [([], 3, [(0, (-9223372036854775808), 9223372036854775807), (1, (-2147483648), 2147483647), (2, (-2147483648), 2147483647)], [], [], [.inl (12, [])], [])] = true := by decide +kernel
theorem nfK12 {cst : am_K} {strs : List Nat} {Φ : am_Q → Prop} {D : Nat} {M : am_M} {h : am_H} {l : am_L} (c : hp_C cst strs D) (hM : m_P[52]? = some M) (hD : (2 : Int) ≤ (D : Int) + 1) (hy : ly_hy m_tt ly_TH h) (d y s : Int) (x0 : Int32) (hx0 : x0.toInt = (-1)) (b0 : (-9223372036854775808) ≤ d) (t0 : d ≤ 9223372036854775807) (b1 : (-2147483648) ≤ y) (t1 : y ≤ 2147483647) (b2 : (-2147483648) ≤ s) (t2 : s ≤ 2147483647) (l0 : hp_a l 0 30) (l1 : hp_i l 1 12) (l2 : hp_j l 2 (d)) (l4 : hp_i l 4 (y)) (l5 : hp_i l 5 (s)) (r0 : ∀ (h' : am_H) (y0 : Int32), y0.toInt = 12 → ly_hy m_tt ly_TH h' → ly_fr cst [] h h' → h.length ≤ h'.length → Φ (some (.int y0), h', 0, 0)) : hp_F cst strs Φ D M 10 l [.int x0] h := by
  refine hp_arc c hM nfK12_k hD [d, y, s] rfl hy (hp_Bc (z := d) rfl b0 t0 (hp_Bc (z := y) rfl b1 t1 (hp_Bc (z := s) rfl b2 t2 hp_Bn))) hp_Fn hp_Kn (hp_La l0 (hp_Li (z := (12 + 0)) l1 rfl (by omega) (hp_Lj (z := (0 + (1 * d + 0))) l2 rfl (by omega) (hp_Li (z := (0 + (1 * y + 0))) l4 rfl (by omega) (hp_Li (z := (0 + (1 * s + 0))) l5 rfl (by omega) hp_Ln))))) (hp_Si (z := ((-1) + 0)) rfl (by omega) trivial) ?_ ?_
  · intro p_9 hp ys l' st' h' hys a1_9 a2 a3 gZ gL gS
    cases hp
  · intro p_9 hp ys v_9 h' hys a1_9 a2 a3 gZ gS
    rcases List.mem_cons.mp hp with rfl | hp
    · obtain rfl := hp_y0 hys
      cases v_9 with
      | none => cases gS
      | some wz =>
        obtain ⟨y0, t0, s0_9, q0, -⟩ := hp_gSi (z := (12 + 0)) gS rfl
        cases s0_9
        exact r0 h' y0 (by omega) a1_9 a2 a3
    cases hp
theorem nfK13_k : hp_chk 52 10 3 [(0, (-9223372036854775808), 9223372036854775807), (1, (-2147483648), 2147483647), (2, (-2147483648), 2147483647)] [] [(0, .inr (.inr (.inl (some 30)))), (1, .inl (13, [])), (2, .inr (.inl (0, [(0, 1)]))), (4, .inl (0, [(1, 1)])), (5, .inl (0, [(2, 1)]))] [.inl ((-1), [])] [] [] 2 [] [([], 3, [(0, (-9223372036854775808), 9223372036854775807), (1, (-2147483648), 2147483647), (2, (-2147483648), 2147483647)], [], [], [.inl (0, [])], [])] = true := by decide +kernel
theorem nfK13 {cst : am_K} {strs : List Nat} {Φ : am_Q → Prop} {D : Nat} {M : am_M} {h : am_H} {l : am_L} (c : hp_C cst strs D) (hM : m_P[52]? = some M) (hD : (2 : Int) ≤ (D : Int) + 1) (hy : ly_hy m_tt ly_TH h) (d y s : Int) (x0 : Int32) (hx0 : x0.toInt = (-1)) (b0 : (-9223372036854775808) ≤ d) (t0 : d ≤ 9223372036854775807) (b1 : (-2147483648) ≤ y) (t1 : y ≤ 2147483647) (b2 : (-2147483648) ≤ s) (t2 : s ≤ 2147483647) (l0 : hp_a l 0 30) (l1 : hp_i l 1 13) (l2 : hp_j l 2 (d)) (l4 : hp_i l 4 (y)) (l5 : hp_i l 5 (s)) (r0 : ∀ (h' : am_H) (y0 : Int32), y0.toInt = 0 → ly_hy m_tt ly_TH h' → ly_fr cst [] h h' → h.length ≤ h'.length → Φ (some (.int y0), h', 0, 0)) : hp_F cst strs Φ D M 10 l [.int x0] h := by
  refine hp_arc c hM nfK13_k hD [d, y, s] rfl hy (hp_Bc (z := d) rfl b0 t0 (hp_Bc (z := y) rfl b1 t1 (hp_Bc (z := s) rfl b2 t2 hp_Bn))) hp_Fn hp_Kn (hp_La l0 (hp_Li (z := (13 + 0)) l1 rfl (by omega) (hp_Lj (z := (0 + (1 * d + 0))) l2 rfl (by omega) (hp_Li (z := (0 + (1 * y + 0))) l4 rfl (by omega) (hp_Li (z := (0 + (1 * s + 0))) l5 rfl (by omega) hp_Ln))))) (hp_Si (z := ((-1) + 0)) rfl (by omega) trivial) ?_ ?_
  · intro p_9 hp ys l' st' h' hys a1_9 a2 a3 gZ gL gS
    cases hp
  · intro p_9 hp ys v_9 h' hys a1_9 a2 a3 gZ gS
    rcases List.mem_cons.mp hp with rfl | hp
    · obtain rfl := hp_y0 hys
      cases v_9 with
      | none => cases gS
      | some wz =>
        obtain ⟨y0, t0, s0_9, q0, -⟩ := hp_gSi (z := (0 + 0)) gS rfl
        cases s0_9
        exact r0 h' y0 (by omega) a1_9 a2 a3
    cases hp
/-- clauseHolding -/
theorem hl_run {cst : am_K} {strs : List Nat} {D : Nat} {h0 : am_H} (cc : ∀ d, hp_C cst strs d) (hD : 1 ≤ D) (hy : ly_hy m_tt ly_TH h0) {X : List rX} {i0 : List Int} (I : LC cst h0 X i0) (x30 : X.length ≤ 30) (g12 : (fX X).length ≤ 1240) {a : Nat} (ha : a < X.length) {y s k d : Int} (k0 : 0 ≤ k) (k1 : k ≤ 14) {b : Int32} (B : bgs y s X X.length b) {xa xk : Int32} {xd : Int64} (ea : xa.toInt = (a : Int)) (ek : xk.toInt = k) (ed : xd.toInt = d) :
    ∃ r, am_Run cst m_cl m_tt m_P strs sx_bi (D + 2) 55 [.ref 30, .int xa, .int xk, .long xd, .int b] h0 r ∧ (fun r : am_Q => ∃ w : Int32, r.1 = some (.int w) ∧ r.2.2.1 = 0 ∧ r.2.2.2 = 0 ∧ ly_hy m_tt ly_TH r.2.1 ∧ ly_fr cst [] h0 r.2.1 ∧ ((∃ j, hol X k d y s a j ∧ w.toInt = ((fX (X.take a)).length : Int) + (j : Int)) ∨ ((∀ j, ¬ hol X k d y s a j) ∧ w.toInt = -1))) r := by
  obtain ⟨M_9, hM_9, hl⟩ := hp_M (mi := 55) (k := 6) (by decide +kernel)
  have c : hp_C cst strs (D + 1) := cc _
  have d0_9 : -9223372036854775808 ≤ d := by rw [← ed]; exact xd.le_toInt
  have d1_9 : d ≤ 9223372036854775807 := by rw [← ed]; exact xd.toInt_le
  have bb : -2147483648 ≤ b.toInt := b.le_toInt
  have bb' : b.toInt ≤ 2147483647 := b.toInt_le
  have ts := fX_ts X a ha
  have le_9 := fX_le X a ha
  have kf : ly_hv cst h0 4352 (a : Int) = some ((fX (X.take a)).length : Int) := I.2.2.1 a (by omega)
  have kg : ly_hv cst h0 4352 ((a : Int) + 1) = some (((fX (X.take a)).length : Int) + ((X[a]).2.2.1.length : Int)) := by
    have z_9 := I.2.2.1 (a + 1) ha
    rw [ts, Int.natCast_add, Int.natCast_add] at z_9
    exact z_9
  have go_9 : hp_F cst strs (fun r : am_Q => ∃ w : Int32, r.1 = some (.int w) ∧ r.2.2.1 = 0 ∧ r.2.2.2 = 0 ∧ ly_hy m_tt ly_TH r.2.1 ∧ ly_fr cst [] h0 r.2.1 ∧ ((∃ j, hol X k d y s a j ∧ w.toInt = ((fX (X.take a)).length : Int) + (j : Int)) ∨ ((∀ j, ¬ hol X k d y s a j) ∧ w.toInt = -1))) (D + 1) M_9 0 (lv_args 0 [.ref 30, .int xa, .int xk, .long xd, .int b]) [] h0 := by
    refine ch0 c hM_9 (by omega) hy (a : Int) k d b.toInt (by omega) (by omega) k0 k1 d0_9 d1_9 bb bb' rfl ⟨xa, rfl, ea⟩ ⟨xk, rfl, ek⟩ ⟨xd, rfl, ed⟩ ⟨b, rfl, rfl⟩ (fun l1 h1 p0_9 p1_9 q0 q1_9 u1_9 u2_9 u3 m0_9 m1_9 m2_9 m3_9 m5_9 => ?_)
    have ep : p1_9 = b := Int32.toInt_inj.mp q1_9
    rw [ep]
    refine btq_ishr hM_9 (by decide +kernel) ?_
    refine ch1 c hM_9 (by omega) u1_9 (a : Int) k d b.toInt (b >>> (p0_9 &&& 31)).toInt (b >>> (p0_9 &&& 31)) rfl (by omega) (by omega) k0 k1 d0_9 d1_9 bb bb' (Int32.le_toInt _) (Int32.toInt_le _) m0_9 m1_9 m2_9 m3_9 m5_9 (fun l2 h2 z0 z1 e0_9 e1_9 x1_9 x2_9 x3 n0_9 n1_9 n2_9 n3_9 n5_9 => ?_)
    have ez : z1 &&& z0 = bif btq_b b a then 1 else 0 := by
      rw [Int32.toInt_inj.mp e1_9, Int32.toInt_inj.mp (show z0.toInt = (1 : Int32).toInt from e0_9)]
      exact btq_at q0 (by omega) b
    refine btq_iand hM_9 (by decide +kernel) ?_
    rw [ez, B.1 a ha ha]
    have f2_9 : ly_fr cst [] h0 h2 := ly_fr_tr u2_9 x2_9
    cases eb : bgn y s (X[a])
    · exact ch2 c hM_9 (by omega) x1_9 (a : Int) k d b.toInt 0 rfl (by omega) (by omega) k0 k1 d0_9 d1_9 bb bb' n0_9 n1_9 n2_9 n3_9 n5_9 (fun h3 w hw y1 y2 y3 => ⟨w, rfl, rfl, rfl, y1, ly_fr_tr f2_9 y2, Or.inr ⟨fun j t_9 => by
        obtain ⟨_, t1_9, _⟩ := t_9
        rw [eb] at t1_9
        exact absurd t1_9 (by decide), hw⟩⟩)
    refine ch3 c hM_9 (by omega) x1_9 (a : Int) k d b.toInt ((fX (X.take a)).length : Int) (((fX (X.take a)).length : Int) + ((X[a]).2.2.1.length : Int)) 1 rfl (by omega) (by omega) k0 k1 d0_9 d1_9 bb bb' (by omega) (by omega) (by omega) (by omega) (f2_9 _ _ _ rfl kf) (f2_9 _ _ _ rfl kg) n0_9 n1_9 n2_9 n3_9 n5_9 (fun l3 h3 y0 y1 y2 y3 g0 g1 g2 g3_9 v1_9 v2 v3 o0_9 o1 o2 o3_9 o5_9 => ?_)
    have F3 : ly_fr cst [] h0 h3 := ly_fr_tr f2_9 v2
    obtain ⟨r, hrun, w, r1_9, r2, r3, rhy, rfr, rres⟩ := cg_run (D := D) (cc _) hD v1_9 (f := (fX (X.take a)).length) (C := (X[a]).2.2.1) (k := k) (d := d) (by omega) (fun i_9 hi_9 => by
      have z_9 := (cl_at I ha hi_9 rfl).1
      rw [Int.natCast_add] at z_9
      exact F3 _ _ _ rfl z_9) (fun i_9 hi_9 => by
      have z_9 := (cl_at I ha hi_9 rfl).2.1
      rw [Int.natCast_add] at z_9
      exact F3 _ _ _ rfl z_9) k0 k1 (xf := y3) (xe := y2) (xk := y1) (xd := y0) g3_9 g2 g1 g0
    refine hp_call (mi := 55) (pc := 28) (tg := 56) (na := 5) (c := 14) (ci := 3) (st0 := [.long y0, .int y1, .int y2, .int y3, .ref 30]) (st := []) (av := [.int y3, .int y2, .int y1, .long y0]) hM_9 (by decide +kernel) v1_9 rfl rfl rfl (by decide) hrun r2 r3 ?_
    rw [r1_9]
    have F4 : ly_fr cst [] h0 r.2.1 := ly_fr_tr F3 rfr
    rcases rres with ⟨j, fc_9, ew⟩ | ⟨nc, ew⟩
    rotate_left
    · exact ch4 c hM_9 (by omega) rhy (a : Int) k d b.toInt w ew (by omega) (by omega) k0 k1 d0_9 d1_9 bb bb' o0_9 o1 o2 o3_9 o5_9 (fun h5 w5 hw5 y1 y2 y3 => ⟨w5, rfl, rfl, rfl, y1, ly_fr_tr F4 y2, Or.inr ⟨fun j t_9 => by
        obtain ⟨_, _, ⟨hj, t1_9, t2_9, _⟩, _⟩ := t_9
        exact nc j hj ⟨t1_9, t2_9⟩, hw5⟩⟩)
    obtain ⟨hj, -⟩ := id fc_9
    refine ch5 c hM_9 (by omega) rhy (a : Int) k d b.toInt (((fX (X.take a)).length : Int) + (j : Int)) w ew (by omega) (by omega) k0 k1 d0_9 d1_9 bb bb' (by omega) (by omega) o0_9 o1 o2 o3_9 o5_9 (fun l5 h5 z0 z1 z2 e0_9 e1_9 e2_9 y1 y2 y3 m0_9 m1_9 m2_9 m3_9 m5_9 m6_9 => ?_)
    have ez0 : z0 = b := Int32.toInt_inj.mp e0_9
    rw [ez0]
    have F5 : ly_fr cst [] h0 h5 := ly_fr_tr F4 y2
    obtain ⟨r', hrun', w', s1_9, s2_9, s3_9, shy, sfr, sres⟩ := sj_run (D := D) (cc _) hD y1 (LC_mv I F5 rfl) x30 g12 ha (d := d) B (xa := z2) (xd := z1) e2_9 e1_9
    refine hp_call (mi := 55) (pc := 44) (tg := 57) (na := 4) (c := 14) (ci := 3) (st0 := [.int b, .long z1, .int z2, .ref 30]) (st := []) (av := [.int z2, .long z1, .int b]) hM_9 (by decide +kernel) y1 rfl rfl rfl (by decide) hrun' s2_9 s3_9 ?_
    rw [s1_9]
    have F6 : ly_fr cst [] h0 r'.2.1 := ly_fr_tr F5 sfr
    rcases sres with ⟨sk, ew'⟩ | ⟨sk, ew'⟩
    · exact ch6 c hM_9 (by omega) shy (a : Int) k d b.toInt (((fX (X.take a)).length : Int) + (j : Int)) w' ew' (by omega) (by omega) k0 k1 d0_9 d1_9 bb bb' (by omega) (by omega) m0_9 m1_9 m2_9 m3_9 m5_9 m6_9 (fun h7 w7_9 hw7 y1 y2 y3 => ⟨w7_9, rfl, rfl, rfl, y1, ly_fr_tr F6 y2, Or.inr ⟨fun j t_9 => by
        obtain ⟨_, _, _, t4_9⟩ := t_9
        exact t4_9 sk, hw7⟩⟩)
    · exact ch7 c hM_9 (by omega) shy (a : Int) k d b.toInt (((fX (X.take a)).length : Int) + (j : Int)) w' ew' (by omega) (by omega) k0 k1 d0_9 d1_9 bb bb' (by omega) (by omega) m0_9 m1_9 m2_9 m3_9 m5_9 m6_9 (fun h7 w7_9 hw7 y1 y2 y3 => ⟨w7_9, rfl, rfl, rfl, y1, ly_fr_tr F6 y2, Or.inl ⟨j, ⟨ha, eb, fc_9, sk⟩, hw7⟩⟩)
  obtain ⟨n', r, hgo, w, r1_9, r2, r3, r4⟩ := go_9
  simp only [Nat.zero_add] at r2 r3
  exact ⟨r, Or.inr ⟨M_9, n', hM_9, hl, hgo⟩, w, r1_9, r2, r3, r4⟩
set_option maxRecDepth 8000 in
theorem fo_lp {cst : am_K} {strs : List Nat} {D : Nat} {M : am_M} {h0 : am_H} (cc : ∀ d, hp_C cst strs d) (hM : m_P[53]? = some M) (hD : 1 ≤ D) {X : List rX} {i0 : List Int} (I : LC cst h0 X i0) (x30 : X.length ≤ 30) (g12 : (fX X).length ≤ 1240) {y s k d : Int} (k0 : 0 ≤ k) (k1 : k ≤ 14) (d0 : -9223372036854775808 ≤ d) (d1 : d ≤ 9223372036854775807) (y0 : -2147483648 ≤ y) (y1 : y ≤ 2147483647) (s0 : -2147483648 ≤ s) (s1 : s ≤ 2147483647) {b : Int32} (B : bgs y s X X.length b) : ∀ (m : Nat) (h : am_H) (l : am_L), m ≤ X.length → ly_hy m_tt ly_TH h → ly_fr cst [] h0 h → (∀ a' j', m ≤ a' → ¬ hol X k d y s a' j') → hp_a l 0 30 → hp_i l 1 k → hp_j l 2 d → hp_i l 4 y → hp_i l 5 s → hp_i l 6 b.toInt → hp_i l 7 ((m : Int) - 1) → hp_F cst strs (fun r : am_Q => ∃ w : Int32, r.1 = some (.int w) ∧ r.2.2.1 = 0 ∧ r.2.2.2 = 0 ∧ ly_hy m_tt ly_TH r.2.1 ∧ ly_fr cst [] h0 r.2.1 ∧ ((∃ a j, inF X k d y s a j ∧ w.toInt = ((fX (X.take a)).length : Int) + (j : Int)) ∨ (noF X k d y s ∧ w.toInt = -1))) (D + 2) M 18 l [] h := by
  have c : hp_C cst strs (D + 2) := cc _
  have bb : -2147483648 ≤ b.toInt := b.le_toInt
  have bb' : b.toInt ≤ 2147483647 := b.toInt_le
  intro m
  induction m with
  | zero =>
    intro h l hm_9 hy fr_9 no_9 l0 l1 l2 l4 l5 l6 l7
    exact ci2 c hM (by omega) hy k d y s b.toInt k0 k1 d0 d1 y0 y1 s0 s1 bb bb' l0 l1 l2 l4 l5 l6 l7 (fun h2 w hw u1_9 u2_9 u3 => ⟨w, rfl, rfl, rfl, u1_9, ly_fr_tr fr_9 u2_9, Or.inr ⟨fun a j => no_9 a j (Nat.zero_le _), hw⟩⟩)
  | succ m ih_9 =>
    intro h l hm_9 hy fr_9 no_9 l0 l1 l2 l4 l5 l6 l7
    rw [show ((m + 1 : Nat) : Int) - 1 = (m : Int) by omega] at l7
    refine ci3 c hM (by omega) hy k d y s b.toInt (m : Int) k0 k1 d0 d1 y0 y1 s0 s1 bb bb' (by omega) (by omega) l0 l1 l2 l4 l5 l6 l7 (fun l1' h1 z0 z1 z2 z3 e0_9 e1_9 e2_9 e3_9 u1_9 u2_9 u3 m0_9 m1_9 m2_9 m4_9 m5_9 m6_9 m7_9 => ?_)
    have ez0 : z0 = b := Int32.toInt_inj.mp e0_9
    rw [ez0]
    have F1_9 : ly_fr cst [] h0 h1 := ly_fr_tr fr_9 u2_9
    obtain ⟨r, hrun, w, r1_9, r2, r3, rhy, rfr, rres⟩ := hl_run (D := D) cc hD u1_9 (LC_mv I F1_9 rfl) x30 g12 (a := m) (by omega) (k := k) (d := d) k0 k1 B (xa := z3) (xk := z2) (xd := z1) e3_9 e2_9 e1_9
    refine hp_call (mi := 53) (pc := 30) (tg := 55) (na := 5) (c := 14) (ci := 3) (st0 := [.int b, .long z1, .int z2, .int z3, .ref 30]) (st := []) (av := [.int z3, .int z2, .long z1, .int b]) hM (by decide +kernel) u1_9 rfl rfl rfl (by decide) hrun r2 r3 ?_
    rw [r1_9]
    have F2 : ly_fr cst [] h0 r.2.1 := ly_fr_tr F1_9 rfr
    rcases rres with ⟨j, hj, ew⟩ | ⟨nh, ew⟩
    · obtain ⟨ha_9, -, ⟨hl, -⟩, -⟩ := id hj
      have le_9 := fX_le X m ha_9
      exact ci5 c hM (by omega) rhy k d y s b.toInt (m : Int) (((fX (X.take m)).length : Int) + (j : Int)) w ew k0 k1 d0 d1 y0 y1 s0 s1 bb bb' (by omega) (by omega) (by omega) (by omega) m0_9 m1_9 m2_9 m4_9 m5_9 m6_9 m7_9 (fun h3 w3_9 hw3 v1_9 v2 v3 => ⟨w3_9, rfl, rfl, rfl, v1_9, ly_fr_tr F2 v2, Or.inl ⟨m, j, ⟨hj, fun a' j' lt_9 => no_9 a' j' lt_9⟩, hw3⟩⟩)
    · exact ci4 c hM (by omega) rhy k d y s b.toInt (m : Int) w ew k0 k1 d0 d1 y0 y1 s0 s1 bb bb' (by omega) (by omega) m0_9 m1_9 m2_9 m4_9 m5_9 m6_9 m7_9 (fun l3 h3 v1_9 v2 v3 o0_9 o1 o2 o4_9 o5_9 o6 o7 => ih_9 h3 l3 (by omega) v1_9 (ly_fr_tr F2 v2) (fun a' j' lt_9 => if z : a' = m then by subst z; exact nh j' else no_9 a' j' (by omega)) o0_9 o1 o2 o4_9 o5_9 o6 o7)
/-- clauseInForce -/
theorem fo_run {cst : am_K} {strs : List Nat} {D : Nat} {h0 : am_H} (cc : ∀ d, hp_C cst strs d) (hD : 1 ≤ D) (hy : ly_hy m_tt ly_TH h0) {X : List rX} {i0 : List Int} (I : LC cst h0 X i0) (x30 : X.length ≤ 30) (g12 : (fX X).length ≤ 1240) {k d : Int} (k0 : 0 ≤ k) (k1 : k ≤ 14) {xk xy xs : Int32} {xd : Int64} {y s : Int} (ek : xk.toInt = k) (ed : xd.toInt = d) (ey : xy.toInt = y) (es : xs.toInt = s) :
    ∃ r, am_Run cst m_cl m_tt m_P strs sx_bi (D + 3) 53 [.ref 30, .int xk, .long xd, .int xy, .int xs] h0 r ∧ (fun r : am_Q => ∃ w : Int32, r.1 = some (.int w) ∧ r.2.2.1 = 0 ∧ r.2.2.2 = 0 ∧ ly_hy m_tt ly_TH r.2.1 ∧ ly_fr cst [] h0 r.2.1 ∧ ((∃ a j, inF X k d y s a j ∧ w.toInt = ((fX (X.take a)).length : Int) + (j : Int)) ∨ (noF X k d y s ∧ w.toInt = -1))) r := by
  obtain ⟨M_9, hM_9, hl⟩ := hp_M (mi := 53) (k := 6) (by decide +kernel)
  have c : hp_C cst strs (D + 2) := cc _
  have d0_9 : -9223372036854775808 ≤ d := by rw [← ed]; exact xd.le_toInt
  have d1_9 : d ≤ 9223372036854775807 := by rw [← ed]; exact xd.toInt_le
  have y0 : -2147483648 ≤ y := by rw [← ey]; exact xy.le_toInt
  have y1 : y ≤ 2147483647 := by rw [← ey]; exact xy.toInt_le
  have s0_9 : -2147483648 ≤ s := by rw [← es]; exact xs.le_toInt
  have s1_9 : s ≤ 2147483647 := by rw [← es]; exact xs.toInt_le
  have go_9 : hp_F cst strs (fun r : am_Q => ∃ w : Int32, r.1 = some (.int w) ∧ r.2.2.1 = 0 ∧ r.2.2.2 = 0 ∧ ly_hy m_tt ly_TH r.2.1 ∧ ly_fr cst [] h0 r.2.1 ∧ ((∃ a j, inF X k d y s a j ∧ w.toInt = ((fX (X.take a)).length : Int) + (j : Int)) ∨ (noF X k d y s ∧ w.toInt = -1))) (D + 2) M_9 0 (lv_args 0 [.ref 30, .int xk, .long xd, .int xy, .int xs]) [] h0 := by
    refine ci0 c hM_9 (by omega) hy k d y s k0 k1 d0_9 d1_9 y0 y1 s0_9 s1_9 rfl ⟨xk, rfl, ek⟩ ⟨xd, rfl, ed⟩ ⟨xy, rfl, ey⟩ ⟨xs, rfl, es⟩ (fun l1 h1 z0 z1 e0_9 e1_9 u1_9 u2_9 u3 m0_9 m1_9 m2_9 m4_9 m5_9 => ?_)
    obtain ⟨r, hrun, b_9, r1_9, r2, r3, rhy, rfr, B_9⟩ := ab_run (D := D + 1) (cc _) (by omega) u1_9 (LC_mv I u2_9 rfl) x30 (xd := z1) (xk := z0)
    refine hp_call (mi := 53) (pc := 5) (tg := 54) (na := 3) (c := 14) (ci := 3) (st0 := [.int z0, .int z1, .ref 30]) (st := []) (av := [.int z1, .int z0]) hM_9 (by decide +kernel) u1_9 rfl rfl rfl (by decide) hrun r2 r3 ?_
    rw [r1_9]
    rw [e0_9, e1_9] at B_9
    have F2 : ly_fr cst [] h0 r.2.1 := ly_fr_tr u2_9 rfr
    exact ci1 c hM_9 (by omega) rhy k d y s b_9.toInt (X.length : Int) b_9 rfl k0 k1 d0_9 d1_9 y0 y1 s0_9 s1_9 b_9.le_toInt b_9.toInt_le (by omega) (by omega) (F2 _ _ _ rfl I.1.1) m0_9 m1_9 m2_9 m4_9 m5_9 (fun l3 h3 v1_9 v2 v3 o0_9 o1 o2 o4_9 o5_9 o6 o7 => fo_lp cc hM_9 hD I x30 g12 k0 k1 d0_9 d1_9 y0 y1 s0_9 s1_9 B_9 X.length h3 l3 (Nat.le_refl _) v1_9 (ly_fr_tr F2 v2) (fun a' j' lt_9 t_9 => by
      obtain ⟨ha_9, -⟩ := t_9
      omega) o0_9 o1 o2 o4_9 o5_9 o6 o7)
  obtain ⟨n', r, hgo, w, r1_9, r2, r3, r4⟩ := go_9
  simp only [Nat.zero_add] at r2 r3
  exact ⟨r, Or.inr ⟨M_9, n', hM_9, hl, hgo⟩, w, r1_9, r2, r3, r4⟩
/-- an owner's row: the act of a clause -/
theorem own_at {cst : am_K} {h : am_H} {X : List rX} {i0 : List Int} (I : LC cst h X i0) {o i : Nat} (ho : o < X.length) (hi : i < (X[o]).2.2.1.length) : ly_hv cst h 5376 (((fX (X.take o)).length : Int) + (i : Int)) = some (o : Int) := by
  have le_9 := fX_le X o ho
  obtain ⟨o', i', ho', hi', e_9, k_9⟩ := ow_at I (j := (fX (X.take o)).length + i) (by omega)
  obtain ⟨e1_9, e2_9⟩ := skj_u ho hi ho' hi' e_9
  rw [Int.natCast_add, ← e1_9] at k_9
  exact k_9
/-- actInForce -/
theorem ai_run {cst : am_K} {strs : List Nat} {D : Nat} {h0 : am_H} (cc : ∀ d, hp_C cst strs d) (hD : 1 ≤ D) (hy : ly_hy m_tt ly_TH h0) {X : List rX} {i0 : List Int} (I : LC cst h0 X i0) (x30 : X.length ≤ 30) (g12 : (fX X).length ≤ 1240) {k d : Int} (k0 : 0 ≤ k) (k1 : k ≤ 14) {xk xy xs : Int32} {xd : Int64} (ek : xk.toInt = k) (ed : xd.toInt = d) :
    ∃ r, am_Run cst m_cl m_tt m_P strs sx_bi (D + 4) 115 [.ref 30, .int xk, .long xd, .int xy, .int xs] h0 r ∧ (fun r : am_Q => ∃ w : Int32, r.1 = some (.int w) ∧ r.2.2.1 = 0 ∧ r.2.2.2 = 0 ∧ ly_hy m_tt ly_TH r.2.1 ∧ ly_fr cst [] h0 r.2.1 ∧ ((∃ a j, inF X k d xy.toInt xs.toInt a j ∧ w.toInt = (a : Int)) ∨ (noF X k d xy.toInt xs.toInt ∧ w.toInt = -1))) r := by
  obtain ⟨M_9, hM_9, hl⟩ := hp_M (mi := 115) (k := 6) (by decide +kernel)
  have c : hp_C cst strs (D + 3) := cc _
  have d0_9 : -9223372036854775808 ≤ d := by rw [← ed]; exact xd.le_toInt
  have d1_9 : d ≤ 9223372036854775807 := by rw [← ed]; exact xd.toInt_le
  have go_9 : hp_F cst strs (fun r : am_Q => ∃ w : Int32, r.1 = some (.int w) ∧ r.2.2.1 = 0 ∧ r.2.2.2 = 0 ∧ ly_hy m_tt ly_TH r.2.1 ∧ ly_fr cst [] h0 r.2.1 ∧ ((∃ a j, inF X k d xy.toInt xs.toInt a j ∧ w.toInt = (a : Int)) ∨ (noF X k d xy.toInt xs.toInt ∧ w.toInt = -1))) (D + 3) M_9 0 (lv_args 0 [.ref 30, .int xk, .long xd, .int xy, .int xs]) [] h0 := by
    refine ai0 c hM_9 (by omega) hy k d xy.toInt xs.toInt k0 k1 d0_9 d1_9 xy.le_toInt xy.toInt_le xs.le_toInt xs.toInt_le rfl ⟨xk, rfl, ek⟩ ⟨xd, rfl, ed⟩ ⟨xy, rfl, rfl⟩ ⟨xs, rfl, rfl⟩ (fun l1 h1 z0 z1 z2 z3 e0_9 e1_9 e2_9 e3_9 u1_9 u2_9 u3 m0_9 m1_9 m2_9 m4_9 m5_9 => ?_)
    obtain ⟨r, hrun, w, r1_9, r2, r3, rhy, rfr, rres⟩ := fo_run (D := D) cc hD u1_9 (LC_mv I u2_9 rfl) x30 g12 (k := k) (d := d) k0 k1 (xk := z3) (xd := z2) (xy := z1) (xs := z0) e3_9 e2_9 e1_9 e0_9
    refine hp_call (mi := 115) (pc := 7) (tg := 53) (na := 5) (c := 14) (ci := 3) (st0 := [.int z0, .int z1, .long z2, .int z3, .ref 30]) (st := []) (av := [.int z3, .long z2, .int z1, .int z0]) hM_9 (by decide +kernel) u1_9 rfl rfl rfl (by decide) hrun r2 r3 ?_
    rw [r1_9]
    have F2 : ly_fr cst [] h0 r.2.1 := ly_fr_tr u2_9 rfr
    rcases rres with ⟨a, j, hf, ew⟩ | ⟨nf_9, ew⟩
    · obtain ⟨⟨ha_9, -, ⟨hj, -⟩, -⟩, -⟩ := id hf
      have le_9 := fX_le X a ha_9
      exact ai2 c hM_9 (by omega) rhy k d xy.toInt xs.toInt (((fX (X.take a)).length : Int) + (j : Int)) (a : Int) w ew k0 k1 d0_9 d1_9 xy.le_toInt xy.toInt_le xs.le_toInt xs.toInt_le (by omega) (by omega) (by omega) (by omega) (F2 _ _ _ rfl (own_at I ha_9 hj)) m0_9 m1_9 m2_9 m4_9 m5_9 (fun h3 w3_9 hw3 v1_9 v2 v3 => ⟨w3_9, rfl, rfl, rfl, v1_9, ly_fr_tr F2 v2, Or.inl ⟨a, j, hf, hw3⟩⟩)
    · exact ai1 c hM_9 (by omega) rhy k d xy.toInt xs.toInt w ew k0 k1 d0_9 d1_9 xy.le_toInt xy.toInt_le xs.le_toInt xs.toInt_le m0_9 m1_9 m2_9 m4_9 m5_9 (fun h3 w3_9 hw3 v1_9 v2 v3 => ⟨w3_9, rfl, rfl, rfl, v1_9, ly_fr_tr F2 v2, Or.inr ⟨nf_9, hw3⟩⟩)
  obtain ⟨n', r, hgo, w, r1_9, r2, r3, r4⟩ := go_9
  simp only [Nat.zero_add] at r2 r3
  exact ⟨r, Or.inr ⟨M_9, n', hM_9, hl, hgo⟩, w, r1_9, r2, r3, r4⟩
/-- what the law tells without an act -/
def nwo (k : Int) : Int := if k = 0 then -1 else if k = 7 then 6 else if k = 8 then 20 else if k = 9 then 2 else if k = 10 then 2 else if k = 11 then 1 else if k = 12 then 12 else 0
/-- numberInForce -/
theorem nf_run {cst : am_K} {strs : List Nat} {D : Nat} {h0 : am_H} (cc : ∀ d, hp_C cst strs d) (hD : 1 ≤ D) (hy : ly_hy m_tt ly_TH h0) {X : List rX} {i0 : List Int} (I : LC cst h0 X i0) (x30 : X.length ≤ 30) (g12 : (fX X).length ≤ 1240) {k d : Int} (k0 : 0 ≤ k) (k1 : k ≤ 13) {xk xy xs : Int32} {xd : Int64} (ek : xk.toInt = k) (ed : xd.toInt = d) :
    ∃ r, am_Run cst m_cl m_tt m_P strs sx_bi (D + 4) 52 [.ref 30, .int xk, .long xd, .int xy, .int xs] h0 r ∧ (fun r : am_Q => ∃ w : Int32, r.1 = some (.int w) ∧ r.2.2.1 = 0 ∧ r.2.2.2 = 0 ∧ ly_hy m_tt ly_TH r.2.1 ∧ ly_fr cst [] h0 r.2.1 ∧ ((∃ (a j : Nat) (ha : a < X.length) (hj : j < (X[a]).2.2.1.length), inF X k d xy.toInt xs.toInt a j ∧ w.toInt = ((X[a]).2.2.1[j]).2.2.1) ∨ (noF X k d xy.toInt xs.toInt ∧ w.toInt = nwo k))) r := by
  obtain ⟨M_9, hM_9, hl⟩ := hp_M (mi := 52) (k := 6) (by decide +kernel)
  have c : hp_C cst strs (D + 3) := cc _
  have d0_9 : -9223372036854775808 ≤ d := by rw [← ed]; exact xd.le_toInt
  have d1_9 : d ≤ 9223372036854775807 := by rw [← ed]; exact xd.toInt_le
  have go_9 : hp_F cst strs (fun r : am_Q => ∃ w : Int32, r.1 = some (.int w) ∧ r.2.2.1 = 0 ∧ r.2.2.2 = 0 ∧ ly_hy m_tt ly_TH r.2.1 ∧ ly_fr cst [] h0 r.2.1 ∧ ((∃ (a j : Nat) (ha : a < X.length) (hj : j < (X[a]).2.2.1.length), inF X k d xy.toInt xs.toInt a j ∧ w.toInt = ((X[a]).2.2.1[j]).2.2.1) ∨ (noF X k d xy.toInt xs.toInt ∧ w.toInt = nwo k))) (D + 3) M_9 0 (lv_args 0 [.ref 30, .int xk, .long xd, .int xy, .int xs]) [] h0 := by
    refine nf0 c hM_9 (by omega) hy k d xy.toInt xs.toInt k0 (by omega) d0_9 d1_9 xy.le_toInt xy.toInt_le xs.le_toInt xs.toInt_le rfl ⟨xk, rfl, ek⟩ ⟨xd, rfl, ed⟩ ⟨xy, rfl, rfl⟩ ⟨xs, rfl, rfl⟩ (fun l1 h1 z0 z1 z2 z3 e0_9 e1_9 e2_9 e3_9 u1_9 u2_9 u3 m0_9 m1_9 m2_9 m4_9 m5_9 => ?_)
    obtain ⟨r, hrun, w, r1_9, r2, r3, rhy, rfr, rres⟩ := fo_run (D := D) cc hD u1_9 (LC_mv I u2_9 rfl) x30 g12 (k := k) (d := d) k0 (by omega) (xk := z3) (xd := z2) (xy := z1) (xs := z0) e3_9 e2_9 e1_9 e0_9
    refine hp_call (mi := 52) (pc := 7) (tg := 53) (na := 5) (c := 14) (ci := 3) (st0 := [.int z0, .int z1, .long z2, .int z3, .ref 30]) (st := []) (av := [.int z3, .long z2, .int z1, .int z0]) hM_9 (by decide +kernel) u1_9 rfl rfl rfl (by decide) hrun r2 r3 ?_
    rw [r1_9]
    have F2 : ly_fr cst [] h0 r.2.1 := ly_fr_tr u2_9 rfr
    rcases rres with ⟨a, j, hf, ew⟩ | ⟨nf_9, ew⟩
    · obtain ⟨⟨ha, -, ⟨hj, -⟩, -⟩, -⟩ := id hf
      have le_9 := fX_le X a ha
      have kn_9 := (cl_at I ha hj rfl).2.2
      rw [Int.natCast_add] at kn_9
      have kn_9 := F2 _ _ _ rfl kn_9
      obtain ⟨v_9, kv, v0_9, v1_9⟩ := hp_row (cst := cst) (i := ((fX (X.take a)).length : Int) + (j : Int)) rhy (show ly_ths ly_TH 20 = some (.inl (.int, 1240, -2147483648, 2147483647)) from rfl) (by omega) (by omega)
      have kv : ly_hv cst r.2.1 5120 (((fX (X.take a)).length : Int) + (j : Int)) = some v_9 := kv
      have ev_9 := Option.some.inj (kn_9.symm.trans kv)
      exact nf2 c hM_9 (by omega) rhy k d xy.toInt xs.toInt (((fX (X.take a)).length : Int) + (j : Int)) ((X[a]).2.2.1[j]).2.2.1 w ew k0 (by omega) d0_9 d1_9 xy.le_toInt xy.toInt_le xs.le_toInt xs.toInt_le (by omega) (by omega) (by omega) (by omega) kn_9 m0_9 m1_9 m2_9 m4_9 m5_9 (fun h3 w3_9 hw3 v1_9 v2 v3 => ⟨w3_9, rfl, rfl, rfl, v1_9, ly_fr_tr F2 v2, Or.inl ⟨a, j, ha, hj, hf, hw3⟩⟩)
    by_cases q0 : k = 0
    · rw [q0] at m1_9
      exact nfK0 c hM_9 (by omega) rhy d xy.toInt xs.toInt w ew d0_9 d1_9 xy.le_toInt xy.toInt_le xs.le_toInt xs.toInt_le m0_9 m1_9 m2_9 m4_9 m5_9 (fun h3 w3_9 hw3 v1_9 v2 v3 => ⟨w3_9, rfl, rfl, rfl, v1_9, ly_fr_tr F2 v2, Or.inr ⟨nf_9, by rw [hw3, q0]; decide⟩⟩)
    by_cases q1_9 : k = 1
    · rw [q1_9] at m1_9
      exact nfK1 c hM_9 (by omega) rhy d xy.toInt xs.toInt w ew d0_9 d1_9 xy.le_toInt xy.toInt_le xs.le_toInt xs.toInt_le m0_9 m1_9 m2_9 m4_9 m5_9 (fun h3 w3_9 hw3 v1_9 v2 v3 => ⟨w3_9, rfl, rfl, rfl, v1_9, ly_fr_tr F2 v2, Or.inr ⟨nf_9, by rw [hw3, q1_9]; decide⟩⟩)
    by_cases q2_9 : k = 2
    · rw [q2_9] at m1_9
      exact nfK2 c hM_9 (by omega) rhy d xy.toInt xs.toInt w ew d0_9 d1_9 xy.le_toInt xy.toInt_le xs.le_toInt xs.toInt_le m0_9 m1_9 m2_9 m4_9 m5_9 (fun h3 w3_9 hw3 v1_9 v2 v3 => ⟨w3_9, rfl, rfl, rfl, v1_9, ly_fr_tr F2 v2, Or.inr ⟨nf_9, by rw [hw3, q2_9]; decide⟩⟩)
    by_cases q3_9 : k = 3
    · rw [q3_9] at m1_9
      exact nfK3 c hM_9 (by omega) rhy d xy.toInt xs.toInt w ew d0_9 d1_9 xy.le_toInt xy.toInt_le xs.le_toInt xs.toInt_le m0_9 m1_9 m2_9 m4_9 m5_9 (fun h3 w3_9 hw3 v1_9 v2 v3 => ⟨w3_9, rfl, rfl, rfl, v1_9, ly_fr_tr F2 v2, Or.inr ⟨nf_9, by rw [hw3, q3_9]; decide⟩⟩)
    by_cases q4_9 : k = 4
    · rw [q4_9] at m1_9
      exact nfK4 c hM_9 (by omega) rhy d xy.toInt xs.toInt w ew d0_9 d1_9 xy.le_toInt xy.toInt_le xs.le_toInt xs.toInt_le m0_9 m1_9 m2_9 m4_9 m5_9 (fun h3 w3_9 hw3 v1_9 v2 v3 => ⟨w3_9, rfl, rfl, rfl, v1_9, ly_fr_tr F2 v2, Or.inr ⟨nf_9, by rw [hw3, q4_9]; decide⟩⟩)
    by_cases q5_9 : k = 5
    · rw [q5_9] at m1_9
      exact nfK5 c hM_9 (by omega) rhy d xy.toInt xs.toInt w ew d0_9 d1_9 xy.le_toInt xy.toInt_le xs.le_toInt xs.toInt_le m0_9 m1_9 m2_9 m4_9 m5_9 (fun h3 w3_9 hw3 v1_9 v2 v3 => ⟨w3_9, rfl, rfl, rfl, v1_9, ly_fr_tr F2 v2, Or.inr ⟨nf_9, by rw [hw3, q5_9]; decide⟩⟩)
    by_cases q6_9 : k = 6
    · rw [q6_9] at m1_9
      exact nfK6 c hM_9 (by omega) rhy d xy.toInt xs.toInt w ew d0_9 d1_9 xy.le_toInt xy.toInt_le xs.le_toInt xs.toInt_le m0_9 m1_9 m2_9 m4_9 m5_9 (fun h3 w3_9 hw3 v1_9 v2 v3 => ⟨w3_9, rfl, rfl, rfl, v1_9, ly_fr_tr F2 v2, Or.inr ⟨nf_9, by rw [hw3, q6_9]; decide⟩⟩)
    by_cases q7_9 : k = 7
    · rw [q7_9] at m1_9
      exact nfK7 c hM_9 (by omega) rhy d xy.toInt xs.toInt w ew d0_9 d1_9 xy.le_toInt xy.toInt_le xs.le_toInt xs.toInt_le m0_9 m1_9 m2_9 m4_9 m5_9 (fun h3 w3_9 hw3 v1_9 v2 v3 => ⟨w3_9, rfl, rfl, rfl, v1_9, ly_fr_tr F2 v2, Or.inr ⟨nf_9, by rw [hw3, q7_9]; decide⟩⟩)
    by_cases q8_9 : k = 8
    · rw [q8_9] at m1_9
      exact nfK8 c hM_9 (by omega) rhy d xy.toInt xs.toInt w ew d0_9 d1_9 xy.le_toInt xy.toInt_le xs.le_toInt xs.toInt_le m0_9 m1_9 m2_9 m4_9 m5_9 (fun h3 w3_9 hw3 v1_9 v2 v3 => ⟨w3_9, rfl, rfl, rfl, v1_9, ly_fr_tr F2 v2, Or.inr ⟨nf_9, by rw [hw3, q8_9]; decide⟩⟩)
    by_cases q9_9 : k = 9
    · rw [q9_9] at m1_9
      exact nfK9 c hM_9 (by omega) rhy d xy.toInt xs.toInt w ew d0_9 d1_9 xy.le_toInt xy.toInt_le xs.le_toInt xs.toInt_le m0_9 m1_9 m2_9 m4_9 m5_9 (fun h3 w3_9 hw3 v1_9 v2 v3 => ⟨w3_9, rfl, rfl, rfl, v1_9, ly_fr_tr F2 v2, Or.inr ⟨nf_9, by rw [hw3, q9_9]; decide⟩⟩)
    by_cases q10_9 : k = 10
    · rw [q10_9] at m1_9
      exact nfK10 c hM_9 (by omega) rhy d xy.toInt xs.toInt w ew d0_9 d1_9 xy.le_toInt xy.toInt_le xs.le_toInt xs.toInt_le m0_9 m1_9 m2_9 m4_9 m5_9 (fun h3 w3_9 hw3 v1_9 v2 v3 => ⟨w3_9, rfl, rfl, rfl, v1_9, ly_fr_tr F2 v2, Or.inr ⟨nf_9, by rw [hw3, q10_9]; decide⟩⟩)
    by_cases q11_9 : k = 11
    · rw [q11_9] at m1_9
      exact nfK11 c hM_9 (by omega) rhy d xy.toInt xs.toInt w ew d0_9 d1_9 xy.le_toInt xy.toInt_le xs.le_toInt xs.toInt_le m0_9 m1_9 m2_9 m4_9 m5_9 (fun h3 w3_9 hw3 v1_9 v2 v3 => ⟨w3_9, rfl, rfl, rfl, v1_9, ly_fr_tr F2 v2, Or.inr ⟨nf_9, by rw [hw3, q11_9]; decide⟩⟩)
    by_cases q12_9 : k = 12
    · rw [q12_9] at m1_9
      exact nfK12 c hM_9 (by omega) rhy d xy.toInt xs.toInt w ew d0_9 d1_9 xy.le_toInt xy.toInt_le xs.le_toInt xs.toInt_le m0_9 m1_9 m2_9 m4_9 m5_9 (fun h3 w3_9 hw3 v1_9 v2 v3 => ⟨w3_9, rfl, rfl, rfl, v1_9, ly_fr_tr F2 v2, Or.inr ⟨nf_9, by rw [hw3, q12_9]; decide⟩⟩)
    by_cases q13_9 : k = 13
    · rw [q13_9] at m1_9
      exact nfK13 c hM_9 (by omega) rhy d xy.toInt xs.toInt w ew d0_9 d1_9 xy.le_toInt xy.toInt_le xs.le_toInt xs.toInt_le m0_9 m1_9 m2_9 m4_9 m5_9 (fun h3 w3_9 hw3 v1_9 v2 v3 => ⟨w3_9, rfl, rfl, rfl, v1_9, ly_fr_tr F2 v2, Or.inr ⟨nf_9, by rw [hw3, q13_9]; decide⟩⟩)
    omega
  obtain ⟨n', r, hgo, w, r1_9, r2, r3, r4⟩ := go_9
  simp only [Nat.zero_add] at r2 r3
  exact ⟨r, Or.inr ⟨M_9, n', hM_9, hl, hgo⟩, w, r1_9, r2, r3, r4⟩
