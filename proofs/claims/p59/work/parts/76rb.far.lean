/-! PRINTED by wip/p2/hp_far.py: ways between shires, class and reference, exactly -/
theorem sw0_k : hp_chk 30 0 5 [(0, 0, 5), (1, 0, 5), (2, 0, 5), (3, (-1), 100000), (4, (-1), 100000)] [] [(0, .inr (.inr (.inl (some 77)))), (1, .inl (0, [(0, 1)])), (2, .inl (0, [(1, 1)])), (3, .inl (0, [(2, 1)]))] [] [(16128, (0, [(0, 6), (1, 1)]), ((-1), [])), (16128, (0, [(1, 6), (2, 1)]), (0, [(3, 1)])), (16128, (0, [(0, 6), (2, 1)]), (0, [(4, 1)]))] [] 2 [] [([], 5, [(0, 0, 5), (1, 0, 5), (2, 0, 5), (3, (-1), 100000), (4, (-1), 100000)], [], [], [], [])] = true := by decide +kernel
theorem sw0 {cst : am_K} {strs : List Nat} {Φ : am_Q → Prop} {D : Nat} {M : am_M} {h : am_H} {l : am_L} (c : hp_C cst strs D) (hM : m_P[30]? = some M) (hD : (2 : Int) ≤ (D : Int) + 1) (hy : ly_hy m_tt ly_TH h) (s b o g n : Int) (b0 : 0 ≤ s) (t0 : s ≤ 5) (b1 : 0 ≤ b) (t1 : b ≤ 5) (b2 : 0 ≤ o) (t2 : o ≤ 5) (b3 : (-1) ≤ g) (t3 : g ≤ 100000) (b4 : (-1) ≤ n) (t4 : n ≤ 100000) (k0 : ly_hv cst h 16128 (6 * s + b) = some (-1)) (k1 : ly_hv cst h 16128 (6 * b + o) = some (g)) (k2 : ly_hv cst h 16128 (6 * s + o) = some (n)) (l0 : hp_a l 0 77) (l1 : hp_i l 1 (s)) (l2 : hp_i l 2 (b)) (l3 : hp_i l 3 (o)) (r0 : ∀ (h' : am_H), ly_hy m_tt ly_TH h' → ly_fr cst [] h h' → h.length ≤ h'.length → Φ (none, h', 0, 0)) : hp_F cst strs Φ D M 0 l [] h := by
  refine hp_arc c hM sw0_k hD [s, b, o, g, n] rfl hy (hp_Bc (z := s) rfl b0 t0 (hp_Bc (z := b) rfl b1 t1 (hp_Bc (z := o) rfl b2 t2 (hp_Bc (z := g) rfl b3 t3 (hp_Bc (z := n) rfl b4 t4 hp_Bn))))) hp_Fn (hp_Kc (zi := (0 + (6 * s + (1 * b + 0)))) (zv := ((-1) + 0)) k0 rfl rfl (by omega) (by omega) (hp_Kc (zi := (0 + (6 * b + (1 * o + 0)))) (zv := (0 + (1 * g + 0))) k1 rfl rfl (by omega) (by omega) (hp_Kc (zi := (0 + (6 * s + (1 * o + 0)))) (zv := (0 + (1 * n + 0))) k2 rfl rfl (by omega) (by omega) hp_Kn))) (hp_La l0 (hp_Li (z := (0 + (1 * s + 0))) l1 rfl (by omega) (hp_Li (z := (0 + (1 * b + 0))) l2 rfl (by omega) (hp_Li (z := (0 + (1 * o + 0))) l3 rfl (by omega) hp_Ln)))) trivial ?_ ?_
  · intro p hp ys l' st' h' hys a1 a2 a3 gZ gL gS
    cases hp
  · intro p hp ys v h' hys a1 a2 a3 gZ gS
    rcases List.mem_cons.mp hp with rfl | hp
    · obtain rfl := hp_y0 hys
      have sv := hp_gSn gS
      cases v with
      | some w => cases sv
      | none =>
        exact r0 h' a1 a2 a3
    cases hp
theorem sw1_k : hp_chk 30 0 5 [(0, 0, 5), (1, 0, 5), (2, 0, 5), (3, 0, 100000), (4, (-1), 100000)] [] [(0, .inr (.inr (.inl (some 77)))), (1, .inl (0, [(0, 1)])), (2, .inl (0, [(1, 1)])), (3, .inl (0, [(2, 1)]))] [] [(16128, (0, [(0, 6), (1, 1)]), (0, [(3, 1)])), (16128, (0, [(1, 6), (2, 1)]), ((-1), [])), (16128, (0, [(0, 6), (2, 1)]), (0, [(4, 1)]))] [] 2 [] [([], 5, [(0, 0, 5), (1, 0, 5), (2, 0, 5), (3, 0, 100000), (4, (-1), 100000)], [], [], [], [])] = true := by decide +kernel
theorem sw1 {cst : am_K} {strs : List Nat} {Φ : am_Q → Prop} {D : Nat} {M : am_M} {h : am_H} {l : am_L} (c : hp_C cst strs D) (hM : m_P[30]? = some M) (hD : (2 : Int) ≤ (D : Int) + 1) (hy : ly_hy m_tt ly_TH h) (s b o f n : Int) (b0 : 0 ≤ s) (t0 : s ≤ 5) (b1 : 0 ≤ b) (t1 : b ≤ 5) (b2 : 0 ≤ o) (t2 : o ≤ 5) (b3 : 0 ≤ f) (t3 : f ≤ 100000) (b4 : (-1) ≤ n) (t4 : n ≤ 100000) (k0 : ly_hv cst h 16128 (6 * s + b) = some (f)) (k1 : ly_hv cst h 16128 (6 * b + o) = some (-1)) (k2 : ly_hv cst h 16128 (6 * s + o) = some (n)) (l0 : hp_a l 0 77) (l1 : hp_i l 1 (s)) (l2 : hp_i l 2 (b)) (l3 : hp_i l 3 (o)) (r0 : ∀ (h' : am_H), ly_hy m_tt ly_TH h' → ly_fr cst [] h h' → h.length ≤ h'.length → Φ (none, h', 0, 0)) : hp_F cst strs Φ D M 0 l [] h := by
  refine hp_arc c hM sw1_k hD [s, b, o, f, n] rfl hy (hp_Bc (z := s) rfl b0 t0 (hp_Bc (z := b) rfl b1 t1 (hp_Bc (z := o) rfl b2 t2 (hp_Bc (z := f) rfl b3 t3 (hp_Bc (z := n) rfl b4 t4 hp_Bn))))) hp_Fn (hp_Kc (zi := (0 + (6 * s + (1 * b + 0)))) (zv := (0 + (1 * f + 0))) k0 rfl rfl (by omega) (by omega) (hp_Kc (zi := (0 + (6 * b + (1 * o + 0)))) (zv := ((-1) + 0)) k1 rfl rfl (by omega) (by omega) (hp_Kc (zi := (0 + (6 * s + (1 * o + 0)))) (zv := (0 + (1 * n + 0))) k2 rfl rfl (by omega) (by omega) hp_Kn))) (hp_La l0 (hp_Li (z := (0 + (1 * s + 0))) l1 rfl (by omega) (hp_Li (z := (0 + (1 * b + 0))) l2 rfl (by omega) (hp_Li (z := (0 + (1 * o + 0))) l3 rfl (by omega) hp_Ln)))) trivial ?_ ?_
  · intro p hp ys l' st' h' hys a1 a2 a3 gZ gL gS
    cases hp
  · intro p hp ys v h' hys a1 a2 a3 gZ gS
    rcases List.mem_cons.mp hp with rfl | hp
    · obtain rfl := hp_y0 hys
      have sv := hp_gSn gS
      cases v with
      | some w => cases sv
      | none =>
        exact r0 h' a1 a2 a3
    cases hp
theorem sw2_k : hp_chk 30 0 6 [(0, 0, 5), (1, 0, 5), (2, 0, 5), (3, 0, 100000), (4, 0, 100000), (5, 0, 100000)] [(0, [(3, 1), (4, 1), (5, (-1))])] [(0, .inr (.inr (.inl (some 77)))), (1, .inl (0, [(0, 1)])), (2, .inl (0, [(1, 1)])), (3, .inl (0, [(2, 1)]))] [] [(16128, (0, [(0, 6), (1, 1)]), (0, [(3, 1)])), (16128, (0, [(1, 6), (2, 1)]), (0, [(4, 1)])), (16128, (0, [(0, 6), (2, 1)]), (0, [(5, 1)]))] [] 2 [] [([], 6, [(0, 0, 5), (1, 0, 5), (2, 0, 5), (3, 0, 100000), (4, 0, 100000), (5, 0, 100000)], [], [], [], [])] = true := by decide +kernel
theorem sw2 {cst : am_K} {strs : List Nat} {Φ : am_Q → Prop} {D : Nat} {M : am_M} {h : am_H} {l : am_L} (c : hp_C cst strs D) (hM : m_P[30]? = some M) (hD : (2 : Int) ≤ (D : Int) + 1) (hy : ly_hy m_tt ly_TH h) (s b o f g n : Int) (b0 : 0 ≤ s) (t0 : s ≤ 5) (b1 : 0 ≤ b) (t1 : b ≤ 5) (b2 : 0 ≤ o) (t2 : o ≤ 5) (b3 : 0 ≤ f) (t3 : f ≤ 100000) (b4 : 0 ≤ g) (t4 : g ≤ 100000) (b5 : 0 ≤ n) (t5 : n ≤ 100000) (f0 : 0 ≤ (f + g - n)) (k0 : ly_hv cst h 16128 (6 * s + b) = some (f)) (k1 : ly_hv cst h 16128 (6 * b + o) = some (g)) (k2 : ly_hv cst h 16128 (6 * s + o) = some (n)) (l0 : hp_a l 0 77) (l1 : hp_i l 1 (s)) (l2 : hp_i l 2 (b)) (l3 : hp_i l 3 (o)) (r0 : ∀ (h' : am_H), ly_hy m_tt ly_TH h' → ly_fr cst [] h h' → h.length ≤ h'.length → Φ (none, h', 0, 0)) : hp_F cst strs Φ D M 0 l [] h := by
  refine hp_arc c hM sw2_k hD [s, b, o, f, g, n] rfl hy (hp_Bc (z := s) rfl b0 t0 (hp_Bc (z := b) rfl b1 t1 (hp_Bc (z := o) rfl b2 t2 (hp_Bc (z := f) rfl b3 t3 (hp_Bc (z := g) rfl b4 t4 (hp_Bc (z := n) rfl b5 t5 hp_Bn)))))) (hp_Fc (z := (0 + (1 * f + (1 * g + ((-1) * n + 0))))) rfl (by omega) hp_Fn) (hp_Kc (zi := (0 + (6 * s + (1 * b + 0)))) (zv := (0 + (1 * f + 0))) k0 rfl rfl (by omega) (by omega) (hp_Kc (zi := (0 + (6 * b + (1 * o + 0)))) (zv := (0 + (1 * g + 0))) k1 rfl rfl (by omega) (by omega) (hp_Kc (zi := (0 + (6 * s + (1 * o + 0)))) (zv := (0 + (1 * n + 0))) k2 rfl rfl (by omega) (by omega) hp_Kn))) (hp_La l0 (hp_Li (z := (0 + (1 * s + 0))) l1 rfl (by omega) (hp_Li (z := (0 + (1 * b + 0))) l2 rfl (by omega) (hp_Li (z := (0 + (1 * o + 0))) l3 rfl (by omega) hp_Ln)))) trivial ?_ ?_
  · intro p hp ys l' st' h' hys a1 a2 a3 gZ gL gS
    cases hp
  · intro p hp ys v h' hys a1 a2 a3 gZ gS
    rcases List.mem_cons.mp hp with rfl | hp
    · obtain rfl := hp_y0 hys
      have sv := hp_gSn gS
      cases v with
      | some w => cases sv
      | none =>
        exact r0 h' a1 a2 a3
    cases hp
theorem sw3_k : hp_chk 30 0 5 [(0, 0, 5), (1, 0, 5), (2, 0, 5), (3, 0, 100000), (4, 0, 100000)] [] [(0, .inr (.inr (.inl (some 77)))), (1, .inl (0, [(0, 1)])), (2, .inl (0, [(1, 1)])), (3, .inl (0, [(2, 1)]))] [] [(16128, (0, [(0, 6), (1, 1)]), (0, [(3, 1)])), (16128, (0, [(1, 6), (2, 1)]), (0, [(4, 1)])), (16128, (0, [(0, 6), (2, 1)]), ((-1), []))] [] 2 [(82, ([], 5, [(0, 0, 5), (1, 0, 5), (2, 0, 5), (3, 0, 100000), (4, 0, 100000)], [], [(0, .inr (.inr (.inl (some 77))))], [.inl (0, [(3, 1), (4, 1)]), .inl (0, [(0, 6), (2, 1)]), .inr (.inr (.inl (some 79)))], []))] [] = true := by decide +kernel
theorem sw3 {cst : am_K} {strs : List Nat} {Φ : am_Q → Prop} {D : Nat} {M : am_M} {h : am_H} {l : am_L} (c : hp_C cst strs D) (hM : m_P[30]? = some M) (hD : (2 : Int) ≤ (D : Int) + 1) (hy : ly_hy m_tt ly_TH h) (s b o f g : Int) (b0 : 0 ≤ s) (t0 : s ≤ 5) (b1 : 0 ≤ b) (t1 : b ≤ 5) (b2 : 0 ≤ o) (t2 : o ≤ 5) (b3 : 0 ≤ f) (t3 : f ≤ 100000) (b4 : 0 ≤ g) (t4 : g ≤ 100000) (k0 : ly_hv cst h 16128 (6 * s + b) = some (f)) (k1 : ly_hv cst h 16128 (6 * b + o) = some (g)) (k2 : ly_hv cst h 16128 (6 * s + o) = some (-1)) (l0 : hp_a l 0 77) (l1 : hp_i l 1 (s)) (l2 : hp_i l 2 (b)) (l3 : hp_i l 3 (o)) (e0 : ∀ (l' : am_L) (h' : am_H) (y0 : Int32) (y1 : Int32), y0.toInt = (f + g) → y1.toInt = (6 * s + o) → ly_hy m_tt ly_TH h' → ly_fr cst [] h h' → h.length ≤ h'.length → hp_a l' 0 77 → hp_F cst strs Φ D M 82 l' [.int y0, .int y1, .ref 79] h') : hp_F cst strs Φ D M 0 l [] h := by
  refine hp_arc c hM sw3_k hD [s, b, o, f, g] rfl hy (hp_Bc (z := s) rfl b0 t0 (hp_Bc (z := b) rfl b1 t1 (hp_Bc (z := o) rfl b2 t2 (hp_Bc (z := f) rfl b3 t3 (hp_Bc (z := g) rfl b4 t4 hp_Bn))))) hp_Fn (hp_Kc (zi := (0 + (6 * s + (1 * b + 0)))) (zv := (0 + (1 * f + 0))) k0 rfl rfl (by omega) (by omega) (hp_Kc (zi := (0 + (6 * b + (1 * o + 0)))) (zv := (0 + (1 * g + 0))) k1 rfl rfl (by omega) (by omega) (hp_Kc (zi := (0 + (6 * s + (1 * o + 0)))) (zv := ((-1) + 0)) k2 rfl rfl (by omega) (by omega) hp_Kn))) (hp_La l0 (hp_Li (z := (0 + (1 * s + 0))) l1 rfl (by omega) (hp_Li (z := (0 + (1 * b + 0))) l2 rfl (by omega) (hp_Li (z := (0 + (1 * o + 0))) l3 rfl (by omega) hp_Ln)))) trivial ?_ ?_
  · intro p hp ys l' st' h' hys a1 a2 a3 gZ gL gS
    rcases List.mem_cons.mp hp with rfl | hp
    · obtain rfl := hp_y0 hys
      obtain ⟨y0, t0, rfl, q0, g0⟩ := hp_gSi (z := (0 + (1 * f + (1 * g + 0)))) gS rfl
      obtain ⟨y1, t1, rfl, q1, g1⟩ := hp_gSi (z := (0 + (6 * s + (1 * o + 0)))) g0 rfl
      obtain ⟨t2, rfl, g2⟩ := hp_gSa g1 (by decide)
      cases hp_gSn g2
      exact e0 l' h' y0 y1 (by omega) (by omega) a1 a2 a3 (hp_gLa gL (List.mem_of_getElem? (i := 0) rfl) (by decide))
    cases hp
  · intro p hp ys v h' hys a1 a2 a3 gZ gS
    cases hp
theorem sw4_k : hp_chk 30 0 6 [(0, 0, 5), (1, 0, 5), (2, 0, 5), (3, 0, 100000), (4, 0, 100000), (5, 0, 100000)] [((-1), [(3, (-1)), (4, (-1)), (5, 1)])] [(0, .inr (.inr (.inl (some 77)))), (1, .inl (0, [(0, 1)])), (2, .inl (0, [(1, 1)])), (3, .inl (0, [(2, 1)]))] [] [(16128, (0, [(0, 6), (1, 1)]), (0, [(3, 1)])), (16128, (0, [(1, 6), (2, 1)]), (0, [(4, 1)])), (16128, (0, [(0, 6), (2, 1)]), (0, [(5, 1)]))] [] 2 [(82, ([], 6, [(0, 0, 5), (1, 0, 5), (2, 0, 5), (3, 0, 100000), (4, 0, 100000), (5, 0, 100000)], [], [(0, .inr (.inr (.inl (some 77))))], [.inl (0, [(3, 1), (4, 1)]), .inl (0, [(0, 6), (2, 1)]), .inr (.inr (.inl (some 79)))], []))] [] = true := by decide +kernel
theorem sw4 {cst : am_K} {strs : List Nat} {Φ : am_Q → Prop} {D : Nat} {M : am_M} {h : am_H} {l : am_L} (c : hp_C cst strs D) (hM : m_P[30]? = some M) (hD : (2 : Int) ≤ (D : Int) + 1) (hy : ly_hy m_tt ly_TH h) (s b o f g n : Int) (b0 : 0 ≤ s) (t0 : s ≤ 5) (b1 : 0 ≤ b) (t1 : b ≤ 5) (b2 : 0 ≤ o) (t2 : o ≤ 5) (b3 : 0 ≤ f) (t3 : f ≤ 100000) (b4 : 0 ≤ g) (t4 : g ≤ 100000) (b5 : 0 ≤ n) (t5 : n ≤ 100000) (f0 : 0 ≤ (n - f - g - 1)) (k0 : ly_hv cst h 16128 (6 * s + b) = some (f)) (k1 : ly_hv cst h 16128 (6 * b + o) = some (g)) (k2 : ly_hv cst h 16128 (6 * s + o) = some (n)) (l0 : hp_a l 0 77) (l1 : hp_i l 1 (s)) (l2 : hp_i l 2 (b)) (l3 : hp_i l 3 (o)) (e0 : ∀ (l' : am_L) (h' : am_H) (y0 : Int32) (y1 : Int32), y0.toInt = (f + g) → y1.toInt = (6 * s + o) → ly_hy m_tt ly_TH h' → ly_fr cst [] h h' → h.length ≤ h'.length → hp_a l' 0 77 → hp_F cst strs Φ D M 82 l' [.int y0, .int y1, .ref 79] h') : hp_F cst strs Φ D M 0 l [] h := by
  refine hp_arc c hM sw4_k hD [s, b, o, f, g, n] rfl hy (hp_Bc (z := s) rfl b0 t0 (hp_Bc (z := b) rfl b1 t1 (hp_Bc (z := o) rfl b2 t2 (hp_Bc (z := f) rfl b3 t3 (hp_Bc (z := g) rfl b4 t4 (hp_Bc (z := n) rfl b5 t5 hp_Bn)))))) (hp_Fc (z := ((-1) + ((-1) * f + ((-1) * g + (1 * n + 0))))) rfl (by omega) hp_Fn) (hp_Kc (zi := (0 + (6 * s + (1 * b + 0)))) (zv := (0 + (1 * f + 0))) k0 rfl rfl (by omega) (by omega) (hp_Kc (zi := (0 + (6 * b + (1 * o + 0)))) (zv := (0 + (1 * g + 0))) k1 rfl rfl (by omega) (by omega) (hp_Kc (zi := (0 + (6 * s + (1 * o + 0)))) (zv := (0 + (1 * n + 0))) k2 rfl rfl (by omega) (by omega) hp_Kn))) (hp_La l0 (hp_Li (z := (0 + (1 * s + 0))) l1 rfl (by omega) (hp_Li (z := (0 + (1 * b + 0))) l2 rfl (by omega) (hp_Li (z := (0 + (1 * o + 0))) l3 rfl (by omega) hp_Ln)))) trivial ?_ ?_
  · intro p hp ys l' st' h' hys a1 a2 a3 gZ gL gS
    rcases List.mem_cons.mp hp with rfl | hp
    · obtain rfl := hp_y0 hys
      obtain ⟨y0, t0, rfl, q0, g0⟩ := hp_gSi (z := (0 + (1 * f + (1 * g + 0)))) gS rfl
      obtain ⟨y1, t1, rfl, q1, g1⟩ := hp_gSi (z := (0 + (6 * s + (1 * o + 0)))) g0 rfl
      obtain ⟨t2, rfl, g2⟩ := hp_gSa g1 (by decide)
      cases hp_gSn g2
      exact e0 l' h' y0 y1 (by omega) (by omega) a1 a2 a3 (hp_gLa gL (List.mem_of_getElem? (i := 0) rfl) (by decide))
    cases hp
  · intro p hp ys v h' hys a1 a2 a3 gZ gS
    cases hp
theorem sw5_k : hp_chk 30 83 0 [] [] [(0, .inr (.inr (.inl (some 77))))] [] [] [] 2 [] [([], 0, [], [], [], [], [])] = true := by decide +kernel
theorem sw5 {cst : am_K} {strs : List Nat} {Φ : am_Q → Prop} {D : Nat} {M : am_M} {h : am_H} {l : am_L} (c : hp_C cst strs D) (hM : m_P[30]? = some M) (hD : (2 : Int) ≤ (D : Int) + 1) (hy : ly_hy m_tt ly_TH h) (l0 : hp_a l 0 77) (r0 : ∀ (h' : am_H), ly_hy m_tt ly_TH h' → ly_fr cst [] h h' → h.length ≤ h'.length → Φ (none, h', 0, 0)) : hp_F cst strs Φ D M 83 l [] h := by
  refine hp_arc c hM sw5_k hD [] rfl hy hp_Bn hp_Fn hp_Kn (hp_La l0 hp_Ln) trivial ?_ ?_
  · intro p hp ys l' st' h' hys a1 a2 a3 gZ gL gS
    cases hp
  · intro p hp ys v h' hys a1 a2 a3 gZ gS
    rcases List.mem_cons.mp hp with rfl | hp
    · obtain rfl := hp_y0 hys
      have sv := hp_gSn gS
      cases v with
      | some w => cases sv
      | none =>
        exact r0 h' a1 a2 a3
    cases hp
theorem fy0_k : hp_chk 29 0 0 [] [] [(0, .inr (.inr (.inl (some 77))))] [] [] [] 2 [(12, ([], 0, [], [], [(0, .inr (.inr (.inl (some 77))))], [.inl (36, []), .inl (0, []), .inr (.inr (.inl (some 79))), .inl (0, []), .inr (.inr (.inl (some 78)))], []))] [] = true := by decide +kernel
theorem fy0 {cst : am_K} {strs : List Nat} {Φ : am_Q → Prop} {D : Nat} {M : am_M} {h : am_H} {l : am_L} (c : hp_C cst strs D) (hM : m_P[29]? = some M) (hD : (2 : Int) ≤ (D : Int) + 1) (hy : ly_hy m_tt ly_TH h) (l0 : hp_a l 0 77) (e0 : ∀ (l' : am_L) (h' : am_H) (y0 : Int32) (y1 : Int32) (y3 : Int32), y0.toInt = 36 → y1.toInt = 0 → y3.toInt = 0 → ly_hy m_tt ly_TH h' → ly_fr cst [] h h' → h.length ≤ h'.length → hp_a l' 0 77 → hp_F cst strs Φ D M 12 l' [.int y0, .int y1, .ref 79, .int y3, .ref 78] h') : hp_F cst strs Φ D M 0 l [] h := by
  refine hp_arc c hM fy0_k hD [] rfl hy hp_Bn hp_Fn hp_Kn (hp_La l0 hp_Ln) trivial ?_ ?_
  · intro p hp ys l' st' h' hys a1 a2 a3 gZ gL gS
    rcases List.mem_cons.mp hp with rfl | hp
    · obtain rfl := hp_y0 hys
      obtain ⟨y0, t0, rfl, q0, g0⟩ := hp_gSi (z := (36 + 0)) gS rfl
      obtain ⟨y1, t1, rfl, q1, g1⟩ := hp_gSi (z := (0 + 0)) g0 rfl
      obtain ⟨t2, rfl, g2⟩ := hp_gSa g1 (by decide)
      obtain ⟨y3, t3, rfl, q3, g3⟩ := hp_gSi (z := (0 + 0)) g2 rfl
      obtain ⟨t4, rfl, g4⟩ := hp_gSa g3 (by decide)
      cases hp_gSn g4
      exact e0 l' h' y0 y1 y3 (by omega) (by omega) (by omega) a1 a2 a3 (hp_gLa gL (List.mem_of_getElem? (i := 0) rfl) (by decide))
    cases hp
  · intro p hp ys v h' hys a1 a2 a3 gZ gS
    cases hp
theorem fy1_k : hp_chk 29 15 0 [] [] [(0, .inr (.inr (.inl (some 77))))] [] [] [] 2 [(17, ([], 0, [], [], [(0, .inr (.inr (.inl (some 77)))), (1, .inl (0, []))], [], []))] [] = true := by decide +kernel
theorem fy1 {cst : am_K} {strs : List Nat} {Φ : am_Q → Prop} {D : Nat} {M : am_M} {h : am_H} {l : am_L} (c : hp_C cst strs D) (hM : m_P[29]? = some M) (hD : (2 : Int) ≤ (D : Int) + 1) (hy : ly_hy m_tt ly_TH h) (l0 : hp_a l 0 77) (e0 : ∀ (l' : am_L) (h' : am_H), ly_hy m_tt ly_TH h' → ly_fr cst [] h h' → h.length ≤ h'.length → hp_a l' 0 77 → hp_i l' 1 0 → hp_F cst strs Φ D M 17 l' [] h') : hp_F cst strs Φ D M 15 l [] h := by
  refine hp_arc c hM fy1_k hD [] rfl hy hp_Bn hp_Fn hp_Kn (hp_La l0 hp_Ln) trivial ?_ ?_
  · intro p hp ys l' st' h' hys a1 a2 a3 gZ gL gS
    rcases List.mem_cons.mp hp with rfl | hp
    · obtain rfl := hp_y0 hys
      cases hp_gSn gS
      exact e0 l' h' a1 a2 a3 (hp_gLa gL (List.mem_of_getElem? (i := 0) rfl) (by decide)) (hp_gLi (z := (0 + 0)) gL (List.mem_of_getElem? (i := 1) rfl) rfl (by omega))
    cases hp
  · intro p hp ys v h' hys a1 a2 a3 gZ gS
    cases hp
theorem fy2_k : hp_chk 29 17 1 [(0, 0, 5)] [] [(0, .inr (.inr (.inl (some 77)))), (1, .inl (0, [(0, 1)]))] [] [] [] 2 [(34, ([], 1, [(0, 0, 5)], [], [(0, .inr (.inr (.inl (some 77)))), (1, .inl (0, [(0, 1)]))], [.inl (0, []), .inl (0, [(0, 7)]), .inr (.inr (.inl (some 79)))], []))] [] = true := by decide +kernel
theorem fy2 {cst : am_K} {strs : List Nat} {Φ : am_Q → Prop} {D : Nat} {M : am_M} {h : am_H} {l : am_L} (c : hp_C cst strs D) (hM : m_P[29]? = some M) (hD : (2 : Int) ≤ (D : Int) + 1) (hy : ly_hy m_tt ly_TH h) (i : Int) (b0 : 0 ≤ i) (t0 : i ≤ 5) (l0 : hp_a l 0 77) (l1 : hp_i l 1 (i)) (e0 : ∀ (l' : am_L) (h' : am_H) (y0 : Int32) (y1 : Int32), y0.toInt = 0 → y1.toInt = (7 * i) → ly_hy m_tt ly_TH h' → ly_fr cst [] h h' → h.length ≤ h'.length → hp_a l' 0 77 → hp_i l' 1 (i) → hp_F cst strs Φ D M 34 l' [.int y0, .int y1, .ref 79] h') : hp_F cst strs Φ D M 17 l [] h := by
  refine hp_arc c hM fy2_k hD [i] rfl hy (hp_Bc (z := i) rfl b0 t0 hp_Bn) hp_Fn hp_Kn (hp_La l0 (hp_Li (z := (0 + (1 * i + 0))) l1 rfl (by omega) hp_Ln)) trivial ?_ ?_
  · intro p hp ys l' st' h' hys a1 a2 a3 gZ gL gS
    rcases List.mem_cons.mp hp with rfl | hp
    · obtain rfl := hp_y0 hys
      obtain ⟨y0, t0, rfl, q0, g0⟩ := hp_gSi (z := (0 + 0)) gS rfl
      obtain ⟨y1, t1, rfl, q1, g1⟩ := hp_gSi (z := (0 + (7 * i + 0))) g0 rfl
      obtain ⟨t2, rfl, g2⟩ := hp_gSa g1 (by decide)
      cases hp_gSn g2
      exact e0 l' h' y0 y1 (by omega) (by omega) a1 a2 a3 (hp_gLa gL (List.mem_of_getElem? (i := 0) rfl) (by decide)) (hp_gLi (z := (0 + (1 * i + 0))) gL (List.mem_of_getElem? (i := 1) rfl) rfl (by omega))
    cases hp
  · intro p hp ys v h' hys a1 a2 a3 gZ gS
    cases hp
theorem fy3_k : hp_chk 29 35 1 [(0, 0, 5)] [] [(0, .inr (.inr (.inl (some 77)))), (1, .inl (0, [(0, 1)]))] [] [] [] 2 [(17, ([], 1, [(0, 0, 5)], [], [(0, .inr (.inr (.inl (some 77)))), (1, .inl (1, [(0, 1)]))], [], []))] [] = true := by decide +kernel
theorem fy3 {cst : am_K} {strs : List Nat} {Φ : am_Q → Prop} {D : Nat} {M : am_M} {h : am_H} {l : am_L} (c : hp_C cst strs D) (hM : m_P[29]? = some M) (hD : (2 : Int) ≤ (D : Int) + 1) (hy : ly_hy m_tt ly_TH h) (i : Int) (b0 : 0 ≤ i) (t0 : i ≤ 5) (l0 : hp_a l 0 77) (l1 : hp_i l 1 (i)) (e0 : ∀ (l' : am_L) (h' : am_H), ly_hy m_tt ly_TH h' → ly_fr cst [] h h' → h.length ≤ h'.length → hp_a l' 0 77 → hp_i l' 1 (i + 1) → hp_F cst strs Φ D M 17 l' [] h') : hp_F cst strs Φ D M 35 l [] h := by
  refine hp_arc c hM fy3_k hD [i] rfl hy (hp_Bc (z := i) rfl b0 t0 hp_Bn) hp_Fn hp_Kn (hp_La l0 (hp_Li (z := (0 + (1 * i + 0))) l1 rfl (by omega) hp_Ln)) trivial ?_ ?_
  · intro p hp ys l' st' h' hys a1 a2 a3 gZ gL gS
    rcases List.mem_cons.mp hp with rfl | hp
    · obtain rfl := hp_y0 hys
      cases hp_gSn gS
      exact e0 l' h' a1 a2 a3 (hp_gLa gL (List.mem_of_getElem? (i := 0) rfl) (by decide)) (hp_gLi (z := (1 + (1 * i + 0))) gL (List.mem_of_getElem? (i := 1) rfl) rfl (by omega))
    cases hp
  · intro p hp ys v h' hys a1 a2 a3 gZ gS
    cases hp
theorem fy4_k : hp_chk 29 17 0 [] [] [(0, .inr (.inr (.inl (some 77)))), (1, .inl (6, []))] [] [] [] 2 [(43, ([], 0, [], [], [(0, .inr (.inr (.inl (some 77)))), (1, .inl (0, []))], [], []))] [] = true := by decide +kernel
theorem fy4 {cst : am_K} {strs : List Nat} {Φ : am_Q → Prop} {D : Nat} {M : am_M} {h : am_H} {l : am_L} (c : hp_C cst strs D) (hM : m_P[29]? = some M) (hD : (2 : Int) ≤ (D : Int) + 1) (hy : ly_hy m_tt ly_TH h) (l0 : hp_a l 0 77) (l1 : hp_i l 1 6) (e0 : ∀ (l' : am_L) (h' : am_H), ly_hy m_tt ly_TH h' → ly_fr cst [] h h' → h.length ≤ h'.length → hp_a l' 0 77 → hp_i l' 1 0 → hp_F cst strs Φ D M 43 l' [] h') : hp_F cst strs Φ D M 17 l [] h := by
  refine hp_arc c hM fy4_k hD [] rfl hy hp_Bn hp_Fn hp_Kn (hp_La l0 (hp_Li (z := (6 + 0)) l1 rfl (by omega) hp_Ln)) trivial ?_ ?_
  · intro p hp ys l' st' h' hys a1 a2 a3 gZ gL gS
    rcases List.mem_cons.mp hp with rfl | hp
    · obtain rfl := hp_y0 hys
      cases hp_gSn gS
      exact e0 l' h' a1 a2 a3 (hp_gLa gL (List.mem_of_getElem? (i := 0) rfl) (by decide)) (hp_gLi (z := (0 + 0)) gL (List.mem_of_getElem? (i := 1) rfl) rfl (by omega))
    cases hp
  · intro p hp ys v h' hys a1 a2 a3 gZ gS
    cases hp
theorem fy5_k : hp_chk 29 43 1 [(0, 0, 5)] [] [(0, .inr (.inr (.inl (some 77)))), (1, .inl (0, [(0, 1)]))] [] [] [] 2 [(51, ([], 1, [(0, 0, 5)], [], [(0, .inr (.inr (.inl (some 77)))), (1, .inl (0, [(0, 1)])), (2, .inl (0, []))], [], []))] [] = true := by decide +kernel
theorem fy5 {cst : am_K} {strs : List Nat} {Φ : am_Q → Prop} {D : Nat} {M : am_M} {h : am_H} {l : am_L} (c : hp_C cst strs D) (hM : m_P[29]? = some M) (hD : (2 : Int) ≤ (D : Int) + 1) (hy : ly_hy m_tt ly_TH h) (b : Int) (b0 : 0 ≤ b) (t0 : b ≤ 5) (l0 : hp_a l 0 77) (l1 : hp_i l 1 (b)) (e0 : ∀ (l' : am_L) (h' : am_H), ly_hy m_tt ly_TH h' → ly_fr cst [] h h' → h.length ≤ h'.length → hp_a l' 0 77 → hp_i l' 1 (b) → hp_i l' 2 0 → hp_F cst strs Φ D M 51 l' [] h') : hp_F cst strs Φ D M 43 l [] h := by
  refine hp_arc c hM fy5_k hD [b] rfl hy (hp_Bc (z := b) rfl b0 t0 hp_Bn) hp_Fn hp_Kn (hp_La l0 (hp_Li (z := (0 + (1 * b + 0))) l1 rfl (by omega) hp_Ln)) trivial ?_ ?_
  · intro p hp ys l' st' h' hys a1 a2 a3 gZ gL gS
    rcases List.mem_cons.mp hp with rfl | hp
    · obtain rfl := hp_y0 hys
      cases hp_gSn gS
      exact e0 l' h' a1 a2 a3 (hp_gLa gL (List.mem_of_getElem? (i := 0) rfl) (by decide)) (hp_gLi (z := (0 + (1 * b + 0))) gL (List.mem_of_getElem? (i := 1) rfl) rfl (by omega)) (hp_gLi (z := (0 + 0)) gL (List.mem_of_getElem? (i := 2) rfl) rfl (by omega))
    cases hp
  · intro p hp ys v h' hys a1 a2 a3 gZ gS
    cases hp
theorem fy6_k : hp_chk 29 43 0 [] [] [(0, .inr (.inr (.inl (some 77)))), (1, .inl (6, []))] [] [] [] 2 [] [([], 0, [], [], [], [], [])] = true := by decide +kernel
theorem fy6 {cst : am_K} {strs : List Nat} {Φ : am_Q → Prop} {D : Nat} {M : am_M} {h : am_H} {l : am_L} (c : hp_C cst strs D) (hM : m_P[29]? = some M) (hD : (2 : Int) ≤ (D : Int) + 1) (hy : ly_hy m_tt ly_TH h) (l0 : hp_a l 0 77) (l1 : hp_i l 1 6) (r0 : ∀ (h' : am_H), ly_hy m_tt ly_TH h' → ly_fr cst [] h h' → h.length ≤ h'.length → Φ (none, h', 0, 0)) : hp_F cst strs Φ D M 43 l [] h := by
  refine hp_arc c hM fy6_k hD [] rfl hy hp_Bn hp_Fn hp_Kn (hp_La l0 (hp_Li (z := (6 + 0)) l1 rfl (by omega) hp_Ln)) trivial ?_ ?_
  · intro p hp ys l' st' h' hys a1 a2 a3 gZ gL gS
    cases hp
  · intro p hp ys v h' hys a1 a2 a3 gZ gS
    rcases List.mem_cons.mp hp with rfl | hp
    · obtain rfl := hp_y0 hys
      have sv := hp_gSn gS
      cases v with
      | some w => cases sv
      | none =>
        exact r0 h' a1 a2 a3
    cases hp
theorem fy7_k : hp_chk 29 51 2 [(0, 0, 5), (1, 0, 5)] [] [(0, .inr (.inr (.inl (some 77)))), (1, .inl (0, [(0, 1)])), (2, .inl (0, [(1, 1)]))] [] [] [] 2 [(59, ([], 2, [(0, 0, 5), (1, 0, 5)], [], [(0, .inr (.inr (.inl (some 77)))), (1, .inl (0, [(0, 1)])), (2, .inl (0, [(1, 1)])), (3, .inl (0, []))], [], []))] [] = true := by decide +kernel
theorem fy7 {cst : am_K} {strs : List Nat} {Φ : am_Q → Prop} {D : Nat} {M : am_M} {h : am_H} {l : am_L} (c : hp_C cst strs D) (hM : m_P[29]? = some M) (hD : (2 : Int) ≤ (D : Int) + 1) (hy : ly_hy m_tt ly_TH h) (b s : Int) (b0 : 0 ≤ b) (t0 : b ≤ 5) (b1 : 0 ≤ s) (t1 : s ≤ 5) (l0 : hp_a l 0 77) (l1 : hp_i l 1 (b)) (l2 : hp_i l 2 (s)) (e0 : ∀ (l' : am_L) (h' : am_H), ly_hy m_tt ly_TH h' → ly_fr cst [] h h' → h.length ≤ h'.length → hp_a l' 0 77 → hp_i l' 1 (b) → hp_i l' 2 (s) → hp_i l' 3 0 → hp_F cst strs Φ D M 59 l' [] h') : hp_F cst strs Φ D M 51 l [] h := by
  refine hp_arc c hM fy7_k hD [b, s] rfl hy (hp_Bc (z := b) rfl b0 t0 (hp_Bc (z := s) rfl b1 t1 hp_Bn)) hp_Fn hp_Kn (hp_La l0 (hp_Li (z := (0 + (1 * b + 0))) l1 rfl (by omega) (hp_Li (z := (0 + (1 * s + 0))) l2 rfl (by omega) hp_Ln))) trivial ?_ ?_
  · intro p hp ys l' st' h' hys a1 a2 a3 gZ gL gS
    rcases List.mem_cons.mp hp with rfl | hp
    · obtain rfl := hp_y0 hys
      cases hp_gSn gS
      exact e0 l' h' a1 a2 a3 (hp_gLa gL (List.mem_of_getElem? (i := 0) rfl) (by decide)) (hp_gLi (z := (0 + (1 * b + 0))) gL (List.mem_of_getElem? (i := 1) rfl) rfl (by omega)) (hp_gLi (z := (0 + (1 * s + 0))) gL (List.mem_of_getElem? (i := 2) rfl) rfl (by omega)) (hp_gLi (z := (0 + 0)) gL (List.mem_of_getElem? (i := 3) rfl) rfl (by omega))
    cases hp
  · intro p hp ys v h' hys a1 a2 a3 gZ gS
    cases hp
theorem fy8_k : hp_chk 29 51 1 [(0, 0, 5)] [] [(0, .inr (.inr (.inl (some 77)))), (1, .inl (0, [(0, 1)])), (2, .inl (6, []))] [] [] [] 2 [(43, ([], 1, [(0, 0, 5)], [], [(0, .inr (.inr (.inl (some 77)))), (1, .inl (1, [(0, 1)]))], [], []))] [] = true := by decide +kernel
theorem fy8 {cst : am_K} {strs : List Nat} {Φ : am_Q → Prop} {D : Nat} {M : am_M} {h : am_H} {l : am_L} (c : hp_C cst strs D) (hM : m_P[29]? = some M) (hD : (2 : Int) ≤ (D : Int) + 1) (hy : ly_hy m_tt ly_TH h) (b : Int) (b0 : 0 ≤ b) (t0 : b ≤ 5) (l0 : hp_a l 0 77) (l1 : hp_i l 1 (b)) (l2 : hp_i l 2 6) (e0 : ∀ (l' : am_L) (h' : am_H), ly_hy m_tt ly_TH h' → ly_fr cst [] h h' → h.length ≤ h'.length → hp_a l' 0 77 → hp_i l' 1 (b + 1) → hp_F cst strs Φ D M 43 l' [] h') : hp_F cst strs Φ D M 51 l [] h := by
  refine hp_arc c hM fy8_k hD [b] rfl hy (hp_Bc (z := b) rfl b0 t0 hp_Bn) hp_Fn hp_Kn (hp_La l0 (hp_Li (z := (0 + (1 * b + 0))) l1 rfl (by omega) (hp_Li (z := (6 + 0)) l2 rfl (by omega) hp_Ln))) trivial ?_ ?_
  · intro p hp ys l' st' h' hys a1 a2 a3 gZ gL gS
    rcases List.mem_cons.mp hp with rfl | hp
    · obtain rfl := hp_y0 hys
      cases hp_gSn gS
      exact e0 l' h' a1 a2 a3 (hp_gLa gL (List.mem_of_getElem? (i := 0) rfl) (by decide)) (hp_gLi (z := (1 + (1 * b + 0))) gL (List.mem_of_getElem? (i := 1) rfl) rfl (by omega))
    cases hp
  · intro p hp ys v h' hys a1 a2 a3 gZ gS
    cases hp
theorem fy9_k : hp_chk 29 59 3 [(0, 0, 5), (1, 0, 5), (2, 0, 5)] [] [(0, .inr (.inr (.inl (some 77)))), (1, .inl (0, [(0, 1)])), (2, .inl (0, [(1, 1)])), (3, .inl (0, [(2, 1)]))] [] [] [] 2 [(69, ([], 3, [(0, 0, 5), (1, 0, 5), (2, 0, 5)], [], [(0, .inr (.inr (.inl (some 77)))), (1, .inl (0, [(0, 1)])), (2, .inl (0, [(1, 1)])), (3, .inl (0, [(2, 1)]))], [.inl (0, [(2, 1)]), .inl (0, [(0, 1)]), .inl (0, [(1, 1)]), .inr (.inr (.inl (some 77)))], []))] [] = true := by decide +kernel
theorem fy9 {cst : am_K} {strs : List Nat} {Φ : am_Q → Prop} {D : Nat} {M : am_M} {h : am_H} {l : am_L} (c : hp_C cst strs D) (hM : m_P[29]? = some M) (hD : (2 : Int) ≤ (D : Int) + 1) (hy : ly_hy m_tt ly_TH h) (b s o : Int) (b0 : 0 ≤ b) (t0 : b ≤ 5) (b1 : 0 ≤ s) (t1 : s ≤ 5) (b2 : 0 ≤ o) (t2 : o ≤ 5) (l0 : hp_a l 0 77) (l1 : hp_i l 1 (b)) (l2 : hp_i l 2 (s)) (l3 : hp_i l 3 (o)) (e0 : ∀ (l' : am_L) (h' : am_H) (y0 : Int32) (y1 : Int32) (y2 : Int32), y0.toInt = (o) → y1.toInt = (b) → y2.toInt = (s) → ly_hy m_tt ly_TH h' → ly_fr cst [] h h' → h.length ≤ h'.length → hp_a l' 0 77 → hp_i l' 1 (b) → hp_i l' 2 (s) → hp_i l' 3 (o) → hp_F cst strs Φ D M 69 l' [.int y0, .int y1, .int y2, .ref 77] h') : hp_F cst strs Φ D M 59 l [] h := by
  refine hp_arc c hM fy9_k hD [b, s, o] rfl hy (hp_Bc (z := b) rfl b0 t0 (hp_Bc (z := s) rfl b1 t1 (hp_Bc (z := o) rfl b2 t2 hp_Bn))) hp_Fn hp_Kn (hp_La l0 (hp_Li (z := (0 + (1 * b + 0))) l1 rfl (by omega) (hp_Li (z := (0 + (1 * s + 0))) l2 rfl (by omega) (hp_Li (z := (0 + (1 * o + 0))) l3 rfl (by omega) hp_Ln)))) trivial ?_ ?_
  · intro p hp ys l' st' h' hys a1 a2 a3 gZ gL gS
    rcases List.mem_cons.mp hp with rfl | hp
    · obtain rfl := hp_y0 hys
      obtain ⟨y0, t0, rfl, q0, g0⟩ := hp_gSi (z := (0 + (1 * o + 0))) gS rfl
      obtain ⟨y1, t1, rfl, q1, g1⟩ := hp_gSi (z := (0 + (1 * b + 0))) g0 rfl
      obtain ⟨y2, t2, rfl, q2, g2⟩ := hp_gSi (z := (0 + (1 * s + 0))) g1 rfl
      obtain ⟨t3, rfl, g3⟩ := hp_gSa g2 (by decide)
      cases hp_gSn g3
      exact e0 l' h' y0 y1 y2 (by omega) (by omega) (by omega) a1 a2 a3 (hp_gLa gL (List.mem_of_getElem? (i := 0) rfl) (by decide)) (hp_gLi (z := (0 + (1 * b + 0))) gL (List.mem_of_getElem? (i := 1) rfl) rfl (by omega)) (hp_gLi (z := (0 + (1 * s + 0))) gL (List.mem_of_getElem? (i := 2) rfl) rfl (by omega)) (hp_gLi (z := (0 + (1 * o + 0))) gL (List.mem_of_getElem? (i := 3) rfl) rfl (by omega))
    cases hp
  · intro p hp ys v h' hys a1 a2 a3 gZ gS
    cases hp
theorem fya_k : hp_chk 29 59 2 [(0, 0, 5), (1, 0, 5)] [] [(0, .inr (.inr (.inl (some 77)))), (1, .inl (0, [(0, 1)])), (2, .inl (0, [(1, 1)])), (3, .inl (6, []))] [] [] [] 2 [(51, ([], 2, [(0, 0, 5), (1, 0, 5)], [], [(0, .inr (.inr (.inl (some 77)))), (1, .inl (0, [(0, 1)])), (2, .inl (1, [(1, 1)]))], [], []))] [] = true := by decide +kernel
theorem fya {cst : am_K} {strs : List Nat} {Φ : am_Q → Prop} {D : Nat} {M : am_M} {h : am_H} {l : am_L} (c : hp_C cst strs D) (hM : m_P[29]? = some M) (hD : (2 : Int) ≤ (D : Int) + 1) (hy : ly_hy m_tt ly_TH h) (b s : Int) (b0 : 0 ≤ b) (t0 : b ≤ 5) (b1 : 0 ≤ s) (t1 : s ≤ 5) (l0 : hp_a l 0 77) (l1 : hp_i l 1 (b)) (l2 : hp_i l 2 (s)) (l3 : hp_i l 3 6) (e0 : ∀ (l' : am_L) (h' : am_H), ly_hy m_tt ly_TH h' → ly_fr cst [] h h' → h.length ≤ h'.length → hp_a l' 0 77 → hp_i l' 1 (b) → hp_i l' 2 (s + 1) → hp_F cst strs Φ D M 51 l' [] h') : hp_F cst strs Φ D M 59 l [] h := by
  refine hp_arc c hM fya_k hD [b, s] rfl hy (hp_Bc (z := b) rfl b0 t0 (hp_Bc (z := s) rfl b1 t1 hp_Bn)) hp_Fn hp_Kn (hp_La l0 (hp_Li (z := (0 + (1 * b + 0))) l1 rfl (by omega) (hp_Li (z := (0 + (1 * s + 0))) l2 rfl (by omega) (hp_Li (z := (6 + 0)) l3 rfl (by omega) hp_Ln)))) trivial ?_ ?_
  · intro p hp ys l' st' h' hys a1 a2 a3 gZ gL gS
    rcases List.mem_cons.mp hp with rfl | hp
    · obtain rfl := hp_y0 hys
      cases hp_gSn gS
      exact e0 l' h' a1 a2 a3 (hp_gLa gL (List.mem_of_getElem? (i := 0) rfl) (by decide)) (hp_gLi (z := (0 + (1 * b + 0))) gL (List.mem_of_getElem? (i := 1) rfl) rfl (by omega)) (hp_gLi (z := (1 + (1 * s + 0))) gL (List.mem_of_getElem? (i := 2) rfl) rfl (by omega))
    cases hp
  · intro p hp ys v h' hys a1 a2 a3 gZ gS
    cases hp
theorem fyb_k : hp_chk 29 72 3 [(0, 0, 5), (1, 0, 5), (2, 0, 5)] [] [(0, .inr (.inr (.inl (some 77)))), (1, .inl (0, [(0, 1)])), (2, .inl (0, [(1, 1)])), (3, .inl (0, [(2, 1)]))] [] [] [] 2 [(59, ([], 3, [(0, 0, 5), (1, 0, 5), (2, 0, 5)], [], [(0, .inr (.inr (.inl (some 77)))), (1, .inl (0, [(0, 1)])), (2, .inl (0, [(1, 1)])), (3, .inl (1, [(2, 1)]))], [], []))] [] = true := by decide +kernel
theorem fyb {cst : am_K} {strs : List Nat} {Φ : am_Q → Prop} {D : Nat} {M : am_M} {h : am_H} {l : am_L} (c : hp_C cst strs D) (hM : m_P[29]? = some M) (hD : (2 : Int) ≤ (D : Int) + 1) (hy : ly_hy m_tt ly_TH h) (b s o : Int) (b0 : 0 ≤ b) (t0 : b ≤ 5) (b1 : 0 ≤ s) (t1 : s ≤ 5) (b2 : 0 ≤ o) (t2 : o ≤ 5) (l0 : hp_a l 0 77) (l1 : hp_i l 1 (b)) (l2 : hp_i l 2 (s)) (l3 : hp_i l 3 (o)) (e0 : ∀ (l' : am_L) (h' : am_H), ly_hy m_tt ly_TH h' → ly_fr cst [] h h' → h.length ≤ h'.length → hp_a l' 0 77 → hp_i l' 1 (b) → hp_i l' 2 (s) → hp_i l' 3 (o + 1) → hp_F cst strs Φ D M 59 l' [] h') : hp_F cst strs Φ D M 72 l [] h := by
  refine hp_arc c hM fyb_k hD [b, s, o] rfl hy (hp_Bc (z := b) rfl b0 t0 (hp_Bc (z := s) rfl b1 t1 (hp_Bc (z := o) rfl b2 t2 hp_Bn))) hp_Fn hp_Kn (hp_La l0 (hp_Li (z := (0 + (1 * b + 0))) l1 rfl (by omega) (hp_Li (z := (0 + (1 * s + 0))) l2 rfl (by omega) (hp_Li (z := (0 + (1 * o + 0))) l3 rfl (by omega) hp_Ln)))) trivial ?_ ?_
  · intro p hp ys l' st' h' hys a1 a2 a3 gZ gL gS
    rcases List.mem_cons.mp hp with rfl | hp
    · obtain rfl := hp_y0 hys
      cases hp_gSn gS
      exact e0 l' h' a1 a2 a3 (hp_gLa gL (List.mem_of_getElem? (i := 0) rfl) (by decide)) (hp_gLi (z := (0 + (1 * b + 0))) gL (List.mem_of_getElem? (i := 1) rfl) rfl (by omega)) (hp_gLi (z := (0 + (1 * s + 0))) gL (List.mem_of_getElem? (i := 2) rfl) rfl (by omega)) (hp_gLi (z := (1 + (1 * o + 0))) gL (List.mem_of_getElem? (i := 3) rfl) rfl (by omega))
    cases hp
  · intro p hp ys v h' hys a1 a2 a3 gZ gS
    cases hp
theorem gf0_k : hp_chk 404 0 0 [] [] [(0, .inr (.inr (.inl (some 94))))] [] [] [] 2 [(2, ([], 0, [], [], [(0, .inr (.inr (.inl (some 94)))), (1, .inl (0, []))], [], []))] [] = true := by decide +kernel
theorem gf0 {cst : am_K} {strs : List Nat} {Φ : am_Q → Prop} {D : Nat} {M : am_M} {h : am_H} {l : am_L} (c : hp_C cst strs D) (hM : m_P[404]? = some M) (hD : (2 : Int) ≤ (D : Int) + 1) (hy : ly_hy m_tt ly_TH h) (l0 : hp_a l 0 94) (e0 : ∀ (l' : am_L) (h' : am_H), ly_hy m_tt ly_TH h' → ly_fr cst [] h h' → h.length ≤ h'.length → hp_a l' 0 94 → hp_i l' 1 0 → hp_F cst strs Φ D M 2 l' [] h') : hp_F cst strs Φ D M 0 l [] h := by
  refine hp_arc c hM gf0_k hD [] rfl hy hp_Bn hp_Fn hp_Kn (hp_La l0 hp_Ln) trivial ?_ ?_
  · intro p hp ys l' st' h' hys a1 a2 a3 gZ gL gS
    rcases List.mem_cons.mp hp with rfl | hp
    · obtain rfl := hp_y0 hys
      cases hp_gSn gS
      exact e0 l' h' a1 a2 a3 (hp_gLa gL (List.mem_of_getElem? (i := 0) rfl) (by decide)) (hp_gLi (z := (0 + 0)) gL (List.mem_of_getElem? (i := 1) rfl) rfl (by omega))
    cases hp
  · intro p hp ys v h' hys a1 a2 a3 gZ gS
    cases hp
theorem gf1_k : hp_chk 404 2 1 [(0, 0, 35)] [] [(0, .inr (.inr (.inl (some 94)))), (1, .inl (0, [(0, 1)]))] [] [] [] 2 [(16, ([], 1, [(0, 0, 35)], [], [(0, .inr (.inr (.inl (some 94)))), (1, .inl (0, [(0, 1)]))], [.inl (7, []), .inl (0, [(0, 1)]), .inl (0, [(0, 1)]), .inr (.inr (.inl (some 181)))], []))] [] = true := by decide +kernel
theorem gf1 {cst : am_K} {strs : List Nat} {Φ : am_Q → Prop} {D : Nat} {M : am_M} {h : am_H} {l : am_L} (c : hp_C cst strs D) (hM : m_P[404]? = some M) (hD : (2 : Int) ≤ (D : Int) + 1) (hy : ly_hy m_tt ly_TH h) (k : Int) (b0 : 0 ≤ k) (t0 : k ≤ 35) (l0 : hp_a l 0 94) (l1 : hp_i l 1 (k)) (e0 : ∀ (l' : am_L) (h' : am_H) (y0 : Int32) (y1 : Int32) (y2 : Int32), y0.toInt = 7 → y1.toInt = (k) → y2.toInt = (k) → ly_hy m_tt ly_TH h' → ly_fr cst [] h h' → h.length ≤ h'.length → hp_a l' 0 94 → hp_i l' 1 (k) → hp_F cst strs Φ D M 16 l' [.int y0, .int y1, .int y2, .ref 181] h') : hp_F cst strs Φ D M 2 l [] h := by
  refine hp_arc c hM gf1_k hD [k] rfl hy (hp_Bc (z := k) rfl b0 t0 hp_Bn) hp_Fn hp_Kn (hp_La l0 (hp_Li (z := (0 + (1 * k + 0))) l1 rfl (by omega) hp_Ln)) trivial ?_ ?_
  · intro p hp ys l' st' h' hys a1 a2 a3 gZ gL gS
    rcases List.mem_cons.mp hp with rfl | hp
    · obtain rfl := hp_y0 hys
      obtain ⟨y0, t0, rfl, q0, g0⟩ := hp_gSi (z := (7 + 0)) gS rfl
      obtain ⟨y1, t1, rfl, q1, g1⟩ := hp_gSi (z := (0 + (1 * k + 0))) g0 rfl
      obtain ⟨y2, t2, rfl, q2, g2⟩ := hp_gSi (z := (0 + (1 * k + 0))) g1 rfl
      obtain ⟨t3, rfl, g3⟩ := hp_gSa g2 (by decide)
      cases hp_gSn g3
      exact e0 l' h' y0 y1 y2 (by omega) (by omega) (by omega) a1 a2 a3 (hp_gLa gL (List.mem_of_getElem? (i := 0) rfl) (by decide)) (hp_gLi (z := (0 + (1 * k + 0))) gL (List.mem_of_getElem? (i := 1) rfl) rfl (by omega))
    cases hp
  · intro p hp ys v h' hys a1 a2 a3 gZ gS
    cases hp
theorem gf2_k : hp_chk 404 17 1 [(0, 0, 35)] [] [(0, .inr (.inr (.inl (some 94)))), (1, .inl (0, [(0, 1)]))] [.inl (0, []), .inl (0, [(0, 1)]), .inr (.inr (.inl (some 181)))] [] [] 2 [(46, ([], 1, [(0, 0, 35)], [], [(0, .inr (.inr (.inl (some 94)))), (1, .inl (0, [(0, 1)]))], [.inl (0, []), .inl (0, [(0, 1)]), .inr (.inr (.inl (some 181)))], []))] [] = true := by decide +kernel
theorem gf2 {cst : am_K} {strs : List Nat} {Φ : am_Q → Prop} {D : Nat} {M : am_M} {h : am_H} {l : am_L} (c : hp_C cst strs D) (hM : m_P[404]? = some M) (hD : (2 : Int) ≤ (D : Int) + 1) (hy : ly_hy m_tt ly_TH h) (k : Int) (x0 : Int32) (x1 : Int32) (hx0 : x0.toInt = 0) (hx1 : x1.toInt = (k)) (b0 : 0 ≤ k) (t0 : k ≤ 35) (l0 : hp_a l 0 94) (l1 : hp_i l 1 (k)) (e0 : ∀ (l' : am_L) (h' : am_H) (y0 : Int32) (y1 : Int32), y0.toInt = 0 → y1.toInt = (k) → ly_hy m_tt ly_TH h' → ly_fr cst [] h h' → h.length ≤ h'.length → hp_a l' 0 94 → hp_i l' 1 (k) → hp_F cst strs Φ D M 46 l' [.int y0, .int y1, .ref 181] h') : hp_F cst strs Φ D M 17 l [.int x0, .int x1, .ref 181] h := by
  refine hp_arc c hM gf2_k hD [k] rfl hy (hp_Bc (z := k) rfl b0 t0 hp_Bn) hp_Fn hp_Kn (hp_La l0 (hp_Li (z := (0 + (1 * k + 0))) l1 rfl (by omega) hp_Ln)) (hp_Si (z := (0 + 0)) rfl (by omega) (hp_Si (z := (0 + (1 * k + 0))) rfl (by omega) (hp_Sa trivial))) ?_ ?_
  · intro p hp ys l' st' h' hys a1 a2 a3 gZ gL gS
    rcases List.mem_cons.mp hp with rfl | hp
    · obtain rfl := hp_y0 hys
      obtain ⟨y0, t0, rfl, q0, g0⟩ := hp_gSi (z := (0 + 0)) gS rfl
      obtain ⟨y1, t1, rfl, q1, g1⟩ := hp_gSi (z := (0 + (1 * k + 0))) g0 rfl
      obtain ⟨t2, rfl, g2⟩ := hp_gSa g1 (by decide)
      cases hp_gSn g2
      exact e0 l' h' y0 y1 (by omega) (by omega) a1 a2 a3 (hp_gLa gL (List.mem_of_getElem? (i := 0) rfl) (by decide)) (hp_gLi (z := (0 + (1 * k + 0))) gL (List.mem_of_getElem? (i := 1) rfl) rfl (by omega))
    cases hp
  · intro p hp ys v h' hys a1 a2 a3 gZ gS
    cases hp
theorem gf3_k : hp_chk 404 17 2 [(0, 0, 35), (1, 1, 6)] [] [(0, .inr (.inr (.inl (some 94)))), (1, .inl (0, [(0, 1)]))] [.inl (0, [(1, 1)]), .inl (0, [(0, 1)]), .inr (.inr (.inl (some 181)))] [(20480, (0, [(0, 1)]), ((-1), []))] [] 2 [(46, ([], 2, [(0, 0, 35), (1, 1, 6)], [], [(0, .inr (.inr (.inl (some 94)))), (1, .inl (0, [(0, 1)]))], [.inl (100000, []), .inl (0, [(0, 1)]), .inr (.inr (.inl (some 181)))], []))] [] = true := by decide +kernel
theorem gf3 {cst : am_K} {strs : List Nat} {Φ : am_Q → Prop} {D : Nat} {M : am_M} {h : am_H} {l : am_L} (c : hp_C cst strs D) (hM : m_P[404]? = some M) (hD : (2 : Int) ≤ (D : Int) + 1) (hy : ly_hy m_tt ly_TH h) (k m : Int) (x0 : Int32) (x1 : Int32) (hx0 : x0.toInt = (m)) (hx1 : x1.toInt = (k)) (b0 : 0 ≤ k) (t0 : k ≤ 35) (b1 : 1 ≤ m) (t1 : m ≤ 6) (k0 : ly_hv cst h 20480 (k) = some (-1)) (l0 : hp_a l 0 94) (l1 : hp_i l 1 (k)) (e0 : ∀ (l' : am_L) (h' : am_H) (y0 : Int32) (y1 : Int32), y0.toInt = 100000 → y1.toInt = (k) → ly_hy m_tt ly_TH h' → ly_fr cst [] h h' → h.length ≤ h'.length → hp_a l' 0 94 → hp_i l' 1 (k) → hp_F cst strs Φ D M 46 l' [.int y0, .int y1, .ref 181] h') : hp_F cst strs Φ D M 17 l [.int x0, .int x1, .ref 181] h := by
  refine hp_arc c hM gf3_k hD [k, m] rfl hy (hp_Bc (z := k) rfl b0 t0 (hp_Bc (z := m) rfl b1 t1 hp_Bn)) hp_Fn (hp_Kc (zi := (0 + (1 * k + 0))) (zv := ((-1) + 0)) k0 rfl rfl (by omega) (by omega) hp_Kn) (hp_La l0 (hp_Li (z := (0 + (1 * k + 0))) l1 rfl (by omega) hp_Ln)) (hp_Si (z := (0 + (1 * m + 0))) rfl (by omega) (hp_Si (z := (0 + (1 * k + 0))) rfl (by omega) (hp_Sa trivial))) ?_ ?_
  · intro p hp ys l' st' h' hys a1 a2 a3 gZ gL gS
    rcases List.mem_cons.mp hp with rfl | hp
    · obtain rfl := hp_y0 hys
      obtain ⟨y0, t0, rfl, q0, g0⟩ := hp_gSi (z := (100000 + 0)) gS rfl
      obtain ⟨y1, t1, rfl, q1, g1⟩ := hp_gSi (z := (0 + (1 * k + 0))) g0 rfl
      obtain ⟨t2, rfl, g2⟩ := hp_gSa g1 (by decide)
      cases hp_gSn g2
      exact e0 l' h' y0 y1 (by omega) (by omega) a1 a2 a3 (hp_gLa gL (List.mem_of_getElem? (i := 0) rfl) (by decide)) (hp_gLi (z := (0 + (1 * k + 0))) gL (List.mem_of_getElem? (i := 1) rfl) rfl (by omega))
    cases hp
  · intro p hp ys v h' hys a1 a2 a3 gZ gS
    cases hp
theorem gf4_k : hp_chk 404 17 3 [(0, 0, 35), (1, 1, 6), (2, 0, 100000)] [] [(0, .inr (.inr (.inl (some 94)))), (1, .inl (0, [(0, 1)]))] [.inl (0, [(1, 1)]), .inl (0, [(0, 1)]), .inr (.inr (.inl (some 181)))] [(20480, (0, [(0, 1)]), (0, [(2, 1)]))] [] 2 [(46, ([], 3, [(0, 0, 35), (1, 1, 6), (2, 0, 100000)], [], [(0, .inr (.inr (.inl (some 94)))), (1, .inl (0, [(0, 1)]))], [.inl (0, [(2, 1)]), .inl (0, [(0, 1)]), .inr (.inr (.inl (some 181)))], []))] [] = true := by decide +kernel
theorem gf4 {cst : am_K} {strs : List Nat} {Φ : am_Q → Prop} {D : Nat} {M : am_M} {h : am_H} {l : am_L} (c : hp_C cst strs D) (hM : m_P[404]? = some M) (hD : (2 : Int) ≤ (D : Int) + 1) (hy : ly_hy m_tt ly_TH h) (k m v : Int) (x0 : Int32) (x1 : Int32) (hx0 : x0.toInt = (m)) (hx1 : x1.toInt = (k)) (b0 : 0 ≤ k) (t0 : k ≤ 35) (b1 : 1 ≤ m) (t1 : m ≤ 6) (b2 : 0 ≤ v) (t2 : v ≤ 100000) (k0 : ly_hv cst h 20480 (k) = some (v)) (l0 : hp_a l 0 94) (l1 : hp_i l 1 (k)) (e0 : ∀ (l' : am_L) (h' : am_H) (y0 : Int32) (y1 : Int32), y0.toInt = (v) → y1.toInt = (k) → ly_hy m_tt ly_TH h' → ly_fr cst [] h h' → h.length ≤ h'.length → hp_a l' 0 94 → hp_i l' 1 (k) → hp_F cst strs Φ D M 46 l' [.int y0, .int y1, .ref 181] h') : hp_F cst strs Φ D M 17 l [.int x0, .int x1, .ref 181] h := by
  refine hp_arc c hM gf4_k hD [k, m, v] rfl hy (hp_Bc (z := k) rfl b0 t0 (hp_Bc (z := m) rfl b1 t1 (hp_Bc (z := v) rfl b2 t2 hp_Bn))) hp_Fn (hp_Kc (zi := (0 + (1 * k + 0))) (zv := (0 + (1 * v + 0))) k0 rfl rfl (by omega) (by omega) hp_Kn) (hp_La l0 (hp_Li (z := (0 + (1 * k + 0))) l1 rfl (by omega) hp_Ln)) (hp_Si (z := (0 + (1 * m + 0))) rfl (by omega) (hp_Si (z := (0 + (1 * k + 0))) rfl (by omega) (hp_Sa trivial))) ?_ ?_
  · intro p hp ys l' st' h' hys a1 a2 a3 gZ gL gS
    rcases List.mem_cons.mp hp with rfl | hp
    · obtain rfl := hp_y0 hys
      obtain ⟨y0, t0, rfl, q0, g0⟩ := hp_gSi (z := (0 + (1 * v + 0))) gS rfl
      obtain ⟨y1, t1, rfl, q1, g1⟩ := hp_gSi (z := (0 + (1 * k + 0))) g0 rfl
      obtain ⟨t2, rfl, g2⟩ := hp_gSa g1 (by decide)
      cases hp_gSn g2
      exact e0 l' h' y0 y1 (by omega) (by omega) a1 a2 a3 (hp_gLa gL (List.mem_of_getElem? (i := 0) rfl) (by decide)) (hp_gLi (z := (0 + (1 * k + 0))) gL (List.mem_of_getElem? (i := 1) rfl) rfl (by omega))
    cases hp
  · intro p hp ys v h' hys a1 a2 a3 gZ gS
    cases hp
theorem gf5_k : hp_chk 404 47 1 [(0, 0, 35)] [] [(0, .inr (.inr (.inl (some 94)))), (1, .inl (0, [(0, 1)]))] [] [] [] 2 [(2, ([], 1, [(0, 0, 35)], [], [(0, .inr (.inr (.inl (some 94)))), (1, .inl (1, [(0, 1)]))], [], []))] [] = true := by decide +kernel
theorem gf5 {cst : am_K} {strs : List Nat} {Φ : am_Q → Prop} {D : Nat} {M : am_M} {h : am_H} {l : am_L} (c : hp_C cst strs D) (hM : m_P[404]? = some M) (hD : (2 : Int) ≤ (D : Int) + 1) (hy : ly_hy m_tt ly_TH h) (k : Int) (b0 : 0 ≤ k) (t0 : k ≤ 35) (l0 : hp_a l 0 94) (l1 : hp_i l 1 (k)) (e0 : ∀ (l' : am_L) (h' : am_H), ly_hy m_tt ly_TH h' → ly_fr cst [] h h' → h.length ≤ h'.length → hp_a l' 0 94 → hp_i l' 1 (k + 1) → hp_F cst strs Φ D M 2 l' [] h') : hp_F cst strs Φ D M 47 l [] h := by
  refine hp_arc c hM gf5_k hD [k] rfl hy (hp_Bc (z := k) rfl b0 t0 hp_Bn) hp_Fn hp_Kn (hp_La l0 (hp_Li (z := (0 + (1 * k + 0))) l1 rfl (by omega) hp_Ln)) trivial ?_ ?_
  · intro p hp ys l' st' h' hys a1 a2 a3 gZ gL gS
    rcases List.mem_cons.mp hp with rfl | hp
    · obtain rfl := hp_y0 hys
      cases hp_gSn gS
      exact e0 l' h' a1 a2 a3 (hp_gLa gL (List.mem_of_getElem? (i := 0) rfl) (by decide)) (hp_gLi (z := (1 + (1 * k + 0))) gL (List.mem_of_getElem? (i := 1) rfl) rfl (by omega))
    cases hp
  · intro p hp ys v h' hys a1 a2 a3 gZ gS
    cases hp
theorem gf6_k : hp_chk 404 2 0 [] [] [(0, .inr (.inr (.inl (some 94)))), (1, .inl (36, []))] [] [] [] 2 [(55, ([], 0, [], [], [(0, .inr (.inr (.inl (some 94)))), (1, .inl (0, []))], [], []))] [] = true := by decide +kernel
theorem gf6 {cst : am_K} {strs : List Nat} {Φ : am_Q → Prop} {D : Nat} {M : am_M} {h : am_H} {l : am_L} (c : hp_C cst strs D) (hM : m_P[404]? = some M) (hD : (2 : Int) ≤ (D : Int) + 1) (hy : ly_hy m_tt ly_TH h) (l0 : hp_a l 0 94) (l1 : hp_i l 1 36) (e0 : ∀ (l' : am_L) (h' : am_H), ly_hy m_tt ly_TH h' → ly_fr cst [] h h' → h.length ≤ h'.length → hp_a l' 0 94 → hp_i l' 1 0 → hp_F cst strs Φ D M 55 l' [] h') : hp_F cst strs Φ D M 2 l [] h := by
  refine hp_arc c hM gf6_k hD [] rfl hy hp_Bn hp_Fn hp_Kn (hp_La l0 (hp_Li (z := (36 + 0)) l1 rfl (by omega) hp_Ln)) trivial ?_ ?_
  · intro p hp ys l' st' h' hys a1 a2 a3 gZ gL gS
    rcases List.mem_cons.mp hp with rfl | hp
    · obtain rfl := hp_y0 hys
      cases hp_gSn gS
      exact e0 l' h' a1 a2 a3 (hp_gLa gL (List.mem_of_getElem? (i := 0) rfl) (by decide)) (hp_gLi (z := (0 + 0)) gL (List.mem_of_getElem? (i := 1) rfl) rfl (by omega))
    cases hp
  · intro p hp ys v h' hys a1 a2 a3 gZ gS
    cases hp
theorem gg5_k : hp_chk 404 55 1 [(0, 0, 5)] [] [(0, .inr (.inr (.inl (some 94)))), (1, .inl (0, [(0, 1)]))] [] [] [] 2 [(63, ([], 1, [(0, 0, 5)], [], [(0, .inr (.inr (.inl (some 94)))), (1, .inl (0, [(0, 1)])), (2, .inl (0, []))], [], []))] [] = true := by decide +kernel
theorem gg5 {cst : am_K} {strs : List Nat} {Φ : am_Q → Prop} {D : Nat} {M : am_M} {h : am_H} {l : am_L} (c : hp_C cst strs D) (hM : m_P[404]? = some M) (hD : (2 : Int) ≤ (D : Int) + 1) (hy : ly_hy m_tt ly_TH h) (b : Int) (b0 : 0 ≤ b) (t0 : b ≤ 5) (l0 : hp_a l 0 94) (l1 : hp_i l 1 (b)) (e0 : ∀ (l' : am_L) (h' : am_H), ly_hy m_tt ly_TH h' → ly_fr cst [] h h' → h.length ≤ h'.length → hp_a l' 0 94 → hp_i l' 1 (b) → hp_i l' 2 0 → hp_F cst strs Φ D M 63 l' [] h') : hp_F cst strs Φ D M 55 l [] h := by
  refine hp_arc c hM gg5_k hD [b] rfl hy (hp_Bc (z := b) rfl b0 t0 hp_Bn) hp_Fn hp_Kn (hp_La l0 (hp_Li (z := (0 + (1 * b + 0))) l1 rfl (by omega) hp_Ln)) trivial ?_ ?_
  · intro p hp ys l' st' h' hys a1 a2 a3 gZ gL gS
    rcases List.mem_cons.mp hp with rfl | hp
    · obtain rfl := hp_y0 hys
      cases hp_gSn gS
      exact e0 l' h' a1 a2 a3 (hp_gLa gL (List.mem_of_getElem? (i := 0) rfl) (by decide)) (hp_gLi (z := (0 + (1 * b + 0))) gL (List.mem_of_getElem? (i := 1) rfl) rfl (by omega)) (hp_gLi (z := (0 + 0)) gL (List.mem_of_getElem? (i := 2) rfl) rfl (by omega))
    cases hp
  · intro p hp ys v h' hys a1 a2 a3 gZ gS
    cases hp
theorem gg6_k : hp_chk 404 55 0 [] [] [(0, .inr (.inr (.inl (some 94)))), (1, .inl (6, []))] [] [] [] 2 [] [([], 0, [], [], [], [], [])] = true := by decide +kernel
theorem gg6 {cst : am_K} {strs : List Nat} {Φ : am_Q → Prop} {D : Nat} {M : am_M} {h : am_H} {l : am_L} (c : hp_C cst strs D) (hM : m_P[404]? = some M) (hD : (2 : Int) ≤ (D : Int) + 1) (hy : ly_hy m_tt ly_TH h) (l0 : hp_a l 0 94) (l1 : hp_i l 1 6) (r0 : ∀ (h' : am_H), ly_hy m_tt ly_TH h' → ly_fr cst [] h h' → h.length ≤ h'.length → Φ (none, h', 0, 0)) : hp_F cst strs Φ D M 55 l [] h := by
  refine hp_arc c hM gg6_k hD [] rfl hy hp_Bn hp_Fn hp_Kn (hp_La l0 (hp_Li (z := (6 + 0)) l1 rfl (by omega) hp_Ln)) trivial ?_ ?_
  · intro p hp ys l' st' h' hys a1 a2 a3 gZ gL gS
    cases hp
  · intro p hp ys v h' hys a1 a2 a3 gZ gS
    rcases List.mem_cons.mp hp with rfl | hp
    · obtain rfl := hp_y0 hys
      have sv := hp_gSn gS
      cases v with
      | some w => cases sv
      | none =>
        exact r0 h' a1 a2 a3
    cases hp
theorem gg7_k : hp_chk 404 63 2 [(0, 0, 5), (1, 0, 5)] [] [(0, .inr (.inr (.inl (some 94)))), (1, .inl (0, [(0, 1)])), (2, .inl (0, [(1, 1)]))] [] [] [] 2 [(71, ([], 2, [(0, 0, 5), (1, 0, 5)], [], [(0, .inr (.inr (.inl (some 94)))), (1, .inl (0, [(0, 1)])), (2, .inl (0, [(1, 1)])), (3, .inl (0, []))], [], []))] [] = true := by decide +kernel
theorem gg7 {cst : am_K} {strs : List Nat} {Φ : am_Q → Prop} {D : Nat} {M : am_M} {h : am_H} {l : am_L} (c : hp_C cst strs D) (hM : m_P[404]? = some M) (hD : (2 : Int) ≤ (D : Int) + 1) (hy : ly_hy m_tt ly_TH h) (b s : Int) (b0 : 0 ≤ b) (t0 : b ≤ 5) (b1 : 0 ≤ s) (t1 : s ≤ 5) (l0 : hp_a l 0 94) (l1 : hp_i l 1 (b)) (l2 : hp_i l 2 (s)) (e0 : ∀ (l' : am_L) (h' : am_H), ly_hy m_tt ly_TH h' → ly_fr cst [] h h' → h.length ≤ h'.length → hp_a l' 0 94 → hp_i l' 1 (b) → hp_i l' 2 (s) → hp_i l' 3 0 → hp_F cst strs Φ D M 71 l' [] h') : hp_F cst strs Φ D M 63 l [] h := by
  refine hp_arc c hM gg7_k hD [b, s] rfl hy (hp_Bc (z := b) rfl b0 t0 (hp_Bc (z := s) rfl b1 t1 hp_Bn)) hp_Fn hp_Kn (hp_La l0 (hp_Li (z := (0 + (1 * b + 0))) l1 rfl (by omega) (hp_Li (z := (0 + (1 * s + 0))) l2 rfl (by omega) hp_Ln))) trivial ?_ ?_
  · intro p hp ys l' st' h' hys a1 a2 a3 gZ gL gS
    rcases List.mem_cons.mp hp with rfl | hp
    · obtain rfl := hp_y0 hys
      cases hp_gSn gS
      exact e0 l' h' a1 a2 a3 (hp_gLa gL (List.mem_of_getElem? (i := 0) rfl) (by decide)) (hp_gLi (z := (0 + (1 * b + 0))) gL (List.mem_of_getElem? (i := 1) rfl) rfl (by omega)) (hp_gLi (z := (0 + (1 * s + 0))) gL (List.mem_of_getElem? (i := 2) rfl) rfl (by omega)) (hp_gLi (z := (0 + 0)) gL (List.mem_of_getElem? (i := 3) rfl) rfl (by omega))
    cases hp
  · intro p hp ys v h' hys a1 a2 a3 gZ gS
    cases hp
theorem gg8_k : hp_chk 404 63 1 [(0, 0, 5)] [] [(0, .inr (.inr (.inl (some 94)))), (1, .inl (0, [(0, 1)])), (2, .inl (6, []))] [] [] [] 2 [(55, ([], 1, [(0, 0, 5)], [], [(0, .inr (.inr (.inl (some 94)))), (1, .inl (1, [(0, 1)]))], [], []))] [] = true := by decide +kernel
theorem gg8 {cst : am_K} {strs : List Nat} {Φ : am_Q → Prop} {D : Nat} {M : am_M} {h : am_H} {l : am_L} (c : hp_C cst strs D) (hM : m_P[404]? = some M) (hD : (2 : Int) ≤ (D : Int) + 1) (hy : ly_hy m_tt ly_TH h) (b : Int) (b0 : 0 ≤ b) (t0 : b ≤ 5) (l0 : hp_a l 0 94) (l1 : hp_i l 1 (b)) (l2 : hp_i l 2 6) (e0 : ∀ (l' : am_L) (h' : am_H), ly_hy m_tt ly_TH h' → ly_fr cst [] h h' → h.length ≤ h'.length → hp_a l' 0 94 → hp_i l' 1 (b + 1) → hp_F cst strs Φ D M 55 l' [] h') : hp_F cst strs Φ D M 63 l [] h := by
  refine hp_arc c hM gg8_k hD [b] rfl hy (hp_Bc (z := b) rfl b0 t0 hp_Bn) hp_Fn hp_Kn (hp_La l0 (hp_Li (z := (0 + (1 * b + 0))) l1 rfl (by omega) (hp_Li (z := (6 + 0)) l2 rfl (by omega) hp_Ln))) trivial ?_ ?_
  · intro p hp ys l' st' h' hys a1 a2 a3 gZ gL gS
    rcases List.mem_cons.mp hp with rfl | hp
    · obtain rfl := hp_y0 hys
      cases hp_gSn gS
      exact e0 l' h' a1 a2 a3 (hp_gLa gL (List.mem_of_getElem? (i := 0) rfl) (by decide)) (hp_gLi (z := (1 + (1 * b + 0))) gL (List.mem_of_getElem? (i := 1) rfl) rfl (by omega))
    cases hp
  · intro p hp ys v h' hys a1 a2 a3 gZ gS
    cases hp
theorem gg9_k : hp_chk 404 71 6 [(0, 0, 5), (1, 0, 5), (2, 0, 5), (3, 0, 100000), (4, 0, 100000), (5, 0, 100000)] [(0, [(3, 1), (4, 1), (5, (-1))])] [(0, .inr (.inr (.inl (some 94)))), (1, .inl (0, [(0, 1)])), (2, .inl (0, [(1, 1)])), (3, .inl (0, [(2, 1)]))] [] [(42240, (0, [(0, 1), (1, 6)]), (0, [(3, 1)])), (42240, (0, [(0, 6), (2, 1)]), (0, [(4, 1)])), (42240, (0, [(1, 6), (2, 1)]), (0, [(5, 1)]))] [] 2 [(71, ([], 6, [(0, 0, 5), (1, 0, 5), (2, 0, 5), (3, 0, 100000), (4, 0, 100000), (5, 0, 100000)], [], [(0, .inr (.inr (.inl (some 94)))), (1, .inl (0, [(0, 1)])), (2, .inl (0, [(1, 1)])), (3, .inl (1, [(2, 1)]))], [], []))] [] = true := by decide +kernel
theorem gg9 {cst : am_K} {strs : List Nat} {Φ : am_Q → Prop} {D : Nat} {M : am_M} {h : am_H} {l : am_L} (c : hp_C cst strs D) (hM : m_P[404]? = some M) (hD : (2 : Int) ≤ (D : Int) + 1) (hy : ly_hy m_tt ly_TH h) (b s o f g n : Int) (b0 : 0 ≤ b) (t0 : b ≤ 5) (b1 : 0 ≤ s) (t1 : s ≤ 5) (b2 : 0 ≤ o) (t2 : o ≤ 5) (b3 : 0 ≤ f) (t3 : f ≤ 100000) (b4 : 0 ≤ g) (t4 : g ≤ 100000) (b5 : 0 ≤ n) (t5 : n ≤ 100000) (f0 : 0 ≤ (f + g - n)) (k0 : ly_hv cst h 42240 (6 * s + b) = some (f)) (k1 : ly_hv cst h 42240 (6 * b + o) = some (g)) (k2 : ly_hv cst h 42240 (6 * s + o) = some (n)) (l0 : hp_a l 0 94) (l1 : hp_i l 1 (b)) (l2 : hp_i l 2 (s)) (l3 : hp_i l 3 (o)) (e0 : ∀ (l' : am_L) (h' : am_H), ly_hy m_tt ly_TH h' → ly_fr cst [] h h' → h.length ≤ h'.length → hp_a l' 0 94 → hp_i l' 1 (b) → hp_i l' 2 (s) → hp_i l' 3 (o + 1) → hp_F cst strs Φ D M 71 l' [] h') : hp_F cst strs Φ D M 71 l [] h := by
  refine hp_arc c hM gg9_k hD [b, s, o, f, g, n] rfl hy (hp_Bc (z := b) rfl b0 t0 (hp_Bc (z := s) rfl b1 t1 (hp_Bc (z := o) rfl b2 t2 (hp_Bc (z := f) rfl b3 t3 (hp_Bc (z := g) rfl b4 t4 (hp_Bc (z := n) rfl b5 t5 hp_Bn)))))) (hp_Fc (z := (0 + (1 * f + (1 * g + ((-1) * n + 0))))) rfl (by omega) hp_Fn) (hp_Kc (zi := (0 + (1 * b + (6 * s + 0)))) (zv := (0 + (1 * f + 0))) k0 rfl rfl (by omega) (by omega) (hp_Kc (zi := (0 + (6 * b + (1 * o + 0)))) (zv := (0 + (1 * g + 0))) k1 rfl rfl (by omega) (by omega) (hp_Kc (zi := (0 + (6 * s + (1 * o + 0)))) (zv := (0 + (1 * n + 0))) k2 rfl rfl (by omega) (by omega) hp_Kn))) (hp_La l0 (hp_Li (z := (0 + (1 * b + 0))) l1 rfl (by omega) (hp_Li (z := (0 + (1 * s + 0))) l2 rfl (by omega) (hp_Li (z := (0 + (1 * o + 0))) l3 rfl (by omega) hp_Ln)))) trivial ?_ ?_
  · intro p hp ys l' st' h' hys a1 a2 a3 gZ gL gS
    rcases List.mem_cons.mp hp with rfl | hp
    · obtain rfl := hp_y0 hys
      cases hp_gSn gS
      exact e0 l' h' a1 a2 a3 (hp_gLa gL (List.mem_of_getElem? (i := 0) rfl) (by decide)) (hp_gLi (z := (0 + (1 * b + 0))) gL (List.mem_of_getElem? (i := 1) rfl) rfl (by omega)) (hp_gLi (z := (0 + (1 * s + 0))) gL (List.mem_of_getElem? (i := 2) rfl) rfl (by omega)) (hp_gLi (z := (1 + (1 * o + 0))) gL (List.mem_of_getElem? (i := 3) rfl) rfl (by omega))
    cases hp
  · intro p hp ys v h' hys a1 a2 a3 gZ gS
    cases hp
theorem ggc_k : hp_chk 404 71 6 [(0, 0, 5), (1, 0, 5), (2, 0, 5), (3, 0, 100000), (4, 0, 100000), (5, 0, 100000)] [((-1), [(3, (-1)), (4, (-1)), (5, 1)])] [(0, .inr (.inr (.inl (some 94)))), (1, .inl (0, [(0, 1)])), (2, .inl (0, [(1, 1)])), (3, .inl (0, [(2, 1)]))] [] [(42240, (0, [(0, 1), (1, 6)]), (0, [(3, 1)])), (42240, (0, [(0, 6), (2, 1)]), (0, [(4, 1)])), (42240, (0, [(1, 6), (2, 1)]), (0, [(5, 1)]))] [] 2 [(147, ([], 6, [(0, 0, 5), (1, 0, 5), (2, 0, 5), (3, 0, 100000), (4, 0, 100000), (5, 0, 100000)], [], [(0, .inr (.inr (.inl (some 94)))), (1, .inl (0, [(0, 1)])), (2, .inl (0, [(1, 1)])), (3, .inl (0, [(2, 1)]))], [.inl (0, [(3, 1), (4, 1)]), .inl (0, [(1, 6), (2, 1)]), .inr (.inr (.inl (some 181)))], []))] [] = true := by decide +kernel
theorem ggc {cst : am_K} {strs : List Nat} {Φ : am_Q → Prop} {D : Nat} {M : am_M} {h : am_H} {l : am_L} (c : hp_C cst strs D) (hM : m_P[404]? = some M) (hD : (2 : Int) ≤ (D : Int) + 1) (hy : ly_hy m_tt ly_TH h) (b s o f g n : Int) (b0 : 0 ≤ b) (t0 : b ≤ 5) (b1 : 0 ≤ s) (t1 : s ≤ 5) (b2 : 0 ≤ o) (t2 : o ≤ 5) (b3 : 0 ≤ f) (t3 : f ≤ 100000) (b4 : 0 ≤ g) (t4 : g ≤ 100000) (b5 : 0 ≤ n) (t5 : n ≤ 100000) (f0 : 0 ≤ (n - f - g - 1)) (k0 : ly_hv cst h 42240 (6 * s + b) = some (f)) (k1 : ly_hv cst h 42240 (6 * b + o) = some (g)) (k2 : ly_hv cst h 42240 (6 * s + o) = some (n)) (l0 : hp_a l 0 94) (l1 : hp_i l 1 (b)) (l2 : hp_i l 2 (s)) (l3 : hp_i l 3 (o)) (e0 : ∀ (l' : am_L) (h' : am_H) (y0 : Int32) (y1 : Int32), y0.toInt = (f + g) → y1.toInt = (6 * s + o) → ly_hy m_tt ly_TH h' → ly_fr cst [] h h' → h.length ≤ h'.length → hp_a l' 0 94 → hp_i l' 1 (b) → hp_i l' 2 (s) → hp_i l' 3 (o) → hp_F cst strs Φ D M 147 l' [.int y0, .int y1, .ref 181] h') : hp_F cst strs Φ D M 71 l [] h := by
  refine hp_arc c hM ggc_k hD [b, s, o, f, g, n] rfl hy (hp_Bc (z := b) rfl b0 t0 (hp_Bc (z := s) rfl b1 t1 (hp_Bc (z := o) rfl b2 t2 (hp_Bc (z := f) rfl b3 t3 (hp_Bc (z := g) rfl b4 t4 (hp_Bc (z := n) rfl b5 t5 hp_Bn)))))) (hp_Fc (z := ((-1) + ((-1) * f + ((-1) * g + (1 * n + 0))))) rfl (by omega) hp_Fn) (hp_Kc (zi := (0 + (1 * b + (6 * s + 0)))) (zv := (0 + (1 * f + 0))) k0 rfl rfl (by omega) (by omega) (hp_Kc (zi := (0 + (6 * b + (1 * o + 0)))) (zv := (0 + (1 * g + 0))) k1 rfl rfl (by omega) (by omega) (hp_Kc (zi := (0 + (6 * s + (1 * o + 0)))) (zv := (0 + (1 * n + 0))) k2 rfl rfl (by omega) (by omega) hp_Kn))) (hp_La l0 (hp_Li (z := (0 + (1 * b + 0))) l1 rfl (by omega) (hp_Li (z := (0 + (1 * s + 0))) l2 rfl (by omega) (hp_Li (z := (0 + (1 * o + 0))) l3 rfl (by omega) hp_Ln)))) trivial ?_ ?_
  · intro p hp ys l' st' h' hys a1 a2 a3 gZ gL gS
    rcases List.mem_cons.mp hp with rfl | hp
    · obtain rfl := hp_y0 hys
      obtain ⟨y0, t0, rfl, q0, g0⟩ := hp_gSi (z := (0 + (1 * f + (1 * g + 0)))) gS rfl
      obtain ⟨y1, t1, rfl, q1, g1⟩ := hp_gSi (z := (0 + (6 * s + (1 * o + 0)))) g0 rfl
      obtain ⟨t2, rfl, g2⟩ := hp_gSa g1 (by decide)
      cases hp_gSn g2
      exact e0 l' h' y0 y1 (by omega) (by omega) a1 a2 a3 (hp_gLa gL (List.mem_of_getElem? (i := 0) rfl) (by decide)) (hp_gLi (z := (0 + (1 * b + 0))) gL (List.mem_of_getElem? (i := 1) rfl) rfl (by omega)) (hp_gLi (z := (0 + (1 * s + 0))) gL (List.mem_of_getElem? (i := 2) rfl) rfl (by omega)) (hp_gLi (z := (0 + (1 * o + 0))) gL (List.mem_of_getElem? (i := 3) rfl) rfl (by omega))
    cases hp
  · intro p hp ys v h' hys a1 a2 a3 gZ gS
    cases hp
theorem gga_k : hp_chk 404 71 2 [(0, 0, 5), (1, 0, 5)] [] [(0, .inr (.inr (.inl (some 94)))), (1, .inl (0, [(0, 1)])), (2, .inl (0, [(1, 1)])), (3, .inl (6, []))] [] [] [] 2 [(63, ([], 2, [(0, 0, 5), (1, 0, 5)], [], [(0, .inr (.inr (.inl (some 94)))), (1, .inl (0, [(0, 1)])), (2, .inl (1, [(1, 1)]))], [], []))] [] = true := by decide +kernel
theorem gga {cst : am_K} {strs : List Nat} {Φ : am_Q → Prop} {D : Nat} {M : am_M} {h : am_H} {l : am_L} (c : hp_C cst strs D) (hM : m_P[404]? = some M) (hD : (2 : Int) ≤ (D : Int) + 1) (hy : ly_hy m_tt ly_TH h) (b s : Int) (b0 : 0 ≤ b) (t0 : b ≤ 5) (b1 : 0 ≤ s) (t1 : s ≤ 5) (l0 : hp_a l 0 94) (l1 : hp_i l 1 (b)) (l2 : hp_i l 2 (s)) (l3 : hp_i l 3 6) (e0 : ∀ (l' : am_L) (h' : am_H), ly_hy m_tt ly_TH h' → ly_fr cst [] h h' → h.length ≤ h'.length → hp_a l' 0 94 → hp_i l' 1 (b) → hp_i l' 2 (s + 1) → hp_F cst strs Φ D M 63 l' [] h') : hp_F cst strs Φ D M 71 l [] h := by
  refine hp_arc c hM gga_k hD [b, s] rfl hy (hp_Bc (z := b) rfl b0 t0 (hp_Bc (z := s) rfl b1 t1 hp_Bn)) hp_Fn hp_Kn (hp_La l0 (hp_Li (z := (0 + (1 * b + 0))) l1 rfl (by omega) (hp_Li (z := (0 + (1 * s + 0))) l2 rfl (by omega) (hp_Li (z := (6 + 0)) l3 rfl (by omega) hp_Ln)))) trivial ?_ ?_
  · intro p hp ys l' st' h' hys a1 a2 a3 gZ gL gS
    rcases List.mem_cons.mp hp with rfl | hp
    · obtain rfl := hp_y0 hys
      cases hp_gSn gS
      exact e0 l' h' a1 a2 a3 (hp_gLa gL (List.mem_of_getElem? (i := 0) rfl) (by decide)) (hp_gLi (z := (0 + (1 * b + 0))) gL (List.mem_of_getElem? (i := 1) rfl) rfl (by omega)) (hp_gLi (z := (1 + (1 * s + 0))) gL (List.mem_of_getElem? (i := 2) rfl) rfl (by omega))
    cases hp
  · intro p hp ys v h' hys a1 a2 a3 gZ gS
    cases hp
theorem ggb_k : hp_chk 404 148 3 [(0, 0, 5), (1, 0, 5), (2, 0, 5)] [] [(0, .inr (.inr (.inl (some 94)))), (1, .inl (0, [(0, 1)])), (2, .inl (0, [(1, 1)])), (3, .inl (0, [(2, 1)]))] [] [] [] 2 [(71, ([], 3, [(0, 0, 5), (1, 0, 5), (2, 0, 5)], [], [(0, .inr (.inr (.inl (some 94)))), (1, .inl (0, [(0, 1)])), (2, .inl (0, [(1, 1)])), (3, .inl (1, [(2, 1)]))], [], []))] [] = true := by decide +kernel
theorem ggb {cst : am_K} {strs : List Nat} {Φ : am_Q → Prop} {D : Nat} {M : am_M} {h : am_H} {l : am_L} (c : hp_C cst strs D) (hM : m_P[404]? = some M) (hD : (2 : Int) ≤ (D : Int) + 1) (hy : ly_hy m_tt ly_TH h) (b s o : Int) (b0 : 0 ≤ b) (t0 : b ≤ 5) (b1 : 0 ≤ s) (t1 : s ≤ 5) (b2 : 0 ≤ o) (t2 : o ≤ 5) (l0 : hp_a l 0 94) (l1 : hp_i l 1 (b)) (l2 : hp_i l 2 (s)) (l3 : hp_i l 3 (o)) (e0 : ∀ (l' : am_L) (h' : am_H), ly_hy m_tt ly_TH h' → ly_fr cst [] h h' → h.length ≤ h'.length → hp_a l' 0 94 → hp_i l' 1 (b) → hp_i l' 2 (s) → hp_i l' 3 (o + 1) → hp_F cst strs Φ D M 71 l' [] h') : hp_F cst strs Φ D M 148 l [] h := by
  refine hp_arc c hM ggb_k hD [b, s, o] rfl hy (hp_Bc (z := b) rfl b0 t0 (hp_Bc (z := s) rfl b1 t1 (hp_Bc (z := o) rfl b2 t2 hp_Bn))) hp_Fn hp_Kn (hp_La l0 (hp_Li (z := (0 + (1 * b + 0))) l1 rfl (by omega) (hp_Li (z := (0 + (1 * s + 0))) l2 rfl (by omega) (hp_Li (z := (0 + (1 * o + 0))) l3 rfl (by omega) hp_Ln)))) trivial ?_ ?_
  · intro p hp ys l' st' h' hys a1 a2 a3 gZ gL gS
    rcases List.mem_cons.mp hp with rfl | hp
    · obtain rfl := hp_y0 hys
      cases hp_gSn gS
      exact e0 l' h' a1 a2 a3 (hp_gLa gL (List.mem_of_getElem? (i := 0) rfl) (by decide)) (hp_gLi (z := (0 + (1 * b + 0))) gL (List.mem_of_getElem? (i := 1) rfl) rfl (by omega)) (hp_gLi (z := (0 + (1 * s + 0))) gL (List.mem_of_getElem? (i := 2) rfl) rfl (by omega)) (hp_gLi (z := (1 + (1 * o + 0))) gL (List.mem_of_getElem? (i := 3) rfl) rfl (by omega))
    cases hp
  · intro p hp ys v h' hys a1 a2 a3 gZ gS
    cases hp
theorem fzm0_k : hp_chk 403 0 2 [(0, (-2147483648), (-1)), (1, (-2147483648), 2147483647)] [] [(0, .inr (.inr (.inl (some 94)))), (1, .inl (0, [(0, 1)])), (2, .inl (0, [(1, 1)]))] [] [] [] 4 [] [([], 2, [(0, (-2147483648), (-1)), (1, (-2147483648), 2147483647)], [], [], [.inl ((-2), [])], [])] = true := by decide +kernel
theorem fzm0 {cst : am_K} {strs : List Nat} {Φ : am_Q → Prop} {D : Nat} {M : am_M} {h : am_H} {l : am_L} (c : hp_C cst strs D) (hM : m_P[403]? = some M) (hD : (4 : Int) ≤ (D : Int) + 1) (hy : ly_hy m_tt ly_TH h) (s o : Int) (b0 : (-2147483648) ≤ s) (t0 : s ≤ (-1)) (b1 : (-2147483648) ≤ o) (t1 : o ≤ 2147483647) (l0 : hp_a l 0 94) (l1 : hp_i l 1 (s)) (l2 : hp_i l 2 (o)) (r0 : ∀ (h' : am_H) (y0 : Int32), y0.toInt = (-2) → ly_hy m_tt ly_TH h' → ly_fr cst [] h h' → h.length ≤ h'.length → Φ (some (.int y0), h', 0, 0)) : hp_F cst strs Φ D M 0 l [] h := by
  refine hp_arc c hM fzm0_k hD [s, o] rfl hy (hp_Bc (z := s) rfl b0 t0 (hp_Bc (z := o) rfl b1 t1 hp_Bn)) hp_Fn hp_Kn (hp_La l0 (hp_Li (z := (0 + (1 * s + 0))) l1 rfl (by omega) (hp_Li (z := (0 + (1 * o + 0))) l2 rfl (by omega) hp_Ln))) trivial ?_ ?_
  · intro p hp ys l' st' h' hys a1 a2 a3 gZ gL gS
    cases hp
  · intro p hp ys v h' hys a1 a2 a3 gZ gS
    rcases List.mem_cons.mp hp with rfl | hp
    · obtain rfl := hp_y0 hys
      cases v with
      | none => cases gS
      | some w =>
        obtain ⟨y0, t0, s0, q0, -⟩ := hp_gSi (z := ((-2) + 0)) gS rfl
        cases s0
        exact r0 h' y0 (by omega) a1 a2 a3
    cases hp
theorem fzm1_k : hp_chk 403 0 2 [(0, 6, 2147483647), (1, (-2147483648), 2147483647)] [] [(0, .inr (.inr (.inl (some 94)))), (1, .inl (0, [(0, 1)])), (2, .inl (0, [(1, 1)]))] [] [] [] 4 [] [([], 2, [(0, 6, 2147483647), (1, (-2147483648), 2147483647)], [], [], [.inl ((-2), [])], [])] = true := by decide +kernel
theorem fzm1 {cst : am_K} {strs : List Nat} {Φ : am_Q → Prop} {D : Nat} {M : am_M} {h : am_H} {l : am_L} (c : hp_C cst strs D) (hM : m_P[403]? = some M) (hD : (4 : Int) ≤ (D : Int) + 1) (hy : ly_hy m_tt ly_TH h) (s o : Int) (b0 : 6 ≤ s) (t0 : s ≤ 2147483647) (b1 : (-2147483648) ≤ o) (t1 : o ≤ 2147483647) (l0 : hp_a l 0 94) (l1 : hp_i l 1 (s)) (l2 : hp_i l 2 (o)) (r0 : ∀ (h' : am_H) (y0 : Int32), y0.toInt = (-2) → ly_hy m_tt ly_TH h' → ly_fr cst [] h h' → h.length ≤ h'.length → Φ (some (.int y0), h', 0, 0)) : hp_F cst strs Φ D M 0 l [] h := by
  refine hp_arc c hM fzm1_k hD [s, o] rfl hy (hp_Bc (z := s) rfl b0 t0 (hp_Bc (z := o) rfl b1 t1 hp_Bn)) hp_Fn hp_Kn (hp_La l0 (hp_Li (z := (0 + (1 * s + 0))) l1 rfl (by omega) (hp_Li (z := (0 + (1 * o + 0))) l2 rfl (by omega) hp_Ln))) trivial ?_ ?_
  · intro p hp ys l' st' h' hys a1 a2 a3 gZ gL gS
    cases hp
  · intro p hp ys v h' hys a1 a2 a3 gZ gS
    rcases List.mem_cons.mp hp with rfl | hp
    · obtain rfl := hp_y0 hys
      cases v with
      | none => cases gS
      | some w =>
        obtain ⟨y0, t0, s0, q0, -⟩ := hp_gSi (z := ((-2) + 0)) gS rfl
        cases s0
        exact r0 h' y0 (by omega) a1 a2 a3
    cases hp
theorem fzm2_k : hp_chk 403 0 2 [(0, 0, 5), (1, (-2147483648), (-1))] [] [(0, .inr (.inr (.inl (some 94)))), (1, .inl (0, [(0, 1)])), (2, .inl (0, [(1, 1)]))] [] [] [] 4 [] [([], 2, [(0, 0, 5), (1, (-2147483648), (-1))], [], [], [.inl ((-2), [])], [])] = true := by decide +kernel
theorem fzm2 {cst : am_K} {strs : List Nat} {Φ : am_Q → Prop} {D : Nat} {M : am_M} {h : am_H} {l : am_L} (c : hp_C cst strs D) (hM : m_P[403]? = some M) (hD : (4 : Int) ≤ (D : Int) + 1) (hy : ly_hy m_tt ly_TH h) (s o : Int) (b0 : 0 ≤ s) (t0 : s ≤ 5) (b1 : (-2147483648) ≤ o) (t1 : o ≤ (-1)) (l0 : hp_a l 0 94) (l1 : hp_i l 1 (s)) (l2 : hp_i l 2 (o)) (r0 : ∀ (h' : am_H) (y0 : Int32), y0.toInt = (-2) → ly_hy m_tt ly_TH h' → ly_fr cst [] h h' → h.length ≤ h'.length → Φ (some (.int y0), h', 0, 0)) : hp_F cst strs Φ D M 0 l [] h := by
  refine hp_arc c hM fzm2_k hD [s, o] rfl hy (hp_Bc (z := s) rfl b0 t0 (hp_Bc (z := o) rfl b1 t1 hp_Bn)) hp_Fn hp_Kn (hp_La l0 (hp_Li (z := (0 + (1 * s + 0))) l1 rfl (by omega) (hp_Li (z := (0 + (1 * o + 0))) l2 rfl (by omega) hp_Ln))) trivial ?_ ?_
  · intro p hp ys l' st' h' hys a1 a2 a3 gZ gL gS
    cases hp
  · intro p hp ys v h' hys a1 a2 a3 gZ gS
    rcases List.mem_cons.mp hp with rfl | hp
    · obtain rfl := hp_y0 hys
      cases v with
      | none => cases gS
      | some w =>
        obtain ⟨y0, t0, s0, q0, -⟩ := hp_gSi (z := ((-2) + 0)) gS rfl
        cases s0
        exact r0 h' y0 (by omega) a1 a2 a3
    cases hp
theorem fzm3_k : hp_chk 403 0 2 [(0, 0, 5), (1, 6, 2147483647)] [] [(0, .inr (.inr (.inl (some 94)))), (1, .inl (0, [(0, 1)])), (2, .inl (0, [(1, 1)]))] [] [] [] 4 [] [([], 2, [(0, 0, 5), (1, 6, 2147483647)], [], [], [.inl ((-2), [])], [])] = true := by decide +kernel
theorem fzm3 {cst : am_K} {strs : List Nat} {Φ : am_Q → Prop} {D : Nat} {M : am_M} {h : am_H} {l : am_L} (c : hp_C cst strs D) (hM : m_P[403]? = some M) (hD : (4 : Int) ≤ (D : Int) + 1) (hy : ly_hy m_tt ly_TH h) (s o : Int) (b0 : 0 ≤ s) (t0 : s ≤ 5) (b1 : 6 ≤ o) (t1 : o ≤ 2147483647) (l0 : hp_a l 0 94) (l1 : hp_i l 1 (s)) (l2 : hp_i l 2 (o)) (r0 : ∀ (h' : am_H) (y0 : Int32), y0.toInt = (-2) → ly_hy m_tt ly_TH h' → ly_fr cst [] h h' → h.length ≤ h'.length → Φ (some (.int y0), h', 0, 0)) : hp_F cst strs Φ D M 0 l [] h := by
  refine hp_arc c hM fzm3_k hD [s, o] rfl hy (hp_Bc (z := s) rfl b0 t0 (hp_Bc (z := o) rfl b1 t1 hp_Bn)) hp_Fn hp_Kn (hp_La l0 (hp_Li (z := (0 + (1 * s + 0))) l1 rfl (by omega) (hp_Li (z := (0 + (1 * o + 0))) l2 rfl (by omega) hp_Ln))) trivial ?_ ?_
  · intro p hp ys l' st' h' hys a1 a2 a3 gZ gL gS
    cases hp
  · intro p hp ys v h' hys a1 a2 a3 gZ gS
    rcases List.mem_cons.mp hp with rfl | hp
    · obtain rfl := hp_y0 hys
      cases v with
      | none => cases gS
      | some w =>
        obtain ⟨y0, t0, s0, q0, -⟩ := hp_gSi (z := ((-2) + 0)) gS rfl
        cases s0
        exact r0 h' y0 (by omega) a1 a2 a3
    cases hp
theorem fzm4_k : hp_chk 403 0 2 [(0, 0, 5), (1, 0, 5)] [] [(0, .inr (.inr (.inl (some 94)))), (1, .inl (0, [(0, 1)])), (2, .inl (0, [(1, 1)]))] [] [] [] 4 [(18, ([], 2, [(0, 0, 5), (1, 0, 5)], [], [(0, .inr (.inr (.inl (some 94)))), (1, .inl (0, [(0, 1)])), (2, .inl (0, [(1, 1)]))], [.inr (.inr (.inl (some 94)))], []))] [] = true := by decide +kernel
theorem fzm4 {cst : am_K} {strs : List Nat} {Φ : am_Q → Prop} {D : Nat} {M : am_M} {h : am_H} {l : am_L} (c : hp_C cst strs D) (hM : m_P[403]? = some M) (hD : (4 : Int) ≤ (D : Int) + 1) (hy : ly_hy m_tt ly_TH h) (s o : Int) (b0 : 0 ≤ s) (t0 : s ≤ 5) (b1 : 0 ≤ o) (t1 : o ≤ 5) (l0 : hp_a l 0 94) (l1 : hp_i l 1 (s)) (l2 : hp_i l 2 (o)) (e0 : ∀ (l' : am_L) (h' : am_H), ly_hy m_tt ly_TH h' → ly_fr cst [] h h' → h.length ≤ h'.length → hp_a l' 0 94 → hp_i l' 1 (s) → hp_i l' 2 (o) → hp_F cst strs Φ D M 18 l' [.ref 94] h') : hp_F cst strs Φ D M 0 l [] h := by
  refine hp_arc c hM fzm4_k hD [s, o] rfl hy (hp_Bc (z := s) rfl b0 t0 (hp_Bc (z := o) rfl b1 t1 hp_Bn)) hp_Fn hp_Kn (hp_La l0 (hp_Li (z := (0 + (1 * s + 0))) l1 rfl (by omega) (hp_Li (z := (0 + (1 * o + 0))) l2 rfl (by omega) hp_Ln))) trivial ?_ ?_
  · intro p hp ys l' st' h' hys a1 a2 a3 gZ gL gS
    rcases List.mem_cons.mp hp with rfl | hp
    · obtain rfl := hp_y0 hys
      obtain ⟨t0, rfl, g0⟩ := hp_gSa gS (by decide)
      cases hp_gSn g0
      exact e0 l' h' a1 a2 a3 (hp_gLa gL (List.mem_of_getElem? (i := 0) rfl) (by decide)) (hp_gLi (z := (0 + (1 * s + 0))) gL (List.mem_of_getElem? (i := 1) rfl) rfl (by omega)) (hp_gLi (z := (0 + (1 * o + 0))) gL (List.mem_of_getElem? (i := 2) rfl) rfl (by omega))
    cases hp
  · intro p hp ys v h' hys a1 a2 a3 gZ gS
    cases hp
theorem fzm5_k : hp_chk 403 21 3 [(0, 0, 5), (1, 0, 5), (2, 0, 99999)] [] [(0, .inr (.inr (.inl (some 94)))), (1, .inl (0, [(0, 1)])), (2, .inl (0, [(1, 1)]))] [] [(42240, (0, [(0, 6), (1, 1)]), (0, [(2, 1)]))] [] 2 [] [([], 3, [(0, 0, 5), (1, 0, 5), (2, 0, 99999)], [], [], [.inl (0, [(2, 1)])], [])] = true := by decide +kernel
theorem fzm5 {cst : am_K} {strs : List Nat} {Φ : am_Q → Prop} {D : Nat} {M : am_M} {h : am_H} {l : am_L} (c : hp_C cst strs D) (hM : m_P[403]? = some M) (hD : (2 : Int) ≤ (D : Int) + 1) (hy : ly_hy m_tt ly_TH h) (s o v : Int) (b0 : 0 ≤ s) (t0 : s ≤ 5) (b1 : 0 ≤ o) (t1 : o ≤ 5) (b2 : 0 ≤ v) (t2 : v ≤ 99999) (k0 : ly_hv cst h 42240 (6 * s + o) = some (v)) (l0 : hp_a l 0 94) (l1 : hp_i l 1 (s)) (l2 : hp_i l 2 (o)) (r0 : ∀ (h' : am_H) (y0 : Int32), y0.toInt = (v) → ly_hy m_tt ly_TH h' → ly_fr cst [] h h' → h.length ≤ h'.length → Φ (some (.int y0), h', 0, 0)) : hp_F cst strs Φ D M 21 l [] h := by
  refine hp_arc c hM fzm5_k hD [s, o, v] rfl hy (hp_Bc (z := s) rfl b0 t0 (hp_Bc (z := o) rfl b1 t1 (hp_Bc (z := v) rfl b2 t2 hp_Bn))) hp_Fn (hp_Kc (zi := (0 + (6 * s + (1 * o + 0)))) (zv := (0 + (1 * v + 0))) k0 rfl rfl (by omega) (by omega) hp_Kn) (hp_La l0 (hp_Li (z := (0 + (1 * s + 0))) l1 rfl (by omega) (hp_Li (z := (0 + (1 * o + 0))) l2 rfl (by omega) hp_Ln))) trivial ?_ ?_
  · intro p hp ys l' st' h' hys a1 a2 a3 gZ gL gS
    cases hp
  · intro p hp ys v h' hys a1 a2 a3 gZ gS
    rcases List.mem_cons.mp hp with rfl | hp
    · obtain rfl := hp_y0 hys
      cases v with
      | none => cases gS
      | some w =>
        obtain ⟨y0, t0, s0, q0, -⟩ := hp_gSi (z := (0 + (1 * v + 0))) gS rfl
        cases s0
        exact r0 h' y0 (by omega) a1 a2 a3
    cases hp
theorem fzm6_k : hp_chk 403 21 2 [(0, 0, 5), (1, 0, 5)] [] [(0, .inr (.inr (.inl (some 94)))), (1, .inl (0, [(0, 1)])), (2, .inl (0, [(1, 1)]))] [] [(42240, (0, [(0, 6), (1, 1)]), (100000, []))] [] 2 [] [([], 2, [(0, 0, 5), (1, 0, 5)], [], [], [.inl ((-1), [])], [])] = true := by decide +kernel
theorem fzm6 {cst : am_K} {strs : List Nat} {Φ : am_Q → Prop} {D : Nat} {M : am_M} {h : am_H} {l : am_L} (c : hp_C cst strs D) (hM : m_P[403]? = some M) (hD : (2 : Int) ≤ (D : Int) + 1) (hy : ly_hy m_tt ly_TH h) (s o : Int) (b0 : 0 ≤ s) (t0 : s ≤ 5) (b1 : 0 ≤ o) (t1 : o ≤ 5) (k0 : ly_hv cst h 42240 (6 * s + o) = some 100000) (l0 : hp_a l 0 94) (l1 : hp_i l 1 (s)) (l2 : hp_i l 2 (o)) (r0 : ∀ (h' : am_H) (y0 : Int32), y0.toInt = (-1) → ly_hy m_tt ly_TH h' → ly_fr cst [] h h' → h.length ≤ h'.length → Φ (some (.int y0), h', 0, 0)) : hp_F cst strs Φ D M 21 l [] h := by
  refine hp_arc c hM fzm6_k hD [s, o] rfl hy (hp_Bc (z := s) rfl b0 t0 (hp_Bc (z := o) rfl b1 t1 hp_Bn)) hp_Fn (hp_Kc (zi := (0 + (6 * s + (1 * o + 0)))) (zv := (100000 + 0)) k0 rfl rfl (by omega) (by omega) hp_Kn) (hp_La l0 (hp_Li (z := (0 + (1 * s + 0))) l1 rfl (by omega) (hp_Li (z := (0 + (1 * o + 0))) l2 rfl (by omega) hp_Ln))) trivial ?_ ?_
  · intro p hp ys l' st' h' hys a1 a2 a3 gZ gL gS
    cases hp
  · intro p hp ys v h' hys a1 a2 a3 gZ gS
    rcases List.mem_cons.mp hp with rfl | hp
    · obtain rfl := hp_y0 hys
      cases v with
      | none => cases gS
      | some w =>
        obtain ⟨y0, t0, s0, q0, -⟩ := hp_gSi (z := ((-1) + 0)) gS rfl
        cases s0
        exact r0 h' y0 (by omega) a1 a2 a3
    cases hp
theorem fzc0_k : hp_chk 233 0 2 [(0, (-2147483648), (-1)), (1, (-2147483648), 2147483647)] [] [(0, .inr (.inr (.inl (some 16)))), (1, .inl (0, [(0, 1)])), (2, .inl (0, [(1, 1)]))] [] [] [] 4 [] [([], 2, [(0, (-2147483648), (-1)), (1, (-2147483648), 2147483647)], [], [], [.inl ((-2), [])], [])] = true := by decide +kernel
theorem fzc0 {cst : am_K} {strs : List Nat} {Φ : am_Q → Prop} {D : Nat} {M : am_M} {h : am_H} {l : am_L} (c : hp_C cst strs D) (hM : m_P[233]? = some M) (hD : (4 : Int) ≤ (D : Int) + 1) (hy : ly_hy m_tt ly_TH h) (s o : Int) (b0 : (-2147483648) ≤ s) (t0 : s ≤ (-1)) (b1 : (-2147483648) ≤ o) (t1 : o ≤ 2147483647) (l0 : hp_a l 0 16) (l1 : hp_i l 1 (s)) (l2 : hp_i l 2 (o)) (r0 : ∀ (h' : am_H) (y0 : Int32), y0.toInt = (-2) → ly_hy m_tt ly_TH h' → ly_fr cst [] h h' → h.length ≤ h'.length → Φ (some (.int y0), h', 0, 0)) : hp_F cst strs Φ D M 0 l [] h := by
  refine hp_arc c hM fzc0_k hD [s, o] rfl hy (hp_Bc (z := s) rfl b0 t0 (hp_Bc (z := o) rfl b1 t1 hp_Bn)) hp_Fn hp_Kn (hp_La l0 (hp_Li (z := (0 + (1 * s + 0))) l1 rfl (by omega) (hp_Li (z := (0 + (1 * o + 0))) l2 rfl (by omega) hp_Ln))) trivial ?_ ?_
  · intro p hp ys l' st' h' hys a1 a2 a3 gZ gL gS
    cases hp
  · intro p hp ys v h' hys a1 a2 a3 gZ gS
    rcases List.mem_cons.mp hp with rfl | hp
    · obtain rfl := hp_y0 hys
      cases v with
      | none => cases gS
      | some w =>
        obtain ⟨y0, t0, s0, q0, -⟩ := hp_gSi (z := ((-2) + 0)) gS rfl
        cases s0
        exact r0 h' y0 (by omega) a1 a2 a3
    cases hp
theorem fzc1_k : hp_chk 233 0 2 [(0, 6, 2147483647), (1, (-2147483648), 2147483647)] [] [(0, .inr (.inr (.inl (some 16)))), (1, .inl (0, [(0, 1)])), (2, .inl (0, [(1, 1)]))] [] [] [] 4 [] [([], 2, [(0, 6, 2147483647), (1, (-2147483648), 2147483647)], [], [], [.inl ((-2), [])], [])] = true := by decide +kernel
theorem fzc1 {cst : am_K} {strs : List Nat} {Φ : am_Q → Prop} {D : Nat} {M : am_M} {h : am_H} {l : am_L} (c : hp_C cst strs D) (hM : m_P[233]? = some M) (hD : (4 : Int) ≤ (D : Int) + 1) (hy : ly_hy m_tt ly_TH h) (s o : Int) (b0 : 6 ≤ s) (t0 : s ≤ 2147483647) (b1 : (-2147483648) ≤ o) (t1 : o ≤ 2147483647) (l0 : hp_a l 0 16) (l1 : hp_i l 1 (s)) (l2 : hp_i l 2 (o)) (r0 : ∀ (h' : am_H) (y0 : Int32), y0.toInt = (-2) → ly_hy m_tt ly_TH h' → ly_fr cst [] h h' → h.length ≤ h'.length → Φ (some (.int y0), h', 0, 0)) : hp_F cst strs Φ D M 0 l [] h := by
  refine hp_arc c hM fzc1_k hD [s, o] rfl hy (hp_Bc (z := s) rfl b0 t0 (hp_Bc (z := o) rfl b1 t1 hp_Bn)) hp_Fn hp_Kn (hp_La l0 (hp_Li (z := (0 + (1 * s + 0))) l1 rfl (by omega) (hp_Li (z := (0 + (1 * o + 0))) l2 rfl (by omega) hp_Ln))) trivial ?_ ?_
  · intro p hp ys l' st' h' hys a1 a2 a3 gZ gL gS
    cases hp
  · intro p hp ys v h' hys a1 a2 a3 gZ gS
    rcases List.mem_cons.mp hp with rfl | hp
    · obtain rfl := hp_y0 hys
      cases v with
      | none => cases gS
      | some w =>
        obtain ⟨y0, t0, s0, q0, -⟩ := hp_gSi (z := ((-2) + 0)) gS rfl
        cases s0
        exact r0 h' y0 (by omega) a1 a2 a3
    cases hp
theorem fzc2_k : hp_chk 233 0 2 [(0, 0, 5), (1, (-2147483648), (-1))] [] [(0, .inr (.inr (.inl (some 16)))), (1, .inl (0, [(0, 1)])), (2, .inl (0, [(1, 1)]))] [] [] [] 4 [] [([], 2, [(0, 0, 5), (1, (-2147483648), (-1))], [], [], [.inl ((-2), [])], [])] = true := by decide +kernel
theorem fzc2 {cst : am_K} {strs : List Nat} {Φ : am_Q → Prop} {D : Nat} {M : am_M} {h : am_H} {l : am_L} (c : hp_C cst strs D) (hM : m_P[233]? = some M) (hD : (4 : Int) ≤ (D : Int) + 1) (hy : ly_hy m_tt ly_TH h) (s o : Int) (b0 : 0 ≤ s) (t0 : s ≤ 5) (b1 : (-2147483648) ≤ o) (t1 : o ≤ (-1)) (l0 : hp_a l 0 16) (l1 : hp_i l 1 (s)) (l2 : hp_i l 2 (o)) (r0 : ∀ (h' : am_H) (y0 : Int32), y0.toInt = (-2) → ly_hy m_tt ly_TH h' → ly_fr cst [] h h' → h.length ≤ h'.length → Φ (some (.int y0), h', 0, 0)) : hp_F cst strs Φ D M 0 l [] h := by
  refine hp_arc c hM fzc2_k hD [s, o] rfl hy (hp_Bc (z := s) rfl b0 t0 (hp_Bc (z := o) rfl b1 t1 hp_Bn)) hp_Fn hp_Kn (hp_La l0 (hp_Li (z := (0 + (1 * s + 0))) l1 rfl (by omega) (hp_Li (z := (0 + (1 * o + 0))) l2 rfl (by omega) hp_Ln))) trivial ?_ ?_
  · intro p hp ys l' st' h' hys a1 a2 a3 gZ gL gS
    cases hp
  · intro p hp ys v h' hys a1 a2 a3 gZ gS
    rcases List.mem_cons.mp hp with rfl | hp
    · obtain rfl := hp_y0 hys
      cases v with
      | none => cases gS
      | some w =>
        obtain ⟨y0, t0, s0, q0, -⟩ := hp_gSi (z := ((-2) + 0)) gS rfl
        cases s0
        exact r0 h' y0 (by omega) a1 a2 a3
    cases hp
theorem fzc3_k : hp_chk 233 0 2 [(0, 0, 5), (1, 6, 2147483647)] [] [(0, .inr (.inr (.inl (some 16)))), (1, .inl (0, [(0, 1)])), (2, .inl (0, [(1, 1)]))] [] [] [] 4 [] [([], 2, [(0, 0, 5), (1, 6, 2147483647)], [], [], [.inl ((-2), [])], [])] = true := by decide +kernel
theorem fzc3 {cst : am_K} {strs : List Nat} {Φ : am_Q → Prop} {D : Nat} {M : am_M} {h : am_H} {l : am_L} (c : hp_C cst strs D) (hM : m_P[233]? = some M) (hD : (4 : Int) ≤ (D : Int) + 1) (hy : ly_hy m_tt ly_TH h) (s o : Int) (b0 : 0 ≤ s) (t0 : s ≤ 5) (b1 : 6 ≤ o) (t1 : o ≤ 2147483647) (l0 : hp_a l 0 16) (l1 : hp_i l 1 (s)) (l2 : hp_i l 2 (o)) (r0 : ∀ (h' : am_H) (y0 : Int32), y0.toInt = (-2) → ly_hy m_tt ly_TH h' → ly_fr cst [] h h' → h.length ≤ h'.length → Φ (some (.int y0), h', 0, 0)) : hp_F cst strs Φ D M 0 l [] h := by
  refine hp_arc c hM fzc3_k hD [s, o] rfl hy (hp_Bc (z := s) rfl b0 t0 (hp_Bc (z := o) rfl b1 t1 hp_Bn)) hp_Fn hp_Kn (hp_La l0 (hp_Li (z := (0 + (1 * s + 0))) l1 rfl (by omega) (hp_Li (z := (0 + (1 * o + 0))) l2 rfl (by omega) hp_Ln))) trivial ?_ ?_
  · intro p hp ys l' st' h' hys a1 a2 a3 gZ gL gS
    cases hp
  · intro p hp ys v h' hys a1 a2 a3 gZ gS
    rcases List.mem_cons.mp hp with rfl | hp
    · obtain rfl := hp_y0 hys
      cases v with
      | none => cases gS
      | some w =>
        obtain ⟨y0, t0, s0, q0, -⟩ := hp_gSi (z := ((-2) + 0)) gS rfl
        cases s0
        exact r0 h' y0 (by omega) a1 a2 a3
    cases hp
theorem fzc4_k : hp_chk 233 0 2 [(0, 0, 5), (1, 0, 5)] [] [(0, .inr (.inr (.inl (some 16)))), (1, .inl (0, [(0, 1)])), (2, .inl (0, [(1, 1)]))] [] [] [] 4 [(20, ([], 2, [(0, 0, 5), (1, 0, 5)], [], [(0, .inr (.inr (.inl (some 16))))], [.inl (0, [(1, 1)]), .inl (0, [(0, 1)]), .inr (.inr (.inl (some 77)))], []))] [] = true := by decide +kernel
theorem fzc4 {cst : am_K} {strs : List Nat} {Φ : am_Q → Prop} {D : Nat} {M : am_M} {h : am_H} {l : am_L} (c : hp_C cst strs D) (hM : m_P[233]? = some M) (hD : (4 : Int) ≤ (D : Int) + 1) (hy : ly_hy m_tt ly_TH h) (s o : Int) (b0 : 0 ≤ s) (t0 : s ≤ 5) (b1 : 0 ≤ o) (t1 : o ≤ 5) (l0 : hp_a l 0 16) (l1 : hp_i l 1 (s)) (l2 : hp_i l 2 (o)) (e0 : ∀ (l' : am_L) (h' : am_H) (y0 : Int32) (y1 : Int32), y0.toInt = (o) → y1.toInt = (s) → ly_hy m_tt ly_TH h' → ly_fr cst [] h h' → h.length ≤ h'.length → hp_a l' 0 16 → hp_F cst strs Φ D M 20 l' [.int y0, .int y1, .ref 77] h') : hp_F cst strs Φ D M 0 l [] h := by
  refine hp_arc c hM fzc4_k hD [s, o] rfl hy (hp_Bc (z := s) rfl b0 t0 (hp_Bc (z := o) rfl b1 t1 hp_Bn)) hp_Fn hp_Kn (hp_La l0 (hp_Li (z := (0 + (1 * s + 0))) l1 rfl (by omega) (hp_Li (z := (0 + (1 * o + 0))) l2 rfl (by omega) hp_Ln))) trivial ?_ ?_
  · intro p hp ys l' st' h' hys a1 a2 a3 gZ gL gS
    rcases List.mem_cons.mp hp with rfl | hp
    · obtain rfl := hp_y0 hys
      obtain ⟨y0, t0, rfl, q0, g0⟩ := hp_gSi (z := (0 + (1 * o + 0))) gS rfl
      obtain ⟨y1, t1, rfl, q1, g1⟩ := hp_gSi (z := (0 + (1 * s + 0))) g0 rfl
      obtain ⟨t2, rfl, g2⟩ := hp_gSa g1 (by decide)
      cases hp_gSn g2
      exact e0 l' h' y0 y1 (by omega) (by omega) a1 a2 a3 (hp_gLa gL (List.mem_of_getElem? (i := 0) rfl) (by decide))
    cases hp
  · intro p hp ys v h' hys a1 a2 a3 gZ gS
    cases hp
theorem fzc5_k : hp_chk 233 23 1 [(0, (-2147483648), 2147483647)] [] [(0, .inr (.inr (.inl (some 16))))] [.inl (0, [(0, 1)])] [] [] 2 [] [([], 1, [(0, (-2147483648), 2147483647)], [], [], [.inl (0, [(0, 1)])], [])] = true := by decide +kernel
theorem fzc5 {cst : am_K} {strs : List Nat} {Φ : am_Q → Prop} {D : Nat} {M : am_M} {h : am_H} {l : am_L} (c : hp_C cst strs D) (hM : m_P[233]? = some M) (hD : (2 : Int) ≤ (D : Int) + 1) (hy : ly_hy m_tt ly_TH h) (v : Int) (x0 : Int32) (hx0 : x0.toInt = (v)) (b0 : (-2147483648) ≤ v) (t0 : v ≤ 2147483647) (l0 : hp_a l 0 16) (r0 : ∀ (h' : am_H) (y0 : Int32), y0.toInt = (v) → ly_hy m_tt ly_TH h' → ly_fr cst [] h h' → h.length ≤ h'.length → Φ (some (.int y0), h', 0, 0)) : hp_F cst strs Φ D M 23 l [.int x0] h := by
  refine hp_arc c hM fzc5_k hD [v] rfl hy (hp_Bc (z := v) rfl b0 t0 hp_Bn) hp_Fn hp_Kn (hp_La l0 hp_Ln) (hp_Si (z := (0 + (1 * v + 0))) rfl (by omega) trivial) ?_ ?_
  · intro p hp ys l' st' h' hys a1 a2 a3 gZ gL gS
    cases hp
  · intro p hp ys v h' hys a1 a2 a3 gZ gS
    rcases List.mem_cons.mp hp with rfl | hp
    · obtain rfl := hp_y0 hys
      cases v with
      | none => cases gS
      | some w =>
        obtain ⟨y0, t0, s0, q0, -⟩ := hp_gSi (z := (0 + (1 * v + 0))) gS rfl
        cases s0
        exact r0 h' y0 (by omega) a1 a2 a3
    cases hp
theorem fd0_k : hp_chk 234 0 3 [(0, 0, 5), (1, 0, 5), (2, (-2147483648), 2147483647)] [] [(0, .inr (.inr (.inl (some 77)))), (1, .inl (0, [(0, 1)])), (2, .inl (0, [(1, 1)]))] [] [(16128, (0, [(0, 6), (1, 1)]), (0, [(2, 1)]))] [] 2 [] [([], 3, [(0, 0, 5), (1, 0, 5), (2, (-2147483648), 2147483647)], [], [], [.inl (0, [(2, 1)])], [])] = true := by decide +kernel
theorem fd0 {cst : am_K} {strs : List Nat} {Φ : am_Q → Prop} {D : Nat} {M : am_M} {h : am_H} {l : am_L} (c : hp_C cst strs D) (hM : m_P[234]? = some M) (hD : (2 : Int) ≤ (D : Int) + 1) (hy : ly_hy m_tt ly_TH h) (s o v : Int) (b0 : 0 ≤ s) (t0 : s ≤ 5) (b1 : 0 ≤ o) (t1 : o ≤ 5) (b2 : (-2147483648) ≤ v) (t2 : v ≤ 2147483647) (k0 : ly_hv cst h 16128 (6 * s + o) = some (v)) (l0 : hp_a l 0 77) (l1 : hp_i l 1 (s)) (l2 : hp_i l 2 (o)) (r0 : ∀ (h' : am_H) (y0 : Int32), y0.toInt = (v) → ly_hy m_tt ly_TH h' → ly_fr cst [] h h' → h.length ≤ h'.length → Φ (some (.int y0), h', 0, 0)) : hp_F cst strs Φ D M 0 l [] h := by
  refine hp_arc c hM fd0_k hD [s, o, v] rfl hy (hp_Bc (z := s) rfl b0 t0 (hp_Bc (z := o) rfl b1 t1 (hp_Bc (z := v) rfl b2 t2 hp_Bn))) hp_Fn (hp_Kc (zi := (0 + (6 * s + (1 * o + 0)))) (zv := (0 + (1 * v + 0))) k0 rfl rfl (by omega) (by omega) hp_Kn) (hp_La l0 (hp_Li (z := (0 + (1 * s + 0))) l1 rfl (by omega) (hp_Li (z := (0 + (1 * o + 0))) l2 rfl (by omega) hp_Ln))) trivial ?_ ?_
  · intro p hp ys l' st' h' hys a1 a2 a3 gZ gL gS
    cases hp
  · intro p hp ys v h' hys a1 a2 a3 gZ gS
    rcases List.mem_cons.mp hp with rfl | hp
    · obtain rfl := hp_y0 hys
      cases v with
      | none => cases gS
      | some w =>
        obtain ⟨y0, t0, s0, q0, -⟩ := hp_gSi (z := (0 + (1 * v + 0))) gS rfl
        cases s0
        exact r0 h' y0 (by omega) a1 a2 a3
    cases hp
theorem sf2_k : hp_chk 28 37 1 [(0, (-2147483648), 2147483647)] [] [(0, .inr (.inr (.inl (some 77)))), (4, .inl (0, [(0, 1)]))] [] [] [] 2 [(38, ([], 1, [(0, (-2147483648), 2147483647)], [], [(0, .inr (.inr (.inl (some 77)))), (4, .inl (0, [(0, 1)]))], [.inr (.inr (.inl (some 77)))], []))] [] = true := by decide +kernel
theorem sf2 {cst : am_K} {strs : List Nat} {Φ : am_Q → Prop} {D : Nat} {M : am_M} {h : am_H} {l : am_L} (c : hp_C cst strs D) (hM : m_P[28]? = some M) (hD : (2 : Int) ≤ (D : Int) + 1) (hy : ly_hy m_tt ly_TH h) (v : Int) (b0 : (-2147483648) ≤ v) (t0 : v ≤ 2147483647) (l0 : hp_a l 0 77) (l4 : hp_i l 4 (v)) (e0 : ∀ (l' : am_L) (h' : am_H), ly_hy m_tt ly_TH h' → ly_fr cst [] h h' → h.length ≤ h'.length → hp_a l' 0 77 → hp_i l' 4 (v) → hp_F cst strs Φ D M 38 l' [.ref 77] h') : hp_F cst strs Φ D M 37 l [] h := by
  refine hp_arc c hM sf2_k hD [v] rfl hy (hp_Bc (z := v) rfl b0 t0 hp_Bn) hp_Fn hp_Kn (hp_La l0 (hp_Li (z := (0 + (1 * v + 0))) l4 rfl (by omega) hp_Ln)) trivial ?_ ?_
  · intro p hp ys l' st' h' hys a1 a2 a3 gZ gL gS
    rcases List.mem_cons.mp hp with rfl | hp
    · obtain rfl := hp_y0 hys
      obtain ⟨t0, rfl, g0⟩ := hp_gSa gS (by decide)
      cases hp_gSn g0
      exact e0 l' h' a1 a2 a3 (hp_gLa gL (List.mem_of_getElem? (i := 0) rfl) (by decide)) (hp_gLi (z := (0 + (1 * v + 0))) gL (List.mem_of_getElem? (i := 1) rfl) rfl (by omega))
    cases hp
  · intro p hp ys v h' hys a1 a2 a3 gZ gS
    cases hp
theorem sf3_k : hp_chk 28 41 1 [(0, (-2147483648), 2147483647)] [] [(0, .inr (.inr (.inl (some 77)))), (4, .inl (0, [(0, 1)]))] [] [] [] 2 [] [([], 1, [(0, (-2147483648), 2147483647)], [], [], [.inl (0, [(0, 1)])], [])] = true := by decide +kernel
theorem sf3 {cst : am_K} {strs : List Nat} {Φ : am_Q → Prop} {D : Nat} {M : am_M} {h : am_H} {l : am_L} (c : hp_C cst strs D) (hM : m_P[28]? = some M) (hD : (2 : Int) ≤ (D : Int) + 1) (hy : ly_hy m_tt ly_TH h) (v : Int) (b0 : (-2147483648) ≤ v) (t0 : v ≤ 2147483647) (l0 : hp_a l 0 77) (l4 : hp_i l 4 (v)) (r0 : ∀ (h' : am_H) (y0 : Int32), y0.toInt = (v) → ly_hy m_tt ly_TH h' → ly_fr cst [] h h' → h.length ≤ h'.length → Φ (some (.int y0), h', 0, 0)) : hp_F cst strs Φ D M 41 l [] h := by
  refine hp_arc c hM sf3_k hD [v] rfl hy (hp_Bc (z := v) rfl b0 t0 hp_Bn) hp_Fn hp_Kn (hp_La l0 (hp_Li (z := (0 + (1 * v + 0))) l4 rfl (by omega) hp_Ln)) trivial ?_ ?_
  · intro p hp ys l' st' h' hys a1 a2 a3 gZ gL gS
    cases hp
  · intro p hp ys v h' hys a1 a2 a3 gZ gS
    rcases List.mem_cons.mp hp with rfl | hp
    · obtain rfl := hp_y0 hys
      cases v with
      | none => cases gS
      | some w =>
        obtain ⟨y0, t0, s0, q0, -⟩ := hp_gSi (z := (0 + (1 * v + 0))) gS rfl
        cases s0
        exact r0 h' y0 (by omega) a1 a2 a3
    cases hp
noncomputable def hp_isR (mi pc : Nat) : Bool := match sx_ch 16 mi sx_T with
  | some m => Nat.beq m.1 mi && (match sx_find pc m.2.2.2.2 with
    | some (.irem, _) => true
    | _ => false)
  | none => false
noncomputable def hp_isCp (mi pc : Nat) : Bool := match sx_ch 16 mi sx_T with
  | some m => Nat.beq m.1 mi && (match sx_find pc m.2.2.2.2 with
    | some (.invokestatic _, X) => sx_eq X.2.2 2
    | _ => false)
  | none => false
theorem fw_rem {x y : Int32} (hy : 1 ≤ y.toInt) (hx : 0 ≤ x.toInt) : (x - x / y * y).toInt = x.toInt % y.toInt := by
  have t := Int.mul_tdiv_add_tmod x.toInt y.toInt
  have n := Int.tmod_nonneg y.toInt hx
  have tx := ly_top x
  have e1 : sx_min = -2147483648 := rfl
  have e2 : sx_max = 2147483647 := rfl
  have b := ly_tdiv_b (a := x.toInt) hy
  have p := Int.mul_nonneg (show 0 ≤ y.toInt by omega) (b.1 hx).1
  have hm : (x / y * y).toInt = y.toInt * x.toInt.tdiv y.toInt := by
    rw [Int32.toInt_mul, ly_div_i (x := x) hy, Int.mul_comm]
    exact sx_bm (by omega) (by omega)
  rw [Int32.toInt_sub, hm, show x.toInt - y.toInt * x.toInt.tdiv y.toInt = x.toInt.tmod y.toInt by omega, Int.tmod_eq_emod_of_nonneg hx]
  rw [Int.tmod_eq_emod_of_nonneg hx] at t n
  exact sx_bm (by omega) (by omega)
theorem hp_rem {cst : am_K} {strs : List Nat} {Φ : am_Q → Prop} {D mi pc : Nat} {M : am_M} {l : am_L} {st : List Value} {h : am_H} {x y : Int32} (hM : m_P[mi]? = some M) (hI : hp_isR mi pc = true) (hy : 1 ≤ y.toInt) (hx : 0 ≤ x.toInt)
    (k : ∀ z : Int32, z.toInt = x.toInt % y.toInt → hp_F cst strs Φ D M (pc + 1) l (.int z :: st) h) : hp_F cst strs Φ D M pc l (.int y :: .int x :: st) h := by
  unfold hp_isR at hI
  split at hI
  case h_2 => cases hI
  rename_i m hm
  rw [Bool.and_eq_true, sx_beqn] at hI
  obtain ⟨c0, hI⟩ := hI
  split at hI
  case h_2 => cases hI
  rename_i X hX
  obtain ⟨M', hM', hmok, -⟩ := sx_tok_m mi m hm c0
  rw [hM] at hM'
  cases hM'
  have hfind := hmok.2.2 _ _ hX
  have hne : ¬ y = 0 := by
    rintro rfl
    have : (0 : Int32).toInt = 0 := rfl
    omega
  have hs : am_s cst m_cl m_tt .irem X pc l (.int y :: .int x :: st) h = some (pc + 1, l, .int (x - x / y * y) :: st, h) := by
    simp only [am_s, if_neg hne]
  exact sx_Fin_step rfl (fun n r hgo => ⟨_, X, hfind, Or.inl ⟨_, hs, hgo⟩⟩) (k _ (fw_rem hy hx))
/-- a row copied whole -/
theorem hp_cp {cst : am_K} {strs : List Nat} {Φ : am_Q → Prop} {D mi pc : Nat} {M : am_M} {l : am_L} {h : am_H} {a b n : Nat} {lo hi : Int} {x y z : Int32} (hM : m_P[mi]? = some M) (hI : hp_isCp mi pc = true) (hy : ly_hy m_tt ly_TH h) (hta : ly_ths ly_TH a = some (.inl (.int, n, lo, hi))) (htb : ly_ths ly_TH b = some (.inl (.int, n, lo, hi))) (hg : ly_dg (256 * b) = []) (ex : x.toInt = (n : Int)) (ey : y.toInt = 0) (ez : z.toInt = 0)
    (k : ∀ h', ly_hy m_tt ly_TH h' → ly_hv cst h' (256 * b) = ly_hv cst h (256 * a) → (∀ r i, r ≠ 256 * b → ly_hv cst h' r i = ly_hv cst h r i) → hp_F cst strs Φ D M (pc + 3) l [] h') : hp_F cst strs Φ D M pc l [.int x, .int y, .ref (16 + b), .int z, .ref (16 + a)] h := by
  have hca := ly_ths_lt hta
  have hcb := ly_ths_lt htb
  obtain ⟨xa, hxa, ca, rfl, f, rfl, hf⟩ := hy.2.1 _ _ hta
  obtain ⟨xb, hxb, cb, rfl, g, rfl, hg'⟩ := hy.2.1 _ _ htb
  unfold hp_isCp at hI
  split at hI
  case h_2 => cases hI
  rename_i m hm
  rw [Bool.and_eq_true, sx_beqn] at hI
  obtain ⟨c0, hI⟩ := hI
  split at hI
  case h_2 => cases hI
  rename_i ix X hX
  have hX2 := sx_eq_iff.mp hI
  obtain ⟨M', hM', hmok, -⟩ := sx_tok_m mi m hm c0
  rw [hM] at hM'
  cases hM'
  have hfind := hmok.2.2 _ _ hX
  have nx : x.toNatClampNeg = n := by show x.toInt.toNat = n; omega
  have ny : y.toNatClampNeg = 0 := by show y.toInt.toNat = 0; omega
  have nz : z.toNatClampNeg = 0 := by show z.toInt.toNat = 0; omega
  have neg : ∀ w : Int32, 0 ≤ w.toInt → ¬ w < 0 := fun w hw q => by
    have := Int32.lt_iff_toInt_lt.mp q
    have z : (0 : Int32).toInt = 0 := rfl
    omega
  have hbad : ¬ (16 + a < 16 ∨ 16 + b < 16 ∨ x < 0 ∨ y < 0 ∨ z < 0 ∨ ¬ ((([] : List Value).map fun v => v.category).sum ≤ 8)) := by
    rintro (q | q | q | q | q | q)
    · omega
    · omega
    · exact neg x (by omega) q
    · exact neg y (by omega) q
    · exact neg z (by omega) q
    · exact q (Nat.zero_le _)
  have hs : am_copy (.invokestatic ix) X [.int x, .int y, .ref (16 + b), .int z, .ref (16 + a)] h = some ([], h.set b (.inl (.int, n, .inl (va_cpy f g 0 0 n)))) := by
    have ea : 16 + a - 16 = a := by omega
    have eb : 16 + b - 16 = b := by omega
    simp only [am_copy, if_pos hX2, if_neg hbad, ea, eb, hxa, hxb, nx, ny, nz]
    rw [if_pos ⟨by omega, by omega⟩]
  have up : ∀ j, j < n → va_cpy f g 0 0 n j = f j := fun j hj => by
    unfold va_cpy
    rw [if_pos ⟨by omega, by omega⟩]
    congr 1
    omega
  have hlb := (List.getElem?_eq_some_iff.mp hxb).1
  refine sx_Fin_step rfl (fun n' r hgo => ⟨_, X, hfind, Or.inr (Or.inr (Or.inr (Or.inr (Or.inr ⟨_, _, hs, hgo⟩))))⟩) (k _ (ly_hy_set1 hy hcb fun t ht' => ?_) ?_ ?_)
  · rw [htb] at ht'
    cases ht'
    refine ⟨_, rfl, _, rfl, fun j hj => ?_⟩
    rw [up j hj]
    exact hf j hj
  · funext i
    rw [ly_hv0 (by omega), ly_hv0 (by omega)]
    have t1 := ly_h0_of1 (cst := cst) (h := h.set b (.inl (.int, n, .inl (va_cpy f g 0 0 n)))) (k := 0) (i := i) hcb (by omega)
    have t2 := ly_h0_of1 (cst := cst) (h := h) (k := 0) (i := i) hca (by omega)
    rw [Nat.add_zero] at t1 t2
    rw [t1, t2, List.getElem?_set_self hlb, hxa]
    simp only [ly_hs]
    by_cases hi' : True ∧ 0 ≤ i ∧ i.toNat < n
    · rw [if_pos hi', if_pos hi', up _ hi'.2.2]
    · rw [if_neg hi', if_neg hi']
  · intro r i hne
    refine ly_hv_but (r := 256 * b) (by omega) (fun r2 hr2 i2 => ly_h0_set1 hcb hxb (fun er2 => ?_)) hne ?_ i
    · simp only [ly_hs]
      have : ¬ (r2 % 256 = 0 ∧ 0 ≤ i2 ∧ i2.toNat < n) := fun q => by omega
      rw [if_neg this, if_neg this]
    · rw [hg]
      rfl
theorem th_W : ly_ths ly_TH 63 = some (.inl (.int, 36, -2147483648, 2147483647)) := rfl
theorem th_F : ly_ths ly_TH 165 = some (.inl (.int, 36, -2147483648, 2147483647)) := rfl
/-- a store into a row of 36 -/
theorem fw_put {cst : am_K} {r : Nat} {k v : Int} {h h' : am_H} {W : Int → Int} (p : hp_put cst r k v h h') (H : fw_R (ly_hv cst h r) W) : fw_R (ly_hv cst h' r) (fw_u W k v) := by
  intro i i0 i1
  by_cases q : i = k
  · rw [q, fw_at]
    exact p.1
  · rw [fw_ne _ q, p.2 r i (Or.inr q)]
    exact H i i0 i1
def fw_Φ (cst : am_K) (h : am_H) (r : Nat) (P : (Int → Option Int) → Prop) (q : am_Q) : Prop := q.1 = none ∧ q.2.2.1 = 0 ∧ q.2.2.2 = 0 ∧ ly_hy m_tt ly_TH q.2.1 ∧ ly_fr cst [r] h q.2.1 ∧ P (ly_hv cst q.2.1 r)
theorem sw_run {cst : am_K} {strs : List Nat} {D : Nat} {h : am_H} (c : hp_C cst strs D) (hD : (2 : Int) ≤ (D : Int) + 1) (hy : ly_hy m_tt ly_TH h) {xs xb xo : Int32} (s0 : 0 ≤ xs.toInt) (s1 : xs.toInt ≤ 5) (b0 : 0 ≤ xb.toInt) (b1 : xb.toInt ≤ 5) (o0 : 0 ≤ xo.toInt) (o1 : xo.toInt ≤ 5) {W : Int → Int} (H : fw_R (ly_hv cst h 16128) W) (hW : ∀ i, 0 ≤ i → i < 36 → -1 ≤ W i ∧ W i ≤ 1152) :
    ∃ r, am_Run cst m_cl m_tt m_P strs sx_bi (D + 1) 30 [.ref 77, .int xs, .int xb, .int xo] h r ∧ fw_Φ cst h 16128 (fun f => fw_R f (fw_h W xs.toInt xb.toInt xo.toInt)) r := by
  obtain ⟨M, hM, hl⟩ := hp_M (mi := 30) (k := 4) (by decide +kernel)
  have k1 := H (6 * xs.toInt + xb.toInt) (by omega) (by omega)
  have k2 := H (6 * xb.toInt + xo.toInt) (by omega) (by omega)
  have k3 := H (6 * xs.toInt + xo.toInt) (by omega) (by omega)
  have w1 := hW (6 * xs.toInt + xb.toInt) (by omega) (by omega)
  have w2 := hW (6 * xb.toInt + xo.toInt) (by omega) (by omega)
  have w3 := hW (6 * xs.toInt + xo.toInt) (by omega) (by omega)
  have go : hp_F cst strs (fw_Φ cst h 16128 (fun f => fw_R f (fw_h W xs.toInt xb.toInt xo.toInt))) D M 0 (lv_args 0 [.ref 77, .int xs, .int xb, .int xo]) [] h := by
    by_cases q : W (6 * xs.toInt + xb.toInt) ≠ -1 ∧ W (6 * xb.toInt + xo.toInt) ≠ -1 ∧ (W (6 * xs.toInt + xo.toInt) = -1 ∨ W (6 * xs.toInt + xb.toInt) + W (6 * xb.toInt + xo.toInt) < W (6 * xs.toInt + xo.toInt))
    · have eq : fw_h W xs.toInt xb.toInt xo.toInt = fw_u W (6 * xs.toInt + xo.toInt) (W (6 * xs.toInt + xb.toInt) + W (6 * xb.toInt + xo.toInt)) := if_pos q
      rw [eq]
      have store : ∀ (l' : am_L) (h' : am_H) (y0 y1 : Int32), y0.toInt = W (6 * xs.toInt + xb.toInt) + W (6 * xb.toInt + xo.toInt) → y1.toInt = 6 * xs.toInt + xo.toInt → ly_hy m_tt ly_TH h' → ly_fr cst [] h h' → h.length ≤ h'.length → hp_a l' 0 77 → hp_F cst strs (fw_Φ cst h 16128 (fun f => fw_R f (fw_u W (6 * xs.toInt + xo.toInt) (W (6 * xs.toInt + xb.toInt) + W (6 * xb.toInt + xo.toInt))))) D M 82 l' [.int y0, .int y1, .ref 79] h' := by
        intro l' h' y0 y1 e0 e1 u1 u2 u3 g0
        refine hp_st (c := 63) hM (by decide +kernel) u1 th_W rfl (by omega) (by omega) y0.le_toInt y0.toInt_le (fun h2 q1 q2 q3 => ?_)
        rw [e0, e1] at q3
        refine sw5 c hM hD q1 g0 (fun h3 v1 v2 v3 => ⟨rfl, rfl, rfl, v1, ly_fr_tr (fun r i v _ e => u2 r i v rfl e) (ly_fr_tr (hp_put_fr (by rfl) q3) (fun r i v _ e => v2 r i v rfl e)), ?_⟩)
        rw [hp_same th_W rfl q1 v1 v2]
        refine fw_put q3 ?_
        rw [hp_same th_W rfl hy u1 u2]
        exact H
      by_cases q4 : W (6 * xs.toInt + xo.toInt) = -1
      · rw [q4] at k3
        exact sw3 c hM hD hy xs.toInt xb.toInt xo.toInt (W (6 * xs.toInt + xb.toInt)) (W (6 * xb.toInt + xo.toInt)) s0 s1 b0 b1 o0 o1 (by omega) (by omega) (by omega) (by omega) k1 k2 k3 rfl ⟨xs, rfl, rfl⟩ ⟨xb, rfl, rfl⟩ ⟨xo, rfl, rfl⟩ store
      · exact sw4 c hM hD hy xs.toInt xb.toInt xo.toInt (W (6 * xs.toInt + xb.toInt)) (W (6 * xb.toInt + xo.toInt)) (W (6 * xs.toInt + xo.toInt)) s0 s1 b0 b1 o0 o1 (by omega) (by omega) (by omega) (by omega) (by omega) (by omega) (by omega) k1 k2 k3 rfl ⟨xs, rfl, rfl⟩ ⟨xb, rfl, rfl⟩ ⟨xo, rfl, rfl⟩ store
    · have eq : fw_h W xs.toInt xb.toInt xo.toInt = W := if_neg q
      rw [eq]
      have fin : ∀ (h' : am_H), ly_hy m_tt ly_TH h' → ly_fr cst [] h h' → h.length ≤ h'.length → fw_Φ cst h 16128 (fun f => fw_R f W) (none, h', 0, 0) := fun h' u1 u2 u3 => ⟨rfl, rfl, rfl, u1, (fun r i v _ e => u2 r i v rfl e), by show fw_R (ly_hv cst h' 16128) W; rw [hp_same th_W rfl hy u1 u2]; exact H⟩
      by_cases q1 : W (6 * xs.toInt + xb.toInt) = -1
      · rw [q1] at k1
        exact sw0 c hM hD hy xs.toInt xb.toInt xo.toInt (W (6 * xb.toInt + xo.toInt)) (W (6 * xs.toInt + xo.toInt)) s0 s1 b0 b1 o0 o1 (by omega) (by omega) (by omega) (by omega) k1 k2 k3 rfl ⟨xs, rfl, rfl⟩ ⟨xb, rfl, rfl⟩ ⟨xo, rfl, rfl⟩ fin
      by_cases q2 : W (6 * xb.toInt + xo.toInt) = -1
      · rw [q2] at k2
        exact sw1 c hM hD hy xs.toInt xb.toInt xo.toInt (W (6 * xs.toInt + xb.toInt)) (W (6 * xs.toInt + xo.toInt)) s0 s1 b0 b1 o0 o1 (by omega) (by omega) (by omega) (by omega) k1 k2 k3 rfl ⟨xs, rfl, rfl⟩ ⟨xb, rfl, rfl⟩ ⟨xo, rfl, rfl⟩ fin
      · exact sw2 c hM hD hy xs.toInt xb.toInt xo.toInt (W (6 * xs.toInt + xb.toInt)) (W (6 * xb.toInt + xo.toInt)) (W (6 * xs.toInt + xo.toInt)) s0 s1 b0 b1 o0 o1 (by omega) (by omega) (by omega) (by omega) (by omega) (by omega) (by omega) k1 k2 k3 rfl ⟨xs, rfl, rfl⟩ ⟨xb, rfl, rfl⟩ ⟨xo, rfl, rfl⟩ fin
  obtain ⟨n, r, hgo, r1, r2, r3, r4⟩ := go
  simp only [Nat.zero_add] at r2 r3
  exact ⟨r, Or.inr ⟨M, n, hM, hl, hgo⟩, r1, r2, r3, r4⟩
theorem fy_o {cst : am_K} {strs : List Nat} {D : Nat} {M : am_M} {h0 : am_H} (c1 : hp_C cst strs D) (c : hp_C cst strs (D + 1)) (hM : m_P[29]? = some M) (hD : (2 : Int) ≤ (D : Int) + 1) {A : Int → Int} (hA : ∀ b s o : Nat, b < 6 → s < 6 → o ≤ 6 → ∀ i, 0 ≤ i → i < 36 → -1 ≤ fw_o fw_h (fw_s fw_h (fw_b fw_h A b) (b : Int) s) (s : Int) (b : Int) o i ∧ fw_o fw_h (fw_s fw_h (fw_b fw_h A b) (b : Int) s) (s : Int) (b : Int) o i ≤ 1152) {b s : Nat} (hb : b < 6) (hs : s < 6)
    (k : ∀ (l : am_L) (h : am_H), ly_hy m_tt ly_TH h → ly_fr cst [16128] h0 h → fw_R (ly_hv cst h 16128) (fw_o fw_h (fw_s fw_h (fw_b fw_h A b) (b : Int) s) (s : Int) (b : Int) 6) → hp_a l 0 77 → hp_i l 1 (b : Int) → hp_i l 2 (s : Int) → hp_i l 3 6 → hp_F cst strs (fw_Φ cst h0 16128 (fun f => fw_R f (fw_b fw_h A 6))) (D + 1) M 59 l [] h) :
    ∀ (n o : Nat), o + n = 6 → ∀ (l : am_L) (h : am_H), ly_hy m_tt ly_TH h → ly_fr cst [16128] h0 h → fw_R (ly_hv cst h 16128) (fw_o fw_h (fw_s fw_h (fw_b fw_h A b) (b : Int) s) (s : Int) (b : Int) o) → hp_a l 0 77 → hp_i l 1 (b : Int) → hp_i l 2 (s : Int) → hp_i l 3 (o : Int) → hp_F cst strs (fw_Φ cst h0 16128 (fun f => fw_R f (fw_b fw_h A 6))) (D + 1) M 59 l [] h := by
  intro n
  induction n with
  | zero =>
    intro o ho l h u1 u2 H l0 l1 l2 l3
    have e : o = 6 := by omega
    subst e
    exact k l h u1 u2 H l0 l1 l2 l3
  | succ n ih =>
    intro o ho l h u1 u2 H l0 l1 l2 l3
    have hW := hA b s o hb hs (by omega)
    refine fy9 c hM (by omega) u1 (b : Int) (s : Int) (o : Int) (by omega) (by omega) (by omega) (by omega) (by omega) (by omega) l0 l1 l2 l3 (fun l' h' y0 y1 y2 e0 e1 e2 v1 v2 v3 m0 m1 m2 m3 => ?_)
    have H' : fw_R (ly_hv cst h' 16128) (fw_o fw_h (fw_s fw_h (fw_b fw_h A b) (b : Int) s) (s : Int) (b : Int) o) := by rw [hp_same th_W rfl u1 v1 v2]; exact H
    obtain ⟨r, hrun, r1, r2, r3, rhy, rfr, rP⟩ := sw_run (xs := y2) (xb := y1) (xo := y0) c1 hD v1 (by omega) (by omega) (by omega) (by omega) (by omega) (by omega) H' hW
    refine hp_call (mi := 29) (pc := 69) (tg := 30) (na := 4) (c := 61) (ci := 9) (st0 := [.int y0, .int y1, .int y2, .ref 77]) (st := []) (av := [.int y2, .int y1, .int y0]) hM (by decide +kernel) v1 rfl rfl rfl (by decide) hrun r2 r3 ?_
    rw [r1]
    rw [e0, e1, e2] at rP
    refine fyb c hM (by omega) rhy (b : Int) (s : Int) (o : Int) (by omega) (by omega) (by omega) (by omega) (by omega) (by omega) m0 m1 m2 m3 (fun l3' h3 z1 z2 z3 n0 n1 n2 n3 => ?_)
    exact ih (o + 1) (by omega) l3' h3 z1 (ly_fr_tr (ly_fr_tr u2 (fun r i v _ e => v2 r i v rfl e)) (ly_fr_tr rfr (fun r i v _ e => z2 r i v rfl e))) (by rw [hp_same th_W rfl rhy z1 z2]; exact rP) n0 n1 n2 (by rw [show ((o + 1 : Nat) : Int) = (o : Int) + 1 by omega]; exact n3)
theorem fy_s {cst : am_K} {strs : List Nat} {D : Nat} {M : am_M} {h0 : am_H} (c1 : hp_C cst strs D) (c : hp_C cst strs (D + 1)) (hM : m_P[29]? = some M) (hD : (2 : Int) ≤ (D : Int) + 1) {A : Int → Int} (hA : ∀ b s o : Nat, b < 6 → s < 6 → o ≤ 6 → ∀ i, 0 ≤ i → i < 36 → -1 ≤ fw_o fw_h (fw_s fw_h (fw_b fw_h A b) (b : Int) s) (s : Int) (b : Int) o i ∧ fw_o fw_h (fw_s fw_h (fw_b fw_h A b) (b : Int) s) (s : Int) (b : Int) o i ≤ 1152) {b : Nat} (hb : b < 6)
    (k : ∀ (l : am_L) (h : am_H), ly_hy m_tt ly_TH h → ly_fr cst [16128] h0 h → fw_R (ly_hv cst h 16128) (fw_s fw_h (fw_b fw_h A b) (b : Int) 6) → hp_a l 0 77 → hp_i l 1 (b : Int) → hp_i l 2 6 → hp_F cst strs (fw_Φ cst h0 16128 (fun f => fw_R f (fw_b fw_h A 6))) (D + 1) M 51 l [] h) :
    ∀ (n s : Nat), s + n = 6 → ∀ (l : am_L) (h : am_H), ly_hy m_tt ly_TH h → ly_fr cst [16128] h0 h → fw_R (ly_hv cst h 16128) (fw_s fw_h (fw_b fw_h A b) (b : Int) s) → hp_a l 0 77 → hp_i l 1 (b : Int) → hp_i l 2 (s : Int) → hp_F cst strs (fw_Φ cst h0 16128 (fun f => fw_R f (fw_b fw_h A 6))) (D + 1) M 51 l [] h := by
  intro n
  induction n with
  | zero =>
    intro s hs l h u1 u2 H l0 l1 l2
    have e : s = 6 := by omega
    subst e
    exact k l h u1 u2 H l0 l1 l2
  | succ n ih =>
    intro s hs l h u1 u2 H l0 l1 l2
    refine fy7 c hM (by omega) u1 (b : Int) (s : Int) (by omega) (by omega) (by omega) (by omega) l0 l1 l2 (fun l' h' v1 v2 v3 m0 m1 m2 m3 => ?_)
    refine fy_o c1 c hM hD hA hb (by omega) (fun l2' h2 w1 w2 H2 g0 g1 g2 g3 => ?_) 6 0 (by omega) l' h' v1 (ly_fr_tr u2 (fun r i v _ e => v2 r i v rfl e)) (by rw [hp_same th_W rfl u1 v1 v2]; exact H) m0 m1 m2 m3
    refine fya c hM (by omega) w1 (b : Int) (s : Int) (by omega) (by omega) (by omega) (by omega) g0 g1 g2 g3 (fun l3' h3 z1 z2 z3 n0 n1 n2 => ?_)
    exact ih (s + 1) (by omega) l3' h3 z1 (ly_fr_tr w2 (fun r i v _ e => z2 r i v rfl e)) (by rw [hp_same th_W rfl w1 z1 z2]; exact H2) n0 n1 (by rw [show ((s + 1 : Nat) : Int) = (s : Int) + 1 by omega]; exact n2)
theorem fy_b {cst : am_K} {strs : List Nat} {D : Nat} {M : am_M} {h0 : am_H} (c1 : hp_C cst strs D) (c : hp_C cst strs (D + 1)) (hM : m_P[29]? = some M) (hD : (2 : Int) ≤ (D : Int) + 1) {A : Int → Int} (hA : ∀ b s o : Nat, b < 6 → s < 6 → o ≤ 6 → ∀ i, 0 ≤ i → i < 36 → -1 ≤ fw_o fw_h (fw_s fw_h (fw_b fw_h A b) (b : Int) s) (s : Int) (b : Int) o i ∧ fw_o fw_h (fw_s fw_h (fw_b fw_h A b) (b : Int) s) (s : Int) (b : Int) o i ≤ 1152) :
    ∀ (n b : Nat), b + n = 6 → ∀ (l : am_L) (h : am_H), ly_hy m_tt ly_TH h → ly_fr cst [16128] h0 h → fw_R (ly_hv cst h 16128) (fw_b fw_h A b) → hp_a l 0 77 → hp_i l 1 (b : Int) → hp_F cst strs (fw_Φ cst h0 16128 (fun f => fw_R f (fw_b fw_h A 6))) (D + 1) M 43 l [] h := by
  intro n
  induction n with
  | zero =>
    intro b hb l h u1 u2 H l0 l1
    have e : b = 6 := by omega
    subst e
    exact fy6 c hM (by omega) u1 l0 l1 (fun h2 v1 v2 v3 => ⟨rfl, rfl, rfl, v1, ly_fr_tr u2 (fun r i v _ e => v2 r i v rfl e), by rw [hp_same th_W rfl u1 v1 v2]; exact H⟩)
  | succ n ih =>
    intro b hb l h u1 u2 H l0 l1
    refine fy5 c hM (by omega) u1 (b : Int) (by omega) (by omega) l0 l1 (fun l' h' v1 v2 v3 m0 m1 m2 => ?_)
    refine fy_s c1 c hM hD hA (b := b) (by omega) (fun l2' h2 w1 w2 H2 g0 g1 g2 => ?_) 6 0 (by omega) l' h' v1 (ly_fr_tr u2 (fun r i v _ e => v2 r i v rfl e)) (by rw [hp_same th_W rfl u1 v1 v2]; exact H) m0 m1 m2
    refine fy8 c hM (by omega) w1 (b : Int) (by omega) (by omega) g0 g1 g2 (fun l3' h3 z1 z2 z3 n0 n1 => ?_)
    exact ih (b + 1) (by omega) l3' h3 z1 (ly_fr_tr w2 (fun r i v _ e => z2 r i v rfl e)) (by rw [hp_same th_W rfl w1 z1 z2]; exact H2) n0 (by rw [show ((b + 1 : Nat) : Int) = (b : Int) + 1 by omega]; exact n1)
theorem gg_o {cst : am_K} {strs : List Nat} {D : Nat} {M : am_M} {h0 : am_H} (c1 : hp_C cst strs D) (c : hp_C cst strs (D + 1)) (hM : m_P[404]? = some M) (hD : (2 : Int) ≤ (D : Int) + 1) {A : Int → Int} (hA : ∀ b s o : Nat, b < 6 → s < 6 → o ≤ 6 → ∀ i, 0 ≤ i → i < 36 → 0 ≤ fw_o gw_h (fw_s gw_h (fw_b gw_h A b) (b : Int) s) (s : Int) (b : Int) o i ∧ fw_o gw_h (fw_s gw_h (fw_b gw_h A b) (b : Int) s) (s : Int) (b : Int) o i ≤ 100000) {b s : Nat} (hb : b < 6) (hs : s < 6)
    (k : ∀ (l : am_L) (h : am_H), ly_hy m_tt ly_TH h → ly_fr cst [42240] h0 h → fw_R (ly_hv cst h 42240) (fw_o gw_h (fw_s gw_h (fw_b gw_h A b) (b : Int) s) (s : Int) (b : Int) 6) → hp_a l 0 94 → hp_i l 1 (b : Int) → hp_i l 2 (s : Int) → hp_i l 3 6 → hp_F cst strs (fw_Φ cst h0 42240 (fun f => fw_R f (fw_b gw_h A 6))) (D + 1) M 71 l [] h) :
    ∀ (n o : Nat), o + n = 6 → ∀ (l : am_L) (h : am_H), ly_hy m_tt ly_TH h → ly_fr cst [42240] h0 h → fw_R (ly_hv cst h 42240) (fw_o gw_h (fw_s gw_h (fw_b gw_h A b) (b : Int) s) (s : Int) (b : Int) o) → hp_a l 0 94 → hp_i l 1 (b : Int) → hp_i l 2 (s : Int) → hp_i l 3 (o : Int) → hp_F cst strs (fw_Φ cst h0 42240 (fun f => fw_R f (fw_b gw_h A 6))) (D + 1) M 71 l [] h := by
  intro n
  induction n with
  | zero =>
    intro o ho l h u1 u2 H l0 l1 l2 l3
    have e : o = 6 := by omega
    subst e
    exact k l h u1 u2 H l0 l1 l2 l3
  | succ n ih =>
    intro o ho l h u1 u2 H l0 l1 l2 l3
    have hW := hA b s o hb hs (by omega)
    have k1 := H (6 * (s : Int) + (b : Int)) (by omega) (by omega)
    have k2 := H (6 * (b : Int) + (o : Int)) (by omega) (by omega)
    have k3 := H (6 * (s : Int) + (o : Int)) (by omega) (by omega)
    have w1 := hW (6 * (s : Int) + (b : Int)) (by omega) (by omega)
    have w2 := hW (6 * (b : Int) + (o : Int)) (by omega) (by omega)
    have w3 := hW (6 * (s : Int) + (o : Int)) (by omega) (by omega)
    have hS : fw_o gw_h (fw_s gw_h (fw_b gw_h A b) (b : Int) s) (s : Int) (b : Int) (o + 1) = gw_h (fw_o gw_h (fw_s gw_h (fw_b gw_h A b) (b : Int) s) (s : Int) (b : Int) o) (s : Int) (b : Int) (o : Int) := rfl
    by_cases q : (fw_o gw_h (fw_s gw_h (fw_b gw_h A b) (b : Int) s) (s : Int) (b : Int) o) (6 * (s : Int) + (b : Int)) + (fw_o gw_h (fw_s gw_h (fw_b gw_h A b) (b : Int) s) (s : Int) (b : Int) o) (6 * (b : Int) + (o : Int)) < (fw_o gw_h (fw_s gw_h (fw_b gw_h A b) (b : Int) s) (s : Int) (b : Int) o) (6 * (s : Int) + (o : Int))
    · have eq : gw_h (fw_o gw_h (fw_s gw_h (fw_b gw_h A b) (b : Int) s) (s : Int) (b : Int) o) (s : Int) (b : Int) (o : Int) = fw_u (fw_o gw_h (fw_s gw_h (fw_b gw_h A b) (b : Int) s) (s : Int) (b : Int) o) (6 * (s : Int) + (o : Int)) ((fw_o gw_h (fw_s gw_h (fw_b gw_h A b) (b : Int) s) (s : Int) (b : Int) o) (6 * (s : Int) + (b : Int)) + (fw_o gw_h (fw_s gw_h (fw_b gw_h A b) (b : Int) s) (s : Int) (b : Int) o) (6 * (b : Int) + (o : Int))) := if_pos q
      refine ggc c hM (by omega) u1 (b : Int) (s : Int) (o : Int) _ _ _ (by omega) (by omega) (by omega) (by omega) (by omega) (by omega) w1.1 w1.2 w2.1 w2.2 w3.1 w3.2 (by omega) k1 k2 k3 l0 l1 l2 l3 (fun l' h' y0 y1 e0 e1 v1 v2 v3 m0 m1 m2 m3 => ?_)
      refine hp_st (c := 165) hM (by decide +kernel) v1 th_F rfl (by omega) (by omega) y0.le_toInt y0.toInt_le (fun h2 q1 q2 q3 => ?_)
      rw [e0, e1] at q3
      refine ggb c hM (by omega) q1 (b : Int) (s : Int) (o : Int) (by omega) (by omega) (by omega) (by omega) (by omega) (by omega) m0 m1 m2 m3 (fun l3' h3 z1 z2 z3 n0 n1 n2 n3 => ?_)
      refine ih (o + 1) (by omega) l3' h3 z1 (ly_fr_tr (ly_fr_tr u2 (fun r i v _ e => v2 r i v rfl e)) (ly_fr_tr (hp_put_fr (by rfl) q3) (fun r i v _ e => z2 r i v rfl e))) ?_ n0 n1 n2 (by rw [show ((o + 1 : Nat) : Int) = (o : Int) + 1 by omega]; exact n3)
      rw [hS, eq, hp_same th_F rfl q1 z1 z2]
      refine fw_put q3 ?_
      rw [hp_same th_F rfl u1 v1 v2]
      exact H
    · have eq : gw_h (fw_o gw_h (fw_s gw_h (fw_b gw_h A b) (b : Int) s) (s : Int) (b : Int) o) (s : Int) (b : Int) (o : Int) = (fw_o gw_h (fw_s gw_h (fw_b gw_h A b) (b : Int) s) (s : Int) (b : Int) o) := if_neg q
      refine gg9 c hM (by omega) u1 (b : Int) (s : Int) (o : Int) _ _ _ (by omega) (by omega) (by omega) (by omega) (by omega) (by omega) w1.1 w1.2 w2.1 w2.2 w3.1 w3.2 (by omega) k1 k2 k3 l0 l1 l2 l3 (fun l' h' v1 v2 v3 m0 m1 m2 m3 => ?_)
      refine ih (o + 1) (by omega) l' h' v1 (ly_fr_tr u2 (fun r i v _ e => v2 r i v rfl e)) ?_ m0 m1 m2 (by rw [show ((o + 1 : Nat) : Int) = (o : Int) + 1 by omega]; exact m3)
      rw [hS, eq, hp_same th_F rfl u1 v1 v2]
      exact H
theorem gg_s {cst : am_K} {strs : List Nat} {D : Nat} {M : am_M} {h0 : am_H} (c1 : hp_C cst strs D) (c : hp_C cst strs (D + 1)) (hM : m_P[404]? = some M) (hD : (2 : Int) ≤ (D : Int) + 1) {A : Int → Int} (hA : ∀ b s o : Nat, b < 6 → s < 6 → o ≤ 6 → ∀ i, 0 ≤ i → i < 36 → 0 ≤ fw_o gw_h (fw_s gw_h (fw_b gw_h A b) (b : Int) s) (s : Int) (b : Int) o i ∧ fw_o gw_h (fw_s gw_h (fw_b gw_h A b) (b : Int) s) (s : Int) (b : Int) o i ≤ 100000) {b : Nat} (hb : b < 6)
    (k : ∀ (l : am_L) (h : am_H), ly_hy m_tt ly_TH h → ly_fr cst [42240] h0 h → fw_R (ly_hv cst h 42240) (fw_s gw_h (fw_b gw_h A b) (b : Int) 6) → hp_a l 0 94 → hp_i l 1 (b : Int) → hp_i l 2 6 → hp_F cst strs (fw_Φ cst h0 42240 (fun f => fw_R f (fw_b gw_h A 6))) (D + 1) M 63 l [] h) :
    ∀ (n s : Nat), s + n = 6 → ∀ (l : am_L) (h : am_H), ly_hy m_tt ly_TH h → ly_fr cst [42240] h0 h → fw_R (ly_hv cst h 42240) (fw_s gw_h (fw_b gw_h A b) (b : Int) s) → hp_a l 0 94 → hp_i l 1 (b : Int) → hp_i l 2 (s : Int) → hp_F cst strs (fw_Φ cst h0 42240 (fun f => fw_R f (fw_b gw_h A 6))) (D + 1) M 63 l [] h := by
  intro n
  induction n with
  | zero =>
    intro s hs l h u1 u2 H l0 l1 l2
    have e : s = 6 := by omega
    subst e
    exact k l h u1 u2 H l0 l1 l2
  | succ n ih =>
    intro s hs l h u1 u2 H l0 l1 l2
    refine gg7 c hM (by omega) u1 (b : Int) (s : Int) (by omega) (by omega) (by omega) (by omega) l0 l1 l2 (fun l' h' v1 v2 v3 m0 m1 m2 m3 => ?_)
    refine gg_o c1 c hM hD hA hb (by omega) (fun l2' h2 w1 w2 H2 g0 g1 g2 g3 => ?_) 6 0 (by omega) l' h' v1 (ly_fr_tr u2 (fun r i v _ e => v2 r i v rfl e)) (by rw [hp_same th_F rfl u1 v1 v2]; exact H) m0 m1 m2 m3
    refine gga c hM (by omega) w1 (b : Int) (s : Int) (by omega) (by omega) (by omega) (by omega) g0 g1 g2 g3 (fun l3' h3 z1 z2 z3 n0 n1 n2 => ?_)
    exact ih (s + 1) (by omega) l3' h3 z1 (ly_fr_tr w2 (fun r i v _ e => z2 r i v rfl e)) (by rw [hp_same th_F rfl w1 z1 z2]; exact H2) n0 n1 (by rw [show ((s + 1 : Nat) : Int) = (s : Int) + 1 by omega]; exact n2)
theorem gg_b {cst : am_K} {strs : List Nat} {D : Nat} {M : am_M} {h0 : am_H} (c1 : hp_C cst strs D) (c : hp_C cst strs (D + 1)) (hM : m_P[404]? = some M) (hD : (2 : Int) ≤ (D : Int) + 1) {A : Int → Int} (hA : ∀ b s o : Nat, b < 6 → s < 6 → o ≤ 6 → ∀ i, 0 ≤ i → i < 36 → 0 ≤ fw_o gw_h (fw_s gw_h (fw_b gw_h A b) (b : Int) s) (s : Int) (b : Int) o i ∧ fw_o gw_h (fw_s gw_h (fw_b gw_h A b) (b : Int) s) (s : Int) (b : Int) o i ≤ 100000) :
    ∀ (n b : Nat), b + n = 6 → ∀ (l : am_L) (h : am_H), ly_hy m_tt ly_TH h → ly_fr cst [42240] h0 h → fw_R (ly_hv cst h 42240) (fw_b gw_h A b) → hp_a l 0 94 → hp_i l 1 (b : Int) → hp_F cst strs (fw_Φ cst h0 42240 (fun f => fw_R f (fw_b gw_h A 6))) (D + 1) M 55 l [] h := by
  intro n
  induction n with
  | zero =>
    intro b hb l h u1 u2 H l0 l1
    have e : b = 6 := by omega
    subst e
    exact gg6 c hM (by omega) u1 l0 l1 (fun h2 v1 v2 v3 => ⟨rfl, rfl, rfl, v1, ly_fr_tr u2 (fun r i v _ e => v2 r i v rfl e), by rw [hp_same th_F rfl u1 v1 v2]; exact H⟩)
  | succ n ih =>
    intro b hb l h u1 u2 H l0 l1
    refine gg5 c hM (by omega) u1 (b : Int) (by omega) (by omega) l0 l1 (fun l' h' v1 v2 v3 m0 m1 m2 => ?_)
    refine gg_s c1 c hM hD hA (b := b) (by omega) (fun l2' h2 w1 w2 H2 g0 g1 g2 => ?_) 6 0 (by omega) l' h' v1 (ly_fr_tr u2 (fun r i v _ e => v2 r i v rfl e)) (by rw [hp_same th_F rfl u1 v1 v2]; exact H) m0 m1 m2
    refine gg8 c hM (by omega) w1 (b : Int) (by omega) (by omega) g0 g1 g2 (fun l3' h3 z1 z2 z3 n0 n1 => ?_)
    exact ih (b + 1) (by omega) l3' h3 z1 (ly_fr_tr w2 (fun r i v _ e => z2 r i v rfl e)) (by rw [hp_same th_F rfl w1 z1 z2]; exact H2) n0 (by rw [show ((b + 1 : Nat) : Int) = (b : Int) + 1 by omega]; exact n1)
/-- findWays: the ways of the roads -/
theorem fy_run {cst : am_K} {strs : List Nat} {D : Nat} {h : am_H} (c1 : hp_C cst strs D) (c : hp_C cst strs (D + 1)) (hD : (2 : Int) ≤ (D : Int) + 1) (hy : ly_hy m_tt ly_TH h) {R : Int → Int} (HR : fw_R (ly_hv cst h 15872) R) (ok : fw_ok R) :
    ∃ r, am_Run cst m_cl m_tt m_P strs sx_bi (D + 1 + 1) 29 [.ref 77] h r ∧ fw_Φ cst h 16128 (fun f => fw_R f (fw_b fw_h (fw_0 R) 6)) r := by
  obtain ⟨M, hM, hl⟩ := hp_M (mi := 29) (k := 1) (by decide +kernel)
  have go : hp_F cst strs (fw_Φ cst h 16128 (fun f => fw_R f (fw_b fw_h (fw_0 R) 6))) (D + 1) M 0 (lv_args 0 [.ref 77]) [] h := by
    refine fy0 c hM (by omega) hy rfl (fun l1 h1 y0 y1 y3 e0 e1 e3 u1 u2 u3 g0 => ?_)
    refine hp_cp (a := 62) (b := 63) hM (by decide +kernel) u1 th_R1 th_W rfl e0 e1 e3 (fun h2 v1 v2 v3 => ?_)
    have fr2 : ly_fr cst [16128] h h2 := fun r i v hr e => by
      rw [v3 r i (by rintro rfl; exact absurd hr (by decide))]
      exact u2 r i v rfl e
    have H2 : fw_R (ly_hv cst h2 16128) R := by
      have : ly_hv cst h2 16128 = ly_hv cst h1 15872 := v2
      rw [this, hp_same th_R1 rfl hy u1 u2]
      exact HR
    refine fy1 c hM (by omega) v1 g0 (fun l3 h3 w1 w2 w3 g1 g2 => ?_)
    -- the places of a shire to itself
    have diag : ∀ (n i : Nat), i + n = 6 → ∀ (l : am_L) (h' : am_H) (W : Int → Int), ly_hy m_tt ly_TH h' → ly_fr cst [16128] h h' → fw_R (ly_hv cst h' 16128) W → (∀ j, 0 ≤ j → j < 36 → W j = if j % 7 = 0 ∧ j < 7 * (i : Int) then 0 else R j) → hp_a l 0 77 → hp_i l 1 (i : Int) → hp_F cst strs (fw_Φ cst h 16128 (fun f => fw_R f (fw_b fw_h (fw_0 R) 6))) (D + 1) M 17 l [] h' := by
      intro n
      induction n with
      | zero =>
        intro i hi l h' W x1 x2 HW hW m0 m1
        have e : i = 6 := by omega
        subst e
        refine fy4 c hM (by omega) x1 m0 m1 (fun l4 h4 z1 z2 z3 n0 n1 => ?_)
        refine fy_b c1 c hM hD (fun b s o hb hs ho i i0 i1 => fw_bd ok hb hs ho i0 i1) 6 0 (by omega) l4 h4 z1 (ly_fr_tr x2 (fun r i v _ e => z2 r i v rfl e)) ?_ n0 n1
        rw [hp_same th_W rfl x1 z1 z2]
        intro j j0 j1
        rw [HW j j0 j1, hW j j0 j1]
        show some _ = some (fw_0 R j)
        unfold fw_0
        congr 1
        by_cases q : j % 7 = 0
        · rw [if_pos q, if_pos ⟨q, by omega⟩]
        · rw [if_neg q, if_neg (fun z => q z.1)]
      | succ n ih =>
        intro i hi l h' W x1 x2 HW hW m0 m1
        refine fy2 c hM (by omega) x1 (i : Int) (by omega) (by omega) m0 m1 (fun l4 h4 y0 y1 e0 e1 z1 z2 z3 n0 n1 => ?_)
        refine hp_st (c := 63) hM (by decide +kernel) z1 th_W rfl (by omega) (by omega) y0.le_toInt y0.toInt_le (fun h5 q1 q2 q3 => ?_)
        rw [e0, e1] at q3
        refine fy3 c hM (by omega) q1 (i : Int) (by omega) (by omega) n0 n1 (fun l6 h6 k1 k2 k3 p0 p1 => ?_)
        refine ih (i + 1) (by omega) l6 h6 (fw_u W (7 * (i : Int)) 0) k1 (ly_fr_tr (ly_fr_tr x2 (fun r i v _ e => z2 r i v rfl e)) (ly_fr_tr (hp_put_fr (by rfl) q3) (fun r i v _ e => k2 r i v rfl e))) ?_ (fun j j0 j1 => ?_) p0 (by rw [show ((i + 1 : Nat) : Int) = (i : Int) + 1 by omega]; exact p1)
        · rw [hp_same th_W rfl q1 k1 k2]
          refine fw_put q3 ?_
          rw [hp_same th_W rfl x1 z1 z2]
          exact HW
        · by_cases q : j = 7 * (i : Int)
          · rw [q, fw_at, if_pos ⟨by omega, by omega⟩]
          · rw [fw_ne _ q, hW j j0 j1]
            by_cases q5 : j % 7 = 0 ∧ j < 7 * (i : Int)
            · rw [if_pos q5, if_pos ⟨q5.1, by omega⟩]
            · rw [if_neg q5, if_neg (fun z => q5 ⟨z.1, by omega⟩)]
    refine diag 6 0 (by omega) l3 h3 R w1 (ly_fr_tr fr2 (fun r i v _ e => w2 r i v rfl e)) (by rw [hp_same th_W rfl v1 w1 w2]; exact H2) (fun j j0 j1 => ?_) g1 g2
    rw [if_neg (fun z => by omega)]
  obtain ⟨n, r, hgo, r1, r2, r3, r4⟩ := go
  simp only [Nat.zero_add] at r2 r3
  exact ⟨r, Or.inr ⟨M, n, hM, hl, hgo⟩, r1, r2, r3, r4⟩
theorem gw_bd {R : Int → Int} (H : fw_ok R) {b s o : Nat} (hb : b < 6) (hs : s < 6) (ho : o ≤ 6) {i : Int} (i0 : 0 ≤ i) (i1 : i < 36) : 0 ≤ fw_o gw_h (fw_s gw_h (fw_b gw_h (gw_0 R) b) (b : Int) s) (s : Int) (b : Int) o i ∧ fw_o gw_h (fw_s gw_h (fw_b gw_h (gw_0 R) b) (b : Int) s) (s : Int) (b : Int) o i ≤ 100000 := by
  have h1 := fw_bd H hb hs ho i0 i1
  have h2 := fw_Eo (s := (s : Int)) (b := (b : Int)) (by omega) (by omega) (by omega) (by omega) (fun o ho i i0 i1 => (fw_bd H hb hs ho i0 i1).2) (fw_Es (b := (b : Int)) (by omega) (by omega) (fun s o hs ho i i0 i1 => (fw_bd H hb hs ho i0 i1).2) (fw_Eb H b (by omega)) s (by omega)) o ho i i0 i1
  omega
/-- makeFars -/
theorem gg_run {cst : am_K} {strs : List Nat} {D : Nat} {h : am_H} (c1 : hp_C cst strs D) (c : hp_C cst strs (D + 1)) (hD : (2 : Int) ≤ (D : Int) + 1) (hy : ly_hy m_tt ly_TH h) {R : Int → Int} (HR : fw_R (ly_hv cst h 20480) R) (ok : fw_ok R) :
    ∃ r, am_Run cst m_cl m_tt m_P strs sx_bi (D + 1 + 1) 404 [.ref 94] h r ∧ fw_Φ cst h 42240 (fun f => fw_R f (fw_b gw_h (gw_0 R) 6)) r := by
  obtain ⟨M, hM, hl⟩ := hp_M (mi := 404) (k := 1) (by decide +kernel)
  have go : hp_F cst strs (fw_Φ cst h 42240 (fun f => fw_R f (fw_b gw_h (gw_0 R) 6))) (D + 1) M 0 (lv_args 0 [.ref 94]) [] h := by
    refine gf0 c hM (by omega) hy rfl (fun l1 h1 u1 u2 u3 g0 g1 => ?_)
    have first : ∀ (n k : Nat), k + n = 36 → ∀ (l : am_L) (h' : am_H) (W : Int → Int), ly_hy m_tt ly_TH h' → ly_fr cst [42240] h h' → fw_R (ly_hv cst h' 42240) W → (∀ j, 0 ≤ j → j < (k : Int) → W j = gw_0 R j) → hp_a l 0 94 → hp_i l 1 (k : Int) → hp_F cst strs (fw_Φ cst h 42240 (fun f => fw_R f (fw_b gw_h (gw_0 R) 6))) (D + 1) M 2 l [] h' := by
      intro n
      induction n with
      | zero =>
        intro k hk l h' W x1 x2 HW hW m0 m1
        have e : k = 36 := by omega
        subst e
        refine gf6 c hM (by omega) x1 m0 m1 (fun l4 h4 z1 z2 z3 n0 n1 => ?_)
        refine gg_b c1 c hM hD (fun b s o hb hs ho i i0 i1 => gw_bd ok hb hs ho i0 i1) 6 0 (by omega) l4 h4 z1 (ly_fr_tr x2 (fun r i v _ e => z2 r i v rfl e)) ?_ n0 n1
        rw [hp_same th_F rfl x1 z1 z2]
        intro j j0 j1
        rw [HW j j0 j1, hW j j0 j1]
        rfl
      | succ n ih =>
        intro k hk l h' W x1 x2 HW hW m0 m1
        have rd : ly_hv cst h' 20480 (k : Int) = some (R k) := by
          rw [hp_same th_R2 rfl hy x1 x2]
          exact HR k (by omega) (by omega)
        have okk := ok k (by omega) (by omega)
        refine gf1 c hM (by omega) x1 (k : Int) (by omega) (by omega) m0 m1 (fun l4 h4 y0 y1 y2 e0 e1 e2 z1 z2 z3 n0 n1 => ?_)
        refine hp_rem hM (by decide +kernel) (by omega) (by omega) (fun zr hz => ?_)
        rw [e0, e1] at hz
        have store : ∀ (l5 : am_L) (h5 : am_H) (w0 w1 : Int32), w0.toInt = gw_0 R k → w1.toInt = (k : Int) → ly_hy m_tt ly_TH h5 → ly_fr cst [] h4 h5 → h4.length ≤ h5.length → hp_a l5 0 94 → hp_i l5 1 (k : Int) → hp_F cst strs (fw_Φ cst h 42240 (fun f => fw_R f (fw_b gw_h (gw_0 R) 6))) (D + 1) M 46 l5 [.int w0, .int w1, .ref 181] h5 := by
          intro l5 h5 w0 w1 f0 f1 s1 s2 s3 j0 j1
          refine hp_st (c := 165) hM (by decide +kernel) s1 th_F rfl (by omega) (by omega) w0.le_toInt w0.toInt_le (fun h6 q1 q2 q3 => ?_)
          rw [f0, f1] at q3
          refine gf5 c hM (by omega) q1 (k : Int) (by omega) (by omega) j0 j1 (fun l7 h7 k1 k2 k3 p0 p1 => ?_)
          refine ih (k + 1) (by omega) l7 h7 (fw_u W (k : Int) (gw_0 R k)) k1 (ly_fr_tr (ly_fr_tr x2 (ly_fr_tr (fun r i v _ e => z2 r i v rfl e) (fun r i v _ e => s2 r i v rfl e))) (ly_fr_tr (hp_put_fr (by rfl) q3) (fun r i v _ e => k2 r i v rfl e))) ?_ (fun j j0 j1 => ?_) p0 (by rw [show ((k + 1 : Nat) : Int) = (k : Int) + 1 by omega]; exact p1)
          · rw [hp_same th_F rfl q1 k1 k2]
            refine fw_put q3 ?_
            rw [hp_same th_F rfl z1 s1 s2, hp_same th_F rfl x1 z1 z2]
            exact HW
          · by_cases q : j = (k : Int)
            · rw [q, fw_at]
            · rw [fw_ne _ q]
              exact hW j j0 (by omega)
        by_cases q : (k : Int) % 7 = 0
        · rw [q] at hz
          exact gf2 c hM (by omega) z1 (k : Int) zr y2 hz e2 (by omega) (by omega) n0 n1 (fun l5 h5 w0 w1 f0 f1 => store l5 h5 w0 w1 (by rw [f0]; unfold gw_0; rw [if_pos q]) f1)
        · by_cases q2 : R k = -1
          · rw [q2] at rd
            exact gf3 c hM (by omega) z1 (k : Int) ((k : Int) % 7) zr y2 hz e2 (by omega) (by omega) (by omega) (by omega) (z2 _ _ _ rfl rd) n0 n1 (fun l5 h5 w0 w1 f0 f1 => store l5 h5 w0 w1 (by rw [f0]; unfold gw_0; rw [if_neg q, if_pos q2]) f1)
          · exact gf4 c hM (by omega) z1 (k : Int) ((k : Int) % 7) (R k) zr y2 hz e2 (by omega) (by omega) (by omega) (by omega) (by omega) (by omega) (z2 _ _ _ rfl rd) n0 n1 (fun l5 h5 w0 w1 f0 f1 => store l5 h5 w0 w1 (by rw [f0]; unfold gw_0; rw [if_neg q, if_neg q2]) f1)
    have hW : ∃ W : Int → Int, fw_R (ly_hv cst h1 42240) W := by
      refine ⟨fun i => (ly_hv cst h1 42240 i).getD 0, fun i i0 i1 => ?_⟩
      obtain ⟨v, hv, -, -⟩ := hp_row (cst := cst) (i := i) u1 th_F i0 i1
      have hv' : ly_hv cst h1 42240 i = some v := hv
      show ly_hv cst h1 42240 i = some ((ly_hv cst h1 42240 i).getD 0)
      rw [hv']
      rfl
    obtain ⟨W, HW⟩ := hW
    exact first 36 0 (by omega) l1 h1 W u1 (fun r i v _ e => u2 r i v rfl e) HW (fun j j0 j1 => by omega) g0 g1
  obtain ⟨n, r, hgo, r1, r2, r3, r4⟩ := go
  simp only [Nat.zero_add] at r2 r3
  exact ⟨r, Or.inr ⟨M, n, hM, hl, hgo⟩, r1, r2, r3, r4⟩
