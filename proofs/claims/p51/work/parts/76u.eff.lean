/-! PRINTED by wip/p2/hp_eff.py: land and dead, what they leave of the tellings -/
theorem elg0_k : hp_chk 37 0 4 [(0, (-2147483648), (-1)), (1, (-2147483648), 2147483647), (2, (-2147483648), 2147483647), (3, 0, 120)] [] [(0, .inr (.inr (.inl (some 16)))), (1, .inl (0, [(0, 1)])), (2, .inl (0, [(1, 1)])), (3, .inl (0, [(2, 1)]))] [] [(1536, (0, []), (0, [(3, 1)]))] [] 4 [] [([], 4, [(0, (-2147483648), (-1)), (1, (-2147483648), 2147483647), (2, (-2147483648), 2147483647), (3, 0, 120)], [], [], [.inl ((-2), [])], [])] = true := by decide +kernel
theorem elg0 {cst : am_K} {strs : List Nat} {Φ : am_Q → Prop} {D : Nat} {M : am_M} {h : am_H} {l : am_L} (c : hp_C cst strs D) (hM : m_P[37]? = some M) (hD : (4 : Int) ≤ (D : Int) + 1) (hy : ly_hy m_tt ly_TH h) (p y z u : Int) (b0 : (-2147483648) ≤ p) (t0 : p ≤ (-1)) (b1 : (-2147483648) ≤ y) (t1 : y ≤ 2147483647) (b2 : (-2147483648) ≤ z) (t2 : z ≤ 2147483647) (b3 : 0 ≤ u) (t3 : u ≤ 120) (k0 : ly_hv cst h 1536 0 = some (u)) (l0 : hp_a l 0 16) (l1 : hp_i l 1 (p)) (l2 : hp_i l 2 (y)) (l3 : hp_i l 3 (z)) (r0 : ∀ (h' : am_H) (y0 : Int32), y0.toInt = (-2) → ly_hy m_tt ly_TH h' → ly_fr cst [] h h' → h.length ≤ h'.length → Φ (some (.int y0), h', 0, 0)) : hp_F cst strs Φ D M 0 l [] h := by
  refine hp_arc c hM elg0_k hD [p, y, z, u] rfl hy (hp_Bc (z := p) rfl b0 t0 (hp_Bc (z := y) rfl b1 t1 (hp_Bc (z := z) rfl b2 t2 (hp_Bc (z := u) rfl b3 t3 hp_Bn)))) hp_Fn (hp_Kc (zi := (0 + 0)) (zv := (0 + (1 * u + 0))) k0 rfl rfl (by omega) (by omega) hp_Kn) (hp_La l0 (hp_Li (z := (0 + (1 * p + 0))) l1 rfl (by omega) (hp_Li (z := (0 + (1 * y + 0))) l2 rfl (by omega) (hp_Li (z := (0 + (1 * z + 0))) l3 rfl (by omega) hp_Ln)))) trivial ?_ ?_
  · intro p hp ys l' st' h' hys a1 a2 a3 gZ gL gS
    cases hp
  · intro p hp ys v h' hys a1 a2 a3 gZ gS
    rcases List.mem_cons.mp hp with rfl | hp
    · obtain rfl := hp_y0 hys
      cases v with
      | none => cases gS
      | some w =>
        obtain ⟨y0, t0, s0, q0, -⟩ := hp_gSi (z := ((-2) + 0)) gS rfl
        cases s0
        exact r0 h' y0 (by omega) a1 a2 a3
    cases hp
theorem elg1_k : hp_chk 37 0 4 [(0, 0, 2147483647), (1, (-2147483648), 2147483647), (2, (-2147483648), 2147483647), (3, 0, 120)] [(0, [(0, 1), (3, (-1))])] [(0, .inr (.inr (.inl (some 16)))), (1, .inl (0, [(0, 1)])), (2, .inl (0, [(1, 1)])), (3, .inl (0, [(2, 1)]))] [] [(1536, (0, []), (0, [(3, 1)]))] [] 4 [] [([], 4, [(0, 0, 2147483647), (1, (-2147483648), 2147483647), (2, (-2147483648), 2147483647), (3, 0, 120)], [], [], [.inl ((-2), [])], [])] = true := by decide +kernel
theorem elg1 {cst : am_K} {strs : List Nat} {Φ : am_Q → Prop} {D : Nat} {M : am_M} {h : am_H} {l : am_L} (c : hp_C cst strs D) (hM : m_P[37]? = some M) (hD : (4 : Int) ≤ (D : Int) + 1) (hy : ly_hy m_tt ly_TH h) (p y z u : Int) (b0 : 0 ≤ p) (t0 : p ≤ 2147483647) (b1 : (-2147483648) ≤ y) (t1 : y ≤ 2147483647) (b2 : (-2147483648) ≤ z) (t2 : z ≤ 2147483647) (b3 : 0 ≤ u) (t3 : u ≤ 120) (f0 : 0 ≤ (p - u)) (k0 : ly_hv cst h 1536 0 = some (u)) (l0 : hp_a l 0 16) (l1 : hp_i l 1 (p)) (l2 : hp_i l 2 (y)) (l3 : hp_i l 3 (z)) (r0 : ∀ (h' : am_H) (y0 : Int32), y0.toInt = (-2) → ly_hy m_tt ly_TH h' → ly_fr cst [] h h' → h.length ≤ h'.length → Φ (some (.int y0), h', 0, 0)) : hp_F cst strs Φ D M 0 l [] h := by
  refine hp_arc c hM elg1_k hD [p, y, z, u] rfl hy (hp_Bc (z := p) rfl b0 t0 (hp_Bc (z := y) rfl b1 t1 (hp_Bc (z := z) rfl b2 t2 (hp_Bc (z := u) rfl b3 t3 hp_Bn)))) (hp_Fc (z := (0 + (1 * p + ((-1) * u + 0)))) rfl (by omega) hp_Fn) (hp_Kc (zi := (0 + 0)) (zv := (0 + (1 * u + 0))) k0 rfl rfl (by omega) (by omega) hp_Kn) (hp_La l0 (hp_Li (z := (0 + (1 * p + 0))) l1 rfl (by omega) (hp_Li (z := (0 + (1 * y + 0))) l2 rfl (by omega) (hp_Li (z := (0 + (1 * z + 0))) l3 rfl (by omega) hp_Ln)))) trivial ?_ ?_
  · intro p hp ys l' st' h' hys a1 a2 a3 gZ gL gS
    cases hp
  · intro p hp ys v h' hys a1 a2 a3 gZ gS
    rcases List.mem_cons.mp hp with rfl | hp
    · obtain rfl := hp_y0 hys
      cases v with
      | none => cases gS
      | some w =>
        obtain ⟨y0, t0, s0, q0, -⟩ := hp_gSi (z := ((-2) + 0)) gS rfl
        cases s0
        exact r0 h' y0 (by omega) a1 a2 a3
    cases hp
theorem elg2_k : hp_chk 37 0 4 [(0, 0, 119), (1, (-2147483648), (-1)), (2, (-2147483648), 2147483647), (3, 0, 120)] [((-1), [(0, (-1)), (3, 1)])] [(0, .inr (.inr (.inl (some 16)))), (1, .inl (0, [(0, 1)])), (2, .inl (0, [(1, 1)])), (3, .inl (0, [(2, 1)]))] [] [(1536, (0, []), (0, [(3, 1)]))] [] 4 [] [([], 4, [(0, 0, 119), (1, (-2147483648), (-1)), (2, (-2147483648), 2147483647), (3, 0, 120)], [], [], [.inl ((-2), [])], [])] = true := by decide +kernel
theorem elg2 {cst : am_K} {strs : List Nat} {Φ : am_Q → Prop} {D : Nat} {M : am_M} {h : am_H} {l : am_L} (c : hp_C cst strs D) (hM : m_P[37]? = some M) (hD : (4 : Int) ≤ (D : Int) + 1) (hy : ly_hy m_tt ly_TH h) (p y z u : Int) (b0 : 0 ≤ p) (t0 : p ≤ 119) (b1 : (-2147483648) ≤ y) (t1 : y ≤ (-1)) (b2 : (-2147483648) ≤ z) (t2 : z ≤ 2147483647) (b3 : 0 ≤ u) (t3 : u ≤ 120) (f0 : 0 ≤ (u - p - 1)) (k0 : ly_hv cst h 1536 0 = some (u)) (l0 : hp_a l 0 16) (l1 : hp_i l 1 (p)) (l2 : hp_i l 2 (y)) (l3 : hp_i l 3 (z)) (r0 : ∀ (h' : am_H) (y0 : Int32), y0.toInt = (-2) → ly_hy m_tt ly_TH h' → ly_fr cst [] h h' → h.length ≤ h'.length → Φ (some (.int y0), h', 0, 0)) : hp_F cst strs Φ D M 0 l [] h := by
  refine hp_arc c hM elg2_k hD [p, y, z, u] rfl hy (hp_Bc (z := p) rfl b0 t0 (hp_Bc (z := y) rfl b1 t1 (hp_Bc (z := z) rfl b2 t2 (hp_Bc (z := u) rfl b3 t3 hp_Bn)))) (hp_Fc (z := ((-1) + ((-1) * p + (1 * u + 0)))) rfl (by omega) hp_Fn) (hp_Kc (zi := (0 + 0)) (zv := (0 + (1 * u + 0))) k0 rfl rfl (by omega) (by omega) hp_Kn) (hp_La l0 (hp_Li (z := (0 + (1 * p + 0))) l1 rfl (by omega) (hp_Li (z := (0 + (1 * y + 0))) l2 rfl (by omega) (hp_Li (z := (0 + (1 * z + 0))) l3 rfl (by omega) hp_Ln)))) trivial ?_ ?_
  · intro p hp ys l' st' h' hys a1 a2 a3 gZ gL gS
    cases hp
  · intro p hp ys v h' hys a1 a2 a3 gZ gS
    rcases List.mem_cons.mp hp with rfl | hp
    · obtain rfl := hp_y0 hys
      cases v with
      | none => cases gS
      | some w =>
        obtain ⟨y0, t0, s0, q0, -⟩ := hp_gSi (z := ((-2) + 0)) gS rfl
        cases s0
        exact r0 h' y0 (by omega) a1 a2 a3
    cases hp
theorem elg3_k : hp_chk 37 0 4 [(0, 0, 119), (1, 10000, 2147483647), (2, (-2147483648), 2147483647), (3, 0, 120)] [((-1), [(0, (-1)), (3, 1)])] [(0, .inr (.inr (.inl (some 16)))), (1, .inl (0, [(0, 1)])), (2, .inl (0, [(1, 1)])), (3, .inl (0, [(2, 1)]))] [] [(1536, (0, []), (0, [(3, 1)]))] [] 4 [] [([], 4, [(0, 0, 119), (1, 10000, 2147483647), (2, (-2147483648), 2147483647), (3, 0, 120)], [], [], [.inl ((-2), [])], [])] = true := by decide +kernel
theorem elg3 {cst : am_K} {strs : List Nat} {Φ : am_Q → Prop} {D : Nat} {M : am_M} {h : am_H} {l : am_L} (c : hp_C cst strs D) (hM : m_P[37]? = some M) (hD : (4 : Int) ≤ (D : Int) + 1) (hy : ly_hy m_tt ly_TH h) (p y z u : Int) (b0 : 0 ≤ p) (t0 : p ≤ 119) (b1 : 10000 ≤ y) (t1 : y ≤ 2147483647) (b2 : (-2147483648) ≤ z) (t2 : z ≤ 2147483647) (b3 : 0 ≤ u) (t3 : u ≤ 120) (f0 : 0 ≤ (u - p - 1)) (k0 : ly_hv cst h 1536 0 = some (u)) (l0 : hp_a l 0 16) (l1 : hp_i l 1 (p)) (l2 : hp_i l 2 (y)) (l3 : hp_i l 3 (z)) (r0 : ∀ (h' : am_H) (y0 : Int32), y0.toInt = (-2) → ly_hy m_tt ly_TH h' → ly_fr cst [] h h' → h.length ≤ h'.length → Φ (some (.int y0), h', 0, 0)) : hp_F cst strs Φ D M 0 l [] h := by
  refine hp_arc c hM elg3_k hD [p, y, z, u] rfl hy (hp_Bc (z := p) rfl b0 t0 (hp_Bc (z := y) rfl b1 t1 (hp_Bc (z := z) rfl b2 t2 (hp_Bc (z := u) rfl b3 t3 hp_Bn)))) (hp_Fc (z := ((-1) + ((-1) * p + (1 * u + 0)))) rfl (by omega) hp_Fn) (hp_Kc (zi := (0 + 0)) (zv := (0 + (1 * u + 0))) k0 rfl rfl (by omega) (by omega) hp_Kn) (hp_La l0 (hp_Li (z := (0 + (1 * p + 0))) l1 rfl (by omega) (hp_Li (z := (0 + (1 * y + 0))) l2 rfl (by omega) (hp_Li (z := (0 + (1 * z + 0))) l3 rfl (by omega) hp_Ln)))) trivial ?_ ?_
  · intro p hp ys l' st' h' hys a1 a2 a3 gZ gL gS
    cases hp
  · intro p hp ys v h' hys a1 a2 a3 gZ gS
    rcases List.mem_cons.mp hp with rfl | hp
    · obtain rfl := hp_y0 hys
      cases v with
      | none => cases gS
      | some w =>
        obtain ⟨y0, t0, s0, q0, -⟩ := hp_gSi (z := ((-2) + 0)) gS rfl
        cases s0
        exact r0 h' y0 (by omega) a1 a2 a3
    cases hp
theorem elg4_k : hp_chk 37 0 4 [(0, 0, 119), (1, 0, 9999), (2, (-2147483648), (-1)), (3, 0, 120)] [((-1), [(0, (-1)), (3, 1)])] [(0, .inr (.inr (.inl (some 16)))), (1, .inl (0, [(0, 1)])), (2, .inl (0, [(1, 1)])), (3, .inl (0, [(2, 1)]))] [] [(1536, (0, []), (0, [(3, 1)]))] [] 4 [] [([], 4, [(0, 0, 119), (1, 0, 9999), (2, (-2147483648), (-1)), (3, 0, 120)], [], [], [.inl ((-2), [])], [])] = true := by decide +kernel
theorem elg4 {cst : am_K} {strs : List Nat} {Φ : am_Q → Prop} {D : Nat} {M : am_M} {h : am_H} {l : am_L} (c : hp_C cst strs D) (hM : m_P[37]? = some M) (hD : (4 : Int) ≤ (D : Int) + 1) (hy : ly_hy m_tt ly_TH h) (p y z u : Int) (b0 : 0 ≤ p) (t0 : p ≤ 119) (b1 : 0 ≤ y) (t1 : y ≤ 9999) (b2 : (-2147483648) ≤ z) (t2 : z ≤ (-1)) (b3 : 0 ≤ u) (t3 : u ≤ 120) (f0 : 0 ≤ (u - p - 1)) (k0 : ly_hv cst h 1536 0 = some (u)) (l0 : hp_a l 0 16) (l1 : hp_i l 1 (p)) (l2 : hp_i l 2 (y)) (l3 : hp_i l 3 (z)) (r0 : ∀ (h' : am_H) (y0 : Int32), y0.toInt = (-2) → ly_hy m_tt ly_TH h' → ly_fr cst [] h h' → h.length ≤ h'.length → Φ (some (.int y0), h', 0, 0)) : hp_F cst strs Φ D M 0 l [] h := by
  refine hp_arc c hM elg4_k hD [p, y, z, u] rfl hy (hp_Bc (z := p) rfl b0 t0 (hp_Bc (z := y) rfl b1 t1 (hp_Bc (z := z) rfl b2 t2 (hp_Bc (z := u) rfl b3 t3 hp_Bn)))) (hp_Fc (z := ((-1) + ((-1) * p + (1 * u + 0)))) rfl (by omega) hp_Fn) (hp_Kc (zi := (0 + 0)) (zv := (0 + (1 * u + 0))) k0 rfl rfl (by omega) (by omega) hp_Kn) (hp_La l0 (hp_Li (z := (0 + (1 * p + 0))) l1 rfl (by omega) (hp_Li (z := (0 + (1 * y + 0))) l2 rfl (by omega) (hp_Li (z := (0 + (1 * z + 0))) l3 rfl (by omega) hp_Ln)))) trivial ?_ ?_
  · intro p hp ys l' st' h' hys a1 a2 a3 gZ gL gS
    cases hp
  · intro p hp ys v h' hys a1 a2 a3 gZ gS
    rcases List.mem_cons.mp hp with rfl | hp
    · obtain rfl := hp_y0 hys
      cases v with
      | none => cases gS
      | some w =>
        obtain ⟨y0, t0, s0, q0, -⟩ := hp_gSi (z := ((-2) + 0)) gS rfl
        cases s0
        exact r0 h' y0 (by omega) a1 a2 a3
    cases hp
theorem elg5_k : hp_chk 37 0 4 [(0, 0, 119), (1, 0, 9999), (2, 400, 2147483647), (3, 0, 120)] [((-1), [(0, (-1)), (3, 1)])] [(0, .inr (.inr (.inl (some 16)))), (1, .inl (0, [(0, 1)])), (2, .inl (0, [(1, 1)])), (3, .inl (0, [(2, 1)]))] [] [(1536, (0, []), (0, [(3, 1)]))] [] 4 [] [([], 4, [(0, 0, 119), (1, 0, 9999), (2, 400, 2147483647), (3, 0, 120)], [], [], [.inl ((-2), [])], [])] = true := by decide +kernel
theorem elg5 {cst : am_K} {strs : List Nat} {Φ : am_Q → Prop} {D : Nat} {M : am_M} {h : am_H} {l : am_L} (c : hp_C cst strs D) (hM : m_P[37]? = some M) (hD : (4 : Int) ≤ (D : Int) + 1) (hy : ly_hy m_tt ly_TH h) (p y z u : Int) (b0 : 0 ≤ p) (t0 : p ≤ 119) (b1 : 0 ≤ y) (t1 : y ≤ 9999) (b2 : 400 ≤ z) (t2 : z ≤ 2147483647) (b3 : 0 ≤ u) (t3 : u ≤ 120) (f0 : 0 ≤ (u - p - 1)) (k0 : ly_hv cst h 1536 0 = some (u)) (l0 : hp_a l 0 16) (l1 : hp_i l 1 (p)) (l2 : hp_i l 2 (y)) (l3 : hp_i l 3 (z)) (r0 : ∀ (h' : am_H) (y0 : Int32), y0.toInt = (-2) → ly_hy m_tt ly_TH h' → ly_fr cst [] h h' → h.length ≤ h'.length → Φ (some (.int y0), h', 0, 0)) : hp_F cst strs Φ D M 0 l [] h := by
  refine hp_arc c hM elg5_k hD [p, y, z, u] rfl hy (hp_Bc (z := p) rfl b0 t0 (hp_Bc (z := y) rfl b1 t1 (hp_Bc (z := z) rfl b2 t2 (hp_Bc (z := u) rfl b3 t3 hp_Bn)))) (hp_Fc (z := ((-1) + ((-1) * p + (1 * u + 0)))) rfl (by omega) hp_Fn) (hp_Kc (zi := (0 + 0)) (zv := (0 + (1 * u + 0))) k0 rfl rfl (by omega) (by omega) hp_Kn) (hp_La l0 (hp_Li (z := (0 + (1 * p + 0))) l1 rfl (by omega) (hp_Li (z := (0 + (1 * y + 0))) l2 rfl (by omega) (hp_Li (z := (0 + (1 * z + 0))) l3 rfl (by omega) hp_Ln)))) trivial ?_ ?_
  · intro p hp ys l' st' h' hys a1 a2 a3 gZ gL gS
    cases hp
  · intro p hp ys v h' hys a1 a2 a3 gZ gS
    rcases List.mem_cons.mp hp with rfl | hp
    · obtain rfl := hp_y0 hys
      cases v with
      | none => cases gS
      | some w =>
        obtain ⟨y0, t0, s0, q0, -⟩ := hp_gSi (z := ((-2) + 0)) gS rfl
        cases s0
        exact r0 h' y0 (by omega) a1 a2 a3
    cases hp
theorem elc_k : hp_chk 37 0 5 [(0, 0, 119), (1, 0, 9999), (2, 0, 399), (3, 0, 120), (4, 0, 399)] [((-1), [(0, (-1)), (3, 1)])] [(0, .inr (.inr (.inl (some 16)))), (1, .inl (0, [(0, 1)])), (2, .inl (0, [(1, 1)])), (3, .inl (0, [(2, 1)]))] [] [(1536, (0, []), (0, [(3, 1)])), (10, (0, []), (0, [(4, 1)]))] [] 4 [(44, ([], 5, [(0, 0, 119), (1, 0, 9999), (2, 0, 399), (3, 0, 120), (4, 0, 399)], [], [(0, .inr (.inr (.inl (some 16))))], [.inl (0, [(4, 1)]), .inl (0, [(2, 1)]), .inl (0, [(1, 1)]), .inl (0, [(0, 1)]), .inl (0, []), .inr (.inr (.inl (some 22)))], []))] [] = true := by decide +kernel
theorem elc {cst : am_K} {strs : List Nat} {Φ : am_Q → Prop} {D : Nat} {M : am_M} {h : am_H} {l : am_L} (c : hp_C cst strs D) (hM : m_P[37]? = some M) (hD : (4 : Int) ≤ (D : Int) + 1) (hy : ly_hy m_tt ly_TH h) (p y z u g : Int) (b0 : 0 ≤ p) (t0 : p ≤ 119) (b1 : 0 ≤ y) (t1 : y ≤ 9999) (b2 : 0 ≤ z) (t2 : z ≤ 399) (b3 : 0 ≤ u) (t3 : u ≤ 120) (b4 : 0 ≤ g) (t4 : g ≤ 399) (f0 : 0 ≤ (u - p - 1)) (k0 : ly_hv cst h 1536 0 = some (u)) (k1 : ly_hv cst h 10 0 = some (g)) (l0 : hp_a l 0 16) (l1 : hp_i l 1 (p)) (l2 : hp_i l 2 (y)) (l3 : hp_i l 3 (z)) (e0 : ∀ (l' : am_L) (h' : am_H) (y0 : Int32) (y1 : Int32) (y2 : Int32) (y3 : Int32) (y4 : Int32), y0.toInt = (g) → y1.toInt = (z) → y2.toInt = (y) → y3.toInt = (p) → y4.toInt = 0 → ly_hy m_tt ly_TH h' → ly_fr cst [] h h' → h.length ≤ h'.length → hp_a l' 0 16 → hp_F cst strs Φ D M 44 l' [.int y0, .int y1, .int y2, .int y3, .int y4, .ref 22] h') : hp_F cst strs Φ D M 0 l [] h := by
  refine hp_arc c hM elc_k hD [p, y, z, u, g] rfl hy (hp_Bc (z := p) rfl b0 t0 (hp_Bc (z := y) rfl b1 t1 (hp_Bc (z := z) rfl b2 t2 (hp_Bc (z := u) rfl b3 t3 (hp_Bc (z := g) rfl b4 t4 hp_Bn))))) (hp_Fc (z := ((-1) + ((-1) * p + (1 * u + 0)))) rfl (by omega) hp_Fn) (hp_Kc (zi := (0 + 0)) (zv := (0 + (1 * u + 0))) k0 rfl rfl (by omega) (by omega) (hp_Kc (zi := (0 + 0)) (zv := (0 + (1 * g + 0))) k1 rfl rfl (by omega) (by omega) hp_Kn)) (hp_La l0 (hp_Li (z := (0 + (1 * p + 0))) l1 rfl (by omega) (hp_Li (z := (0 + (1 * y + 0))) l2 rfl (by omega) (hp_Li (z := (0 + (1 * z + 0))) l3 rfl (by omega) hp_Ln)))) trivial ?_ ?_
  · intro p hp ys l' st' h' hys a1 a2 a3 gZ gL gS
    rcases List.mem_cons.mp hp with rfl | hp
    · obtain rfl := hp_y0 hys
      obtain ⟨y0, t0, rfl, q0, g0⟩ := hp_gSi (z := (0 + (1 * g + 0))) gS rfl
      obtain ⟨y1, t1, rfl, q1, g1⟩ := hp_gSi (z := (0 + (1 * z + 0))) g0 rfl
      obtain ⟨y2, t2, rfl, q2, g2⟩ := hp_gSi (z := (0 + (1 * y + 0))) g1 rfl
      obtain ⟨y3, t3, rfl, q3, g3⟩ := hp_gSi (z := (0 + (1 * p + 0))) g2 rfl
      obtain ⟨y4, t4, rfl, q4, g4⟩ := hp_gSi (z := (0 + 0)) g3 rfl
      obtain ⟨t5, rfl, g5⟩ := hp_gSa g4 (by decide)
      cases hp_gSn g5
      exact e0 l' h' y0 y1 y2 y3 y4 (by omega) (by omega) (by omega) (by omega) (by omega) a1 a2 a3 (hp_gLa gL (List.mem_of_getElem? (i := 0) rfl) (by decide))
    cases hp
  · intro p hp ys v h' hys a1 a2 a3 gZ gS
    cases hp
theorem elt_k : hp_chk 37 47 1 [(0, 0, 300)] [] [(0, .inr (.inr (.inl (some 16))))] [.inl (1, [])] [(1537, (0, []), (0, [(0, 1)]))] [] 2 [] [([], 1, [(0, 0, 300)], [], [], [.inl (0, [(0, 1)])], [])] = true := by decide +kernel
theorem elt {cst : am_K} {strs : List Nat} {Φ : am_Q → Prop} {D : Nat} {M : am_M} {h : am_H} {l : am_L} (c : hp_C cst strs D) (hM : m_P[37]? = some M) (hD : (2 : Int) ≤ (D : Int) + 1) (hy : ly_hy m_tt ly_TH h) (ww : Int) (x0 : Int32) (hx0 : x0.toInt = 1) (b0 : 0 ≤ ww) (t0 : ww ≤ 300) (k0 : ly_hv cst h 1537 0 = some (ww)) (l0 : hp_a l 0 16) (r0 : ∀ (h' : am_H) (y0 : Int32), y0.toInt = (ww) → ly_hy m_tt ly_TH h' → ly_fr cst [] h h' → h.length ≤ h'.length → Φ (some (.int y0), h', 0, 0)) : hp_F cst strs Φ D M 47 l [.int x0] h := by
  refine hp_arc c hM elt_k hD [ww] rfl hy (hp_Bc (z := ww) rfl b0 t0 hp_Bn) hp_Fn (hp_Kc (zi := (0 + 0)) (zv := (0 + (1 * ww + 0))) k0 rfl rfl (by omega) (by omega) hp_Kn) (hp_La l0 hp_Ln) (hp_Si (z := (1 + 0)) rfl (by omega) trivial) ?_ ?_
  · intro p hp ys l' st' h' hys a1 a2 a3 gZ gL gS
    cases hp
  · intro p hp ys v h' hys a1 a2 a3 gZ gS
    rcases List.mem_cons.mp hp with rfl | hp
    · obtain rfl := hp_y0 hys
      cases v with
      | none => cases gS
      | some w =>
        obtain ⟨y0, t0, s0, q0, -⟩ := hp_gSi (z := (0 + (1 * ww + 0))) gS rfl
        cases s0
        exact r0 h' y0 (by omega) a1 a2 a3
    cases hp
theorem eln_k : hp_chk 37 47 0 [] [] [(0, .inr (.inr (.inl (some 16))))] [.inl (0, [])] [] [] 2 [] [([], 0, [], [], [], [.inl ((-3), [])], [])] = true := by decide +kernel
theorem eln {cst : am_K} {strs : List Nat} {Φ : am_Q → Prop} {D : Nat} {M : am_M} {h : am_H} {l : am_L} (c : hp_C cst strs D) (hM : m_P[37]? = some M) (hD : (2 : Int) ≤ (D : Int) + 1) (hy : ly_hy m_tt ly_TH h) (x0 : Int32) (hx0 : x0.toInt = 0) (l0 : hp_a l 0 16) (r0 : ∀ (h' : am_H) (y0 : Int32), y0.toInt = (-3) → ly_hy m_tt ly_TH h' → ly_fr cst [] h h' → h.length ≤ h'.length → Φ (some (.int y0), h', 0, 0)) : hp_F cst strs Φ D M 47 l [.int x0] h := by
  refine hp_arc c hM eln_k hD [] rfl hy hp_Bn hp_Fn hp_Kn (hp_La l0 hp_Ln) (hp_Si (z := (0 + 0)) rfl (by omega) trivial) ?_ ?_
  · intro p hp ys l' st' h' hys a1 a2 a3 gZ gL gS
    cases hp
  · intro p hp ys v h' hys a1 a2 a3 gZ gS
    rcases List.mem_cons.mp hp with rfl | hp
    · obtain rfl := hp_y0 hys
      cases v with
      | none => cases gS
      | some w =>
        obtain ⟨y0, t0, s0, q0, -⟩ := hp_gSi (z := ((-3) + 0)) gS rfl
        cases s0
        exact r0 h' y0 (by omega) a1 a2 a3
    cases hp
theorem edg0_k : hp_chk 41 0 3 [(0, (-2147483648), (-1)), (1, (-2147483648), 2147483647), (2, 0, 120)] [] [(0, .inr (.inr (.inl (some 16)))), (1, .inl (0, [(0, 1)])), (2, .inl (0, [(1, 1)]))] [] [(1536, (0, []), (0, [(2, 1)]))] [] 4 [] [([], 3, [(0, (-2147483648), (-1)), (1, (-2147483648), 2147483647), (2, 0, 120)], [], [], [.inl ((-2), [])], [])] = true := by decide +kernel
theorem edg0 {cst : am_K} {strs : List Nat} {Φ : am_Q → Prop} {D : Nat} {M : am_M} {h : am_H} {l : am_L} (c : hp_C cst strs D) (hM : m_P[41]? = some M) (hD : (4 : Int) ≤ (D : Int) + 1) (hy : ly_hy m_tt ly_TH h) (p y u : Int) (b0 : (-2147483648) ≤ p) (t0 : p ≤ (-1)) (b1 : (-2147483648) ≤ y) (t1 : y ≤ 2147483647) (b2 : 0 ≤ u) (t2 : u ≤ 120) (k0 : ly_hv cst h 1536 0 = some (u)) (l0 : hp_a l 0 16) (l1 : hp_i l 1 (p)) (l2 : hp_i l 2 (y)) (r0 : ∀ (h' : am_H) (y0 : Int32), y0.toInt = (-2) → ly_hy m_tt ly_TH h' → ly_fr cst [] h h' → h.length ≤ h'.length → Φ (some (.int y0), h', 0, 0)) : hp_F cst strs Φ D M 0 l [] h := by
  refine hp_arc c hM edg0_k hD [p, y, u] rfl hy (hp_Bc (z := p) rfl b0 t0 (hp_Bc (z := y) rfl b1 t1 (hp_Bc (z := u) rfl b2 t2 hp_Bn))) hp_Fn (hp_Kc (zi := (0 + 0)) (zv := (0 + (1 * u + 0))) k0 rfl rfl (by omega) (by omega) hp_Kn) (hp_La l0 (hp_Li (z := (0 + (1 * p + 0))) l1 rfl (by omega) (hp_Li (z := (0 + (1 * y + 0))) l2 rfl (by omega) hp_Ln))) trivial ?_ ?_
  · intro p hp ys l' st' h' hys a1 a2 a3 gZ gL gS
    cases hp
  · intro p hp ys v h' hys a1 a2 a3 gZ gS
    rcases List.mem_cons.mp hp with rfl | hp
    · obtain rfl := hp_y0 hys
      cases v with
      | none => cases gS
      | some w =>
        obtain ⟨y0, t0, s0, q0, -⟩ := hp_gSi (z := ((-2) + 0)) gS rfl
        cases s0
        exact r0 h' y0 (by omega) a1 a2 a3
    cases hp
theorem edg1_k : hp_chk 41 0 3 [(0, 0, 2147483647), (1, (-2147483648), 2147483647), (2, 0, 120)] [(0, [(0, 1), (2, (-1))])] [(0, .inr (.inr (.inl (some 16)))), (1, .inl (0, [(0, 1)])), (2, .inl (0, [(1, 1)]))] [] [(1536, (0, []), (0, [(2, 1)]))] [] 4 [] [([], 3, [(0, 0, 2147483647), (1, (-2147483648), 2147483647), (2, 0, 120)], [], [], [.inl ((-2), [])], [])] = true := by decide +kernel
theorem edg1 {cst : am_K} {strs : List Nat} {Φ : am_Q → Prop} {D : Nat} {M : am_M} {h : am_H} {l : am_L} (c : hp_C cst strs D) (hM : m_P[41]? = some M) (hD : (4 : Int) ≤ (D : Int) + 1) (hy : ly_hy m_tt ly_TH h) (p y u : Int) (b0 : 0 ≤ p) (t0 : p ≤ 2147483647) (b1 : (-2147483648) ≤ y) (t1 : y ≤ 2147483647) (b2 : 0 ≤ u) (t2 : u ≤ 120) (f0 : 0 ≤ (p - u)) (k0 : ly_hv cst h 1536 0 = some (u)) (l0 : hp_a l 0 16) (l1 : hp_i l 1 (p)) (l2 : hp_i l 2 (y)) (r0 : ∀ (h' : am_H) (y0 : Int32), y0.toInt = (-2) → ly_hy m_tt ly_TH h' → ly_fr cst [] h h' → h.length ≤ h'.length → Φ (some (.int y0), h', 0, 0)) : hp_F cst strs Φ D M 0 l [] h := by
  refine hp_arc c hM edg1_k hD [p, y, u] rfl hy (hp_Bc (z := p) rfl b0 t0 (hp_Bc (z := y) rfl b1 t1 (hp_Bc (z := u) rfl b2 t2 hp_Bn))) (hp_Fc (z := (0 + (1 * p + ((-1) * u + 0)))) rfl (by omega) hp_Fn) (hp_Kc (zi := (0 + 0)) (zv := (0 + (1 * u + 0))) k0 rfl rfl (by omega) (by omega) hp_Kn) (hp_La l0 (hp_Li (z := (0 + (1 * p + 0))) l1 rfl (by omega) (hp_Li (z := (0 + (1 * y + 0))) l2 rfl (by omega) hp_Ln))) trivial ?_ ?_
  · intro p hp ys l' st' h' hys a1 a2 a3 gZ gL gS
    cases hp
  · intro p hp ys v h' hys a1 a2 a3 gZ gS
    rcases List.mem_cons.mp hp with rfl | hp
    · obtain rfl := hp_y0 hys
      cases v with
      | none => cases gS
      | some w =>
        obtain ⟨y0, t0, s0, q0, -⟩ := hp_gSi (z := ((-2) + 0)) gS rfl
        cases s0
        exact r0 h' y0 (by omega) a1 a2 a3
    cases hp
theorem edg2_k : hp_chk 41 0 3 [(0, 0, 119), (1, (-2147483648), (-1)), (2, 0, 120)] [((-1), [(0, (-1)), (2, 1)])] [(0, .inr (.inr (.inl (some 16)))), (1, .inl (0, [(0, 1)])), (2, .inl (0, [(1, 1)]))] [] [(1536, (0, []), (0, [(2, 1)]))] [] 4 [] [([], 3, [(0, 0, 119), (1, (-2147483648), (-1)), (2, 0, 120)], [], [], [.inl ((-2), [])], [])] = true := by decide +kernel
theorem edg2 {cst : am_K} {strs : List Nat} {Φ : am_Q → Prop} {D : Nat} {M : am_M} {h : am_H} {l : am_L} (c : hp_C cst strs D) (hM : m_P[41]? = some M) (hD : (4 : Int) ≤ (D : Int) + 1) (hy : ly_hy m_tt ly_TH h) (p y u : Int) (b0 : 0 ≤ p) (t0 : p ≤ 119) (b1 : (-2147483648) ≤ y) (t1 : y ≤ (-1)) (b2 : 0 ≤ u) (t2 : u ≤ 120) (f0 : 0 ≤ (u - p - 1)) (k0 : ly_hv cst h 1536 0 = some (u)) (l0 : hp_a l 0 16) (l1 : hp_i l 1 (p)) (l2 : hp_i l 2 (y)) (r0 : ∀ (h' : am_H) (y0 : Int32), y0.toInt = (-2) → ly_hy m_tt ly_TH h' → ly_fr cst [] h h' → h.length ≤ h'.length → Φ (some (.int y0), h', 0, 0)) : hp_F cst strs Φ D M 0 l [] h := by
  refine hp_arc c hM edg2_k hD [p, y, u] rfl hy (hp_Bc (z := p) rfl b0 t0 (hp_Bc (z := y) rfl b1 t1 (hp_Bc (z := u) rfl b2 t2 hp_Bn))) (hp_Fc (z := ((-1) + ((-1) * p + (1 * u + 0)))) rfl (by omega) hp_Fn) (hp_Kc (zi := (0 + 0)) (zv := (0 + (1 * u + 0))) k0 rfl rfl (by omega) (by omega) hp_Kn) (hp_La l0 (hp_Li (z := (0 + (1 * p + 0))) l1 rfl (by omega) (hp_Li (z := (0 + (1 * y + 0))) l2 rfl (by omega) hp_Ln))) trivial ?_ ?_
  · intro p hp ys l' st' h' hys a1 a2 a3 gZ gL gS
    cases hp
  · intro p hp ys v h' hys a1 a2 a3 gZ gS
    rcases List.mem_cons.mp hp with rfl | hp
    · obtain rfl := hp_y0 hys
      cases v with
      | none => cases gS
      | some w =>
        obtain ⟨y0, t0, s0, q0, -⟩ := hp_gSi (z := ((-2) + 0)) gS rfl
        cases s0
        exact r0 h' y0 (by omega) a1 a2 a3
    cases hp
theorem edg3_k : hp_chk 41 0 3 [(0, 0, 119), (1, 400, 2147483647), (2, 0, 120)] [((-1), [(0, (-1)), (2, 1)])] [(0, .inr (.inr (.inl (some 16)))), (1, .inl (0, [(0, 1)])), (2, .inl (0, [(1, 1)]))] [] [(1536, (0, []), (0, [(2, 1)]))] [] 4 [] [([], 3, [(0, 0, 119), (1, 400, 2147483647), (2, 0, 120)], [], [], [.inl ((-2), [])], [])] = true := by decide +kernel
theorem edg3 {cst : am_K} {strs : List Nat} {Φ : am_Q → Prop} {D : Nat} {M : am_M} {h : am_H} {l : am_L} (c : hp_C cst strs D) (hM : m_P[41]? = some M) (hD : (4 : Int) ≤ (D : Int) + 1) (hy : ly_hy m_tt ly_TH h) (p y u : Int) (b0 : 0 ≤ p) (t0 : p ≤ 119) (b1 : 400 ≤ y) (t1 : y ≤ 2147483647) (b2 : 0 ≤ u) (t2 : u ≤ 120) (f0 : 0 ≤ (u - p - 1)) (k0 : ly_hv cst h 1536 0 = some (u)) (l0 : hp_a l 0 16) (l1 : hp_i l 1 (p)) (l2 : hp_i l 2 (y)) (r0 : ∀ (h' : am_H) (y0 : Int32), y0.toInt = (-2) → ly_hy m_tt ly_TH h' → ly_fr cst [] h h' → h.length ≤ h'.length → Φ (some (.int y0), h', 0, 0)) : hp_F cst strs Φ D M 0 l [] h := by
  refine hp_arc c hM edg3_k hD [p, y, u] rfl hy (hp_Bc (z := p) rfl b0 t0 (hp_Bc (z := y) rfl b1 t1 (hp_Bc (z := u) rfl b2 t2 hp_Bn))) (hp_Fc (z := ((-1) + ((-1) * p + (1 * u + 0)))) rfl (by omega) hp_Fn) (hp_Kc (zi := (0 + 0)) (zv := (0 + (1 * u + 0))) k0 rfl rfl (by omega) (by omega) hp_Kn) (hp_La l0 (hp_Li (z := (0 + (1 * p + 0))) l1 rfl (by omega) (hp_Li (z := (0 + (1 * y + 0))) l2 rfl (by omega) hp_Ln))) trivial ?_ ?_
  · intro p hp ys l' st' h' hys a1 a2 a3 gZ gL gS
    cases hp
  · intro p hp ys v h' hys a1 a2 a3 gZ gS
    rcases List.mem_cons.mp hp with rfl | hp
    · obtain rfl := hp_y0 hys
      cases v with
      | none => cases gS
      | some w =>
        obtain ⟨y0, t0, s0, q0, -⟩ := hp_gSi (z := ((-2) + 0)) gS rfl
        cases s0
        exact r0 h' y0 (by omega) a1 a2 a3
    cases hp
theorem edc_k : hp_chk 41 0 4 [(0, 0, 119), (1, 0, 399), (2, 0, 120), (3, 0, 399)] [((-1), [(0, (-1)), (2, 1)])] [(0, .inr (.inr (.inl (some 16)))), (1, .inl (0, [(0, 1)])), (2, .inl (0, [(1, 1)]))] [] [(1536, (0, []), (0, [(2, 1)])), (10, (0, []), (0, [(3, 1)]))] [] 4 [(33, ([], 4, [(0, 0, 119), (1, 0, 399), (2, 0, 120), (3, 0, 399)], [], [(0, .inr (.inr (.inl (some 16))))], [.inl (0, [(3, 1)]), .inl (0, [(1, 1)]), .inl (0, []), .inl (0, [(0, 1)]), .inl (1, []), .inr (.inr (.inl (some 22)))], []))] [] = true := by decide +kernel
theorem edc {cst : am_K} {strs : List Nat} {Φ : am_Q → Prop} {D : Nat} {M : am_M} {h : am_H} {l : am_L} (c : hp_C cst strs D) (hM : m_P[41]? = some M) (hD : (4 : Int) ≤ (D : Int) + 1) (hy : ly_hy m_tt ly_TH h) (p y u g : Int) (b0 : 0 ≤ p) (t0 : p ≤ 119) (b1 : 0 ≤ y) (t1 : y ≤ 399) (b2 : 0 ≤ u) (t2 : u ≤ 120) (b3 : 0 ≤ g) (t3 : g ≤ 399) (f0 : 0 ≤ (u - p - 1)) (k0 : ly_hv cst h 1536 0 = some (u)) (k1 : ly_hv cst h 10 0 = some (g)) (l0 : hp_a l 0 16) (l1 : hp_i l 1 (p)) (l2 : hp_i l 2 (y)) (e0 : ∀ (l' : am_L) (h' : am_H) (y0 : Int32) (y1 : Int32) (y2 : Int32) (y3 : Int32) (y4 : Int32), y0.toInt = (g) → y1.toInt = (y) → y2.toInt = 0 → y3.toInt = (p) → y4.toInt = 1 → ly_hy m_tt ly_TH h' → ly_fr cst [] h h' → h.length ≤ h'.length → hp_a l' 0 16 → hp_F cst strs Φ D M 33 l' [.int y0, .int y1, .int y2, .int y3, .int y4, .ref 22] h') : hp_F cst strs Φ D M 0 l [] h := by
  refine hp_arc c hM edc_k hD [p, y, u, g] rfl hy (hp_Bc (z := p) rfl b0 t0 (hp_Bc (z := y) rfl b1 t1 (hp_Bc (z := u) rfl b2 t2 (hp_Bc (z := g) rfl b3 t3 hp_Bn)))) (hp_Fc (z := ((-1) + ((-1) * p + (1 * u + 0)))) rfl (by omega) hp_Fn) (hp_Kc (zi := (0 + 0)) (zv := (0 + (1 * u + 0))) k0 rfl rfl (by omega) (by omega) (hp_Kc (zi := (0 + 0)) (zv := (0 + (1 * g + 0))) k1 rfl rfl (by omega) (by omega) hp_Kn)) (hp_La l0 (hp_Li (z := (0 + (1 * p + 0))) l1 rfl (by omega) (hp_Li (z := (0 + (1 * y + 0))) l2 rfl (by omega) hp_Ln))) trivial ?_ ?_
  · intro p hp ys l' st' h' hys a1 a2 a3 gZ gL gS
    rcases List.mem_cons.mp hp with rfl | hp
    · obtain rfl := hp_y0 hys
      obtain ⟨y0, t0, rfl, q0, g0⟩ := hp_gSi (z := (0 + (1 * g + 0))) gS rfl
      obtain ⟨y1, t1, rfl, q1, g1⟩ := hp_gSi (z := (0 + (1 * y + 0))) g0 rfl
      obtain ⟨y2, t2, rfl, q2, g2⟩ := hp_gSi (z := (0 + 0)) g1 rfl
      obtain ⟨y3, t3, rfl, q3, g3⟩ := hp_gSi (z := (0 + (1 * p + 0))) g2 rfl
      obtain ⟨y4, t4, rfl, q4, g4⟩ := hp_gSi (z := (1 + 0)) g3 rfl
      obtain ⟨t5, rfl, g5⟩ := hp_gSa g4 (by decide)
      cases hp_gSn g5
      exact e0 l' h' y0 y1 y2 y3 y4 (by omega) (by omega) (by omega) (by omega) (by omega) a1 a2 a3 (hp_gLa gL (List.mem_of_getElem? (i := 0) rfl) (by decide))
    cases hp
  · intro p hp ys v h' hys a1 a2 a3 gZ gS
    cases hp
theorem edt_k : hp_chk 41 36 1 [(0, 0, 300)] [] [(0, .inr (.inr (.inl (some 16))))] [.inl (1, [])] [(1537, (0, []), (0, [(0, 1)]))] [] 2 [] [([], 1, [(0, 0, 300)], [], [], [.inl (0, [(0, 1)])], [])] = true := by decide +kernel
theorem edt {cst : am_K} {strs : List Nat} {Φ : am_Q → Prop} {D : Nat} {M : am_M} {h : am_H} {l : am_L} (c : hp_C cst strs D) (hM : m_P[41]? = some M) (hD : (2 : Int) ≤ (D : Int) + 1) (hy : ly_hy m_tt ly_TH h) (ww : Int) (x0 : Int32) (hx0 : x0.toInt = 1) (b0 : 0 ≤ ww) (t0 : ww ≤ 300) (k0 : ly_hv cst h 1537 0 = some (ww)) (l0 : hp_a l 0 16) (r0 : ∀ (h' : am_H) (y0 : Int32), y0.toInt = (ww) → ly_hy m_tt ly_TH h' → ly_fr cst [] h h' → h.length ≤ h'.length → Φ (some (.int y0), h', 0, 0)) : hp_F cst strs Φ D M 36 l [.int x0] h := by
  refine hp_arc c hM edt_k hD [ww] rfl hy (hp_Bc (z := ww) rfl b0 t0 hp_Bn) hp_Fn (hp_Kc (zi := (0 + 0)) (zv := (0 + (1 * ww + 0))) k0 rfl rfl (by omega) (by omega) hp_Kn) (hp_La l0 hp_Ln) (hp_Si (z := (1 + 0)) rfl (by omega) trivial) ?_ ?_
  · intro p hp ys l' st' h' hys a1 a2 a3 gZ gL gS
    cases hp
  · intro p hp ys v h' hys a1 a2 a3 gZ gS
    rcases List.mem_cons.mp hp with rfl | hp
    · obtain rfl := hp_y0 hys
      cases v with
      | none => cases gS
      | some w =>
        obtain ⟨y0, t0, s0, q0, -⟩ := hp_gSi (z := (0 + (1 * ww + 0))) gS rfl
        cases s0
        exact r0 h' y0 (by omega) a1 a2 a3
    cases hp
theorem edn_k : hp_chk 41 36 0 [] [] [(0, .inr (.inr (.inl (some 16))))] [.inl (0, [])] [] [] 2 [] [([], 0, [], [], [], [.inl ((-3), [])], [])] = true := by decide +kernel
theorem edn {cst : am_K} {strs : List Nat} {Φ : am_Q → Prop} {D : Nat} {M : am_M} {h : am_H} {l : am_L} (c : hp_C cst strs D) (hM : m_P[41]? = some M) (hD : (2 : Int) ≤ (D : Int) + 1) (hy : ly_hy m_tt ly_TH h) (x0 : Int32) (hx0 : x0.toInt = 0) (l0 : hp_a l 0 16) (r0 : ∀ (h' : am_H) (y0 : Int32), y0.toInt = (-3) → ly_hy m_tt ly_TH h' → ly_fr cst [] h h' → h.length ≤ h'.length → Φ (some (.int y0), h', 0, 0)) : hp_F cst strs Φ D M 36 l [.int x0] h := by
  refine hp_arc c hM edn_k hD [] rfl hy hp_Bn hp_Fn hp_Kn (hp_La l0 hp_Ln) (hp_Si (z := (0 + 0)) rfl (by omega) trivial) ?_ ?_
  · intro p hp ys l' st' h' hys a1 a2 a3 gZ gL gS
    cases hp
  · intro p hp ys v h' hys a1 a2 a3 gZ gS
    rcases List.mem_cons.mp hp with rfl | hp
    · obtain rfl := hp_y0 hys
      cases v with
      | none => cases gS
      | some w =>
        obtain ⟨y0, t0, s0, q0, -⟩ := hp_gSi (z := ((-3) + 0)) gS rfl
        cases s0
        exact r0 h' y0 (by omega) a1 a2 a3
    cases hp
theorem flg0_k : hp_chk 275 0 4 [(0, (-2147483648), (-1)), (1, (-2147483648), 2147483647), (2, (-2147483648), 2147483647), (3, 0, 120)] [] [(0, .inr (.inr (.inl (some 94)))), (1, .inl (0, [(0, 1)])), (2, .inl (0, [(1, 1)])), (3, .inl (0, [(2, 1)]))] [] [(19978, (0, []), (0, [(3, 1)]))] [] 4 [] [([], 4, [(0, (-2147483648), (-1)), (1, (-2147483648), 2147483647), (2, (-2147483648), 2147483647), (3, 0, 120)], [], [], [.inl ((-2), [])], [])] = true := by decide +kernel
theorem flg0 {cst : am_K} {strs : List Nat} {Φ : am_Q → Prop} {D : Nat} {M : am_M} {h : am_H} {l : am_L} (c : hp_C cst strs D) (hM : m_P[275]? = some M) (hD : (4 : Int) ≤ (D : Int) + 1) (hy : ly_hy m_tt ly_TH h) (p y z u : Int) (b0 : (-2147483648) ≤ p) (t0 : p ≤ (-1)) (b1 : (-2147483648) ≤ y) (t1 : y ≤ 2147483647) (b2 : (-2147483648) ≤ z) (t2 : z ≤ 2147483647) (b3 : 0 ≤ u) (t3 : u ≤ 120) (k0 : ly_hv cst h 19978 0 = some (u)) (l0 : hp_a l 0 94) (l1 : hp_i l 1 (p)) (l2 : hp_i l 2 (y)) (l3 : hp_i l 3 (z)) (r0 : ∀ (h' : am_H) (y0 : Int32), y0.toInt = (-2) → ly_hy m_tt ly_TH h' → ly_fr cst [] h h' → h.length ≤ h'.length → Φ (some (.int y0), h', 0, 0)) : hp_F cst strs Φ D M 0 l [] h := by
  refine hp_arc c hM flg0_k hD [p, y, z, u] rfl hy (hp_Bc (z := p) rfl b0 t0 (hp_Bc (z := y) rfl b1 t1 (hp_Bc (z := z) rfl b2 t2 (hp_Bc (z := u) rfl b3 t3 hp_Bn)))) hp_Fn (hp_Kc (zi := (0 + 0)) (zv := (0 + (1 * u + 0))) k0 rfl rfl (by omega) (by omega) hp_Kn) (hp_La l0 (hp_Li (z := (0 + (1 * p + 0))) l1 rfl (by omega) (hp_Li (z := (0 + (1 * y + 0))) l2 rfl (by omega) (hp_Li (z := (0 + (1 * z + 0))) l3 rfl (by omega) hp_Ln)))) trivial ?_ ?_
  · intro p hp ys l' st' h' hys a1 a2 a3 gZ gL gS
    cases hp
  · intro p hp ys v h' hys a1 a2 a3 gZ gS
    rcases List.mem_cons.mp hp with rfl | hp
    · obtain rfl := hp_y0 hys
      cases v with
      | none => cases gS
      | some w =>
        obtain ⟨y0, t0, s0, q0, -⟩ := hp_gSi (z := ((-2) + 0)) gS rfl
        cases s0
        exact r0 h' y0 (by omega) a1 a2 a3
    cases hp
theorem flg1_k : hp_chk 275 0 4 [(0, 0, 2147483647), (1, (-2147483648), 2147483647), (2, (-2147483648), 2147483647), (3, 0, 120)] [(0, [(0, 1), (3, (-1))])] [(0, .inr (.inr (.inl (some 94)))), (1, .inl (0, [(0, 1)])), (2, .inl (0, [(1, 1)])), (3, .inl (0, [(2, 1)]))] [] [(19978, (0, []), (0, [(3, 1)]))] [] 4 [] [([], 4, [(0, 0, 2147483647), (1, (-2147483648), 2147483647), (2, (-2147483648), 2147483647), (3, 0, 120)], [], [], [.inl ((-2), [])], [])] = true := by decide +kernel
theorem flg1 {cst : am_K} {strs : List Nat} {Φ : am_Q → Prop} {D : Nat} {M : am_M} {h : am_H} {l : am_L} (c : hp_C cst strs D) (hM : m_P[275]? = some M) (hD : (4 : Int) ≤ (D : Int) + 1) (hy : ly_hy m_tt ly_TH h) (p y z u : Int) (b0 : 0 ≤ p) (t0 : p ≤ 2147483647) (b1 : (-2147483648) ≤ y) (t1 : y ≤ 2147483647) (b2 : (-2147483648) ≤ z) (t2 : z ≤ 2147483647) (b3 : 0 ≤ u) (t3 : u ≤ 120) (f0 : 0 ≤ (p - u)) (k0 : ly_hv cst h 19978 0 = some (u)) (l0 : hp_a l 0 94) (l1 : hp_i l 1 (p)) (l2 : hp_i l 2 (y)) (l3 : hp_i l 3 (z)) (r0 : ∀ (h' : am_H) (y0 : Int32), y0.toInt = (-2) → ly_hy m_tt ly_TH h' → ly_fr cst [] h h' → h.length ≤ h'.length → Φ (some (.int y0), h', 0, 0)) : hp_F cst strs Φ D M 0 l [] h := by
  refine hp_arc c hM flg1_k hD [p, y, z, u] rfl hy (hp_Bc (z := p) rfl b0 t0 (hp_Bc (z := y) rfl b1 t1 (hp_Bc (z := z) rfl b2 t2 (hp_Bc (z := u) rfl b3 t3 hp_Bn)))) (hp_Fc (z := (0 + (1 * p + ((-1) * u + 0)))) rfl (by omega) hp_Fn) (hp_Kc (zi := (0 + 0)) (zv := (0 + (1 * u + 0))) k0 rfl rfl (by omega) (by omega) hp_Kn) (hp_La l0 (hp_Li (z := (0 + (1 * p + 0))) l1 rfl (by omega) (hp_Li (z := (0 + (1 * y + 0))) l2 rfl (by omega) (hp_Li (z := (0 + (1 * z + 0))) l3 rfl (by omega) hp_Ln)))) trivial ?_ ?_
  · intro p hp ys l' st' h' hys a1 a2 a3 gZ gL gS
    cases hp
  · intro p hp ys v h' hys a1 a2 a3 gZ gS
    rcases List.mem_cons.mp hp with rfl | hp
    · obtain rfl := hp_y0 hys
      cases v with
      | none => cases gS
      | some w =>
        obtain ⟨y0, t0, s0, q0, -⟩ := hp_gSi (z := ((-2) + 0)) gS rfl
        cases s0
        exact r0 h' y0 (by omega) a1 a2 a3
    cases hp
theorem flg2_k : hp_chk 275 0 4 [(0, 0, 119), (1, (-2147483648), (-1)), (2, (-2147483648), 2147483647), (3, 0, 120)] [((-1), [(0, (-1)), (3, 1)])] [(0, .inr (.inr (.inl (some 94)))), (1, .inl (0, [(0, 1)])), (2, .inl (0, [(1, 1)])), (3, .inl (0, [(2, 1)]))] [] [(19978, (0, []), (0, [(3, 1)]))] [] 4 [] [([], 4, [(0, 0, 119), (1, (-2147483648), (-1)), (2, (-2147483648), 2147483647), (3, 0, 120)], [], [], [.inl ((-2), [])], [])] = true := by decide +kernel
theorem flg2 {cst : am_K} {strs : List Nat} {Φ : am_Q → Prop} {D : Nat} {M : am_M} {h : am_H} {l : am_L} (c : hp_C cst strs D) (hM : m_P[275]? = some M) (hD : (4 : Int) ≤ (D : Int) + 1) (hy : ly_hy m_tt ly_TH h) (p y z u : Int) (b0 : 0 ≤ p) (t0 : p ≤ 119) (b1 : (-2147483648) ≤ y) (t1 : y ≤ (-1)) (b2 : (-2147483648) ≤ z) (t2 : z ≤ 2147483647) (b3 : 0 ≤ u) (t3 : u ≤ 120) (f0 : 0 ≤ (u - p - 1)) (k0 : ly_hv cst h 19978 0 = some (u)) (l0 : hp_a l 0 94) (l1 : hp_i l 1 (p)) (l2 : hp_i l 2 (y)) (l3 : hp_i l 3 (z)) (r0 : ∀ (h' : am_H) (y0 : Int32), y0.toInt = (-2) → ly_hy m_tt ly_TH h' → ly_fr cst [] h h' → h.length ≤ h'.length → Φ (some (.int y0), h', 0, 0)) : hp_F cst strs Φ D M 0 l [] h := by
  refine hp_arc c hM flg2_k hD [p, y, z, u] rfl hy (hp_Bc (z := p) rfl b0 t0 (hp_Bc (z := y) rfl b1 t1 (hp_Bc (z := z) rfl b2 t2 (hp_Bc (z := u) rfl b3 t3 hp_Bn)))) (hp_Fc (z := ((-1) + ((-1) * p + (1 * u + 0)))) rfl (by omega) hp_Fn) (hp_Kc (zi := (0 + 0)) (zv := (0 + (1 * u + 0))) k0 rfl rfl (by omega) (by omega) hp_Kn) (hp_La l0 (hp_Li (z := (0 + (1 * p + 0))) l1 rfl (by omega) (hp_Li (z := (0 + (1 * y + 0))) l2 rfl (by omega) (hp_Li (z := (0 + (1 * z + 0))) l3 rfl (by omega) hp_Ln)))) trivial ?_ ?_
  · intro p hp ys l' st' h' hys a1 a2 a3 gZ gL gS
    cases hp
  · intro p hp ys v h' hys a1 a2 a3 gZ gS
    rcases List.mem_cons.mp hp with rfl | hp
    · obtain rfl := hp_y0 hys
      cases v with
      | none => cases gS
      | some w =>
        obtain ⟨y0, t0, s0, q0, -⟩ := hp_gSi (z := ((-2) + 0)) gS rfl
        cases s0
        exact r0 h' y0 (by omega) a1 a2 a3
    cases hp
theorem flg3_k : hp_chk 275 0 4 [(0, 0, 119), (1, 10000, 2147483647), (2, (-2147483648), 2147483647), (3, 0, 120)] [((-1), [(0, (-1)), (3, 1)])] [(0, .inr (.inr (.inl (some 94)))), (1, .inl (0, [(0, 1)])), (2, .inl (0, [(1, 1)])), (3, .inl (0, [(2, 1)]))] [] [(19978, (0, []), (0, [(3, 1)]))] [] 4 [] [([], 4, [(0, 0, 119), (1, 10000, 2147483647), (2, (-2147483648), 2147483647), (3, 0, 120)], [], [], [.inl ((-2), [])], [])] = true := by decide +kernel
theorem flg3 {cst : am_K} {strs : List Nat} {Φ : am_Q → Prop} {D : Nat} {M : am_M} {h : am_H} {l : am_L} (c : hp_C cst strs D) (hM : m_P[275]? = some M) (hD : (4 : Int) ≤ (D : Int) + 1) (hy : ly_hy m_tt ly_TH h) (p y z u : Int) (b0 : 0 ≤ p) (t0 : p ≤ 119) (b1 : 10000 ≤ y) (t1 : y ≤ 2147483647) (b2 : (-2147483648) ≤ z) (t2 : z ≤ 2147483647) (b3 : 0 ≤ u) (t3 : u ≤ 120) (f0 : 0 ≤ (u - p - 1)) (k0 : ly_hv cst h 19978 0 = some (u)) (l0 : hp_a l 0 94) (l1 : hp_i l 1 (p)) (l2 : hp_i l 2 (y)) (l3 : hp_i l 3 (z)) (r0 : ∀ (h' : am_H) (y0 : Int32), y0.toInt = (-2) → ly_hy m_tt ly_TH h' → ly_fr cst [] h h' → h.length ≤ h'.length → Φ (some (.int y0), h', 0, 0)) : hp_F cst strs Φ D M 0 l [] h := by
  refine hp_arc c hM flg3_k hD [p, y, z, u] rfl hy (hp_Bc (z := p) rfl b0 t0 (hp_Bc (z := y) rfl b1 t1 (hp_Bc (z := z) rfl b2 t2 (hp_Bc (z := u) rfl b3 t3 hp_Bn)))) (hp_Fc (z := ((-1) + ((-1) * p + (1 * u + 0)))) rfl (by omega) hp_Fn) (hp_Kc (zi := (0 + 0)) (zv := (0 + (1 * u + 0))) k0 rfl rfl (by omega) (by omega) hp_Kn) (hp_La l0 (hp_Li (z := (0 + (1 * p + 0))) l1 rfl (by omega) (hp_Li (z := (0 + (1 * y + 0))) l2 rfl (by omega) (hp_Li (z := (0 + (1 * z + 0))) l3 rfl (by omega) hp_Ln)))) trivial ?_ ?_
  · intro p hp ys l' st' h' hys a1 a2 a3 gZ gL gS
    cases hp
  · intro p hp ys v h' hys a1 a2 a3 gZ gS
    rcases List.mem_cons.mp hp with rfl | hp
    · obtain rfl := hp_y0 hys
      cases v with
      | none => cases gS
      | some w =>
        obtain ⟨y0, t0, s0, q0, -⟩ := hp_gSi (z := ((-2) + 0)) gS rfl
        cases s0
        exact r0 h' y0 (by omega) a1 a2 a3
    cases hp
theorem flg4_k : hp_chk 275 0 4 [(0, 0, 119), (1, 0, 9999), (2, (-2147483648), (-1)), (3, 0, 120)] [((-1), [(0, (-1)), (3, 1)])] [(0, .inr (.inr (.inl (some 94)))), (1, .inl (0, [(0, 1)])), (2, .inl (0, [(1, 1)])), (3, .inl (0, [(2, 1)]))] [] [(19978, (0, []), (0, [(3, 1)]))] [] 4 [] [([], 4, [(0, 0, 119), (1, 0, 9999), (2, (-2147483648), (-1)), (3, 0, 120)], [], [], [.inl ((-2), [])], [])] = true := by decide +kernel
theorem flg4 {cst : am_K} {strs : List Nat} {Φ : am_Q → Prop} {D : Nat} {M : am_M} {h : am_H} {l : am_L} (c : hp_C cst strs D) (hM : m_P[275]? = some M) (hD : (4 : Int) ≤ (D : Int) + 1) (hy : ly_hy m_tt ly_TH h) (p y z u : Int) (b0 : 0 ≤ p) (t0 : p ≤ 119) (b1 : 0 ≤ y) (t1 : y ≤ 9999) (b2 : (-2147483648) ≤ z) (t2 : z ≤ (-1)) (b3 : 0 ≤ u) (t3 : u ≤ 120) (f0 : 0 ≤ (u - p - 1)) (k0 : ly_hv cst h 19978 0 = some (u)) (l0 : hp_a l 0 94) (l1 : hp_i l 1 (p)) (l2 : hp_i l 2 (y)) (l3 : hp_i l 3 (z)) (r0 : ∀ (h' : am_H) (y0 : Int32), y0.toInt = (-2) → ly_hy m_tt ly_TH h' → ly_fr cst [] h h' → h.length ≤ h'.length → Φ (some (.int y0), h', 0, 0)) : hp_F cst strs Φ D M 0 l [] h := by
  refine hp_arc c hM flg4_k hD [p, y, z, u] rfl hy (hp_Bc (z := p) rfl b0 t0 (hp_Bc (z := y) rfl b1 t1 (hp_Bc (z := z) rfl b2 t2 (hp_Bc (z := u) rfl b3 t3 hp_Bn)))) (hp_Fc (z := ((-1) + ((-1) * p + (1 * u + 0)))) rfl (by omega) hp_Fn) (hp_Kc (zi := (0 + 0)) (zv := (0 + (1 * u + 0))) k0 rfl rfl (by omega) (by omega) hp_Kn) (hp_La l0 (hp_Li (z := (0 + (1 * p + 0))) l1 rfl (by omega) (hp_Li (z := (0 + (1 * y + 0))) l2 rfl (by omega) (hp_Li (z := (0 + (1 * z + 0))) l3 rfl (by omega) hp_Ln)))) trivial ?_ ?_
  · intro p hp ys l' st' h' hys a1 a2 a3 gZ gL gS
    cases hp
  · intro p hp ys v h' hys a1 a2 a3 gZ gS
    rcases List.mem_cons.mp hp with rfl | hp
    · obtain rfl := hp_y0 hys
      cases v with
      | none => cases gS
      | some w =>
        obtain ⟨y0, t0, s0, q0, -⟩ := hp_gSi (z := ((-2) + 0)) gS rfl
        cases s0
        exact r0 h' y0 (by omega) a1 a2 a3
    cases hp
theorem flg5_k : hp_chk 275 0 4 [(0, 0, 119), (1, 0, 9999), (2, 400, 2147483647), (3, 0, 120)] [((-1), [(0, (-1)), (3, 1)])] [(0, .inr (.inr (.inl (some 94)))), (1, .inl (0, [(0, 1)])), (2, .inl (0, [(1, 1)])), (3, .inl (0, [(2, 1)]))] [] [(19978, (0, []), (0, [(3, 1)]))] [] 4 [] [([], 4, [(0, 0, 119), (1, 0, 9999), (2, 400, 2147483647), (3, 0, 120)], [], [], [.inl ((-2), [])], [])] = true := by decide +kernel
theorem flg5 {cst : am_K} {strs : List Nat} {Φ : am_Q → Prop} {D : Nat} {M : am_M} {h : am_H} {l : am_L} (c : hp_C cst strs D) (hM : m_P[275]? = some M) (hD : (4 : Int) ≤ (D : Int) + 1) (hy : ly_hy m_tt ly_TH h) (p y z u : Int) (b0 : 0 ≤ p) (t0 : p ≤ 119) (b1 : 0 ≤ y) (t1 : y ≤ 9999) (b2 : 400 ≤ z) (t2 : z ≤ 2147483647) (b3 : 0 ≤ u) (t3 : u ≤ 120) (f0 : 0 ≤ (u - p - 1)) (k0 : ly_hv cst h 19978 0 = some (u)) (l0 : hp_a l 0 94) (l1 : hp_i l 1 (p)) (l2 : hp_i l 2 (y)) (l3 : hp_i l 3 (z)) (r0 : ∀ (h' : am_H) (y0 : Int32), y0.toInt = (-2) → ly_hy m_tt ly_TH h' → ly_fr cst [] h h' → h.length ≤ h'.length → Φ (some (.int y0), h', 0, 0)) : hp_F cst strs Φ D M 0 l [] h := by
  refine hp_arc c hM flg5_k hD [p, y, z, u] rfl hy (hp_Bc (z := p) rfl b0 t0 (hp_Bc (z := y) rfl b1 t1 (hp_Bc (z := z) rfl b2 t2 (hp_Bc (z := u) rfl b3 t3 hp_Bn)))) (hp_Fc (z := ((-1) + ((-1) * p + (1 * u + 0)))) rfl (by omega) hp_Fn) (hp_Kc (zi := (0 + 0)) (zv := (0 + (1 * u + 0))) k0 rfl rfl (by omega) (by omega) hp_Kn) (hp_La l0 (hp_Li (z := (0 + (1 * p + 0))) l1 rfl (by omega) (hp_Li (z := (0 + (1 * y + 0))) l2 rfl (by omega) (hp_Li (z := (0 + (1 * z + 0))) l3 rfl (by omega) hp_Ln)))) trivial ?_ ?_
  · intro p hp ys l' st' h' hys a1 a2 a3 gZ gL gS
    cases hp
  · intro p hp ys v h' hys a1 a2 a3 gZ gS
    rcases List.mem_cons.mp hp with rfl | hp
    · obtain rfl := hp_y0 hys
      cases v with
      | none => cases gS
      | some w =>
        obtain ⟨y0, t0, s0, q0, -⟩ := hp_gSi (z := ((-2) + 0)) gS rfl
        cases s0
        exact r0 h' y0 (by omega) a1 a2 a3
    cases hp
theorem flc_k : hp_chk 275 0 4 [(0, 0, 119), (1, 0, 9999), (2, 0, 399), (3, 0, 120)] [((-1), [(0, (-1)), (3, 1)])] [(0, .inr (.inr (.inl (some 94)))), (1, .inl (0, [(0, 1)])), (2, .inl (0, [(1, 1)])), (3, .inl (0, [(2, 1)]))] [] [(19978, (0, []), (0, [(3, 1)]))] [] 4 [(32, ([], 4, [(0, 0, 119), (1, 0, 9999), (2, 0, 399), (3, 0, 120)], [], [(0, .inr (.inr (.inl (some 94))))], [.inl (0, [(2, 1)]), .inl (0, [(1, 1)]), .inl ((-1), []), .inl (0, [(0, 1)]), .inl (0, []), .inr (.inr (.inl (some 94)))], []))] [] = true := by decide +kernel
theorem flc {cst : am_K} {strs : List Nat} {Φ : am_Q → Prop} {D : Nat} {M : am_M} {h : am_H} {l : am_L} (c : hp_C cst strs D) (hM : m_P[275]? = some M) (hD : (4 : Int) ≤ (D : Int) + 1) (hy : ly_hy m_tt ly_TH h) (p y z u : Int) (b0 : 0 ≤ p) (t0 : p ≤ 119) (b1 : 0 ≤ y) (t1 : y ≤ 9999) (b2 : 0 ≤ z) (t2 : z ≤ 399) (b3 : 0 ≤ u) (t3 : u ≤ 120) (f0 : 0 ≤ (u - p - 1)) (k0 : ly_hv cst h 19978 0 = some (u)) (l0 : hp_a l 0 94) (l1 : hp_i l 1 (p)) (l2 : hp_i l 2 (y)) (l3 : hp_i l 3 (z)) (e0 : ∀ (l' : am_L) (h' : am_H) (y0 : Int32) (y1 : Int32) (y2 : Int32) (y3 : Int32) (y4 : Int32), y0.toInt = (z) → y1.toInt = (y) → y2.toInt = (-1) → y3.toInt = (p) → y4.toInt = 0 → ly_hy m_tt ly_TH h' → ly_fr cst [] h h' → h.length ≤ h'.length → hp_a l' 0 94 → hp_F cst strs Φ D M 32 l' [.int y0, .int y1, .int y2, .int y3, .int y4, .ref 94] h') : hp_F cst strs Φ D M 0 l [] h := by
  refine hp_arc c hM flc_k hD [p, y, z, u] rfl hy (hp_Bc (z := p) rfl b0 t0 (hp_Bc (z := y) rfl b1 t1 (hp_Bc (z := z) rfl b2 t2 (hp_Bc (z := u) rfl b3 t3 hp_Bn)))) (hp_Fc (z := ((-1) + ((-1) * p + (1 * u + 0)))) rfl (by omega) hp_Fn) (hp_Kc (zi := (0 + 0)) (zv := (0 + (1 * u + 0))) k0 rfl rfl (by omega) (by omega) hp_Kn) (hp_La l0 (hp_Li (z := (0 + (1 * p + 0))) l1 rfl (by omega) (hp_Li (z := (0 + (1 * y + 0))) l2 rfl (by omega) (hp_Li (z := (0 + (1 * z + 0))) l3 rfl (by omega) hp_Ln)))) trivial ?_ ?_
  · intro p hp ys l' st' h' hys a1 a2 a3 gZ gL gS
    rcases List.mem_cons.mp hp with rfl | hp
    · obtain rfl := hp_y0 hys
      obtain ⟨y0, t0, rfl, q0, g0⟩ := hp_gSi (z := (0 + (1 * z + 0))) gS rfl
      obtain ⟨y1, t1, rfl, q1, g1⟩ := hp_gSi (z := (0 + (1 * y + 0))) g0 rfl
      obtain ⟨y2, t2, rfl, q2, g2⟩ := hp_gSi (z := ((-1) + 0)) g1 rfl
      obtain ⟨y3, t3, rfl, q3, g3⟩ := hp_gSi (z := (0 + (1 * p + 0))) g2 rfl
      obtain ⟨y4, t4, rfl, q4, g4⟩ := hp_gSi (z := (0 + 0)) g3 rfl
      obtain ⟨t5, rfl, g5⟩ := hp_gSa g4 (by decide)
      cases hp_gSn g5
      exact e0 l' h' y0 y1 y2 y3 y4 (by omega) (by omega) (by omega) (by omega) (by omega) a1 a2 a3 (hp_gLa gL (List.mem_of_getElem? (i := 0) rfl) (by decide))
    cases hp
  · intro p hp ys v h' hys a1 a2 a3 gZ gS
    cases hp
theorem flt_k : hp_chk 275 35 1 [(0, (-2147483648), 2147483647)] [] [(0, .inr (.inr (.inl (some 94))))] [.inl (0, [(0, 1)])] [] [] 2 [] [([], 1, [(0, (-2147483648), 2147483647)], [], [], [.inl (0, [(0, 1)])], [])] = true := by decide +kernel
theorem flt {cst : am_K} {strs : List Nat} {Φ : am_Q → Prop} {D : Nat} {M : am_M} {h : am_H} {l : am_L} (c : hp_C cst strs D) (hM : m_P[275]? = some M) (hD : (2 : Int) ≤ (D : Int) + 1) (hy : ly_hy m_tt ly_TH h) (ww : Int) (x0 : Int32) (hx0 : x0.toInt = (ww)) (b0 : (-2147483648) ≤ ww) (t0 : ww ≤ 2147483647) (l0 : hp_a l 0 94) (r0 : ∀ (h' : am_H) (y0 : Int32), y0.toInt = (ww) → ly_hy m_tt ly_TH h' → ly_fr cst [] h h' → h.length ≤ h'.length → Φ (some (.int y0), h', 0, 0)) : hp_F cst strs Φ D M 35 l [.int x0] h := by
  refine hp_arc c hM flt_k hD [ww] rfl hy (hp_Bc (z := ww) rfl b0 t0 hp_Bn) hp_Fn hp_Kn (hp_La l0 hp_Ln) (hp_Si (z := (0 + (1 * ww + 0))) rfl (by omega) trivial) ?_ ?_
  · intro p hp ys l' st' h' hys a1 a2 a3 gZ gL gS
    cases hp
  · intro p hp ys v h' hys a1 a2 a3 gZ gS
    rcases List.mem_cons.mp hp with rfl | hp
    · obtain rfl := hp_y0 hys
      cases v with
      | none => cases gS
      | some w =>
        obtain ⟨y0, t0, s0, q0, -⟩ := hp_gSi (z := (0 + (1 * ww + 0))) gS rfl
        cases s0
        exact r0 h' y0 (by omega) a1 a2 a3
    cases hp
theorem fdg0_k : hp_chk 279 0 3 [(0, (-2147483648), (-1)), (1, (-2147483648), 2147483647), (2, 0, 120)] [] [(0, .inr (.inr (.inl (some 94)))), (1, .inl (0, [(0, 1)])), (2, .inl (0, [(1, 1)]))] [] [(19978, (0, []), (0, [(2, 1)]))] [] 4 [] [([], 3, [(0, (-2147483648), (-1)), (1, (-2147483648), 2147483647), (2, 0, 120)], [], [], [.inl ((-2), [])], [])] = true := by decide +kernel
theorem fdg0 {cst : am_K} {strs : List Nat} {Φ : am_Q → Prop} {D : Nat} {M : am_M} {h : am_H} {l : am_L} (c : hp_C cst strs D) (hM : m_P[279]? = some M) (hD : (4 : Int) ≤ (D : Int) + 1) (hy : ly_hy m_tt ly_TH h) (p y u : Int) (b0 : (-2147483648) ≤ p) (t0 : p ≤ (-1)) (b1 : (-2147483648) ≤ y) (t1 : y ≤ 2147483647) (b2 : 0 ≤ u) (t2 : u ≤ 120) (k0 : ly_hv cst h 19978 0 = some (u)) (l0 : hp_a l 0 94) (l1 : hp_i l 1 (p)) (l2 : hp_i l 2 (y)) (r0 : ∀ (h' : am_H) (y0 : Int32), y0.toInt = (-2) → ly_hy m_tt ly_TH h' → ly_fr cst [] h h' → h.length ≤ h'.length → Φ (some (.int y0), h', 0, 0)) : hp_F cst strs Φ D M 0 l [] h := by
  refine hp_arc c hM fdg0_k hD [p, y, u] rfl hy (hp_Bc (z := p) rfl b0 t0 (hp_Bc (z := y) rfl b1 t1 (hp_Bc (z := u) rfl b2 t2 hp_Bn))) hp_Fn (hp_Kc (zi := (0 + 0)) (zv := (0 + (1 * u + 0))) k0 rfl rfl (by omega) (by omega) hp_Kn) (hp_La l0 (hp_Li (z := (0 + (1 * p + 0))) l1 rfl (by omega) (hp_Li (z := (0 + (1 * y + 0))) l2 rfl (by omega) hp_Ln))) trivial ?_ ?_
  · intro p hp ys l' st' h' hys a1 a2 a3 gZ gL gS
    cases hp
  · intro p hp ys v h' hys a1 a2 a3 gZ gS
    rcases List.mem_cons.mp hp with rfl | hp
    · obtain rfl := hp_y0 hys
      cases v with
      | none => cases gS
      | some w =>
        obtain ⟨y0, t0, s0, q0, -⟩ := hp_gSi (z := ((-2) + 0)) gS rfl
        cases s0
        exact r0 h' y0 (by omega) a1 a2 a3
    cases hp
theorem fdg1_k : hp_chk 279 0 3 [(0, 0, 2147483647), (1, (-2147483648), 2147483647), (2, 0, 120)] [(0, [(0, 1), (2, (-1))])] [(0, .inr (.inr (.inl (some 94)))), (1, .inl (0, [(0, 1)])), (2, .inl (0, [(1, 1)]))] [] [(19978, (0, []), (0, [(2, 1)]))] [] 4 [] [([], 3, [(0, 0, 2147483647), (1, (-2147483648), 2147483647), (2, 0, 120)], [], [], [.inl ((-2), [])], [])] = true := by decide +kernel
theorem fdg1 {cst : am_K} {strs : List Nat} {Φ : am_Q → Prop} {D : Nat} {M : am_M} {h : am_H} {l : am_L} (c : hp_C cst strs D) (hM : m_P[279]? = some M) (hD : (4 : Int) ≤ (D : Int) + 1) (hy : ly_hy m_tt ly_TH h) (p y u : Int) (b0 : 0 ≤ p) (t0 : p ≤ 2147483647) (b1 : (-2147483648) ≤ y) (t1 : y ≤ 2147483647) (b2 : 0 ≤ u) (t2 : u ≤ 120) (f0 : 0 ≤ (p - u)) (k0 : ly_hv cst h 19978 0 = some (u)) (l0 : hp_a l 0 94) (l1 : hp_i l 1 (p)) (l2 : hp_i l 2 (y)) (r0 : ∀ (h' : am_H) (y0 : Int32), y0.toInt = (-2) → ly_hy m_tt ly_TH h' → ly_fr cst [] h h' → h.length ≤ h'.length → Φ (some (.int y0), h', 0, 0)) : hp_F cst strs Φ D M 0 l [] h := by
  refine hp_arc c hM fdg1_k hD [p, y, u] rfl hy (hp_Bc (z := p) rfl b0 t0 (hp_Bc (z := y) rfl b1 t1 (hp_Bc (z := u) rfl b2 t2 hp_Bn))) (hp_Fc (z := (0 + (1 * p + ((-1) * u + 0)))) rfl (by omega) hp_Fn) (hp_Kc (zi := (0 + 0)) (zv := (0 + (1 * u + 0))) k0 rfl rfl (by omega) (by omega) hp_Kn) (hp_La l0 (hp_Li (z := (0 + (1 * p + 0))) l1 rfl (by omega) (hp_Li (z := (0 + (1 * y + 0))) l2 rfl (by omega) hp_Ln))) trivial ?_ ?_
  · intro p hp ys l' st' h' hys a1 a2 a3 gZ gL gS
    cases hp
  · intro p hp ys v h' hys a1 a2 a3 gZ gS
    rcases List.mem_cons.mp hp with rfl | hp
    · obtain rfl := hp_y0 hys
      cases v with
      | none => cases gS
      | some w =>
        obtain ⟨y0, t0, s0, q0, -⟩ := hp_gSi (z := ((-2) + 0)) gS rfl
        cases s0
        exact r0 h' y0 (by omega) a1 a2 a3
    cases hp
theorem fdg2_k : hp_chk 279 0 3 [(0, 0, 119), (1, (-2147483648), (-1)), (2, 0, 120)] [((-1), [(0, (-1)), (2, 1)])] [(0, .inr (.inr (.inl (some 94)))), (1, .inl (0, [(0, 1)])), (2, .inl (0, [(1, 1)]))] [] [(19978, (0, []), (0, [(2, 1)]))] [] 4 [] [([], 3, [(0, 0, 119), (1, (-2147483648), (-1)), (2, 0, 120)], [], [], [.inl ((-2), [])], [])] = true := by decide +kernel
theorem fdg2 {cst : am_K} {strs : List Nat} {Φ : am_Q → Prop} {D : Nat} {M : am_M} {h : am_H} {l : am_L} (c : hp_C cst strs D) (hM : m_P[279]? = some M) (hD : (4 : Int) ≤ (D : Int) + 1) (hy : ly_hy m_tt ly_TH h) (p y u : Int) (b0 : 0 ≤ p) (t0 : p ≤ 119) (b1 : (-2147483648) ≤ y) (t1 : y ≤ (-1)) (b2 : 0 ≤ u) (t2 : u ≤ 120) (f0 : 0 ≤ (u - p - 1)) (k0 : ly_hv cst h 19978 0 = some (u)) (l0 : hp_a l 0 94) (l1 : hp_i l 1 (p)) (l2 : hp_i l 2 (y)) (r0 : ∀ (h' : am_H) (y0 : Int32), y0.toInt = (-2) → ly_hy m_tt ly_TH h' → ly_fr cst [] h h' → h.length ≤ h'.length → Φ (some (.int y0), h', 0, 0)) : hp_F cst strs Φ D M 0 l [] h := by
  refine hp_arc c hM fdg2_k hD [p, y, u] rfl hy (hp_Bc (z := p) rfl b0 t0 (hp_Bc (z := y) rfl b1 t1 (hp_Bc (z := u) rfl b2 t2 hp_Bn))) (hp_Fc (z := ((-1) + ((-1) * p + (1 * u + 0)))) rfl (by omega) hp_Fn) (hp_Kc (zi := (0 + 0)) (zv := (0 + (1 * u + 0))) k0 rfl rfl (by omega) (by omega) hp_Kn) (hp_La l0 (hp_Li (z := (0 + (1 * p + 0))) l1 rfl (by omega) (hp_Li (z := (0 + (1 * y + 0))) l2 rfl (by omega) hp_Ln))) trivial ?_ ?_
  · intro p hp ys l' st' h' hys a1 a2 a3 gZ gL gS
    cases hp
  · intro p hp ys v h' hys a1 a2 a3 gZ gS
    rcases List.mem_cons.mp hp with rfl | hp
    · obtain rfl := hp_y0 hys
      cases v with
      | none => cases gS
      | some w =>
        obtain ⟨y0, t0, s0, q0, -⟩ := hp_gSi (z := ((-2) + 0)) gS rfl
        cases s0
        exact r0 h' y0 (by omega) a1 a2 a3
    cases hp
theorem fdg3_k : hp_chk 279 0 3 [(0, 0, 119), (1, 400, 2147483647), (2, 0, 120)] [((-1), [(0, (-1)), (2, 1)])] [(0, .inr (.inr (.inl (some 94)))), (1, .inl (0, [(0, 1)])), (2, .inl (0, [(1, 1)]))] [] [(19978, (0, []), (0, [(2, 1)]))] [] 4 [] [([], 3, [(0, 0, 119), (1, 400, 2147483647), (2, 0, 120)], [], [], [.inl ((-2), [])], [])] = true := by decide +kernel
theorem fdg3 {cst : am_K} {strs : List Nat} {Φ : am_Q → Prop} {D : Nat} {M : am_M} {h : am_H} {l : am_L} (c : hp_C cst strs D) (hM : m_P[279]? = some M) (hD : (4 : Int) ≤ (D : Int) + 1) (hy : ly_hy m_tt ly_TH h) (p y u : Int) (b0 : 0 ≤ p) (t0 : p ≤ 119) (b1 : 400 ≤ y) (t1 : y ≤ 2147483647) (b2 : 0 ≤ u) (t2 : u ≤ 120) (f0 : 0 ≤ (u - p - 1)) (k0 : ly_hv cst h 19978 0 = some (u)) (l0 : hp_a l 0 94) (l1 : hp_i l 1 (p)) (l2 : hp_i l 2 (y)) (r0 : ∀ (h' : am_H) (y0 : Int32), y0.toInt = (-2) → ly_hy m_tt ly_TH h' → ly_fr cst [] h h' → h.length ≤ h'.length → Φ (some (.int y0), h', 0, 0)) : hp_F cst strs Φ D M 0 l [] h := by
  refine hp_arc c hM fdg3_k hD [p, y, u] rfl hy (hp_Bc (z := p) rfl b0 t0 (hp_Bc (z := y) rfl b1 t1 (hp_Bc (z := u) rfl b2 t2 hp_Bn))) (hp_Fc (z := ((-1) + ((-1) * p + (1 * u + 0)))) rfl (by omega) hp_Fn) (hp_Kc (zi := (0 + 0)) (zv := (0 + (1 * u + 0))) k0 rfl rfl (by omega) (by omega) hp_Kn) (hp_La l0 (hp_Li (z := (0 + (1 * p + 0))) l1 rfl (by omega) (hp_Li (z := (0 + (1 * y + 0))) l2 rfl (by omega) hp_Ln))) trivial ?_ ?_
  · intro p hp ys l' st' h' hys a1 a2 a3 gZ gL gS
    cases hp
  · intro p hp ys v h' hys a1 a2 a3 gZ gS
    rcases List.mem_cons.mp hp with rfl | hp
    · obtain rfl := hp_y0 hys
      cases v with
      | none => cases gS
      | some w =>
        obtain ⟨y0, t0, s0, q0, -⟩ := hp_gSi (z := ((-2) + 0)) gS rfl
        cases s0
        exact r0 h' y0 (by omega) a1 a2 a3
    cases hp
theorem fdc_k : hp_chk 279 0 3 [(0, 0, 119), (1, 0, 399), (2, 0, 120)] [((-1), [(0, (-1)), (2, 1)])] [(0, .inr (.inr (.inl (some 94)))), (1, .inl (0, [(0, 1)])), (2, .inl (0, [(1, 1)]))] [] [(19978, (0, []), (0, [(2, 1)]))] [] 4 [(21, ([], 3, [(0, 0, 119), (1, 0, 399), (2, 0, 120)], [], [(0, .inr (.inr (.inl (some 94))))], [.inl (0, [(1, 1)]), .inl (0, []), .inl ((-1), []), .inl (0, [(0, 1)]), .inl (1, []), .inr (.inr (.inl (some 94)))], []))] [] = true := by decide +kernel
theorem fdc {cst : am_K} {strs : List Nat} {Φ : am_Q → Prop} {D : Nat} {M : am_M} {h : am_H} {l : am_L} (c : hp_C cst strs D) (hM : m_P[279]? = some M) (hD : (4 : Int) ≤ (D : Int) + 1) (hy : ly_hy m_tt ly_TH h) (p y u : Int) (b0 : 0 ≤ p) (t0 : p ≤ 119) (b1 : 0 ≤ y) (t1 : y ≤ 399) (b2 : 0 ≤ u) (t2 : u ≤ 120) (f0 : 0 ≤ (u - p - 1)) (k0 : ly_hv cst h 19978 0 = some (u)) (l0 : hp_a l 0 94) (l1 : hp_i l 1 (p)) (l2 : hp_i l 2 (y)) (e0 : ∀ (l' : am_L) (h' : am_H) (y0 : Int32) (y1 : Int32) (y2 : Int32) (y3 : Int32) (y4 : Int32), y0.toInt = (y) → y1.toInt = 0 → y2.toInt = (-1) → y3.toInt = (p) → y4.toInt = 1 → ly_hy m_tt ly_TH h' → ly_fr cst [] h h' → h.length ≤ h'.length → hp_a l' 0 94 → hp_F cst strs Φ D M 21 l' [.int y0, .int y1, .int y2, .int y3, .int y4, .ref 94] h') : hp_F cst strs Φ D M 0 l [] h := by
  refine hp_arc c hM fdc_k hD [p, y, u] rfl hy (hp_Bc (z := p) rfl b0 t0 (hp_Bc (z := y) rfl b1 t1 (hp_Bc (z := u) rfl b2 t2 hp_Bn))) (hp_Fc (z := ((-1) + ((-1) * p + (1 * u + 0)))) rfl (by omega) hp_Fn) (hp_Kc (zi := (0 + 0)) (zv := (0 + (1 * u + 0))) k0 rfl rfl (by omega) (by omega) hp_Kn) (hp_La l0 (hp_Li (z := (0 + (1 * p + 0))) l1 rfl (by omega) (hp_Li (z := (0 + (1 * y + 0))) l2 rfl (by omega) hp_Ln))) trivial ?_ ?_
  · intro p hp ys l' st' h' hys a1 a2 a3 gZ gL gS
    rcases List.mem_cons.mp hp with rfl | hp
    · obtain rfl := hp_y0 hys
      obtain ⟨y0, t0, rfl, q0, g0⟩ := hp_gSi (z := (0 + (1 * y + 0))) gS rfl
      obtain ⟨y1, t1, rfl, q1, g1⟩ := hp_gSi (z := (0 + 0)) g0 rfl
      obtain ⟨y2, t2, rfl, q2, g2⟩ := hp_gSi (z := ((-1) + 0)) g1 rfl
      obtain ⟨y3, t3, rfl, q3, g3⟩ := hp_gSi (z := (0 + (1 * p + 0))) g2 rfl
      obtain ⟨y4, t4, rfl, q4, g4⟩ := hp_gSi (z := (1 + 0)) g3 rfl
      obtain ⟨t5, rfl, g5⟩ := hp_gSa g4 (by decide)
      cases hp_gSn g5
      exact e0 l' h' y0 y1 y2 y3 y4 (by omega) (by omega) (by omega) (by omega) (by omega) a1 a2 a3 (hp_gLa gL (List.mem_of_getElem? (i := 0) rfl) (by decide))
    cases hp
  · intro p hp ys v h' hys a1 a2 a3 gZ gS
    cases hp
theorem fdt_k : hp_chk 279 24 1 [(0, (-2147483648), 2147483647)] [] [(0, .inr (.inr (.inl (some 94))))] [.inl (0, [(0, 1)])] [] [] 2 [] [([], 1, [(0, (-2147483648), 2147483647)], [], [], [.inl (0, [(0, 1)])], [])] = true := by decide +kernel
theorem fdt {cst : am_K} {strs : List Nat} {Φ : am_Q → Prop} {D : Nat} {M : am_M} {h : am_H} {l : am_L} (c : hp_C cst strs D) (hM : m_P[279]? = some M) (hD : (2 : Int) ≤ (D : Int) + 1) (hy : ly_hy m_tt ly_TH h) (ww : Int) (x0 : Int32) (hx0 : x0.toInt = (ww)) (b0 : (-2147483648) ≤ ww) (t0 : ww ≤ 2147483647) (l0 : hp_a l 0 94) (r0 : ∀ (h' : am_H) (y0 : Int32), y0.toInt = (ww) → ly_hy m_tt ly_TH h' → ly_fr cst [] h h' → h.length ≤ h'.length → Φ (some (.int y0), h', 0, 0)) : hp_F cst strs Φ D M 24 l [.int x0] h := by
  refine hp_arc c hM fdt_k hD [ww] rfl hy (hp_Bc (z := ww) rfl b0 t0 hp_Bn) hp_Fn hp_Kn (hp_La l0 hp_Ln) (hp_Si (z := (0 + (1 * ww + 0))) rfl (by omega) trivial) ?_ ?_
  · intro p hp ys l' st' h' hys a1 a2 a3 gZ gL gS
    cases hp
  · intro p hp ys v h' hys a1 a2 a3 gZ gS
    rcases List.mem_cons.mp hp with rfl | hp
    · obtain rfl := hp_y0 hys
      cases v with
      | none => cases gS
      | some w =>
        obtain ⟨y0, t0, s0, q0, -⟩ := hp_gSi (z := (0 + (1 * ww + 0))) gS rfl
        cases s0
        exact r0 h' y0 (by omega) a1 a2 a3
    cases hp
def te_ok3 (p y z u : Int) : Prop := 0 ≤ p ∧ p < u ∧ 0 ≤ y ∧ y ≤ 9999 ∧ 0 ≤ z ∧ z ≤ 399
def te_ok2 (p y u : Int) : Prop := 0 ≤ p ∧ p < u ∧ 0 ≤ y ∧ y ≤ 399
def te_C (cst : am_K) (h h2 : am_H) (ok : Prop) (v a b d e g : Int) : Prop := ((¬ ok ∨ v = 300) → ly_hv cst h2 1537 0 = some v ∧ ly_hv cst h2 2304 = ly_hv cst h 2304 ∧ ly_hv cst h2 2560 = ly_hv cst h 2560 ∧ ly_hv cst h2 2816 = ly_hv cst h 2816 ∧ ly_hv cst h2 3072 = ly_hv cst h 3072 ∧ ly_hv cst h2 3328 = ly_hv cst h 3328) ∧ (ok → v ≠ 300 → ly_hv cst h2 1537 0 = some (v + 1) ∧ ct_R cst h h2 v a b d e g)
def te_M (cst : am_K) (h h2 : am_H) (ok : Prop) (v a b o d e g : Int) : Prop := ((¬ ok ∨ v = 300) → ly_hv cst h2 19982 0 = some v ∧ ly_hv cst h2 21248 = ly_hv cst h 21248 ∧ ly_hv cst h2 21504 = ly_hv cst h 21504 ∧ ly_hv cst h2 21760 = ly_hv cst h 21760 ∧ ly_hv cst h2 22016 = ly_hv cst h 22016 ∧ ly_hv cst h2 22272 = ly_hv cst h 22272 ∧ ly_hv cst h2 22528 = ly_hv cst h 22528) ∧ (ok → v ≠ 300 → ly_hv cst h2 19982 0 = some (v + 1) ∧ mt_R cst h h2 v a b o d e g)
def te_Φ (cst : am_K) (h : am_H) (mods : List Nat) (P : am_H → Prop) (r : am_Q) : Prop := (∃ a : Int32, r.1 = some (.int a)) ∧ r.2.2.1 = 0 ∧ r.2.2.2 = 0 ∧ ly_hy m_tt ly_TH r.2.1 ∧ ly_fr cst mods h r.2.1 ∧ P r.2.1
theorem el_run {cst : am_K} {strs : List Nat} {D : Nat} {h : am_H} (c1 : hp_C cst strs D) (c : hp_C cst strs (D + 1)) (hD : (3 : Int) ≤ (D : Int) + 1) (hy : ly_hy m_tt ly_TH h) {xp xy xz : Int32} {v u g : Int} (v0 : 0 ≤ v) (v1 : v ≤ 300) (kv : ly_hv cst h 1537 0 = some v) (u0 : 0 ≤ u) (u1 : u ≤ 120) (ku : ly_hv cst h 1536 0 = some u) (g0 : 0 ≤ g) (g1 : g ≤ 399) (kg : ly_hv cst h 10 0 = some g) :
    ∃ r, am_Run cst m_cl m_tt m_P strs sx_bi (D + 1 + 1) 37 [.ref 16, .int xp, .int xy, .int xz] h r ∧ (te_Φ cst h [1537, 2304, 2560, 2816, 3072, 3328] (fun h2 => (te_C cst h h2 (te_ok3 xp.toInt xy.toInt xz.toInt u) v 0 xp.toInt xy.toInt xz.toInt g))) r := by
  obtain ⟨M, hM, hl⟩ := hp_M (mi := 37) (k := 4) (by decide +kernel)
  have a0 := xp.le_toInt
  have a1 := xp.toInt_le
  have b0 := xy.le_toInt
  have b1 := xy.toInt_le
  have e0 := xz.le_toInt
  have e1 := xz.toInt_le
  have go : hp_F cst strs (te_Φ cst h [1537, 2304, 2560, 2816, 3072, 3328] (fun h2 => (te_C cst h h2 (te_ok3 xp.toInt xy.toInt xz.toInt u) v 0 xp.toInt xy.toInt xz.toInt g))) (D + 1) M 0 (lv_args 0 [.ref 16, .int xp, .int xy, .int xz]) [] h := by
    have no : ¬ (te_ok3 xp.toInt xy.toInt xz.toInt u) → ∀ (h2 : am_H) (w : Int32), w.toInt = -2 → ly_hy m_tt ly_TH h2 → ly_fr cst [] h h2 → h.length ≤ h2.length → (te_Φ cst h [1537, 2304, 2560, 2816, 3072, 3328] (fun h2 => (te_C cst h h2 (te_ok3 xp.toInt xy.toInt xz.toInt u) v 0 xp.toInt xy.toInt xz.toInt g))) (some (.int w), h2, 0, 0) := fun nk h2 w hw w1 w2 w3 => ⟨⟨w, rfl⟩, rfl, rfl, w1, (fun r i x _ e => w2 r i x rfl e), fun _ => ⟨w2 _ _ _ rfl kv, hp_same (show ly_ths ly_TH 9 = some (.inl (.int, 300, -2147483648, 2147483647)) from rfl) rfl hy w1 w2, hp_same (show ly_ths ly_TH 10 = some (.inl (.int, 300, -2147483648, 2147483647)) from rfl) rfl hy w1 w2, hp_same (show ly_ths ly_TH 11 = some (.inl (.int, 300, -2147483648, 2147483647)) from rfl) rfl hy w1 w2, hp_same (show ly_ths ly_TH 12 = some (.inl (.int, 300, -2147483648, 2147483647)) from rfl) rfl hy w1 w2, hp_same (show ly_ths ly_TH 13 = some (.inl (.int, 300, -2147483648, 2147483647)) from rfl) rfl hy w1 w2⟩, fun ok => absurd ok nk⟩
    by_cases p1 : xp.toInt ≤ -1
    · exact elg0 c hM (by omega) hy xp.toInt xy.toInt xz.toInt u a0 p1 b0 b1 e0 e1 u0 u1 ku rfl ⟨xp, rfl, rfl⟩ ⟨xy, rfl, rfl⟩ ⟨xz, rfl, rfl⟩ (no (fun k => by have := k.1; omega))
    by_cases p2 : u ≤ xp.toInt
    · exact elg1 c hM (by omega) hy xp.toInt xy.toInt xz.toInt u (by omega) a1 b0 b1 e0 e1 u0 u1 (by omega) ku rfl ⟨xp, rfl, rfl⟩ ⟨xy, rfl, rfl⟩ ⟨xz, rfl, rfl⟩ (no (fun k => by have := k.2.1; omega))
    by_cases p3 : xy.toInt ≤ -1
    · exact elg2 c hM (by omega) hy xp.toInt xy.toInt xz.toInt u (by omega) (by omega) b0 p3 e0 e1 u0 u1 (by omega) ku rfl ⟨xp, rfl, rfl⟩ ⟨xy, rfl, rfl⟩ ⟨xz, rfl, rfl⟩ (no (fun k => by have := k.2.2.1; omega))
    by_cases p4 : 10000 ≤ xy.toInt
    · exact elg3 c hM (by omega) hy xp.toInt xy.toInt xz.toInt u (by omega) (by omega) p4 b1 e0 e1 u0 u1 (by omega) ku rfl ⟨xp, rfl, rfl⟩ ⟨xy, rfl, rfl⟩ ⟨xz, rfl, rfl⟩ (no (fun k => by have := k.2.2.2.1; omega))
    by_cases p5 : xz.toInt ≤ -1
    · exact elg4 c hM (by omega) hy xp.toInt xy.toInt xz.toInt u (by omega) (by omega) (by omega) (by omega) e0 p5 u0 u1 (by omega) ku rfl ⟨xp, rfl, rfl⟩ ⟨xy, rfl, rfl⟩ ⟨xz, rfl, rfl⟩ (no (fun k => by have := k.2.2.2.2.1; omega))
    by_cases p6 : 400 ≤ xz.toInt
    · exact elg5 c hM (by omega) hy xp.toInt xy.toInt xz.toInt u (by omega) (by omega) (by omega) (by omega) p6 e1 u0 u1 (by omega) ku rfl ⟨xp, rfl, rfl⟩ ⟨xy, rfl, rfl⟩ ⟨xz, rfl, rfl⟩ (no (fun k => by have := k.2.2.2.2.2; omega))
    have ok : (te_ok3 xp.toInt xy.toInt xz.toInt u) := ⟨by omega, by omega, by omega, by omega, by omega, by omega⟩
    refine elc c hM (by omega) hy xp.toInt xy.toInt xz.toInt u g (by omega) (by omega) (by omega) (by omega) (by omega) (by omega) u0 u1 g0 g1 (by omega) ku kg rfl ⟨xp, rfl, rfl⟩ ⟨xy, rfl, rfl⟩ ⟨xz, rfl, rfl⟩ (fun l2 h1 y0 y1 y2 y3 y4 f0 f1 f2 f3 f4 w1 w2 w3 j0 => ?_)
    obtain ⟨r, hrun, z, r1, r2, r3, rhy, rfr, rfull, rgood⟩ := ct_run (xa := y4) (xb := y3) (xd := y2) (xe := y1) (xg := y0) c1 (by omega) w1 v0 v1 (w2 _ _ _ rfl kv)
    refine hp_call (mi := 37) (pc := 44) (tg := 40) (na := 6) (c := 6) (ci := 2) (st0 := [.int y0, .int y1, .int y2, .int y3, .int y4, .ref 22]) (st := []) (av := [.int y4, .int y3, .int y2, .int y1, .int y0]) hM (by decide +kernel) w1 rfl rfl rfl (by decide) hrun r2 r3 ?_
    rw [r1]
    rw [f0, f1, f2, f3, f4] at rgood
    have s0 : ly_hv cst h1 2304 = ly_hv cst h 2304 := hp_same (show ly_ths ly_TH 9 = some (.inl (.int, 300, -2147483648, 2147483647)) from rfl) rfl hy w1 w2
    have s1 : ly_hv cst h1 2560 = ly_hv cst h 2560 := hp_same (show ly_ths ly_TH 10 = some (.inl (.int, 300, -2147483648, 2147483647)) from rfl) rfl hy w1 w2
    have s2 : ly_hv cst h1 2816 = ly_hv cst h 2816 := hp_same (show ly_ths ly_TH 11 = some (.inl (.int, 300, -2147483648, 2147483647)) from rfl) rfl hy w1 w2
    have s3 : ly_hv cst h1 3072 = ly_hv cst h 3072 := hp_same (show ly_ths ly_TH 12 = some (.inl (.int, 300, -2147483648, 2147483647)) from rfl) rfl hy w1 w2
    have s4 : ly_hv cst h1 3328 = ly_hv cst h 3328 := hp_same (show ly_ths ly_TH 13 = some (.inl (.int, 300, -2147483648, 2147483647)) from rfl) rfl hy w1 w2
    have fr2 : ly_fr cst [1537, 2304, 2560, 2816, 3072, 3328] h r.2.1 := ly_fr_tr (fun r i x _ e => w2 r i x rfl e) rfr
    by_cases q : v = 300
    · obtain ⟨hz, k1, q0, q1, q2, q3, q4⟩ := rfull q
      rw [← q] at k1
      exact eln c hM (by omega) rhy z hz j0 (fun h3 x hx v1' v2' v3' => ⟨⟨x, rfl⟩, rfl, rfl, v1', ly_fr_tr fr2 (fun r i x _ e => v2' r i x rfl e), fun _ => ⟨v2' _ _ _ rfl k1, by rw [hp_same (show ly_ths ly_TH 9 = some (.inl (.int, 300, -2147483648, 2147483647)) from rfl) rfl rhy v1' v2', q0, s0], by rw [hp_same (show ly_ths ly_TH 10 = some (.inl (.int, 300, -2147483648, 2147483647)) from rfl) rfl rhy v1' v2', q1, s1], by rw [hp_same (show ly_ths ly_TH 11 = some (.inl (.int, 300, -2147483648, 2147483647)) from rfl) rfl rhy v1' v2', q2, s2], by rw [hp_same (show ly_ths ly_TH 12 = some (.inl (.int, 300, -2147483648, 2147483647)) from rfl) rfl rhy v1' v2', q3, s3], by rw [hp_same (show ly_ths ly_TH 13 = some (.inl (.int, 300, -2147483648, 2147483647)) from rfl) rfl rhy v1' v2', q4, s4]⟩, fun _ ne => absurd q ne⟩)
    · obtain ⟨hz, k1, q0, q1, q2, q3, q4⟩ := rgood q
      exact elt c hM (by omega) rhy (v + 1) z hz (by omega) (by omega) k1 j0 (fun h3 x hx v1' v2' v3' => ⟨⟨x, rfl⟩, rfl, rfl, v1', ly_fr_tr fr2 (fun r i x _ e => v2' r i x rfl e), fun no => (no.elim (fun n => absurd ok n) (fun n => absurd n q)), fun _ _ => ⟨v2' _ _ _ rfl k1, by rw [hp_same (show ly_ths ly_TH 9 = some (.inl (.int, 300, -2147483648, 2147483647)) from rfl) rfl rhy v1' v2', q0, s0], by rw [hp_same (show ly_ths ly_TH 10 = some (.inl (.int, 300, -2147483648, 2147483647)) from rfl) rfl rhy v1' v2', q1, s1], by rw [hp_same (show ly_ths ly_TH 11 = some (.inl (.int, 300, -2147483648, 2147483647)) from rfl) rfl rhy v1' v2', q2, s2], by rw [hp_same (show ly_ths ly_TH 12 = some (.inl (.int, 300, -2147483648, 2147483647)) from rfl) rfl rhy v1' v2', q3, s3], by rw [hp_same (show ly_ths ly_TH 13 = some (.inl (.int, 300, -2147483648, 2147483647)) from rfl) rfl rhy v1' v2', q4, s4]⟩⟩)
  obtain ⟨n, r, hgo, r1, r2, r3, r4⟩ := go
  simp only [Nat.zero_add] at r2 r3
  exact ⟨r, Or.inr ⟨M, n, hM, hl, hgo⟩, r1, r2, r3, r4⟩
theorem ed_run {cst : am_K} {strs : List Nat} {D : Nat} {h : am_H} (c1 : hp_C cst strs D) (c : hp_C cst strs (D + 1)) (hD : (3 : Int) ≤ (D : Int) + 1) (hy : ly_hy m_tt ly_TH h) {xp xy : Int32} {v u g : Int} (v0 : 0 ≤ v) (v1 : v ≤ 300) (kv : ly_hv cst h 1537 0 = some v) (u0 : 0 ≤ u) (u1 : u ≤ 120) (ku : ly_hv cst h 1536 0 = some u) (g0 : 0 ≤ g) (g1 : g ≤ 399) (kg : ly_hv cst h 10 0 = some g) :
    ∃ r, am_Run cst m_cl m_tt m_P strs sx_bi (D + 1 + 1) 41 [.ref 16, .int xp, .int xy] h r ∧ (te_Φ cst h [1537, 2304, 2560, 2816, 3072, 3328] (fun h2 => (te_C cst h h2 (te_ok2 xp.toInt xy.toInt u) v 1 xp.toInt 0 xy.toInt g))) r := by
  obtain ⟨M, hM, hl⟩ := hp_M (mi := 41) (k := 3) (by decide +kernel)
  have a0 := xp.le_toInt
  have a1 := xp.toInt_le
  have b0 := xy.le_toInt
  have b1 := xy.toInt_le
  have go : hp_F cst strs (te_Φ cst h [1537, 2304, 2560, 2816, 3072, 3328] (fun h2 => (te_C cst h h2 (te_ok2 xp.toInt xy.toInt u) v 1 xp.toInt 0 xy.toInt g))) (D + 1) M 0 (lv_args 0 [.ref 16, .int xp, .int xy]) [] h := by
    have no : ¬ (te_ok2 xp.toInt xy.toInt u) → ∀ (h2 : am_H) (w : Int32), w.toInt = -2 → ly_hy m_tt ly_TH h2 → ly_fr cst [] h h2 → h.length ≤ h2.length → (te_Φ cst h [1537, 2304, 2560, 2816, 3072, 3328] (fun h2 => (te_C cst h h2 (te_ok2 xp.toInt xy.toInt u) v 1 xp.toInt 0 xy.toInt g))) (some (.int w), h2, 0, 0) := fun nk h2 w hw w1 w2 w3 => ⟨⟨w, rfl⟩, rfl, rfl, w1, (fun r i x _ e => w2 r i x rfl e), fun _ => ⟨w2 _ _ _ rfl kv, hp_same (show ly_ths ly_TH 9 = some (.inl (.int, 300, -2147483648, 2147483647)) from rfl) rfl hy w1 w2, hp_same (show ly_ths ly_TH 10 = some (.inl (.int, 300, -2147483648, 2147483647)) from rfl) rfl hy w1 w2, hp_same (show ly_ths ly_TH 11 = some (.inl (.int, 300, -2147483648, 2147483647)) from rfl) rfl hy w1 w2, hp_same (show ly_ths ly_TH 12 = some (.inl (.int, 300, -2147483648, 2147483647)) from rfl) rfl hy w1 w2, hp_same (show ly_ths ly_TH 13 = some (.inl (.int, 300, -2147483648, 2147483647)) from rfl) rfl hy w1 w2⟩, fun ok => absurd ok nk⟩
    by_cases p1 : xp.toInt ≤ -1
    · exact edg0 c hM (by omega) hy xp.toInt xy.toInt u a0 p1 b0 b1 u0 u1 ku rfl ⟨xp, rfl, rfl⟩ ⟨xy, rfl, rfl⟩ (no (fun k => by have := k.1; omega))
    by_cases p2 : u ≤ xp.toInt
    · exact edg1 c hM (by omega) hy xp.toInt xy.toInt u (by omega) a1 b0 b1 u0 u1 (by omega) ku rfl ⟨xp, rfl, rfl⟩ ⟨xy, rfl, rfl⟩ (no (fun k => by have := k.2.1; omega))
    by_cases p3 : xy.toInt ≤ -1
    · exact edg2 c hM (by omega) hy xp.toInt xy.toInt u (by omega) (by omega) b0 p3 u0 u1 (by omega) ku rfl ⟨xp, rfl, rfl⟩ ⟨xy, rfl, rfl⟩ (no (fun k => by have := k.2.2.1; omega))
    by_cases p4 : 400 ≤ xy.toInt
    · exact edg3 c hM (by omega) hy xp.toInt xy.toInt u (by omega) (by omega) p4 b1 u0 u1 (by omega) ku rfl ⟨xp, rfl, rfl⟩ ⟨xy, rfl, rfl⟩ (no (fun k => by have := k.2.2.2; omega))
    have ok : (te_ok2 xp.toInt xy.toInt u) := ⟨by omega, by omega, by omega, by omega⟩
    refine edc c hM (by omega) hy xp.toInt xy.toInt u g (by omega) (by omega) (by omega) (by omega) u0 u1 g0 g1 (by omega) ku kg rfl ⟨xp, rfl, rfl⟩ ⟨xy, rfl, rfl⟩ (fun l2 h1 y0 y1 y2 y3 y4 f0 f1 f2 f3 f4 w1 w2 w3 j0 => ?_)
    obtain ⟨r, hrun, z, r1, r2, r3, rhy, rfr, rfull, rgood⟩ := ct_run (xa := y4) (xb := y3) (xd := y2) (xe := y1) (xg := y0) c1 (by omega) w1 v0 v1 (w2 _ _ _ rfl kv)
    refine hp_call (mi := 41) (pc := 33) (tg := 40) (na := 6) (c := 6) (ci := 2) (st0 := [.int y0, .int y1, .int y2, .int y3, .int y4, .ref 22]) (st := []) (av := [.int y4, .int y3, .int y2, .int y1, .int y0]) hM (by decide +kernel) w1 rfl rfl rfl (by decide) hrun r2 r3 ?_
    rw [r1]
    rw [f0, f1, f2, f3, f4] at rgood
    have s0 : ly_hv cst h1 2304 = ly_hv cst h 2304 := hp_same (show ly_ths ly_TH 9 = some (.inl (.int, 300, -2147483648, 2147483647)) from rfl) rfl hy w1 w2
    have s1 : ly_hv cst h1 2560 = ly_hv cst h 2560 := hp_same (show ly_ths ly_TH 10 = some (.inl (.int, 300, -2147483648, 2147483647)) from rfl) rfl hy w1 w2
    have s2 : ly_hv cst h1 2816 = ly_hv cst h 2816 := hp_same (show ly_ths ly_TH 11 = some (.inl (.int, 300, -2147483648, 2147483647)) from rfl) rfl hy w1 w2
    have s3 : ly_hv cst h1 3072 = ly_hv cst h 3072 := hp_same (show ly_ths ly_TH 12 = some (.inl (.int, 300, -2147483648, 2147483647)) from rfl) rfl hy w1 w2
    have s4 : ly_hv cst h1 3328 = ly_hv cst h 3328 := hp_same (show ly_ths ly_TH 13 = some (.inl (.int, 300, -2147483648, 2147483647)) from rfl) rfl hy w1 w2
    have fr2 : ly_fr cst [1537, 2304, 2560, 2816, 3072, 3328] h r.2.1 := ly_fr_tr (fun r i x _ e => w2 r i x rfl e) rfr
    by_cases q : v = 300
    · obtain ⟨hz, k1, q0, q1, q2, q3, q4⟩ := rfull q
      rw [← q] at k1
      exact edn c hM (by omega) rhy z hz j0 (fun h3 x hx v1' v2' v3' => ⟨⟨x, rfl⟩, rfl, rfl, v1', ly_fr_tr fr2 (fun r i x _ e => v2' r i x rfl e), fun _ => ⟨v2' _ _ _ rfl k1, by rw [hp_same (show ly_ths ly_TH 9 = some (.inl (.int, 300, -2147483648, 2147483647)) from rfl) rfl rhy v1' v2', q0, s0], by rw [hp_same (show ly_ths ly_TH 10 = some (.inl (.int, 300, -2147483648, 2147483647)) from rfl) rfl rhy v1' v2', q1, s1], by rw [hp_same (show ly_ths ly_TH 11 = some (.inl (.int, 300, -2147483648, 2147483647)) from rfl) rfl rhy v1' v2', q2, s2], by rw [hp_same (show ly_ths ly_TH 12 = some (.inl (.int, 300, -2147483648, 2147483647)) from rfl) rfl rhy v1' v2', q3, s3], by rw [hp_same (show ly_ths ly_TH 13 = some (.inl (.int, 300, -2147483648, 2147483647)) from rfl) rfl rhy v1' v2', q4, s4]⟩, fun _ ne => absurd q ne⟩)
    · obtain ⟨hz, k1, q0, q1, q2, q3, q4⟩ := rgood q
      exact edt c hM (by omega) rhy (v + 1) z hz (by omega) (by omega) k1 j0 (fun h3 x hx v1' v2' v3' => ⟨⟨x, rfl⟩, rfl, rfl, v1', ly_fr_tr fr2 (fun r i x _ e => v2' r i x rfl e), fun no => (no.elim (fun n => absurd ok n) (fun n => absurd n q)), fun _ _ => ⟨v2' _ _ _ rfl k1, by rw [hp_same (show ly_ths ly_TH 9 = some (.inl (.int, 300, -2147483648, 2147483647)) from rfl) rfl rhy v1' v2', q0, s0], by rw [hp_same (show ly_ths ly_TH 10 = some (.inl (.int, 300, -2147483648, 2147483647)) from rfl) rfl rhy v1' v2', q1, s1], by rw [hp_same (show ly_ths ly_TH 11 = some (.inl (.int, 300, -2147483648, 2147483647)) from rfl) rfl rhy v1' v2', q2, s2], by rw [hp_same (show ly_ths ly_TH 12 = some (.inl (.int, 300, -2147483648, 2147483647)) from rfl) rfl rhy v1' v2', q3, s3], by rw [hp_same (show ly_ths ly_TH 13 = some (.inl (.int, 300, -2147483648, 2147483647)) from rfl) rfl rhy v1' v2', q4, s4]⟩⟩)
  obtain ⟨n, r, hgo, r1, r2, r3, r4⟩ := go
  simp only [Nat.zero_add] at r2 r3
  exact ⟨r, Or.inr ⟨M, n, hM, hl, hgo⟩, r1, r2, r3, r4⟩
theorem fl_run {cst : am_K} {strs : List Nat} {D : Nat} {h : am_H} (c1 : hp_C cst strs D) (c : hp_C cst strs (D + 1)) (hD : (3 : Int) ≤ (D : Int) + 1) (hy : ly_hy m_tt ly_TH h) {xp xy xz : Int32} {v u g : Int} (v0 : 0 ≤ v) (v1 : v ≤ 300) (kv : ly_hv cst h 19982 0 = some v) (u0 : 0 ≤ u) (u1 : u ≤ 120) (ku : ly_hv cst h 19978 0 = some u) (g0 : 0 ≤ g) (g1 : g ≤ 399) (kg : ly_hv cst h 19977 0 = some g) :
    ∃ r, am_Run cst m_cl m_tt m_P strs sx_bi (D + 1 + 1) 275 [.ref 94, .int xp, .int xy, .int xz] h r ∧ (te_Φ cst h [19982, 21248, 21504, 21760, 22016, 22272, 22528] (fun h2 => (te_M cst h h2 (te_ok3 xp.toInt xy.toInt xz.toInt u) v 0 xp.toInt (-1) xy.toInt xz.toInt g))) r := by
  obtain ⟨M, hM, hl⟩ := hp_M (mi := 275) (k := 4) (by decide +kernel)
  have a0 := xp.le_toInt
  have a1 := xp.toInt_le
  have b0 := xy.le_toInt
  have b1 := xy.toInt_le
  have e0 := xz.le_toInt
  have e1 := xz.toInt_le
  have go : hp_F cst strs (te_Φ cst h [19982, 21248, 21504, 21760, 22016, 22272, 22528] (fun h2 => (te_M cst h h2 (te_ok3 xp.toInt xy.toInt xz.toInt u) v 0 xp.toInt (-1) xy.toInt xz.toInt g))) (D + 1) M 0 (lv_args 0 [.ref 94, .int xp, .int xy, .int xz]) [] h := by
    have no : ¬ (te_ok3 xp.toInt xy.toInt xz.toInt u) → ∀ (h2 : am_H) (w : Int32), w.toInt = -2 → ly_hy m_tt ly_TH h2 → ly_fr cst [] h h2 → h.length ≤ h2.length → (te_Φ cst h [19982, 21248, 21504, 21760, 22016, 22272, 22528] (fun h2 => (te_M cst h h2 (te_ok3 xp.toInt xy.toInt xz.toInt u) v 0 xp.toInt (-1) xy.toInt xz.toInt g))) (some (.int w), h2, 0, 0) := fun nk h2 w hw w1 w2 w3 => ⟨⟨w, rfl⟩, rfl, rfl, w1, (fun r i x _ e => w2 r i x rfl e), fun _ => ⟨w2 _ _ _ rfl kv, hp_same (show ly_ths ly_TH 83 = some (.inl (.int, 300, -2147483648, 2147483647)) from rfl) rfl hy w1 w2, hp_same (show ly_ths ly_TH 84 = some (.inl (.int, 300, -2147483648, 2147483647)) from rfl) rfl hy w1 w2, hp_same (show ly_ths ly_TH 85 = some (.inl (.int, 300, -2147483648, 2147483647)) from rfl) rfl hy w1 w2, hp_same (show ly_ths ly_TH 86 = some (.inl (.int, 300, -2147483648, 2147483647)) from rfl) rfl hy w1 w2, hp_same (show ly_ths ly_TH 87 = some (.inl (.int, 300, -2147483648, 2147483647)) from rfl) rfl hy w1 w2, hp_same (show ly_ths ly_TH 88 = some (.inl (.int, 300, -2147483648, 2147483647)) from rfl) rfl hy w1 w2⟩, fun ok => absurd ok nk⟩
    by_cases p1 : xp.toInt ≤ -1
    · exact flg0 c hM (by omega) hy xp.toInt xy.toInt xz.toInt u a0 p1 b0 b1 e0 e1 u0 u1 ku rfl ⟨xp, rfl, rfl⟩ ⟨xy, rfl, rfl⟩ ⟨xz, rfl, rfl⟩ (no (fun k => by have := k.1; omega))
    by_cases p2 : u ≤ xp.toInt
    · exact flg1 c hM (by omega) hy xp.toInt xy.toInt xz.toInt u (by omega) a1 b0 b1 e0 e1 u0 u1 (by omega) ku rfl ⟨xp, rfl, rfl⟩ ⟨xy, rfl, rfl⟩ ⟨xz, rfl, rfl⟩ (no (fun k => by have := k.2.1; omega))
    by_cases p3 : xy.toInt ≤ -1
    · exact flg2 c hM (by omega) hy xp.toInt xy.toInt xz.toInt u (by omega) (by omega) b0 p3 e0 e1 u0 u1 (by omega) ku rfl ⟨xp, rfl, rfl⟩ ⟨xy, rfl, rfl⟩ ⟨xz, rfl, rfl⟩ (no (fun k => by have := k.2.2.1; omega))
    by_cases p4 : 10000 ≤ xy.toInt
    · exact flg3 c hM (by omega) hy xp.toInt xy.toInt xz.toInt u (by omega) (by omega) p4 b1 e0 e1 u0 u1 (by omega) ku rfl ⟨xp, rfl, rfl⟩ ⟨xy, rfl, rfl⟩ ⟨xz, rfl, rfl⟩ (no (fun k => by have := k.2.2.2.1; omega))
    by_cases p5 : xz.toInt ≤ -1
    · exact flg4 c hM (by omega) hy xp.toInt xy.toInt xz.toInt u (by omega) (by omega) (by omega) (by omega) e0 p5 u0 u1 (by omega) ku rfl ⟨xp, rfl, rfl⟩ ⟨xy, rfl, rfl⟩ ⟨xz, rfl, rfl⟩ (no (fun k => by have := k.2.2.2.2.1; omega))
    by_cases p6 : 400 ≤ xz.toInt
    · exact flg5 c hM (by omega) hy xp.toInt xy.toInt xz.toInt u (by omega) (by omega) (by omega) (by omega) p6 e1 u0 u1 (by omega) ku rfl ⟨xp, rfl, rfl⟩ ⟨xy, rfl, rfl⟩ ⟨xz, rfl, rfl⟩ (no (fun k => by have := k.2.2.2.2.2; omega))
    have ok : (te_ok3 xp.toInt xy.toInt xz.toInt u) := ⟨by omega, by omega, by omega, by omega, by omega, by omega⟩
    refine flc c hM (by omega) hy xp.toInt xy.toInt xz.toInt u (by omega) (by omega) (by omega) (by omega) (by omega) (by omega) u0 u1 (by omega) ku rfl ⟨xp, rfl, rfl⟩ ⟨xy, rfl, rfl⟩ ⟨xz, rfl, rfl⟩ (fun l2 h1 y0 y1 y2 y3 y4 f0 f1 f2 f3 f4 w1 w2 w3 j0 => ?_)
    obtain ⟨r, hrun, z, r1, r2, r3, rhy, rfr, rfull, rgood⟩ := mt_run (xa := y4) (xb := y3) (xo := y2) (xd := y1) (xe := y0) c1 (by omega) w1 v0 v1 (w2 _ _ _ rfl kv) g0 g1 (w2 _ _ _ rfl kg)
    refine hp_call (mi := 275) (pc := 32) (tg := 278) (na := 6) (c := 78) (ci := 12) (st0 := [.int y0, .int y1, .int y2, .int y3, .int y4, .ref 94]) (st := []) (av := [.int y4, .int y3, .int y2, .int y1, .int y0]) hM (by decide +kernel) w1 rfl rfl rfl (by decide) hrun r2 r3 ?_
    rw [r1]
    rw [f0, f1, f2, f3, f4] at rgood
    have s0 : ly_hv cst h1 21248 = ly_hv cst h 21248 := hp_same (show ly_ths ly_TH 83 = some (.inl (.int, 300, -2147483648, 2147483647)) from rfl) rfl hy w1 w2
    have s1 : ly_hv cst h1 21504 = ly_hv cst h 21504 := hp_same (show ly_ths ly_TH 84 = some (.inl (.int, 300, -2147483648, 2147483647)) from rfl) rfl hy w1 w2
    have s2 : ly_hv cst h1 21760 = ly_hv cst h 21760 := hp_same (show ly_ths ly_TH 85 = some (.inl (.int, 300, -2147483648, 2147483647)) from rfl) rfl hy w1 w2
    have s3 : ly_hv cst h1 22016 = ly_hv cst h 22016 := hp_same (show ly_ths ly_TH 86 = some (.inl (.int, 300, -2147483648, 2147483647)) from rfl) rfl hy w1 w2
    have s4 : ly_hv cst h1 22272 = ly_hv cst h 22272 := hp_same (show ly_ths ly_TH 87 = some (.inl (.int, 300, -2147483648, 2147483647)) from rfl) rfl hy w1 w2
    have s5 : ly_hv cst h1 22528 = ly_hv cst h 22528 := hp_same (show ly_ths ly_TH 88 = some (.inl (.int, 300, -2147483648, 2147483647)) from rfl) rfl hy w1 w2
    have fr2 : ly_fr cst [19982, 21248, 21504, 21760, 22016, 22272, 22528] h r.2.1 := ly_fr_tr (fun r i x _ e => w2 r i x rfl e) rfr
    by_cases q : v = 300
    · obtain ⟨hz, k1, q0, q1, q2, q3, q4, q5⟩ := rfull q
      rw [← q] at k1
      exact flt c hM (by omega) rhy z.toInt z rfl z.le_toInt z.toInt_le j0 (fun h3 x hx v1' v2' v3' => ⟨⟨x, rfl⟩, rfl, rfl, v1', ly_fr_tr fr2 (fun r i x _ e => v2' r i x rfl e), fun _ => ⟨v2' _ _ _ rfl k1, by rw [hp_same (show ly_ths ly_TH 83 = some (.inl (.int, 300, -2147483648, 2147483647)) from rfl) rfl rhy v1' v2', q0, s0], by rw [hp_same (show ly_ths ly_TH 84 = some (.inl (.int, 300, -2147483648, 2147483647)) from rfl) rfl rhy v1' v2', q1, s1], by rw [hp_same (show ly_ths ly_TH 85 = some (.inl (.int, 300, -2147483648, 2147483647)) from rfl) rfl rhy v1' v2', q2, s2], by rw [hp_same (show ly_ths ly_TH 86 = some (.inl (.int, 300, -2147483648, 2147483647)) from rfl) rfl rhy v1' v2', q3, s3], by rw [hp_same (show ly_ths ly_TH 87 = some (.inl (.int, 300, -2147483648, 2147483647)) from rfl) rfl rhy v1' v2', q4, s4], by rw [hp_same (show ly_ths ly_TH 88 = some (.inl (.int, 300, -2147483648, 2147483647)) from rfl) rfl rhy v1' v2', q5, s5]⟩, fun _ ne => absurd q ne⟩)
    · obtain ⟨hz, k1, q0, q1, q2, q3, q4, q5⟩ := rgood q
      exact flt c hM (by omega) rhy z.toInt z rfl z.le_toInt z.toInt_le j0 (fun h3 x hx v1' v2' v3' => ⟨⟨x, rfl⟩, rfl, rfl, v1', ly_fr_tr fr2 (fun r i x _ e => v2' r i x rfl e), fun no => (no.elim (fun n => absurd ok n) (fun n => absurd n q)), fun _ _ => ⟨v2' _ _ _ rfl k1, by rw [hp_same (show ly_ths ly_TH 83 = some (.inl (.int, 300, -2147483648, 2147483647)) from rfl) rfl rhy v1' v2', q0, s0], by rw [hp_same (show ly_ths ly_TH 84 = some (.inl (.int, 300, -2147483648, 2147483647)) from rfl) rfl rhy v1' v2', q1, s1], by rw [hp_same (show ly_ths ly_TH 85 = some (.inl (.int, 300, -2147483648, 2147483647)) from rfl) rfl rhy v1' v2', q2, s2], by rw [hp_same (show ly_ths ly_TH 86 = some (.inl (.int, 300, -2147483648, 2147483647)) from rfl) rfl rhy v1' v2', q3, s3], by rw [hp_same (show ly_ths ly_TH 87 = some (.inl (.int, 300, -2147483648, 2147483647)) from rfl) rfl rhy v1' v2', q4, s4], by rw [hp_same (show ly_ths ly_TH 88 = some (.inl (.int, 300, -2147483648, 2147483647)) from rfl) rfl rhy v1' v2', q5, s5]⟩⟩)
  obtain ⟨n, r, hgo, r1, r2, r3, r4⟩ := go
  simp only [Nat.zero_add] at r2 r3
  exact ⟨r, Or.inr ⟨M, n, hM, hl, hgo⟩, r1, r2, r3, r4⟩
theorem fd_run {cst : am_K} {strs : List Nat} {D : Nat} {h : am_H} (c1 : hp_C cst strs D) (c : hp_C cst strs (D + 1)) (hD : (3 : Int) ≤ (D : Int) + 1) (hy : ly_hy m_tt ly_TH h) {xp xy : Int32} {v u g : Int} (v0 : 0 ≤ v) (v1 : v ≤ 300) (kv : ly_hv cst h 19982 0 = some v) (u0 : 0 ≤ u) (u1 : u ≤ 120) (ku : ly_hv cst h 19978 0 = some u) (g0 : 0 ≤ g) (g1 : g ≤ 399) (kg : ly_hv cst h 19977 0 = some g) :
    ∃ r, am_Run cst m_cl m_tt m_P strs sx_bi (D + 1 + 1) 279 [.ref 94, .int xp, .int xy] h r ∧ (te_Φ cst h [19982, 21248, 21504, 21760, 22016, 22272, 22528] (fun h2 => (te_M cst h h2 (te_ok2 xp.toInt xy.toInt u) v 1 xp.toInt (-1) 0 xy.toInt g))) r := by
  obtain ⟨M, hM, hl⟩ := hp_M (mi := 279) (k := 3) (by decide +kernel)
  have a0 := xp.le_toInt
  have a1 := xp.toInt_le
  have b0 := xy.le_toInt
  have b1 := xy.toInt_le
  have go : hp_F cst strs (te_Φ cst h [19982, 21248, 21504, 21760, 22016, 22272, 22528] (fun h2 => (te_M cst h h2 (te_ok2 xp.toInt xy.toInt u) v 1 xp.toInt (-1) 0 xy.toInt g))) (D + 1) M 0 (lv_args 0 [.ref 94, .int xp, .int xy]) [] h := by
    have no : ¬ (te_ok2 xp.toInt xy.toInt u) → ∀ (h2 : am_H) (w : Int32), w.toInt = -2 → ly_hy m_tt ly_TH h2 → ly_fr cst [] h h2 → h.length ≤ h2.length → (te_Φ cst h [19982, 21248, 21504, 21760, 22016, 22272, 22528] (fun h2 => (te_M cst h h2 (te_ok2 xp.toInt xy.toInt u) v 1 xp.toInt (-1) 0 xy.toInt g))) (some (.int w), h2, 0, 0) := fun nk h2 w hw w1 w2 w3 => ⟨⟨w, rfl⟩, rfl, rfl, w1, (fun r i x _ e => w2 r i x rfl e), fun _ => ⟨w2 _ _ _ rfl kv, hp_same (show ly_ths ly_TH 83 = some (.inl (.int, 300, -2147483648, 2147483647)) from rfl) rfl hy w1 w2, hp_same (show ly_ths ly_TH 84 = some (.inl (.int, 300, -2147483648, 2147483647)) from rfl) rfl hy w1 w2, hp_same (show ly_ths ly_TH 85 = some (.inl (.int, 300, -2147483648, 2147483647)) from rfl) rfl hy w1 w2, hp_same (show ly_ths ly_TH 86 = some (.inl (.int, 300, -2147483648, 2147483647)) from rfl) rfl hy w1 w2, hp_same (show ly_ths ly_TH 87 = some (.inl (.int, 300, -2147483648, 2147483647)) from rfl) rfl hy w1 w2, hp_same (show ly_ths ly_TH 88 = some (.inl (.int, 300, -2147483648, 2147483647)) from rfl) rfl hy w1 w2⟩, fun ok => absurd ok nk⟩
    by_cases p1 : xp.toInt ≤ -1
    · exact fdg0 c hM (by omega) hy xp.toInt xy.toInt u a0 p1 b0 b1 u0 u1 ku rfl ⟨xp, rfl, rfl⟩ ⟨xy, rfl, rfl⟩ (no (fun k => by have := k.1; omega))
    by_cases p2 : u ≤ xp.toInt
    · exact fdg1 c hM (by omega) hy xp.toInt xy.toInt u (by omega) a1 b0 b1 u0 u1 (by omega) ku rfl ⟨xp, rfl, rfl⟩ ⟨xy, rfl, rfl⟩ (no (fun k => by have := k.2.1; omega))
    by_cases p3 : xy.toInt ≤ -1
    · exact fdg2 c hM (by omega) hy xp.toInt xy.toInt u (by omega) (by omega) b0 p3 u0 u1 (by omega) ku rfl ⟨xp, rfl, rfl⟩ ⟨xy, rfl, rfl⟩ (no (fun k => by have := k.2.2.1; omega))
    by_cases p4 : 400 ≤ xy.toInt
    · exact fdg3 c hM (by omega) hy xp.toInt xy.toInt u (by omega) (by omega) p4 b1 u0 u1 (by omega) ku rfl ⟨xp, rfl, rfl⟩ ⟨xy, rfl, rfl⟩ (no (fun k => by have := k.2.2.2; omega))
    have ok : (te_ok2 xp.toInt xy.toInt u) := ⟨by omega, by omega, by omega, by omega⟩
    refine fdc c hM (by omega) hy xp.toInt xy.toInt u (by omega) (by omega) (by omega) (by omega) u0 u1 (by omega) ku rfl ⟨xp, rfl, rfl⟩ ⟨xy, rfl, rfl⟩ (fun l2 h1 y0 y1 y2 y3 y4 f0 f1 f2 f3 f4 w1 w2 w3 j0 => ?_)
    obtain ⟨r, hrun, z, r1, r2, r3, rhy, rfr, rfull, rgood⟩ := mt_run (xa := y4) (xb := y3) (xo := y2) (xd := y1) (xe := y0) c1 (by omega) w1 v0 v1 (w2 _ _ _ rfl kv) g0 g1 (w2 _ _ _ rfl kg)
    refine hp_call (mi := 279) (pc := 21) (tg := 278) (na := 6) (c := 78) (ci := 12) (st0 := [.int y0, .int y1, .int y2, .int y3, .int y4, .ref 94]) (st := []) (av := [.int y4, .int y3, .int y2, .int y1, .int y0]) hM (by decide +kernel) w1 rfl rfl rfl (by decide) hrun r2 r3 ?_
    rw [r1]
    rw [f0, f1, f2, f3, f4] at rgood
    have s0 : ly_hv cst h1 21248 = ly_hv cst h 21248 := hp_same (show ly_ths ly_TH 83 = some (.inl (.int, 300, -2147483648, 2147483647)) from rfl) rfl hy w1 w2
    have s1 : ly_hv cst h1 21504 = ly_hv cst h 21504 := hp_same (show ly_ths ly_TH 84 = some (.inl (.int, 300, -2147483648, 2147483647)) from rfl) rfl hy w1 w2
    have s2 : ly_hv cst h1 21760 = ly_hv cst h 21760 := hp_same (show ly_ths ly_TH 85 = some (.inl (.int, 300, -2147483648, 2147483647)) from rfl) rfl hy w1 w2
    have s3 : ly_hv cst h1 22016 = ly_hv cst h 22016 := hp_same (show ly_ths ly_TH 86 = some (.inl (.int, 300, -2147483648, 2147483647)) from rfl) rfl hy w1 w2
    have s4 : ly_hv cst h1 22272 = ly_hv cst h 22272 := hp_same (show ly_ths ly_TH 87 = some (.inl (.int, 300, -2147483648, 2147483647)) from rfl) rfl hy w1 w2
    have s5 : ly_hv cst h1 22528 = ly_hv cst h 22528 := hp_same (show ly_ths ly_TH 88 = some (.inl (.int, 300, -2147483648, 2147483647)) from rfl) rfl hy w1 w2
    have fr2 : ly_fr cst [19982, 21248, 21504, 21760, 22016, 22272, 22528] h r.2.1 := ly_fr_tr (fun r i x _ e => w2 r i x rfl e) rfr
    by_cases q : v = 300
    · obtain ⟨hz, k1, q0, q1, q2, q3, q4, q5⟩ := rfull q
      rw [← q] at k1
      exact fdt c hM (by omega) rhy z.toInt z rfl z.le_toInt z.toInt_le j0 (fun h3 x hx v1' v2' v3' => ⟨⟨x, rfl⟩, rfl, rfl, v1', ly_fr_tr fr2 (fun r i x _ e => v2' r i x rfl e), fun _ => ⟨v2' _ _ _ rfl k1, by rw [hp_same (show ly_ths ly_TH 83 = some (.inl (.int, 300, -2147483648, 2147483647)) from rfl) rfl rhy v1' v2', q0, s0], by rw [hp_same (show ly_ths ly_TH 84 = some (.inl (.int, 300, -2147483648, 2147483647)) from rfl) rfl rhy v1' v2', q1, s1], by rw [hp_same (show ly_ths ly_TH 85 = some (.inl (.int, 300, -2147483648, 2147483647)) from rfl) rfl rhy v1' v2', q2, s2], by rw [hp_same (show ly_ths ly_TH 86 = some (.inl (.int, 300, -2147483648, 2147483647)) from rfl) rfl rhy v1' v2', q3, s3], by rw [hp_same (show ly_ths ly_TH 87 = some (.inl (.int, 300, -2147483648, 2147483647)) from rfl) rfl rhy v1' v2', q4, s4], by rw [hp_same (show ly_ths ly_TH 88 = some (.inl (.int, 300, -2147483648, 2147483647)) from rfl) rfl rhy v1' v2', q5, s5]⟩, fun _ ne => absurd q ne⟩)
    · obtain ⟨hz, k1, q0, q1, q2, q3, q4, q5⟩ := rgood q
      exact fdt c hM (by omega) rhy z.toInt z rfl z.le_toInt z.toInt_le j0 (fun h3 x hx v1' v2' v3' => ⟨⟨x, rfl⟩, rfl, rfl, v1', ly_fr_tr fr2 (fun r i x _ e => v2' r i x rfl e), fun no => (no.elim (fun n => absurd ok n) (fun n => absurd n q)), fun _ _ => ⟨v2' _ _ _ rfl k1, by rw [hp_same (show ly_ths ly_TH 83 = some (.inl (.int, 300, -2147483648, 2147483647)) from rfl) rfl rhy v1' v2', q0, s0], by rw [hp_same (show ly_ths ly_TH 84 = some (.inl (.int, 300, -2147483648, 2147483647)) from rfl) rfl rhy v1' v2', q1, s1], by rw [hp_same (show ly_ths ly_TH 85 = some (.inl (.int, 300, -2147483648, 2147483647)) from rfl) rfl rhy v1' v2', q2, s2], by rw [hp_same (show ly_ths ly_TH 86 = some (.inl (.int, 300, -2147483648, 2147483647)) from rfl) rfl rhy v1' v2', q3, s3], by rw [hp_same (show ly_ths ly_TH 87 = some (.inl (.int, 300, -2147483648, 2147483647)) from rfl) rfl rhy v1' v2', q4, s4], by rw [hp_same (show ly_ths ly_TH 88 = some (.inl (.int, 300, -2147483648, 2147483647)) from rfl) rfl rhy v1' v2', q5, s5]⟩⟩)
  obtain ⟨n, r, hgo, r1, r2, r3, r4⟩ := go
  simp only [Nat.zero_add] at r2 r3
  exact ⟨r, Or.inr ⟨M, n, hM, hl, hgo⟩, r1, r2, r3, r4⟩
