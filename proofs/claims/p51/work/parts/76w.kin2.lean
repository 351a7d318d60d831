/-! PRINTED by wip/p2/hp_kin2.py: kin, what it leaves of the tellings -/
theorem ek0_k : hp_chk 42 0 4 [(0, (-2147483648), (-1)), (1, (-2147483648), 2147483647), (2, (-2147483648), 2147483647), (3, 0, 120)] [] [(0, .inr (.inr (.inl (some 16)))), (1, .inl (0, [(0, 1)])), (2, .inl (0, [(1, 1)])), (3, .inl (0, [(2, 1)]))] [] [(1536, (0, []), (0, [(3, 1)]))] [] 4 [] [([], 4, [(0, (-2147483648), (-1)), (1, (-2147483648), 2147483647), (2, (-2147483648), 2147483647), (3, 0, 120)], [], [], [.inl ((-2), [])], [])] = true := by decide +kernel
theorem ek0 {cst : am_K} {strs : List Nat} {Φ : am_Q → Prop} {D : Nat} {M : am_M} {h : am_H} {l : am_L} (c : hp_C cst strs D) (hM : m_P[42]? = some M) (hD : (4 : Int) ≤ (D : Int) + 1) (hy : ly_hy m_tt ly_TH h) (p q d u : Int) (b0 : (-2147483648) ≤ p) (t0 : p ≤ (-1)) (b1 : (-2147483648) ≤ q) (t1 : q ≤ 2147483647) (b2 : (-2147483648) ≤ d) (t2 : d ≤ 2147483647) (b3 : 0 ≤ u) (t3 : u ≤ 120) (k0 : ly_hv cst h 1536 0 = some (u)) (l0 : hp_a l 0 16) (l1 : hp_i l 1 (p)) (l2 : hp_i l 2 (q)) (l3 : hp_i l 3 (d)) (r0 : ∀ (h' : am_H) (y0 : Int32), y0.toInt = (-2) → ly_hy m_tt ly_TH h' → ly_fr cst [] h h' → h.length ≤ h'.length → Φ (some (.int y0), h', 0, 0)) : hp_F cst strs Φ D M 0 l [] h := by
  refine hp_arc c hM ek0_k hD [p, q, d, u] rfl hy (hp_Bc (z := p) rfl b0 t0 (hp_Bc (z := q) rfl b1 t1 (hp_Bc (z := d) rfl b2 t2 (hp_Bc (z := u) rfl b3 t3 hp_Bn)))) hp_Fn (hp_Kc (zi := (0 + 0)) (zv := (0 + (1 * u + 0))) k0 rfl rfl (by omega) (by omega) hp_Kn) (hp_La l0 (hp_Li (z := (0 + (1 * p + 0))) l1 rfl (by omega) (hp_Li (z := (0 + (1 * q + 0))) l2 rfl (by omega) (hp_Li (z := (0 + (1 * d + 0))) l3 rfl (by omega) hp_Ln)))) trivial ?_ ?_
  · intro p hp ys l' st' h' hys a1 a2 a3 gZ gL gS
    cases hp
  · intro p hp ys v h' hys a1 a2 a3 gZ gS
    rcases List.mem_cons.mp hp with rfl | hp
    · obtain rfl := hp_y0 hys
      cases v with
      | none => cases gS
      | some w =>
        obtain ⟨y0, t0, s0, q0, -⟩ := hp_gSi (z := ((-2) + 0)) gS rfl
        cases s0
        exact r0 h' y0 (by omega) a1 a2 a3
    cases hp
theorem ek1_k : hp_chk 42 0 4 [(0, 0, 2147483647), (1, (-2147483648), 2147483647), (2, (-2147483648), 2147483647), (3, 0, 120)] [(0, [(0, 1), (3, (-1))])] [(0, .inr (.inr (.inl (some 16)))), (1, .inl (0, [(0, 1)])), (2, .inl (0, [(1, 1)])), (3, .inl (0, [(2, 1)]))] [] [(1536, (0, []), (0, [(3, 1)]))] [] 4 [] [([], 4, [(0, 0, 2147483647), (1, (-2147483648), 2147483647), (2, (-2147483648), 2147483647), (3, 0, 120)], [], [], [.inl ((-2), [])], [])] = true := by decide +kernel
theorem ek1 {cst : am_K} {strs : List Nat} {Φ : am_Q → Prop} {D : Nat} {M : am_M} {h : am_H} {l : am_L} (c : hp_C cst strs D) (hM : m_P[42]? = some M) (hD : (4 : Int) ≤ (D : Int) + 1) (hy : ly_hy m_tt ly_TH h) (p q d u : Int) (b0 : 0 ≤ p) (t0 : p ≤ 2147483647) (b1 : (-2147483648) ≤ q) (t1 : q ≤ 2147483647) (b2 : (-2147483648) ≤ d) (t2 : d ≤ 2147483647) (b3 : 0 ≤ u) (t3 : u ≤ 120) (f0 : 0 ≤ (p - u)) (k0 : ly_hv cst h 1536 0 = some (u)) (l0 : hp_a l 0 16) (l1 : hp_i l 1 (p)) (l2 : hp_i l 2 (q)) (l3 : hp_i l 3 (d)) (r0 : ∀ (h' : am_H) (y0 : Int32), y0.toInt = (-2) → ly_hy m_tt ly_TH h' → ly_fr cst [] h h' → h.length ≤ h'.length → Φ (some (.int y0), h', 0, 0)) : hp_F cst strs Φ D M 0 l [] h := by
  refine hp_arc c hM ek1_k hD [p, q, d, u] rfl hy (hp_Bc (z := p) rfl b0 t0 (hp_Bc (z := q) rfl b1 t1 (hp_Bc (z := d) rfl b2 t2 (hp_Bc (z := u) rfl b3 t3 hp_Bn)))) (hp_Fc (z := (0 + (1 * p + ((-1) * u + 0)))) rfl (by omega) hp_Fn) (hp_Kc (zi := (0 + 0)) (zv := (0 + (1 * u + 0))) k0 rfl rfl (by omega) (by omega) hp_Kn) (hp_La l0 (hp_Li (z := (0 + (1 * p + 0))) l1 rfl (by omega) (hp_Li (z := (0 + (1 * q + 0))) l2 rfl (by omega) (hp_Li (z := (0 + (1 * d + 0))) l3 rfl (by omega) hp_Ln)))) trivial ?_ ?_
  · intro p hp ys l' st' h' hys a1 a2 a3 gZ gL gS
    cases hp
  · intro p hp ys v h' hys a1 a2 a3 gZ gS
    rcases List.mem_cons.mp hp with rfl | hp
    · obtain rfl := hp_y0 hys
      cases v with
      | none => cases gS
      | some w =>
        obtain ⟨y0, t0, s0, q0, -⟩ := hp_gSi (z := ((-2) + 0)) gS rfl
        cases s0
        exact r0 h' y0 (by omega) a1 a2 a3
    cases hp
theorem ek2_k : hp_chk 42 0 4 [(0, 0, 119), (1, (-2147483648), (-1)), (2, (-2147483648), 2147483647), (3, 0, 120)] [((-1), [(0, (-1)), (3, 1)])] [(0, .inr (.inr (.inl (some 16)))), (1, .inl (0, [(0, 1)])), (2, .inl (0, [(1, 1)])), (3, .inl (0, [(2, 1)]))] [] [(1536, (0, []), (0, [(3, 1)]))] [] 4 [] [([], 4, [(0, 0, 119), (1, (-2147483648), (-1)), (2, (-2147483648), 2147483647), (3, 0, 120)], [], [], [.inl ((-2), [])], [])] = true := by decide +kernel
theorem ek2 {cst : am_K} {strs : List Nat} {Φ : am_Q → Prop} {D : Nat} {M : am_M} {h : am_H} {l : am_L} (c : hp_C cst strs D) (hM : m_P[42]? = some M) (hD : (4 : Int) ≤ (D : Int) + 1) (hy : ly_hy m_tt ly_TH h) (p q d u : Int) (b0 : 0 ≤ p) (t0 : p ≤ 119) (b1 : (-2147483648) ≤ q) (t1 : q ≤ (-1)) (b2 : (-2147483648) ≤ d) (t2 : d ≤ 2147483647) (b3 : 0 ≤ u) (t3 : u ≤ 120) (f0 : 0 ≤ (u - p - 1)) (k0 : ly_hv cst h 1536 0 = some (u)) (l0 : hp_a l 0 16) (l1 : hp_i l 1 (p)) (l2 : hp_i l 2 (q)) (l3 : hp_i l 3 (d)) (r0 : ∀ (h' : am_H) (y0 : Int32), y0.toInt = (-2) → ly_hy m_tt ly_TH h' → ly_fr cst [] h h' → h.length ≤ h'.length → Φ (some (.int y0), h', 0, 0)) : hp_F cst strs Φ D M 0 l [] h := by
  refine hp_arc c hM ek2_k hD [p, q, d, u] rfl hy (hp_Bc (z := p) rfl b0 t0 (hp_Bc (z := q) rfl b1 t1 (hp_Bc (z := d) rfl b2 t2 (hp_Bc (z := u) rfl b3 t3 hp_Bn)))) (hp_Fc (z := ((-1) + ((-1) * p + (1 * u + 0)))) rfl (by omega) hp_Fn) (hp_Kc (zi := (0 + 0)) (zv := (0 + (1 * u + 0))) k0 rfl rfl (by omega) (by omega) hp_Kn) (hp_La l0 (hp_Li (z := (0 + (1 * p + 0))) l1 rfl (by omega) (hp_Li (z := (0 + (1 * q + 0))) l2 rfl (by omega) (hp_Li (z := (0 + (1 * d + 0))) l3 rfl (by omega) hp_Ln)))) trivial ?_ ?_
  · intro p hp ys l' st' h' hys a1 a2 a3 gZ gL gS
    cases hp
  · intro p hp ys v h' hys a1 a2 a3 gZ gS
    rcases List.mem_cons.mp hp with rfl | hp
    · obtain rfl := hp_y0 hys
      cases v with
      | none => cases gS
      | some w =>
        obtain ⟨y0, t0, s0, q0, -⟩ := hp_gSi (z := ((-2) + 0)) gS rfl
        cases s0
        exact r0 h' y0 (by omega) a1 a2 a3
    cases hp
theorem ek3_k : hp_chk 42 0 4 [(0, 0, 119), (1, 0, 2147483647), (2, (-2147483648), 2147483647), (3, 0, 120)] [((-1), [(0, (-1)), (3, 1)]), (0, [(1, 1), (3, (-1))])] [(0, .inr (.inr (.inl (some 16)))), (1, .inl (0, [(0, 1)])), (2, .inl (0, [(1, 1)])), (3, .inl (0, [(2, 1)]))] [] [(1536, (0, []), (0, [(3, 1)]))] [] 4 [] [([], 4, [(0, 0, 119), (1, 0, 2147483647), (2, (-2147483648), 2147483647), (3, 0, 120)], [], [], [.inl ((-2), [])], [])] = true := by decide +kernel
theorem ek3 {cst : am_K} {strs : List Nat} {Φ : am_Q → Prop} {D : Nat} {M : am_M} {h : am_H} {l : am_L} (c : hp_C cst strs D) (hM : m_P[42]? = some M) (hD : (4 : Int) ≤ (D : Int) + 1) (hy : ly_hy m_tt ly_TH h) (p q d u : Int) (b0 : 0 ≤ p) (t0 : p ≤ 119) (b1 : 0 ≤ q) (t1 : q ≤ 2147483647) (b2 : (-2147483648) ≤ d) (t2 : d ≤ 2147483647) (b3 : 0 ≤ u) (t3 : u ≤ 120) (f0 : 0 ≤ (u - p - 1)) (f1 : 0 ≤ (q - u)) (k0 : ly_hv cst h 1536 0 = some (u)) (l0 : hp_a l 0 16) (l1 : hp_i l 1 (p)) (l2 : hp_i l 2 (q)) (l3 : hp_i l 3 (d)) (r0 : ∀ (h' : am_H) (y0 : Int32), y0.toInt = (-2) → ly_hy m_tt ly_TH h' → ly_fr cst [] h h' → h.length ≤ h'.length → Φ (some (.int y0), h', 0, 0)) : hp_F cst strs Φ D M 0 l [] h := by
  refine hp_arc c hM ek3_k hD [p, q, d, u] rfl hy (hp_Bc (z := p) rfl b0 t0 (hp_Bc (z := q) rfl b1 t1 (hp_Bc (z := d) rfl b2 t2 (hp_Bc (z := u) rfl b3 t3 hp_Bn)))) (hp_Fc (z := ((-1) + ((-1) * p + (1 * u + 0)))) rfl (by omega) (hp_Fc (z := (0 + (1 * q + ((-1) * u + 0)))) rfl (by omega) hp_Fn)) (hp_Kc (zi := (0 + 0)) (zv := (0 + (1 * u + 0))) k0 rfl rfl (by omega) (by omega) hp_Kn) (hp_La l0 (hp_Li (z := (0 + (1 * p + 0))) l1 rfl (by omega) (hp_Li (z := (0 + (1 * q + 0))) l2 rfl (by omega) (hp_Li (z := (0 + (1 * d + 0))) l3 rfl (by omega) hp_Ln)))) trivial ?_ ?_
  · intro p hp ys l' st' h' hys a1 a2 a3 gZ gL gS
    cases hp
  · intro p hp ys v h' hys a1 a2 a3 gZ gS
    rcases List.mem_cons.mp hp with rfl | hp
    · obtain rfl := hp_y0 hys
      cases v with
      | none => cases gS
      | some w =>
        obtain ⟨y0, t0, s0, q0, -⟩ := hp_gSi (z := ((-2) + 0)) gS rfl
        cases s0
        exact r0 h' y0 (by omega) a1 a2 a3
    cases hp
theorem ek4_k : hp_chk 42 0 3 [(0, 0, 119), (1, (-2147483648), 2147483647), (2, 0, 120)] [((-1), [(0, (-1)), (2, 1)])] [(0, .inr (.inr (.inl (some 16)))), (1, .inl (0, [(0, 1)])), (2, .inl (0, [(0, 1)])), (3, .inl (0, [(1, 1)]))] [] [(1536, (0, []), (0, [(2, 1)]))] [] 4 [] [([], 3, [(0, 0, 119), (1, (-2147483648), 2147483647), (2, 0, 120)], [], [], [.inl ((-2), [])], [])] = true := by decide +kernel
theorem ek4 {cst : am_K} {strs : List Nat} {Φ : am_Q → Prop} {D : Nat} {M : am_M} {h : am_H} {l : am_L} (c : hp_C cst strs D) (hM : m_P[42]? = some M) (hD : (4 : Int) ≤ (D : Int) + 1) (hy : ly_hy m_tt ly_TH h) (p d u : Int) (b0 : 0 ≤ p) (t0 : p ≤ 119) (b1 : (-2147483648) ≤ d) (t1 : d ≤ 2147483647) (b2 : 0 ≤ u) (t2 : u ≤ 120) (f0 : 0 ≤ (u - p - 1)) (k0 : ly_hv cst h 1536 0 = some (u)) (l0 : hp_a l 0 16) (l1 : hp_i l 1 (p)) (l2 : hp_i l 2 (p)) (l3 : hp_i l 3 (d)) (r0 : ∀ (h' : am_H) (y0 : Int32), y0.toInt = (-2) → ly_hy m_tt ly_TH h' → ly_fr cst [] h h' → h.length ≤ h'.length → Φ (some (.int y0), h', 0, 0)) : hp_F cst strs Φ D M 0 l [] h := by
  refine hp_arc c hM ek4_k hD [p, d, u] rfl hy (hp_Bc (z := p) rfl b0 t0 (hp_Bc (z := d) rfl b1 t1 (hp_Bc (z := u) rfl b2 t2 hp_Bn))) (hp_Fc (z := ((-1) + ((-1) * p + (1 * u + 0)))) rfl (by omega) hp_Fn) (hp_Kc (zi := (0 + 0)) (zv := (0 + (1 * u + 0))) k0 rfl rfl (by omega) (by omega) hp_Kn) (hp_La l0 (hp_Li (z := (0 + (1 * p + 0))) l1 rfl (by omega) (hp_Li (z := (0 + (1 * p + 0))) l2 rfl (by omega) (hp_Li (z := (0 + (1 * d + 0))) l3 rfl (by omega) hp_Ln)))) trivial ?_ ?_
  · intro p hp ys l' st' h' hys a1 a2 a3 gZ gL gS
    cases hp
  · intro p hp ys v h' hys a1 a2 a3 gZ gS
    rcases List.mem_cons.mp hp with rfl | hp
    · obtain rfl := hp_y0 hys
      cases v with
      | none => cases gS
      | some w =>
        obtain ⟨y0, t0, s0, q0, -⟩ := hp_gSi (z := ((-2) + 0)) gS rfl
        cases s0
        exact r0 h' y0 (by omega) a1 a2 a3
    cases hp
theorem ek5_k : hp_chk 42 0 4 [(0, 0, 119), (1, 0, 119), (2, (-2147483648), (-1)), (3, 0, 120)] [((-1), [(0, (-1)), (3, 1)]), ((-1), [(1, (-1)), (3, 1)])] [(0, .inr (.inr (.inl (some 16)))), (1, .inl (0, [(0, 1)])), (2, .inl (0, [(1, 1)])), (3, .inl (0, [(2, 1)]))] [] [(1536, (0, []), (0, [(3, 1)])), (61000, (0, [(0, 1), (1, (-1))]), (1, []))] [] 4 [] [([], 4, [(0, 0, 119), (1, 0, 119), (2, (-2147483648), (-1)), (3, 0, 120)], [], [], [.inl ((-2), [])], [])] = true := by decide +kernel
theorem ek5 {cst : am_K} {strs : List Nat} {Φ : am_Q → Prop} {D : Nat} {M : am_M} {h : am_H} {l : am_L} (c : hp_C cst strs D) (hM : m_P[42]? = some M) (hD : (4 : Int) ≤ (D : Int) + 1) (hy : ly_hy m_tt ly_TH h) (p q d u : Int) (b0 : 0 ≤ p) (t0 : p ≤ 119) (b1 : 0 ≤ q) (t1 : q ≤ 119) (b2 : (-2147483648) ≤ d) (t2 : d ≤ (-1)) (b3 : 0 ≤ u) (t3 : u ≤ 120) (f0 : 0 ≤ (u - p - 1)) (f1 : 0 ≤ (u - q - 1)) (k0 : ly_hv cst h 1536 0 = some (u)) (k1 : ly_hv cst h 61000 (p - q) = some 1) (l0 : hp_a l 0 16) (l1 : hp_i l 1 (p)) (l2 : hp_i l 2 (q)) (l3 : hp_i l 3 (d)) (r0 : ∀ (h' : am_H) (y0 : Int32), y0.toInt = (-2) → ly_hy m_tt ly_TH h' → ly_fr cst [] h h' → h.length ≤ h'.length → Φ (some (.int y0), h', 0, 0)) : hp_F cst strs Φ D M 0 l [] h := by
  refine hp_arc c hM ek5_k hD [p, q, d, u] rfl hy (hp_Bc (z := p) rfl b0 t0 (hp_Bc (z := q) rfl b1 t1 (hp_Bc (z := d) rfl b2 t2 (hp_Bc (z := u) rfl b3 t3 hp_Bn)))) (hp_Fc (z := ((-1) + ((-1) * p + (1 * u + 0)))) rfl (by omega) (hp_Fc (z := ((-1) + ((-1) * q + (1 * u + 0)))) rfl (by omega) hp_Fn)) (hp_Kc (zi := (0 + 0)) (zv := (0 + (1 * u + 0))) k0 rfl rfl (by omega) (by omega) (hp_Kc (zi := (0 + (1 * p + ((-1) * q + 0)))) (zv := (1 + 0)) k1 rfl rfl (by omega) (by omega) hp_Kn)) (hp_La l0 (hp_Li (z := (0 + (1 * p + 0))) l1 rfl (by omega) (hp_Li (z := (0 + (1 * q + 0))) l2 rfl (by omega) (hp_Li (z := (0 + (1 * d + 0))) l3 rfl (by omega) hp_Ln)))) trivial ?_ ?_
  · intro p hp ys l' st' h' hys a1 a2 a3 gZ gL gS
    cases hp
  · intro p hp ys v h' hys a1 a2 a3 gZ gS
    rcases List.mem_cons.mp hp with rfl | hp
    · obtain rfl := hp_y0 hys
      cases v with
      | none => cases gS
      | some w =>
        obtain ⟨y0, t0, s0, q0, -⟩ := hp_gSi (z := ((-2) + 0)) gS rfl
        cases s0
        exact r0 h' y0 (by omega) a1 a2 a3
    cases hp
theorem ek6_k : hp_chk 42 0 4 [(0, 0, 119), (1, 0, 119), (2, 5, 2147483647), (3, 0, 120)] [((-1), [(0, (-1)), (3, 1)]), ((-1), [(1, (-1)), (3, 1)])] [(0, .inr (.inr (.inl (some 16)))), (1, .inl (0, [(0, 1)])), (2, .inl (0, [(1, 1)])), (3, .inl (0, [(2, 1)]))] [] [(1536, (0, []), (0, [(3, 1)])), (61000, (0, [(0, 1), (1, (-1))]), (1, []))] [] 4 [] [([], 4, [(0, 0, 119), (1, 0, 119), (2, 5, 2147483647), (3, 0, 120)], [], [], [.inl ((-2), [])], [])] = true := by decide +kernel
theorem ek6 {cst : am_K} {strs : List Nat} {Φ : am_Q → Prop} {D : Nat} {M : am_M} {h : am_H} {l : am_L} (c : hp_C cst strs D) (hM : m_P[42]? = some M) (hD : (4 : Int) ≤ (D : Int) + 1) (hy : ly_hy m_tt ly_TH h) (p q d u : Int) (b0 : 0 ≤ p) (t0 : p ≤ 119) (b1 : 0 ≤ q) (t1 : q ≤ 119) (b2 : 5 ≤ d) (t2 : d ≤ 2147483647) (b3 : 0 ≤ u) (t3 : u ≤ 120) (f0 : 0 ≤ (u - p - 1)) (f1 : 0 ≤ (u - q - 1)) (k0 : ly_hv cst h 1536 0 = some (u)) (k1 : ly_hv cst h 61000 (p - q) = some 1) (l0 : hp_a l 0 16) (l1 : hp_i l 1 (p)) (l2 : hp_i l 2 (q)) (l3 : hp_i l 3 (d)) (r0 : ∀ (h' : am_H) (y0 : Int32), y0.toInt = (-2) → ly_hy m_tt ly_TH h' → ly_fr cst [] h h' → h.length ≤ h'.length → Φ (some (.int y0), h', 0, 0)) : hp_F cst strs Φ D M 0 l [] h := by
  refine hp_arc c hM ek6_k hD [p, q, d, u] rfl hy (hp_Bc (z := p) rfl b0 t0 (hp_Bc (z := q) rfl b1 t1 (hp_Bc (z := d) rfl b2 t2 (hp_Bc (z := u) rfl b3 t3 hp_Bn)))) (hp_Fc (z := ((-1) + ((-1) * p + (1 * u + 0)))) rfl (by omega) (hp_Fc (z := ((-1) + ((-1) * q + (1 * u + 0)))) rfl (by omega) hp_Fn)) (hp_Kc (zi := (0 + 0)) (zv := (0 + (1 * u + 0))) k0 rfl rfl (by omega) (by omega) (hp_Kc (zi := (0 + (1 * p + ((-1) * q + 0)))) (zv := (1 + 0)) k1 rfl rfl (by omega) (by omega) hp_Kn)) (hp_La l0 (hp_Li (z := (0 + (1 * p + 0))) l1 rfl (by omega) (hp_Li (z := (0 + (1 * q + 0))) l2 rfl (by omega) (hp_Li (z := (0 + (1 * d + 0))) l3 rfl (by omega) hp_Ln)))) trivial ?_ ?_
  · intro p hp ys l' st' h' hys a1 a2 a3 gZ gL gS
    cases hp
  · intro p hp ys v h' hys a1 a2 a3 gZ gS
    rcases List.mem_cons.mp hp with rfl | hp
    · obtain rfl := hp_y0 hys
      cases v with
      | none => cases gS
      | some w =>
        obtain ⟨y0, t0, s0, q0, -⟩ := hp_gSi (z := ((-2) + 0)) gS rfl
        cases s0
        exact r0 h' y0 (by omega) a1 a2 a3
    cases hp
theorem ek7_k : hp_chk 42 0 5 [(0, 0, 119), (1, 0, 119), (2, 0, 4), (3, 0, 120), (4, 0, 399)] [((-1), [(0, (-1)), (3, 1)]), ((-1), [(1, (-1)), (3, 1)]), ((-1), [(0, (-1)), (1, 1)])] [(0, .inr (.inr (.inl (some 16)))), (1, .inl (0, [(0, 1)])), (2, .inl (0, [(1, 1)])), (3, .inl (0, [(2, 1)]))] [] [(1536, (0, []), (0, [(3, 1)])), (10, (0, []), (0, [(4, 1)]))] [] 4 [(58, ([], 5, [(0, 0, 119), (1, 0, 119), (2, 0, 4), (3, 0, 120), (4, 0, 399)], [], [(0, .inr (.inr (.inl (some 16)))), (1, .inl (0, [(0, 1)])), (2, .inl (0, [(1, 1)])), (3, .inl (0, [(2, 1)]))], [.inl (0, [(4, 1)]), .inl (0, [(4, 1)]), .inl (0, [(2, 1)]), .inl (0, [(0, 120), (1, 1)]), .inl (2, []), .inr (.inr (.inl (some 22)))], [(10, (0, []), (0, [(4, 1)]))]))] [] = true := by decide +kernel
theorem ek7 {cst : am_K} {strs : List Nat} {Φ : am_Q → Prop} {D : Nat} {M : am_M} {h : am_H} {l : am_L} (c : hp_C cst strs D) (hM : m_P[42]? = some M) (hD : (4 : Int) ≤ (D : Int) + 1) (hy : ly_hy m_tt ly_TH h) (p q d u g : Int) (b0 : 0 ≤ p) (t0 : p ≤ 119) (b1 : 0 ≤ q) (t1 : q ≤ 119) (b2 : 0 ≤ d) (t2 : d ≤ 4) (b3 : 0 ≤ u) (t3 : u ≤ 120) (b4 : 0 ≤ g) (t4 : g ≤ 399) (f0 : 0 ≤ (u - p - 1)) (f1 : 0 ≤ (u - q - 1)) (f2 : 0 ≤ (q - p - 1)) (k0 : ly_hv cst h 1536 0 = some (u)) (k1 : ly_hv cst h 10 0 = some (g)) (l0 : hp_a l 0 16) (l1 : hp_i l 1 (p)) (l2 : hp_i l 2 (q)) (l3 : hp_i l 3 (d)) (e0 : ∀ (l' : am_L) (h' : am_H) (y0 : Int32) (y1 : Int32) (y2 : Int32) (y3 : Int32) (y4 : Int32), y0.toInt = (g) → y1.toInt = (g) → y2.toInt = (d) → y3.toInt = (120 * p + q) → y4.toInt = 2 → ly_hy m_tt ly_TH h' → ly_fr cst [] h h' → h.length ≤ h'.length → ly_hv cst h' 10 0 = some (g) → hp_a l' 0 16 → hp_i l' 1 (p) → hp_i l' 2 (q) → hp_i l' 3 (d) → hp_F cst strs Φ D M 58 l' [.int y0, .int y1, .int y2, .int y3, .int y4, .ref 22] h') : hp_F cst strs Φ D M 0 l [] h := by
  refine hp_arc c hM ek7_k hD [p, q, d, u, g] rfl hy (hp_Bc (z := p) rfl b0 t0 (hp_Bc (z := q) rfl b1 t1 (hp_Bc (z := d) rfl b2 t2 (hp_Bc (z := u) rfl b3 t3 (hp_Bc (z := g) rfl b4 t4 hp_Bn))))) (hp_Fc (z := ((-1) + ((-1) * p + (1 * u + 0)))) rfl (by omega) (hp_Fc (z := ((-1) + ((-1) * q + (1 * u + 0)))) rfl (by omega) (hp_Fc (z := ((-1) + ((-1) * p + (1 * q + 0)))) rfl (by omega) hp_Fn))) (hp_Kc (zi := (0 + 0)) (zv := (0 + (1 * u + 0))) k0 rfl rfl (by omega) (by omega) (hp_Kc (zi := (0 + 0)) (zv := (0 + (1 * g + 0))) k1 rfl rfl (by omega) (by omega) hp_Kn)) (hp_La l0 (hp_Li (z := (0 + (1 * p + 0))) l1 rfl (by omega) (hp_Li (z := (0 + (1 * q + 0))) l2 rfl (by omega) (hp_Li (z := (0 + (1 * d + 0))) l3 rfl (by omega) hp_Ln)))) trivial ?_ ?_
  · intro p hp ys l' st' h' hys a1 a2 a3 gZ gL gS
    rcases List.mem_cons.mp hp with rfl | hp
    · obtain rfl := hp_y0 hys
      obtain ⟨y0, t0, rfl, q0, g0⟩ := hp_gSi (z := (0 + (1 * g + 0))) gS rfl
      obtain ⟨y1, t1, rfl, q1, g1⟩ := hp_gSi (z := (0 + (1 * g + 0))) g0 rfl
      obtain ⟨y2, t2, rfl, q2, g2⟩ := hp_gSi (z := (0 + (1 * d + 0))) g1 rfl
      obtain ⟨y3, t3, rfl, q3, g3⟩ := hp_gSi (z := (0 + (120 * p + (1 * q + 0)))) g2 rfl
      obtain ⟨y4, t4, rfl, q4, g4⟩ := hp_gSi (z := (2 + 0)) g3 rfl
      obtain ⟨t5, rfl, g5⟩ := hp_gSa g4 (by decide)
      cases hp_gSn g5
      exact e0 l' h' y0 y1 y2 y3 y4 (by omega) (by omega) (by omega) (by omega) (by omega) a1 a2 a3 (hp_gK (zi := (0 + 0)) (zv := (0 + (1 * g + 0))) gZ.2.2.2 (List.mem_of_getElem? (i := 0) rfl) rfl rfl (by omega) (by omega)) (hp_gLa gL (List.mem_of_getElem? (i := 0) rfl) (by decide)) (hp_gLi (z := (0 + (1 * p + 0))) gL (List.mem_of_getElem? (i := 1) rfl) rfl (by omega)) (hp_gLi (z := (0 + (1 * q + 0))) gL (List.mem_of_getElem? (i := 2) rfl) rfl (by omega)) (hp_gLi (z := (0 + (1 * d + 0))) gL (List.mem_of_getElem? (i := 3) rfl) rfl (by omega))
    cases hp
  · intro p hp ys v h' hys a1 a2 a3 gZ gS
    cases hp
theorem ek8_k : hp_chk 42 0 5 [(0, 0, 119), (1, 0, 119), (2, 0, 4), (3, 0, 120), (4, 0, 399)] [((-1), [(0, (-1)), (3, 1)]), ((-1), [(1, (-1)), (3, 1)]), ((-1), [(0, 1), (1, (-1))])] [(0, .inr (.inr (.inl (some 16)))), (1, .inl (0, [(0, 1)])), (2, .inl (0, [(1, 1)])), (3, .inl (0, [(2, 1)]))] [] [(1536, (0, []), (0, [(3, 1)])), (10, (0, []), (0, [(4, 1)]))] [] 4 [(58, ([], 5, [(0, 0, 119), (1, 0, 119), (2, 0, 4), (3, 0, 120), (4, 0, 399)], [], [(0, .inr (.inr (.inl (some 16)))), (1, .inl (0, [(0, 1)])), (2, .inl (0, [(1, 1)])), (3, .inl (0, [(2, 1)]))], [.inl (0, [(4, 1)]), .inl (0, [(4, 1)]), .inl (0, [(2, 1)]), .inl (0, [(0, 1), (1, 120)]), .inl (2, []), .inr (.inr (.inl (some 22)))], [(10, (0, []), (0, [(4, 1)]))]))] [] = true := by decide +kernel
theorem ek8 {cst : am_K} {strs : List Nat} {Φ : am_Q → Prop} {D : Nat} {M : am_M} {h : am_H} {l : am_L} (c : hp_C cst strs D) (hM : m_P[42]? = some M) (hD : (4 : Int) ≤ (D : Int) + 1) (hy : ly_hy m_tt ly_TH h) (p q d u g : Int) (b0 : 0 ≤ p) (t0 : p ≤ 119) (b1 : 0 ≤ q) (t1 : q ≤ 119) (b2 : 0 ≤ d) (t2 : d ≤ 4) (b3 : 0 ≤ u) (t3 : u ≤ 120) (b4 : 0 ≤ g) (t4 : g ≤ 399) (f0 : 0 ≤ (u - p - 1)) (f1 : 0 ≤ (u - q - 1)) (f2 : 0 ≤ (p - q - 1)) (k0 : ly_hv cst h 1536 0 = some (u)) (k1 : ly_hv cst h 10 0 = some (g)) (l0 : hp_a l 0 16) (l1 : hp_i l 1 (p)) (l2 : hp_i l 2 (q)) (l3 : hp_i l 3 (d)) (e0 : ∀ (l' : am_L) (h' : am_H) (y0 : Int32) (y1 : Int32) (y2 : Int32) (y3 : Int32) (y4 : Int32), y0.toInt = (g) → y1.toInt = (g) → y2.toInt = (d) → y3.toInt = (120 * q + p) → y4.toInt = 2 → ly_hy m_tt ly_TH h' → ly_fr cst [] h h' → h.length ≤ h'.length → ly_hv cst h' 10 0 = some (g) → hp_a l' 0 16 → hp_i l' 1 (p) → hp_i l' 2 (q) → hp_i l' 3 (d) → hp_F cst strs Φ D M 58 l' [.int y0, .int y1, .int y2, .int y3, .int y4, .ref 22] h') : hp_F cst strs Φ D M 0 l [] h := by
  refine hp_arc c hM ek8_k hD [p, q, d, u, g] rfl hy (hp_Bc (z := p) rfl b0 t0 (hp_Bc (z := q) rfl b1 t1 (hp_Bc (z := d) rfl b2 t2 (hp_Bc (z := u) rfl b3 t3 (hp_Bc (z := g) rfl b4 t4 hp_Bn))))) (hp_Fc (z := ((-1) + ((-1) * p + (1 * u + 0)))) rfl (by omega) (hp_Fc (z := ((-1) + ((-1) * q + (1 * u + 0)))) rfl (by omega) (hp_Fc (z := ((-1) + (1 * p + ((-1) * q + 0)))) rfl (by omega) hp_Fn))) (hp_Kc (zi := (0 + 0)) (zv := (0 + (1 * u + 0))) k0 rfl rfl (by omega) (by omega) (hp_Kc (zi := (0 + 0)) (zv := (0 + (1 * g + 0))) k1 rfl rfl (by omega) (by omega) hp_Kn)) (hp_La l0 (hp_Li (z := (0 + (1 * p + 0))) l1 rfl (by omega) (hp_Li (z := (0 + (1 * q + 0))) l2 rfl (by omega) (hp_Li (z := (0 + (1 * d + 0))) l3 rfl (by omega) hp_Ln)))) trivial ?_ ?_
  · intro p hp ys l' st' h' hys a1 a2 a3 gZ gL gS
    rcases List.mem_cons.mp hp with rfl | hp
    · obtain rfl := hp_y0 hys
      obtain ⟨y0, t0, rfl, q0, g0⟩ := hp_gSi (z := (0 + (1 * g + 0))) gS rfl
      obtain ⟨y1, t1, rfl, q1, g1⟩ := hp_gSi (z := (0 + (1 * g + 0))) g0 rfl
      obtain ⟨y2, t2, rfl, q2, g2⟩ := hp_gSi (z := (0 + (1 * d + 0))) g1 rfl
      obtain ⟨y3, t3, rfl, q3, g3⟩ := hp_gSi (z := (0 + (1 * p + (120 * q + 0)))) g2 rfl
      obtain ⟨y4, t4, rfl, q4, g4⟩ := hp_gSi (z := (2 + 0)) g3 rfl
      obtain ⟨t5, rfl, g5⟩ := hp_gSa g4 (by decide)
      cases hp_gSn g5
      exact e0 l' h' y0 y1 y2 y3 y4 (by omega) (by omega) (by omega) (by omega) (by omega) a1 a2 a3 (hp_gK (zi := (0 + 0)) (zv := (0 + (1 * g + 0))) gZ.2.2.2 (List.mem_of_getElem? (i := 0) rfl) rfl rfl (by omega) (by omega)) (hp_gLa gL (List.mem_of_getElem? (i := 0) rfl) (by decide)) (hp_gLi (z := (0 + (1 * p + 0))) gL (List.mem_of_getElem? (i := 1) rfl) rfl (by omega)) (hp_gLi (z := (0 + (1 * q + 0))) gL (List.mem_of_getElem? (i := 2) rfl) rfl (by omega)) (hp_gLi (z := (0 + (1 * d + 0))) gL (List.mem_of_getElem? (i := 3) rfl) rfl (by omega))
    cases hp
  · intro p hp ys v h' hys a1 a2 a3 gZ gS
    cases hp
theorem ek9_k : hp_chk 42 61 3 [(0, 0, 119), (1, 0, 119), (2, 0, 4)] [] [(0, .inr (.inr (.inl (some 16)))), (1, .inl (0, [(0, 1)])), (2, .inl (0, [(1, 1)])), (3, .inl (0, [(2, 1)]))] [.inl (0, [])] [] [] 2 [] [([], 3, [(0, 0, 119), (1, 0, 119), (2, 0, 4)], [], [], [.inl ((-3), [])], [])] = true := by decide +kernel
theorem ek9 {cst : am_K} {strs : List Nat} {Φ : am_Q → Prop} {D : Nat} {M : am_M} {h : am_H} {l : am_L} (c : hp_C cst strs D) (hM : m_P[42]? = some M) (hD : (2 : Int) ≤ (D : Int) + 1) (hy : ly_hy m_tt ly_TH h) (p q d : Int) (x0 : Int32) (hx0 : x0.toInt = 0) (b0 : 0 ≤ p) (t0 : p ≤ 119) (b1 : 0 ≤ q) (t1 : q ≤ 119) (b2 : 0 ≤ d) (t2 : d ≤ 4) (l0 : hp_a l 0 16) (l1 : hp_i l 1 (p)) (l2 : hp_i l 2 (q)) (l3 : hp_i l 3 (d)) (r0 : ∀ (h' : am_H) (y0 : Int32), y0.toInt = (-3) → ly_hy m_tt ly_TH h' → ly_fr cst [] h h' → h.length ≤ h'.length → Φ (some (.int y0), h', 0, 0)) : hp_F cst strs Φ D M 61 l [.int x0] h := by
  refine hp_arc c hM ek9_k hD [p, q, d] rfl hy (hp_Bc (z := p) rfl b0 t0 (hp_Bc (z := q) rfl b1 t1 (hp_Bc (z := d) rfl b2 t2 hp_Bn))) hp_Fn hp_Kn (hp_La l0 (hp_Li (z := (0 + (1 * p + 0))) l1 rfl (by omega) (hp_Li (z := (0 + (1 * q + 0))) l2 rfl (by omega) (hp_Li (z := (0 + (1 * d + 0))) l3 rfl (by omega) hp_Ln)))) (hp_Si (z := (0 + 0)) rfl (by omega) trivial) ?_ ?_
  · intro p hp ys l' st' h' hys a1 a2 a3 gZ gL gS
    cases hp
  · intro p hp ys v h' hys a1 a2 a3 gZ gS
    rcases List.mem_cons.mp hp with rfl | hp
    · obtain rfl := hp_y0 hys
      cases v with
      | none => cases gS
      | some w =>
        obtain ⟨y0, t0, s0, q0, -⟩ := hp_gSi (z := ((-3) + 0)) gS rfl
        cases s0
        exact r0 h' y0 (by omega) a1 a2 a3
    cases hp
theorem eka_k : hp_chk 42 61 4 [(0, 0, 119), (1, 0, 119), (2, 0, 4), (3, 0, 399)] [] [(0, .inr (.inr (.inl (some 16)))), (1, .inl (0, [(0, 1)])), (2, .inl (0, [(1, 1)])), (3, .inl (0, [(2, 1)]))] [.inl (1, [])] [(10, (0, []), (0, [(3, 1)]))] [7171, 7182, 7680, 8704, 8960, 9216, 9472, 45319, 45320, 45321, 45323, 45324, 47106, 47107, 48642, 48643, 49410, 49411] 7 [] [([(1, 0, (0, []))], 5, [(0, 0, 119), (1, 0, 119), (2, 0, 4), (3, 0, 399), (4, (-2147483648), 2147483647)], [], [], [.inl (0, [(4, 1)])], [])] = true := by decide +kernel
theorem eka {cst : am_K} {strs : List Nat} {Φ : am_Q → Prop} {D : Nat} {M : am_M} {h : am_H} {l : am_L} (c : hp_C cst strs D) (hM : m_P[42]? = some M) (hD : (7 : Int) ≤ (D : Int) + 1) (hy : ly_hy m_tt ly_TH h) (p q d g : Int) (x0 : Int32) (hx0 : x0.toInt = 1) (b0 : 0 ≤ p) (t0 : p ≤ 119) (b1 : 0 ≤ q) (t1 : q ≤ 119) (b2 : 0 ≤ d) (t2 : d ≤ 4) (b3 : 0 ≤ g) (t3 : g ≤ 399) (k0 : ly_hv cst h 10 0 = some (g)) (l0 : hp_a l 0 16) (l1 : hp_i l 1 (p)) (l2 : hp_i l 2 (q)) (l3 : hp_i l 3 (d)) (r0 : ∀ (h' : am_H) (ww : Int) (y0 : Int32), y0.toInt = (ww) → ly_hy m_tt ly_TH h' → ly_fr cst [7171, 7182, 7680, 8704, 8960, 9216, 9472, 45319, 45320, 45321, 45323, 45324, 47106, 47107, 48642, 48643, 49410, 49411] h h' → h.length ≤ h'.length → (-2147483648) ≤ ww → ww ≤ 2147483647 → Φ (some (.int y0), h', 0, 0)) : hp_F cst strs Φ D M 61 l [.int x0] h := by
  refine hp_arc c hM eka_k hD [p, q, d, g] rfl hy (hp_Bc (z := p) rfl b0 t0 (hp_Bc (z := q) rfl b1 t1 (hp_Bc (z := d) rfl b2 t2 (hp_Bc (z := g) rfl b3 t3 hp_Bn)))) hp_Fn (hp_Kc (zi := (0 + 0)) (zv := (0 + (1 * g + 0))) k0 rfl rfl (by omega) (by omega) hp_Kn) (hp_La l0 (hp_Li (z := (0 + (1 * p + 0))) l1 rfl (by omega) (hp_Li (z := (0 + (1 * q + 0))) l2 rfl (by omega) (hp_Li (z := (0 + (1 * d + 0))) l3 rfl (by omega) hp_Ln)))) (hp_Si (z := (1 + 0)) rfl (by omega) trivial) ?_ ?_
  · intro p hp ys l' st' h' hys a1 a2 a3 gZ gL gS
    cases hp
  · intro p hp ys v h' hys a1 a2 a3 gZ gS
    rcases List.mem_cons.mp hp with rfl | hp
    · obtain ⟨ww, rfl⟩ := hp_y1 hys
      cases v with
      | none => cases gS
      | some w =>
        obtain ⟨y0, t0, s0, q0, -⟩ := hp_gSi (z := (0 + (1 * ww + 0))) gS rfl
        cases s0
        exact r0 h' ww y0 (by omega) a1 a2 a3 (hp_gB (z := ww) gZ.2.1 (List.mem_of_getElem? (i := 4) rfl) rfl).1 (hp_gB (z := ww) gZ.2.1 (List.mem_of_getElem? (i := 4) rfl) rfl).2
    cases hp
theorem ek_run {cst : am_K} {strs : List Nat} {D : Nat} {h : am_H} (c1 : hp_C cst strs D) (c : hp_C cst strs (D + 1)) (hD : (7 : Int) ≤ ((D + 1 : Nat) : Int) + 1) (hy : ly_hy m_tt ly_TH h) {xp xq xd : Int32} {v u g : Int} (v0 : 0 ≤ v) (v1 : v ≤ 300) (kv : ly_hv cst h 1537 0 = some v) (u0 : 0 ≤ u) (u1 : u ≤ 120) (ku : ly_hv cst h 1536 0 = some u) (g0 : 0 ≤ g) (g1 : g ≤ 399) (kg : ly_hv cst h 10 0 = some g) :
    ∃ r, am_Run cst m_cl m_tt m_P strs sx_bi (D + 1 + 1) 42 [.ref 16, .int xp, .int xq, .int xd] h r ∧ te_Φ cst h [1537, 2304, 2560, 2816, 3072, 3328, 7171, 7182, 7680, 8704, 8960, 9216, 9472, 45319, 45320, 45321, 45323, 45324, 47106, 47107, 48642, 48643, 49410, 49411] (fun h2 => te_C cst h h2 (kn_ok xp.toInt xq.toInt xd.toInt u) v 2 (120 * min xp.toInt xq.toInt + max xp.toInt xq.toInt) xd.toInt g g) r := by
  obtain ⟨M, hM, hl⟩ := hp_M (mi := 42) (k := 4) (by decide +kernel)
  have a0 := xp.le_toInt
  have a1 := xp.toInt_le
  have b0 := xq.le_toInt
  have b1 := xq.toInt_le
  have e0 := xd.le_toInt
  have e1 := xd.toInt_le
  have go : hp_F cst strs (te_Φ cst h [1537, 2304, 2560, 2816, 3072, 3328, 7171, 7182, 7680, 8704, 8960, 9216, 9472, 45319, 45320, 45321, 45323, 45324, 47106, 47107, 48642, 48643, 49410, 49411] (fun h2 => te_C cst h h2 (kn_ok xp.toInt xq.toInt xd.toInt u) v 2 (120 * min xp.toInt xq.toInt + max xp.toInt xq.toInt) xd.toInt g g)) (D + 1) M 0 (lv_args 0 [.ref 16, .int xp, .int xq, .int xd]) [] h := by
    have no : ¬ kn_ok xp.toInt xq.toInt xd.toInt u → ∀ (h2 : am_H) (w : Int32), w.toInt = -2 → ly_hy m_tt ly_TH h2 → ly_fr cst [] h h2 → h.length ≤ h2.length → te_Φ cst h [1537, 2304, 2560, 2816, 3072, 3328, 7171, 7182, 7680, 8704, 8960, 9216, 9472, 45319, 45320, 45321, 45323, 45324, 47106, 47107, 48642, 48643, 49410, 49411] (fun h2 => te_C cst h h2 (kn_ok xp.toInt xq.toInt xd.toInt u) v 2 (120 * min xp.toInt xq.toInt + max xp.toInt xq.toInt) xd.toInt g g) (some (.int w), h2, 0, 0) := fun nk h2 w hw w1 w2 w3 => ⟨⟨w, rfl⟩, rfl, rfl, w1, (fun r i x _ e => w2 r i x rfl e), fun _ => ⟨w2 _ _ _ rfl kv, hp_same (show ly_ths ly_TH 9 = some (.inl (.int, 300, -2147483648, 2147483647)) from rfl) rfl hy w1 w2, hp_same (show ly_ths ly_TH 10 = some (.inl (.int, 300, -2147483648, 2147483647)) from rfl) rfl hy w1 w2, hp_same (show ly_ths ly_TH 11 = some (.inl (.int, 300, -2147483648, 2147483647)) from rfl) rfl hy w1 w2, hp_same (show ly_ths ly_TH 12 = some (.inl (.int, 300, -2147483648, 2147483647)) from rfl) rfl hy w1 w2, hp_same (show ly_ths ly_TH 13 = some (.inl (.int, 300, -2147483648, 2147483647)) from rfl) rfl hy w1 w2⟩, fun ok => absurd ok nk⟩
    by_cases p1 : xp.toInt ≤ -1
    · exact ek0 c hM (by omega) hy xp.toInt xq.toInt xd.toInt u a0 p1 b0 b1 e0 e1 u0 u1 ku rfl ⟨xp, rfl, rfl⟩ ⟨xq, rfl, rfl⟩ ⟨xd, rfl, rfl⟩ (no (fun k => by have := k.1; omega))
    by_cases p2 : u ≤ xp.toInt
    · exact ek1 c hM (by omega) hy xp.toInt xq.toInt xd.toInt u (by omega) a1 b0 b1 e0 e1 u0 u1 (by omega) ku rfl ⟨xp, rfl, rfl⟩ ⟨xq, rfl, rfl⟩ ⟨xd, rfl, rfl⟩ (no (fun k => by have := k.2.1; omega))
    by_cases p3 : xq.toInt ≤ -1
    · exact ek2 c hM (by omega) hy xp.toInt xq.toInt xd.toInt u (by omega) (by omega) b0 p3 e0 e1 u0 u1 (by omega) ku rfl ⟨xp, rfl, rfl⟩ ⟨xq, rfl, rfl⟩ ⟨xd, rfl, rfl⟩ (no (fun k => by have := k.2.2.1; omega))
    by_cases p4 : u ≤ xq.toInt
    · exact ek3 c hM (by omega) hy xp.toInt xq.toInt xd.toInt u (by omega) (by omega) (by omega) b1 e0 e1 u0 u1 (by omega) (by omega) ku rfl ⟨xp, rfl, rfl⟩ ⟨xq, rfl, rfl⟩ ⟨xd, rfl, rfl⟩ (no (fun k => by have := k.2.2.2.1; omega))
    by_cases p5 : xp.toInt = xq.toInt
    · exact ek4 c hM (by omega) hy xp.toInt xd.toInt u (by omega) (by omega) e0 e1 u0 u1 (by omega) ku rfl ⟨xp, rfl, rfl⟩ ⟨xq, rfl, p5.symm⟩ ⟨xd, rfl, rfl⟩ (no (fun k => k.2.2.2.2.1 p5))
    have ne : ly_hv cst h 61000 (xp.toInt - xq.toInt) = some 1 := hp_ne (by omega)
    by_cases p6 : xd.toInt ≤ -1
    · exact ek5 c hM (by omega) hy xp.toInt xq.toInt xd.toInt u (by omega) (by omega) (by omega) (by omega) e0 p6 u0 u1 (by omega) (by omega) ku ne rfl ⟨xp, rfl, rfl⟩ ⟨xq, rfl, rfl⟩ ⟨xd, rfl, rfl⟩ (no (fun k => by have := k.2.2.2.2.2.1; omega))
    by_cases p7 : 5 ≤ xd.toInt
    · exact ek6 c hM (by omega) hy xp.toInt xq.toInt xd.toInt u (by omega) (by omega) (by omega) (by omega) p7 e1 u0 u1 (by omega) (by omega) ku ne rfl ⟨xp, rfl, rfl⟩ ⟨xq, rfl, rfl⟩ ⟨xd, rfl, rfl⟩ (no (fun k => by have := k.2.2.2.2.2.2; omega))
    have ok : kn_ok xp.toInt xq.toInt xd.toInt u := ⟨by omega, by omega, by omega, by omega, p5, by omega, by omega⟩
    have call : ∀ (l2 : am_L) (h1 : am_H) (y0 y1 y2 y3 y4 : Int32), y0.toInt = g → y1.toInt = g → y2.toInt = xd.toInt → y3.toInt = 120 * min xp.toInt xq.toInt + max xp.toInt xq.toInt → y4.toInt = 2 → ly_hy m_tt ly_TH h1 → ly_fr cst [] h h1 → h.length ≤ h1.length → ly_hv cst h1 10 0 = some g → hp_a l2 0 16 → hp_i l2 1 xp.toInt → hp_i l2 2 xq.toInt → hp_i l2 3 xd.toInt → hp_F cst strs (te_Φ cst h [1537, 2304, 2560, 2816, 3072, 3328, 7171, 7182, 7680, 8704, 8960, 9216, 9472, 45319, 45320, 45321, 45323, 45324, 47106, 47107, 48642, 48643, 49410, 49411] (fun h2 => te_C cst h h2 (kn_ok xp.toInt xq.toInt xd.toInt u) v 2 (120 * min xp.toInt xq.toInt + max xp.toInt xq.toInt) xd.toInt g g)) (D + 1) M 58 l2 [.int y0, .int y1, .int y2, .int y3, .int y4, .ref 22] h1 := by
      intro l2 h1 y0 y1 y2 y3 y4 f0 f1 f2 f3 f4 w1 w2 w3 kg1 j0 j1 j2 j3
      obtain ⟨r, hrun, z, r1, r2, r3, rhy, rfr, rfull, rgood⟩ := ct_run (xa := y4) (xb := y3) (xd := y2) (xe := y1) (xg := y0) c1 (by omega) w1 v0 v1 (w2 _ _ _ rfl kv)
      refine hp_call (mi := 42) (pc := 58) (tg := 40) (na := 6) (c := 6) (ci := 2) (st0 := [.int y0, .int y1, .int y2, .int y3, .int y4, .ref 22]) (st := []) (av := [.int y4, .int y3, .int y2, .int y1, .int y0]) hM (by decide +kernel) w1 rfl rfl rfl (by decide) hrun r2 r3 ?_
      rw [r1]
      rw [f0, f1, f2, f3, f4] at rgood
      have s0 : ly_hv cst h1 2304 = ly_hv cst h 2304 := hp_same (show ly_ths ly_TH 9 = some (.inl (.int, 300, -2147483648, 2147483647)) from rfl) rfl hy w1 w2
      have s1 : ly_hv cst h1 2560 = ly_hv cst h 2560 := hp_same (show ly_ths ly_TH 10 = some (.inl (.int, 300, -2147483648, 2147483647)) from rfl) rfl hy w1 w2
      have s2 : ly_hv cst h1 2816 = ly_hv cst h 2816 := hp_same (show ly_ths ly_TH 11 = some (.inl (.int, 300, -2147483648, 2147483647)) from rfl) rfl hy w1 w2
      have s3 : ly_hv cst h1 3072 = ly_hv cst h 3072 := hp_same (show ly_ths ly_TH 12 = some (.inl (.int, 300, -2147483648, 2147483647)) from rfl) rfl hy w1 w2
      have s4 : ly_hv cst h1 3328 = ly_hv cst h 3328 := hp_same (show ly_ths ly_TH 13 = some (.inl (.int, 300, -2147483648, 2147483647)) from rfl) rfl hy w1 w2
      have fr2 : ly_fr cst [1537, 2304, 2560, 2816, 3072, 3328, 7171, 7182, 7680, 8704, 8960, 9216, 9472, 45319, 45320, 45321, 45323, 45324, 47106, 47107, 48642, 48643, 49410, 49411] h r.2.1 := ly_fr_tr (fun r i x _ e => w2 r i x rfl e) (hp_sub rfl rfr)
      by_cases q : v = 300
      · obtain ⟨hz, k1, q0, q1, q2, q3, q4⟩ := rfull q
        rw [← q] at k1
        exact ek9 c hM (by omega) rhy xp.toInt xq.toInt xd.toInt z hz (by omega) (by omega) (by omega) (by omega) (by omega) (by omega) j0 j1 j2 j3 (fun h3 x hx t1 t2 t3 => ⟨⟨x, rfl⟩, rfl, rfl, t1, ly_fr_tr fr2 (fun r i x _ e => t2 r i x rfl e), fun _ => ⟨t2 _ _ _ rfl k1, by rw [hp_same (show ly_ths ly_TH 9 = some (.inl (.int, 300, -2147483648, 2147483647)) from rfl) rfl rhy t1 t2, q0, s0], by rw [hp_same (show ly_ths ly_TH 10 = some (.inl (.int, 300, -2147483648, 2147483647)) from rfl) rfl rhy t1 t2, q1, s1], by rw [hp_same (show ly_ths ly_TH 11 = some (.inl (.int, 300, -2147483648, 2147483647)) from rfl) rfl rhy t1 t2, q2, s2], by rw [hp_same (show ly_ths ly_TH 12 = some (.inl (.int, 300, -2147483648, 2147483647)) from rfl) rfl rhy t1 t2, q3, s3], by rw [hp_same (show ly_ths ly_TH 13 = some (.inl (.int, 300, -2147483648, 2147483647)) from rfl) rfl rhy t1 t2, q4, s4]⟩, fun _ ne => absurd q ne⟩)
      · obtain ⟨hz, k1, q0, q1, q2, q3, q4⟩ := rgood q
        exact eka c hM (by omega) rhy xp.toInt xq.toInt xd.toInt g z hz (by omega) (by omega) (by omega) (by omega) (by omega) (by omega) g0 g1 (rfr _ _ _ rfl kg1) j0 j1 j2 j3 (fun h3 w x hx t1 t2 t3 _ _ => ⟨⟨x, rfl⟩, rfl, rfl, t1, ly_fr_tr fr2 (hp_sub rfl t2), fun no => no.elim (fun n => absurd ok n) (fun n => absurd n q), fun _ _ => ⟨t2 _ _ _ rfl k1, by rw [hp_same (show ly_ths ly_TH 9 = some (.inl (.int, 300, -2147483648, 2147483647)) from rfl) rfl rhy t1 t2, q0, s0], by rw [hp_same (show ly_ths ly_TH 10 = some (.inl (.int, 300, -2147483648, 2147483647)) from rfl) rfl rhy t1 t2, q1, s1], by rw [hp_same (show ly_ths ly_TH 11 = some (.inl (.int, 300, -2147483648, 2147483647)) from rfl) rfl rhy t1 t2, q2, s2], by rw [hp_same (show ly_ths ly_TH 12 = some (.inl (.int, 300, -2147483648, 2147483647)) from rfl) rfl rhy t1 t2, q3, s3], by rw [hp_same (show ly_ths ly_TH 13 = some (.inl (.int, 300, -2147483648, 2147483647)) from rfl) rfl rhy t1 t2, q4, s4]⟩⟩)
    by_cases pq : xp.toInt < xq.toInt
    · exact ek7 c hM (by omega) hy xp.toInt xq.toInt xd.toInt u g (by omega) (by omega) (by omega) (by omega) (by omega) (by omega) u0 u1 g0 g1 (by omega) (by omega) (by omega) ku kg rfl ⟨xp, rfl, rfl⟩ ⟨xq, rfl, rfl⟩ ⟨xd, rfl, rfl⟩ (fun l2 h1 y0 y1 y2 y3 y4 f0 f1 f2 f3 => call l2 h1 y0 y1 y2 y3 y4 f0 f1 f2 (by rw [Int.min_eq_left (by omega), Int.max_eq_right (by omega)]; exact f3))
    · exact ek8 c hM (by omega) hy xp.toInt xq.toInt xd.toInt u g (by omega) (by omega) (by omega) (by omega) (by omega) (by omega) u0 u1 g0 g1 (by omega) (by omega) (by omega) ku kg rfl ⟨xp, rfl, rfl⟩ ⟨xq, rfl, rfl⟩ ⟨xd, rfl, rfl⟩ (fun l2 h1 y0 y1 y2 y3 y4 f0 f1 f2 f3 => call l2 h1 y0 y1 y2 y3 y4 f0 f1 f2 (by rw [Int.min_eq_right (by omega), Int.max_eq_left (by omega)]; exact f3))
  obtain ⟨n, r, hgo, r1, r2, r3, r4⟩ := go
  simp only [Nat.zero_add] at r2 r3
  exact ⟨r, Or.inr ⟨M, n, hM, hl, hgo⟩, r1, r2, r3, r4⟩
theorem fk_run {cst : am_K} {strs : List Nat} {D : Nat} {h : am_H} (c1 : hp_C cst strs D) (c : hp_C cst strs (D + 1)) (hD : (7 : Int) ≤ ((D + 1 : Nat) : Int) + 1) (hy : ly_hy m_tt ly_TH h) {xp xq xd : Int32} {v u g : Int} (v0 : 0 ≤ v) (v1 : v ≤ 300) (kv : ly_hv cst h 19982 0 = some v) (u0 : 0 ≤ u) (u1 : u ≤ 120) (ku : ly_hv cst h 19978 0 = some u) (g0 : 0 ≤ g) (g1 : g ≤ 399) (kg : ly_hv cst h 19977 0 = some g) (kq : ly_hv cst h 60020 0 = some 1) :
    ∃ r, am_Run cst m_cl m_tt m_P strs sx_bi (D + 1 + 1) 280 [.ref 94, .int xp, .int xq, .int xd] h r ∧ te_Φ cst h kn_mods (fun h2 => te_M cst h h2 (kn_ok xp.toInt xq.toInt xd.toInt u) v 2 xp.toInt xq.toInt xd.toInt 0 g) r := by
  obtain ⟨M, hM, hl⟩ := hp_M (mi := 280) (k := 4) (by decide +kernel)
  have a0 := xp.le_toInt
  have a1 := xp.toInt_le
  have b0 := xq.le_toInt
  have b1 := xq.toInt_le
  have e0 := xd.le_toInt
  have e1 := xd.toInt_le
  have go : hp_F cst strs (te_Φ cst h kn_mods (fun h2 => te_M cst h h2 (kn_ok xp.toInt xq.toInt xd.toInt u) v 2 xp.toInt xq.toInt xd.toInt 0 g)) (D + 1) M 0 (lv_args 0 [.ref 94, .int xp, .int xq, .int xd]) [] h := by
    have no : ¬ kn_ok xp.toInt xq.toInt xd.toInt u → ∀ (h2 : am_H) (w : Int32), w.toInt = -2 → ly_hy m_tt ly_TH h2 → ly_fr cst [] h h2 → h.length ≤ h2.length → te_Φ cst h kn_mods (fun h2 => te_M cst h h2 (kn_ok xp.toInt xq.toInt xd.toInt u) v 2 xp.toInt xq.toInt xd.toInt 0 g) (some (.int w), h2, 0, 0) := fun nk h2 w hw w1 w2 w3 => ⟨⟨w, rfl⟩, rfl, rfl, w1, (fun r i x _ e => w2 r i x rfl e), fun _ => ⟨w2 _ _ _ rfl kv, hp_same (show ly_ths ly_TH 83 = some (.inl (.int, 300, -2147483648, 2147483647)) from rfl) rfl hy w1 w2, hp_same (show ly_ths ly_TH 84 = some (.inl (.int, 300, -2147483648, 2147483647)) from rfl) rfl hy w1 w2, hp_same (show ly_ths ly_TH 85 = some (.inl (.int, 300, -2147483648, 2147483647)) from rfl) rfl hy w1 w2, hp_same (show ly_ths ly_TH 86 = some (.inl (.int, 300, -2147483648, 2147483647)) from rfl) rfl hy w1 w2, hp_same (show ly_ths ly_TH 87 = some (.inl (.int, 300, -2147483648, 2147483647)) from rfl) rfl hy w1 w2, hp_same (show ly_ths ly_TH 88 = some (.inl (.int, 300, -2147483648, 2147483647)) from rfl) rfl hy w1 w2⟩, fun ok => absurd ok nk⟩
    by_cases p1 : xp.toInt ≤ -1
    · exact kp0 c hM (by omega) hy xp.toInt xq.toInt xd.toInt u a0 p1 b0 b1 e0 e1 u0 u1 ku rfl ⟨xp, rfl, rfl⟩ ⟨xq, rfl, rfl⟩ ⟨xd, rfl, rfl⟩ (no (fun k => by have := k.1; omega))
    by_cases p2 : u ≤ xp.toInt
    · exact kp1 c hM (by omega) hy xp.toInt xq.toInt xd.toInt u (by omega) a1 b0 b1 e0 e1 u0 u1 (by omega) ku rfl ⟨xp, rfl, rfl⟩ ⟨xq, rfl, rfl⟩ ⟨xd, rfl, rfl⟩ (no (fun k => by have := k.2.1; omega))
    by_cases p3 : xq.toInt ≤ -1
    · exact kp2 c hM (by omega) hy xp.toInt xq.toInt xd.toInt u (by omega) (by omega) b0 p3 e0 e1 u0 u1 (by omega) ku rfl ⟨xp, rfl, rfl⟩ ⟨xq, rfl, rfl⟩ ⟨xd, rfl, rfl⟩ (no (fun k => by have := k.2.2.1; omega))
    by_cases p4 : u ≤ xq.toInt
    · exact kp3 c hM (by omega) hy xp.toInt xq.toInt xd.toInt u (by omega) (by omega) (by omega) b1 e0 e1 u0 u1 (by omega) (by omega) ku rfl ⟨xp, rfl, rfl⟩ ⟨xq, rfl, rfl⟩ ⟨xd, rfl, rfl⟩ (no (fun k => by have := k.2.2.2.1; omega))
    by_cases p5 : xp.toInt = xq.toInt
    · exact kp4 c hM (by omega) hy xp.toInt xd.toInt u (by omega) (by omega) e0 e1 u0 u1 (by omega) ku rfl ⟨xp, rfl, rfl⟩ ⟨xq, rfl, p5.symm⟩ ⟨xd, rfl, rfl⟩ (no (fun k => k.2.2.2.2.1 p5))
    have ne : ly_hv cst h 61000 (xp.toInt - xq.toInt) = some 1 := hp_ne (by omega)
    by_cases p6 : xd.toInt ≤ -1
    · exact kp5 c hM (by omega) hy xp.toInt xq.toInt xd.toInt u (by omega) (by omega) (by omega) (by omega) e0 p6 u0 u1 (by omega) (by omega) ku ne rfl ⟨xp, rfl, rfl⟩ ⟨xq, rfl, rfl⟩ ⟨xd, rfl, rfl⟩ (no (fun k => by have := k.2.2.2.2.2.1; omega))
    by_cases p7 : 5 ≤ xd.toInt
    · exact kp6 c hM (by omega) hy xp.toInt xq.toInt xd.toInt u (by omega) (by omega) (by omega) (by omega) p7 e1 u0 u1 (by omega) (by omega) ku ne rfl ⟨xp, rfl, rfl⟩ ⟨xq, rfl, rfl⟩ ⟨xd, rfl, rfl⟩ (no (fun k => by have := k.2.2.2.2.2.2; omega))
    have ok : kn_ok xp.toInt xq.toInt xd.toInt u := ⟨by omega, by omega, by omega, by omega, p5, by omega, by omega⟩
    refine kp7 c hM (by omega) hy xp.toInt xq.toInt xd.toInt u (by omega) (by omega) (by omega) (by omega) (by omega) (by omega) u0 u1 (by omega) (by omega) ku ne rfl ⟨xp, rfl, rfl⟩ ⟨xq, rfl, rfl⟩ ⟨xd, rfl, rfl⟩ (fun l' h1 y0 y1 y2 y3 y4 f0 f1 f2 f3 f4 w1 w2 w3 x0 x1 x2 x3 => ?_)
    obtain ⟨r, hrun, z, r1, r2, r3, rhy, rfr, rfull, rgood⟩ := mt_run (xa := y4) (xb := y3) (xo := y2) (xd := y1) (xe := y0) c1 (by omega) w1 v0 v1 (w2 _ _ _ rfl kv) g0 g1 (w2 _ _ _ rfl kg)
    refine hp_call (mi := 280) (pc := 39) (tg := 278) (na := 6) (c := 78) (ci := 12) (st0 := [.int y0, .int y1, .int y2, .int y3, .int y4, .ref 94]) (st := []) (av := [.int y4, .int y3, .int y2, .int y1, .int y0]) hM (by decide +kernel) w1 rfl rfl rfl (by decide) hrun r2 r3 ?_
    rw [r1]
    rw [f0, f1, f2, f3, f4] at rgood
    have s0 : ly_hv cst h1 21248 = ly_hv cst h 21248 := hp_same (show ly_ths ly_TH 83 = some (.inl (.int, 300, -2147483648, 2147483647)) from rfl) rfl hy w1 w2
    have s1 : ly_hv cst h1 21504 = ly_hv cst h 21504 := hp_same (show ly_ths ly_TH 84 = some (.inl (.int, 300, -2147483648, 2147483647)) from rfl) rfl hy w1 w2
    have s2 : ly_hv cst h1 21760 = ly_hv cst h 21760 := hp_same (show ly_ths ly_TH 85 = some (.inl (.int, 300, -2147483648, 2147483647)) from rfl) rfl hy w1 w2
    have s3 : ly_hv cst h1 22016 = ly_hv cst h 22016 := hp_same (show ly_ths ly_TH 86 = some (.inl (.int, 300, -2147483648, 2147483647)) from rfl) rfl hy w1 w2
    have s4 : ly_hv cst h1 22272 = ly_hv cst h 22272 := hp_same (show ly_ths ly_TH 87 = some (.inl (.int, 300, -2147483648, 2147483647)) from rfl) rfl hy w1 w2
    have s5 : ly_hv cst h1 22528 = ly_hv cst h 22528 := hp_same (show ly_ths ly_TH 88 = some (.inl (.int, 300, -2147483648, 2147483647)) from rfl) rfl hy w1 w2
    have fr2 : ly_fr cst kn_mods h r.2.1 := ly_fr_tr (kn_sub rfl w2) (hp_sub rfl rfr)
    by_cases q : v = 300
    · obtain ⟨hz, k1, q0, q1, q2, q3, q4, q5⟩ := rfull q
      rw [← q] at k1
      exact kq0 c hM (by omega) rhy xp.toInt xq.toInt xd.toInt z hz (by omega) (by omega) (by omega) (by omega) (by omega) (by omega) x0 x1 x2 x3 (fun h3 x hx t1 t2 t3 => ⟨⟨x, rfl⟩, rfl, rfl, t1, ly_fr_tr fr2 (kn_sub rfl t2), fun _ => ⟨t2 _ _ _ rfl k1, by rw [hp_same (show ly_ths ly_TH 83 = some (.inl (.int, 300, -2147483648, 2147483647)) from rfl) rfl rhy t1 t2, q0, s0], by rw [hp_same (show ly_ths ly_TH 84 = some (.inl (.int, 300, -2147483648, 2147483647)) from rfl) rfl rhy t1 t2, q1, s1], by rw [hp_same (show ly_ths ly_TH 85 = some (.inl (.int, 300, -2147483648, 2147483647)) from rfl) rfl rhy t1 t2, q2, s2], by rw [hp_same (show ly_ths ly_TH 86 = some (.inl (.int, 300, -2147483648, 2147483647)) from rfl) rfl rhy t1 t2, q3, s3], by rw [hp_same (show ly_ths ly_TH 87 = some (.inl (.int, 300, -2147483648, 2147483647)) from rfl) rfl rhy t1 t2, q4, s4], by rw [hp_same (show ly_ths ly_TH 88 = some (.inl (.int, 300, -2147483648, 2147483647)) from rfl) rfl rhy t1 t2, q5, s5]⟩, fun _ ne => absurd q ne⟩)
    · obtain ⟨hz, k1, q0, q1, q2, q3, q4, q5⟩ := rgood q
      refine kq1 c hM (by omega) rhy xp.toInt xq.toInt xd.toInt (v + 1) z hz (by omega) (by omega) (by omega) (by omega) (by omega) (by omega) (by omega) (by omega) x0 x1 x2 x3 (fun l2 h2 o1 o2 o3 j0 j1 j2 j3 j4 j5 => ?_)
      obtain ⟨mm, km, mm0, mm1⟩ := hp_fld (cst := cst) (c := 78) (k := 56) o1 rfl rfl (by decide)
      exact hp_mono (kn_loop (h0 := h2) (v := v + 1) c hM (by omega) (by omega) (by omega) (by omega) (by omega) (by omega) (by omega) (by omega) (by omega) mm0 mm1 (mm.toNat + 1) h2 l2 0 0 (by omega) (by omega) mm0 (by omega) (by omega) ⟨o1, ly_fr_rf h2, o2 _ _ _ rfl k1, km, o2 _ _ _ rfl (rfr _ _ _ rfl (w2 _ _ _ rfl kq))⟩ ⟨j0, j1, j2, j3, j4, j5⟩) (fun rr ⟨d1, d2, d3, d4, d5, d6⟩ => ⟨d1, d2, d3, d4, ly_fr_tr fr2 (ly_fr_tr (kn_sub rfl o2) (kn_sub rfl d5)), fun no => no.elim (fun n => absurd ok n) (fun n => absurd n q), fun _ _ => ⟨d6, by rw [hp_same (show ly_ths ly_TH 83 = some (.inl (.int, 300, -2147483648, 2147483647)) from rfl) rfl o1 d4 d5, hp_same (show ly_ths ly_TH 83 = some (.inl (.int, 300, -2147483648, 2147483647)) from rfl) rfl rhy o1 o2, q0, s0], by rw [hp_same (show ly_ths ly_TH 84 = some (.inl (.int, 300, -2147483648, 2147483647)) from rfl) rfl o1 d4 d5, hp_same (show ly_ths ly_TH 84 = some (.inl (.int, 300, -2147483648, 2147483647)) from rfl) rfl rhy o1 o2, q1, s1], by rw [hp_same (show ly_ths ly_TH 85 = some (.inl (.int, 300, -2147483648, 2147483647)) from rfl) rfl o1 d4 d5, hp_same (show ly_ths ly_TH 85 = some (.inl (.int, 300, -2147483648, 2147483647)) from rfl) rfl rhy o1 o2, q2, s2], by rw [hp_same (show ly_ths ly_TH 86 = some (.inl (.int, 300, -2147483648, 2147483647)) from rfl) rfl o1 d4 d5, hp_same (show ly_ths ly_TH 86 = some (.inl (.int, 300, -2147483648, 2147483647)) from rfl) rfl rhy o1 o2, q3, s3], by rw [hp_same (show ly_ths ly_TH 87 = some (.inl (.int, 300, -2147483648, 2147483647)) from rfl) rfl o1 d4 d5, hp_same (show ly_ths ly_TH 87 = some (.inl (.int, 300, -2147483648, 2147483647)) from rfl) rfl rhy o1 o2, q4, s4], by rw [hp_same (show ly_ths ly_TH 88 = some (.inl (.int, 300, -2147483648, 2147483647)) from rfl) rfl o1 d4 d5, hp_same (show ly_ths ly_TH 88 = some (.inl (.int, 300, -2147483648, 2147483647)) from rfl) rfl rhy o1 o2, q5, s5]⟩⟩)
  obtain ⟨n, r, hgo, r1, r2, r3, r4⟩ := go
  simp only [Nat.zero_add] at r2 r3
  exact ⟨r, Or.inr ⟨M, n, hM, hl, hgo⟩, r1, r2, r3, r4⟩
