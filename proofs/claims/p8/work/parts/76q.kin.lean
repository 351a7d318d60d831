/-! PRINTED by wip/p2/hp_kin.py: the reference's kin, exactly as to the tellings -/
theorem tl0_k : hp_chk 278 0 3 [(0, 0, 119), (1, 0, 119), (2, 0, 4)] [] [(0, .inr (.inr (.inl (some 94)))), (1, .inl (2, [])), (2, .inl (0, [(0, 1)])), (3, .inl (0, [(1, 1)])), (4, .inl (0, [(2, 1)])), (5, .inl (0, []))] [] [(19982, (0, []), (300, []))] [] 2 [] [([], 3, [(0, 0, 119), (1, 0, 119), (2, 0, 4)], [], [], [.inl ((-3), [])], [(19982, (0, []), (300, []))])] = true := by decide +kernel
theorem tl0 {cst : am_K} {strs : List Nat} {Φ : am_Q → Prop} {D : Nat} {M : am_M} {h : am_H} {l : am_L} (c : hp_C cst strs D) (hM : m_P[278]? = some M) (hD : (2 : Int) ≤ (D : Int) + 1) (hy : ly_hy m_tt ly_TH h) (p q d : Int) (b0 : 0 ≤ p) (t0 : p ≤ 119) (b1 : 0 ≤ q) (t1 : q ≤ 119) (b2 : 0 ≤ d) (t2 : d ≤ 4) (k0 : ly_hv cst h 19982 0 = some 300) (l0 : hp_a l 0 94) (l1 : hp_i l 1 2) (l2 : hp_i l 2 (p)) (l3 : hp_i l 3 (q)) (l4 : hp_i l 4 (d)) (l5 : hp_i l 5 0) (r0 : ∀ (h' : am_H) (y0 : Int32), y0.toInt = (-3) → ly_hy m_tt ly_TH h' → ly_fr cst [] h h' → h.length ≤ h'.length → ly_hv cst h' 19982 0 = some 300 → Φ (some (.int y0), h', 0, 0)) : hp_F cst strs Φ D M 0 l [] h := by
  refine hp_arc c hM tl0_k hD [p, q, d] rfl hy (hp_Bc (z := p) rfl b0 t0 (hp_Bc (z := q) rfl b1 t1 (hp_Bc (z := d) rfl b2 t2 hp_Bn))) hp_Fn (hp_Kc (zi := (0 + 0)) (zv := (300 + 0)) k0 rfl rfl (by omega) (by omega) hp_Kn) (hp_La l0 (hp_Li (z := (2 + 0)) l1 rfl (by omega) (hp_Li (z := (0 + (1 * p + 0))) l2 rfl (by omega) (hp_Li (z := (0 + (1 * q + 0))) l3 rfl (by omega) (hp_Li (z := (0 + (1 * d + 0))) l4 rfl (by omega) (hp_Li (z := (0 + 0)) l5 rfl (by omega) hp_Ln)))))) trivial ?_ ?_
  · intro p hp ys l' st' h' hys a1 a2 a3 gZ gL gS
    cases hp
  · intro p hp ys v h' hys a1 a2 a3 gZ gS
    rcases List.mem_cons.mp hp with rfl | hp
    · obtain rfl := hp_y0 hys
      cases v with
      | none => cases gS
      | some w =>
        obtain ⟨y0, t0, s0, q0, -⟩ := hp_gSi (z := ((-3) + 0)) gS rfl
        cases s0
        exact r0 h' y0 (by omega) a1 a2 a3 (hp_gK (zi := (0 + 0)) (zv := (300 + 0)) gZ.2.2.2 (List.mem_of_getElem? (i := 0) rfl) rfl rfl (by omega) (by omega))
    cases hp
theorem tl1_k : hp_chk 278 0 4 [(0, 0, 119), (1, 0, 119), (2, 0, 4), (3, 0, 299)] [] [(0, .inr (.inr (.inl (some 94)))), (1, .inl (2, [])), (2, .inl (0, [(0, 1)])), (3, .inl (0, [(1, 1)])), (4, .inl (0, [(2, 1)])), (5, .inl (0, []))] [] [(19982, (0, []), (0, [(3, 1)]))] [19982, 21248, 21504, 21760, 22016, 22272, 22528] 2 [] [([], 4, [(0, 0, 119), (1, 0, 119), (2, 0, 4), (3, 0, 299)], [], [], [.inl (1, [(3, 1)])], [(19982, (0, []), (1, [(3, 1)]))])] = true := by decide +kernel
theorem tl1 {cst : am_K} {strs : List Nat} {Φ : am_Q → Prop} {D : Nat} {M : am_M} {h : am_H} {l : am_L} (c : hp_C cst strs D) (hM : m_P[278]? = some M) (hD : (2 : Int) ≤ (D : Int) + 1) (hy : ly_hy m_tt ly_TH h) (p q d v : Int) (b0 : 0 ≤ p) (t0 : p ≤ 119) (b1 : 0 ≤ q) (t1 : q ≤ 119) (b2 : 0 ≤ d) (t2 : d ≤ 4) (b3 : 0 ≤ v) (t3 : v ≤ 299) (k0 : ly_hv cst h 19982 0 = some (v)) (l0 : hp_a l 0 94) (l1 : hp_i l 1 2) (l2 : hp_i l 2 (p)) (l3 : hp_i l 3 (q)) (l4 : hp_i l 4 (d)) (l5 : hp_i l 5 0) (r0 : ∀ (h' : am_H) (y0 : Int32), y0.toInt = (v + 1) → ly_hy m_tt ly_TH h' → ly_fr cst [19982, 21248, 21504, 21760, 22016, 22272, 22528] h h' → h.length ≤ h'.length → ly_hv cst h' 19982 0 = some (v + 1) → Φ (some (.int y0), h', 0, 0)) : hp_F cst strs Φ D M 0 l [] h := by
  refine hp_arc c hM tl1_k hD [p, q, d, v] rfl hy (hp_Bc (z := p) rfl b0 t0 (hp_Bc (z := q) rfl b1 t1 (hp_Bc (z := d) rfl b2 t2 (hp_Bc (z := v) rfl b3 t3 hp_Bn)))) hp_Fn (hp_Kc (zi := (0 + 0)) (zv := (0 + (1 * v + 0))) k0 rfl rfl (by omega) (by omega) hp_Kn) (hp_La l0 (hp_Li (z := (2 + 0)) l1 rfl (by omega) (hp_Li (z := (0 + (1 * p + 0))) l2 rfl (by omega) (hp_Li (z := (0 + (1 * q + 0))) l3 rfl (by omega) (hp_Li (z := (0 + (1 * d + 0))) l4 rfl (by omega) (hp_Li (z := (0 + 0)) l5 rfl (by omega) hp_Ln)))))) trivial ?_ ?_
  · intro p hp ys l' st' h' hys a1 a2 a3 gZ gL gS
    cases hp
  · intro p hp ys v h' hys a1 a2 a3 gZ gS
    rcases List.mem_cons.mp hp with rfl | hp
    · obtain rfl := hp_y0 hys
      cases v with
      | none => cases gS
      | some w =>
        obtain ⟨y0, t0, s0, q0, -⟩ := hp_gSi (z := (1 + (1 * v + 0))) gS rfl
        cases s0
        exact r0 h' y0 (by omega) a1 a2 a3 (hp_gK (zi := (0 + 0)) (zv := (1 + (1 * v + 0))) gZ.2.2.2 (List.mem_of_getElem? (i := 0) rfl) rfl rfl (by omega) (by omega))
    cases hp
theorem kp0_k : hp_chk 280 0 4 [(0, (-2147483648), (-1)), (1, (-2147483648), 2147483647), (2, (-2147483648), 2147483647), (3, 0, 120)] [] [(0, .inr (.inr (.inl (some 94)))), (1, .inl (0, [(0, 1)])), (2, .inl (0, [(1, 1)])), (3, .inl (0, [(2, 1)]))] [] [(19978, (0, []), (0, [(3, 1)]))] [] 4 [] [([], 4, [(0, (-2147483648), (-1)), (1, (-2147483648), 2147483647), (2, (-2147483648), 2147483647), (3, 0, 120)], [], [], [.inl ((-2), [])], [])] = true := by decide +kernel
theorem kp0 {cst : am_K} {strs : List Nat} {Φ : am_Q → Prop} {D : Nat} {M : am_M} {h : am_H} {l : am_L} (c : hp_C cst strs D) (hM : m_P[280]? = some M) (hD : (4 : Int) ≤ (D : Int) + 1) (hy : ly_hy m_tt ly_TH h) (p q d u : Int) (b0 : (-2147483648) ≤ p) (t0 : p ≤ (-1)) (b1 : (-2147483648) ≤ q) (t1 : q ≤ 2147483647) (b2 : (-2147483648) ≤ d) (t2 : d ≤ 2147483647) (b3 : 0 ≤ u) (t3 : u ≤ 120) (k0 : ly_hv cst h 19978 0 = some (u)) (l0 : hp_a l 0 94) (l1 : hp_i l 1 (p)) (l2 : hp_i l 2 (q)) (l3 : hp_i l 3 (d)) (r0 : ∀ (h' : am_H) (y0 : Int32), y0.toInt = (-2) → ly_hy m_tt ly_TH h' → ly_fr cst [] h h' → h.length ≤ h'.length → Φ (some (.int y0), h', 0, 0)) : hp_F cst strs Φ D M 0 l [] h := by
  refine hp_arc c hM kp0_k hD [p, q, d, u] rfl hy (hp_Bc (z := p) rfl b0 t0 (hp_Bc (z := q) rfl b1 t1 (hp_Bc (z := d) rfl b2 t2 (hp_Bc (z := u) rfl b3 t3 hp_Bn)))) hp_Fn (hp_Kc (zi := (0 + 0)) (zv := (0 + (1 * u + 0))) k0 rfl rfl (by omega) (by omega) hp_Kn) (hp_La l0 (hp_Li (z := (0 + (1 * p + 0))) l1 rfl (by omega) (hp_Li (z := (0 + (1 * q + 0))) l2 rfl (by omega) (hp_Li (z := (0 + (1 * d + 0))) l3 rfl (by omega) hp_Ln)))) trivial ?_ ?_
  · intro p hp ys l' st' h' hys a1 a2 a3 gZ gL gS
    cases hp
  · intro p hp ys v h' hys a1 a2 a3 gZ gS
    rcases List.mem_cons.mp hp with rfl | hp
    · obtain rfl := hp_y0 hys
      cases v with
      | none => cases gS
      | some w =>
        obtain ⟨y0, t0, s0, q0, -⟩ := hp_gSi (z := ((-2) + 0)) gS rfl
        cases s0
        exact r0 h' y0 (by omega) a1 a2 a3
    cases hp
theorem kp1_k : hp_chk 280 0 4 [(0, 0, 2147483647), (1, (-2147483648), 2147483647), (2, (-2147483648), 2147483647), (3, 0, 120)] [(0, [(0, 1), (3, (-1))])] [(0, .inr (.inr (.inl (some 94)))), (1, .inl (0, [(0, 1)])), (2, .inl (0, [(1, 1)])), (3, .inl (0, [(2, 1)]))] [] [(19978, (0, []), (0, [(3, 1)]))] [] 4 [] [([], 4, [(0, 0, 2147483647), (1, (-2147483648), 2147483647), (2, (-2147483648), 2147483647), (3, 0, 120)], [], [], [.inl ((-2), [])], [])] = true := by decide +kernel
theorem kp1 {cst : am_K} {strs : List Nat} {Φ : am_Q → Prop} {D : Nat} {M : am_M} {h : am_H} {l : am_L} (c : hp_C cst strs D) (hM : m_P[280]? = some M) (hD : (4 : Int) ≤ (D : Int) + 1) (hy : ly_hy m_tt ly_TH h) (p q d u : Int) (b0 : 0 ≤ p) (t0 : p ≤ 2147483647) (b1 : (-2147483648) ≤ q) (t1 : q ≤ 2147483647) (b2 : (-2147483648) ≤ d) (t2 : d ≤ 2147483647) (b3 : 0 ≤ u) (t3 : u ≤ 120) (f0 : 0 ≤ (p - u)) (k0 : ly_hv cst h 19978 0 = some (u)) (l0 : hp_a l 0 94) (l1 : hp_i l 1 (p)) (l2 : hp_i l 2 (q)) (l3 : hp_i l 3 (d)) (r0 : ∀ (h' : am_H) (y0 : Int32), y0.toInt = (-2) → ly_hy m_tt ly_TH h' → ly_fr cst [] h h' → h.length ≤ h'.length → Φ (some (.int y0), h', 0, 0)) : hp_F cst strs Φ D M 0 l [] h := by
  refine hp_arc c hM kp1_k hD [p, q, d, u] rfl hy (hp_Bc (z := p) rfl b0 t0 (hp_Bc (z := q) rfl b1 t1 (hp_Bc (z := d) rfl b2 t2 (hp_Bc (z := u) rfl b3 t3 hp_Bn)))) (hp_Fc (z := (0 + (1 * p + ((-1) * u + 0)))) rfl (by omega) hp_Fn) (hp_Kc (zi := (0 + 0)) (zv := (0 + (1 * u + 0))) k0 rfl rfl (by omega) (by omega) hp_Kn) (hp_La l0 (hp_Li (z := (0 + (1 * p + 0))) l1 rfl (by omega) (hp_Li (z := (0 + (1 * q + 0))) l2 rfl (by omega) (hp_Li (z := (0 + (1 * d + 0))) l3 rfl (by omega) hp_Ln)))) trivial ?_ ?_
  · intro p hp ys l' st' h' hys a1 a2 a3 gZ gL gS
    cases hp
  · intro p hp ys v h' hys a1 a2 a3 gZ gS
    rcases List.mem_cons.mp hp with rfl | hp
    · obtain rfl := hp_y0 hys
      cases v with
      | none => cases gS
      | some w =>
        obtain ⟨y0, t0, s0, q0, -⟩ := hp_gSi (z := ((-2) + 0)) gS rfl
        cases s0
        exact r0 h' y0 (by omega) a1 a2 a3
    cases hp
theorem kp2_k : hp_chk 280 0 4 [(0, 0, 119), (1, (-2147483648), (-1)), (2, (-2147483648), 2147483647), (3, 0, 120)] [((-1), [(0, (-1)), (3, 1)])] [(0, .inr (.inr (.inl (some 94)))), (1, .inl (0, [(0, 1)])), (2, .inl (0, [(1, 1)])), (3, .inl (0, [(2, 1)]))] [] [(19978, (0, []), (0, [(3, 1)]))] [] 4 [] [([], 4, [(0, 0, 119), (1, (-2147483648), (-1)), (2, (-2147483648), 2147483647), (3, 0, 120)], [], [], [.inl ((-2), [])], [])] = true := by decide +kernel
theorem kp2 {cst : am_K} {strs : List Nat} {Φ : am_Q → Prop} {D : Nat} {M : am_M} {h : am_H} {l : am_L} (c : hp_C cst strs D) (hM : m_P[280]? = some M) (hD : (4 : Int) ≤ (D : Int) + 1) (hy : ly_hy m_tt ly_TH h) (p q d u : Int) (b0 : 0 ≤ p) (t0 : p ≤ 119) (b1 : (-2147483648) ≤ q) (t1 : q ≤ (-1)) (b2 : (-2147483648) ≤ d) (t2 : d ≤ 2147483647) (b3 : 0 ≤ u) (t3 : u ≤ 120) (f0 : 0 ≤ (u - p - 1)) (k0 : ly_hv cst h 19978 0 = some (u)) (l0 : hp_a l 0 94) (l1 : hp_i l 1 (p)) (l2 : hp_i l 2 (q)) (l3 : hp_i l 3 (d)) (r0 : ∀ (h' : am_H) (y0 : Int32), y0.toInt = (-2) → ly_hy m_tt ly_TH h' → ly_fr cst [] h h' → h.length ≤ h'.length → Φ (some (.int y0), h', 0, 0)) : hp_F cst strs Φ D M 0 l [] h := by
  refine hp_arc c hM kp2_k hD [p, q, d, u] rfl hy (hp_Bc (z := p) rfl b0 t0 (hp_Bc (z := q) rfl b1 t1 (hp_Bc (z := d) rfl b2 t2 (hp_Bc (z := u) rfl b3 t3 hp_Bn)))) (hp_Fc (z := ((-1) + ((-1) * p + (1 * u + 0)))) rfl (by omega) hp_Fn) (hp_Kc (zi := (0 + 0)) (zv := (0 + (1 * u + 0))) k0 rfl rfl (by omega) (by omega) hp_Kn) (hp_La l0 (hp_Li (z := (0 + (1 * p + 0))) l1 rfl (by omega) (hp_Li (z := (0 + (1 * q + 0))) l2 rfl (by omega) (hp_Li (z := (0 + (1 * d + 0))) l3 rfl (by omega) hp_Ln)))) trivial ?_ ?_
  · intro p hp ys l' st' h' hys a1 a2 a3 gZ gL gS
    cases hp
  · intro p hp ys v h' hys a1 a2 a3 gZ gS
    rcases List.mem_cons.mp hp with rfl | hp
    · obtain rfl := hp_y0 hys
      cases v with
      | none => cases gS
      | some w =>
        obtain ⟨y0, t0, s0, q0, -⟩ := hp_gSi (z := ((-2) + 0)) gS rfl
        cases s0
        exact r0 h' y0 (by omega) a1 a2 a3
    cases hp
theorem kp3_k : hp_chk 280 0 4 [(0, 0, 119), (1, 0, 2147483647), (2, (-2147483648), 2147483647), (3, 0, 120)] [((-1), [(0, (-1)), (3, 1)]), (0, [(1, 1), (3, (-1))])] [(0, .inr (.inr (.inl (some 94)))), (1, .inl (0, [(0, 1)])), (2, .inl (0, [(1, 1)])), (3, .inl (0, [(2, 1)]))] [] [(19978, (0, []), (0, [(3, 1)]))] [] 4 [] [([], 4, [(0, 0, 119), (1, 0, 2147483647), (2, (-2147483648), 2147483647), (3, 0, 120)], [], [], [.inl ((-2), [])], [])] = true := by decide +kernel
theorem kp3 {cst : am_K} {strs : List Nat} {Φ : am_Q → Prop} {D : Nat} {M : am_M} {h : am_H} {l : am_L} (c : hp_C cst strs D) (hM : m_P[280]? = some M) (hD : (4 : Int) ≤ (D : Int) + 1) (hy : ly_hy m_tt ly_TH h) (p q d u : Int) (b0 : 0 ≤ p) (t0 : p ≤ 119) (b1 : 0 ≤ q) (t1 : q ≤ 2147483647) (b2 : (-2147483648) ≤ d) (t2 : d ≤ 2147483647) (b3 : 0 ≤ u) (t3 : u ≤ 120) (f0 : 0 ≤ (u - p - 1)) (f1 : 0 ≤ (q - u)) (k0 : ly_hv cst h 19978 0 = some (u)) (l0 : hp_a l 0 94) (l1 : hp_i l 1 (p)) (l2 : hp_i l 2 (q)) (l3 : hp_i l 3 (d)) (r0 : ∀ (h' : am_H) (y0 : Int32), y0.toInt = (-2) → ly_hy m_tt ly_TH h' → ly_fr cst [] h h' → h.length ≤ h'.length → Φ (some (.int y0), h', 0, 0)) : hp_F cst strs Φ D M 0 l [] h := by
  refine hp_arc c hM kp3_k hD [p, q, d, u] rfl hy (hp_Bc (z := p) rfl b0 t0 (hp_Bc (z := q) rfl b1 t1 (hp_Bc (z := d) rfl b2 t2 (hp_Bc (z := u) rfl b3 t3 hp_Bn)))) (hp_Fc (z := ((-1) + ((-1) * p + (1 * u + 0)))) rfl (by omega) (hp_Fc (z := (0 + (1 * q + ((-1) * u + 0)))) rfl (by omega) hp_Fn)) (hp_Kc (zi := (0 + 0)) (zv := (0 + (1 * u + 0))) k0 rfl rfl (by omega) (by omega) hp_Kn) (hp_La l0 (hp_Li (z := (0 + (1 * p + 0))) l1 rfl (by omega) (hp_Li (z := (0 + (1 * q + 0))) l2 rfl (by omega) (hp_Li (z := (0 + (1 * d + 0))) l3 rfl (by omega) hp_Ln)))) trivial ?_ ?_
  · intro p hp ys l' st' h' hys a1 a2 a3 gZ gL gS
    cases hp
  · intro p hp ys v h' hys a1 a2 a3 gZ gS
    rcases List.mem_cons.mp hp with rfl | hp
    · obtain rfl := hp_y0 hys
      cases v with
      | none => cases gS
      | some w =>
        obtain ⟨y0, t0, s0, q0, -⟩ := hp_gSi (z := ((-2) + 0)) gS rfl
        cases s0
        exact r0 h' y0 (by omega) a1 a2 a3
    cases hp
theorem kp4_k : hp_chk 280 0 3 [(0, 0, 119), (1, (-2147483648), 2147483647), (2, 0, 120)] [((-1), [(0, (-1)), (2, 1)])] [(0, .inr (.inr (.inl (some 94)))), (1, .inl (0, [(0, 1)])), (2, .inl (0, [(0, 1)])), (3, .inl (0, [(1, 1)]))] [] [(19978, (0, []), (0, [(2, 1)]))] [] 4 [] [([], 3, [(0, 0, 119), (1, (-2147483648), 2147483647), (2, 0, 120)], [], [], [.inl ((-2), [])], [])] = true := by decide +kernel
theorem kp4 {cst : am_K} {strs : List Nat} {Φ : am_Q → Prop} {D : Nat} {M : am_M} {h : am_H} {l : am_L} (c : hp_C cst strs D) (hM : m_P[280]? = some M) (hD : (4 : Int) ≤ (D : Int) + 1) (hy : ly_hy m_tt ly_TH h) (p d u : Int) (b0 : 0 ≤ p) (t0 : p ≤ 119) (b1 : (-2147483648) ≤ d) (t1 : d ≤ 2147483647) (b2 : 0 ≤ u) (t2 : u ≤ 120) (f0 : 0 ≤ (u - p - 1)) (k0 : ly_hv cst h 19978 0 = some (u)) (l0 : hp_a l 0 94) (l1 : hp_i l 1 (p)) (l2 : hp_i l 2 (p)) (l3 : hp_i l 3 (d)) (r0 : ∀ (h' : am_H) (y0 : Int32), y0.toInt = (-2) → ly_hy m_tt ly_TH h' → ly_fr cst [] h h' → h.length ≤ h'.length → Φ (some (.int y0), h', 0, 0)) : hp_F cst strs Φ D M 0 l [] h := by
  refine hp_arc c hM kp4_k hD [p, d, u] rfl hy (hp_Bc (z := p) rfl b0 t0 (hp_Bc (z := d) rfl b1 t1 (hp_Bc (z := u) rfl b2 t2 hp_Bn))) (hp_Fc (z := ((-1) + ((-1) * p + (1 * u + 0)))) rfl (by omega) hp_Fn) (hp_Kc (zi := (0 + 0)) (zv := (0 + (1 * u + 0))) k0 rfl rfl (by omega) (by omega) hp_Kn) (hp_La l0 (hp_Li (z := (0 + (1 * p + 0))) l1 rfl (by omega) (hp_Li (z := (0 + (1 * p + 0))) l2 rfl (by omega) (hp_Li (z := (0 + (1 * d + 0))) l3 rfl (by omega) hp_Ln)))) trivial ?_ ?_
  · intro p hp ys l' st' h' hys a1 a2 a3 gZ gL gS
    cases hp
  · intro p hp ys v h' hys a1 a2 a3 gZ gS
    rcases List.mem_cons.mp hp with rfl | hp
    · obtain rfl := hp_y0 hys
      cases v with
      | none => cases gS
      | some w =>
        obtain ⟨y0, t0, s0, q0, -⟩ := hp_gSi (z := ((-2) + 0)) gS rfl
        cases s0
        exact r0 h' y0 (by omega) a1 a2 a3
    cases hp
theorem kp5_k : hp_chk 280 0 4 [(0, 0, 119), (1, 0, 119), (2, (-2147483648), (-1)), (3, 0, 120)] [((-1), [(0, (-1)), (3, 1)]), ((-1), [(1, (-1)), (3, 1)])] [(0, .inr (.inr (.inl (some 94)))), (1, .inl (0, [(0, 1)])), (2, .inl (0, [(1, 1)])), (3, .inl (0, [(2, 1)]))] [] [(19978, (0, []), (0, [(3, 1)])), (61000, (0, [(0, 1), (1, (-1))]), (1, []))] [] 4 [] [([], 4, [(0, 0, 119), (1, 0, 119), (2, (-2147483648), (-1)), (3, 0, 120)], [], [], [.inl ((-2), [])], [])] = true := by decide +kernel
theorem kp5 {cst : am_K} {strs : List Nat} {Φ : am_Q → Prop} {D : Nat} {M : am_M} {h : am_H} {l : am_L} (c : hp_C cst strs D) (hM : m_P[280]? = some M) (hD : (4 : Int) ≤ (D : Int) + 1) (hy : ly_hy m_tt ly_TH h) (p q d u : Int) (b0 : 0 ≤ p) (t0 : p ≤ 119) (b1 : 0 ≤ q) (t1 : q ≤ 119) (b2 : (-2147483648) ≤ d) (t2 : d ≤ (-1)) (b3 : 0 ≤ u) (t3 : u ≤ 120) (f0 : 0 ≤ (u - p - 1)) (f1 : 0 ≤ (u - q - 1)) (k0 : ly_hv cst h 19978 0 = some (u)) (k1 : ly_hv cst h 61000 (p - q) = some 1) (l0 : hp_a l 0 94) (l1 : hp_i l 1 (p)) (l2 : hp_i l 2 (q)) (l3 : hp_i l 3 (d)) (r0 : ∀ (h' : am_H) (y0 : Int32), y0.toInt = (-2) → ly_hy m_tt ly_TH h' → ly_fr cst [] h h' → h.length ≤ h'.length → Φ (some (.int y0), h', 0, 0)) : hp_F cst strs Φ D M 0 l [] h := by
  refine hp_arc c hM kp5_k hD [p, q, d, u] rfl hy (hp_Bc (z := p) rfl b0 t0 (hp_Bc (z := q) rfl b1 t1 (hp_Bc (z := d) rfl b2 t2 (hp_Bc (z := u) rfl b3 t3 hp_Bn)))) (hp_Fc (z := ((-1) + ((-1) * p + (1 * u + 0)))) rfl (by omega) (hp_Fc (z := ((-1) + ((-1) * q + (1 * u + 0)))) rfl (by omega) hp_Fn)) (hp_Kc (zi := (0 + 0)) (zv := (0 + (1 * u + 0))) k0 rfl rfl (by omega) (by omega) (hp_Kc (zi := (0 + (1 * p + ((-1) * q + 0)))) (zv := (1 + 0)) k1 rfl rfl (by omega) (by omega) hp_Kn)) (hp_La l0 (hp_Li (z := (0 + (1 * p + 0))) l1 rfl (by omega) (hp_Li (z := (0 + (1 * q + 0))) l2 rfl (by omega) (hp_Li (z := (0 + (1 * d + 0))) l3 rfl (by omega) hp_Ln)))) trivial ?_ ?_
  · intro p hp ys l' st' h' hys a1 a2 a3 gZ gL gS
    cases hp
  · intro p hp ys v h' hys a1 a2 a3 gZ gS
    rcases List.mem_cons.mp hp with rfl | hp
    · obtain rfl := hp_y0 hys
      cases v with
      | none => cases gS
      | some w =>
        obtain ⟨y0, t0, s0, q0, -⟩ := hp_gSi (z := ((-2) + 0)) gS rfl
        cases s0
        exact r0 h' y0 (by omega) a1 a2 a3
    cases hp
theorem kp6_k : hp_chk 280 0 4 [(0, 0, 119), (1, 0, 119), (2, 5, 2147483647), (3, 0, 120)] [((-1), [(0, (-1)), (3, 1)]), ((-1), [(1, (-1)), (3, 1)])] [(0, .inr (.inr (.inl (some 94)))), (1, .inl (0, [(0, 1)])), (2, .inl (0, [(1, 1)])), (3, .inl (0, [(2, 1)]))] [] [(19978, (0, []), (0, [(3, 1)])), (61000, (0, [(0, 1), (1, (-1))]), (1, []))] [] 4 [] [([], 4, [(0, 0, 119), (1, 0, 119), (2, 5, 2147483647), (3, 0, 120)], [], [], [.inl ((-2), [])], [])] = true := by decide +kernel
theorem kp6 {cst : am_K} {strs : List Nat} {Φ : am_Q → Prop} {D : Nat} {M : am_M} {h : am_H} {l : am_L} (c : hp_C cst strs D) (hM : m_P[280]? = some M) (hD : (4 : Int) ≤ (D : Int) + 1) (hy : ly_hy m_tt ly_TH h) (p q d u : Int) (b0 : 0 ≤ p) (t0 : p ≤ 119) (b1 : 0 ≤ q) (t1 : q ≤ 119) (b2 : 5 ≤ d) (t2 : d ≤ 2147483647) (b3 : 0 ≤ u) (t3 : u ≤ 120) (f0 : 0 ≤ (u - p - 1)) (f1 : 0 ≤ (u - q - 1)) (k0 : ly_hv cst h 19978 0 = some (u)) (k1 : ly_hv cst h 61000 (p - q) = some 1) (l0 : hp_a l 0 94) (l1 : hp_i l 1 (p)) (l2 : hp_i l 2 (q)) (l3 : hp_i l 3 (d)) (r0 : ∀ (h' : am_H) (y0 : Int32), y0.toInt = (-2) → ly_hy m_tt ly_TH h' → ly_fr cst [] h h' → h.length ≤ h'.length → Φ (some (.int y0), h', 0, 0)) : hp_F cst strs Φ D M 0 l [] h := by
  refine hp_arc c hM kp6_k hD [p, q, d, u] rfl hy (hp_Bc (z := p) rfl b0 t0 (hp_Bc (z := q) rfl b1 t1 (hp_Bc (z := d) rfl b2 t2 (hp_Bc (z := u) rfl b3 t3 hp_Bn)))) (hp_Fc (z := ((-1) + ((-1) * p + (1 * u + 0)))) rfl (by omega) (hp_Fc (z := ((-1) + ((-1) * q + (1 * u + 0)))) rfl (by omega) hp_Fn)) (hp_Kc (zi := (0 + 0)) (zv := (0 + (1 * u + 0))) k0 rfl rfl (by omega) (by omega) (hp_Kc (zi := (0 + (1 * p + ((-1) * q + 0)))) (zv := (1 + 0)) k1 rfl rfl (by omega) (by omega) hp_Kn)) (hp_La l0 (hp_Li (z := (0 + (1 * p + 0))) l1 rfl (by omega) (hp_Li (z := (0 + (1 * q + 0))) l2 rfl (by omega) (hp_Li (z := (0 + (1 * d + 0))) l3 rfl (by omega) hp_Ln)))) trivial ?_ ?_
  · intro p hp ys l' st' h' hys a1 a2 a3 gZ gL gS
    cases hp
  · intro p hp ys v h' hys a1 a2 a3 gZ gS
    rcases List.mem_cons.mp hp with rfl | hp
    · obtain rfl := hp_y0 hys
      cases v with
      | none => cases gS
      | some w =>
        obtain ⟨y0, t0, s0, q0, -⟩ := hp_gSi (z := ((-2) + 0)) gS rfl
        cases s0
        exact r0 h' y0 (by omega) a1 a2 a3
    cases hp
theorem kp7_k : hp_chk 280 0 4 [(0, 0, 119), (1, 0, 119), (2, 0, 4), (3, 0, 120)] [((-1), [(0, (-1)), (3, 1)]), ((-1), [(1, (-1)), (3, 1)])] [(0, .inr (.inr (.inl (some 94)))), (1, .inl (0, [(0, 1)])), (2, .inl (0, [(1, 1)])), (3, .inl (0, [(2, 1)]))] [] [(19978, (0, []), (0, [(3, 1)])), (61000, (0, [(0, 1), (1, (-1))]), (1, []))] [] 4 [(39, ([], 4, [(0, 0, 119), (1, 0, 119), (2, 0, 4), (3, 0, 120)], [], [(0, .inr (.inr (.inl (some 94)))), (1, .inl (0, [(0, 1)])), (2, .inl (0, [(1, 1)])), (3, .inl (0, [(2, 1)]))], [.inl (0, []), .inl (0, [(2, 1)]), .inl (0, [(1, 1)]), .inl (0, [(0, 1)]), .inl (2, []), .inr (.inr (.inl (some 94)))], []))] [] = true := by decide +kernel
theorem kp7 {cst : am_K} {strs : List Nat} {Φ : am_Q → Prop} {D : Nat} {M : am_M} {h : am_H} {l : am_L} (c : hp_C cst strs D) (hM : m_P[280]? = some M) (hD : (4 : Int) ≤ (D : Int) + 1) (hy : ly_hy m_tt ly_TH h) (p q d u : Int) (b0 : 0 ≤ p) (t0 : p ≤ 119) (b1 : 0 ≤ q) (t1 : q ≤ 119) (b2 : 0 ≤ d) (t2 : d ≤ 4) (b3 : 0 ≤ u) (t3 : u ≤ 120) (f0 : 0 ≤ (u - p - 1)) (f1 : 0 ≤ (u - q - 1)) (k0 : ly_hv cst h 19978 0 = some (u)) (k1 : ly_hv cst h 61000 (p - q) = some 1) (l0 : hp_a l 0 94) (l1 : hp_i l 1 (p)) (l2 : hp_i l 2 (q)) (l3 : hp_i l 3 (d)) (e0 : ∀ (l' : am_L) (h' : am_H) (y0 : Int32) (y1 : Int32) (y2 : Int32) (y3 : Int32) (y4 : Int32), y0.toInt = 0 → y1.toInt = (d) → y2.toInt = (q) → y3.toInt = (p) → y4.toInt = 2 → ly_hy m_tt ly_TH h' → ly_fr cst [] h h' → h.length ≤ h'.length → hp_a l' 0 94 → hp_i l' 1 (p) → hp_i l' 2 (q) → hp_i l' 3 (d) → hp_F cst strs Φ D M 39 l' [.int y0, .int y1, .int y2, .int y3, .int y4, .ref 94] h') : hp_F cst strs Φ D M 0 l [] h := by
  refine hp_arc c hM kp7_k hD [p, q, d, u] rfl hy (hp_Bc (z := p) rfl b0 t0 (hp_Bc (z := q) rfl b1 t1 (hp_Bc (z := d) rfl b2 t2 (hp_Bc (z := u) rfl b3 t3 hp_Bn)))) (hp_Fc (z := ((-1) + ((-1) * p + (1 * u + 0)))) rfl (by omega) (hp_Fc (z := ((-1) + ((-1) * q + (1 * u + 0)))) rfl (by omega) hp_Fn)) (hp_Kc (zi := (0 + 0)) (zv := (0 + (1 * u + 0))) k0 rfl rfl (by omega) (by omega) (hp_Kc (zi := (0 + (1 * p + ((-1) * q + 0)))) (zv := (1 + 0)) k1 rfl rfl (by omega) (by omega) hp_Kn)) (hp_La l0 (hp_Li (z := (0 + (1 * p + 0))) l1 rfl (by omega) (hp_Li (z := (0 + (1 * q + 0))) l2 rfl (by omega) (hp_Li (z := (0 + (1 * d + 0))) l3 rfl (by omega) hp_Ln)))) trivial ?_ ?_
  · intro p hp ys l' st' h' hys a1 a2 a3 gZ gL gS
    rcases List.mem_cons.mp hp with rfl | hp
    · obtain rfl := hp_y0 hys
      obtain ⟨y0, t0, rfl, q0, g0⟩ := hp_gSi (z := (0 + 0)) gS rfl
      obtain ⟨y1, t1, rfl, q1, g1⟩ := hp_gSi (z := (0 + (1 * d + 0))) g0 rfl
      obtain ⟨y2, t2, rfl, q2, g2⟩ := hp_gSi (z := (0 + (1 * q + 0))) g1 rfl
      obtain ⟨y3, t3, rfl, q3, g3⟩ := hp_gSi (z := (0 + (1 * p + 0))) g2 rfl
      obtain ⟨y4, t4, rfl, q4, g4⟩ := hp_gSi (z := (2 + 0)) g3 rfl
      obtain ⟨t5, rfl, g5⟩ := hp_gSa g4 (by decide)
      cases hp_gSn g5
      exact e0 l' h' y0 y1 y2 y3 y4 (by omega) (by omega) (by omega) (by omega) (by omega) a1 a2 a3 (hp_gLa gL (List.mem_of_getElem? (i := 0) rfl) (by decide)) (hp_gLi (z := (0 + (1 * p + 0))) gL (List.mem_of_getElem? (i := 1) rfl) rfl (by omega)) (hp_gLi (z := (0 + (1 * q + 0))) gL (List.mem_of_getElem? (i := 2) rfl) rfl (by omega)) (hp_gLi (z := (0 + (1 * d + 0))) gL (List.mem_of_getElem? (i := 3) rfl) rfl (by omega))
    cases hp
  · intro p hp ys v h' hys a1 a2 a3 gZ gS
    cases hp
theorem kq0_k : hp_chk 280 42 3 [(0, 0, 119), (1, 0, 119), (2, 0, 4)] [] [(0, .inr (.inr (.inl (some 94)))), (1, .inl (0, [(0, 1)])), (2, .inl (0, [(1, 1)])), (3, .inl (0, [(2, 1)]))] [.inl ((-3), [])] [] [] 2 [] [([], 3, [(0, 0, 119), (1, 0, 119), (2, 0, 4)], [], [], [.inl ((-3), [])], [])] = true := by decide +kernel
theorem kq0 {cst : am_K} {strs : List Nat} {Φ : am_Q → Prop} {D : Nat} {M : am_M} {h : am_H} {l : am_L} (c : hp_C cst strs D) (hM : m_P[280]? = some M) (hD : (2 : Int) ≤ (D : Int) + 1) (hy : ly_hy m_tt ly_TH h) (p q d : Int) (x0 : Int32) (hx0 : x0.toInt = (-3)) (b0 : 0 ≤ p) (t0 : p ≤ 119) (b1 : 0 ≤ q) (t1 : q ≤ 119) (b2 : 0 ≤ d) (t2 : d ≤ 4) (l0 : hp_a l 0 94) (l1 : hp_i l 1 (p)) (l2 : hp_i l 2 (q)) (l3 : hp_i l 3 (d)) (r0 : ∀ (h' : am_H) (y0 : Int32), y0.toInt = (-3) → ly_hy m_tt ly_TH h' → ly_fr cst [] h h' → h.length ≤ h'.length → Φ (some (.int y0), h', 0, 0)) : hp_F cst strs Φ D M 42 l [.int x0] h := by
  refine hp_arc c hM kq0_k hD [p, q, d] rfl hy (hp_Bc (z := p) rfl b0 t0 (hp_Bc (z := q) rfl b1 t1 (hp_Bc (z := d) rfl b2 t2 hp_Bn))) hp_Fn hp_Kn (hp_La l0 (hp_Li (z := (0 + (1 * p + 0))) l1 rfl (by omega) (hp_Li (z := (0 + (1 * q + 0))) l2 rfl (by omega) (hp_Li (z := (0 + (1 * d + 0))) l3 rfl (by omega) hp_Ln)))) (hp_Si (z := ((-3) + 0)) rfl (by omega) trivial) ?_ ?_
  · intro p hp ys l' st' h' hys a1 a2 a3 gZ gL gS
    cases hp
  · intro p hp ys v h' hys a1 a2 a3 gZ gS
    rcases List.mem_cons.mp hp with rfl | hp
    · obtain rfl := hp_y0 hys
      cases v with
      | none => cases gS
      | some w =>
        obtain ⟨y0, t0, s0, q0, -⟩ := hp_gSi (z := ((-3) + 0)) gS rfl
        cases s0
        exact r0 h' y0 (by omega) a1 a2 a3
    cases hp
theorem kq1_k : hp_chk 280 42 4 [(0, 0, 119), (1, 0, 119), (2, 0, 4), (3, 1, 300)] [] [(0, .inr (.inr (.inl (some 94)))), (1, .inl (0, [(0, 1)])), (2, .inl (0, [(1, 1)])), (3, .inl (0, [(2, 1)]))] [.inl (0, [(3, 1)])] [] [] 2 [(56, ([], 4, [(0, 0, 119), (1, 0, 119), (2, 0, 4), (3, 1, 300)], [], [(0, .inr (.inr (.inl (some 94)))), (1, .inl (0, [(0, 1)])), (2, .inl (0, [(1, 1)])), (3, .inl (0, [(2, 1)])), (4, .inl (0, [])), (5, .inl (0, []))], [], []))] [] = true := by decide +kernel
theorem kq1 {cst : am_K} {strs : List Nat} {Φ : am_Q → Prop} {D : Nat} {M : am_M} {h : am_H} {l : am_L} (c : hp_C cst strs D) (hM : m_P[280]? = some M) (hD : (2 : Int) ≤ (D : Int) + 1) (hy : ly_hy m_tt ly_TH h) (p q d y : Int) (x0 : Int32) (hx0 : x0.toInt = (y)) (b0 : 0 ≤ p) (t0 : p ≤ 119) (b1 : 0 ≤ q) (t1 : q ≤ 119) (b2 : 0 ≤ d) (t2 : d ≤ 4) (b3 : 1 ≤ y) (t3 : y ≤ 300) (l0 : hp_a l 0 94) (l1 : hp_i l 1 (p)) (l2 : hp_i l 2 (q)) (l3 : hp_i l 3 (d)) (e0 : ∀ (l' : am_L) (h' : am_H), ly_hy m_tt ly_TH h' → ly_fr cst [] h h' → h.length ≤ h'.length → hp_a l' 0 94 → hp_i l' 1 (p) → hp_i l' 2 (q) → hp_i l' 3 (d) → hp_i l' 4 0 → hp_i l' 5 0 → hp_F cst strs Φ D M 56 l' [] h') : hp_F cst strs Φ D M 42 l [.int x0] h := by
  refine hp_arc c hM kq1_k hD [p, q, d, y] rfl hy (hp_Bc (z := p) rfl b0 t0 (hp_Bc (z := q) rfl b1 t1 (hp_Bc (z := d) rfl b2 t2 (hp_Bc (z := y) rfl b3 t3 hp_Bn)))) hp_Fn hp_Kn (hp_La l0 (hp_Li (z := (0 + (1 * p + 0))) l1 rfl (by omega) (hp_Li (z := (0 + (1 * q + 0))) l2 rfl (by omega) (hp_Li (z := (0 + (1 * d + 0))) l3 rfl (by omega) hp_Ln)))) (hp_Si (z := (0 + (1 * y + 0))) rfl (by omega) trivial) ?_ ?_
  · intro p hp ys l' st' h' hys a1 a2 a3 gZ gL gS
    rcases List.mem_cons.mp hp with rfl | hp
    · obtain rfl := hp_y0 hys
      cases hp_gSn gS
      exact e0 l' h' a1 a2 a3 (hp_gLa gL (List.mem_of_getElem? (i := 0) rfl) (by decide)) (hp_gLi (z := (0 + (1 * p + 0))) gL (List.mem_of_getElem? (i := 1) rfl) rfl (by omega)) (hp_gLi (z := (0 + (1 * q + 0))) gL (List.mem_of_getElem? (i := 2) rfl) rfl (by omega)) (hp_gLi (z := (0 + (1 * d + 0))) gL (List.mem_of_getElem? (i := 3) rfl) rfl (by omega)) (hp_gLi (z := (0 + 0)) gL (List.mem_of_getElem? (i := 4) rfl) rfl (by omega)) (hp_gLi (z := (0 + 0)) gL (List.mem_of_getElem? (i := 5) rfl) rfl (by omega))
    cases hp
  · intro p hp ys v h' hys a1 a2 a3 gZ gS
    cases hp
theorem ka_k : hp_chk 280 56 7 [(0, 0, 119), (1, 0, 119), (2, 0, 4), (3, 0, 300), (4, 0, 100), (5, 0, 100), (6, 0, 100)] [(0, [(5, 1), (6, (-1))]), ((-1), [(4, 1), (5, (-1))])] [(0, .inr (.inr (.inl (some 94)))), (1, .inl (0, [(0, 1)])), (2, .inl (0, [(1, 1)])), (3, .inl (0, [(2, 1)])), (4, .inl (0, [(6, 1)])), (5, .inl (0, [(5, 1)]))] [] [(19982, (0, []), (0, [(3, 1)])), (20024, (0, []), (0, [(4, 1)])), (60020, (0, []), (1, []))] [] 7 [(56, ([], 7, [(0, 0, 119), (1, 0, 119), (2, 0, 4), (3, 0, 300), (4, 0, 100), (5, 0, 100), (6, 0, 100)], [], [(0, .inr (.inr (.inl (some 94)))), (1, .inl (0, [(0, 1)])), (2, .inl (0, [(1, 1)])), (3, .inl (0, [(2, 1)])), (4, .inl (0, [(6, 1)])), (5, .inl (1, [(5, 1)]))], [], [(19982, (0, []), (0, [(3, 1)])), (20024, (0, []), (0, [(4, 1)])), (60020, (0, []), (1, []))])), (96, ([], 7, [(0, 0, 119), (1, 0, 119), (2, 0, 4), (3, 0, 300), (4, 0, 100), (5, 0, 100), (6, 0, 100)], [], [(0, .inr (.inr (.inl (some 94)))), (1, .inl (0, [(0, 1)])), (2, .inl (0, [(1, 1)])), (3, .inl (0, [(2, 1)])), (4, .inl (0, [(6, 1)])), (5, .inl (0, [(5, 1)])), (6, .inl (0, [])), (7, .inl (0, []))], [], [(19982, (0, []), (0, [(3, 1)])), (20024, (0, []), (0, [(4, 1)])), (60020, (0, []), (1, []))]))] [] = true := by decide +kernel
theorem ka {cst : am_K} {strs : List Nat} {Φ : am_Q → Prop} {D : Nat} {M : am_M} {h : am_H} {l : am_L} (c : hp_C cst strs D) (hM : m_P[280]? = some M) (hD : (7 : Int) ≤ (D : Int) + 1) (hy : ly_hy m_tt ly_TH h) (p q d v mm m n : Int) (b0 : 0 ≤ p) (t0 : p ≤ 119) (b1 : 0 ≤ q) (t1 : q ≤ 119) (b2 : 0 ≤ d) (t2 : d ≤ 4) (b3 : 0 ≤ v) (t3 : v ≤ 300) (b4 : 0 ≤ mm) (t4 : mm ≤ 100) (b5 : 0 ≤ m) (t5 : m ≤ 100) (b6 : 0 ≤ n) (t6 : n ≤ 100) (f0 : 0 ≤ (m - n)) (f1 : 0 ≤ (mm - m - 1)) (k0 : ly_hv cst h 19982 0 = some (v)) (k1 : ly_hv cst h 20024 0 = some (mm)) (k2 : ly_hv cst h 60020 0 = some 1) (l0 : hp_a l 0 94) (l1 : hp_i l 1 (p)) (l2 : hp_i l 2 (q)) (l3 : hp_i l 3 (d)) (l4 : hp_i l 4 (n)) (l5 : hp_i l 5 (m)) (e0 : ∀ (l' : am_L) (h' : am_H), ly_hy m_tt ly_TH h' → ly_fr cst [] h h' → h.length ≤ h'.length → ly_hv cst h' 19982 0 = some (v) → ly_hv cst h' 20024 0 = some (mm) → ly_hv cst h' 60020 0 = some 1 → hp_a l' 0 94 → hp_i l' 1 (p) → hp_i l' 2 (q) → hp_i l' 3 (d) → hp_i l' 4 (n) → hp_i l' 5 (m + 1) → hp_F cst strs Φ D M 56 l' [] h') (e1 : ∀ (l' : am_L) (h' : am_H), ly_hy m_tt ly_TH h' → ly_fr cst [] h h' → h.length ≤ h'.length → ly_hv cst h' 19982 0 = some (v) → ly_hv cst h' 20024 0 = some (mm) → ly_hv cst h' 60020 0 = some 1 → hp_a l' 0 94 → hp_i l' 1 (p) → hp_i l' 2 (q) → hp_i l' 3 (d) → hp_i l' 4 (n) → hp_i l' 5 (m) → hp_i l' 6 0 → hp_i l' 7 0 → hp_F cst strs Φ D M 96 l' [] h') : hp_F cst strs Φ D M 56 l [] h := by
  refine hp_arc c hM ka_k hD [p, q, d, v, mm, m, n] rfl hy (hp_Bc (z := p) rfl b0 t0 (hp_Bc (z := q) rfl b1 t1 (hp_Bc (z := d) rfl b2 t2 (hp_Bc (z := v) rfl b3 t3 (hp_Bc (z := mm) rfl b4 t4 (hp_Bc (z := m) rfl b5 t5 (hp_Bc (z := n) rfl b6 t6 hp_Bn))))))) (hp_Fc (z := (0 + (1 * m + ((-1) * n + 0)))) rfl (by omega) (hp_Fc (z := ((-1) + (1 * mm + ((-1) * m + 0)))) rfl (by omega) hp_Fn)) (hp_Kc (zi := (0 + 0)) (zv := (0 + (1 * v + 0))) k0 rfl rfl (by omega) (by omega) (hp_Kc (zi := (0 + 0)) (zv := (0 + (1 * mm + 0))) k1 rfl rfl (by omega) (by omega) (hp_Kc (zi := (0 + 0)) (zv := (1 + 0)) k2 rfl rfl (by omega) (by omega) hp_Kn))) (hp_La l0 (hp_Li (z := (0 + (1 * p + 0))) l1 rfl (by omega) (hp_Li (z := (0 + (1 * q + 0))) l2 rfl (by omega) (hp_Li (z := (0 + (1 * d + 0))) l3 rfl (by omega) (hp_Li (z := (0 + (1 * n + 0))) l4 rfl (by omega) (hp_Li (z := (0 + (1 * m + 0))) l5 rfl (by omega) hp_Ln)))))) trivial ?_ ?_
  · intro p hp ys l' st' h' hys a1 a2 a3 gZ gL gS
    rcases List.mem_cons.mp hp with rfl | hp
    · obtain rfl := hp_y0 hys
      cases hp_gSn gS
      exact e0 l' h' a1 a2 a3 (hp_gK (zi := (0 + 0)) (zv := (0 + (1 * v + 0))) gZ.2.2.2 (List.mem_of_getElem? (i := 0) rfl) rfl rfl (by omega) (by omega)) (hp_gK (zi := (0 + 0)) (zv := (0 + (1 * mm + 0))) gZ.2.2.2 (List.mem_of_getElem? (i := 1) rfl) rfl rfl (by omega) (by omega)) (hp_gK (zi := (0 + 0)) (zv := (1 + 0)) gZ.2.2.2 (List.mem_of_getElem? (i := 2) rfl) rfl rfl (by omega) (by omega)) (hp_gLa gL (List.mem_of_getElem? (i := 0) rfl) (by decide)) (hp_gLi (z := (0 + (1 * p + 0))) gL (List.mem_of_getElem? (i := 1) rfl) rfl (by omega)) (hp_gLi (z := (0 + (1 * q + 0))) gL (List.mem_of_getElem? (i := 2) rfl) rfl (by omega)) (hp_gLi (z := (0 + (1 * d + 0))) gL (List.mem_of_getElem? (i := 3) rfl) rfl (by omega)) (hp_gLi (z := (0 + (1 * n + 0))) gL (List.mem_of_getElem? (i := 4) rfl) rfl (by omega)) (hp_gLi (z := (1 + (1 * m + 0))) gL (List.mem_of_getElem? (i := 5) rfl) rfl (by omega))
    rcases List.mem_cons.mp hp with rfl | hp
    · obtain rfl := hp_y0 hys
      cases hp_gSn gS
      exact e1 l' h' a1 a2 a3 (hp_gK (zi := (0 + 0)) (zv := (0 + (1 * v + 0))) gZ.2.2.2 (List.mem_of_getElem? (i := 0) rfl) rfl rfl (by omega) (by omega)) (hp_gK (zi := (0 + 0)) (zv := (0 + (1 * mm + 0))) gZ.2.2.2 (List.mem_of_getElem? (i := 1) rfl) rfl rfl (by omega) (by omega)) (hp_gK (zi := (0 + 0)) (zv := (1 + 0)) gZ.2.2.2 (List.mem_of_getElem? (i := 2) rfl) rfl rfl (by omega) (by omega)) (hp_gLa gL (List.mem_of_getElem? (i := 0) rfl) (by decide)) (hp_gLi (z := (0 + (1 * p + 0))) gL (List.mem_of_getElem? (i := 1) rfl) rfl (by omega)) (hp_gLi (z := (0 + (1 * q + 0))) gL (List.mem_of_getElem? (i := 2) rfl) rfl (by omega)) (hp_gLi (z := (0 + (1 * d + 0))) gL (List.mem_of_getElem? (i := 3) rfl) rfl (by omega)) (hp_gLi (z := (0 + (1 * n + 0))) gL (List.mem_of_getElem? (i := 4) rfl) rfl (by omega)) (hp_gLi (z := (0 + (1 * m + 0))) gL (List.mem_of_getElem? (i := 5) rfl) rfl (by omega)) (hp_gLi (z := (0 + 0)) gL (List.mem_of_getElem? (i := 6) rfl) rfl (by omega)) (hp_gLi (z := (0 + 0)) gL (List.mem_of_getElem? (i := 7) rfl) rfl (by omega))
    cases hp
  · intro p hp ys v h' hys a1 a2 a3 gZ gS
    cases hp
theorem kb_k : hp_chk 280 56 6 [(0, 0, 119), (1, 0, 119), (2, 0, 4), (3, 0, 300), (4, 0, 100), (5, 0, 100)] [] [(0, .inr (.inr (.inl (some 94)))), (1, .inl (0, [(0, 1)])), (2, .inl (0, [(1, 1)])), (3, .inl (0, [(2, 1)])), (4, .inl (0, [(5, 1)])), (5, .inl (0, [(4, 1)]))] [] [(19982, (0, []), (0, [(3, 1)])), (20024, (0, []), (0, [(4, 1)])), (60020, (0, []), (1, []))] [] 7 [] [([], 6, [(0, 0, 119), (1, 0, 119), (2, 0, 4), (3, 0, 300), (4, 0, 100), (5, 0, 100)], [], [], [.inl (0, [(5, 1)])], [(19982, (0, []), (0, [(3, 1)]))])] = true := by decide +kernel
theorem kb {cst : am_K} {strs : List Nat} {Φ : am_Q → Prop} {D : Nat} {M : am_M} {h : am_H} {l : am_L} (c : hp_C cst strs D) (hM : m_P[280]? = some M) (hD : (7 : Int) ≤ (D : Int) + 1) (hy : ly_hy m_tt ly_TH h) (p q d v mm n : Int) (b0 : 0 ≤ p) (t0 : p ≤ 119) (b1 : 0 ≤ q) (t1 : q ≤ 119) (b2 : 0 ≤ d) (t2 : d ≤ 4) (b3 : 0 ≤ v) (t3 : v ≤ 300) (b4 : 0 ≤ mm) (t4 : mm ≤ 100) (b5 : 0 ≤ n) (t5 : n ≤ 100) (k0 : ly_hv cst h 19982 0 = some (v)) (k1 : ly_hv cst h 20024 0 = some (mm)) (k2 : ly_hv cst h 60020 0 = some 1) (l0 : hp_a l 0 94) (l1 : hp_i l 1 (p)) (l2 : hp_i l 2 (q)) (l3 : hp_i l 3 (d)) (l4 : hp_i l 4 (n)) (l5 : hp_i l 5 (mm)) (r0 : ∀ (h' : am_H) (y0 : Int32), y0.toInt = (n) → ly_hy m_tt ly_TH h' → ly_fr cst [] h h' → h.length ≤ h'.length → ly_hv cst h' 19982 0 = some (v) → Φ (some (.int y0), h', 0, 0)) : hp_F cst strs Φ D M 56 l [] h := by
  refine hp_arc c hM kb_k hD [p, q, d, v, mm, n] rfl hy (hp_Bc (z := p) rfl b0 t0 (hp_Bc (z := q) rfl b1 t1 (hp_Bc (z := d) rfl b2 t2 (hp_Bc (z := v) rfl b3 t3 (hp_Bc (z := mm) rfl b4 t4 (hp_Bc (z := n) rfl b5 t5 hp_Bn)))))) hp_Fn (hp_Kc (zi := (0 + 0)) (zv := (0 + (1 * v + 0))) k0 rfl rfl (by omega) (by omega) (hp_Kc (zi := (0 + 0)) (zv := (0 + (1 * mm + 0))) k1 rfl rfl (by omega) (by omega) (hp_Kc (zi := (0 + 0)) (zv := (1 + 0)) k2 rfl rfl (by omega) (by omega) hp_Kn))) (hp_La l0 (hp_Li (z := (0 + (1 * p + 0))) l1 rfl (by omega) (hp_Li (z := (0 + (1 * q + 0))) l2 rfl (by omega) (hp_Li (z := (0 + (1 * d + 0))) l3 rfl (by omega) (hp_Li (z := (0 + (1 * n + 0))) l4 rfl (by omega) (hp_Li (z := (0 + (1 * mm + 0))) l5 rfl (by omega) hp_Ln)))))) trivial ?_ ?_
  · intro p hp ys l' st' h' hys a1 a2 a3 gZ gL gS
    cases hp
  · intro p hp ys v h' hys a1 a2 a3 gZ gS
    rcases List.mem_cons.mp hp with rfl | hp
    · obtain rfl := hp_y0 hys
      cases v with
      | none => cases gS
      | some w =>
        obtain ⟨y0, t0, s0, q0, -⟩ := hp_gSi (z := (0 + (1 * n + 0))) gS rfl
        cases s0
        exact r0 h' y0 (by omega) a1 a2 a3 (hp_gK (zi := (0 + 0)) (zv := (0 + (1 * v + 0))) gZ.2.2.2 (List.mem_of_getElem? (i := 0) rfl) rfl rfl (by omega) (by omega))
    cases hp
theorem kc_k : hp_chk 280 96 9 [(0, 0, 119), (1, 0, 119), (2, 0, 4), (3, 0, 300), (4, 0, 100), (5, 0, 100), (6, 0, 100), (7, 0, 12), (8, 0, 1)] [(0, [(5, 1), (6, (-1))]), ((-1), [(4, 1), (5, (-1))])] [(0, .inr (.inr (.inl (some 94)))), (1, .inl (0, [(0, 1)])), (2, .inl (0, [(1, 1)])), (3, .inl (0, [(2, 1)])), (4, .inl (0, [(6, 1)])), (5, .inl (0, [(5, 1)])), (6, .inl (0, [(8, 1)])), (7, .inl (0, [(7, 1)]))] [] [(19982, (0, []), (0, [(3, 1)])), (20024, (0, []), (0, [(4, 1)])), (60020, (0, []), (1, []))] [20053, 20054, 27904, 30464, 30720, 30976, 31232, 31488, 32000, 34304, 35328, 35584, 35840] 7 [(96, ([(0, 6, (0, []))], 10, [(0, 0, 119), (1, 0, 119), (2, 0, 4), (3, 0, 300), (4, 0, 100), (5, 0, 100), (6, 0, 100), (7, 0, 12), (8, 0, 1), (9, 0, 1)], [(11, [(7, (-1))])], [(0, .inr (.inr (.inl (some 94)))), (1, .inl (0, [(0, 1)])), (2, .inl (0, [(1, 1)])), (3, .inl (0, [(2, 1)])), (4, .inl (0, [(6, 1)])), (5, .inl (0, [(5, 1)])), (6, .inl (0, [(9, 1)])), (7, .inl (1, [(7, 1)]))], [], [(19982, (0, []), (0, [(3, 1)])), (20024, (0, []), (0, [(4, 1)])), (60020, (0, []), (1, []))])), (56, ([], 9, [(0, 0, 119), (1, 0, 119), (2, 0, 4), (3, 0, 300), (4, 0, 100), (5, 0, 100), (6, 0, 100), (7, 0, 12), (8, 0, 1)], [], [(0, .inr (.inr (.inl (some 94)))), (1, .inl (0, [(0, 1)])), (2, .inl (0, [(1, 1)])), (3, .inl (0, [(2, 1)])), (4, .inl (0, [(6, 1)])), (5, .inl (1, [(5, 1)]))], [], [(19982, (0, []), (0, [(3, 1)])), (20024, (0, []), (0, [(4, 1)])), (60020, (0, []), (1, []))])), (56, ([], 9, [(0, 0, 119), (1, 0, 119), (2, 0, 4), (3, 0, 300), (4, 0, 100), (5, 0, 100), (6, 0, 100), (7, 0, 12), (8, 0, 1)], [], [(0, .inr (.inr (.inl (some 94)))), (1, .inl (0, [(0, 1)])), (2, .inl (0, [(1, 1)])), (3, .inl (0, [(2, 1)])), (4, .inl (1, [(6, 1)])), (5, .inl (1, [(5, 1)]))], [], [(19982, (0, []), (0, [(3, 1)])), (20024, (0, []), (0, [(4, 1)])), (60020, (0, []), (1, []))]))] [] = true := by decide +kernel
theorem kc {cst : am_K} {strs : List Nat} {Φ : am_Q → Prop} {D : Nat} {M : am_M} {h : am_H} {l : am_L} (c : hp_C cst strs D) (hM : m_P[280]? = some M) (hD : (7 : Int) ≤ (D : Int) + 1) (hy : ly_hy m_tt ly_TH h) (p q d v mm m n i hit : Int) (b0 : 0 ≤ p) (t0 : p ≤ 119) (b1 : 0 ≤ q) (t1 : q ≤ 119) (b2 : 0 ≤ d) (t2 : d ≤ 4) (b3 : 0 ≤ v) (t3 : v ≤ 300) (b4 : 0 ≤ mm) (t4 : mm ≤ 100) (b5 : 0 ≤ m) (t5 : m ≤ 100) (b6 : 0 ≤ n) (t6 : n ≤ 100) (b7 : 0 ≤ i) (t7 : i ≤ 12) (b8 : 0 ≤ hit) (t8 : hit ≤ 1) (f0 : 0 ≤ (m - n)) (f1 : 0 ≤ (mm - m - 1)) (k0 : ly_hv cst h 19982 0 = some (v)) (k1 : ly_hv cst h 20024 0 = some (mm)) (k2 : ly_hv cst h 60020 0 = some 1) (l0 : hp_a l 0 94) (l1 : hp_i l 1 (p)) (l2 : hp_i l 2 (q)) (l3 : hp_i l 3 (d)) (l4 : hp_i l 4 (n)) (l5 : hp_i l 5 (m)) (l6 : hp_i l 6 (hit)) (l7 : hp_i l 7 (i)) (e0 : ∀ (l' : am_L) (h' : am_H) (h2 : Int), ly_hy m_tt ly_TH h' → ly_fr cst [20053, 20054, 27904, 30464, 30720, 30976, 31232, 31488, 32000, 34304, 35328, 35584, 35840] h h' → h.length ≤ h'.length → 0 ≤ h2 → h2 ≤ 1 → 0 ≤ (-i + 11) → ly_hv cst h' 19982 0 = some (v) → ly_hv cst h' 20024 0 = some (mm) → ly_hv cst h' 60020 0 = some 1 → hp_a l' 0 94 → hp_i l' 1 (p) → hp_i l' 2 (q) → hp_i l' 3 (d) → hp_i l' 4 (n) → hp_i l' 5 (m) → hp_i l' 6 (h2) → hp_i l' 7 (i + 1) → hp_F cst strs Φ D M 96 l' [] h') (e1 : ∀ (l' : am_L) (h' : am_H), ly_hy m_tt ly_TH h' → ly_fr cst [20053, 20054, 27904, 30464, 30720, 30976, 31232, 31488, 32000, 34304, 35328, 35584, 35840] h h' → h.length ≤ h'.length → ly_hv cst h' 19982 0 = some (v) → ly_hv cst h' 20024 0 = some (mm) → ly_hv cst h' 60020 0 = some 1 → hp_a l' 0 94 → hp_i l' 1 (p) → hp_i l' 2 (q) → hp_i l' 3 (d) → hp_i l' 4 (n) → hp_i l' 5 (m + 1) → hp_F cst strs Φ D M 56 l' [] h') (e2 : ∀ (l' : am_L) (h' : am_H), ly_hy m_tt ly_TH h' → ly_fr cst [20053, 20054, 27904, 30464, 30720, 30976, 31232, 31488, 32000, 34304, 35328, 35584, 35840] h h' → h.length ≤ h'.length → ly_hv cst h' 19982 0 = some (v) → ly_hv cst h' 20024 0 = some (mm) → ly_hv cst h' 60020 0 = some 1 → hp_a l' 0 94 → hp_i l' 1 (p) → hp_i l' 2 (q) → hp_i l' 3 (d) → hp_i l' 4 (n + 1) → hp_i l' 5 (m + 1) → hp_F cst strs Φ D M 56 l' [] h') : hp_F cst strs Φ D M 96 l [] h := by
  refine hp_arc c hM kc_k hD [p, q, d, v, mm, m, n, i, hit] rfl hy (hp_Bc (z := p) rfl b0 t0 (hp_Bc (z := q) rfl b1 t1 (hp_Bc (z := d) rfl b2 t2 (hp_Bc (z := v) rfl b3 t3 (hp_Bc (z := mm) rfl b4 t4 (hp_Bc (z := m) rfl b5 t5 (hp_Bc (z := n) rfl b6 t6 (hp_Bc (z := i) rfl b7 t7 (hp_Bc (z := hit) rfl b8 t8 hp_Bn))))))))) (hp_Fc (z := (0 + (1 * m + ((-1) * n + 0)))) rfl (by omega) (hp_Fc (z := ((-1) + (1 * mm + ((-1) * m + 0)))) rfl (by omega) hp_Fn)) (hp_Kc (zi := (0 + 0)) (zv := (0 + (1 * v + 0))) k0 rfl rfl (by omega) (by omega) (hp_Kc (zi := (0 + 0)) (zv := (0 + (1 * mm + 0))) k1 rfl rfl (by omega) (by omega) (hp_Kc (zi := (0 + 0)) (zv := (1 + 0)) k2 rfl rfl (by omega) (by omega) hp_Kn))) (hp_La l0 (hp_Li (z := (0 + (1 * p + 0))) l1 rfl (by omega) (hp_Li (z := (0 + (1 * q + 0))) l2 rfl (by omega) (hp_Li (z := (0 + (1 * d + 0))) l3 rfl (by omega) (hp_Li (z := (0 + (1 * n + 0))) l4 rfl (by omega) (hp_Li (z := (0 + (1 * m + 0))) l5 rfl (by omega) (hp_Li (z := (0 + (1 * hit + 0))) l6 rfl (by omega) (hp_Li (z := (0 + (1 * i + 0))) l7 rfl (by omega) hp_Ln)))))))) trivial ?_ ?_
  · intro p hp ys l' st' h' hys a1 a2 a3 gZ gL gS
    rcases List.mem_cons.mp hp with rfl | hp
    · obtain ⟨h2, rfl⟩ := hp_y1 hys
      cases hp_gSn gS
      have fz0 := hp_gF (z := (11 + ((-1) * i + 0))) gZ.2.2.1 (List.mem_of_getElem? (i := 0) rfl) rfl
      exact e0 l' h' h2 a1 a2 a3 (hp_gB (z := h2) gZ.2.1 (List.mem_of_getElem? (i := 9) rfl) rfl).1 (hp_gB (z := h2) gZ.2.1 (List.mem_of_getElem? (i := 9) rfl) rfl).2 (by omega) (hp_gK (zi := (0 + 0)) (zv := (0 + (1 * v + 0))) gZ.2.2.2 (List.mem_of_getElem? (i := 0) rfl) rfl rfl (by omega) (by omega)) (hp_gK (zi := (0 + 0)) (zv := (0 + (1 * mm + 0))) gZ.2.2.2 (List.mem_of_getElem? (i := 1) rfl) rfl rfl (by omega) (by omega)) (hp_gK (zi := (0 + 0)) (zv := (1 + 0)) gZ.2.2.2 (List.mem_of_getElem? (i := 2) rfl) rfl rfl (by omega) (by omega)) (hp_gLa gL (List.mem_of_getElem? (i := 0) rfl) (by decide)) (hp_gLi (z := (0 + (1 * p + 0))) gL (List.mem_of_getElem? (i := 1) rfl) rfl (by omega)) (hp_gLi (z := (0 + (1 * q + 0))) gL (List.mem_of_getElem? (i := 2) rfl) rfl (by omega)) (hp_gLi (z := (0 + (1 * d + 0))) gL (List.mem_of_getElem? (i := 3) rfl) rfl (by omega)) (hp_gLi (z := (0 + (1 * n + 0))) gL (List.mem_of_getElem? (i := 4) rfl) rfl (by omega)) (hp_gLi (z := (0 + (1 * m + 0))) gL (List.mem_of_getElem? (i := 5) rfl) rfl (by omega)) (hp_gLi (z := (0 + (1 * h2 + 0))) gL (List.mem_of_getElem? (i := 6) rfl) rfl (by omega)) (hp_gLi (z := (1 + (1 * i + 0))) gL (List.mem_of_getElem? (i := 7) rfl) rfl (by omega))
    rcases List.mem_cons.mp hp with rfl | hp
    · obtain rfl := hp_y0 hys
      cases hp_gSn gS
      exact e1 l' h' a1 a2 a3 (hp_gK (zi := (0 + 0)) (zv := (0 + (1 * v + 0))) gZ.2.2.2 (List.mem_of_getElem? (i := 0) rfl) rfl rfl (by omega) (by omega)) (hp_gK (zi := (0 + 0)) (zv := (0 + (1 * mm + 0))) gZ.2.2.2 (List.mem_of_getElem? (i := 1) rfl) rfl rfl (by omega) (by omega)) (hp_gK (zi := (0 + 0)) (zv := (1 + 0)) gZ.2.2.2 (List.mem_of_getElem? (i := 2) rfl) rfl rfl (by omega) (by omega)) (hp_gLa gL (List.mem_of_getElem? (i := 0) rfl) (by decide)) (hp_gLi (z := (0 + (1 * p + 0))) gL (List.mem_of_getElem? (i := 1) rfl) rfl (by omega)) (hp_gLi (z := (0 + (1 * q + 0))) gL (List.mem_of_getElem? (i := 2) rfl) rfl (by omega)) (hp_gLi (z := (0 + (1 * d + 0))) gL (List.mem_of_getElem? (i := 3) rfl) rfl (by omega)) (hp_gLi (z := (0 + (1 * n + 0))) gL (List.mem_of_getElem? (i := 4) rfl) rfl (by omega)) (hp_gLi (z := (1 + (1 * m + 0))) gL (List.mem_of_getElem? (i := 5) rfl) rfl (by omega))
    rcases List.mem_cons.mp hp with rfl | hp
    · obtain rfl := hp_y0 hys
      cases hp_gSn gS
      exact e2 l' h' a1 a2 a3 (hp_gK (zi := (0 + 0)) (zv := (0 + (1 * v + 0))) gZ.2.2.2 (List.mem_of_getElem? (i := 0) rfl) rfl rfl (by omega) (by omega)) (hp_gK (zi := (0 + 0)) (zv := (0 + (1 * mm + 0))) gZ.2.2.2 (List.mem_of_getElem? (i := 1) rfl) rfl rfl (by omega) (by omega)) (hp_gK (zi := (0 + 0)) (zv := (1 + 0)) gZ.2.2.2 (List.mem_of_getElem? (i := 2) rfl) rfl rfl (by omega) (by omega)) (hp_gLa gL (List.mem_of_getElem? (i := 0) rfl) (by decide)) (hp_gLi (z := (0 + (1 * p + 0))) gL (List.mem_of_getElem? (i := 1) rfl) rfl (by omega)) (hp_gLi (z := (0 + (1 * q + 0))) gL (List.mem_of_getElem? (i := 2) rfl) rfl (by omega)) (hp_gLi (z := (0 + (1 * d + 0))) gL (List.mem_of_getElem? (i := 3) rfl) rfl (by omega)) (hp_gLi (z := (1 + (1 * n + 0))) gL (List.mem_of_getElem? (i := 4) rfl) rfl (by omega)) (hp_gLi (z := (1 + (1 * m + 0))) gL (List.mem_of_getElem? (i := 5) rfl) rfl (by omega))
    cases hp
  · intro p hp ys v h' hys a1 a2 a3 gZ gS
    cases hp
abbrev kn_mods : List Nat := [19982, 20053, 20054, 21248, 21504, 21760, 22016, 22272, 22528, 27904, 30464, 30720, 30976, 31232, 31488, 32000, 34304, 35328, 35584, 35840]
abbrev kn_lm : List Nat := [20053, 20054, 27904, 30464, 30720, 30976, 31232, 31488, 32000, 34304, 35328, 35584, 35840]
def kn_Φ (cst : am_K) (h0 : am_H) (v : Int) (r : am_Q) : Prop := (∃ x : Int32, r.1 = some (.int x)) ∧ r.2.2.1 = 0 ∧ r.2.2.2 = 0 ∧ ly_hy m_tt ly_TH r.2.1 ∧ ly_fr cst kn_mods h0 r.2.1 ∧ ly_hv cst r.2.1 19982 0 = some v
theorem hp_sub {ms ms' : List Nat} (h : ms.all (fun q => ly_has q ms') = true) {cst : am_K} {a b : am_H} (f : ly_fr cst ms a b) : ly_fr cst ms' a b := by
  intro r i v hr e
  refine f r i v ?_ e
  cases hh : ly_has r ms with
  | false => rfl
  | true =>
    unfold ly_has at hh
    obtain ⟨q, hq, hqe⟩ := List.any_eq_true.mp hh
    have := List.all_eq_true.mp h q hq
    rw [← sx_beqn.mp hqe, this] at hr
    cases hr
theorem kn_sub {ms : List Nat} (h : ms.all (fun q => ly_has q kn_mods) = true) {cst : am_K} {a b : am_H} (f : ly_fr cst ms a b) : ly_fr cst kn_mods a b := hp_sub h f
theorem hp_mono {cst : am_K} {strs : List Nat} {Φ Ψ : am_Q → Prop} {D : Nat} {M : am_M} {pc : Nat} {l : am_L} {st : List Value} {h : am_H} (H : hp_F cst strs Φ D M pc l st h) (k : ∀ r, Φ r → Ψ r) : hp_F cst strs Ψ D M pc l st h := by
  obtain ⟨n, r, hgo, hΦ⟩ := H
  exact ⟨n, r, hgo, k _ hΦ⟩
def kn_L (cst : am_K) (h1 : am_H) (v : Int) (r : am_Q) : Prop := (∃ x : Int32, r.1 = some (.int x)) ∧ r.2.2.1 = 0 ∧ r.2.2.2 = 0 ∧ ly_hy m_tt ly_TH r.2.1 ∧ ly_fr cst kn_lm h1 r.2.1 ∧ ly_hv cst r.2.1 19982 0 = some v
/-- tell as a call -/
theorem tl_run {cst : am_K} {strs : List Nat} {D : Nat} {h : am_H} (c : hp_C cst strs D) (hD : (2 : Int) ≤ (D : Int) + 1) (hy : ly_hy m_tt ly_TH h) {xk xp xq xd x0 : Int32} {v : Int} (ek : xk.toInt = 2) (e0 : x0.toInt = 0) (p0 : 0 ≤ xp.toInt) (p1 : xp.toInt ≤ 119) (q0 : 0 ≤ xq.toInt) (q1 : xq.toInt ≤ 119) (d0 : 0 ≤ xd.toInt) (d1 : xd.toInt ≤ 4) (v0 : 0 ≤ v) (v1 : v ≤ 300) (kv : ly_hv cst h 19982 0 = some v) :
    ∃ r, am_Run cst m_cl m_tt m_P strs sx_bi (D + 1) 278 [.ref 94, .int xk, .int xp, .int xq, .int xd, .int x0] h r ∧ (∃ x : Int32, r.1 = some (.int x) ∧ x.toInt = (if v = 300 then -3 else v + 1)) ∧ r.2.2.1 = 0 ∧ r.2.2.2 = 0 ∧ ly_hy m_tt ly_TH r.2.1 ∧ ly_fr cst kn_mods h r.2.1 ∧ ly_hv cst r.2.1 19982 0 = some (if v = 300 then 300 else v + 1) := by
  obtain ⟨M, hM, hl⟩ := hp_M (mi := 278) (k := 6) (by decide +kernel)
  have go : hp_F cst strs (fun r => (∃ x : Int32, r.1 = some (.int x) ∧ x.toInt = (if v = 300 then -3 else v + 1)) ∧ r.2.2.1 = 0 ∧ r.2.2.2 = 0 ∧ ly_hy m_tt ly_TH r.2.1 ∧ ly_fr cst kn_mods h r.2.1 ∧ ly_hv cst r.2.1 19982 0 = some (if v = 300 then 300 else v + 1)) D M 0 (lv_args 0 [.ref 94, .int xk, .int xp, .int xq, .int xd, .int x0]) [] h := by
    by_cases q : v = 300
    · rw [if_pos q, if_pos q]
      rw [q] at kv
      exact tl0 c hM hD hy xp.toInt xq.toInt xd.toInt p0 p1 q0 q1 d0 d1 kv rfl ⟨xk, rfl, ek⟩ ⟨xp, rfl, rfl⟩ ⟨xq, rfl, rfl⟩ ⟨xd, rfl, rfl⟩ ⟨x0, rfl, e0⟩ (fun h' x hx u1 u2 u3 k1 => ⟨⟨x, rfl, hx⟩, rfl, rfl, u1, kn_sub rfl u2, k1⟩)
    · rw [if_neg q, if_neg q]
      exact tl1 c hM hD hy xp.toInt xq.toInt xd.toInt v p0 p1 q0 q1 d0 d1 v0 (by omega) kv rfl ⟨xk, rfl, ek⟩ ⟨xp, rfl, rfl⟩ ⟨xq, rfl, rfl⟩ ⟨xd, rfl, rfl⟩ ⟨x0, rfl, e0⟩ (fun h' x hx u1 u2 u3 k1 => ⟨⟨x, rfl, hx⟩, rfl, rfl, u1, kn_sub rfl u2, k1⟩)
  obtain ⟨n, r, hgo, hx, h1, h2, h3⟩ := go
  simp only [Nat.zero_add] at h1 h2
  exact ⟨r, Or.inr ⟨M, n, hM, hl, hgo⟩, hx, h1, h2, h3⟩
section KN
variable {cst : am_K} {strs : List Nat} {D : Nat} {M : am_M} {h0 : am_H} {p q d v mm : Int}
def kn_I (cst : am_K) (h0 : am_H) (v mm : Int) (h : am_H) : Prop := ly_hy m_tt ly_TH h ∧ ly_fr cst kn_lm h0 h ∧ ly_hv cst h 19982 0 = some v ∧ ly_hv cst h 20024 0 = some mm ∧ ly_hv cst h 60020 0 = some 1
def kn_l (l : am_L) (p q d n m : Int) : Prop := hp_a l 0 94 ∧ hp_i l 1 p ∧ hp_i l 2 q ∧ hp_i l 3 d ∧ hp_i l 4 n ∧ hp_i l 5 m
theorem kn_in (c : hp_C cst strs D) (hM : m_P[280]? = some M) (hD : (7 : Int) ≤ (D : Int) + 1) (p0 : 0 ≤ p) (p1 : p ≤ 119) (q0 : 0 ≤ q) (q1 : q ≤ 119) (d0 : 0 ≤ d) (d1 : d ≤ 4) (v0 : 0 ≤ v) (v1 : v ≤ 300) (mm0 : 0 ≤ mm) (mm1 : mm ≤ 100) {m n : Int} (m0 : 0 ≤ m) (m1 : m < mm) (n0 : 0 ≤ n) (n1 : n ≤ m)
    (go : ∀ (h : am_H) (l : am_L) (n' : Int), 0 ≤ n' → n' ≤ m + 1 → kn_I cst h0 v mm h → kn_l l p q d n' (m + 1) → hp_F cst strs (kn_L cst h0 v) D M 56 l [] h) :
    ∀ (N : Nat) (h : am_H) (l : am_L) (i t : Int), (12 - i).toNat < N → 0 ≤ i → i ≤ 12 → 0 ≤ t → t ≤ 1 → kn_I cst h0 v mm h → kn_l l p q d n m → hp_i l 6 t → hp_i l 7 i → hp_F cst strs (kn_L cst h0 v) D M 96 l [] h := by
  intro N
  induction N with
  | zero => intro h l i t hN; omega
  | succ N ih =>
    intro h l i t hN i0 i1 t0 t1 I W l6 l7
    obtain ⟨hy, fr, kv, km, kq⟩ := I
    obtain ⟨w0, w1, w2, w3, w4, w5⟩ := W
    exact kc c hM hD hy p q d v mm m n i t p0 p1 q0 q1 d0 d1 v0 v1 mm0 mm1 m0 (by omega) n0 (by omega) i0 i1 t0 t1 (by omega) (by omega) kv km kq w0 w1 w2 w3 w4 w5 l6 l7
      (fun l' h' t2 u1 u2 u3 t20 t21 f0 k1 k2 k3 x0 x1 x2 x3 x4 x5 x6 x7 => ih h' l' (i + 1) t2 (by omega) (by omega) (by omega) t20 t21 ⟨u1, ly_fr_tr fr (hp_sub rfl u2), k1, k2, k3⟩ ⟨x0, x1, x2, x3, x4, x5⟩ x6 x7)
      (fun l' h' u1 u2 u3 k1 k2 k3 x0 x1 x2 x3 x4 x5 => go h' l' n n0 (by omega) ⟨u1, ly_fr_tr fr (hp_sub rfl u2), k1, k2, k3⟩ ⟨x0, x1, x2, x3, x4, x5⟩)
      (fun l' h' u1 u2 u3 k1 k2 k3 x0 x1 x2 x3 x4 x5 => go h' l' (n + 1) (by omega) (by omega) ⟨u1, ly_fr_tr fr (hp_sub rfl u2), k1, k2, k3⟩ ⟨x0, x1, x2, x3, x4, x5⟩)
theorem kn_loop (c : hp_C cst strs D) (hM : m_P[280]? = some M) (hD : (7 : Int) ≤ (D : Int) + 1) (p0 : 0 ≤ p) (p1 : p ≤ 119) (q0 : 0 ≤ q) (q1 : q ≤ 119) (d0 : 0 ≤ d) (d1 : d ≤ 4) (v0 : 0 ≤ v) (v1 : v ≤ 300) (mm0 : 0 ≤ mm) (mm1 : mm ≤ 100) : ∀ (N : Nat) (h : am_H) (l : am_L) (m n : Int), (mm - m).toNat < N → 0 ≤ m → m ≤ mm → 0 ≤ n → n ≤ m → kn_I cst h0 v mm h → kn_l l p q d n m → hp_F cst strs (kn_L cst h0 v) D M 56 l [] h := by
  intro N
  induction N with
  | zero => intro h l m n hN; omega
  | succ N ih =>
    intro h l m n hN m0 m1 n0 n1 I W
    obtain ⟨hy, fr, kv, km, kq⟩ := id I
    obtain ⟨w0, w1, w2, w3, w4, w5⟩ := W
    by_cases hm : m = mm
    · subst hm
      exact kb c hM hD hy p q d v m n p0 p1 q0 q1 d0 d1 v0 v1 mm0 mm1 n0 (by omega) kv km kq w0 w1 w2 w3 w4 w5 (fun h' x hx u1 u2 u3 k1 => ⟨⟨x, rfl⟩, rfl, rfl, u1, ly_fr_tr fr (hp_sub rfl u2), k1⟩)
    · have go : ∀ (h : am_H) (l : am_L) (n' : Int), 0 ≤ n' → n' ≤ m + 1 → kn_I cst h0 v mm h → kn_l l p q d n' (m + 1) → hp_F cst strs (kn_L cst h0 v) D M 56 l [] h := fun h l n' a b I' W' => ih h l (m + 1) n' (by omega) (by omega) (by omega) a b I' W'
      exact ka c hM hD hy p q d v mm m n p0 p1 q0 q1 d0 d1 v0 v1 mm0 mm1 m0 (by omega) n0 (by omega) (by omega) (by omega) kv km kq w0 w1 w2 w3 w4 w5
        (fun l' h' u1 u2 u3 k1 k2 k3 x0 x1 x2 x3 x4 x5 => go h' l' n n0 (by omega) ⟨u1, ly_fr_tr fr (hp_sub rfl u2), k1, k2, k3⟩ ⟨x0, x1, x2, x3, x4, x5⟩)
        (fun l' h' u1 u2 u3 k1 k2 k3 x0 x1 x2 x3 x4 x5 x6 x7 => kn_in c hM hD p0 p1 q0 q1 d0 d1 v0 v1 mm0 mm1 m0 (by omega) n0 n1 go 14 h' l' 0 0 (by decide) (by omega) (by omega) (by omega) (by omega) ⟨u1, ly_fr_tr fr (hp_sub rfl u2), k1, k2, k3⟩ ⟨x0, x1, x2, x3, x4, x5⟩ x6 x7)
end KN
def kn_ok (p q d u : Int) : Prop := 0 ≤ p ∧ p < u ∧ 0 ≤ q ∧ q < u ∧ p ≠ q ∧ 0 ≤ d ∧ d ≤ 4
theorem hp_fld {cst : am_K} {h : am_H} {c ci k : Nat} {fs : List (List ly_F)} {lo hi : Int} (hy : ly_hy m_tt ly_TH h) (ht : ly_ths ly_TH c = some (.inr (ci, fs))) (hf : sx_ch 8 k fs = some (.inl (lo, hi))) (hk : k < 256) : ∃ v, ly_hv cst h (256 * c + k) 0 = some v ∧ lo ≤ v ∧ v ≤ hi := by
  have hc := ly_ths_lt ht
  obtain ⟨x, hx, vs, rfl, -, hvs⟩ := hy.2.1 _ _ ht
  obtain ⟨w, hw, n, rfl, n0, n1⟩ := hvs _ _ hf
  refine ⟨n.toInt, ?_, n0, n1⟩
  rw [ly_hv0 (by omega), ly_h0_of1 hc hk, hx]
  simp only [ly_hs]
  rw [if_pos trivial, hw]
theorem kn_run {cst : am_K} {strs : List Nat} {D : Nat} {h : am_H} (c1 : hp_C cst strs D) (c : hp_C cst strs (D + 1)) (hD : (7 : Int) ≤ ((D + 1 : Nat) : Int) + 1) (hy : ly_hy m_tt ly_TH h) {xp xq xd : Int32} {u v : Int} (u0 : 0 ≤ u) (u1 : u ≤ 120) (v0 : 0 ≤ v) (v1 : v ≤ 300) (ku : ly_hv cst h 19978 0 = some u) (kv : ly_hv cst h 19982 0 = some v) (kq : ly_hv cst h 60020 0 = some 1) {v' : Int} (hv : (¬ kn_ok xp.toInt xq.toInt xd.toInt u → v' = v) ∧ (kn_ok xp.toInt xq.toInt xd.toInt u → v' = if v = 300 then 300 else v + 1)) :
    ∃ r, am_Run cst m_cl m_tt m_P strs sx_bi (D + 1 + 1) 280 [.ref 94, .int xp, .int xq, .int xd] h r ∧ kn_Φ cst h v' r := by
  obtain ⟨M, hM, hl⟩ := hp_M (mi := 280) (k := 4) (by decide +kernel)
  have a0 := xp.le_toInt
  have a1 := xp.toInt_le
  have b0 := xq.le_toInt
  have b1 := xq.toInt_le
  have e0 := xd.le_toInt
  have e1 := xd.toInt_le
  have go : hp_F cst strs (kn_Φ cst h v') (D + 1) M 0 (lv_args 0 [.ref 94, .int xp, .int xq, .int xd]) [] h := by
    have no : ¬ kn_ok xp.toInt xq.toInt xd.toInt u → ∀ (h' : am_H) (z : Int32), z.toInt = -2 → ly_hy m_tt ly_TH h' → ly_fr cst [] h h' → h.length ≤ h'.length → kn_Φ cst h v' (some (.int z), h', 0, 0) := fun nk h' z hz w1 w2 w3 => ⟨⟨z, rfl⟩, rfl, rfl, w1, kn_sub rfl w2, by rw [hv.1 nk]; exact w2 _ _ _ rfl kv⟩
    by_cases p1 : xp.toInt ≤ -1
    · exact kp0 c hM (by omega) hy xp.toInt xq.toInt xd.toInt u a0 p1 b0 b1 e0 e1 u0 u1 ku rfl ⟨xp, rfl, rfl⟩ ⟨xq, rfl, rfl⟩ ⟨xd, rfl, rfl⟩ (no (fun k => by have := k.1; omega))
    by_cases p2 : u ≤ xp.toInt
    · exact kp1 c hM (by omega) hy xp.toInt xq.toInt xd.toInt u (by omega) a1 b0 b1 e0 e1 u0 u1 (by omega) ku rfl ⟨xp, rfl, rfl⟩ ⟨xq, rfl, rfl⟩ ⟨xd, rfl, rfl⟩ (no (fun k => by have := k.2.1; omega))
    by_cases p3 : xq.toInt ≤ -1
    · exact kp2 c hM (by omega) hy xp.toInt xq.toInt xd.toInt u (by omega) (by omega) b0 p3 e0 e1 u0 u1 (by omega) ku rfl ⟨xp, rfl, rfl⟩ ⟨xq, rfl, rfl⟩ ⟨xd, rfl, rfl⟩ (no (fun k => by have := k.2.2.1; omega))
    by_cases p4 : u ≤ xq.toInt
    · exact kp3 c hM (by omega) hy xp.toInt xq.toInt xd.toInt u (by omega) (by omega) (by omega) b1 e0 e1 u0 u1 (by omega) (by omega) ku rfl ⟨xp, rfl, rfl⟩ ⟨xq, rfl, rfl⟩ ⟨xd, rfl, rfl⟩ (no (fun k => by have := k.2.2.2.1; omega))
    by_cases p5 : xp.toInt = xq.toInt
    · exact kp4 c hM (by omega) hy xp.toInt xd.toInt u (by omega) (by omega) e0 e1 u0 u1 (by omega) ku rfl ⟨xp, rfl, rfl⟩ ⟨xq, rfl, p5.symm⟩ ⟨xd, rfl, rfl⟩ (no (fun k => k.2.2.2.2.1 p5))
    have ne : ly_hv cst h 61000 (xp.toInt - xq.toInt) = some 1 := hp_ne (by omega)
    by_cases p6 : xd.toInt ≤ -1
    · exact kp5 c hM (by omega) hy xp.toInt xq.toInt xd.toInt u (by omega) (by omega) (by omega) (by omega) e0 p6 u0 u1 (by omega) (by omega) ku ne rfl ⟨xp, rfl, rfl⟩ ⟨xq, rfl, rfl⟩ ⟨xd, rfl, rfl⟩ (no (fun k => by have := k.2.2.2.2.2.1; omega))
    by_cases p7 : 5 ≤ xd.toInt
    · exact kp6 c hM (by omega) hy xp.toInt xq.toInt xd.toInt u (by omega) (by omega) (by omega) (by omega) p7 e1 u0 u1 (by omega) (by omega) ku ne rfl ⟨xp, rfl, rfl⟩ ⟨xq, rfl, rfl⟩ ⟨xd, rfl, rfl⟩ (no (fun k => by have := k.2.2.2.2.2.2; omega))
    have ev := hv.2 ⟨by omega, by omega, by omega, by omega, p5, by omega, by omega⟩
    refine kp7 c hM (by omega) hy xp.toInt xq.toInt xd.toInt u (by omega) (by omega) (by omega) (by omega) (by omega) (by omega) u0 u1 (by omega) (by omega) ku ne rfl ⟨xp, rfl, rfl⟩ ⟨xq, rfl, rfl⟩ ⟨xd, rfl, rfl⟩ (fun l' h' y0 y1 y2 y3 y4 f0 f1 f2 f3 f4 w1 w2 w3 x0 x1 x2 x3 => ?_)
    obtain ⟨r, hrun, ⟨z, r1, hz⟩, r2, r3, rhy, rfr, rk⟩ := tl_run (xk := y4) (xp := y3) (xq := y2) (xd := y1) (x0 := y0) c1 (by omega) w1 f4 f0 (by omega) (by omega) (by omega) (by omega) (by omega) (by omega) v0 v1 (w2 _ _ _ rfl kv)
    refine hp_call (mi := 280) (pc := 39) (tg := 278) (na := 6) (c := 78) (ci := 12) (st0 := [.int y0, .int y1, .int y2, .int y3, .int y4, .ref 94]) (st := []) (av := [.int y4, .int y3, .int y2, .int y1, .int y0]) hM (by decide +kernel) w1 rfl rfl rfl (by decide) hrun r2 r3 ?_
    rw [r1]
    have fr2 : ly_fr cst kn_mods h r.2.1 := ly_fr_tr (kn_sub rfl w2) rfr
    by_cases q : v = 300
    · rw [if_pos q] at hz rk ev
      exact kq0 c hM (by omega) rhy xp.toInt xq.toInt xd.toInt z hz (by omega) (by omega) (by omega) (by omega) (by omega) (by omega) x0 x1 x2 x3 (fun h2 z2 hz2 g1 g2 g3 => ⟨⟨z2, rfl⟩, rfl, rfl, g1, ly_fr_tr fr2 (kn_sub rfl g2), by rw [ev]; exact g2 _ _ _ rfl rk⟩)
    · rw [if_neg q] at hz rk ev
      refine kq1 c hM (by omega) rhy xp.toInt xq.toInt xd.toInt (v + 1) z hz (by omega) (by omega) (by omega) (by omega) (by omega) (by omega) (by omega) (by omega) x0 x1 x2 x3 (fun l2 h2 g1 g2 g3 j0 j1 j2 j3 j4 j5 => ?_)
      obtain ⟨mm, km, mm0, mm1⟩ := hp_fld (cst := cst) (c := 78) (k := 56) g1 rfl rfl (by decide)
      rw [← ev] at rk
      exact hp_mono (kn_loop (h0 := h2) c hM (by omega) (by omega) (by omega) (by omega) (by omega) (by omega) (by omega) (by omega) (by omega) mm0 mm1 (mm.toNat + 1) h2 l2 0 0 (by omega) (by omega) mm0 (by omega) (by omega) ⟨g1, ly_fr_rf h2, g2 _ _ _ rfl rk, km, g2 _ _ _ rfl (rfr _ _ _ rfl (w2 _ _ _ rfl kq))⟩ ⟨j0, j1, j2, j3, j4, j5⟩) (fun rr ⟨q1, q2, q3, q4, q5, q6⟩ => ⟨q1, q2, q3, q4, ly_fr_tr fr2 (ly_fr_tr (kn_sub rfl g2) (kn_sub rfl q5)), q6⟩)
  obtain ⟨n, r, hgo, hx, h1, h2, h3⟩ := go
  simp only [Nat.zero_add] at h1 h2
  exact ⟨r, Or.inr ⟨M, n, hM, hl, hgo⟩, hx, h1, h2, h3⟩
