/-! PRINTED by wip/p2/hp_rtest.py: addStep, readTest of the reference, exactly -/
theorem yp0_k : hp_chk 313 0 2 [(0, (-4), 19), (1, 0, 801)] [] [(0, .inr (.inr (.inl (some 94)))), (1, .inl (0, [(0, 1)]))] [] [(20012, (0, []), (0, [(1, 1)]))] [] 8 [(13, ([], 2, [(0, (-4), 19), (1, 0, 801)], [], [(0, .inr (.inr (.inl (some 94))))], [.inl (0, [(0, 1)]), .inl (24600, [(1, 1)]), .inr (.inr (.inl (some 121)))], []))] [] = true := by decide +kernel
theorem yp0 {cst : am_K} {strs : List Nat} {Φ : am_Q → Prop} {D : Nat} {M : am_M} {h : am_H} {l : am_L} (c : hp_C cst strs D) (hM : m_P[313]? = some M) (hD : (8 : Int) ≤ (D : Int) + 1) (hy : ly_hy m_tt ly_TH h) (x e : Int) (b0 : (-4) ≤ x) (t0 : x ≤ 19) (b1 : 0 ≤ e) (t1 : e ≤ 801) (k0 : ly_hv cst h 20012 0 = some (e)) (l0 : hp_a l 0 94) (l1 : hp_i l 1 (x)) (e0 : ∀ (l' : am_L) (h' : am_H) (y0 : Int32) (y1 : Int32), y0.toInt = (x) → y1.toInt = (e + 24600) → ly_hy m_tt ly_TH h' → ly_fr cst [] h h' → h.length ≤ h'.length → hp_a l' 0 94 → hp_F cst strs Φ D M 13 l' [.int y0, .int y1, .ref 121] h') : hp_F cst strs Φ D M 0 l [] h := by
  refine hp_arc c hM yp0_k hD [x, e] rfl hy (hp_Bc (z := x) rfl b0 t0 (hp_Bc (z := e) rfl b1 t1 hp_Bn)) hp_Fn (hp_Kc (zi := (0 + 0)) (zv := (0 + (1 * e + 0))) k0 rfl rfl (by omega) (by omega) hp_Kn) (hp_La l0 (hp_Li (z := (0 + (1 * x + 0))) l1 rfl (by omega) hp_Ln)) trivial ?_ ?_
  · intro p hp ys l' st' h' hys a1 a2 a3 gZ gL gS
    rcases List.mem_cons.mp hp with rfl | hp
    · obtain rfl := hp_y0 hys
      obtain ⟨y0, t0, rfl, q0, g0⟩ := hp_gSi (z := (0 + (1 * x + 0))) gS rfl
      obtain ⟨y1, t1, rfl, q1, g1⟩ := hp_gSi (z := (24600 + (1 * e + 0))) g0 rfl
      obtain ⟨t2, rfl, g2⟩ := hp_gSa g1 (by decide)
      cases hp_gSn g2
      exact e0 l' h' y0 y1 (by omega) (by omega) a1 a2 a3 (hp_gLa gL (List.mem_of_getElem? (i := 0) rfl) (by decide))
    cases hp
  · intro p hp ys v h' hys a1 a2 a3 gZ gS
    cases hp
theorem yp1_k : hp_chk 313 14 1 [(0, 0, 801)] [] [(0, .inr (.inr (.inl (some 94))))] [] [(20012, (0, []), (0, [(0, 1)]))] [20012, 60020, 60060, 60061] 8 [] [([], 1, [(0, 0, 801)], [], [], [], [(20012, (0, []), (1, [(0, 1)]))])] = true := by decide +kernel
theorem yp1 {cst : am_K} {strs : List Nat} {Φ : am_Q → Prop} {D : Nat} {M : am_M} {h : am_H} {l : am_L} (c : hp_C cst strs D) (hM : m_P[313]? = some M) (hD : (8 : Int) ≤ (D : Int) + 1) (hy : ly_hy m_tt ly_TH h) (e : Int) (b0 : 0 ≤ e) (t0 : e ≤ 801) (k0 : ly_hv cst h 20012 0 = some (e)) (l0 : hp_a l 0 94) (r0 : ∀ (h' : am_H), ly_hy m_tt ly_TH h' → ly_fr cst [20012, 60020, 60060, 60061] h h' → h.length ≤ h'.length → ly_hv cst h' 20012 0 = some (e + 1) → Φ (none, h', 0, 0)) : hp_F cst strs Φ D M 14 l [] h := by
  refine hp_arc c hM yp1_k hD [e] rfl hy (hp_Bc (z := e) rfl b0 t0 hp_Bn) hp_Fn (hp_Kc (zi := (0 + 0)) (zv := (0 + (1 * e + 0))) k0 rfl rfl (by omega) (by omega) hp_Kn) (hp_La l0 hp_Ln) trivial ?_ ?_
  · intro p hp ys l' st' h' hys a1 a2 a3 gZ gL gS
    cases hp
  · intro p hp ys v h' hys a1 a2 a3 gZ gS
    rcases List.mem_cons.mp hp with rfl | hp
    · obtain rfl := hp_y0 hys
      have sv := hp_gSn gS
      cases v with
      | some w => cases sv
      | none =>
        exact r0 h' a1 a2 a3 (hp_gK (zi := (0 + 0)) (zv := (1 + (1 * e + 0))) gZ.2.2.2 (List.mem_of_getElem? (i := 0) rfl) rfl rfl (by omega) (by omega))
    cases hp
theorem yvA0_k : hq_chk [305] 312 0 2 [(0, 0, 1200), (1, 0, 0)] [] [(0, .inr (.inr (.inl (some 94))))] [] [(19971, (0, []), (0, [(1, 1)])), (19973, (0, []), (0, [(0, 1)]))] [19990, 19991] 8 [] [([], 2, [(0, 0, 1200), (1, 0, 0)], [], [], [.inl (0, [])], [(19990, (0, []), (1, [])), (19991, (0, []), (0, [(0, 1)]))])] = true := by decide +kernel
theorem yvA0 {cst : am_K} {strs : List Nat} {Φ : am_Q → Prop} {D : Nat} {M : am_M} {h : am_H} {l : am_L} (c : hp_C cst strs D) (hM : m_P[312]? = some M) (hD : (8 : Int) ≤ (D : Int) + 1) (hy : ly_hy m_tt ly_TH h) (p q : Int) (b0 : 0 ≤ p) (t0 : p ≤ 1200) (b1 : 0 ≤ q) (t1 : q ≤ 0) (k0 : ly_hv cst h 19971 0 = some (q)) (k1 : ly_hv cst h 19973 0 = some (p)) (l0 : hp_a l 0 94) (r0 : ∀ (h' : am_H) (y0 : Int32), y0.toInt = 0 → ly_hy m_tt ly_TH h' → ly_fr cst [19990, 19991] h h' → h.length ≤ h'.length → ly_hv cst h' 19990 0 = some 1 → ly_hv cst h' 19991 0 = some (p) → Φ (some (.int y0), h', 0, 0)) : hp_F cst strs Φ D M 0 l [] h := by
  refine hq_arc c hM yvA0_k hD [p, q] rfl hy (hp_Bc (z := p) rfl b0 t0 (hp_Bc (z := q) rfl b1 t1 hp_Bn)) hp_Fn (hp_Kc (zi := (0 + 0)) (zv := (0 + (1 * q + 0))) k0 rfl rfl (by omega) (by omega) (hp_Kc (zi := (0 + 0)) (zv := (0 + (1 * p + 0))) k1 rfl rfl (by omega) (by omega) hp_Kn)) (hp_La l0 hp_Ln) trivial ?_ ?_
  · intro p hp ys l' st' h' hys a1 a2 a3 gZ gL gS
    cases hp
  · intro p hp ys v h' hys a1 a2 a3 gZ gS
    rcases List.mem_cons.mp hp with rfl | hp
    · obtain rfl := hp_y0 hys
      cases v with
      | none => cases gS
      | some w =>
        obtain ⟨y0, t0, s0, q0, -⟩ := hp_gSi (z := (0 + 0)) gS rfl
        cases s0
        exact r0 h' y0 (by omega) a1 a2 a3 (hp_gK (zi := (0 + 0)) (zv := (1 + 0)) gZ.2.2.2 (List.mem_of_getElem? (i := 0) rfl) rfl rfl (by omega) (by omega)) (hp_gK (zi := (0 + 0)) (zv := (0 + (1 * p + 0))) gZ.2.2.2 (List.mem_of_getElem? (i := 1) rfl) rfl rfl (by omega) (by omega))
    cases hp
theorem yvA1_k : hq_chk [305] 312 0 2 [(0, 0, 1200), (1, 3, 8)] [] [(0, .inr (.inr (.inl (some 94))))] [] [(19971, (0, []), (0, [(1, 1)])), (19973, (0, []), (0, [(0, 1)]))] [19990, 19991] 8 [] [([], 2, [(0, 0, 1200), (1, 3, 8)], [], [], [.inl (0, [])], [(19990, (0, []), (1, [])), (19991, (0, []), (0, [(0, 1)]))])] = true := by decide +kernel
theorem yvA1 {cst : am_K} {strs : List Nat} {Φ : am_Q → Prop} {D : Nat} {M : am_M} {h : am_H} {l : am_L} (c : hp_C cst strs D) (hM : m_P[312]? = some M) (hD : (8 : Int) ≤ (D : Int) + 1) (hy : ly_hy m_tt ly_TH h) (p q : Int) (b0 : 0 ≤ p) (t0 : p ≤ 1200) (b1 : 3 ≤ q) (t1 : q ≤ 8) (k0 : ly_hv cst h 19971 0 = some (q)) (k1 : ly_hv cst h 19973 0 = some (p)) (l0 : hp_a l 0 94) (r0 : ∀ (h' : am_H) (y0 : Int32), y0.toInt = 0 → ly_hy m_tt ly_TH h' → ly_fr cst [19990, 19991] h h' → h.length ≤ h'.length → ly_hv cst h' 19990 0 = some 1 → ly_hv cst h' 19991 0 = some (p) → Φ (some (.int y0), h', 0, 0)) : hp_F cst strs Φ D M 0 l [] h := by
  refine hq_arc c hM yvA1_k hD [p, q] rfl hy (hp_Bc (z := p) rfl b0 t0 (hp_Bc (z := q) rfl b1 t1 hp_Bn)) hp_Fn (hp_Kc (zi := (0 + 0)) (zv := (0 + (1 * q + 0))) k0 rfl rfl (by omega) (by omega) (hp_Kc (zi := (0 + 0)) (zv := (0 + (1 * p + 0))) k1 rfl rfl (by omega) (by omega) hp_Kn)) (hp_La l0 hp_Ln) trivial ?_ ?_
  · intro p hp ys l' st' h' hys a1 a2 a3 gZ gL gS
    cases hp
  · intro p hp ys v h' hys a1 a2 a3 gZ gS
    rcases List.mem_cons.mp hp with rfl | hp
    · obtain rfl := hp_y0 hys
      cases v with
      | none => cases gS
      | some w =>
        obtain ⟨y0, t0, s0, q0, -⟩ := hp_gSi (z := (0 + 0)) gS rfl
        cases s0
        exact r0 h' y0 (by omega) a1 a2 a3 (hp_gK (zi := (0 + 0)) (zv := (1 + 0)) gZ.2.2.2 (List.mem_of_getElem? (i := 0) rfl) rfl rfl (by omega) (by omega)) (hp_gK (zi := (0 + 0)) (zv := (0 + (1 * p + 0))) gZ.2.2.2 (List.mem_of_getElem? (i := 1) rfl) rfl rfl (by omega) (by omega))
    cases hp
theorem yvB_k : hq_chk [305] 312 0 2 [(0, 0, 1200), (1, 17, 23)] [] [(0, .inr (.inr (.inl (some 94))))] [] [(19971, (0, []), (1, [])), (19972, (0, []), (0, [(1, 1)])), (19973, (0, []), (0, [(0, 1)]))] [19990, 19991] 8 [] [([], 2, [(0, 0, 1200), (1, 17, 23)], [], [], [.inl (0, [])], [(19990, (0, []), (1, [])), (19991, (0, []), (0, [(0, 1)]))])] = true := by decide +kernel
theorem yvB {cst : am_K} {strs : List Nat} {Φ : am_Q → Prop} {D : Nat} {M : am_M} {h : am_H} {l : am_L} (c : hp_C cst strs D) (hM : m_P[312]? = some M) (hD : (8 : Int) ≤ (D : Int) + 1) (hy : ly_hy m_tt ly_TH h) (p k : Int) (b0 : 0 ≤ p) (t0 : p ≤ 1200) (b1 : 17 ≤ k) (t1 : k ≤ 23) (k0 : ly_hv cst h 19971 0 = some 1) (k1 : ly_hv cst h 19972 0 = some (k)) (k2 : ly_hv cst h 19973 0 = some (p)) (l0 : hp_a l 0 94) (r0 : ∀ (h' : am_H) (y0 : Int32), y0.toInt = 0 → ly_hy m_tt ly_TH h' → ly_fr cst [19990, 19991] h h' → h.length ≤ h'.length → ly_hv cst h' 19990 0 = some 1 → ly_hv cst h' 19991 0 = some (p) → Φ (some (.int y0), h', 0, 0)) : hp_F cst strs Φ D M 0 l [] h := by
  refine hq_arc c hM yvB_k hD [p, k] rfl hy (hp_Bc (z := p) rfl b0 t0 (hp_Bc (z := k) rfl b1 t1 hp_Bn)) hp_Fn (hp_Kc (zi := (0 + 0)) (zv := (1 + 0)) k0 rfl rfl (by omega) (by omega) (hp_Kc (zi := (0 + 0)) (zv := (0 + (1 * k + 0))) k1 rfl rfl (by omega) (by omega) (hp_Kc (zi := (0 + 0)) (zv := (0 + (1 * p + 0))) k2 rfl rfl (by omega) (by omega) hp_Kn))) (hp_La l0 hp_Ln) trivial ?_ ?_
  · intro p hp ys l' st' h' hys a1 a2 a3 gZ gL gS
    cases hp
  · intro p hp ys v h' hys a1 a2 a3 gZ gS
    rcases List.mem_cons.mp hp with rfl | hp
    · obtain rfl := hp_y0 hys
      cases v with
      | none => cases gS
      | some w =>
        obtain ⟨y0, t0, s0, q0, -⟩ := hp_gSi (z := (0 + 0)) gS rfl
        cases s0
        exact r0 h' y0 (by omega) a1 a2 a3 (hp_gK (zi := (0 + 0)) (zv := (1 + 0)) gZ.2.2.2 (List.mem_of_getElem? (i := 0) rfl) rfl rfl (by omega) (by omega)) (hp_gK (zi := (0 + 0)) (zv := (0 + (1 * p + 0))) gZ.2.2.2 (List.mem_of_getElem? (i := 1) rfl) rfl rfl (by omega) (by omega))
    cases hp
theorem yvC0_k : hq_chk [305] 312 0 1 [(0, 0, 1200)] [] [(0, .inr (.inr (.inl (some 94))))] [] [(19971, (0, []), (2, [])), (19973, (0, []), (0, [(0, 1)])), (20014, (0, []), (20, []))] [19990, 19991] 8 [] [([], 1, [(0, 0, 1200)], [], [], [.inl (0, [])], [(19990, (0, []), (4, [])), (19991, (0, []), (0, [(0, 1)]))])] = true := by decide +kernel
theorem yvC0 {cst : am_K} {strs : List Nat} {Φ : am_Q → Prop} {D : Nat} {M : am_M} {h : am_H} {l : am_L} (c : hp_C cst strs D) (hM : m_P[312]? = some M) (hD : (8 : Int) ≤ (D : Int) + 1) (hy : ly_hy m_tt ly_TH h) (p : Int) (b0 : 0 ≤ p) (t0 : p ≤ 1200) (k0 : ly_hv cst h 19971 0 = some 2) (k1 : ly_hv cst h 19973 0 = some (p)) (k2 : ly_hv cst h 20014 0 = some 20) (l0 : hp_a l 0 94) (r0 : ∀ (h' : am_H) (y0 : Int32), y0.toInt = 0 → ly_hy m_tt ly_TH h' → ly_fr cst [19990, 19991] h h' → h.length ≤ h'.length → ly_hv cst h' 19990 0 = some 4 → ly_hv cst h' 19991 0 = some (p) → Φ (some (.int y0), h', 0, 0)) : hp_F cst strs Φ D M 0 l [] h := by
  refine hq_arc c hM yvC0_k hD [p] rfl hy (hp_Bc (z := p) rfl b0 t0 hp_Bn) hp_Fn (hp_Kc (zi := (0 + 0)) (zv := (2 + 0)) k0 rfl rfl (by omega) (by omega) (hp_Kc (zi := (0 + 0)) (zv := (0 + (1 * p + 0))) k1 rfl rfl (by omega) (by omega) (hp_Kc (zi := (0 + 0)) (zv := (20 + 0)) k2 rfl rfl (by omega) (by omega) hp_Kn))) (hp_La l0 hp_Ln) trivial ?_ ?_
  · intro p hp ys l' st' h' hys a1 a2 a3 gZ gL gS
    cases hp
  · intro p hp ys v h' hys a1 a2 a3 gZ gS
    rcases List.mem_cons.mp hp with rfl | hp
    · obtain rfl := hp_y0 hys
      cases v with
      | none => cases gS
      | some w =>
        obtain ⟨y0, t0, s0, q0, -⟩ := hp_gSi (z := (0 + 0)) gS rfl
        cases s0
        exact r0 h' y0 (by omega) a1 a2 a3 (hp_gK (zi := (0 + 0)) (zv := (4 + 0)) gZ.2.2.2 (List.mem_of_getElem? (i := 0) rfl) rfl rfl (by omega) (by omega)) (hp_gK (zi := (0 + 0)) (zv := (0 + (1 * p + 0))) gZ.2.2.2 (List.mem_of_getElem? (i := 1) rfl) rfl rfl (by omega) (by omega))
    cases hp
theorem yvC1_k : hq_chk [305] 312 0 2 [(0, 0, 1200), (1, (-1), 16)] [] [(0, .inr (.inr (.inl (some 94))))] [] [(19971, (0, []), (1, [])), (19972, (0, []), (0, [(1, 1)])), (19973, (0, []), (0, [(0, 1)])), (20014, (0, []), (20, []))] [19990, 19991] 8 [] [([], 2, [(0, 0, 1200), (1, (-1), 16)], [], [], [.inl (0, [])], [(19990, (0, []), (4, [])), (19991, (0, []), (0, [(0, 1)]))])] = true := by decide +kernel
theorem yvC1 {cst : am_K} {strs : List Nat} {Φ : am_Q → Prop} {D : Nat} {M : am_M} {h : am_H} {l : am_L} (c : hp_C cst strs D) (hM : m_P[312]? = some M) (hD : (8 : Int) ≤ (D : Int) + 1) (hy : ly_hy m_tt ly_TH h) (p k : Int) (b0 : 0 ≤ p) (t0 : p ≤ 1200) (b1 : (-1) ≤ k) (t1 : k ≤ 16) (k0 : ly_hv cst h 19971 0 = some 1) (k1 : ly_hv cst h 19972 0 = some (k)) (k2 : ly_hv cst h 19973 0 = some (p)) (k3 : ly_hv cst h 20014 0 = some 20) (l0 : hp_a l 0 94) (r0 : ∀ (h' : am_H) (y0 : Int32), y0.toInt = 0 → ly_hy m_tt ly_TH h' → ly_fr cst [19990, 19991] h h' → h.length ≤ h'.length → ly_hv cst h' 19990 0 = some 4 → ly_hv cst h' 19991 0 = some (p) → Φ (some (.int y0), h', 0, 0)) : hp_F cst strs Φ D M 0 l [] h := by
  refine hq_arc c hM yvC1_k hD [p, k] rfl hy (hp_Bc (z := p) rfl b0 t0 (hp_Bc (z := k) rfl b1 t1 hp_Bn)) hp_Fn (hp_Kc (zi := (0 + 0)) (zv := (1 + 0)) k0 rfl rfl (by omega) (by omega) (hp_Kc (zi := (0 + 0)) (zv := (0 + (1 * k + 0))) k1 rfl rfl (by omega) (by omega) (hp_Kc (zi := (0 + 0)) (zv := (0 + (1 * p + 0))) k2 rfl rfl (by omega) (by omega) (hp_Kc (zi := (0 + 0)) (zv := (20 + 0)) k3 rfl rfl (by omega) (by omega) hp_Kn)))) (hp_La l0 hp_Ln) trivial ?_ ?_
  · intro p hp ys l' st' h' hys a1 a2 a3 gZ gL gS
    cases hp
  · intro p hp ys v h' hys a1 a2 a3 gZ gS
    rcases List.mem_cons.mp hp with rfl | hp
    · obtain rfl := hp_y0 hys
      cases v with
      | none => cases gS
      | some w =>
        obtain ⟨y0, t0, s0, q0, -⟩ := hp_gSi (z := (0 + 0)) gS rfl
        cases s0
        exact r0 h' y0 (by omega) a1 a2 a3 (hp_gK (zi := (0 + 0)) (zv := (4 + 0)) gZ.2.2.2 (List.mem_of_getElem? (i := 0) rfl) rfl rfl (by omega) (by omega)) (hp_gK (zi := (0 + 0)) (zv := (0 + (1 * p + 0))) gZ.2.2.2 (List.mem_of_getElem? (i := 1) rfl) rfl rfl (by omega) (by omega))
    cases hp
theorem yvD0_k : hp_chk 312 0 2 [(0, 0, 400), (1, 0, 19)] [] [(0, .inr (.inr (.inl (some 94))))] [] [(19971, (0, []), (2, [])), (20014, (0, []), (0, [(1, 1)])), (20010, (0, []), (0, [(0, 1)]))] [20010] 8 [(70, ([], 2, [(0, 0, 400), (1, 0, 19)], [], [(0, .inr (.inr (.inl (some 94)))), (1, .inl (12600, [(0, 1)]))], [.inl (0, [(1, 1)]), .inr (.inr (.inl (some 94)))], [(20010, (0, []), (1, [(0, 1)])), (20014, (0, []), (0, [(1, 1)]))]))] [] = true := by decide +kernel
theorem yvD0 {cst : am_K} {strs : List Nat} {Φ : am_Q → Prop} {D : Nat} {M : am_M} {h : am_H} {l : am_L} (c : hp_C cst strs D) (hM : m_P[312]? = some M) (hD : (8 : Int) ≤ (D : Int) + 1) (hy : ly_hy m_tt ly_TH h) (g m : Int) (b0 : 0 ≤ g) (t0 : g ≤ 400) (b1 : 0 ≤ m) (t1 : m ≤ 19) (k0 : ly_hv cst h 19971 0 = some 2) (k1 : ly_hv cst h 20014 0 = some (m)) (k2 : ly_hv cst h 20010 0 = some (g)) (l0 : hp_a l 0 94) (e0 : ∀ (l' : am_L) (h' : am_H) (y0 : Int32), y0.toInt = (m) → ly_hy m_tt ly_TH h' → ly_fr cst [20010] h h' → h.length ≤ h'.length → ly_hv cst h' 20010 0 = some (g + 1) → ly_hv cst h' 20014 0 = some (m) → hp_a l' 0 94 → hp_i l' 1 (g + 12600) → hp_F cst strs Φ D M 70 l' [.int y0, .ref 94] h') : hp_F cst strs Φ D M 0 l [] h := by
  refine hp_arc c hM yvD0_k hD [g, m] rfl hy (hp_Bc (z := g) rfl b0 t0 (hp_Bc (z := m) rfl b1 t1 hp_Bn)) hp_Fn (hp_Kc (zi := (0 + 0)) (zv := (2 + 0)) k0 rfl rfl (by omega) (by omega) (hp_Kc (zi := (0 + 0)) (zv := (0 + (1 * m + 0))) k1 rfl rfl (by omega) (by omega) (hp_Kc (zi := (0 + 0)) (zv := (0 + (1 * g + 0))) k2 rfl rfl (by omega) (by omega) hp_Kn))) (hp_La l0 hp_Ln) trivial ?_ ?_
  · intro p hp ys l' st' h' hys a1 a2 a3 gZ gL gS
    rcases List.mem_cons.mp hp with rfl | hp
    · obtain rfl := hp_y0 hys
      obtain ⟨y0, t0, rfl, q0, g0⟩ := hp_gSi (z := (0 + (1 * m + 0))) gS rfl
      obtain ⟨t1, rfl, g1⟩ := hp_gSa g0 (by decide)
      cases hp_gSn g1
      exact e0 l' h' y0 (by omega) a1 a2 a3 (hp_gK (zi := (0 + 0)) (zv := (1 + (1 * g + 0))) gZ.2.2.2 (List.mem_of_getElem? (i := 0) rfl) rfl rfl (by omega) (by omega)) (hp_gK (zi := (0 + 0)) (zv := (0 + (1 * m + 0))) gZ.2.2.2 (List.mem_of_getElem? (i := 1) rfl) rfl rfl (by omega) (by omega)) (hp_gLa gL (List.mem_of_getElem? (i := 0) rfl) (by decide)) (hp_gLi (z := (12600 + (1 * g + 0))) gL (List.mem_of_getElem? (i := 1) rfl) rfl (by omega))
    cases hp
  · intro p hp ys v h' hys a1 a2 a3 gZ gS
    cases hp
theorem yvD1_k : hp_chk 312 0 3 [(0, 0, 400), (1, 0, 19), (2, (-1), 16)] [] [(0, .inr (.inr (.inl (some 94))))] [] [(19971, (0, []), (1, [])), (19972, (0, []), (0, [(2, 1)])), (20014, (0, []), (0, [(1, 1)])), (20010, (0, []), (0, [(0, 1)]))] [20010] 8 [(70, ([], 3, [(0, 0, 400), (1, 0, 19), (2, (-1), 16)], [], [(0, .inr (.inr (.inl (some 94)))), (1, .inl (12600, [(0, 1)]))], [.inl (0, [(1, 1)]), .inr (.inr (.inl (some 94)))], [(20010, (0, []), (1, [(0, 1)])), (20014, (0, []), (0, [(1, 1)]))]))] [] = true := by decide +kernel
theorem yvD1 {cst : am_K} {strs : List Nat} {Φ : am_Q → Prop} {D : Nat} {M : am_M} {h : am_H} {l : am_L} (c : hp_C cst strs D) (hM : m_P[312]? = some M) (hD : (8 : Int) ≤ (D : Int) + 1) (hy : ly_hy m_tt ly_TH h) (g m k : Int) (b0 : 0 ≤ g) (t0 : g ≤ 400) (b1 : 0 ≤ m) (t1 : m ≤ 19) (b2 : (-1) ≤ k) (t2 : k ≤ 16) (k0 : ly_hv cst h 19971 0 = some 1) (k1 : ly_hv cst h 19972 0 = some (k)) (k2 : ly_hv cst h 20014 0 = some (m)) (k3 : ly_hv cst h 20010 0 = some (g)) (l0 : hp_a l 0 94) (e0 : ∀ (l' : am_L) (h' : am_H) (y0 : Int32), y0.toInt = (m) → ly_hy m_tt ly_TH h' → ly_fr cst [20010] h h' → h.length ≤ h'.length → ly_hv cst h' 20010 0 = some (g + 1) → ly_hv cst h' 20014 0 = some (m) → hp_a l' 0 94 → hp_i l' 1 (g + 12600) → hp_F cst strs Φ D M 70 l' [.int y0, .ref 94] h') : hp_F cst strs Φ D M 0 l [] h := by
  refine hp_arc c hM yvD1_k hD [g, m, k] rfl hy (hp_Bc (z := g) rfl b0 t0 (hp_Bc (z := m) rfl b1 t1 (hp_Bc (z := k) rfl b2 t2 hp_Bn))) hp_Fn (hp_Kc (zi := (0 + 0)) (zv := (1 + 0)) k0 rfl rfl (by omega) (by omega) (hp_Kc (zi := (0 + 0)) (zv := (0 + (1 * k + 0))) k1 rfl rfl (by omega) (by omega) (hp_Kc (zi := (0 + 0)) (zv := (0 + (1 * m + 0))) k2 rfl rfl (by omega) (by omega) (hp_Kc (zi := (0 + 0)) (zv := (0 + (1 * g + 0))) k3 rfl rfl (by omega) (by omega) hp_Kn)))) (hp_La l0 hp_Ln) trivial ?_ ?_
  · intro p hp ys l' st' h' hys a1 a2 a3 gZ gL gS
    rcases List.mem_cons.mp hp with rfl | hp
    · obtain rfl := hp_y0 hys
      obtain ⟨y0, t0, rfl, q0, g0⟩ := hp_gSi (z := (0 + (1 * m + 0))) gS rfl
      obtain ⟨t1, rfl, g1⟩ := hp_gSa g0 (by decide)
      cases hp_gSn g1
      exact e0 l' h' y0 (by omega) a1 a2 a3 (hp_gK (zi := (0 + 0)) (zv := (1 + (1 * g + 0))) gZ.2.2.2 (List.mem_of_getElem? (i := 0) rfl) rfl rfl (by omega) (by omega)) (hp_gK (zi := (0 + 0)) (zv := (0 + (1 * m + 0))) gZ.2.2.2 (List.mem_of_getElem? (i := 1) rfl) rfl rfl (by omega) (by omega)) (hp_gLa gL (List.mem_of_getElem? (i := 0) rfl) (by decide)) (hp_gLi (z := (12600 + (1 * g + 0))) gL (List.mem_of_getElem? (i := 1) rfl) rfl (by omega))
    cases hp
  · intro p hp ys v h' hys a1 a2 a3 gZ gS
    cases hp
theorem yvE_k : hp_chk 312 73 3 [(0, 0, 400), (1, 0, 19), (2, 0, 600)] [] [(0, .inr (.inr (.inl (some 94)))), (1, .inl (12600, [(0, 1)]))] [] [(20014, (0, []), (0, [(1, 1)])), (20011, (0, []), (0, [(2, 1)]))] [20014] 8 [(92, ([], 3, [(0, 0, 400), (1, 0, 19), (2, 0, 600)], [], [(0, .inr (.inr (.inl (some 94)))), (1, .inl (12600, [(0, 1)]))], [.inl (0, [(2, 1)]), .inl (12600, [(0, 1)]), .inr (.inr (.inl (some 116)))], [(20014, (0, []), (1, [(1, 1)])), (20011, (0, []), (0, [(2, 1)]))]))] [] = true := by decide +kernel
theorem yvE {cst : am_K} {strs : List Nat} {Φ : am_Q → Prop} {D : Nat} {M : am_M} {h : am_H} {l : am_L} (c : hp_C cst strs D) (hM : m_P[312]? = some M) (hD : (8 : Int) ≤ (D : Int) + 1) (hy : ly_hy m_tt ly_TH h) (g m e : Int) (b0 : 0 ≤ g) (t0 : g ≤ 400) (b1 : 0 ≤ m) (t1 : m ≤ 19) (b2 : 0 ≤ e) (t2 : e ≤ 600) (k0 : ly_hv cst h 20014 0 = some (m)) (k1 : ly_hv cst h 20011 0 = some (e)) (l0 : hp_a l 0 94) (l1 : hp_i l 1 (g + 12600)) (e0 : ∀ (l' : am_L) (h' : am_H) (y0 : Int32) (y1 : Int32), y0.toInt = (e) → y1.toInt = (g + 12600) → ly_hy m_tt ly_TH h' → ly_fr cst [20014] h h' → h.length ≤ h'.length → ly_hv cst h' 20014 0 = some (m + 1) → ly_hv cst h' 20011 0 = some (e) → hp_a l' 0 94 → hp_i l' 1 (g + 12600) → hp_F cst strs Φ D M 92 l' [.int y0, .int y1, .ref 116] h') : hp_F cst strs Φ D M 73 l [] h := by
  refine hp_arc c hM yvE_k hD [g, m, e] rfl hy (hp_Bc (z := g) rfl b0 t0 (hp_Bc (z := m) rfl b1 t1 (hp_Bc (z := e) rfl b2 t2 hp_Bn))) hp_Fn (hp_Kc (zi := (0 + 0)) (zv := (0 + (1 * m + 0))) k0 rfl rfl (by omega) (by omega) (hp_Kc (zi := (0 + 0)) (zv := (0 + (1 * e + 0))) k1 rfl rfl (by omega) (by omega) hp_Kn)) (hp_La l0 (hp_Li (z := (12600 + (1 * g + 0))) l1 rfl (by omega) hp_Ln)) trivial ?_ ?_
  · intro p hp ys l' st' h' hys a1 a2 a3 gZ gL gS
    rcases List.mem_cons.mp hp with rfl | hp
    · obtain rfl := hp_y0 hys
      obtain ⟨y0, t0, rfl, q0, g0⟩ := hp_gSi (z := (0 + (1 * e + 0))) gS rfl
      obtain ⟨y1, t1, rfl, q1, g1⟩ := hp_gSi (z := (12600 + (1 * g + 0))) g0 rfl
      obtain ⟨t2, rfl, g2⟩ := hp_gSa g1 (by decide)
      cases hp_gSn g2
      exact e0 l' h' y0 y1 (by omega) (by omega) a1 a2 a3 (hp_gK (zi := (0 + 0)) (zv := (1 + (1 * m + 0))) gZ.2.2.2 (List.mem_of_getElem? (i := 0) rfl) rfl rfl (by omega) (by omega)) (hp_gK (zi := (0 + 0)) (zv := (0 + (1 * e + 0))) gZ.2.2.2 (List.mem_of_getElem? (i := 1) rfl) rfl rfl (by omega) (by omega)) (hp_gLa gL (List.mem_of_getElem? (i := 0) rfl) (by decide)) (hp_gLi (z := (12600 + (1 * g + 0))) gL (List.mem_of_getElem? (i := 1) rfl) rfl (by omega))
    cases hp
  · intro p hp ys v h' hys a1 a2 a3 gZ gS
    cases hp
theorem yvF_k : hp_chk 312 93 1 [(0, 0, 400)] [] [(0, .inr (.inr (.inl (some 94)))), (1, .inl (12600, [(0, 1)]))] [] [] [] 8 [(94, ([], 1, [(0, 0, 400)], [], [(0, .inr (.inr (.inl (some 94)))), (1, .inl (12600, [(0, 1)]))], [.inr (.inr (.inl (some 94)))], []))] [] = true := by decide +kernel
theorem yvF {cst : am_K} {strs : List Nat} {Φ : am_Q → Prop} {D : Nat} {M : am_M} {h : am_H} {l : am_L} (c : hp_C cst strs D) (hM : m_P[312]? = some M) (hD : (8 : Int) ≤ (D : Int) + 1) (hy : ly_hy m_tt ly_TH h) (g : Int) (b0 : 0 ≤ g) (t0 : g ≤ 400) (l0 : hp_a l 0 94) (l1 : hp_i l 1 (g + 12600)) (e0 : ∀ (l' : am_L) (h' : am_H), ly_hy m_tt ly_TH h' → ly_fr cst [] h h' → h.length ≤ h'.length → hp_a l' 0 94 → hp_i l' 1 (g + 12600) → hp_F cst strs Φ D M 94 l' [.ref 94] h') : hp_F cst strs Φ D M 93 l [] h := by
  refine hp_arc c hM yvF_k hD [g] rfl hy (hp_Bc (z := g) rfl b0 t0 hp_Bn) hp_Fn hp_Kn (hp_La l0 (hp_Li (z := (12600 + (1 * g + 0))) l1 rfl (by omega) hp_Ln)) trivial ?_ ?_
  · intro p hp ys l' st' h' hys a1 a2 a3 gZ gL gS
    rcases List.mem_cons.mp hp with rfl | hp
    · obtain rfl := hp_y0 hys
      obtain ⟨t0, rfl, g0⟩ := hp_gSa gS (by decide)
      cases hp_gSn g0
      exact e0 l' h' a1 a2 a3 (hp_gLa gL (List.mem_of_getElem? (i := 0) rfl) (by decide)) (hp_gLi (z := (12600 + (1 * g + 0))) gL (List.mem_of_getElem? (i := 1) rfl) rfl (by omega))
    cases hp
  · intro p hp ys v h' hys a1 a2 a3 gZ gS
    cases hp
theorem yvG0_k : hp_chk 312 97 1 [(0, 0, 400)] [] [(0, .inr (.inr (.inl (some 94)))), (1, .inl (12600, [(0, 1)]))] [.inl (0, [])] [] [] 8 [] [([], 1, [(0, 0, 400)], [], [], [.inl (0, [])], [])] = true := by decide +kernel
theorem yvG0 {cst : am_K} {strs : List Nat} {Φ : am_Q → Prop} {D : Nat} {M : am_M} {h : am_H} {l : am_L} (c : hp_C cst strs D) (hM : m_P[312]? = some M) (hD : (8 : Int) ≤ (D : Int) + 1) (hy : ly_hy m_tt ly_TH h) (g : Int) (x0 : Int32) (hx0 : x0.toInt = 0) (b0 : 0 ≤ g) (t0 : g ≤ 400) (l0 : hp_a l 0 94) (l1 : hp_i l 1 (g + 12600)) (r0 : ∀ (h' : am_H) (y0 : Int32), y0.toInt = 0 → ly_hy m_tt ly_TH h' → ly_fr cst [] h h' → h.length ≤ h'.length → Φ (some (.int y0), h', 0, 0)) : hp_F cst strs Φ D M 97 l [.int x0] h := by
  refine hp_arc c hM yvG0_k hD [g] rfl hy (hp_Bc (z := g) rfl b0 t0 hp_Bn) hp_Fn hp_Kn (hp_La l0 (hp_Li (z := (12600 + (1 * g + 0))) l1 rfl (by omega) hp_Ln)) (hp_Si (z := (0 + 0)) rfl (by omega) trivial) ?_ ?_
  · intro p hp ys l' st' h' hys a1 a2 a3 gZ gL gS
    cases hp
  · intro p hp ys v h' hys a1 a2 a3 gZ gS
    rcases List.mem_cons.mp hp with rfl | hp
    · obtain rfl := hp_y0 hys
      cases v with
      | none => cases gS
      | some w =>
        obtain ⟨y0, t0, s0, q0, -⟩ := hp_gSi (z := (0 + 0)) gS rfl
        cases s0
        exact r0 h' y0 (by omega) a1 a2 a3
    cases hp
theorem yvG_k : hp_chk 312 97 2 [(0, 0, 400), (1, 0, 4)] [] [(0, .inr (.inr (.inl (some 94)))), (1, .inl (12600, [(0, 1)]))] [.inl (1, [])] [(20016, (0, []), (0, [(1, 1)]))] [] 8 [(111, ([], 2, [(0, 0, 400), (1, 0, 4)], [], [(0, .inr (.inr (.inl (some 94)))), (1, .inl (12600, [(0, 1)]))], [.inl (0, [(1, 1)]), .inl (12600, [(0, 1)]), .inr (.inr (.inl (some 117)))], []))] [] = true := by decide +kernel
theorem yvG {cst : am_K} {strs : List Nat} {Φ : am_Q → Prop} {D : Nat} {M : am_M} {h : am_H} {l : am_L} (c : hp_C cst strs D) (hM : m_P[312]? = some M) (hD : (8 : Int) ≤ (D : Int) + 1) (hy : ly_hy m_tt ly_TH h) (g s : Int) (x0 : Int32) (hx0 : x0.toInt = 1) (b0 : 0 ≤ g) (t0 : g ≤ 400) (b1 : 0 ≤ s) (t1 : s ≤ 4) (k0 : ly_hv cst h 20016 0 = some (s)) (l0 : hp_a l 0 94) (l1 : hp_i l 1 (g + 12600)) (e0 : ∀ (l' : am_L) (h' : am_H) (y0 : Int32) (y1 : Int32), y0.toInt = (s) → y1.toInt = (g + 12600) → ly_hy m_tt ly_TH h' → ly_fr cst [] h h' → h.length ≤ h'.length → hp_a l' 0 94 → hp_i l' 1 (g + 12600) → hp_F cst strs Φ D M 111 l' [.int y0, .int y1, .ref 117] h') : hp_F cst strs Φ D M 97 l [.int x0] h := by
  refine hp_arc c hM yvG_k hD [g, s] rfl hy (hp_Bc (z := g) rfl b0 t0 (hp_Bc (z := s) rfl b1 t1 hp_Bn)) hp_Fn (hp_Kc (zi := (0 + 0)) (zv := (0 + (1 * s + 0))) k0 rfl rfl (by omega) (by omega) hp_Kn) (hp_La l0 (hp_Li (z := (12600 + (1 * g + 0))) l1 rfl (by omega) hp_Ln)) (hp_Si (z := (1 + 0)) rfl (by omega) trivial) ?_ ?_
  · intro p hp ys l' st' h' hys a1 a2 a3 gZ gL gS
    rcases List.mem_cons.mp hp with rfl | hp
    · obtain rfl := hp_y0 hys
      obtain ⟨y0, t0, rfl, q0, g0⟩ := hp_gSi (z := (0 + (1 * s + 0))) gS rfl
      obtain ⟨y1, t1, rfl, q1, g1⟩ := hp_gSi (z := (12600 + (1 * g + 0))) g0 rfl
      obtain ⟨t2, rfl, g2⟩ := hp_gSa g1 (by decide)
      cases hp_gSn g2
      exact e0 l' h' y0 y1 (by omega) (by omega) a1 a2 a3 (hp_gLa gL (List.mem_of_getElem? (i := 0) rfl) (by decide)) (hp_gLi (z := (12600 + (1 * g + 0))) gL (List.mem_of_getElem? (i := 1) rfl) rfl (by omega))
    cases hp
  · intro p hp ys v h' hys a1 a2 a3 gZ gS
    cases hp
theorem yvH_k : hp_chk 312 112 1 [(0, 0, 400)] [] [(0, .inr (.inr (.inl (some 94)))), (1, .inl (12600, [(0, 1)]))] [] [] [] 8 [(118, ([], 1, [(0, 0, 400)], [], [(0, .inr (.inr (.inl (some 94)))), (1, .inl (12600, [(0, 1)]))], [.inl (0, []), .inl (12600, [(0, 1)]), .inr (.inr (.inl (some 115)))], []))] [] = true := by decide +kernel
theorem yvH {cst : am_K} {strs : List Nat} {Φ : am_Q → Prop} {D : Nat} {M : am_M} {h : am_H} {l : am_L} (c : hp_C cst strs D) (hM : m_P[312]? = some M) (hD : (8 : Int) ≤ (D : Int) + 1) (hy : ly_hy m_tt ly_TH h) (g : Int) (b0 : 0 ≤ g) (t0 : g ≤ 400) (l0 : hp_a l 0 94) (l1 : hp_i l 1 (g + 12600)) (e0 : ∀ (l' : am_L) (h' : am_H) (y0 : Int32) (y1 : Int32), y0.toInt = 0 → y1.toInt = (g + 12600) → ly_hy m_tt ly_TH h' → ly_fr cst [] h h' → h.length ≤ h'.length → hp_a l' 0 94 → hp_i l' 1 (g + 12600) → hp_F cst strs Φ D M 118 l' [.int y0, .int y1, .ref 115] h') : hp_F cst strs Φ D M 112 l [] h := by
  refine hp_arc c hM yvH_k hD [g] rfl hy (hp_Bc (z := g) rfl b0 t0 hp_Bn) hp_Fn hp_Kn (hp_La l0 (hp_Li (z := (12600 + (1 * g + 0))) l1 rfl (by omega) hp_Ln)) trivial ?_ ?_
  · intro p hp ys l' st' h' hys a1 a2 a3 gZ gL gS
    rcases List.mem_cons.mp hp with rfl | hp
    · obtain rfl := hp_y0 hys
      obtain ⟨y0, t0, rfl, q0, g0⟩ := hp_gSi (z := (0 + 0)) gS rfl
      obtain ⟨y1, t1, rfl, q1, g1⟩ := hp_gSi (z := (12600 + (1 * g + 0))) g0 rfl
      obtain ⟨t2, rfl, g2⟩ := hp_gSa g1 (by decide)
      cases hp_gSn g2
      exact e0 l' h' y0 y1 (by omega) (by omega) a1 a2 a3 (hp_gLa gL (List.mem_of_getElem? (i := 0) rfl) (by decide)) (hp_gLi (z := (12600 + (1 * g + 0))) gL (List.mem_of_getElem? (i := 1) rfl) rfl (by omega))
    cases hp
  · intro p hp ys v h' hys a1 a2 a3 gZ gS
    cases hp
theorem yvI_k : hp_chk 312 119 1 [(0, 0, 400)] [] [(0, .inr (.inr (.inl (some 94)))), (1, .inl (12600, [(0, 1)]))] [] [] [] 8 [(125, ([], 1, [(0, 0, 400)], [], [(0, .inr (.inr (.inl (some 94)))), (1, .inl (12600, [(0, 1)]))], [.inl (0, []), .inl (12600, [(0, 1)]), .inr (.inr (.inl (some 118)))], []))] [] = true := by decide +kernel
theorem yvI {cst : am_K} {strs : List Nat} {Φ : am_Q → Prop} {D : Nat} {M : am_M} {h : am_H} {l : am_L} (c : hp_C cst strs D) (hM : m_P[312]? = some M) (hD : (8 : Int) ≤ (D : Int) + 1) (hy : ly_hy m_tt ly_TH h) (g : Int) (b0 : 0 ≤ g) (t0 : g ≤ 400) (l0 : hp_a l 0 94) (l1 : hp_i l 1 (g + 12600)) (e0 : ∀ (l' : am_L) (h' : am_H) (y0 : Int32) (y1 : Int32), y0.toInt = 0 → y1.toInt = (g + 12600) → ly_hy m_tt ly_TH h' → ly_fr cst [] h h' → h.length ≤ h'.length → hp_a l' 0 94 → hp_i l' 1 (g + 12600) → hp_F cst strs Φ D M 125 l' [.int y0, .int y1, .ref 118] h') : hp_F cst strs Φ D M 119 l [] h := by
  refine hp_arc c hM yvI_k hD [g] rfl hy (hp_Bc (z := g) rfl b0 t0 hp_Bn) hp_Fn hp_Kn (hp_La l0 (hp_Li (z := (12600 + (1 * g + 0))) l1 rfl (by omega) hp_Ln)) trivial ?_ ?_
  · intro p hp ys l' st' h' hys a1 a2 a3 gZ gL gS
    rcases List.mem_cons.mp hp with rfl | hp
    · obtain rfl := hp_y0 hys
      obtain ⟨y0, t0, rfl, q0, g0⟩ := hp_gSi (z := (0 + 0)) gS rfl
      obtain ⟨y1, t1, rfl, q1, g1⟩ := hp_gSi (z := (12600 + (1 * g + 0))) g0 rfl
      obtain ⟨t2, rfl, g2⟩ := hp_gSa g1 (by decide)
      cases hp_gSn g2
      exact e0 l' h' y0 y1 (by omega) (by omega) a1 a2 a3 (hp_gLa gL (List.mem_of_getElem? (i := 0) rfl) (by decide)) (hp_gLi (z := (12600 + (1 * g + 0))) gL (List.mem_of_getElem? (i := 1) rfl) rfl (by omega))
    cases hp
  · intro p hp ys v h' hys a1 a2 a3 gZ gS
    cases hp
theorem yvJ0_k : hp_chk 312 126 2 [(0, 0, 400), (1, 0, 0)] [] [(0, .inr (.inr (.inl (some 94)))), (1, .inl (12600, [(0, 1)]))] [] [(19971, (0, []), (0, [(1, 1)]))] [] 8 [] [([], 2, [(0, 0, 400), (1, 0, 0)], [], [], [.inl (1, [])], [])] = true := by decide +kernel
theorem yvJ0 {cst : am_K} {strs : List Nat} {Φ : am_Q → Prop} {D : Nat} {M : am_M} {h : am_H} {l : am_L} (c : hp_C cst strs D) (hM : m_P[312]? = some M) (hD : (8 : Int) ≤ (D : Int) + 1) (hy : ly_hy m_tt ly_TH h) (g q : Int) (b0 : 0 ≤ g) (t0 : g ≤ 400) (b1 : 0 ≤ q) (t1 : q ≤ 0) (k0 : ly_hv cst h 19971 0 = some (q)) (l0 : hp_a l 0 94) (l1 : hp_i l 1 (g + 12600)) (r0 : ∀ (h' : am_H) (y0 : Int32), y0.toInt = 1 → ly_hy m_tt ly_TH h' → ly_fr cst [] h h' → h.length ≤ h'.length → Φ (some (.int y0), h', 0, 0)) : hp_F cst strs Φ D M 126 l [] h := by
  refine hp_arc c hM yvJ0_k hD [g, q] rfl hy (hp_Bc (z := g) rfl b0 t0 (hp_Bc (z := q) rfl b1 t1 hp_Bn)) hp_Fn (hp_Kc (zi := (0 + 0)) (zv := (0 + (1 * q + 0))) k0 rfl rfl (by omega) (by omega) hp_Kn) (hp_La l0 (hp_Li (z := (12600 + (1 * g + 0))) l1 rfl (by omega) hp_Ln)) trivial ?_ ?_
  · intro p hp ys l' st' h' hys a1 a2 a3 gZ gL gS
    cases hp
  · intro p hp ys v h' hys a1 a2 a3 gZ gS
    rcases List.mem_cons.mp hp with rfl | hp
    · obtain rfl := hp_y0 hys
      cases v with
      | none => cases gS
      | some w =>
        obtain ⟨y0, t0, s0, q0, -⟩ := hp_gSi (z := (1 + 0)) gS rfl
        cases s0
        exact r0 h' y0 (by omega) a1 a2 a3
    cases hp
theorem yvJ1_k : hp_chk 312 126 2 [(0, 0, 400), (1, 2, 8)] [] [(0, .inr (.inr (.inl (some 94)))), (1, .inl (12600, [(0, 1)]))] [] [(19971, (0, []), (0, [(1, 1)]))] [] 8 [] [([], 2, [(0, 0, 400), (1, 2, 8)], [], [], [.inl (1, [])], [])] = true := by decide +kernel
theorem yvJ1 {cst : am_K} {strs : List Nat} {Φ : am_Q → Prop} {D : Nat} {M : am_M} {h : am_H} {l : am_L} (c : hp_C cst strs D) (hM : m_P[312]? = some M) (hD : (8 : Int) ≤ (D : Int) + 1) (hy : ly_hy m_tt ly_TH h) (g q : Int) (b0 : 0 ≤ g) (t0 : g ≤ 400) (b1 : 2 ≤ q) (t1 : q ≤ 8) (k0 : ly_hv cst h 19971 0 = some (q)) (l0 : hp_a l 0 94) (l1 : hp_i l 1 (g + 12600)) (r0 : ∀ (h' : am_H) (y0 : Int32), y0.toInt = 1 → ly_hy m_tt ly_TH h' → ly_fr cst [] h h' → h.length ≤ h'.length → Φ (some (.int y0), h', 0, 0)) : hp_F cst strs Φ D M 126 l [] h := by
  refine hp_arc c hM yvJ1_k hD [g, q] rfl hy (hp_Bc (z := g) rfl b0 t0 (hp_Bc (z := q) rfl b1 t1 hp_Bn)) hp_Fn (hp_Kc (zi := (0 + 0)) (zv := (0 + (1 * q + 0))) k0 rfl rfl (by omega) (by omega) hp_Kn) (hp_La l0 (hp_Li (z := (12600 + (1 * g + 0))) l1 rfl (by omega) hp_Ln)) trivial ?_ ?_
  · intro p hp ys l' st' h' hys a1 a2 a3 gZ gL gS
    cases hp
  · intro p hp ys v h' hys a1 a2 a3 gZ gS
    rcases List.mem_cons.mp hp with rfl | hp
    · obtain rfl := hp_y0 hys
      cases v with
      | none => cases gS
      | some w =>
        obtain ⟨y0, t0, s0, q0, -⟩ := hp_gSi (z := (1 + 0)) gS rfl
        cases s0
        exact r0 h' y0 (by omega) a1 a2 a3
    cases hp
theorem yvJ2_k : hp_chk 312 126 2 [(0, 0, 400), (1, (-1), 20)] [] [(0, .inr (.inr (.inl (some 94)))), (1, .inl (12600, [(0, 1)]))] [] [(19971, (0, []), (1, [])), (19972, (0, []), (0, [(1, 1)]))] [] 8 [] [([], 2, [(0, 0, 400), (1, (-1), 20)], [], [], [.inl (1, [])], [])] = true := by decide +kernel
theorem yvJ2 {cst : am_K} {strs : List Nat} {Φ : am_Q → Prop} {D : Nat} {M : am_M} {h : am_H} {l : am_L} (c : hp_C cst strs D) (hM : m_P[312]? = some M) (hD : (8 : Int) ≤ (D : Int) + 1) (hy : ly_hy m_tt ly_TH h) (g k : Int) (b0 : 0 ≤ g) (t0 : g ≤ 400) (b1 : (-1) ≤ k) (t1 : k ≤ 20) (k0 : ly_hv cst h 19971 0 = some 1) (k1 : ly_hv cst h 19972 0 = some (k)) (l0 : hp_a l 0 94) (l1 : hp_i l 1 (g + 12600)) (r0 : ∀ (h' : am_H) (y0 : Int32), y0.toInt = 1 → ly_hy m_tt ly_TH h' → ly_fr cst [] h h' → h.length ≤ h'.length → Φ (some (.int y0), h', 0, 0)) : hp_F cst strs Φ D M 126 l [] h := by
  refine hp_arc c hM yvJ2_k hD [g, k] rfl hy (hp_Bc (z := g) rfl b0 t0 (hp_Bc (z := k) rfl b1 t1 hp_Bn)) hp_Fn (hp_Kc (zi := (0 + 0)) (zv := (1 + 0)) k0 rfl rfl (by omega) (by omega) (hp_Kc (zi := (0 + 0)) (zv := (0 + (1 * k + 0))) k1 rfl rfl (by omega) (by omega) hp_Kn)) (hp_La l0 (hp_Li (z := (12600 + (1 * g + 0))) l1 rfl (by omega) hp_Ln)) trivial ?_ ?_
  · intro p hp ys l' st' h' hys a1 a2 a3 gZ gL gS
    cases hp
  · intro p hp ys v h' hys a1 a2 a3 gZ gS
    rcases List.mem_cons.mp hp with rfl | hp
    · obtain rfl := hp_y0 hys
      cases v with
      | none => cases gS
      | some w =>
        obtain ⟨y0, t0, s0, q0, -⟩ := hp_gSi (z := (1 + 0)) gS rfl
        cases s0
        exact r0 h' y0 (by omega) a1 a2 a3
    cases hp
theorem yvK_k : hp_chk 312 126 2 [(0, 0, 400), (1, 21, 23)] [] [(0, .inr (.inr (.inl (some 94)))), (1, .inl (12600, [(0, 1)]))] [] [(19971, (0, []), (1, [])), (19972, (0, []), (0, [(1, 1)]))] [] 8 [(168, ([], 2, [(0, 0, 400), (1, 21, 23)], [], [(0, .inr (.inr (.inl (some 94)))), (1, .inl (12600, [(0, 1)]))], [.inl ((-20), [(1, 1)]), .inl (12600, [(0, 1)]), .inr (.inr (.inl (some 115)))], []))] [] = true := by decide +kernel
theorem yvK {cst : am_K} {strs : List Nat} {Φ : am_Q → Prop} {D : Nat} {M : am_M} {h : am_H} {l : am_L} (c : hp_C cst strs D) (hM : m_P[312]? = some M) (hD : (8 : Int) ≤ (D : Int) + 1) (hy : ly_hy m_tt ly_TH h) (g k : Int) (b0 : 0 ≤ g) (t0 : g ≤ 400) (b1 : 21 ≤ k) (t1 : k ≤ 23) (k0 : ly_hv cst h 19971 0 = some 1) (k1 : ly_hv cst h 19972 0 = some (k)) (l0 : hp_a l 0 94) (l1 : hp_i l 1 (g + 12600)) (e0 : ∀ (l' : am_L) (h' : am_H) (y0 : Int32) (y1 : Int32), y0.toInt = (k - 20) → y1.toInt = (g + 12600) → ly_hy m_tt ly_TH h' → ly_fr cst [] h h' → h.length ≤ h'.length → hp_a l' 0 94 → hp_i l' 1 (g + 12600) → hp_F cst strs Φ D M 168 l' [.int y0, .int y1, .ref 115] h') : hp_F cst strs Φ D M 126 l [] h := by
  refine hp_arc c hM yvK_k hD [g, k] rfl hy (hp_Bc (z := g) rfl b0 t0 (hp_Bc (z := k) rfl b1 t1 hp_Bn)) hp_Fn (hp_Kc (zi := (0 + 0)) (zv := (1 + 0)) k0 rfl rfl (by omega) (by omega) (hp_Kc (zi := (0 + 0)) (zv := (0 + (1 * k + 0))) k1 rfl rfl (by omega) (by omega) hp_Kn)) (hp_La l0 (hp_Li (z := (12600 + (1 * g + 0))) l1 rfl (by omega) hp_Ln)) trivial ?_ ?_
  · intro p hp ys l' st' h' hys a1 a2 a3 gZ gL gS
    rcases List.mem_cons.mp hp with rfl | hp
    · obtain rfl := hp_y0 hys
      obtain ⟨y0, t0, rfl, q0, g0⟩ := hp_gSi (z := ((-20) + (1 * k + 0))) gS rfl
      obtain ⟨y1, t1, rfl, q1, g1⟩ := hp_gSi (z := (12600 + (1 * g + 0))) g0 rfl
      obtain ⟨t2, rfl, g2⟩ := hp_gSa g1 (by decide)
      cases hp_gSn g2
      exact e0 l' h' y0 y1 (by omega) (by omega) a1 a2 a3 (hp_gLa gL (List.mem_of_getElem? (i := 0) rfl) (by decide)) (hp_gLi (z := (12600 + (1 * g + 0))) gL (List.mem_of_getElem? (i := 1) rfl) rfl (by omega))
    cases hp
  · intro p hp ys v h' hys a1 a2 a3 gZ gS
    cases hp
theorem yvL_k : hp_chk 312 169 1 [(0, 0, 400)] [] [(0, .inr (.inr (.inl (some 94)))), (1, .inl (12600, [(0, 1)]))] [] [] [] 8 [(170, ([], 1, [(0, 0, 400)], [], [(0, .inr (.inr (.inl (some 94)))), (1, .inl (12600, [(0, 1)]))], [.inr (.inr (.inl (some 94)))], []))] [] = true := by decide +kernel
theorem yvL {cst : am_K} {strs : List Nat} {Φ : am_Q → Prop} {D : Nat} {M : am_M} {h : am_H} {l : am_L} (c : hp_C cst strs D) (hM : m_P[312]? = some M) (hD : (8 : Int) ≤ (D : Int) + 1) (hy : ly_hy m_tt ly_TH h) (g : Int) (b0 : 0 ≤ g) (t0 : g ≤ 400) (l0 : hp_a l 0 94) (l1 : hp_i l 1 (g + 12600)) (e0 : ∀ (l' : am_L) (h' : am_H), ly_hy m_tt ly_TH h' → ly_fr cst [] h h' → h.length ≤ h'.length → hp_a l' 0 94 → hp_i l' 1 (g + 12600) → hp_F cst strs Φ D M 170 l' [.ref 94] h') : hp_F cst strs Φ D M 169 l [] h := by
  refine hp_arc c hM yvL_k hD [g] rfl hy (hp_Bc (z := g) rfl b0 t0 hp_Bn) hp_Fn hp_Kn (hp_La l0 (hp_Li (z := (12600 + (1 * g + 0))) l1 rfl (by omega) hp_Ln)) trivial ?_ ?_
  · intro p hp ys l' st' h' hys a1 a2 a3 gZ gL gS
    rcases List.mem_cons.mp hp with rfl | hp
    · obtain rfl := hp_y0 hys
      obtain ⟨t0, rfl, g0⟩ := hp_gSa gS (by decide)
      cases hp_gSn g0
      exact e0 l' h' a1 a2 a3 (hp_gLa gL (List.mem_of_getElem? (i := 0) rfl) (by decide)) (hp_gLi (z := (12600 + (1 * g + 0))) gL (List.mem_of_getElem? (i := 1) rfl) rfl (by omega))
    cases hp
  · intro p hp ys v h' hys a1 a2 a3 gZ gS
    cases hp
theorem yvM_k : hp_chk 312 173 1 [(0, 0, 400)] [] [(0, .inr (.inr (.inl (some 94)))), (1, .inl (12600, [(0, 1)]))] [] [] [] 8 [(174, ([], 1, [(0, 0, 400)], [], [(0, .inr (.inr (.inl (some 94)))), (1, .inl (12600, [(0, 1)]))], [.inr (.inr (.inl (some 94)))], []))] [] = true := by decide +kernel
theorem yvM {cst : am_K} {strs : List Nat} {Φ : am_Q → Prop} {D : Nat} {M : am_M} {h : am_H} {l : am_L} (c : hp_C cst strs D) (hM : m_P[312]? = some M) (hD : (8 : Int) ≤ (D : Int) + 1) (hy : ly_hy m_tt ly_TH h) (g : Int) (b0 : 0 ≤ g) (t0 : g ≤ 400) (l0 : hp_a l 0 94) (l1 : hp_i l 1 (g + 12600)) (e0 : ∀ (l' : am_L) (h' : am_H), ly_hy m_tt ly_TH h' → ly_fr cst [] h h' → h.length ≤ h'.length → hp_a l' 0 94 → hp_i l' 1 (g + 12600) → hp_F cst strs Φ D M 174 l' [.ref 94] h') : hp_F cst strs Φ D M 173 l [] h := by
  refine hp_arc c hM yvM_k hD [g] rfl hy (hp_Bc (z := g) rfl b0 t0 hp_Bn) hp_Fn hp_Kn (hp_La l0 (hp_Li (z := (12600 + (1 * g + 0))) l1 rfl (by omega) hp_Ln)) trivial ?_ ?_
  · intro p hp ys l' st' h' hys a1 a2 a3 gZ gL gS
    rcases List.mem_cons.mp hp with rfl | hp
    · obtain rfl := hp_y0 hys
      obtain ⟨t0, rfl, g0⟩ := hp_gSa gS (by decide)
      cases hp_gSn g0
      exact e0 l' h' a1 a2 a3 (hp_gLa gL (List.mem_of_getElem? (i := 0) rfl) (by decide)) (hp_gLi (z := (12600 + (1 * g + 0))) gL (List.mem_of_getElem? (i := 1) rfl) rfl (by omega))
    cases hp
  · intro p hp ys v h' hys a1 a2 a3 gZ gS
    cases hp
theorem yvN0_k : hp_chk 312 177 1 [(0, 0, 400)] [] [(0, .inr (.inr (.inl (some 94)))), (1, .inl (12600, [(0, 1)]))] [.inl (0, [])] [] [] 8 [] [([], 1, [(0, 0, 400)], [], [], [.inl (0, [])], [])] = true := by decide +kernel
theorem yvN0 {cst : am_K} {strs : List Nat} {Φ : am_Q → Prop} {D : Nat} {M : am_M} {h : am_H} {l : am_L} (c : hp_C cst strs D) (hM : m_P[312]? = some M) (hD : (8 : Int) ≤ (D : Int) + 1) (hy : ly_hy m_tt ly_TH h) (g : Int) (x0 : Int32) (hx0 : x0.toInt = 0) (b0 : 0 ≤ g) (t0 : g ≤ 400) (l0 : hp_a l 0 94) (l1 : hp_i l 1 (g + 12600)) (r0 : ∀ (h' : am_H) (y0 : Int32), y0.toInt = 0 → ly_hy m_tt ly_TH h' → ly_fr cst [] h h' → h.length ≤ h'.length → Φ (some (.int y0), h', 0, 0)) : hp_F cst strs Φ D M 177 l [.int x0] h := by
  refine hp_arc c hM yvN0_k hD [g] rfl hy (hp_Bc (z := g) rfl b0 t0 hp_Bn) hp_Fn hp_Kn (hp_La l0 (hp_Li (z := (12600 + (1 * g + 0))) l1 rfl (by omega) hp_Ln)) (hp_Si (z := (0 + 0)) rfl (by omega) trivial) ?_ ?_
  · intro p hp ys l' st' h' hys a1 a2 a3 gZ gL gS
    cases hp
  · intro p hp ys v h' hys a1 a2 a3 gZ gS
    rcases List.mem_cons.mp hp with rfl | hp
    · obtain rfl := hp_y0 hys
      cases v with
      | none => cases gS
      | some w =>
        obtain ⟨y0, t0, s0, q0, -⟩ := hp_gSi (z := (0 + 0)) gS rfl
        cases s0
        exact r0 h' y0 (by omega) a1 a2 a3
    cases hp
theorem yvN_k : hp_chk 312 177 2 [(0, 0, 400), (1, 0, 4)] [] [(0, .inr (.inr (.inl (some 94)))), (1, .inl (12600, [(0, 1)]))] [.inl (1, [])] [(20016, (0, []), (0, [(1, 1)]))] [] 8 [(191, ([], 2, [(0, 0, 400), (1, 0, 4)], [], [(0, .inr (.inr (.inl (some 94)))), (1, .inl (12600, [(0, 1)]))], [.inl (0, [(1, 1)]), .inl (12600, [(0, 1)]), .inr (.inr (.inl (some 118)))], []))] [] = true := by decide +kernel
theorem yvN {cst : am_K} {strs : List Nat} {Φ : am_Q → Prop} {D : Nat} {M : am_M} {h : am_H} {l : am_L} (c : hp_C cst strs D) (hM : m_P[312]? = some M) (hD : (8 : Int) ≤ (D : Int) + 1) (hy : ly_hy m_tt ly_TH h) (g s : Int) (x0 : Int32) (hx0 : x0.toInt = 1) (b0 : 0 ≤ g) (t0 : g ≤ 400) (b1 : 0 ≤ s) (t1 : s ≤ 4) (k0 : ly_hv cst h 20016 0 = some (s)) (l0 : hp_a l 0 94) (l1 : hp_i l 1 (g + 12600)) (e0 : ∀ (l' : am_L) (h' : am_H) (y0 : Int32) (y1 : Int32), y0.toInt = (s) → y1.toInt = (g + 12600) → ly_hy m_tt ly_TH h' → ly_fr cst [] h h' → h.length ≤ h'.length → hp_a l' 0 94 → hp_i l' 1 (g + 12600) → hp_F cst strs Φ D M 191 l' [.int y0, .int y1, .ref 118] h') : hp_F cst strs Φ D M 177 l [.int x0] h := by
  refine hp_arc c hM yvN_k hD [g, s] rfl hy (hp_Bc (z := g) rfl b0 t0 (hp_Bc (z := s) rfl b1 t1 hp_Bn)) hp_Fn (hp_Kc (zi := (0 + 0)) (zv := (0 + (1 * s + 0))) k0 rfl rfl (by omega) (by omega) hp_Kn) (hp_La l0 (hp_Li (z := (12600 + (1 * g + 0))) l1 rfl (by omega) hp_Ln)) (hp_Si (z := (1 + 0)) rfl (by omega) trivial) ?_ ?_
  · intro p hp ys l' st' h' hys a1 a2 a3 gZ gL gS
    rcases List.mem_cons.mp hp with rfl | hp
    · obtain rfl := hp_y0 hys
      obtain ⟨y0, t0, rfl, q0, g0⟩ := hp_gSi (z := (0 + (1 * s + 0))) gS rfl
      obtain ⟨y1, t1, rfl, q1, g1⟩ := hp_gSi (z := (12600 + (1 * g + 0))) g0 rfl
      obtain ⟨t2, rfl, g2⟩ := hp_gSa g1 (by decide)
      cases hp_gSn g2
      exact e0 l' h' y0 y1 (by omega) (by omega) a1 a2 a3 (hp_gLa gL (List.mem_of_getElem? (i := 0) rfl) (by decide)) (hp_gLi (z := (12600 + (1 * g + 0))) gL (List.mem_of_getElem? (i := 1) rfl) rfl (by omega))
    cases hp
  · intro p hp ys v h' hys a1 a2 a3 gZ gS
    cases hp
theorem yvO_k : hp_chk 312 192 0 [] [] [(0, .inr (.inr (.inl (some 94))))] [] [] [] 8 [] [([], 0, [], [], [], [.inl (1, [])], [])] = true := by decide +kernel
theorem yvO {cst : am_K} {strs : List Nat} {Φ : am_Q → Prop} {D : Nat} {M : am_M} {h : am_H} {l : am_L} (c : hp_C cst strs D) (hM : m_P[312]? = some M) (hD : (8 : Int) ≤ (D : Int) + 1) (hy : ly_hy m_tt ly_TH h) (l0 : hp_a l 0 94) (r0 : ∀ (h' : am_H) (y0 : Int32), y0.toInt = 1 → ly_hy m_tt ly_TH h' → ly_fr cst [] h h' → h.length ≤ h'.length → Φ (some (.int y0), h', 0, 0)) : hp_F cst strs Φ D M 192 l [] h := by
  refine hp_arc c hM yvO_k hD [] rfl hy hp_Bn hp_Fn hp_Kn (hp_La l0 hp_Ln) trivial ?_ ?_
  · intro p hp ys l' st' h' hys a1 a2 a3 gZ gL gS
    cases hp
  · intro p hp ys v h' hys a1 a2 a3 gZ gS
    rcases List.mem_cons.mp hp with rfl | hp
    · obtain rfl := hp_y0 hys
      cases v with
      | none => cases gS
      | some w =>
        obtain ⟨y0, t0, s0, q0, -⟩ := hp_gSi (z := (1 + 0)) gS rfl
        cases s0
        exact r0 h' y0 (by omega) a1 a2 a3
    cases hp
/-- a store into a row whose ghosts are aside -/
theorem p0_fn {cst : am_K} {h h' : am_H} {r : Nat} {o v : Int} {ns : List Int} (A : fn_N cst h r o ns) (p : hp_p0 cst r (o + (ns.length : Int)) v h h') (hr : r < 60010) : fn_N cst h' r o (ns ++ [v]) := fun k hk => by
  rw [List.length_append, List.length_singleton] at hk
  rw [ly_hv0 hr]
  by_cases z : k = ns.length
  · subst z
    rw [List.getElem_append_right (Nat.le_refl _)]
    simp only [Nat.sub_self, List.getElem_singleton]
    exact p.1
  · rw [List.getElem_append_left (by omega), p.2 _ _ (Or.inr (by omega)), ← ly_hv0 hr]
    exact A k (by omega)
theorem fn_re {cst : am_K} {h h' : am_H} {r : Nat} {o v w : Int} {ns : List Int} (A : fn_N cst h r o (ns ++ [w])) (p : hp_put cst r (o + (ns.length : Int)) v h h') : fn_N cst h' r o (ns ++ [v]) := fn_put (fun k hk => by
  have z := A k (by rw [List.length_append]; omega)
  rw [List.getElem_append_left hk] at z
  exact z) p
theorem gl_p0 {g : Bool} {cst : am_K} {h h' : am_H} {r m : Nat} {v : Int} {b : Int} (x : hp_p0 cst r (b + (m : Int)) v h h') (q : (gl_L.all (fun p => decide (p.1 < 60010) && (p.1 != r || decide (p.2 ≤ b))) && (r != 19990 && r != 19991)) = true) : gl g cst h h' := by
  simp only [Bool.and_eq_true, bne_iff_ne] at q
  refine ⟨fun p hp j u hj e => ?_, fun _ y hy u e => ?_⟩
  · have z := List.all_eq_true.mp q.1 p hp
    simp only [Bool.and_eq_true, Bool.or_eq_true, bne_iff_ne, decide_eq_true_eq] at z
    rw [ly_hv0 z.1, x.2 _ _ (by rcases z.2 with z | z; exact Or.inl z; exact Or.inr (by omega)), ← ly_hv0 z.1]
    exact e
  · simp only [List.mem_cons, List.mem_nil_iff, or_false] at hy
    have hl : y < 60010 := by rcases hy with rfl | rfl <;> decide
    rw [ly_hv0 hl, x.2 _ _ (Or.inl (by rcases hy with rfl | rfl; exact Ne.symm q.2.1; exact Ne.symm q.2.2)), ← ly_hv0 hl]
    exact e
/-- a TEST: its relation (0: none), the terms ahead of it, those behind it -/
abbrev qt_T : Type := Int × List Int × List Int
/-- an item that is a TERM -/
def itw (i : Int) : Prop := 0 < i ∨ (-10000 ≤ i ∧ i < 0)
/-- a TEST well made -/
def qwt (x : qt_T) : Prop := 0 ≤ x.1 ∧ x.1 ≤ 3 ∧ (∀ i ∈ x.2.1, itw i) ∧ ∀ i ∈ x.2.2, itw i
theorem ti_w {kd vl : Int → Int} {t a : Nat} (vb : vB kd vl t) (h : tm kd vl t a) : itw (ti kd vl t a) := by
  have hlt : a < t := fk_in (kd := kd) (by rcases h with h | h <;> omega)
  have e := fk_lt (kd := kd) hlt
  have v := vb a hlt
  unfold ti
  rcases h with h | h
  · rw [if_neg (by omega)]
    have := v.2 (by omega)
    exact Or.inr (by omega)
  · rw [if_pos h.1]
    have := v.1 (by omega)
    exact Or.inl (by omega)
theorem sm_w {kd vl : Int → Int} {t : Nat} (vb : vB kd vl t) : ∀ (F a : Nat) (L : List Int) (b : Nat) (L' : List Int), (∀ i ∈ L, itw i) → sm kd vl t F a L = .inr (b, L') → ∀ i ∈ L', itw i
  | 0, a, L, b, L', _, h => by cases h
  | F + 1, a, L, b, L', w, h => by
    rw [sm] at h
    split at h
    · rename_i htm
      have w' : ∀ i ∈ L ++ [ti kd vl t a], itw i := fun i hi => by
        rcases List.mem_append.mp hi with hi | hi
        · exact w i hi
        · rw [List.mem_singleton.mp hi]
          exact ti_w vb htm
      split at h
      · cases h
      split at h
      · exact sm_w vb F (a + 2) _ b L' w' h
      · cases h
        exact w'
    · cases h
/-- its items as the class keeps them -/
def qt_e (x : qt_T) : List Int := x.2.1 ++ (if x.1 = 0 then [] else (-20000 - x.1) :: x.2.2)
/-- where the terms of the tests begin -/
def qt_s : Int → List qt_T → List Int
  | _, [] => []
  | o, x :: T => o :: qt_s (o + (x.2.1.length : Int) + (x.2.2.length : Int)) T
def qt_g (T : List qt_T) : List Int := T.flatMap fun x => x.2.1 ++ x.2.2
theorem qt_g_ap (T : List qt_T) (x : qt_T) : qt_g (T ++ [x]) = qt_g T ++ (x.2.1 ++ x.2.2) := by
  unfold qt_g
  rw [List.flatMap_append, List.flatMap_singleton]
theorem qt_s_ap : ∀ (T : List qt_T) (o : Int) (x : qt_T), qt_s o (T ++ [x]) = qt_s o T ++ [o + ((qt_g T).length : Int)]
  | [], o, x => by
    show [o] = [o + ((qt_g []).length : Int)]
    congr 1
    exact (Int.add_zero o).symm
  | y :: T, o, x => by
    show o :: qt_s _ (T ++ [x]) = o :: (qt_s _ T ++ [_])
    rw [qt_s_ap T]
    congr 3
    show o + (y.2.1.length : Int) + (y.2.2.length : Int) + ((qt_g T).length : Int) = o + (((y.2.1 ++ y.2.2) ++ qt_g T).length : Int)
    rw [List.length_append, List.length_append]
    omega
theorem qt_s_len : ∀ (T : List qt_T) (o : Int), (qt_s o T).length = T.length
  | [], _ => rfl
  | y :: T, o => by
    show (qt_s _ T).length + 1 = T.length + 1
    rw [qt_s_len T]
/-- the tests of the draft -/
def qt_D (cst : am_K) (h : am_H) (T : List qt_T) : Prop := ly_hv cst h 20010 0 = some (T.length : Int) ∧ fn_N cst h 25344 12600 (T.map fun x => x.1) ∧ fn_N cst h 25600 12600 (qt_s 0 T) ∧ fn_N cst h 25856 12600 (T.map fun x => (x.2.1.length : Int)) ∧ fn_N cst h 26112 12600 (T.map fun x => (x.2.2.length : Int)) ∧ gm cst h (qt_g T)
theorem qt_D_mv {cst : am_K} {h h' : am_H} {T : List qt_T} {ms : List Nat} (A : qt_D cst h T) (fr : ly_fr cst ms h h') (q : [20010, 25344, 25600, 25856, 26112, 20011, 26368, 26624].all (fun x => !ly_has x ms) = true) : qt_D cst h' T := by
  simp only [List.all_cons, List.all_nil, Bool.and_true, Bool.and_eq_true, Bool.not_eq_true'] at q
  obtain ⟨q0, q1, q2, q3, q4, q5, q6, q7⟩ := q
  exact ⟨fr _ _ _ q0 A.1, fn_mv A.2.1 fr q1, fn_mv A.2.2.1 fr q2, fn_mv A.2.2.2.1 fr q3, fn_mv A.2.2.2.2.1 fr q4, gm_mv A.2.2.2.2.2 fr q5 q6 q7⟩
/-- the steps of the draft -/
def qt_S (cst : am_K) (h : am_H) (S : List Int) : Prop := ly_hv cst h 20012 0 = some (S.length : Int) ∧ fn_N cst h 26880 24600 S
theorem qt_S_mv {cst : am_K} {h h' : am_H} {S : List Int} {ms : List Nat} (A : qt_S cst h S) (fr : ly_fr cst ms h h') (q1 : ly_has 20012 ms = false) (q2 : ly_has 26880 ms = false) : qt_S cst h' S := ⟨fr _ _ _ q1 A.1, fn_mv A.2 fr q2⟩
/-- how many tokens a SUM takes -/
theorem smz {kd vl : Int → Int} {t : Nat} : ∀ (F a : Nat) (L : List Int) (b : Nat) (L' : List Int), sm kd vl t F a L = .inr (b, L') → b + 1 + 2 * L.length = a + 2 * L'.length ∧ L.length < L'.length
  | 0, a, L, b, L', h => by
    rw [sm] at h
    cases h
  | F + 1, a, L, b, L', h => by
    rw [sm] at h
    split at h
    · split at h
      · cases h
      · split at h
        · have len : (L ++ [ti kd vl t a]).length = L.length + 1 := by rw [List.length_append, List.length_singleton]
          have ih := smz F (a + 2) (L ++ [ti kd vl t a]) b L' h
          omega
        · cases h
          rw [List.length_append, List.length_singleton]
          omega
    · cases h
theorem ts_1 {kd vl : Int → Int} {t a m : Nat} {f : Int × Nat} (nq : ¬ (tm kd vl t a ∧ m = 20)) (e1 : sm kd vl t 5 a [] = .inl f) : ts kd vl t a m = .inl f := by
  unfold ts
  rw [if_neg nq, e1]
theorem ts_2 {kd vl : Int → Int} {t a m b : Nat} {L : List Int} (nq : ¬ (tm kd vl t a ∧ m = 20)) (e1 : sm kd vl t 5 a [] = .inr (b, L)) (q : ¬ 21 ≤ ak kd vl t b) : ts kd vl t a m = .inr (b, L) := by
  unfold ts
  rw [if_neg nq, e1]
  simp only
  rw [if_neg q]
theorem ts_3 {kd vl : Int → Int} {t a m b : Nat} {L : List Int} {f : Int × Nat} (nq : ¬ (tm kd vl t a ∧ m = 20)) (e1 : sm kd vl t 5 a [] = .inr (b, L)) (q : 21 ≤ ak kd vl t b) (e2 : sm kd vl t 5 (b + 1) [] = .inl f) : ts kd vl t a m = .inl f := by
  unfold ts
  rw [if_neg nq, e1]
  simp only
  rw [if_pos q, e2]
theorem ts_4 {kd vl : Int → Int} {t a m b g : Nat} {L N : List Int} (nq : ¬ (tm kd vl t a ∧ m = 20)) (e1 : sm kd vl t 5 a [] = .inr (b, L)) (q : 21 ≤ ak kd vl t b) (e2 : sm kd vl t 5 (b + 1) [] = .inr (g, N)) : ts kd vl t a m = .inr (g, L ++ [20 - ak kd vl t b - 20000] ++ N) := by
  unfold ts
  rw [if_neg nq, e1]
  simp only
  rw [if_pos q, e2]
theorem rk_i5 {kd : Int → Int} {t : Nat} (kb : ∀ j : Nat, j < t → 1 ≤ kd (j : Int) ∧ kd (j : Int) ≤ 61) (a : Nat) : rk kd t a = 5 ↔ fk kd t a = 40 := (rk_b kd t a kb).2.2.2.2.2.2.2.1
theorem rk_i6 {kd : Int → Int} {t : Nat} (kb : ∀ j : Nat, j < t → 1 ≤ kd (j : Int) ∧ kd (j : Int) ≤ 61) (a : Nat) : rk kd t a = 6 ↔ fk kd t a = 41 := (rk_b kd t a kb).2.2.2.2.2.2.2.2.1
/-- the room of a text: tests, steps, terms -/
def qt_p (en : Nat → Int) (a : Nat) (T : List qt_T) (S : List Int) (p : Int) : Prop := 3 * (T.length : Int) + 2 ≤ en a ∧ 3 * ((S.length : Int) + p) + 1 ≤ 2 * en a ∧ 2 * ((qt_g T).length : Int) ≤ en a
def qt_q (en : Nat → Int) (a : Nat) (T : List qt_T) (S : List Int) (p : Int) : Prop := 3 * (T.length : Int) ≤ en a ∧ 3 * ((S.length : Int) + p) ≤ 2 * en a ∧ 2 * ((qt_g T).length : Int) ≤ en a + 1
/-- addStep of the reference -/
theorem yp_run {cst : am_K} {strs : List Nat} {D : Nat} {h : am_H} (cc : ∀ d, hp_C cst strs d) (hD : (8 : Int) ≤ (D : Int) + 1) (hy : ly_hy m_tt ly_TH h) {S : List Int} (X : qt_S cst h S) (sb : S.length ≤ 801) {xs : Int32} (x0 : -4 ≤ xs.toInt) (x1 : xs.toInt ≤ 19) :
    ∃ r, am_Run cst m_cl m_tt m_P strs sx_bi (D + 1) 313 [.ref 94, .int xs] h r ∧ r.1 = none ∧ r.2.2.1 = 0 ∧ r.2.2.2 = 0 ∧ ly_hy m_tt ly_TH r.2.1 ∧ ly_fr cst [20012, 26880, 60020, 60050, 60060, 60061, 60071] h r.2.1 ∧ gl true cst h r.2.1 ∧ qt_S cst r.2.1 (S ++ [xs.toInt]) := by
  obtain ⟨M, hM, hl⟩ := hp_M (mi := 313) (k := 2) (by decide +kernel)
  have go : hp_F cst strs (fun r => r.1 = none ∧ r.2.2.1 = 0 ∧ r.2.2.2 = 0 ∧ ly_hy m_tt ly_TH r.2.1 ∧ ly_fr cst [20012, 26880, 60020, 60050, 60060, 60061, 60071] h r.2.1 ∧ gl true cst h r.2.1 ∧ qt_S cst r.2.1 (S ++ [xs.toInt])) D M 0 (lv_args 0 [.ref 94, .int xs]) [] h := by
    refine yp0 (cc _) hM (by omega) hy xs.toInt (S.length : Int) x0 x1 (by omega) (by omega) X.1 rfl ⟨xs, rfl, rfl⟩ (fun l1 h1 y0 y1 f0 f1 u1 u2 u3 m0 => ?_)
    refine hp_st0 (c := 105) hM (by decide +kernel) u1 (show ly_ths ly_TH 105 = some (.inl (.int, 25420, -4, 19)) from rfl) (by omega) (by omega) (by omega) (by omega) (fun h2 v1 v2 v3 => ?_)
    rw [f0, show y1.toInt = 24600 + (S.length : Int) by omega] at v3
    have v3 : hp_p0 cst 26880 (24600 + (S.length : Int)) xs.toInt h1 h2 := v3
    have F2 : ly_fr cst [26880, 60020, 60050, 60060, 60061, 60071] h1 h2 := hp_p0_fr v3 (by decide) rfl rfl
    have N2 : fn_N cst h2 26880 24600 (S ++ [xs.toInt]) := p0_fn (fn_mv X.2 u2 rfl) v3 (by decide)
    have g2 : gl true cst h h2 := gl_tr (gl_fr u2 rfl) (gl_p0 v3 (by decide))
    refine yp1 (cc _) hM (by omega) v1 (S.length : Int) (by omega) (by omega) (F2 _ _ _ rfl (u2 _ _ _ rfl X.1)) m0 (fun h3 w1 w2 w3 k1 => ⟨rfl, rfl, rfl, w1, ly_fr_tr (hp_sub2 rfl u2) (ly_fr_tr (hp_sub2 rfl F2) (hp_sub2 rfl w2)), gl_tr g2 (gl_fr w2 rfl), ?_, fn_mv N2 w2 rfl⟩)
    rw [List.length_append, List.length_singleton]
    exact k1
  obtain ⟨n', r, hgo, r1, r2, r3, r4⟩ := go
  simp only [Nat.zero_add] at r2 r3
  exact ⟨r, Or.inr ⟨M, n', hM, hl, hgo⟩, r1, r2, r3, r4⟩
theorem scz312_170 {cst : am_K} {strs : List Nat} {Φ : am_Q → Prop} {D : Nat} {M : am_M} {h : am_H} {l : am_L} {st : List Value} (cc : ∀ d, hp_C cst strs d) (hM : m_P[312]? = some M) (hD : 8 ≤ D) (hy : ly_hy m_tt ly_TH h) {f : Int → Int} {n : Int} {t : Nat} {kd pl vl : Int → Int} {en : Nat → Int} {a : Nat} (R : rq cst h f n t kd pl vl en a) (hst : (st.map fun v => v.category).sum ≤ 8)
    (k : ∀ h', ly_hy m_tt ly_TH h' → ly_fr cst [19971, 19972, 19973, 19974, 19975, 19976] h h' → gl true cst h h' → rq cst h' f n t kd pl vl en (a + 1) → hp_F cst strs Φ D M 173 l st h') : hp_F cst strs Φ D M 170 l (.ref 94 :: st) h := by
  obtain ⟨E, rfl⟩ : ∃ E, D = E + 1 := ⟨D - 1, by omega⟩
  obtain ⟨r, hrun, r1, r2, r3, rhy, rfr, rR⟩ := rq_scan (D := E) (cc _) (by omega) hy R
  refine hp_call (mi := 312) (pc := 170) (tg := 299) (na := 1) (c := 78) (ci := 12) (st0 := [.ref 94]) (st := st) (av := []) hM (by decide +kernel) hy rfl rfl rfl hst hrun r2 r3 ?_
  rw [r1]
  exact k _ rhy rfr (gl_fr rfr rfl) rR
theorem ypz312_70 {cst : am_K} {strs : List Nat} {Φ : am_Q → Prop} {D : Nat} {M : am_M} {h : am_H} {l : am_L} {st : List Value} (cc : ∀ d, hp_C cst strs d) (hM : m_P[312]? = some M) (hD : 8 ≤ D) (hy : ly_hy m_tt ly_TH h) {S : List Int} (X : qt_S cst h S) (sb : S.length ≤ 801) {xs : Int32} {v : Int} (xv : xs.toInt = v) (x0 : -4 ≤ v) (x1 : v ≤ 19) (hst : (st.map fun v => v.category).sum ≤ 8)
    (k : ∀ h', ly_hy m_tt ly_TH h' → ly_fr cst [20012, 26880, 60020, 60050, 60060, 60061, 60071] h h' → gl true cst h h' → qt_S cst h' (S ++ [v]) → hp_F cst strs Φ D M 73 l st h') : hp_F cst strs Φ D M 70 l (.int xs :: .ref 94 :: st) h := by
  obtain ⟨E, rfl⟩ : ∃ E, D = E + 1 := ⟨D - 1, by omega⟩
  subst xv
  obtain ⟨r, hrun, r1, r2, r3, rhy, rfr, rg, rS⟩ := yp_run (D := E) (xs := xs) cc (by omega) hy X sb x0 x1
  refine hp_call (mi := 312) (pc := 70) (tg := 313) (na := 2) (c := 78) (ci := 12) (st0 := [.int xs, .ref 94]) (st := st) (av := [.int xs]) hM (by decide +kernel) hy rfl rfl rfl hst hrun r2 r3 ?_
  rw [r1]
  exact k _ rhy rfr rg rS
/-- readTest of the reference, behind its first sum -/
theorem yv_b {cst : am_K} {strs : List Nat} {D : Nat} {M : am_M} {h0 h : am_H} {l : am_L} (cc : ∀ d, hp_C cst strs d) (hM : m_P[312]? = some M) (hD : (8 : Int) ≤ (D : Int) + 1) (hy : ly_hy m_tt ly_TH h) {f : Int → Int} {n : Int} {t : Nat} {kd pl vl : Int → Int} {en : Nat → Int} (kb : kB kd t) (vb : vB kd vl t) {a b m : Nat} {T : List qt_T} {S L1 : List Int} (fr : ly_fr cst [19971, 19972, 19973, 19974, 19975, 19976, 19990, 19991, 20010, 20011, 20012, 20014, 20016, 25344, 25600, 25856, 26112, 26368, 26624, 26880, 60020, 60050, 60060, 60061, 60071] h0 h) (g : gl true cst h0 h) (R : rq cst h f n t kd pl vl en b) (m20 : m ≤ 19) (e1 : sm kd vl t 5 a [] = .inr (b, L1)) (nq : ¬ (tm kd vl t a ∧ m = 20))
    (k1 : ly_hv cst h 20010 0 = some ((T.length : Int) + 1)) (k2 : fn_N cst h 25344 12600 ((T.map fun x => x.1) ++ [0])) (k3 : fn_N cst h 25600 12600 (qt_s 0 T ++ [((qt_g T).length : Int)])) (k4 : fn_N cst h 25856 12600 ((T.map fun x => (x.2.1.length : Int)) ++ [(L1.length : Int)])) (k5 : fn_N cst h 26112 12600 ((T.map fun x => (x.2.2.length : Int)) ++ [0])) (k6 : gm cst h (qt_g T ++ L1)) (k7 : qt_S cst h (S ++ [(m : Int)])) (k8 : ly_hv cst h 20014 0 = some ((m : Int) + 1)) (tb : (T.length : Int) ≤ 400) (po : 2 * ((qt_g T).length : Int) ≤ en a) (l0 : hp_a l 0 94) (l1 : hp_i l 1 ((T.length : Int) + 12600)) : hp_F cst strs (gR cst h0 [19971, 19972, 19973, 19974, 19975, 19976, 19990, 19991, 20010, 20011, 20012, 20014, 20016, 25344, 25600, 25856, 26112, 26368, 26624, 26880, 60020, 60050, 60060, 60061, 60071] pl t n (ts kd vl t a m) (fun y h9 => ∃ x, (y.2 = qt_e x ∧ qwt x) ∧ rq cst h9 f n t kd pl vl en y.1 ∧ qt_D cst h9 (T ++ [x]) ∧ qt_S cst h9 (S ++ [(m : Int)]) ∧ ly_hv cst h9 20014 0 = some ((m : Int) + 1) ∧ a < y.1 ∧ y.1 ≤ t ∧ 2 * ((qt_g (T ++ [x])).length : Int) ≤ en y.1 + 1)) (D + 1 + 1 + 1) M 126 l [] h := by
  have c := cc (D + 1 + 1 + 1)
  have TT := R.1.1
  have n1 := R.1.2.2.1
  have so := sm_ok 5 a [] b L1 rfl e1
  have sz := smz 5 a [] b L1 e1
  rw [List.length_nil] at so sz
  have eb := tkT_end TT b so.2.2.2
  have mo : en a + ((b - a : Nat) : Int) ≤ en (a + (b - a)) := tkT_mono TT (b - a) a (by omega)
  rw [show a + (b - a) = b by omega] at mo
  have ks := rs_so R.2.1
  have kk := R.2.2.1
  have b0 := (rk_b kd t b kb).1
  have b8 := (rk_b kd t b kb).2.1
  have ab := ak_b kd vl t b
  -- no relation
  have none' : ¬ 21 ≤ ak kd vl t b → ∀ (h2 : am_H) (w : Int32), w.toInt = 1 → ly_hy m_tt ly_TH h2 → ly_fr cst [] h h2 → (gR cst h0 [19971, 19972, 19973, 19974, 19975, 19976, 19990, 19991, 20010, 20011, 20012, 20014, 20016, 25344, 25600, 25856, 26112, 26368, 26624, 26880, 60020, 60050, 60060, 60061, 60071] pl t n (ts kd vl t a m) (fun y h9 => ∃ x, (y.2 = qt_e x ∧ qwt x) ∧ rq cst h9 f n t kd pl vl en y.1 ∧ qt_D cst h9 (T ++ [x]) ∧ qt_S cst h9 (S ++ [(m : Int)]) ∧ ly_hv cst h9 20014 0 = some ((m : Int) + 1) ∧ a < y.1 ∧ y.1 ≤ t ∧ 2 * ((qt_g (T ++ [x])).length : Int) ≤ en y.1 + 1)) (some (.int w), h2, 0, 0) := fun q h2 w hw u1 u2 => gR_s (ts_2 nq e1 q) hw u1 (ly_fr_tr fr (hp_sub2 rfl u2)) (gl_tr g (gl_fr u2 rfl)) ⟨(0, L1, []), ⟨by show L1 = L1 ++ (if (0 : Int) = 0 then [] else (-20000 - (0 : Int)) :: []); rw [if_pos rfl, List.append_nil], Int.le_refl 0, by show (0 : Int) ≤ 3; omega, sm_w vb 5 a [] b L1 (fun i hi => by cases hi) e1, fun i hi => by cases hi⟩, rq_mv R hy u1 u2 rfl, ⟨by rw [List.length_append, List.length_singleton]; exact u2 _ _ _ rfl k1, by rw [List.map_append, List.map_singleton]; exact fn_mv k2 u2 rfl, by rw [qt_s_ap, Int.zero_add]; exact fn_mv k3 u2 rfl, by rw [List.map_append, List.map_singleton]; exact fn_mv k4 u2 rfl, by rw [List.map_append, List.map_singleton]; exact fn_mv k5 u2 rfl, by rw [qt_g_ap]; show gm cst h2 (qt_g T ++ (L1 ++ [])); rw [List.append_nil]; exact gm_mv k6 u2 rfl rfl rfl⟩, qt_S_mv k7 u2 rfl rfl, u2 _ _ _ rfl k8, so.2.2.1, so.2.2.2, by
    rw [qt_g_ap]
    show 2 * ((qt_g T ++ (L1 ++ [])).length : Int) ≤ en b + 1
    rw [List.append_nil, List.length_append]
    omega⟩
  by_cases q1 : fk kd t b = 1
  rotate_left
  · have n1' : rk kd t b ≠ 1 := fun z => q1 ((rk_i1 kb b).mp z)
    have nn : ¬ 21 ≤ ak kd vl t b := by rw [ak_n q1]; decide
    by_cases z : rk kd t b ≤ 0
    · exact yvJ0 c hM (by omega) hy (T.length : Int) (rk kd t b) (by omega) tb b0 z ks l0 l1 (fun h2 w hw u1 u2 u3 => none' nn h2 w hw u1 u2)
    · exact yvJ1 c hM (by omega) hy (T.length : Int) (rk kd t b) (by omega) tb (by omega) b8 ks l0 l1 (fun h2 w hw u1 u2 u3 => none' nn h2 w hw u1 u2)
  rw [(rk_i1 kb b).mpr q1] at ks
  by_cases q21 : 21 ≤ ak kd vl t b
  rotate_left
  · exact yvJ2 c hM (by omega) hy (T.length : Int) (ak kd vl t b) (by omega) tb ab.1 (by omega) ks kk l0 l1 (fun h2 w hw u1 u2 u3 => none' q21 h2 w hw u1 u2)
  have bt : b < t := fk_in (kd := kd) (by rw [q1]; decide)
  -- a relation
  refine yvK c hM (by omega) hy (T.length : Int) (ak kd vl t b) (by omega) tb q21 ab.2 ks kk l0 l1 (fun l2 h2 y0 y1 f0 f1 u1 u2 u3 m0 m1 => ?_)
  have yb : -2147483648 ≤ y0.toInt := y0.le_toInt
  have yb' : y0.toInt ≤ 2147483647 := y0.toInt_le
  refine hp_st (c := 99) hM (by decide +kernel) u1 (show ly_ths ly_TH 99 = some (.inl (.int, 13020, -2147483648, 2147483647)) from rfl) rfl (by omega) (by omega) (by omega) (by omega) (fun h3 t1 t2 t3 => ?_)
  rw [f0, show y1.toInt = 12600 + (T.length : Int) by omega] at t3
  have t3 : hp_put cst 25344 (12600 + (T.length : Int)) (ak kd vl t b - 20) h2 h3 := t3
  have pf : ly_fr cst [25344] h2 h3 := hp_put_fr (by rfl) t3
  have K2 : fn_N cst h3 25344 12600 ((T.map fun x => x.1) ++ [ak kd vl t b - 20]) := fn_re (fn_mv k2 u2 rfl) (by rw [List.length_map]; exact t3)
  have F3 : ly_fr cst [25344] h h3 := ly_fr_tr (hp_sub2 rfl u2) pf
  have g3 : gl true cst h h3 := gl_tr (gl_fr u2 rfl) (gl_pl t3 (by decide) (by decide))
  refine yvL c hM (by omega) t1 (T.length : Int) (by omega) tb m0 m1 (fun l4 h4 v1 v2 v3 o0 o1 => ?_)
  refine scz312_170 cc hM (by omega) v1 (rq_mv (rq_mv R hy t1 F3 rfl) t1 v1 v2 rfl) (by decide) (fun h5 w1 w2 w3 w4 => ?_)
  refine yvM c hM (by omega) w1 (T.length : Int) (by omega) tb o0 o1 (fun l6 h6 x1 x2 x3 p0 p1 => ?_)
  have F6 : ly_fr cst [19971, 19972, 19973, 19974, 19975, 19976, 25344] h h6 := ly_fr_tr (hp_sub2 rfl F3) (ly_fr_tr (hp_sub2 rfl v2) (ly_fr_tr (hp_sub2 rfl w2) (hp_sub2 rfl x2)))
  have g6 : gl true cst h h6 := gl_tr g3 (gl_tr (gl_fr v2 rfl) (gl_tr w3 (gl_fr x2 rfl)))
  have K26 : fn_N cst h6 25344 12600 ((T.map fun x => x.1) ++ [ak kd vl t b - 20]) := fn_mv (fn_mv (fn_mv K2 v2 rfl) w2 rfl) x2 rfl
  have R6 := rq_mv w4 w1 x1 x2 rfl
  have lw := (tkT_l2 TT q1).1
  have vw : 32 ≤ vl (b : Int) := by
    have z : 21 ≤ kw (vl (b : Int)) := by
      unfold ak at q21
      rw [if_pos q1] at q21
      exact q21
    have zb := kw_b (vl (b : Int))
    by_cases z1 : kw (vl (b : Int)) = 21
    · have := kw_21 z1
      omega
    by_cases z2 : kw (vl (b : Int)) = 22
    · have := kw_22 z2
      omega
    · have := kw_23 (show kw (vl (b : Int)) = 23 by omega)
      omega
  have lw := lw vw
  obtain ⟨r, hrun, w, r1, r2, r3, rhy, rfr, rg, rF, rS⟩ := yu_run (D := D) (cc _) (cc _) (cc _) hD x1 kb vb R6 (by omega) (gm_mv k6 F6 rfl rfl rfl) (by rw [List.length_append]; omega)
  refine hp_call (mi := 312) (pc := 174) (tg := 314) (na := 1) (c := 78) (ci := 12) (st0 := [.ref 94]) (st := []) (av := []) hM (by decide +kernel) x1 rfl rfl rfl (by decide) hrun r2 r3 ?_
  rw [r1]
  have fr7 : ly_fr cst [19971, 19972, 19973, 19974, 19975, 19976, 19990, 19991, 20010, 20011, 20012, 20014, 20016, 25344, 25600, 25856, 26112, 26368, 26624, 26880, 60020, 60050, 60060, 60061, 60071] h0 r.2.1 := ly_fr_tr fr (ly_fr_tr (hp_sub2 rfl F6) (hp_sub2 rfl rfr))
  have g7 := gf_tr g (gf_tr g6 rg)
  cases e2 : sm kd vl t 5 (b + 1) [] with
  | inl q =>
    obtain ⟨k, b2⟩ := q
    obtain ⟨w0, z1, z2⟩ := rF k b2 e2
    exact yvN0 c hM (by omega) rhy (T.length : Int) w w0 (by omega) tb p0 p1 (fun h8 v hv s1 s2 s3 => gR_f (ts_3 nq e1 q21 e2) hv s1 (ly_fr_tr fr7 (hp_sub2 rfl s2)) (gf_tr g7 (gl_fr s2 rfl)) (s2 _ _ _ rfl z1) (s2 _ _ _ rfl z2))
  | inr q =>
    obtain ⟨b2, L2⟩ := q
    obtain ⟨w0, gt, z1, z2, z3⟩ := rS _ e2
    have g7 := gl_tr g (gl_tr g6 gt)
    have so2 := sm_ok 5 (b + 1) [] b2 L2 rfl e2
    have sz2 := smz 5 (b + 1) [] b2 L2 e2
    rw [List.length_nil] at so2 sz2
    have mo2 : en (b + 1) + ((b2 - (b + 1) : Nat) : Int) ≤ en (b + 1 + (b2 - (b + 1))) := tkT_mono TT (b2 - (b + 1)) (b + 1) (by omega)
    rw [show b + 1 + (b2 - (b + 1)) = b2 by omega] at mo2
    refine yvN c hM (by omega) rhy (T.length : Int) (L2.length : Int) w w0 (by omega) tb (by omega) (by omega) z2 p0 p1 (fun l8 h8 y2 y3 f2 f3 s1 s2 s3 i0 i1 => ?_)
    refine hp_st (c := 102) hM (by decide +kernel) s1 (show ly_ths ly_TH 102 = some (.inl (.int, 13020, 0, 4)) from rfl) rfl (by omega) (by omega) (by omega) (by omega) (fun h9 j1 j2 j3 => ?_)
    rw [f2, show y3.toInt = 12600 + (T.length : Int) by omega] at j3
    have j3 : hp_put cst 26112 (12600 + (T.length : Int)) (L2.length : Int) h8 h9 := j3
    have pj : ly_fr cst [26112] h8 h9 := hp_put_fr (by rfl) j3
    have K59 : fn_N cst h9 26112 12600 ((T.map fun x => (x.2.2.length : Int)) ++ [(L2.length : Int)]) := fn_re (fn_mv (fn_mv (fn_mv k5 F6 rfl) rfr rfl) s2 rfl) (by rw [List.length_map]; exact j3)
    have F9 : ly_fr cst [19971, 19972, 19973, 19974, 19975, 19976, 19990, 19991, 20011, 20016, 25344, 26112, 26368, 26624] h h9 := ly_fr_tr (hp_sub2 rfl F6) (ly_fr_tr (hp_sub2 rfl rfr) (ly_fr_tr (hp_sub2 rfl s2) (hp_sub2 rfl pj)))
    have g9 : gl true cst h0 h9 := gl_tr g7 (gl_tr (gl_fr s2 rfl) (gl_pl j3 (by decide) (by decide)))
    have K29 : fn_N cst h9 25344 12600 ((T.map fun x => x.1) ++ [ak kd vl t b - 20]) := fn_mv (fn_mv (fn_mv K26 rfr rfl) s2 rfl) pj rfl
    refine yvO c hM (by omega) j1 i0 (fun h10 v hv d1 d2 d3 => gR_s (ts_4 nq e1 q21 e2) hv d1 (ly_fr_tr fr (ly_fr_tr (hp_sub2 rfl F9) (hp_sub2 rfl d2))) (gl_tr g9 (gl_fr d2 rfl)) ⟨(ak kd vl t b - 20, L1, L2), ⟨?_, by show 0 ≤ ak kd vl t b - 20; omega, by show ak kd vl t b - 20 ≤ 3; omega, sm_w vb 5 a [] b L1 (fun i hi => by cases hi) e1, sm_w vb 5 (b + 1) [] b2 L2 (fun i hi => by cases hi) e2⟩, rq_mv (rq_mv (rq_mv z1 rhy s1 s2 rfl) s1 j1 pj rfl) j1 d1 d2 rfl, ⟨?_, ?_, ?_, ?_, ?_, ?_⟩, qt_S_mv (qt_S_mv k7 F9 rfl rfl) d2 rfl rfl, d2 _ _ _ rfl (F9 _ _ _ rfl k8), by show a < b2; omega, so2.2.2.2, ?_⟩)
    · unfold qt_e
      show L1 ++ [20 - ak kd vl t b - 20000] ++ L2 = L1 ++ (if ak kd vl t b - 20 = 0 then [] else (-20000 - (ak kd vl t b - 20)) :: L2)
      rw [if_neg (by omega), List.append_assoc, List.singleton_append, show (20 : Int) - ak kd vl t b - 20000 = -20000 - (ak kd vl t b - 20) by omega]
    · rw [List.length_append, List.length_singleton]
      exact d2 _ _ _ rfl (F9 _ _ _ rfl k1)
    · rw [List.map_append, List.map_singleton]
      exact fn_mv K29 d2 rfl
    · rw [qt_s_ap, Int.zero_add]
      exact fn_mv (fn_mv k3 F9 rfl) d2 rfl
    · rw [List.map_append, List.map_singleton]
      exact fn_mv (fn_mv k4 F9 rfl) d2 rfl
    · rw [List.map_append, List.map_singleton]
      exact fn_mv K59 d2 rfl
    · rw [qt_g_ap, ← List.append_assoc]
      exact gm_mv (gm_mv (gm_mv z3 s2 rfl rfl rfl) pj rfl rfl rfl) d2 rfl rfl rfl
    · rw [qt_g_ap, List.length_append, List.length_append]
      show 2 * (((qt_g T).length + (L1.length + L2.length) : Nat) : Int) ≤ en b2 + 1
      omega
/-- readTest of the reference -/
theorem yv_run {cst : am_K} {strs : List Nat} {D : Nat} {h0 : am_H} (cc : ∀ d, hp_C cst strs d) (hD : (8 : Int) ≤ (D : Int) + 1) (hy : ly_hy m_tt ly_TH h0) {f : Int → Int} {n : Int} {t : Nat} {kd pl vl : Int → Int} {en : Nat → Int} (kb : kB kd t) (vb : vB kd vl t) {a m : Nat} {T : List qt_T} {S : List Int} (R : rq cst h0 f n t kd pl vl en a) (ha : a ≤ t) (X : qt_D cst h0 T) (Y : qt_S cst h0 S) (m20 : m ≤ 20) (km : ly_hv cst h0 20014 0 = some (m : Int)) (p1 : 3 * (T.length : Int) + 2 ≤ en a) (p2 : 3 * (S.length : Int) + 1 ≤ 2 * en a) (p3 : 2 * ((qt_g T).length : Int) ≤ en a) :
    ∃ r, am_Run cst m_cl m_tt m_P strs sx_bi (D + 1 + 1 + 1 + 1) 312 [.ref 94] h0 r ∧ (gR cst h0 [19971, 19972, 19973, 19974, 19975, 19976, 19990, 19991, 20010, 20011, 20012, 20014, 20016, 25344, 25600, 25856, 26112, 26368, 26624, 26880, 60020, 60050, 60060, 60061, 60071] pl t n (ts kd vl t a m) (fun y h9 => ∃ x, (y.2 = qt_e x ∧ qwt x) ∧ rq cst h9 f n t kd pl vl en y.1 ∧ qt_D cst h9 (T ++ [x]) ∧ qt_S cst h9 (S ++ [(m : Int)]) ∧ ly_hv cst h9 20014 0 = some ((m : Int) + 1) ∧ a < y.1 ∧ y.1 ≤ t ∧ 2 * ((qt_g (T ++ [x])).length : Int) ≤ en y.1 + 1)) r := by
  obtain ⟨M, hM, hl⟩ := hp_M (mi := 312) (k := 1) (by decide +kernel)
  have c := cc (D + 1 + 1 + 1)
  have TT := R.1.1
  have n1 := R.1.2.2.1
  have ea := tkT_end TT a ha
  have ks := rs_so R.2.1
  have kk := R.2.2.1
  have kp := R.2.2.2
  have pb := pa_b R.1.1 R.1.2.1 a
  have b0 := (rk_b kd t a kb).1
  have b8 := (rk_b kd t a kb).2.1
  have ab := ak_b kd vl t a
  have go : hp_F cst strs (gR cst h0 [19971, 19972, 19973, 19974, 19975, 19976, 19990, 19991, 20010, 20011, 20012, 20014, 20016, 25344, 25600, 25856, 26112, 26368, 26624, 26880, 60020, 60050, 60060, 60061, 60071] pl t n (ts kd vl t a m) (fun y h9 => ∃ x, (y.2 = qt_e x ∧ qwt x) ∧ rq cst h9 f n t kd pl vl en y.1 ∧ qt_D cst h9 (T ++ [x]) ∧ qt_S cst h9 (S ++ [(m : Int)]) ∧ ly_hv cst h9 20014 0 = some ((m : Int) + 1) ∧ a < y.1 ∧ y.1 ≤ t ∧ 2 * ((qt_g (T ++ [x])).length : Int) ≤ en y.1 + 1)) (D + 1 + 1 + 1) M 0 (lv_args 0 [.ref 94]) [] h0 := by
    have bad : ∀ k, ts kd vl t a m = .inl (k, a) → ∀ (h2 : am_H) (w : Int32), w.toInt = 0 → ly_hy m_tt ly_TH h2 → ly_fr cst [19990, 19991] h0 h2 → ly_hv cst h2 19990 0 = some k → ly_hv cst h2 19991 0 = some (pa pl t n a) → (gR cst h0 [19971, 19972, 19973, 19974, 19975, 19976, 19990, 19991, 20010, 20011, 20012, 20014, 20016, 25344, 25600, 25856, 26112, 26368, 26624, 26880, 60020, 60050, 60060, 60061, 60071] pl t n (ts kd vl t a m) (fun y h9 => ∃ x, (y.2 = qt_e x ∧ qwt x) ∧ rq cst h9 f n t kd pl vl en y.1 ∧ qt_D cst h9 (T ++ [x]) ∧ qt_S cst h9 (S ++ [(m : Int)]) ∧ ly_hv cst h9 20014 0 = some ((m : Int) + 1) ∧ a < y.1 ∧ y.1 ≤ t ∧ 2 * ((qt_g (T ++ [x])).length : Int) ≤ en y.1 + 1)) (some (.int w), h2, 0, 0) := fun k e h2 w hw u1 u2 k1 k2 => gR_f e hw u1 (hp_sub2 rfl u2) (gl_fr u2 rfl) k1 k2
    by_cases tmm : tm kd vl t a
    rotate_left
    · have no := ts_n (m := m) tmm
      by_cases q1 : fk kd t a = 1
      · rw [(rk_i1 kb a).mpr q1] at ks
        have q3 : ¬ ak kd vl t a < 17 := fun z => tmm (Or.inr ⟨q1, z⟩)
        exact yvB c hM (by omega) hy (pa pl t n a) (ak kd vl t a) pb.1 (by omega) (by omega) ab.2 ks kk kp rfl (fun h2 w hw u1 u2 u3 k1 k2 => bad 1 no h2 w hw u1 u2 k1 k2)
      have n1' : rk kd t a ≠ 1 := fun z => q1 ((rk_i1 kb a).mp z)
      have n2' : rk kd t a ≠ 2 := fun z => tmm (Or.inl ((rk_i2 kb a).mp z))
      by_cases z : rk kd t a ≤ 0
      · exact yvA0 c hM (by omega) hy (pa pl t n a) (rk kd t a) pb.1 (by omega) b0 z ks kp rfl (fun h2 w hw u1 u2 u3 k1 k2 => bad 1 no h2 w hw u1 u2 k1 k2)
      · exact yvA1 c hM (by omega) hy (pa pl t n a) (rk kd t a) pb.1 (by omega) (by omega) b8 ks kp rfl (fun h2 w hw u1 u2 u3 k1 k2 => bad 1 no h2 w hw u1 u2 k1 k2)
    have at' : a < t := fk_in (kd := kd) (by rcases tmm with z | ⟨z, -⟩ <;> rw [z] <;> decide)
    by_cases q20 : m = 20
    · have er : ts kd vl t a m = .inl (4, a) := by
        unfold ts
        rw [if_pos ⟨tmm, q20⟩]
      rw [q20] at km
      rcases tmm with z | ⟨z, z2⟩
      · rw [(rk_i2 kb a).mpr z] at ks
        exact yvC0 c hM (by omega) hy (pa pl t n a) pb.1 (by omega) ks kp km rfl (fun h2 w hw u1 u2 u3 k1 k2 => bad 4 er h2 w hw u1 u2 k1 k2)
      · rw [(rk_i1 kb a).mpr z] at ks
        exact yvC1 c hM (by omega) hy (pa pl t n a) (ak kd vl t a) pb.1 (by omega) ab.1 (by omega) ks kk kp km rfl (fun h2 w hw u1 u2 u3 k1 k2 => bad 4 er h2 w hw u1 u2 k1 k2)
    have nq : ¬ (tm kd vl t a ∧ m = 20) := fun z => q20 z.2
    have g400 : (T.length : Int) ≤ 400 := by omega
    have m19 : (m : Int) ≤ 19 := by omega
    -- from the call of addStep on
    have on : ∀ (l1 : am_L) (h1 : am_H) (y0 : Int32), y0.toInt = (m : Int) → ly_hy m_tt ly_TH h1 → ly_fr cst [20010] h0 h1 → ly_hv cst h1 20010 0 = some ((T.length : Int) + 1) → hp_a l1 0 94 → hp_i l1 1 ((T.length : Int) + 12600) → hp_F cst strs (gR cst h0 [19971, 19972, 19973, 19974, 19975, 19976, 19990, 19991, 20010, 20011, 20012, 20014, 20016, 25344, 25600, 25856, 26112, 26368, 26624, 26880, 60020, 60050, 60060, 60061, 60071] pl t n (ts kd vl t a m) (fun y h9 => ∃ x, (y.2 = qt_e x ∧ qwt x) ∧ rq cst h9 f n t kd pl vl en y.1 ∧ qt_D cst h9 (T ++ [x]) ∧ qt_S cst h9 (S ++ [(m : Int)]) ∧ ly_hv cst h9 20014 0 = some ((m : Int) + 1) ∧ a < y.1 ∧ y.1 ≤ t ∧ 2 * ((qt_g (T ++ [x])).length : Int) ≤ en y.1 + 1)) (D + 1 + 1 + 1) M 70 l1 [.int y0, .ref 94] h1 := by
      intro l1 h1 y0 f0 u1 u2 kt m0 m1
      refine ypz312_70 cc hM (by omega) u1 (qt_S_mv Y u2 rfl rfl) (by omega) f0 (by omega) (by omega) (by decide) (fun h2 v1 v2 v3 v4 => ?_)
      have F2 : ly_fr cst [20010, 20012, 26880, 60020, 60050, 60060, 60061, 60071] h0 h2 := ly_fr_tr (hp_sub2 rfl u2) (hp_sub2 rfl v2)
      refine yvE c hM (by omega) v1 (T.length : Int) (m : Int) ((qt_g T).length : Int) (by omega) g400 (by omega) m19 (by omega) (by omega) (F2 _ _ _ rfl km) (F2 _ _ _ rfl X.2.2.2.2.2.1) m0 m1 (fun l3 h3 y1 y2 f1 f2 w1 w2 w3 k3 k4 o0 o1 => ?_)
      refine hp_st (c := 100) hM (by decide +kernel) w1 (show ly_ths ly_TH 100 = some (.inl (.int, 13020, 0, 601)) from rfl) rfl (by omega) (by omega) (by omega) (by omega) (fun h4 t1 t2 t3 => ?_)
      rw [f1, show y2.toInt = 12600 + (T.length : Int) by omega] at t3
      have t3 : hp_put cst 25600 (12600 + (T.length : Int)) ((qt_g T).length : Int) h3 h4 := t3
      have pf : ly_fr cst [25600] h3 h4 := hp_put_fr (by rfl) t3
      have F4 : ly_fr cst [20010, 20012, 20014, 25600, 26880, 60020, 60050, 60060, 60061, 60071] h0 h4 := ly_fr_tr (hp_sub2 rfl F2) (ly_fr_tr (hp_sub2 rfl w2) (hp_sub2 rfl pf))
      have g4 : gl true cst h0 h4 := gl_tr (gl_fr u2 rfl) (gl_tr v3 (gl_tr (gl_fr w2 rfl) (gl_pl t3 (by decide) (by decide))))
      have K3 : fn_N cst h4 25600 12600 (qt_s 0 T ++ [((qt_g T).length : Int)]) := fn_put (fn_mv (fn_mv X.2.2.1 F2 rfl) w2 rfl) (by rw [qt_s_len]; exact t3)
      have S4 := qt_S_mv (qt_S_mv v4 w2 rfl rfl) pf rfl rfl
      have k84 := pf _ _ _ rfl k3
      have kt4 := pf _ _ _ rfl (w2 _ _ _ rfl (v2 _ _ _ rfl kt))
      refine yvF c hM (by omega) t1 (T.length : Int) (by omega) g400 o0 o1 (fun l5 h5 x1 x2 x3 p0 p1 => ?_)
      have R5 : rq cst h5 f n t kd pl vl en a := rq_mv (rq_mv R hy t1 F4 rfl) t1 x1 x2 rfl
      obtain ⟨r, hrun, w, r1, r2, r3, rhy, rfr, rg, rF, rS⟩ := yu_run (D := D) (cc _) (cc _) (cc _) hD x1 kb vb R5 ha (gm_mv (gm_mv X.2.2.2.2.2 F4 rfl rfl rfl) x2 rfl rfl rfl) p3
      refine hp_call (mi := 312) (pc := 94) (tg := 314) (na := 1) (c := 78) (ci := 12) (st0 := [.ref 94]) (st := []) (av := []) hM (by decide +kernel) x1 rfl rfl rfl (by decide) hrun r2 r3 ?_
      rw [r1]
      have F6 : ly_fr cst [19971, 19972, 19973, 19974, 19975, 19976, 19990, 19991, 20011, 20016, 26368, 26624] h4 r.2.1 := ly_fr_tr (hp_sub2 rfl x2) (hp_sub2 rfl rfr)
      have fr6 : ly_fr cst [19971, 19972, 19973, 19974, 19975, 19976, 19990, 19991, 20010, 20011, 20012, 20014, 20016, 25344, 25600, 25856, 26112, 26368, 26624, 26880, 60020, 60050, 60060, 60061, 60071] h0 r.2.1 := ly_fr_tr (hp_sub2 rfl F4) (hp_sub2 rfl F6)
      have g6 := gf_tr g4 (gf_tr (gl_fr (g := true) x2 rfl) rg)
      cases e1 : sm kd vl t 5 a [] with
      | inl q =>
        obtain ⟨k, b2⟩ := q
        obtain ⟨w0, z1, z2⟩ := rF k b2 e1
        exact yvG0 c hM (by omega) rhy (T.length : Int) w w0 (by omega) g400 p0 p1 (fun h8 v hv s1 s2 s3 => gR_f (ts_1 nq e1) hv s1 (ly_fr_tr fr6 (hp_sub2 rfl s2)) (gf_tr g6 (gl_fr s2 rfl)) (s2 _ _ _ rfl z1) (s2 _ _ _ rfl z2))
      | inr q =>
        obtain ⟨b, L1⟩ := q
        obtain ⟨w0, gt, z1, z2, z3⟩ := rS _ e1
        have g6 := gl_tr g4 (gl_tr (gl_fr x2 rfl) gt)
        have so := sm_ok 5 a [] b L1 rfl e1
        rw [List.length_nil] at so
        refine yvG c hM (by omega) rhy (T.length : Int) (L1.length : Int) w w0 (by omega) g400 (by omega) (by omega) z2 p0 p1 (fun l7 h7 y3 y4 f3 f4 s1 s2 s3 i0 i1 => ?_)
        refine hp_st (c := 101) hM (by decide +kernel) s1 (show ly_ths ly_TH 101 = some (.inl (.int, 13020, 0, 4)) from rfl) rfl (by omega) (by omega) (by omega) (by omega) (fun h8 j1 j2 j3 => ?_)
        rw [f3, show y4.toInt = 12600 + (T.length : Int) by omega] at j3
        have j3 : hp_put cst 25856 (12600 + (T.length : Int)) (L1.length : Int) h7 h8 := j3
        have pj : ly_fr cst [25856] h7 h8 := hp_put_fr (by rfl) j3
        have F8 : ly_fr cst [19971, 19972, 19973, 19974, 19975, 19976, 19990, 19991, 20011, 20016, 25856, 26368, 26624] h4 h8 := ly_fr_tr (hp_sub2 rfl F6) (ly_fr_tr (hp_sub2 rfl s2) (hp_sub2 rfl pj))
        have K4 : fn_N cst h8 25856 12600 ((T.map fun x => (x.2.1.length : Int)) ++ [(L1.length : Int)]) := fn_put (fn_mv (fn_mv (fn_mv X.2.2.2.1 F4 rfl) F6 rfl) s2 rfl) (by rw [List.length_map]; exact j3)
        have g8 : gl true cst h0 h8 := gl_tr g6 (gl_tr (gl_fr s2 rfl) (gl_pl j3 (by decide) (by decide)))
        refine yvH c hM (by omega) j1 (T.length : Int) (by omega) g400 i0 i1 (fun l9 h9 y5 y6 f5 f6 d1 d2 d3 q0 q1 => ?_)
        refine hp_st (c := 99) hM (by decide +kernel) d1 (show ly_ths ly_TH 99 = some (.inl (.int, 13020, -2147483648, 2147483647)) from rfl) rfl (by omega) (by omega) (by omega) (by omega) (fun h10 a1 a2 a3 => ?_)
        rw [f5, show y6.toInt = 12600 + (T.length : Int) by omega] at a3
        have a3 : hp_put cst 25344 (12600 + (T.length : Int)) 0 h9 h10 := a3
        have pa3 : ly_fr cst [25344] h9 h10 := hp_put_fr (by rfl) a3
        have F10 : ly_fr cst [19971, 19972, 19973, 19974, 19975, 19976, 19990, 19991, 20011, 20016, 25344, 25856, 26368, 26624] h4 h10 := ly_fr_tr (hp_sub2 rfl F8) (ly_fr_tr (hp_sub2 rfl d2) (hp_sub2 rfl pa3))
        have K2 : fn_N cst h10 25344 12600 ((T.map fun x => x.1) ++ [0]) := fn_put (fn_mv (fn_mv (fn_mv X.2.1 F4 rfl) F8 rfl) d2 rfl) (by rw [List.length_map]; exact a3)
        have g10 : gl true cst h0 h10 := gl_tr g8 (gl_tr (gl_fr d2 rfl) (gl_pl a3 (by decide) (by decide)))
        refine yvI c hM (by omega) a1 (T.length : Int) (by omega) g400 q0 q1 (fun l11 h11 y7 y8 f7 f8 e1' e2' e3' i4 i5 => ?_)
        refine hp_st (c := 102) hM (by decide +kernel) e1' (show ly_ths ly_TH 102 = some (.inl (.int, 13020, 0, 4)) from rfl) rfl (by omega) (by omega) (by omega) (by omega) (fun h12 x4 x5 x6 => ?_)
        rw [f7, show y8.toInt = 12600 + (T.length : Int) by omega] at x6
        have x6 : hp_put cst 26112 (12600 + (T.length : Int)) 0 h11 h12 := x6
        have px : ly_fr cst [26112] h11 h12 := hp_put_fr (by rfl) x6
        have F12 : ly_fr cst [19971, 19972, 19973, 19974, 19975, 19976, 19990, 19991, 20011, 20016, 25344, 25856, 26112, 26368, 26624] h4 h12 := ly_fr_tr (hp_sub2 rfl F10) (ly_fr_tr (hp_sub2 rfl e2') (hp_sub2 rfl px))
        have K5 : fn_N cst h12 26112 12600 ((T.map fun x => (x.2.2.length : Int)) ++ [0]) := fn_put (fn_mv (fn_mv (fn_mv X.2.2.2.2.1 F4 rfl) F10 rfl) e2' rfl) (by rw [List.length_map]; exact x6)
        have F810 : ly_fr cst [25344, 26112] h8 h12 := ly_fr_tr (hp_sub2 rfl d2) (ly_fr_tr (hp_sub2 rfl pa3) (ly_fr_tr (hp_sub2 rfl e2') (hp_sub2 rfl px)))
        have F612 : ly_fr cst [25344, 25856, 26112] r.2.1 h12 := ly_fr_tr (hp_sub2 rfl s2) (ly_fr_tr (hp_sub2 rfl pj) (hp_sub2 rfl F810))
        exact yv_b cc hM hD x4 kb vb (ly_fr_tr (hp_sub2 rfl F4) (hp_sub2 rfl F12)) (gl_tr g10 (gl_tr (gl_fr e2' rfl) (gl_pl x6 (by decide) (by decide)))) (rq_mv z1 rhy x4 F612 rfl) (by omega) e1 nq (F12 _ _ _ rfl kt4) (fn_mv (fn_mv K2 e2' rfl) px rfl) (fn_mv K3 F12 rfl) (fn_mv K4 F810 rfl) K5 (gm_mv z3 F612 rfl rfl rfl) (qt_S_mv S4 F12 rfl rfl) (F12 _ _ _ rfl k84) g400 p3 i4 i5
    rcases tmm with z | ⟨z, z2⟩
    · rw [(rk_i2 kb a).mpr z] at ks
      exact yvD0 c hM (by omega) hy (T.length : Int) (m : Int) (by omega) g400 (by omega) m19 ks km X.1 rfl (fun l1 h1 y0 f0 u1 u2 u3 k1 k2 m0 m1 => on l1 h1 y0 f0 u1 u2 k1 m0 m1)
    · rw [(rk_i1 kb a).mpr z] at ks
      exact yvD1 c hM (by omega) hy (T.length : Int) (m : Int) (ak kd vl t a) (by omega) g400 (by omega) m19 ab.1 (by omega) ks kk km X.1 rfl (fun l1 h1 y0 f0 u1 u2 u3 k1 k2 m0 m1 => on l1 h1 y0 f0 u1 u2 k1 m0 m1)
  obtain ⟨n', r, hgo, w, r1, r2, r3, r4⟩ := go
  simp only [Nat.zero_add] at r2 r3
  exact ⟨r, Or.inr ⟨M, n', hM, hl, hgo⟩, w, r1, r2, r3, r4⟩
