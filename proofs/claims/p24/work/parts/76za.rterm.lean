/-! PRINTED by wip/p2/hp_rterm.py: readTerm, readSum of the reference, exactly -/
theorem ytA0_k : hq_chk [305] 315 0 3 [(0, 0, 4), (1, 0, 1200), (2, 0, 0)] [] [(0, .inr (.inr (.inl (some 94)))), (1, .inl (0, [(0, 1)]))] [] [(19971, (0, []), (0, [(2, 1)])), (19973, (0, []), (0, [(1, 1)]))] [19990, 19991] 8 [] [([], 3, [(0, 0, 4), (1, 0, 1200), (2, 0, 0)], [], [], [.inl (0, [])], [(19990, (0, []), (1, [])), (19991, (0, []), (0, [(1, 1)]))])] = true := by decide +kernel
theorem ytA0 {cst : am_K} {strs : List Nat} {Φ : am_Q → Prop} {D : Nat} {M : am_M} {h : am_H} {l : am_L} (c : hp_C cst strs D) (hM : m_P[315]? = some M) (hD : (8 : Int) ≤ (D : Int) + 1) (hy : ly_hy m_tt ly_TH h) (s p q : Int) (b0 : 0 ≤ s) (t0 : s ≤ 4) (b1 : 0 ≤ p) (t1 : p ≤ 1200) (b2 : 0 ≤ q) (t2 : q ≤ 0) (k0 : ly_hv cst h 19971 0 = some (q)) (k1 : ly_hv cst h 19973 0 = some (p)) (l0 : hp_a l 0 94) (l1 : hp_i l 1 (s)) (r0 : ∀ (h' : am_H) (y0 : Int32), y0.toInt = 0 → ly_hy m_tt ly_TH h' → ly_fr cst [19990, 19991] h h' → h.length ≤ h'.length → ly_hv cst h' 19990 0 = some 1 → ly_hv cst h' 19991 0 = some (p) → Φ (some (.int y0), h', 0, 0)) : hp_F cst strs Φ D M 0 l [] h := by
  refine hq_arc c hM ytA0_k hD [s, p, q] rfl hy (hp_Bc (z := s) rfl b0 t0 (hp_Bc (z := p) rfl b1 t1 (hp_Bc (z := q) rfl b2 t2 hp_Bn))) hp_Fn (hp_Kc (zi := (0 + 0)) (zv := (0 + (1 * q + 0))) k0 rfl rfl (by omega) (by omega) (hp_Kc (zi := (0 + 0)) (zv := (0 + (1 * p + 0))) k1 rfl rfl (by omega) (by omega) hp_Kn)) (hp_La l0 (hp_Li (z := (0 + (1 * s + 0))) l1 rfl (by omega) hp_Ln)) trivial ?_ ?_
  · intro p hp ys l' st' h' hys a1 a2 a3 gZ gL gS
    cases hp
  · intro p hp ys v h' hys a1 a2 a3 gZ gS
    rcases List.mem_cons.mp hp with rfl | hp
    · obtain rfl := hp_y0 hys
      cases v with
      | none => cases gS
      | some w =>
        obtain ⟨y0, t0, s0, q0, -⟩ := hp_gSi (z := (0 + 0)) gS rfl
        cases s0
        exact r0 h' y0 (by omega) a1 a2 a3 (hp_gK (zi := (0 + 0)) (zv := (1 + 0)) gZ.2.2.2 (List.mem_of_getElem? (i := 0) rfl) rfl rfl (by omega) (by omega)) (hp_gK (zi := (0 + 0)) (zv := (0 + (1 * p + 0))) gZ.2.2.2 (List.mem_of_getElem? (i := 1) rfl) rfl rfl (by omega) (by omega))
    cases hp
theorem ytA1_k : hq_chk [305] 315 0 3 [(0, 0, 4), (1, 0, 1200), (2, 3, 8)] [] [(0, .inr (.inr (.inl (some 94)))), (1, .inl (0, [(0, 1)]))] [] [(19971, (0, []), (0, [(2, 1)])), (19973, (0, []), (0, [(1, 1)]))] [19990, 19991] 8 [] [([], 3, [(0, 0, 4), (1, 0, 1200), (2, 3, 8)], [], [], [.inl (0, [])], [(19990, (0, []), (1, [])), (19991, (0, []), (0, [(1, 1)]))])] = true := by decide +kernel
theorem ytA1 {cst : am_K} {strs : List Nat} {Φ : am_Q → Prop} {D : Nat} {M : am_M} {h : am_H} {l : am_L} (c : hp_C cst strs D) (hM : m_P[315]? = some M) (hD : (8 : Int) ≤ (D : Int) + 1) (hy : ly_hy m_tt ly_TH h) (s p q : Int) (b0 : 0 ≤ s) (t0 : s ≤ 4) (b1 : 0 ≤ p) (t1 : p ≤ 1200) (b2 : 3 ≤ q) (t2 : q ≤ 8) (k0 : ly_hv cst h 19971 0 = some (q)) (k1 : ly_hv cst h 19973 0 = some (p)) (l0 : hp_a l 0 94) (l1 : hp_i l 1 (s)) (r0 : ∀ (h' : am_H) (y0 : Int32), y0.toInt = 0 → ly_hy m_tt ly_TH h' → ly_fr cst [19990, 19991] h h' → h.length ≤ h'.length → ly_hv cst h' 19990 0 = some 1 → ly_hv cst h' 19991 0 = some (p) → Φ (some (.int y0), h', 0, 0)) : hp_F cst strs Φ D M 0 l [] h := by
  refine hq_arc c hM ytA1_k hD [s, p, q] rfl hy (hp_Bc (z := s) rfl b0 t0 (hp_Bc (z := p) rfl b1 t1 (hp_Bc (z := q) rfl b2 t2 hp_Bn))) hp_Fn (hp_Kc (zi := (0 + 0)) (zv := (0 + (1 * q + 0))) k0 rfl rfl (by omega) (by omega) (hp_Kc (zi := (0 + 0)) (zv := (0 + (1 * p + 0))) k1 rfl rfl (by omega) (by omega) hp_Kn)) (hp_La l0 (hp_Li (z := (0 + (1 * s + 0))) l1 rfl (by omega) hp_Ln)) trivial ?_ ?_
  · intro p hp ys l' st' h' hys a1 a2 a3 gZ gL gS
    cases hp
  · intro p hp ys v h' hys a1 a2 a3 gZ gS
    rcases List.mem_cons.mp hp with rfl | hp
    · obtain rfl := hp_y0 hys
      cases v with
      | none => cases gS
      | some w =>
        obtain ⟨y0, t0, s0, q0, -⟩ := hp_gSi (z := (0 + 0)) gS rfl
        cases s0
        exact r0 h' y0 (by omega) a1 a2 a3 (hp_gK (zi := (0 + 0)) (zv := (1 + 0)) gZ.2.2.2 (List.mem_of_getElem? (i := 0) rfl) rfl rfl (by omega) (by omega)) (hp_gK (zi := (0 + 0)) (zv := (0 + (1 * p + 0))) gZ.2.2.2 (List.mem_of_getElem? (i := 1) rfl) rfl rfl (by omega) (by omega))
    cases hp
theorem ytB_k : hq_chk [305] 315 0 3 [(0, 0, 4), (1, 0, 1200), (2, 17, 23)] [] [(0, .inr (.inr (.inl (some 94)))), (1, .inl (0, [(0, 1)]))] [] [(19971, (0, []), (1, [])), (19972, (0, []), (0, [(2, 1)])), (19973, (0, []), (0, [(1, 1)]))] [19990, 19991] 8 [] [([], 3, [(0, 0, 4), (1, 0, 1200), (2, 17, 23)], [], [], [.inl (0, [])], [(19990, (0, []), (1, [])), (19991, (0, []), (0, [(1, 1)]))])] = true := by decide +kernel
theorem ytB {cst : am_K} {strs : List Nat} {Φ : am_Q → Prop} {D : Nat} {M : am_M} {h : am_H} {l : am_L} (c : hp_C cst strs D) (hM : m_P[315]? = some M) (hD : (8 : Int) ≤ (D : Int) + 1) (hy : ly_hy m_tt ly_TH h) (s p k : Int) (b0 : 0 ≤ s) (t0 : s ≤ 4) (b1 : 0 ≤ p) (t1 : p ≤ 1200) (b2 : 17 ≤ k) (t2 : k ≤ 23) (k0 : ly_hv cst h 19971 0 = some 1) (k1 : ly_hv cst h 19972 0 = some (k)) (k2 : ly_hv cst h 19973 0 = some (p)) (l0 : hp_a l 0 94) (l1 : hp_i l 1 (s)) (r0 : ∀ (h' : am_H) (y0 : Int32), y0.toInt = 0 → ly_hy m_tt ly_TH h' → ly_fr cst [19990, 19991] h h' → h.length ≤ h'.length → ly_hv cst h' 19990 0 = some 1 → ly_hv cst h' 19991 0 = some (p) → Φ (some (.int y0), h', 0, 0)) : hp_F cst strs Φ D M 0 l [] h := by
  refine hq_arc c hM ytB_k hD [s, p, k] rfl hy (hp_Bc (z := s) rfl b0 t0 (hp_Bc (z := p) rfl b1 t1 (hp_Bc (z := k) rfl b2 t2 hp_Bn))) hp_Fn (hp_Kc (zi := (0 + 0)) (zv := (1 + 0)) k0 rfl rfl (by omega) (by omega) (hp_Kc (zi := (0 + 0)) (zv := (0 + (1 * k + 0))) k1 rfl rfl (by omega) (by omega) (hp_Kc (zi := (0 + 0)) (zv := (0 + (1 * p + 0))) k2 rfl rfl (by omega) (by omega) hp_Kn))) (hp_La l0 (hp_Li (z := (0 + (1 * s + 0))) l1 rfl (by omega) hp_Ln)) trivial ?_ ?_
  · intro p hp ys l' st' h' hys a1 a2 a3 gZ gL gS
    cases hp
  · intro p hp ys v h' hys a1 a2 a3 gZ gS
    rcases List.mem_cons.mp hp with rfl | hp
    · obtain rfl := hp_y0 hys
      cases v with
      | none => cases gS
      | some w =>
        obtain ⟨y0, t0, s0, q0, -⟩ := hp_gSi (z := (0 + 0)) gS rfl
        cases s0
        exact r0 h' y0 (by omega) a1 a2 a3 (hp_gK (zi := (0 + 0)) (zv := (1 + 0)) gZ.2.2.2 (List.mem_of_getElem? (i := 0) rfl) rfl rfl (by omega) (by omega)) (hp_gK (zi := (0 + 0)) (zv := (0 + (1 * p + 0))) gZ.2.2.2 (List.mem_of_getElem? (i := 1) rfl) rfl rfl (by omega) (by omega))
    cases hp
theorem ytC0_k : hq_chk [305] 315 0 1 [(0, 0, 1200)] [] [(0, .inr (.inr (.inl (some 94)))), (1, .inl (4, []))] [] [(19971, (0, []), (2, [])), (19973, (0, []), (0, [(0, 1)]))] [19990, 19991] 8 [] [([], 1, [(0, 0, 1200)], [], [], [.inl (0, [])], [(19990, (0, []), (4, [])), (19991, (0, []), (0, [(0, 1)]))])] = true := by decide +kernel
theorem ytC0 {cst : am_K} {strs : List Nat} {Φ : am_Q → Prop} {D : Nat} {M : am_M} {h : am_H} {l : am_L} (c : hp_C cst strs D) (hM : m_P[315]? = some M) (hD : (8 : Int) ≤ (D : Int) + 1) (hy : ly_hy m_tt ly_TH h) (p : Int) (b0 : 0 ≤ p) (t0 : p ≤ 1200) (k0 : ly_hv cst h 19971 0 = some 2) (k1 : ly_hv cst h 19973 0 = some (p)) (l0 : hp_a l 0 94) (l1 : hp_i l 1 4) (r0 : ∀ (h' : am_H) (y0 : Int32), y0.toInt = 0 → ly_hy m_tt ly_TH h' → ly_fr cst [19990, 19991] h h' → h.length ≤ h'.length → ly_hv cst h' 19990 0 = some 4 → ly_hv cst h' 19991 0 = some (p) → Φ (some (.int y0), h', 0, 0)) : hp_F cst strs Φ D M 0 l [] h := by
  refine hq_arc c hM ytC0_k hD [p] rfl hy (hp_Bc (z := p) rfl b0 t0 hp_Bn) hp_Fn (hp_Kc (zi := (0 + 0)) (zv := (2 + 0)) k0 rfl rfl (by omega) (by omega) (hp_Kc (zi := (0 + 0)) (zv := (0 + (1 * p + 0))) k1 rfl rfl (by omega) (by omega) hp_Kn)) (hp_La l0 (hp_Li (z := (4 + 0)) l1 rfl (by omega) hp_Ln)) trivial ?_ ?_
  · intro p hp ys l' st' h' hys a1 a2 a3 gZ gL gS
    cases hp
  · intro p hp ys v h' hys a1 a2 a3 gZ gS
    rcases List.mem_cons.mp hp with rfl | hp
    · obtain rfl := hp_y0 hys
      cases v with
      | none => cases gS
      | some w =>
        obtain ⟨y0, t0, s0, q0, -⟩ := hp_gSi (z := (0 + 0)) gS rfl
        cases s0
        exact r0 h' y0 (by omega) a1 a2 a3 (hp_gK (zi := (0 + 0)) (zv := (4 + 0)) gZ.2.2.2 (List.mem_of_getElem? (i := 0) rfl) rfl rfl (by omega) (by omega)) (hp_gK (zi := (0 + 0)) (zv := (0 + (1 * p + 0))) gZ.2.2.2 (List.mem_of_getElem? (i := 1) rfl) rfl rfl (by omega) (by omega))
    cases hp
theorem ytC1_k : hq_chk [305] 315 0 2 [(0, 0, 1200), (1, (-1), 16)] [] [(0, .inr (.inr (.inl (some 94)))), (1, .inl (4, []))] [] [(19971, (0, []), (1, [])), (19972, (0, []), (0, [(1, 1)])), (19973, (0, []), (0, [(0, 1)]))] [19990, 19991] 8 [] [([], 2, [(0, 0, 1200), (1, (-1), 16)], [], [], [.inl (0, [])], [(19990, (0, []), (4, [])), (19991, (0, []), (0, [(0, 1)]))])] = true := by decide +kernel
theorem ytC1 {cst : am_K} {strs : List Nat} {Φ : am_Q → Prop} {D : Nat} {M : am_M} {h : am_H} {l : am_L} (c : hp_C cst strs D) (hM : m_P[315]? = some M) (hD : (8 : Int) ≤ (D : Int) + 1) (hy : ly_hy m_tt ly_TH h) (p k : Int) (b0 : 0 ≤ p) (t0 : p ≤ 1200) (b1 : (-1) ≤ k) (t1 : k ≤ 16) (k0 : ly_hv cst h 19971 0 = some 1) (k1 : ly_hv cst h 19972 0 = some (k)) (k2 : ly_hv cst h 19973 0 = some (p)) (l0 : hp_a l 0 94) (l1 : hp_i l 1 4) (r0 : ∀ (h' : am_H) (y0 : Int32), y0.toInt = 0 → ly_hy m_tt ly_TH h' → ly_fr cst [19990, 19991] h h' → h.length ≤ h'.length → ly_hv cst h' 19990 0 = some 4 → ly_hv cst h' 19991 0 = some (p) → Φ (some (.int y0), h', 0, 0)) : hp_F cst strs Φ D M 0 l [] h := by
  refine hq_arc c hM ytC1_k hD [p, k] rfl hy (hp_Bc (z := p) rfl b0 t0 (hp_Bc (z := k) rfl b1 t1 hp_Bn)) hp_Fn (hp_Kc (zi := (0 + 0)) (zv := (1 + 0)) k0 rfl rfl (by omega) (by omega) (hp_Kc (zi := (0 + 0)) (zv := (0 + (1 * k + 0))) k1 rfl rfl (by omega) (by omega) (hp_Kc (zi := (0 + 0)) (zv := (0 + (1 * p + 0))) k2 rfl rfl (by omega) (by omega) hp_Kn))) (hp_La l0 (hp_Li (z := (4 + 0)) l1 rfl (by omega) hp_Ln)) trivial ?_ ?_
  · intro p hp ys l' st' h' hys a1 a2 a3 gZ gL gS
    cases hp
  · intro p hp ys v h' hys a1 a2 a3 gZ gS
    rcases List.mem_cons.mp hp with rfl | hp
    · obtain rfl := hp_y0 hys
      cases v with
      | none => cases gS
      | some w =>
        obtain ⟨y0, t0, s0, q0, -⟩ := hp_gSi (z := (0 + 0)) gS rfl
        cases s0
        exact r0 h' y0 (by omega) a1 a2 a3 (hp_gK (zi := (0 + 0)) (zv := (4 + 0)) gZ.2.2.2 (List.mem_of_getElem? (i := 0) rfl) rfl rfl (by omega) (by omega)) (hp_gK (zi := (0 + 0)) (zv := (0 + (1 * p + 0))) gZ.2.2.2 (List.mem_of_getElem? (i := 1) rfl) rfl rfl (by omega) (by omega))
    cases hp
theorem ytD_k : hp_chk 315 0 2 [(0, 0, 3), (1, 0, 599)] [] [(0, .inr (.inr (.inl (some 94)))), (1, .inl (0, [(0, 1)]))] [] [(19971, (0, []), (2, [])), (20011, (0, []), (0, [(1, 1)]))] [] 8 [(78, ([], 2, [(0, 0, 3), (1, 0, 599)], [], [(0, .inr (.inr (.inl (some 94)))), (2, .inl (1, [])), (3, .inl (18600, [(1, 1)]))], [.inr (.inl (0, [])), .inl (18600, [(1, 1)]), .inr (.inr (.inl (some 119)))], []))] [] = true := by decide +kernel
theorem ytD {cst : am_K} {strs : List Nat} {Φ : am_Q → Prop} {D : Nat} {M : am_M} {h : am_H} {l : am_L} (c : hp_C cst strs D) (hM : m_P[315]? = some M) (hD : (8 : Int) ≤ (D : Int) + 1) (hy : ly_hy m_tt ly_TH h) (s g : Int) (b0 : 0 ≤ s) (t0 : s ≤ 3) (b1 : 0 ≤ g) (t1 : g ≤ 599) (k0 : ly_hv cst h 19971 0 = some 2) (k1 : ly_hv cst h 20011 0 = some (g)) (l0 : hp_a l 0 94) (l1 : hp_i l 1 (s)) (e0 : ∀ (l' : am_L) (h' : am_H) (y0 : Int64) (y1 : Int32), y0.toInt = 0 → y1.toInt = (g + 18600) → ly_hy m_tt ly_TH h' → ly_fr cst [] h h' → h.length ≤ h'.length → hp_a l' 0 94 → hp_i l' 2 1 → hp_i l' 3 (g + 18600) → hp_F cst strs Φ D M 78 l' [.long y0, .int y1, .ref 119] h') : hp_F cst strs Φ D M 0 l [] h := by
  refine hp_arc c hM ytD_k hD [s, g] rfl hy (hp_Bc (z := s) rfl b0 t0 (hp_Bc (z := g) rfl b1 t1 hp_Bn)) hp_Fn (hp_Kc (zi := (0 + 0)) (zv := (2 + 0)) k0 rfl rfl (by omega) (by omega) (hp_Kc (zi := (0 + 0)) (zv := (0 + (1 * g + 0))) k1 rfl rfl (by omega) (by omega) hp_Kn)) (hp_La l0 (hp_Li (z := (0 + (1 * s + 0))) l1 rfl (by omega) hp_Ln)) trivial ?_ ?_
  · intro p hp ys l' st' h' hys a1 a2 a3 gZ gL gS
    rcases List.mem_cons.mp hp with rfl | hp
    · obtain rfl := hp_y0 hys
      obtain ⟨y0, t0, rfl, q0, g0⟩ := hp_gSj (z := (0 + 0)) gS rfl
      obtain ⟨y1, t1, rfl, q1, g1⟩ := hp_gSi (z := (18600 + (1 * g + 0))) g0 rfl
      obtain ⟨t2, rfl, g2⟩ := hp_gSa g1 (by decide)
      cases hp_gSn g2
      exact e0 l' h' y0 y1 (by omega) (by omega) a1 a2 a3 (hp_gLa gL (List.mem_of_getElem? (i := 0) rfl) (by decide)) (hp_gLi (z := (1 + 0)) gL (List.mem_of_getElem? (i := 1) rfl) rfl (by omega)) (hp_gLi (z := (18600 + (1 * g + 0))) gL (List.mem_of_getElem? (i := 2) rfl) rfl (by omega))
    cases hp
  · intro p hp ys v h' hys a1 a2 a3 gZ gS
    cases hp
theorem ytE_k : hp_chk 315 0 4 [(0, 0, 3), (1, 0, 599), (2, (-1), 16), (3, 0, 1152921504606846976)] [] [(0, .inr (.inr (.inl (some 94)))), (1, .inl (0, [(0, 1)]))] [] [(19971, (0, []), (1, [])), (19972, (0, []), (0, [(2, 1)])), (20011, (0, []), (0, [(1, 1)])), (19976, (0, []), (0, [(3, 1)]))] [] 8 [(78, ([], 4, [(0, 0, 3), (1, 0, 599), (2, (-1), 16), (3, 0, 1152921504606846976)], [], [(0, .inr (.inr (.inl (some 94)))), (2, .inl (0, [])), (3, .inl (18600, [(1, 1)]))], [.inr (.inl (0, [(3, 1)])), .inl (18600, [(1, 1)]), .inr (.inr (.inl (some 119)))], []))] [] = true := by decide +kernel
theorem ytE {cst : am_K} {strs : List Nat} {Φ : am_Q → Prop} {D : Nat} {M : am_M} {h : am_H} {l : am_L} (c : hp_C cst strs D) (hM : m_P[315]? = some M) (hD : (8 : Int) ≤ (D : Int) + 1) (hy : ly_hy m_tt ly_TH h) (s g k v : Int) (b0 : 0 ≤ s) (t0 : s ≤ 3) (b1 : 0 ≤ g) (t1 : g ≤ 599) (b2 : (-1) ≤ k) (t2 : k ≤ 16) (b3 : 0 ≤ v) (t3 : v ≤ 1152921504606846976) (k0 : ly_hv cst h 19971 0 = some 1) (k1 : ly_hv cst h 19972 0 = some (k)) (k2 : ly_hv cst h 20011 0 = some (g)) (k3 : ly_hv cst h 19976 0 = some (v)) (l0 : hp_a l 0 94) (l1 : hp_i l 1 (s)) (e0 : ∀ (l' : am_L) (h' : am_H) (y0 : Int64) (y1 : Int32), y0.toInt = (v) → y1.toInt = (g + 18600) → ly_hy m_tt ly_TH h' → ly_fr cst [] h h' → h.length ≤ h'.length → hp_a l' 0 94 → hp_i l' 2 0 → hp_i l' 3 (g + 18600) → hp_F cst strs Φ D M 78 l' [.long y0, .int y1, .ref 119] h') : hp_F cst strs Φ D M 0 l [] h := by
  refine hp_arc c hM ytE_k hD [s, g, k, v] rfl hy (hp_Bc (z := s) rfl b0 t0 (hp_Bc (z := g) rfl b1 t1 (hp_Bc (z := k) rfl b2 t2 (hp_Bc (z := v) rfl b3 t3 hp_Bn)))) hp_Fn (hp_Kc (zi := (0 + 0)) (zv := (1 + 0)) k0 rfl rfl (by omega) (by omega) (hp_Kc (zi := (0 + 0)) (zv := (0 + (1 * k + 0))) k1 rfl rfl (by omega) (by omega) (hp_Kc (zi := (0 + 0)) (zv := (0 + (1 * g + 0))) k2 rfl rfl (by omega) (by omega) (hp_Kc (zi := (0 + 0)) (zv := (0 + (1 * v + 0))) k3 rfl rfl (by omega) (by omega) hp_Kn)))) (hp_La l0 (hp_Li (z := (0 + (1 * s + 0))) l1 rfl (by omega) hp_Ln)) trivial ?_ ?_
  · intro p hp ys l' st' h' hys a1 a2 a3 gZ gL gS
    rcases List.mem_cons.mp hp with rfl | hp
    · obtain rfl := hp_y0 hys
      obtain ⟨y0, t0, rfl, q0, g0⟩ := hp_gSj (z := (0 + (1 * v + 0))) gS rfl
      obtain ⟨y1, t1, rfl, q1, g1⟩ := hp_gSi (z := (18600 + (1 * g + 0))) g0 rfl
      obtain ⟨t2, rfl, g2⟩ := hp_gSa g1 (by decide)
      cases hp_gSn g2
      exact e0 l' h' y0 y1 (by omega) (by omega) a1 a2 a3 (hp_gLa gL (List.mem_of_getElem? (i := 0) rfl) (by decide)) (hp_gLi (z := (0 + 0)) gL (List.mem_of_getElem? (i := 1) rfl) rfl (by omega)) (hp_gLi (z := (18600 + (1 * g + 0))) gL (List.mem_of_getElem? (i := 2) rfl) rfl (by omega))
    cases hp
  · intro p hp ys v h' hys a1 a2 a3 gZ gS
    cases hp
theorem ytF_k : hp_chk 315 79 2 [(0, 0, 599), (1, 0, 9999)] [] [(0, .inr (.inr (.inl (some 94)))), (2, .inl (1, [])), (3, .inl (18600, [(0, 1)]))] [] [(19975, (0, []), (0, [(1, 1)]))] [] 8 [(96, ([], 2, [(0, 0, 599), (1, 0, 9999)], [], [(0, .inr (.inr (.inl (some 94))))], [.inl (0, [(1, 1)]), .inl (18600, [(0, 1)]), .inr (.inr (.inl (some 120)))], []))] [] = true := by decide +kernel
theorem ytF {cst : am_K} {strs : List Nat} {Φ : am_Q → Prop} {D : Nat} {M : am_M} {h : am_H} {l : am_L} (c : hp_C cst strs D) (hM : m_P[315]? = some M) (hD : (8 : Int) ≤ (D : Int) + 1) (hy : ly_hy m_tt ly_TH h) (g x : Int) (b0 : 0 ≤ g) (t0 : g ≤ 599) (b1 : 0 ≤ x) (t1 : x ≤ 9999) (k0 : ly_hv cst h 19975 0 = some (x)) (l0 : hp_a l 0 94) (l2 : hp_i l 2 1) (l3 : hp_i l 3 (g + 18600)) (e0 : ∀ (l' : am_L) (h' : am_H) (y0 : Int32) (y1 : Int32), y0.toInt = (x) → y1.toInt = (g + 18600) → ly_hy m_tt ly_TH h' → ly_fr cst [] h h' → h.length ≤ h'.length → hp_a l' 0 94 → hp_F cst strs Φ D M 96 l' [.int y0, .int y1, .ref 120] h') : hp_F cst strs Φ D M 79 l [] h := by
  refine hp_arc c hM ytF_k hD [g, x] rfl hy (hp_Bc (z := g) rfl b0 t0 (hp_Bc (z := x) rfl b1 t1 hp_Bn)) hp_Fn (hp_Kc (zi := (0 + 0)) (zv := (0 + (1 * x + 0))) k0 rfl rfl (by omega) (by omega) hp_Kn) (hp_La l0 (hp_Li (z := (1 + 0)) l2 rfl (by omega) (hp_Li (z := (18600 + (1 * g + 0))) l3 rfl (by omega) hp_Ln))) trivial ?_ ?_
  · intro p hp ys l' st' h' hys a1 a2 a3 gZ gL gS
    rcases List.mem_cons.mp hp with rfl | hp
    · obtain rfl := hp_y0 hys
      obtain ⟨y0, t0, rfl, q0, g0⟩ := hp_gSi (z := (0 + (1 * x + 0))) gS rfl
      obtain ⟨y1, t1, rfl, q1, g1⟩ := hp_gSi (z := (18600 + (1 * g + 0))) g0 rfl
      obtain ⟨t2, rfl, g2⟩ := hp_gSa g1 (by decide)
      cases hp_gSn g2
      exact e0 l' h' y0 y1 (by omega) (by omega) a1 a2 a3 (hp_gLa gL (List.mem_of_getElem? (i := 0) rfl) (by decide))
    cases hp
  · intro p hp ys v h' hys a1 a2 a3 gZ gS
    cases hp
theorem ytG_k : hp_chk 315 79 1 [(0, 0, 599)] [] [(0, .inr (.inr (.inl (some 94)))), (2, .inl (0, [])), (3, .inl (18600, [(0, 1)]))] [] [] [] 8 [(96, ([], 1, [(0, 0, 599)], [], [(0, .inr (.inr (.inl (some 94))))], [.inl (0, []), .inl (18600, [(0, 1)]), .inr (.inr (.inl (some 120)))], []))] [] = true := by decide +kernel
theorem ytG {cst : am_K} {strs : List Nat} {Φ : am_Q → Prop} {D : Nat} {M : am_M} {h : am_H} {l : am_L} (c : hp_C cst strs D) (hM : m_P[315]? = some M) (hD : (8 : Int) ≤ (D : Int) + 1) (hy : ly_hy m_tt ly_TH h) (g : Int) (b0 : 0 ≤ g) (t0 : g ≤ 599) (l0 : hp_a l 0 94) (l2 : hp_i l 2 0) (l3 : hp_i l 3 (g + 18600)) (e0 : ∀ (l' : am_L) (h' : am_H) (y0 : Int32) (y1 : Int32), y0.toInt = 0 → y1.toInt = (g + 18600) → ly_hy m_tt ly_TH h' → ly_fr cst [] h h' → h.length ≤ h'.length → hp_a l' 0 94 → hp_F cst strs Φ D M 96 l' [.int y0, .int y1, .ref 120] h') : hp_F cst strs Φ D M 79 l [] h := by
  refine hp_arc c hM ytG_k hD [g] rfl hy (hp_Bc (z := g) rfl b0 t0 hp_Bn) hp_Fn hp_Kn (hp_La l0 (hp_Li (z := (0 + 0)) l2 rfl (by omega) (hp_Li (z := (18600 + (1 * g + 0))) l3 rfl (by omega) hp_Ln))) trivial ?_ ?_
  · intro p hp ys l' st' h' hys a1 a2 a3 gZ gL gS
    rcases List.mem_cons.mp hp with rfl | hp
    · obtain rfl := hp_y0 hys
      obtain ⟨y0, t0, rfl, q0, g0⟩ := hp_gSi (z := (0 + 0)) gS rfl
      obtain ⟨y1, t1, rfl, q1, g1⟩ := hp_gSi (z := (18600 + (1 * g + 0))) g0 rfl
      obtain ⟨t2, rfl, g2⟩ := hp_gSa g1 (by decide)
      cases hp_gSn g2
      exact e0 l' h' y0 y1 (by omega) (by omega) a1 a2 a3 (hp_gLa gL (List.mem_of_getElem? (i := 0) rfl) (by decide))
    cases hp
  · intro p hp ys v h' hys a1 a2 a3 gZ gS
    cases hp
theorem ytH_k : hp_chk 315 97 1 [(0, 0, 599)] [] [(0, .inr (.inr (.inl (some 94))))] [] [(20011, (0, []), (0, [(0, 1)]))] [20011] 8 [(108, ([], 1, [(0, 0, 599)], [], [(0, .inr (.inr (.inl (some 94))))], [.inr (.inr (.inl (some 94)))], [(20011, (0, []), (1, [(0, 1)]))]))] [] = true := by decide +kernel
theorem ytH {cst : am_K} {strs : List Nat} {Φ : am_Q → Prop} {D : Nat} {M : am_M} {h : am_H} {l : am_L} (c : hp_C cst strs D) (hM : m_P[315]? = some M) (hD : (8 : Int) ≤ (D : Int) + 1) (hy : ly_hy m_tt ly_TH h) (g : Int) (b0 : 0 ≤ g) (t0 : g ≤ 599) (k0 : ly_hv cst h 20011 0 = some (g)) (l0 : hp_a l 0 94) (e0 : ∀ (l' : am_L) (h' : am_H), ly_hy m_tt ly_TH h' → ly_fr cst [20011] h h' → h.length ≤ h'.length → ly_hv cst h' 20011 0 = some (g + 1) → hp_a l' 0 94 → hp_F cst strs Φ D M 108 l' [.ref 94] h') : hp_F cst strs Φ D M 97 l [] h := by
  refine hp_arc c hM ytH_k hD [g] rfl hy (hp_Bc (z := g) rfl b0 t0 hp_Bn) hp_Fn (hp_Kc (zi := (0 + 0)) (zv := (0 + (1 * g + 0))) k0 rfl rfl (by omega) (by omega) hp_Kn) (hp_La l0 hp_Ln) trivial ?_ ?_
  · intro p hp ys l' st' h' hys a1 a2 a3 gZ gL gS
    rcases List.mem_cons.mp hp with rfl | hp
    · obtain rfl := hp_y0 hys
      obtain ⟨t0, rfl, g0⟩ := hp_gSa gS (by decide)
      cases hp_gSn g0
      exact e0 l' h' a1 a2 a3 (hp_gK (zi := (0 + 0)) (zv := (1 + (1 * g + 0))) gZ.2.2.2 (List.mem_of_getElem? (i := 0) rfl) rfl rfl (by omega) (by omega)) (hp_gLa gL (List.mem_of_getElem? (i := 0) rfl) (by decide))
    cases hp
  · intro p hp ys v h' hys a1 a2 a3 gZ gS
    cases hp
theorem ytI_k : hp_chk 315 111 0 [] [] [(0, .inr (.inr (.inl (some 94))))] [] [] [] 8 [] [([], 0, [], [], [], [.inl (1, [])], [])] = true := by decide +kernel
theorem ytI {cst : am_K} {strs : List Nat} {Φ : am_Q → Prop} {D : Nat} {M : am_M} {h : am_H} {l : am_L} (c : hp_C cst strs D) (hM : m_P[315]? = some M) (hD : (8 : Int) ≤ (D : Int) + 1) (hy : ly_hy m_tt ly_TH h) (l0 : hp_a l 0 94) (r0 : ∀ (h' : am_H) (y0 : Int32), y0.toInt = 1 → ly_hy m_tt ly_TH h' → ly_fr cst [] h h' → h.length ≤ h'.length → Φ (some (.int y0), h', 0, 0)) : hp_F cst strs Φ D M 111 l [] h := by
  refine hp_arc c hM ytI_k hD [] rfl hy hp_Bn hp_Fn hp_Kn (hp_La l0 hp_Ln) trivial ?_ ?_
  · intro p hp ys l' st' h' hys a1 a2 a3 gZ gL gS
    cases hp
  · intro p hp ys v h' hys a1 a2 a3 gZ gS
    rcases List.mem_cons.mp hp with rfl | hp
    · obtain rfl := hp_y0 hys
      cases v with
      | none => cases gS
      | some w =>
        obtain ⟨y0, t0, s0, q0, -⟩ := hp_gSi (z := (1 + 0)) gS rfl
        cases s0
        exact r0 h' y0 (by omega) a1 a2 a3
    cases hp
theorem yu0_k : hp_chk 314 0 0 [] [] [(0, .inr (.inr (.inl (some 94))))] [] [] [20016] 8 [(10, ([], 0, [], [], [(0, .inr (.inr (.inl (some 94))))], [.inl (0, []), .inr (.inr (.inl (some 94)))], [(20016, (0, []), (0, []))]))] [] = true := by decide +kernel
theorem yu0 {cst : am_K} {strs : List Nat} {Φ : am_Q → Prop} {D : Nat} {M : am_M} {h : am_H} {l : am_L} (c : hp_C cst strs D) (hM : m_P[314]? = some M) (hD : (8 : Int) ≤ (D : Int) + 1) (hy : ly_hy m_tt ly_TH h) (l0 : hp_a l 0 94) (e0 : ∀ (l' : am_L) (h' : am_H) (y0 : Int32), y0.toInt = 0 → ly_hy m_tt ly_TH h' → ly_fr cst [20016] h h' → h.length ≤ h'.length → ly_hv cst h' 20016 0 = some 0 → hp_a l' 0 94 → hp_F cst strs Φ D M 10 l' [.int y0, .ref 94] h') : hp_F cst strs Φ D M 0 l [] h := by
  refine hp_arc c hM yu0_k hD [] rfl hy hp_Bn hp_Fn hp_Kn (hp_La l0 hp_Ln) trivial ?_ ?_
  · intro p hp ys l' st' h' hys a1 a2 a3 gZ gL gS
    rcases List.mem_cons.mp hp with rfl | hp
    · obtain rfl := hp_y0 hys
      obtain ⟨y0, t0, rfl, q0, g0⟩ := hp_gSi (z := (0 + 0)) gS rfl
      obtain ⟨t1, rfl, g1⟩ := hp_gSa g0 (by decide)
      cases hp_gSn g1
      exact e0 l' h' y0 (by omega) a1 a2 a3 (hp_gK (zi := (0 + 0)) (zv := (0 + 0)) gZ.2.2.2 (List.mem_of_getElem? (i := 0) rfl) rfl rfl (by omega) (by omega)) (hp_gLa gL (List.mem_of_getElem? (i := 0) rfl) (by decide))
    cases hp
  · intro p hp ys v h' hys a1 a2 a3 gZ gS
    cases hp
theorem yu1_k : hp_chk 314 13 0 [] [] [(0, .inr (.inr (.inl (some 94))))] [.inl (0, [])] [] [] 8 [] [([], 0, [], [], [], [.inl (0, [])], [])] = true := by decide +kernel
theorem yu1 {cst : am_K} {strs : List Nat} {Φ : am_Q → Prop} {D : Nat} {M : am_M} {h : am_H} {l : am_L} (c : hp_C cst strs D) (hM : m_P[314]? = some M) (hD : (8 : Int) ≤ (D : Int) + 1) (hy : ly_hy m_tt ly_TH h) (x0 : Int32) (hx0 : x0.toInt = 0) (l0 : hp_a l 0 94) (r0 : ∀ (h' : am_H) (y0 : Int32), y0.toInt = 0 → ly_hy m_tt ly_TH h' → ly_fr cst [] h h' → h.length ≤ h'.length → Φ (some (.int y0), h', 0, 0)) : hp_F cst strs Φ D M 13 l [.int x0] h := by
  refine hp_arc c hM yu1_k hD [] rfl hy hp_Bn hp_Fn hp_Kn (hp_La l0 hp_Ln) (hp_Si (z := (0 + 0)) rfl (by omega) trivial) ?_ ?_
  · intro p hp ys l' st' h' hys a1 a2 a3 gZ gL gS
    cases hp
  · intro p hp ys v h' hys a1 a2 a3 gZ gS
    rcases List.mem_cons.mp hp with rfl | hp
    · obtain rfl := hp_y0 hys
      cases v with
      | none => cases gS
      | some w =>
        obtain ⟨y0, t0, s0, q0, -⟩ := hp_gSi (z := (0 + 0)) gS rfl
        cases s0
        exact r0 h' y0 (by omega) a1 a2 a3
    cases hp
theorem yu20_k : hp_chk 314 13 2 [(0, 0, 3), (1, 0, 6)] [] [(0, .inr (.inr (.inl (some 94))))] [.inl (1, [])] [(19971, (0, []), (0, [(1, 1)])), (20016, (0, []), (0, [(0, 1)]))] [20016] 8 [] [([], 2, [(0, 0, 3), (1, 0, 6)], [], [], [.inl (1, [])], [(20016, (0, []), (1, [(0, 1)]))])] = true := by decide +kernel
theorem yu20 {cst : am_K} {strs : List Nat} {Φ : am_Q → Prop} {D : Nat} {M : am_M} {h : am_H} {l : am_L} (c : hp_C cst strs D) (hM : m_P[314]? = some M) (hD : (8 : Int) ≤ (D : Int) + 1) (hy : ly_hy m_tt ly_TH h) (s q : Int) (x0 : Int32) (hx0 : x0.toInt = 1) (b0 : 0 ≤ s) (t0 : s ≤ 3) (b1 : 0 ≤ q) (t1 : q ≤ 6) (k0 : ly_hv cst h 19971 0 = some (q)) (k1 : ly_hv cst h 20016 0 = some (s)) (l0 : hp_a l 0 94) (r0 : ∀ (h' : am_H) (y0 : Int32), y0.toInt = 1 → ly_hy m_tt ly_TH h' → ly_fr cst [20016] h h' → h.length ≤ h'.length → ly_hv cst h' 20016 0 = some (s + 1) → Φ (some (.int y0), h', 0, 0)) : hp_F cst strs Φ D M 13 l [.int x0] h := by
  refine hp_arc c hM yu20_k hD [s, q] rfl hy (hp_Bc (z := s) rfl b0 t0 (hp_Bc (z := q) rfl b1 t1 hp_Bn)) hp_Fn (hp_Kc (zi := (0 + 0)) (zv := (0 + (1 * q + 0))) k0 rfl rfl (by omega) (by omega) (hp_Kc (zi := (0 + 0)) (zv := (0 + (1 * s + 0))) k1 rfl rfl (by omega) (by omega) hp_Kn)) (hp_La l0 hp_Ln) (hp_Si (z := (1 + 0)) rfl (by omega) trivial) ?_ ?_
  · intro p hp ys l' st' h' hys a1 a2 a3 gZ gL gS
    cases hp
  · intro p hp ys v h' hys a1 a2 a3 gZ gS
    rcases List.mem_cons.mp hp with rfl | hp
    · obtain rfl := hp_y0 hys
      cases v with
      | none => cases gS
      | some w =>
        obtain ⟨y0, t0, s0, q0, -⟩ := hp_gSi (z := (1 + 0)) gS rfl
        cases s0
        exact r0 h' y0 (by omega) a1 a2 a3 (hp_gK (zi := (0 + 0)) (zv := (1 + (1 * s + 0))) gZ.2.2.2 (List.mem_of_getElem? (i := 0) rfl) rfl rfl (by omega) (by omega))
    cases hp
theorem yu21_k : hp_chk 314 13 2 [(0, 0, 3), (1, 8, 8)] [] [(0, .inr (.inr (.inl (some 94))))] [.inl (1, [])] [(19971, (0, []), (0, [(1, 1)])), (20016, (0, []), (0, [(0, 1)]))] [20016] 8 [] [([], 2, [(0, 0, 3), (1, 8, 8)], [], [], [.inl (1, [])], [(20016, (0, []), (1, [(0, 1)]))])] = true := by decide +kernel
theorem yu21 {cst : am_K} {strs : List Nat} {Φ : am_Q → Prop} {D : Nat} {M : am_M} {h : am_H} {l : am_L} (c : hp_C cst strs D) (hM : m_P[314]? = some M) (hD : (8 : Int) ≤ (D : Int) + 1) (hy : ly_hy m_tt ly_TH h) (s q : Int) (x0 : Int32) (hx0 : x0.toInt = 1) (b0 : 0 ≤ s) (t0 : s ≤ 3) (b1 : 8 ≤ q) (t1 : q ≤ 8) (k0 : ly_hv cst h 19971 0 = some (q)) (k1 : ly_hv cst h 20016 0 = some (s)) (l0 : hp_a l 0 94) (r0 : ∀ (h' : am_H) (y0 : Int32), y0.toInt = 1 → ly_hy m_tt ly_TH h' → ly_fr cst [20016] h h' → h.length ≤ h'.length → ly_hv cst h' 20016 0 = some (s + 1) → Φ (some (.int y0), h', 0, 0)) : hp_F cst strs Φ D M 13 l [.int x0] h := by
  refine hp_arc c hM yu21_k hD [s, q] rfl hy (hp_Bc (z := s) rfl b0 t0 (hp_Bc (z := q) rfl b1 t1 hp_Bn)) hp_Fn (hp_Kc (zi := (0 + 0)) (zv := (0 + (1 * q + 0))) k0 rfl rfl (by omega) (by omega) (hp_Kc (zi := (0 + 0)) (zv := (0 + (1 * s + 0))) k1 rfl rfl (by omega) (by omega) hp_Kn)) (hp_La l0 hp_Ln) (hp_Si (z := (1 + 0)) rfl (by omega) trivial) ?_ ?_
  · intro p hp ys l' st' h' hys a1 a2 a3 gZ gL gS
    cases hp
  · intro p hp ys v h' hys a1 a2 a3 gZ gS
    rcases List.mem_cons.mp hp with rfl | hp
    · obtain rfl := hp_y0 hys
      cases v with
      | none => cases gS
      | some w =>
        obtain ⟨y0, t0, s0, q0, -⟩ := hp_gSi (z := (1 + 0)) gS rfl
        cases s0
        exact r0 h' y0 (by omega) a1 a2 a3 (hp_gK (zi := (0 + 0)) (zv := (1 + (1 * s + 0))) gZ.2.2.2 (List.mem_of_getElem? (i := 0) rfl) rfl rfl (by omega) (by omega))
    cases hp
theorem yu3_k : hp_chk 314 13 1 [(0, 0, 3)] [] [(0, .inr (.inr (.inl (some 94))))] [.inl (1, [])] [(19971, (0, []), (7, [])), (20016, (0, []), (0, [(0, 1)]))] [20016] 8 [(40, ([], 1, [(0, 0, 3)], [], [(0, .inr (.inr (.inl (some 94))))], [.inr (.inr (.inl (some 94)))], [(20016, (0, []), (1, [(0, 1)]))]))] [] = true := by decide +kernel
theorem yu3 {cst : am_K} {strs : List Nat} {Φ : am_Q → Prop} {D : Nat} {M : am_M} {h : am_H} {l : am_L} (c : hp_C cst strs D) (hM : m_P[314]? = some M) (hD : (8 : Int) ≤ (D : Int) + 1) (hy : ly_hy m_tt ly_TH h) (s : Int) (x0 : Int32) (hx0 : x0.toInt = 1) (b0 : 0 ≤ s) (t0 : s ≤ 3) (k0 : ly_hv cst h 19971 0 = some 7) (k1 : ly_hv cst h 20016 0 = some (s)) (l0 : hp_a l 0 94) (e0 : ∀ (l' : am_L) (h' : am_H), ly_hy m_tt ly_TH h' → ly_fr cst [20016] h h' → h.length ≤ h'.length → ly_hv cst h' 20016 0 = some (s + 1) → hp_a l' 0 94 → hp_F cst strs Φ D M 40 l' [.ref 94] h') : hp_F cst strs Φ D M 13 l [.int x0] h := by
  refine hp_arc c hM yu3_k hD [s] rfl hy (hp_Bc (z := s) rfl b0 t0 hp_Bn) hp_Fn (hp_Kc (zi := (0 + 0)) (zv := (7 + 0)) k0 rfl rfl (by omega) (by omega) (hp_Kc (zi := (0 + 0)) (zv := (0 + (1 * s + 0))) k1 rfl rfl (by omega) (by omega) hp_Kn)) (hp_La l0 hp_Ln) (hp_Si (z := (1 + 0)) rfl (by omega) trivial) ?_ ?_
  · intro p hp ys l' st' h' hys a1 a2 a3 gZ gL gS
    rcases List.mem_cons.mp hp with rfl | hp
    · obtain rfl := hp_y0 hys
      obtain ⟨t0, rfl, g0⟩ := hp_gSa gS (by decide)
      cases hp_gSn g0
      exact e0 l' h' a1 a2 a3 (hp_gK (zi := (0 + 0)) (zv := (1 + (1 * s + 0))) gZ.2.2.2 (List.mem_of_getElem? (i := 0) rfl) rfl rfl (by omega) (by omega)) (hp_gLa gL (List.mem_of_getElem? (i := 0) rfl) (by decide))
    cases hp
  · intro p hp ys v h' hys a1 a2 a3 gZ gS
    cases hp
theorem yu4_k : hp_chk 314 43 1 [(0, 0, 4)] [] [(0, .inr (.inr (.inl (some 94))))] [] [(20016, (0, []), (0, [(0, 1)]))] [] 8 [(10, ([], 1, [(0, 0, 4)], [], [(0, .inr (.inr (.inl (some 94))))], [.inl (0, [(0, 1)]), .inr (.inr (.inl (some 94)))], [(20016, (0, []), (0, [(0, 1)]))]))] [] = true := by decide +kernel
theorem yu4 {cst : am_K} {strs : List Nat} {Φ : am_Q → Prop} {D : Nat} {M : am_M} {h : am_H} {l : am_L} (c : hp_C cst strs D) (hM : m_P[314]? = some M) (hD : (8 : Int) ≤ (D : Int) + 1) (hy : ly_hy m_tt ly_TH h) (s : Int) (b0 : 0 ≤ s) (t0 : s ≤ 4) (k0 : ly_hv cst h 20016 0 = some (s)) (l0 : hp_a l 0 94) (e0 : ∀ (l' : am_L) (h' : am_H) (y0 : Int32), y0.toInt = (s) → ly_hy m_tt ly_TH h' → ly_fr cst [] h h' → h.length ≤ h'.length → ly_hv cst h' 20016 0 = some (s) → hp_a l' 0 94 → hp_F cst strs Φ D M 10 l' [.int y0, .ref 94] h') : hp_F cst strs Φ D M 43 l [] h := by
  refine hp_arc c hM yu4_k hD [s] rfl hy (hp_Bc (z := s) rfl b0 t0 hp_Bn) hp_Fn (hp_Kc (zi := (0 + 0)) (zv := (0 + (1 * s + 0))) k0 rfl rfl (by omega) (by omega) hp_Kn) (hp_La l0 hp_Ln) trivial ?_ ?_
  · intro p hp ys l' st' h' hys a1 a2 a3 gZ gL gS
    rcases List.mem_cons.mp hp with rfl | hp
    · obtain rfl := hp_y0 hys
      obtain ⟨y0, t0, rfl, q0, g0⟩ := hp_gSi (z := (0 + (1 * s + 0))) gS rfl
      obtain ⟨t1, rfl, g1⟩ := hp_gSa g0 (by decide)
      cases hp_gSn g1
      exact e0 l' h' y0 (by omega) a1 a2 a3 (hp_gK (zi := (0 + 0)) (zv := (0 + (1 * s + 0))) gZ.2.2.2 (List.mem_of_getElem? (i := 0) rfl) rfl rfl (by omega) (by omega)) (hp_gLa gL (List.mem_of_getElem? (i := 0) rfl) (by decide))
    cases hp
  · intro p hp ys v h' hys a1 a2 a3 gZ gS
    cases hp
def gl_L : List (Nat × Int) := [(23296, 30), (23552, 1200), (23808, 1200), (24064, 1200), (24320, 1200), (24576, 1200), (24832, 1200), (25088, 1200), (25344, 12600), (25600, 12600), (25856, 12600), (26112, 12600), (26368, 18600), (26624, 18600), (26880, 24600), (27136, 9900)]
theorem rk_i7 {kd : Int → Int} {t : Nat} (kb : ∀ j : Nat, j < t → 1 ≤ kd (j : Int) ∧ kd (j : Int) ≤ 61) (a : Nat) : rk kd t a = 7 ↔ fk kd t a = 43 := (rk_b kd t a kb).2.2.2.2.2.2.2.2.2
/-- the reference stands at the token a of a text -/
def rq (cst : am_K) (h : am_H) (f : Int → Int) (n : Int) (t : Nat) (kd pl vl : Int → Int) (en : Nat → Int) (a : Nat) : Prop := (tkT f n t kd pl vl en ∧ 0 ≤ n ∧ n ≤ 1200 ∧ (∀ x, 0 ≤ x → x < n → gs_f cst h x = f x) ∧ ly_hv cst h 19970 0 = some n) ∧ rs cst h kd vl en t n a ∧ ly_hv cst h 19972 0 = some (ak kd vl t a) ∧ ly_hv cst h 19973 0 = some (pa pl t n a)
theorem rq_mv {cst : am_K} {h h' : am_H} {f : Int → Int} {n : Int} {t : Nat} {kd pl vl : Int → Int} {en : Nat → Int} {a : Nat} {ms : List Nat} (R : rq cst h f n t kd pl vl en a) (hy : ly_hy m_tt ly_TH h) (hy' : ly_hy m_tt ly_TH h') (fr : ly_fr cst ms h h') (q : [19970, 19971, 19972, 19973, 19974, 19975, 19976, 20224].all (fun x => !ly_has x ms) = true) : rq cst h' f n t kd pl vl en a := by
  simp only [List.all_cons, List.all_nil, Bool.and_true, Bool.and_eq_true, Bool.not_eq_true'] at q
  obtain ⟨q0, q1, q2, q3, q4, q5, q6, q7⟩ := q
  obtain ⟨⟨T, n0, n1, ff, kn⟩, R1, R2, R3⟩ := R
  exact ⟨⟨T, n0, n1, fun x x0 x1 => by rw [gs_same hy hy' fr q7]; exact ff x x0 x1, fr _ _ _ q0 kn⟩, rs_mv R1 fr (by simp only [List.all_cons, List.all_nil, Bool.and_true, Bool.and_eq_true, Bool.not_eq_true']; exact ⟨q1, q4, q5, q6⟩), fr _ _ _ q2 R2, fr _ _ _ q3 R3⟩
theorem pa_b {f : Int → Int} {n : Int} {t : Nat} {kd pl vl : Int → Int} {en : Nat → Int} (T : tkT f n t kd pl vl en) (n0 : 0 ≤ n) (a : Nat) : 0 ≤ pa pl t n a ∧ pa pl t n a ≤ n := by
  unfold pa
  by_cases z : a < t
  · rw [if_pos z]
    have q := T.2.1 a z
    have e0 := tkT_lt T a (by omega)
    have q1 := q.1
    have q2 := q.2.1
    have q3 := q.2.2.1
    omega
  · rw [if_neg z]
    omega
/-- key and place of what is found behind the token before a -/
theorem rq_at {cst : am_K} {h : am_H} {f : Int → Int} {n : Int} {t : Nat} {kd pl vl : Int → Int} {en : Nat → Int} (T : tkT f n t kd pl vl en) {a : Nat} (ha : a ≤ t) (E : gs_E f cst h (en a) n) : ly_hv cst h 19972 0 = some (ak kd vl t a) ∧ ly_hv cst h 19973 0 = some (pa pl t n a) := by
  unfold ak pa fk
  by_cases z : a < t
  · have q := T.2.1 a z
    rw [if_pos z, if_pos z]
    rcases E with ⟨b, -⟩ | ⟨s, e, k, v, w, -, -, ⟨c3, c6, c7⟩, -, -⟩
    · exact absurd (b _ q.1 (by have := q.2.1; have := q.2.2.1; omega)) q.2.2.2.2.1
    · obtain ⟨es, -, ek, ev⟩ := tk_uni w q
      rw [← ek, ← es]
      refine ⟨?_, c3⟩
      by_cases y : k = 1
      · rw [if_pos y, ← ev (Or.inl y)]
        exact c6 y
      · rw [if_neg y]
        exact c7 y
  · rw [if_neg z, if_neg z, if_neg (by decide)]
    have et : a = t := by omega
    rcases E with ⟨-, -, -, c3, c7⟩ | ⟨s, e, k, v, w, -⟩
    · exact ⟨c7, c3⟩
    · rw [et] at w
      exact absurd (T.2.2.2 s w.1 (by have := w.2.1; have := w.2.2.1; omega)) w.2.2.2.2.1
/-- scan goes on from the token a to the next -/
theorem rq_scan {cst : am_K} {strs : List Nat} {D : Nat} {h : am_H} (c : hp_C cst strs D) (hD : (8 : Int) ≤ (D : Int) + 1) (hy : ly_hy m_tt ly_TH h) {f : Int → Int} {n : Int} {t : Nat} {kd pl vl : Int → Int} {en : Nat → Int} {a : Nat} (R : rq cst h f n t kd pl vl en a) :
    ∃ r, am_Run cst m_cl m_tt m_P strs sx_bi (D + 1) 299 [.ref 94] h r ∧ r.1 = none ∧ r.2.2.1 = 0 ∧ r.2.2.2 = 0 ∧ ly_hy m_tt ly_TH r.2.1 ∧ ly_fr cst [19971, 19972, 19973, 19974, 19975, 19976] h r.2.1 ∧ rq cst r.2.1 f n t kd pl vl en (a + 1) := by
  obtain ⟨⟨T, n0, n1, ff, kn⟩, R1, -, -⟩ := R
  have mv : ∀ (h' : am_H), ly_hy m_tt ly_TH h' → ly_fr cst [19971, 19972, 19973, 19974, 19975, 19976] h h' → tkT f n t kd pl vl en ∧ 0 ≤ n ∧ n ≤ 1200 ∧ (∀ x, 0 ≤ x → x < n → gs_f cst h' x = f x) ∧ ly_hv cst h' 19970 0 = some n := fun h' u1 u2 => ⟨T, n0, n1, fun x x0 x1 => by rw [gs_same hy u1 u2 rfl]; exact ff x x0 x1, u2 _ _ _ rfl kn⟩
  by_cases z : a < t
  · have e0 := tkT_lt T (a + 1) (by omega)
    have e1 := tkT_end T (a + 1) (by omega)
    obtain ⟨r, hrun, r1, r2, r3, r4, r5, rE⟩ := zc_run c hD hy n0 n1 (by omega) e1 kn (R1.1 z).2.1
    have E := gs_ev (by omega) ff rE
    exact ⟨r, hrun, r1, r2, r3, r4, r5, mv _ r4 r5, rs_at T (by omega) E, rq_at T (by omega) E⟩
  · obtain ⟨r, hrun, r1, r2, r3, r4, r5, rE⟩ := zc_run c hD hy n0 n1 n0 (Int.le_refl n) kn (R1.2 (by omega)).2
    refine ⟨r, hrun, r1, r2, r3, r4, r5, mv _ r4 r5, ?_⟩
    rcases rE with ⟨-, c1, c2, c3, c7⟩ | ⟨s, e, k, v, w, -⟩
    · refine ⟨⟨fun y => by omega, fun _ => ⟨c1, c2⟩⟩, ?_, ?_⟩
      · unfold ak
        rw [fk_ge (by omega), if_neg (by decide)]
        exact c7
      · unfold pa
        rw [if_neg (by omega)]
        exact c3
    · have := w.1
      have := w.2.1
      have := w.2.2.1
      omega
/-- below the draft's places all stands -/
def gl (b : Bool) (cst : am_K) (h h' : am_H) : Prop := (∀ p ∈ gl_L, ∀ j u, j < p.2 → ly_hv cst h p.1 j = some u → ly_hv cst h' p.1 j = some u) ∧ (b = true → ∀ r ∈ [19990, 19991], ∀ u, ly_hv cst h r 0 = some u → ly_hv cst h' r 0 = some u)
theorem gl_rf {b : Bool} {cst : am_K} {h : am_H} : gl b cst h h := ⟨fun _ _ _ _ _ e => e, fun _ _ _ _ e => e⟩
theorem gl_tr {g : Bool} {cst : am_K} {a b c : am_H} (x : gl g cst a b) (y : gl g cst b c) : gl g cst a c := ⟨fun p hp j u hj e => y.1 p hp j u hj (x.1 p hp j u hj e), fun hb r hr u e => y.2 hb r hr u (x.2 hb r hr u e)⟩
theorem gf_tr {g : Bool} {cst : am_K} {a b c : am_H} (x : gl g cst a b) (y : gl false cst b c) : gl false cst a c := ⟨fun p hp j u hj e => y.1 p hp j u hj (x.1 p hp j u hj e), fun hb => by cases hb⟩
theorem gl_fr {g : Bool} {cst : am_K} {h h' : am_H} {ms : List Nat} (fr : ly_fr cst ms h h') (q : (gl_L.all (fun p => !ly_has p.1 ms) && (!g || (!ly_has 19990 ms && !ly_has 19991 ms))) = true) : gl g cst h h' := by
  rw [Bool.and_eq_true] at q
  refine ⟨fun p hp j u _ e => fr _ _ _ (by have := List.all_eq_true.mp q.1 p hp; simpa using this) e, fun hb r hr u e => ?_⟩
  have q2 := q.2
  rw [hb] at q2
  simp only [Bool.not_true, Bool.false_or, Bool.and_eq_true, Bool.not_eq_true'] at q2
  simp only [List.mem_cons, List.mem_nil_iff, or_false] at hr
  rcases hr with rfl | rfl
  · exact fr _ _ _ q2.1 e
  · exact fr _ _ _ q2.2 e
theorem gl_pl {g : Bool} {cst : am_K} {h h' : am_H} {r m : Nat} {v : Int} {b : Int} (x : hp_put cst r (b + (m : Int)) v h h') (q : (gl_L.all (fun p => p.1 != r || decide (p.2 ≤ b)) && (r != 19990 && r != 19991)) = true) (_ : 0 ≤ b) : gl g cst h h' := by
  simp only [Bool.and_eq_true, bne_iff_ne] at q
  refine ⟨fun p hp j u hj e => ?_, fun _ y hy u e => ?_⟩
  · have z := List.all_eq_true.mp q.1 p hp
    simp only [Bool.or_eq_true, bne_iff_ne, decide_eq_true_eq] at z
    rw [x.2 _ _ (by rcases z with z | z; exact Or.inl z; exact Or.inr (by omega))]
    exact e
  · simp only [List.mem_cons, List.mem_nil_iff, or_false] at hy
    rw [x.2 _ _ (Or.inl (by rcases hy with rfl | rfl; exact Ne.symm q.2.1; exact Ne.symm q.2.2))]
    exact e
/-- how a part of the reference's reader ends -/
def gR (cst : am_K) (h0 : am_H) (ms : List Nat) (pl : Int → Int) (t : Nat) (n : Int) {Y : Type} (res : (Int × Nat) ⊕ Y) (ok : Y → am_H → Prop) (r : am_Q) : Prop := ∃ w : Int32, r.1 = some (.int w) ∧ r.2.2.1 = 0 ∧ r.2.2.2 = 0 ∧ ly_hy m_tt ly_TH r.2.1 ∧ ly_fr cst ms h0 r.2.1 ∧ gl false cst h0 r.2.1 ∧ (∀ k b, res = .inl (k, b) → w.toInt = 0 ∧ ly_hv cst r.2.1 19990 0 = some k ∧ ly_hv cst r.2.1 19991 0 = some (pa pl t n b)) ∧ ∀ x, res = .inr x → w.toInt = 1 ∧ gl true cst h0 r.2.1 ∧ ok x r.2.1
theorem gR_f {cst : am_K} {h0 h' : am_H} {ms : List Nat} {pl : Int → Int} {t : Nat} {n : Int} {Y : Type} {res : (Int × Nat) ⊕ Y} {ok : Y → am_H → Prop} {w : Int32} {k : Int} {b : Nat} (e : res = .inl (k, b)) (hw : w.toInt = 0) (hy : ly_hy m_tt ly_TH h') (fr : ly_fr cst ms h0 h') (g : gl false cst h0 h') (k1 : ly_hv cst h' 19990 0 = some k) (k2 : ly_hv cst h' 19991 0 = some (pa pl t n b)) : gR cst h0 ms pl t n res ok (some (.int w), h', 0, 0) := ⟨w, rfl, rfl, rfl, hy, fr, g, fun k' b' e' => by
  rw [e] at e'
  cases e'
  exact ⟨hw, k1, k2⟩, fun x e' => by
  rw [e] at e'
  cases e'⟩
theorem gR_s {cst : am_K} {h0 h' : am_H} {ms : List Nat} {pl : Int → Int} {t : Nat} {n : Int} {Y : Type} {res : (Int × Nat) ⊕ Y} {ok : Y → am_H → Prop} {w : Int32} {x : Y} (e : res = .inr x) (hw : w.toInt = 1) (hy : ly_hy m_tt ly_TH h') (fr : ly_fr cst ms h0 h') (g : gl true cst h0 h') (k : ok x h') : gR cst h0 ms pl t n res ok (some (.int w), h', 0, 0) := ⟨w, rfl, rfl, rfl, hy, fr, gf_tr g gl_rf, fun k' b' e' => (by rw [e] at e'; cases e'), fun x' e' => by
  rw [e] at e'
  cases e'
  exact ⟨hw, g, k⟩⟩
/-- word and number of a term -/
def tw (x : Int) : Int := if x < 0 then 0 else x
def tn (x : Int) : Int := if x < 0 then -1 - x else 0
/-- the terms of the draft -/
def gm (cst : am_K) (h : am_H) (L : List Int) : Prop := ly_hv cst h 20011 0 = some (L.length : Int) ∧ fn_N cst h 26368 18600 (L.map tw) ∧ fn_N cst h 26624 18600 (L.map tn)
theorem gm_mv {cst : am_K} {h h' : am_H} {L : List Int} {ms : List Nat} (A : gm cst h L) (fr : ly_fr cst ms h h') (q1 : ly_has 20011 ms = false) (q2 : ly_has 26368 ms = false) (q3 : ly_has 26624 ms = false) : gm cst h' L := ⟨fr _ _ _ q1 A.1, fn_mv A.2.1 fr q2, fn_mv A.2.2 fr q3⟩
/-- a TERM, s before it -/
def yte (kd vl : Int → Int) (t a : Nat) (s : Int) : (Int × Nat) ⊕ (Nat × Int) := if tm kd vl t a then (if s = 4 then .inl (4, a) else .inr (a + 1, ti kd vl t a)) else .inl (1, a)
/-- readTerm of the reference -/
theorem yt_run {cst : am_K} {strs : List Nat} {D : Nat} {h : am_H} (c1 : hp_C cst strs D) (c : hp_C cst strs (D + 1)) (hD : (8 : Int) ≤ (D : Int) + 1) (hy : ly_hy m_tt ly_TH h) {f : Int → Int} {n : Int} {t : Nat} {kd pl vl : Int → Int} {en : Nat → Int} (kb : kB kd t) (vb : vB kd vl t) {a : Nat} (R : rq cst h f n t kd pl vl en a) {L : List Int} (X : gm cst h L) (lb : a < t → L.length ≤ 599) {xs : Int32} (s0 : 0 ≤ xs.toInt) (s4 : xs.toInt ≤ 4) :
    ∃ r, am_Run cst m_cl m_tt m_P strs sx_bi (D + 1 + 1) 315 [.ref 94, .int xs] h r ∧ (gR cst h [19971, 19972, 19973, 19974, 19975, 19976, 19990, 19991, 20011, 26368, 26624] pl t n (yte kd vl t a xs.toInt) (fun x h9 => x = (a + 1, ti kd vl t a) ∧ rq cst h9 f n t kd pl vl en (a + 1) ∧ gm cst h9 (L ++ [ti kd vl t a]))) r := by
  obtain ⟨M, hM, hl⟩ := hp_M (mi := 315) (k := 2) (by decide +kernel)
  have go : hp_F cst strs (gR cst h [19971, 19972, 19973, 19974, 19975, 19976, 19990, 19991, 20011, 26368, 26624] pl t n (yte kd vl t a xs.toInt) (fun x h9 => x = (a + 1, ti kd vl t a) ∧ rq cst h9 f n t kd pl vl en (a + 1) ∧ gm cst h9 (L ++ [ti kd vl t a]))) (D + 1) M 0 (lv_args 0 [.ref 94, .int xs]) [] h := by
    have ks := rs_so R.2.1
    have kk := R.2.2.1
    have kp := R.2.2.2
    have pb := pa_b R.1.1 R.1.2.1 a
    have nb := R.1.2.2.1
    have b0 := (rk_b kd t a kb).1
    have b8 := (rk_b kd t a kb).2.1
    have ab := ak_b kd vl t a
    have bad : ∀ k, yte kd vl t a xs.toInt = .inl (k, a) → ∀ (h2 : am_H) (w : Int32), w.toInt = 0 → ly_hy m_tt ly_TH h2 → ly_fr cst [19990, 19991] h h2 → ly_hv cst h2 19990 0 = some k → ly_hv cst h2 19991 0 = some (pa pl t n a) → (gR cst h [19971, 19972, 19973, 19974, 19975, 19976, 19990, 19991, 20011, 26368, 26624] pl t n (yte kd vl t a xs.toInt) (fun x h9 => x = (a + 1, ti kd vl t a) ∧ rq cst h9 f n t kd pl vl en (a + 1) ∧ gm cst h9 (L ++ [ti kd vl t a]))) (some (.int w), h2, 0, 0) := fun k e h2 w hw u1 u2 k1 k2 => gR_f e hw u1 (hp_sub2 rfl u2) (gl_fr u2 rfl) k1 k2
    by_cases az : a < t
    rotate_left
    · have q0 := fk_ge (kd := kd) az
      have no : yte kd vl t a xs.toInt = .inl (1, a) := by
        unfold yte
        rw [if_neg (by rintro (z | z); exact absurd (q0.symm.trans z) (by decide); exact absurd (q0.symm.trans z.1) (by decide))]
      rw [(rk_i8 kb a).mpr q0] at ks
      exact ytA1 c hM (by omega) hy xs.toInt (pa pl t n a) 8 s0 s4 pb.1 (by omega) (by omega) (by omega) ks kp rfl ⟨xs, rfl, rfl⟩ (fun h2 w hw u1 u2 u3 k1 k2 => bad 1 no h2 w hw u1 u2 k1 k2)
    have lb := lb az
    -- behind both stores
    have fin : yte kd vl t a xs.toInt = .inr (a + 1, ti kd vl t a) → ∀ (l5 : am_L) (h5 : am_H), ly_hy m_tt ly_TH h5 → ly_fr cst [19971, 19972, 19973, 19974, 19975, 19976, 19990, 19991, 20011, 26368, 26624] h h5 → gl true cst h h5 → ly_hv cst h5 20011 0 = some (L.length : Int) → fn_N cst h5 26368 18600 ((L ++ [ti kd vl t a]).map tw) → fn_N cst h5 26624 18600 ((L ++ [ti kd vl t a]).map tn) → rq cst h5 f n t kd pl vl en a → hp_a l5 0 94 → hp_F cst strs (gR cst h [19971, 19972, 19973, 19974, 19975, 19976, 19990, 19991, 20011, 26368, 26624] pl t n (yte kd vl t a xs.toInt) (fun x h9 => x = (a + 1, ti kd vl t a) ∧ rq cst h9 f n t kd pl vl en (a + 1) ∧ gm cst h9 (L ++ [ti kd vl t a]))) (D + 1) M 97 l5 [] h5 := by
      intro er l5 h5 v1 v2 v3 v4 v5 v6 v7 m0
      refine ytH c hM (by omega) v1 (L.length : Int) (by omega) (by omega) v4 m0 (fun l6 h6 u1 u2 u3 k6 g0 => ?_)
      obtain ⟨r, hrun, r1, r2, r3, rhy, rfr, rR⟩ := rq_scan c1 hD u1 (rq_mv v7 v1 u1 u2 rfl)
      refine hp_call (mi := 315) (pc := 108) (tg := 299) (na := 1) (c := 78) (ci := 12) (st0 := [.ref 94]) (st := []) (av := []) hM (by decide +kernel) u1 rfl rfl rfl (by decide) hrun r2 r3 ?_
      rw [r1]
      refine ytI c hM (by omega) rhy g0 (fun h7 w hw z1 z2 z3 => gR_s er hw z1 (ly_fr_tr v2 (ly_fr_tr (hp_sub2 rfl u2) (ly_fr_tr (hp_sub2 rfl rfr) (hp_sub2 rfl z2)))) (gl_tr v3 (gl_tr (gl_fr u2 rfl) (gl_tr (gl_fr rfr rfl) (gl_fr z2 rfl)))) ⟨rfl, rq_mv rR rhy z1 z2 rfl, ?_, fn_mv (fn_mv (fn_mv v5 u2 rfl) rfr rfl) z2 rfl, fn_mv (fn_mv (fn_mv v6 u2 rfl) rfr rfl) z2 rfl⟩)
      rw [List.length_append, List.length_singleton]
      exact z2 _ _ _ rfl (rfr _ _ _ rfl k6)
    -- the second store
    have st2 : yte kd vl t a xs.toInt = .inr (a + 1, ti kd vl t a) → ∀ (l4 : am_L) (h4 : am_H) (y2 y3 : Int32), y2.toInt = tn (ti kd vl t a) → y3.toInt = 18600 + (L.length : Int) → ly_hy m_tt ly_TH h4 → ly_fr cst [19971, 19972, 19973, 19974, 19975, 19976, 19990, 19991, 20011, 26368, 26624] h h4 → gl true cst h h4 → ly_hv cst h4 20011 0 = some (L.length : Int) → fn_N cst h4 26368 18600 ((L ++ [ti kd vl t a]).map tw) → fn_N cst h4 26624 18600 (L.map tn) → rq cst h4 f n t kd pl vl en a → hp_a l4 0 94 → hp_F cst strs (gR cst h [19971, 19972, 19973, 19974, 19975, 19976, 19990, 19991, 20011, 26368, 26624] pl t n (yte kd vl t a xs.toInt) (fun x h9 => x = (a + 1, ti kd vl t a) ∧ rq cst h9 f n t kd pl vl en (a + 1) ∧ gm cst h9 (L ++ [ti kd vl t a]))) (D + 1) M 96 l4 [.int y2, .int y3, .ref 120] h4 := by
      intro er l4 h4 y2 y3 e2 e3 v1 v2 v3 v4 v5 v6 v7 m0
      have yb : -2147483648 ≤ y2.toInt := y2.le_toInt
      have yb' : y2.toInt ≤ 2147483647 := y2.toInt_le
      refine hp_st (c := 104) hM (by decide +kernel) v1 (show ly_ths ly_TH 104 = some (.inl (.int, 19220, -2147483648, 2147483647)) from rfl) rfl (by omega) (by omega) (by omega) (by omega) (fun h5 t1 t2 t3 => ?_)
      rw [e2, e3] at t3
      have t3 : hp_put cst 26624 (18600 + (L.length : Int)) (tn (ti kd vl t a)) h4 h5 := t3
      have pf : ly_fr cst [26624] h4 h5 := hp_put_fr (by rfl) t3
      refine fin er l4 h5 t1 (ly_fr_tr v2 (hp_sub2 rfl pf)) (gl_tr v3 (gl_pl t3 (by decide) (by decide))) (pf _ _ _ rfl v4) (fn_mv v5 pf rfl) ?_ (rq_mv v7 v1 t1 pf rfl) m0
      rw [List.map_append, List.map_singleton]
      exact fn_put v6 (by rw [List.length_map]; exact t3)
    -- the first store
    have st1 : yte kd vl t a xs.toInt = .inr (a + 1, ti kd vl t a) → ∀ (l2 : am_L) (h2 : am_H) (y0 : Int64) (y1 : Int32), y0.toInt = tw (ti kd vl t a) → y1.toInt = 18600 + (L.length : Int) → ly_hy m_tt ly_TH h2 → ly_fr cst [] h h2 → (∀ (h3 : am_H), ly_hy m_tt ly_TH h3 → ly_fr cst [26368] h h3 → gl true cst h h3 → fn_N cst h3 26368 18600 ((L ++ [ti kd vl t a]).map tw) → hp_F cst strs (gR cst h [19971, 19972, 19973, 19974, 19975, 19976, 19990, 19991, 20011, 26368, 26624] pl t n (yte kd vl t a xs.toInt) (fun x h9 => x = (a + 1, ti kd vl t a) ∧ rq cst h9 f n t kd pl vl en (a + 1) ∧ gm cst h9 (L ++ [ti kd vl t a]))) (D + 1) M 79 l2 [] h3) → hp_F cst strs (gR cst h [19971, 19972, 19973, 19974, 19975, 19976, 19990, 19991, 20011, 26368, 26624] pl t n (yte kd vl t a xs.toInt) (fun x h9 => x = (a + 1, ti kd vl t a) ∧ rq cst h9 f n t kd pl vl en (a + 1) ∧ gm cst h9 (L ++ [ti kd vl t a]))) (D + 1) M 78 l2 [.long y0, .int y1, .ref 119] h2 := by
      intro er l2 h2 y0 y1 e0 e1 v1 v2 go
      refine hp_stj (c := 103) hM (by decide +kernel) v1 (show ly_ths ly_TH 103 = some (.inl (.long, 19220, 0, 0)) from rfl) rfl (by omega) (by omega) (fun h3 x1 x2 x3 => ?_)
      rw [e0, e1] at x3
      have x3 : hp_put cst 26368 (18600 + (L.length : Int)) (tw (ti kd vl t a)) h2 h3 := x3
      have pf : ly_fr cst [26368] h2 h3 := hp_put_fr (by rfl) x3
      refine go h3 x1 (ly_fr_tr (hp_sub2 rfl v2) pf) (gl_tr (gl_fr v2 rfl) (gl_pl x3 (by decide) (by decide))) ?_
      rw [List.map_append, List.map_singleton]
      exact fn_put (fn_mv X.2.1 v2 rfl) (by rw [List.length_map]; exact x3)
    by_cases q2 : fk kd t a = 2
    · rw [(rk_i2 kb a).mpr q2] at ks
      by_cases q4 : xs.toInt = 4
      · exact ytC0 c hM (by omega) hy (pa pl t n a) pb.1 (by omega) ks kp rfl ⟨xs, rfl, q4⟩ (fun h2 w hw u1 u2 u3 k1 k2 => bad 4 (by unfold yte; rw [if_pos (Or.inl q2), if_pos q4]) h2 w hw u1 u2 k1 k2)
      have er : yte kd vl t a xs.toInt = .inr (a + 1, ti kd vl t a) := by unfold yte; rw [if_pos (Or.inl q2), if_neg q4]
      have lt : a < t := by
        by_cases z : a < t
        · exact z
        · rw [fk_ge z] at q2
          omega
      have ka : kd (a : Int) = 2 := by
        rw [← fk_lt (kd := kd) lt]
        exact q2
      have va := (vb a lt).2 ka
      have et : ti kd vl t a = -1 - vl (a : Int) := by
        unfold ti
        rw [if_neg (by omega)]
      have e1 : tw (ti kd vl t a) = 0 := by
        unfold tw
        rw [et, if_pos (by omega)]
      have e2 : tn (ti kd vl t a) = vl (a : Int) := by
        unfold tn
        rw [et, if_pos (by omega)]
        omega
      refine ytD c hM (by omega) hy xs.toInt (L.length : Int) (by omega) (by omega) (by omega) (by omega) ks X.1 rfl ⟨xs, rfl, rfl⟩ (fun l1 h1 y0 y1 f0 f1 u1 u2 u3 m0 m2 m3 => ?_)
      refine st1 er l1 h1 y0 y1 (by rw [e1]; exact f0) (by omega) u1 u2 (fun h3 x1 x2 x3 x4 => ?_)
      refine ytF c hM (by omega) x1 (L.length : Int) (vl (a : Int)) (by omega) (by omega) va.1 va.2 (x2 _ _ _ rfl ((R.2.1.1 lt).2.2.2 ka)) m0 m2 m3 (fun l4 h4 y2 y3 f2 f3 w1 w2 w3 j0 => ?_)
      exact st2 er l4 h4 y2 y3 (by rw [e2]; exact f2) (by omega) w1 (ly_fr_tr (hp_sub2 rfl x2) (hp_sub2 rfl w2)) (gl_tr x3 (gl_fr w2 rfl)) (w2 _ _ _ rfl (x2 _ _ _ rfl X.1)) (fn_mv x4 w2 rfl) (fn_mv (fn_mv X.2.2 x2 rfl) w2 rfl) (rq_mv (rq_mv R hy x1 x2 rfl) x1 w1 w2 rfl) j0
    by_cases q1 : fk kd t a = 1
    rotate_left
    · have no : yte kd vl t a xs.toInt = .inl (1, a) := by
        unfold yte
        rw [if_neg (by rintro (z | z); exact q2 z; exact q1 z.1)]
      have n1 : rk kd t a ≠ 1 := fun z => q1 ((rk_i1 kb a).mp z)
      have n2 : rk kd t a ≠ 2 := fun z => q2 ((rk_i2 kb a).mp z)
      by_cases z : rk kd t a ≤ 0
      · exact ytA0 c hM (by omega) hy xs.toInt (pa pl t n a) (rk kd t a) s0 s4 pb.1 (by omega) b0 z ks kp rfl ⟨xs, rfl, rfl⟩ (fun h2 w hw u1 u2 u3 k1 k2 => bad 1 no h2 w hw u1 u2 k1 k2)
      · exact ytA1 c hM (by omega) hy xs.toInt (pa pl t n a) (rk kd t a) s0 s4 pb.1 (by omega) (by omega) b8 ks kp rfl ⟨xs, rfl, rfl⟩ (fun h2 w hw u1 u2 u3 k1 k2 => bad 1 no h2 w hw u1 u2 k1 k2)
    rw [(rk_i1 kb a).mpr q1] at ks
    by_cases q3 : ak kd vl t a < 17
    rotate_left
    · have no : yte kd vl t a xs.toInt = .inl (1, a) := by
        unfold yte
        rw [if_neg (by rintro (z | z); exact q2 z; exact q3 z.2)]
      exact ytB c hM (by omega) hy xs.toInt (pa pl t n a) (ak kd vl t a) s0 s4 pb.1 (by omega) (by omega) ab.2 ks kk kp rfl ⟨xs, rfl, rfl⟩ (fun h2 w hw u1 u2 u3 k1 k2 => bad 1 no h2 w hw u1 u2 k1 k2)
    by_cases q4 : xs.toInt = 4
    · exact ytC1 c hM (by omega) hy (pa pl t n a) (ak kd vl t a) pb.1 (by omega) ab.1 (by omega) ks kk kp rfl ⟨xs, rfl, q4⟩ (fun h2 w hw u1 u2 u3 k1 k2 => bad 4 (by unfold yte; rw [if_pos (Or.inr ⟨q1, q3⟩), if_pos q4]) h2 w hw u1 u2 k1 k2)
    have er : yte kd vl t a xs.toInt = .inr (a + 1, ti kd vl t a) := by unfold yte; rw [if_pos (Or.inr ⟨q1, q3⟩), if_neg q4]
    have lt : a < t := by
      by_cases z : a < t
      · exact z
      · rw [fk_ge z] at q1
        omega
    have ka : kd (a : Int) = 1 := by
      rw [← fk_lt (kd := kd) lt]
      exact q1
    have va := (vb a lt).1 ka
    have et : ti kd vl t a = vl (a : Int) := by
      unfold ti
      rw [if_pos q1]
    have e1 : tw (ti kd vl t a) = vl (a : Int) := by
      unfold tw
      rw [et, if_neg (by omega)]
    have e2 : tn (ti kd vl t a) = 0 := by
      unfold tn
      rw [et, if_neg (by omega)]
    refine ytE c hM (by omega) hy xs.toInt (L.length : Int) (ak kd vl t a) (vl (a : Int)) (by omega) (by omega) (by omega) (by omega) ab.1 (by omega) (by omega) (by omega) ks kk X.1 ((R.2.1.1 lt).2.2.1 ka) rfl ⟨xs, rfl, rfl⟩ (fun l1 h1 y0 y1 f0 f1 u1 u2 u3 m0 m2 m3 => ?_)
    refine st1 er l1 h1 y0 y1 (by rw [e1]; exact f0) (by omega) u1 u2 (fun h3 x1 x2 x3 x4 => ?_)
    refine ytG c hM (by omega) x1 (L.length : Int) (by omega) (by omega) m0 m2 m3 (fun l4 h4 y2 y3 f2 f3 w1 w2 w3 j0 => ?_)
    exact st2 er l4 h4 y2 y3 (by rw [e2]; exact f2) (by omega) w1 (ly_fr_tr (hp_sub2 rfl x2) (hp_sub2 rfl w2)) (gl_tr x3 (gl_fr w2 rfl)) (w2 _ _ _ rfl (x2 _ _ _ rfl X.1)) (fn_mv x4 w2 rfl) (fn_mv (fn_mv X.2.2 x2 rfl) w2 rfl) (rq_mv (rq_mv R hy x1 x2 rfl) x1 w1 w2 rfl) j0
  obtain ⟨n', r, hgo, w, r1, r2, r3, r4⟩ := go
  simp only [Nat.zero_add] at r2 r3
  exact ⟨r, Or.inr ⟨M, n', hM, hl, hgo⟩, w, r1, r2, r3, r4⟩
/-- a SUM step by step -/
theorem yte_sm {kd vl : Int → Int} {t F a : Nat} {L : List Int} : sm kd vl t (F + 1) a L = (match yte kd vl t a (L.length : Int) with
  | .inl f => .inl f
  | .inr (_, v) => if fk kd t (a + 1) = 43 then sm kd vl t F (a + 2) (L ++ [v]) else .inr (a + 1, L ++ [v])) := by
  rw [sm]
  unfold yte
  by_cases z : tm kd vl t a
  · rw [if_pos z, if_pos z]
    by_cases y : L.length = 4
    · rw [if_pos y, if_pos (show ((L.length : Nat) : Int) = 4 by omega)]
    · rw [if_neg y, if_neg (show ¬ ((L.length : Nat) : Int) = 4 by omega)]
  · rw [if_neg z, if_neg z]
/-- readSum of the reference, from its terms L on -/
theorem yu_lp {cst : am_K} {strs : List Nat} {D : Nat} {M : am_M} {h0 : am_H} (c0 : hp_C cst strs D) (c1 : hp_C cst strs (D + 1)) (c : hp_C cst strs (D + 1 + 1)) (hM : m_P[314]? = some M) (hD : (8 : Int) ≤ (D : Int) + 1) {f : Int → Int} {n : Int} {t : Nat} {kd pl vl : Int → Int} {en : Nat → Int} (kb : kB kd t) (vb : vB kd vl t) {G : List Int} : ∀ (F : Nat) (h : am_H) (l : am_L) (a : Nat) (L : List Int) (xs : Int32), F + L.length = 5 → L.length ≤ 4 → ly_hy m_tt ly_TH h → ly_fr cst [19971, 19972, 19973, 19974, 19975, 19976, 19990, 19991, 20011, 20016, 26368, 26624] h0 h → gl true cst h0 h → rq cst h f n t kd pl vl en a → a ≤ t → ly_hv cst h 20016 0 = some (L.length : Int) → gm cst h (G ++ L) → 2 * ((G.length : Int) + (L.length : Int)) ≤ en a → xs.toInt = (L.length : Int) → hp_a l 0 94 → hp_F cst strs (gR cst h0 [19971, 19972, 19973, 19974, 19975, 19976, 19990, 19991, 20011, 20016, 26368, 26624] pl t n (sm kd vl t F a L) (fun x h9 => rq cst h9 f n t kd pl vl en x.1 ∧ ly_hv cst h9 20016 0 = some (x.2.length : Int) ∧ gm cst h9 (G ++ x.2))) (D + 1 + 1) M 10 l [.int xs, .ref 94] h := by
  intro F
  induction F with
  | zero => intro h l a L xs hN hL; omega
  | succ F ih =>
    intro h l a L xs hN hL hy fr g R ha ku X pot ex l0
    have T := R.1.1
    have n1 := R.1.2.2.1
    obtain ⟨r, hrun, w, r1, r2, r3, rhy, rfr, rg, rF, rS⟩ := yt_run (L := G ++ L) (xs := xs) c0 c1 hD hy kb vb R X (fun z => by
      have e1 := (T.2.1 a z).1
      have e2 := (T.2.1 a z).2.1
      have e3 := (T.2.1 a z).2.2.1
      rw [List.length_append]
      omega) (by omega) (by omega)
    refine hp_call (mi := 314) (pc := 10) (tg := 315) (na := 2) (c := 78) (ci := 12) (st0 := [.int xs, .ref 94]) (st := []) (av := [.int xs]) hM (by decide +kernel) hy rfl rfl rfl (by decide) hrun r2 r3 ?_
    rw [r1]
    have fr1 : ly_fr cst [19971, 19972, 19973, 19974, 19975, 19976, 19990, 19991, 20011, 20016, 26368, 26624] h0 r.2.1 := ly_fr_tr fr (hp_sub2 rfl rfr)
    have g1 := gf_tr g rg
    rw [ex] at rF rS
    cases e : yte kd vl t a (L.length : Int) with
    | inl q =>
      obtain ⟨k, b⟩ := q
      obtain ⟨w0, k1, k2⟩ := rF k b e
      have er : sm kd vl t (F + 1) a L = .inl (k, b) := by rw [yte_sm, e]
      exact yu1 c hM (by omega) rhy w w0 l0 (fun h2 w2 hw u1 u2 u3 => gR_f er hw u1 (ly_fr_tr fr1 (hp_sub2 rfl u2)) (gf_tr g1 (gl_fr u2 rfl)) (u2 _ _ _ rfl k1) (u2 _ _ _ rfl k2))
    | inr q =>
      obtain ⟨w1, gt, eq, rR, rX⟩ := rS q e
      have g1 := gl_tr g gt
      rw [eq] at e
      have lt : a < t := by
        by_cases z : a < t
        · exact z
        · have q0 := fk_ge (kd := kd) z
          unfold yte at e
          rw [if_neg (by rintro (z | z); exact absurd (q0.symm.trans z) (by decide); exact absurd (q0.symm.trans z.1) (by decide))] at e
          cases e
      have l3 : L.length ≤ 3 := by
        by_cases z : L.length = 4
        · unfold yte at e
          rw [if_pos (show ((L.length : Nat) : Int) = 4 by omega)] at e
          split at e <;> cases e
        · omega
      have e1 := (T.2.1 a lt).1
      have e2 := (T.2.1 a lt).2.1
      have ks := rs_so rR.2.1
      have b0 := (rk_b kd t (a + 1) kb).1
      have b8 := (rk_b kd t (a + 1) kb).2.1
      have ku1 := rfr _ _ _ rfl ku
      by_cases q7 : fk kd t (a + 1) = 43
      rotate_left
      · have er : sm kd vl t (F + 1) a L = .inr (a + 1, L ++ [ti kd vl t a]) := by
          rw [yte_sm, e]
          exact if_neg q7
        have n7 : rk kd t (a + 1) ≠ 7 := fun z => q7 ((rk_i7 kb (a + 1)).mp z)
        have fin : ∀ (h2 : am_H) (w2 : Int32), w2.toInt = 1 → ly_hy m_tt ly_TH h2 → ly_fr cst [20016] r.2.1 h2 → ly_hv cst h2 20016 0 = some ((L.length : Int) + 1) → (gR cst h0 [19971, 19972, 19973, 19974, 19975, 19976, 19990, 19991, 20011, 20016, 26368, 26624] pl t n (sm kd vl t (F + 1) a L) (fun x h9 => rq cst h9 f n t kd pl vl en x.1 ∧ ly_hv cst h9 20016 0 = some (x.2.length : Int) ∧ gm cst h9 (G ++ x.2))) (some (.int w2), h2, 0, 0) := fun h2 w2 hw u1 u2 k => gR_s er hw u1 (ly_fr_tr fr1 (hp_sub2 rfl u2)) (gl_tr g1 (gl_fr u2 rfl)) ⟨rq_mv rR rhy u1 u2 rfl, by
          rw [List.length_append, List.length_singleton]
          exact k, by
          rw [← List.append_assoc]
          exact gm_mv rX u2 rfl rfl rfl⟩
        by_cases z : rk kd t (a + 1) ≤ 6
        · exact yu20 c hM (by omega) rhy (L.length : Int) (rk kd t (a + 1)) w w1 (by omega) (by omega) b0 z ks ku1 l0 (fun h2 w2 hw u1 u2 u3 k => fin h2 w2 hw u1 u2 k)
        · exact yu21 c hM (by omega) rhy (L.length : Int) (rk kd t (a + 1)) w w1 (by omega) (by omega) (by omega) b8 ks ku1 l0 (fun h2 w2 hw u1 u2 u3 k => fin h2 w2 hw u1 u2 k)
      have er : sm kd vl t (F + 1) a L = sm kd vl t F (a + 2) (L ++ [ti kd vl t a]) := by
        rw [yte_sm, e]
        exact if_pos q7
      have lt1 : a + 1 < t := by
        by_cases z : a + 1 < t
        · exact z
        · rw [fk_ge z] at q7
          omega
      have e3 := (T.2.1 (a + 1) lt1).1
      have e4 := (T.2.1 (a + 1) lt1).2.1
      rw [(rk_i7 kb (a + 1)).mpr q7] at ks
      rw [er]
      refine yu3 c hM (by omega) rhy (L.length : Int) w w1 (by omega) (by omega) ks ku1 l0 (fun l2 h2 u1 u2 u3 k m0 => ?_)
      obtain ⟨r', hrun', r1', r2', r3', rhy', rfr', rR'⟩ := rq_scan (D := D + 1) c1 (by omega) u1 (rq_mv rR rhy u1 u2 rfl)
      refine hp_call (mi := 314) (pc := 40) (tg := 299) (na := 1) (c := 78) (ci := 12) (st0 := [.ref 94]) (st := []) (av := []) hM (by decide +kernel) u1 rfl rfl rfl (by decide) hrun' r2' r3' ?_
      rw [r1']
      refine yu4 c hM (by omega) rhy' ((L.length : Int) + 1) (by omega) (by omega) (rfr' _ _ _ rfl k) m0 (fun l3' h3 y0 f0 v1 v2 v3 k3 j0 => ?_)
      have len9 : (L ++ [ti kd vl t a]).length = L.length + 1 := by
        rw [List.length_append, List.length_singleton]
      refine ih h3 l3' (a + 2) (L ++ [ti kd vl t a]) y0 (by omega) (by omega) v1 (ly_fr_tr fr1 (ly_fr_tr (hp_sub2 rfl u2) (ly_fr_tr (hp_sub2 rfl rfr') (hp_sub2 rfl v2)))) (gl_tr g1 (gl_tr (gl_fr u2 rfl) (gl_tr (gl_fr rfr' rfl) (gl_fr v2 rfl)))) (rq_mv rR' rhy' v1 v2 rfl) (by omega) ?_ ?_ ?_ ?_ j0
      · rw [len9]
        exact k3
      · rw [← List.append_assoc]
        exact gm_mv (gm_mv (gm_mv rX u2 rfl rfl rfl) rfr' rfl rfl rfl) v2 rfl rfl rfl
      · rw [len9, show a + 2 = a + 1 + 1 from rfl]
        omega
      · rw [len9]
        exact f0
/-- readSum of the reference -/
theorem yu_run {cst : am_K} {strs : List Nat} {D : Nat} {h : am_H} (c0 : hp_C cst strs D) (c1 : hp_C cst strs (D + 1)) (c : hp_C cst strs (D + 1 + 1)) (hD : (8 : Int) ≤ (D : Int) + 1) (hy : ly_hy m_tt ly_TH h) {f : Int → Int} {n : Int} {t : Nat} {kd pl vl : Int → Int} {en : Nat → Int} (kb : kB kd t) (vb : vB kd vl t) {a : Nat} (R : rq cst h f n t kd pl vl en a) (ha : a ≤ t) {G : List Int} (X : gm cst h G) (pot : 2 * (G.length : Int) ≤ en a) :
    ∃ r, am_Run cst m_cl m_tt m_P strs sx_bi (D + 1 + 1 + 1) 314 [.ref 94] h r ∧ (gR cst h [19971, 19972, 19973, 19974, 19975, 19976, 19990, 19991, 20011, 20016, 26368, 26624] pl t n (sm kd vl t 5 a []) (fun x h9 => rq cst h9 f n t kd pl vl en x.1 ∧ ly_hv cst h9 20016 0 = some (x.2.length : Int) ∧ gm cst h9 (G ++ x.2))) r := by
  obtain ⟨M, hM, hl⟩ := hp_M (mi := 314) (k := 1) (by decide +kernel)
  obtain ⟨n', r, hgo, w, r1, r2, r3, r4⟩ := yu0 (Φ := (gR cst h [19971, 19972, 19973, 19974, 19975, 19976, 19990, 19991, 20011, 20016, 26368, 26624] pl t n (sm kd vl t 5 a []) (fun x h9 => rq cst h9 f n t kd pl vl en x.1 ∧ ly_hv cst h9 20016 0 = some (x.2.length : Int) ∧ gm cst h9 (G ++ x.2)))) (l := lv_args 0 [.ref 94]) c hM (by omega) hy rfl (fun l1 h1 y0 f0 u1 u2 u3 k1 m0 => yu_lp c0 c1 c hM hD kb vb 5 h1 l1 a [] y0 rfl (by decide) u1 (hp_sub2 rfl u2) (gl_fr u2 rfl) (rq_mv R hy u1 u2 rfl) ha k1 (by rw [List.append_nil]; exact gm_mv X u2 rfl rfl rfl) (by rw [List.length_nil]; omega) f0 m0)
  simp only [Nat.zero_add] at r2 r3
  exact ⟨r, Or.inr ⟨M, n', hM, hl, hgo⟩, w, r1, r2, r3, r4⟩
