/-! PRINTED by wip/p2/hp_rclause.py: readClause of the reference, exactly -/
theorem yqA0_k : hq_chk [305] 304 0 2 [(0, 0, 1200), (1, 0, 0)] [] [(0, .inr (.inr (.inl (some 94))))] [] [(19971, (0, []), (0, [(1, 1)])), (19973, (0, []), (0, [(0, 1)]))] [19990, 19991] 8 [] [([], 2, [(0, 0, 1200), (1, 0, 0)], [], [], [.inl (0, [])], [(19990, (0, []), (1, [])), (19991, (0, []), (0, [(0, 1)]))])] = true := by decide +kernel
theorem yqA0 {cst : am_K} {strs : List Nat} {Φ : am_Q → Prop} {D : Nat} {M : am_M} {h : am_H} {l : am_L} (c : hp_C cst strs D) (hM : m_P[304]? = some M) (hD : (8 : Int) ≤ (D : Int) + 1) (hy : ly_hy m_tt ly_TH h) (p s : Int) (b0 : 0 ≤ p) (t0 : p ≤ 1200) (b1 : 0 ≤ s) (t1 : s ≤ 0) (k0 : ly_hv cst h 19971 0 = some (s)) (k1 : ly_hv cst h 19973 0 = some (p)) (l0 : hp_a l 0 94) (r0 : ∀ (h' : am_H) (y0 : Int32), y0.toInt = 0 → ly_hy m_tt ly_TH h' → ly_fr cst [19990, 19991] h h' → h.length ≤ h'.length → ly_hv cst h' 19990 0 = some 1 → ly_hv cst h' 19991 0 = some (p) → Φ (some (.int y0), h', 0, 0)) : hp_F cst strs Φ D M 0 l [] h := by
  refine hq_arc c hM yqA0_k hD [p, s] rfl hy (hp_Bc (z := p) rfl b0 t0 (hp_Bc (z := s) rfl b1 t1 hp_Bn)) hp_Fn (hp_Kc (zi := (0 + 0)) (zv := (0 + (1 * s + 0))) k0 rfl rfl (by omega) (by omega) (hp_Kc (zi := (0 + 0)) (zv := (0 + (1 * p + 0))) k1 rfl rfl (by omega) (by omega) hp_Kn)) (hp_La l0 hp_Ln) trivial ?_ ?_
  · intro p hp ys l' st' h' hys a1 a2 a3 gZ gL gS
    cases hp
  · intro p hp ys v h' hys a1 a2 a3 gZ gS
    rcases List.mem_cons.mp hp with rfl | hp
    · obtain rfl := hp_y0 hys
      cases v with
      | none => cases gS
      | some w =>
        obtain ⟨y0, t0, s0, q0, -⟩ := hp_gSi (z := (0 + 0)) gS rfl
        cases s0
        exact r0 h' y0 (by omega) a1 a2 a3 (hp_gK (zi := (0 + 0)) (zv := (1 + 0)) gZ.2.2.2 (List.mem_of_getElem? (i := 0) rfl) rfl rfl (by omega) (by omega)) (hp_gK (zi := (0 + 0)) (zv := (0 + (1 * p + 0))) gZ.2.2.2 (List.mem_of_getElem? (i := 1) rfl) rfl rfl (by omega) (by omega))
    cases hp
theorem yqA1_k : hq_chk [305] 304 0 2 [(0, 0, 1200), (1, 2, 8)] [] [(0, .inr (.inr (.inl (some 94))))] [] [(19971, (0, []), (0, [(1, 1)])), (19973, (0, []), (0, [(0, 1)]))] [19990, 19991] 8 [] [([], 2, [(0, 0, 1200), (1, 2, 8)], [], [], [.inl (0, [])], [(19990, (0, []), (1, [])), (19991, (0, []), (0, [(0, 1)]))])] = true := by decide +kernel
theorem yqA1 {cst : am_K} {strs : List Nat} {Φ : am_Q → Prop} {D : Nat} {M : am_M} {h : am_H} {l : am_L} (c : hp_C cst strs D) (hM : m_P[304]? = some M) (hD : (8 : Int) ≤ (D : Int) + 1) (hy : ly_hy m_tt ly_TH h) (p s : Int) (b0 : 0 ≤ p) (t0 : p ≤ 1200) (b1 : 2 ≤ s) (t1 : s ≤ 8) (k0 : ly_hv cst h 19971 0 = some (s)) (k1 : ly_hv cst h 19973 0 = some (p)) (l0 : hp_a l 0 94) (r0 : ∀ (h' : am_H) (y0 : Int32), y0.toInt = 0 → ly_hy m_tt ly_TH h' → ly_fr cst [19990, 19991] h h' → h.length ≤ h'.length → ly_hv cst h' 19990 0 = some 1 → ly_hv cst h' 19991 0 = some (p) → Φ (some (.int y0), h', 0, 0)) : hp_F cst strs Φ D M 0 l [] h := by
  refine hq_arc c hM yqA1_k hD [p, s] rfl hy (hp_Bc (z := p) rfl b0 t0 (hp_Bc (z := s) rfl b1 t1 hp_Bn)) hp_Fn (hp_Kc (zi := (0 + 0)) (zv := (0 + (1 * s + 0))) k0 rfl rfl (by omega) (by omega) (hp_Kc (zi := (0 + 0)) (zv := (0 + (1 * p + 0))) k1 rfl rfl (by omega) (by omega) hp_Kn)) (hp_La l0 hp_Ln) trivial ?_ ?_
  · intro p hp ys l' st' h' hys a1 a2 a3 gZ gL gS
    cases hp
  · intro p hp ys v h' hys a1 a2 a3 gZ gS
    rcases List.mem_cons.mp hp with rfl | hp
    · obtain rfl := hp_y0 hys
      cases v with
      | none => cases gS
      | some w =>
        obtain ⟨y0, t0, s0, q0, -⟩ := hp_gSi (z := (0 + 0)) gS rfl
        cases s0
        exact r0 h' y0 (by omega) a1 a2 a3 (hp_gK (zi := (0 + 0)) (zv := (1 + 0)) gZ.2.2.2 (List.mem_of_getElem? (i := 0) rfl) rfl rfl (by omega) (by omega)) (hp_gK (zi := (0 + 0)) (zv := (0 + (1 * p + 0))) gZ.2.2.2 (List.mem_of_getElem? (i := 1) rfl) rfl rfl (by omega) (by omega))
    cases hp
theorem yqB0_k : hq_chk [305] 304 0 2 [(0, 0, 1200), (1, (-1), (-1))] [] [(0, .inr (.inr (.inl (some 94))))] [] [(19971, (0, []), (1, [])), (19972, (0, []), (0, [(1, 1)])), (19973, (0, []), (0, [(0, 1)]))] [19990, 19991] 8 [] [([], 2, [(0, 0, 1200), (1, (-1), (-1))], [], [], [.inl (0, [])], [(19990, (0, []), (1, [])), (19991, (0, []), (0, [(0, 1)]))])] = true := by decide +kernel
theorem yqB0 {cst : am_K} {strs : List Nat} {Φ : am_Q → Prop} {D : Nat} {M : am_M} {h : am_H} {l : am_L} (c : hp_C cst strs D) (hM : m_P[304]? = some M) (hD : (8 : Int) ≤ (D : Int) + 1) (hy : ly_hy m_tt ly_TH h) (p k : Int) (b0 : 0 ≤ p) (t0 : p ≤ 1200) (b1 : (-1) ≤ k) (t1 : k ≤ (-1)) (k0 : ly_hv cst h 19971 0 = some 1) (k1 : ly_hv cst h 19972 0 = some (k)) (k2 : ly_hv cst h 19973 0 = some (p)) (l0 : hp_a l 0 94) (r0 : ∀ (h' : am_H) (y0 : Int32), y0.toInt = 0 → ly_hy m_tt ly_TH h' → ly_fr cst [19990, 19991] h h' → h.length ≤ h'.length → ly_hv cst h' 19990 0 = some 1 → ly_hv cst h' 19991 0 = some (p) → Φ (some (.int y0), h', 0, 0)) : hp_F cst strs Φ D M 0 l [] h := by
  refine hq_arc c hM yqB0_k hD [p, k] rfl hy (hp_Bc (z := p) rfl b0 t0 (hp_Bc (z := k) rfl b1 t1 hp_Bn)) hp_Fn (hp_Kc (zi := (0 + 0)) (zv := (1 + 0)) k0 rfl rfl (by omega) (by omega) (hp_Kc (zi := (0 + 0)) (zv := (0 + (1 * k + 0))) k1 rfl rfl (by omega) (by omega) (hp_Kc (zi := (0 + 0)) (zv := (0 + (1 * p + 0))) k2 rfl rfl (by omega) (by omega) hp_Kn))) (hp_La l0 hp_Ln) trivial ?_ ?_
  · intro p hp ys l' st' h' hys a1 a2 a3 gZ gL gS
    cases hp
  · intro p hp ys v h' hys a1 a2 a3 gZ gS
    rcases List.mem_cons.mp hp with rfl | hp
    · obtain rfl := hp_y0 hys
      cases v with
      | none => cases gS
      | some w =>
        obtain ⟨y0, t0, s0, q0, -⟩ := hp_gSi (z := (0 + 0)) gS rfl
        cases s0
        exact r0 h' y0 (by omega) a1 a2 a3 (hp_gK (zi := (0 + 0)) (zv := (1 + 0)) gZ.2.2.2 (List.mem_of_getElem? (i := 0) rfl) rfl rfl (by omega) (by omega)) (hp_gK (zi := (0 + 0)) (zv := (0 + (1 * p + 0))) gZ.2.2.2 (List.mem_of_getElem? (i := 1) rfl) rfl rfl (by omega) (by omega))
    cases hp
theorem yqB1_k : hq_chk [305] 304 0 2 [(0, 0, 1200), (1, 17, 23)] [] [(0, .inr (.inr (.inl (some 94))))] [] [(19971, (0, []), (1, [])), (19972, (0, []), (0, [(1, 1)])), (19973, (0, []), (0, [(0, 1)]))] [19990, 19991] 8 [] [([], 2, [(0, 0, 1200), (1, 17, 23)], [], [], [.inl (0, [])], [(19990, (0, []), (1, [])), (19991, (0, []), (0, [(0, 1)]))])] = true := by decide +kernel
theorem yqB1 {cst : am_K} {strs : List Nat} {Φ : am_Q → Prop} {D : Nat} {M : am_M} {h : am_H} {l : am_L} (c : hp_C cst strs D) (hM : m_P[304]? = some M) (hD : (8 : Int) ≤ (D : Int) + 1) (hy : ly_hy m_tt ly_TH h) (p k : Int) (b0 : 0 ≤ p) (t0 : p ≤ 1200) (b1 : 17 ≤ k) (t1 : k ≤ 23) (k0 : ly_hv cst h 19971 0 = some 1) (k1 : ly_hv cst h 19972 0 = some (k)) (k2 : ly_hv cst h 19973 0 = some (p)) (l0 : hp_a l 0 94) (r0 : ∀ (h' : am_H) (y0 : Int32), y0.toInt = 0 → ly_hy m_tt ly_TH h' → ly_fr cst [19990, 19991] h h' → h.length ≤ h'.length → ly_hv cst h' 19990 0 = some 1 → ly_hv cst h' 19991 0 = some (p) → Φ (some (.int y0), h', 0, 0)) : hp_F cst strs Φ D M 0 l [] h := by
  refine hq_arc c hM yqB1_k hD [p, k] rfl hy (hp_Bc (z := p) rfl b0 t0 (hp_Bc (z := k) rfl b1 t1 hp_Bn)) hp_Fn (hp_Kc (zi := (0 + 0)) (zv := (1 + 0)) k0 rfl rfl (by omega) (by omega) (hp_Kc (zi := (0 + 0)) (zv := (0 + (1 * k + 0))) k1 rfl rfl (by omega) (by omega) (hp_Kc (zi := (0 + 0)) (zv := (0 + (1 * p + 0))) k2 rfl rfl (by omega) (by omega) hp_Kn))) (hp_La l0 hp_Ln) trivial ?_ ?_
  · intro p hp ys l' st' h' hys a1 a2 a3 gZ gL gS
    cases hp
  · intro p hp ys v h' hys a1 a2 a3 gZ gS
    rcases List.mem_cons.mp hp with rfl | hp
    · obtain rfl := hp_y0 hys
      cases v with
      | none => cases gS
      | some w =>
        obtain ⟨y0, t0, s0, q0, -⟩ := hp_gSi (z := (0 + 0)) gS rfl
        cases s0
        exact r0 h' y0 (by omega) a1 a2 a3 (hp_gK (zi := (0 + 0)) (zv := (1 + 0)) gZ.2.2.2 (List.mem_of_getElem? (i := 0) rfl) rfl rfl (by omega) (by omega)) (hp_gK (zi := (0 + 0)) (zv := (0 + (1 * p + 0))) gZ.2.2.2 (List.mem_of_getElem? (i := 1) rfl) rfl rfl (by omega) (by omega))
    cases hp
theorem yqC0_k : hq_chk [305, 306, 273] 304 0 2 [(0, 0, 4), (1, 0, 1200)] [] [(0, .inr (.inr (.inl (some 94))))] [] [(19971, (0, []), (1, [])), (19972, (0, []), (0, [(0, 1)])), (23296, (30, []), (40, [])), (19973, (0, []), (0, [(1, 1)]))] [19990, 19991] 8 [] [([], 2, [(0, 0, 4), (1, 0, 1200)], [], [], [.inl (0, [])], [(19990, (0, []), (4, [])), (19991, (0, []), (0, [(1, 1)]))])] = true := by decide +kernel
theorem yqC0 {cst : am_K} {strs : List Nat} {Φ : am_Q → Prop} {D : Nat} {M : am_M} {h : am_H} {l : am_L} (c : hp_C cst strs D) (hM : m_P[304]? = some M) (hD : (8 : Int) ≤ (D : Int) + 1) (hy : ly_hy m_tt ly_TH h) (k p : Int) (b0 : 0 ≤ k) (t0 : k ≤ 4) (b1 : 0 ≤ p) (t1 : p ≤ 1200) (k0 : ly_hv cst h 19971 0 = some 1) (k1 : ly_hv cst h 19972 0 = some (k)) (k2 : ly_hv cst h 23296 30 = some 40) (k3 : ly_hv cst h 19973 0 = some (p)) (l0 : hp_a l 0 94) (r0 : ∀ (h' : am_H) (y0 : Int32), y0.toInt = 0 → ly_hy m_tt ly_TH h' → ly_fr cst [19990, 19991] h h' → h.length ≤ h'.length → ly_hv cst h' 19990 0 = some 4 → ly_hv cst h' 19991 0 = some (p) → Φ (some (.int y0), h', 0, 0)) : hp_F cst strs Φ D M 0 l [] h := by
  refine hq_arc c hM yqC0_k hD [k, p] rfl hy (hp_Bc (z := k) rfl b0 t0 (hp_Bc (z := p) rfl b1 t1 hp_Bn)) hp_Fn (hp_Kc (zi := (0 + 0)) (zv := (1 + 0)) k0 rfl rfl (by omega) (by omega) (hp_Kc (zi := (0 + 0)) (zv := (0 + (1 * k + 0))) k1 rfl rfl (by omega) (by omega) (hp_Kc (zi := (30 + 0)) (zv := (40 + 0)) k2 rfl rfl (by omega) (by omega) (hp_Kc (zi := (0 + 0)) (zv := (0 + (1 * p + 0))) k3 rfl rfl (by omega) (by omega) hp_Kn)))) (hp_La l0 hp_Ln) trivial ?_ ?_
  · intro p hp ys l' st' h' hys a1 a2 a3 gZ gL gS
    cases hp
  · intro p hp ys v h' hys a1 a2 a3 gZ gS
    rcases List.mem_cons.mp hp with rfl | hp
    · obtain rfl := hp_y0 hys
      cases v with
      | none => cases gS
      | some w =>
        obtain ⟨y0, t0, s0, q0, -⟩ := hp_gSi (z := (0 + 0)) gS rfl
        cases s0
        exact r0 h' y0 (by omega) a1 a2 a3 (hp_gK (zi := (0 + 0)) (zv := (4 + 0)) gZ.2.2.2 (List.mem_of_getElem? (i := 0) rfl) rfl rfl (by omega) (by omega)) (hp_gK (zi := (0 + 0)) (zv := (0 + (1 * p + 0))) gZ.2.2.2 (List.mem_of_getElem? (i := 1) rfl) rfl rfl (by omega) (by omega))
    cases hp
theorem yqD0_k : hq_chk [305, 306, 273] 304 0 2 [(0, 0, 4), (1, 0, 39)] [] [(0, .inr (.inr (.inl (some 94))))] [] [(19971, (0, []), (1, [])), (19972, (0, []), (0, [(0, 1)])), (23296, (30, []), (0, [(1, 1)]))] [] 8 [(101, ([], 2, [(0, 0, 4), (1, 0, 39)], [], [(0, .inr (.inr (.inl (some 94)))), (1, .inl (0, [(0, 1)])), (2, .inl (0, [(0, 1)])), (3, .inl (0, [(1, 1)])), (4, .inl (1200, [(1, 1)]))], [.inl (0, [(0, 1)]), .inl (1200, [(1, 1)]), .inr (.inr (.inl (some 108)))], []))] [] = true := by decide +kernel
theorem yqD0 {cst : am_K} {strs : List Nat} {Φ : am_Q → Prop} {D : Nat} {M : am_M} {h : am_H} {l : am_L} (c : hp_C cst strs D) (hM : m_P[304]? = some M) (hD : (8 : Int) ≤ (D : Int) + 1) (hy : ly_hy m_tt ly_TH h) (k q : Int) (b0 : 0 ≤ k) (t0 : k ≤ 4) (b1 : 0 ≤ q) (t1 : q ≤ 39) (k0 : ly_hv cst h 19971 0 = some 1) (k1 : ly_hv cst h 19972 0 = some (k)) (k2 : ly_hv cst h 23296 30 = some (q)) (l0 : hp_a l 0 94) (e0 : ∀ (l' : am_L) (h' : am_H) (y0 : Int32) (y1 : Int32), y0.toInt = (k) → y1.toInt = (q + 1200) → ly_hy m_tt ly_TH h' → ly_fr cst [] h h' → h.length ≤ h'.length → hp_a l' 0 94 → hp_i l' 1 (k) → hp_i l' 2 (k) → hp_i l' 3 (q) → hp_i l' 4 (q + 1200) → hp_F cst strs Φ D M 101 l' [.int y0, .int y1, .ref 108] h') : hp_F cst strs Φ D M 0 l [] h := by
  refine hq_arc c hM yqD0_k hD [k, q] rfl hy (hp_Bc (z := k) rfl b0 t0 (hp_Bc (z := q) rfl b1 t1 hp_Bn)) hp_Fn (hp_Kc (zi := (0 + 0)) (zv := (1 + 0)) k0 rfl rfl (by omega) (by omega) (hp_Kc (zi := (0 + 0)) (zv := (0 + (1 * k + 0))) k1 rfl rfl (by omega) (by omega) (hp_Kc (zi := (30 + 0)) (zv := (0 + (1 * q + 0))) k2 rfl rfl (by omega) (by omega) hp_Kn))) (hp_La l0 hp_Ln) trivial ?_ ?_
  · intro p hp ys l' st' h' hys a1 a2 a3 gZ gL gS
    rcases List.mem_cons.mp hp with rfl | hp
    · obtain rfl := hp_y0 hys
      obtain ⟨y0, t0, rfl, q0, g0⟩ := hp_gSi (z := (0 + (1 * k + 0))) gS rfl
      obtain ⟨y1, t1, rfl, q1, g1⟩ := hp_gSi (z := (1200 + (1 * q + 0))) g0 rfl
      obtain ⟨t2, rfl, g2⟩ := hp_gSa g1 (by decide)
      cases hp_gSn g2
      exact e0 l' h' y0 y1 (by omega) (by omega) a1 a2 a3 (hp_gLa gL (List.mem_of_getElem? (i := 0) rfl) (by decide)) (hp_gLi (z := (0 + (1 * k + 0))) gL (List.mem_of_getElem? (i := 1) rfl) rfl (by omega)) (hp_gLi (z := (0 + (1 * k + 0))) gL (List.mem_of_getElem? (i := 2) rfl) rfl (by omega)) (hp_gLi (z := (0 + (1 * q + 0))) gL (List.mem_of_getElem? (i := 3) rfl) rfl (by omega)) (hp_gLi (z := (1200 + (1 * q + 0))) gL (List.mem_of_getElem? (i := 4) rfl) rfl (by omega))
    cases hp
  · intro p hp ys v h' hys a1 a2 a3 gZ gS
    cases hp
theorem yqC1_k : hq_chk [305, 306, 273] 304 0 2 [(0, 5, 7), (1, 0, 1200)] [] [(0, .inr (.inr (.inl (some 94))))] [] [(19971, (0, []), (1, [])), (19972, (0, []), (0, [(0, 1)])), (23296, (30, []), (40, [])), (19973, (0, []), (0, [(1, 1)]))] [19990, 19991] 8 [] [([], 2, [(0, 5, 7), (1, 0, 1200)], [], [], [.inl (0, [])], [(19990, (0, []), (4, [])), (19991, (0, []), (0, [(1, 1)]))])] = true := by decide +kernel
theorem yqC1 {cst : am_K} {strs : List Nat} {Φ : am_Q → Prop} {D : Nat} {M : am_M} {h : am_H} {l : am_L} (c : hp_C cst strs D) (hM : m_P[304]? = some M) (hD : (8 : Int) ≤ (D : Int) + 1) (hy : ly_hy m_tt ly_TH h) (k p : Int) (b0 : 5 ≤ k) (t0 : k ≤ 7) (b1 : 0 ≤ p) (t1 : p ≤ 1200) (k0 : ly_hv cst h 19971 0 = some 1) (k1 : ly_hv cst h 19972 0 = some (k)) (k2 : ly_hv cst h 23296 30 = some 40) (k3 : ly_hv cst h 19973 0 = some (p)) (l0 : hp_a l 0 94) (r0 : ∀ (h' : am_H) (y0 : Int32), y0.toInt = 0 → ly_hy m_tt ly_TH h' → ly_fr cst [19990, 19991] h h' → h.length ≤ h'.length → ly_hv cst h' 19990 0 = some 4 → ly_hv cst h' 19991 0 = some (p) → Φ (some (.int y0), h', 0, 0)) : hp_F cst strs Φ D M 0 l [] h := by
  refine hq_arc c hM yqC1_k hD [k, p] rfl hy (hp_Bc (z := k) rfl b0 t0 (hp_Bc (z := p) rfl b1 t1 hp_Bn)) hp_Fn (hp_Kc (zi := (0 + 0)) (zv := (1 + 0)) k0 rfl rfl (by omega) (by omega) (hp_Kc (zi := (0 + 0)) (zv := (0 + (1 * k + 0))) k1 rfl rfl (by omega) (by omega) (hp_Kc (zi := (30 + 0)) (zv := (40 + 0)) k2 rfl rfl (by omega) (by omega) (hp_Kc (zi := (0 + 0)) (zv := (0 + (1 * p + 0))) k3 rfl rfl (by omega) (by omega) hp_Kn)))) (hp_La l0 hp_Ln) trivial ?_ ?_
  · intro p hp ys l' st' h' hys a1 a2 a3 gZ gL gS
    cases hp
  · intro p hp ys v h' hys a1 a2 a3 gZ gS
    rcases List.mem_cons.mp hp with rfl | hp
    · obtain rfl := hp_y0 hys
      cases v with
      | none => cases gS
      | some w =>
        obtain ⟨y0, t0, s0, q0, -⟩ := hp_gSi (z := (0 + 0)) gS rfl
        cases s0
        exact r0 h' y0 (by omega) a1 a2 a3 (hp_gK (zi := (0 + 0)) (zv := (4 + 0)) gZ.2.2.2 (List.mem_of_getElem? (i := 0) rfl) rfl rfl (by omega) (by omega)) (hp_gK (zi := (0 + 0)) (zv := (0 + (1 * p + 0))) gZ.2.2.2 (List.mem_of_getElem? (i := 1) rfl) rfl rfl (by omega) (by omega))
    cases hp
theorem yqD1_k : hq_chk [305, 306, 273] 304 0 2 [(0, 5, 7), (1, 0, 39)] [] [(0, .inr (.inr (.inl (some 94))))] [] [(19971, (0, []), (1, [])), (19972, (0, []), (0, [(0, 1)])), (23296, (30, []), (0, [(1, 1)]))] [] 8 [(101, ([], 2, [(0, 5, 7), (1, 0, 39)], [], [(0, .inr (.inr (.inl (some 94)))), (1, .inl (0, [(0, 1)])), (2, .inl ((-1), [(0, 1)])), (3, .inl (0, [(1, 1)])), (4, .inl (1200, [(1, 1)]))], [.inl ((-1), [(0, 1)]), .inl (1200, [(1, 1)]), .inr (.inr (.inl (some 108)))], []))] [] = true := by decide +kernel
theorem yqD1 {cst : am_K} {strs : List Nat} {Φ : am_Q → Prop} {D : Nat} {M : am_M} {h : am_H} {l : am_L} (c : hp_C cst strs D) (hM : m_P[304]? = some M) (hD : (8 : Int) ≤ (D : Int) + 1) (hy : ly_hy m_tt ly_TH h) (k q : Int) (b0 : 5 ≤ k) (t0 : k ≤ 7) (b1 : 0 ≤ q) (t1 : q ≤ 39) (k0 : ly_hv cst h 19971 0 = some 1) (k1 : ly_hv cst h 19972 0 = some (k)) (k2 : ly_hv cst h 23296 30 = some (q)) (l0 : hp_a l 0 94) (e0 : ∀ (l' : am_L) (h' : am_H) (y0 : Int32) (y1 : Int32), y0.toInt = (k - 1) → y1.toInt = (q + 1200) → ly_hy m_tt ly_TH h' → ly_fr cst [] h h' → h.length ≤ h'.length → hp_a l' 0 94 → hp_i l' 1 (k) → hp_i l' 2 (k - 1) → hp_i l' 3 (q) → hp_i l' 4 (q + 1200) → hp_F cst strs Φ D M 101 l' [.int y0, .int y1, .ref 108] h') : hp_F cst strs Φ D M 0 l [] h := by
  refine hq_arc c hM yqD1_k hD [k, q] rfl hy (hp_Bc (z := k) rfl b0 t0 (hp_Bc (z := q) rfl b1 t1 hp_Bn)) hp_Fn (hp_Kc (zi := (0 + 0)) (zv := (1 + 0)) k0 rfl rfl (by omega) (by omega) (hp_Kc (zi := (0 + 0)) (zv := (0 + (1 * k + 0))) k1 rfl rfl (by omega) (by omega) (hp_Kc (zi := (30 + 0)) (zv := (0 + (1 * q + 0))) k2 rfl rfl (by omega) (by omega) hp_Kn))) (hp_La l0 hp_Ln) trivial ?_ ?_
  · intro p hp ys l' st' h' hys a1 a2 a3 gZ gL gS
    rcases List.mem_cons.mp hp with rfl | hp
    · obtain rfl := hp_y0 hys
      obtain ⟨y0, t0, rfl, q0, g0⟩ := hp_gSi (z := ((-1) + (1 * k + 0))) gS rfl
      obtain ⟨y1, t1, rfl, q1, g1⟩ := hp_gSi (z := (1200 + (1 * q + 0))) g0 rfl
      obtain ⟨t2, rfl, g2⟩ := hp_gSa g1 (by decide)
      cases hp_gSn g2
      exact e0 l' h' y0 y1 (by omega) (by omega) a1 a2 a3 (hp_gLa gL (List.mem_of_getElem? (i := 0) rfl) (by decide)) (hp_gLi (z := (0 + (1 * k + 0))) gL (List.mem_of_getElem? (i := 1) rfl) rfl (by omega)) (hp_gLi (z := ((-1) + (1 * k + 0))) gL (List.mem_of_getElem? (i := 2) rfl) rfl (by omega)) (hp_gLi (z := (0 + (1 * q + 0))) gL (List.mem_of_getElem? (i := 3) rfl) rfl (by omega)) (hp_gLi (z := (1200 + (1 * q + 0))) gL (List.mem_of_getElem? (i := 4) rfl) rfl (by omega))
    cases hp
  · intro p hp ys v h' hys a1 a2 a3 gZ gS
    cases hp
theorem yqC2_k : hq_chk [305, 306, 273] 304 0 2 [(0, 16, 16), (1, 0, 1200)] [] [(0, .inr (.inr (.inl (some 94))))] [] [(19971, (0, []), (1, [])), (19972, (0, []), (0, [(0, 1)])), (23296, (30, []), (40, [])), (19973, (0, []), (0, [(1, 1)]))] [19990, 19991] 8 [] [([], 2, [(0, 16, 16), (1, 0, 1200)], [], [], [.inl (0, [])], [(19990, (0, []), (4, [])), (19991, (0, []), (0, [(1, 1)]))])] = true := by decide +kernel
theorem yqC2 {cst : am_K} {strs : List Nat} {Φ : am_Q → Prop} {D : Nat} {M : am_M} {h : am_H} {l : am_L} (c : hp_C cst strs D) (hM : m_P[304]? = some M) (hD : (8 : Int) ≤ (D : Int) + 1) (hy : ly_hy m_tt ly_TH h) (k p : Int) (b0 : 16 ≤ k) (t0 : k ≤ 16) (b1 : 0 ≤ p) (t1 : p ≤ 1200) (k0 : ly_hv cst h 19971 0 = some 1) (k1 : ly_hv cst h 19972 0 = some (k)) (k2 : ly_hv cst h 23296 30 = some 40) (k3 : ly_hv cst h 19973 0 = some (p)) (l0 : hp_a l 0 94) (r0 : ∀ (h' : am_H) (y0 : Int32), y0.toInt = 0 → ly_hy m_tt ly_TH h' → ly_fr cst [19990, 19991] h h' → h.length ≤ h'.length → ly_hv cst h' 19990 0 = some 4 → ly_hv cst h' 19991 0 = some (p) → Φ (some (.int y0), h', 0, 0)) : hp_F cst strs Φ D M 0 l [] h := by
  refine hq_arc c hM yqC2_k hD [k, p] rfl hy (hp_Bc (z := k) rfl b0 t0 (hp_Bc (z := p) rfl b1 t1 hp_Bn)) hp_Fn (hp_Kc (zi := (0 + 0)) (zv := (1 + 0)) k0 rfl rfl (by omega) (by omega) (hp_Kc (zi := (0 + 0)) (zv := (0 + (1 * k + 0))) k1 rfl rfl (by omega) (by omega) (hp_Kc (zi := (30 + 0)) (zv := (40 + 0)) k2 rfl rfl (by omega) (by omega) (hp_Kc (zi := (0 + 0)) (zv := (0 + (1 * p + 0))) k3 rfl rfl (by omega) (by omega) hp_Kn)))) (hp_La l0 hp_Ln) trivial ?_ ?_
  · intro p hp ys l' st' h' hys a1 a2 a3 gZ gL gS
    cases hp
  · intro p hp ys v h' hys a1 a2 a3 gZ gS
    rcases List.mem_cons.mp hp with rfl | hp
    · obtain rfl := hp_y0 hys
      cases v with
      | none => cases gS
      | some w =>
        obtain ⟨y0, t0, s0, q0, -⟩ := hp_gSi (z := (0 + 0)) gS rfl
        cases s0
        exact r0 h' y0 (by omega) a1 a2 a3 (hp_gK (zi := (0 + 0)) (zv := (4 + 0)) gZ.2.2.2 (List.mem_of_getElem? (i := 0) rfl) rfl rfl (by omega) (by omega)) (hp_gK (zi := (0 + 0)) (zv := (0 + (1 * p + 0))) gZ.2.2.2 (List.mem_of_getElem? (i := 1) rfl) rfl rfl (by omega) (by omega))
    cases hp
theorem yqD2_k : hq_chk [305, 306, 273] 304 0 2 [(0, 16, 16), (1, 0, 39)] [] [(0, .inr (.inr (.inl (some 94))))] [] [(19971, (0, []), (1, [])), (19972, (0, []), (0, [(0, 1)])), (23296, (30, []), (0, [(1, 1)]))] [] 8 [(101, ([], 2, [(0, 16, 16), (1, 0, 39)], [], [(0, .inr (.inr (.inl (some 94)))), (1, .inl (0, [(0, 1)])), (2, .inl (14, [])), (3, .inl (0, [(1, 1)])), (4, .inl (1200, [(1, 1)]))], [.inl (14, []), .inl (1200, [(1, 1)]), .inr (.inr (.inl (some 108)))], []))] [] = true := by decide +kernel
theorem yqD2 {cst : am_K} {strs : List Nat} {Φ : am_Q → Prop} {D : Nat} {M : am_M} {h : am_H} {l : am_L} (c : hp_C cst strs D) (hM : m_P[304]? = some M) (hD : (8 : Int) ≤ (D : Int) + 1) (hy : ly_hy m_tt ly_TH h) (k q : Int) (b0 : 16 ≤ k) (t0 : k ≤ 16) (b1 : 0 ≤ q) (t1 : q ≤ 39) (k0 : ly_hv cst h 19971 0 = some 1) (k1 : ly_hv cst h 19972 0 = some (k)) (k2 : ly_hv cst h 23296 30 = some (q)) (l0 : hp_a l 0 94) (e0 : ∀ (l' : am_L) (h' : am_H) (y0 : Int32) (y1 : Int32), y0.toInt = 14 → y1.toInt = (q + 1200) → ly_hy m_tt ly_TH h' → ly_fr cst [] h h' → h.length ≤ h'.length → hp_a l' 0 94 → hp_i l' 1 (k) → hp_i l' 2 14 → hp_i l' 3 (q) → hp_i l' 4 (q + 1200) → hp_F cst strs Φ D M 101 l' [.int y0, .int y1, .ref 108] h') : hp_F cst strs Φ D M 0 l [] h := by
  refine hq_arc c hM yqD2_k hD [k, q] rfl hy (hp_Bc (z := k) rfl b0 t0 (hp_Bc (z := q) rfl b1 t1 hp_Bn)) hp_Fn (hp_Kc (zi := (0 + 0)) (zv := (1 + 0)) k0 rfl rfl (by omega) (by omega) (hp_Kc (zi := (0 + 0)) (zv := (0 + (1 * k + 0))) k1 rfl rfl (by omega) (by omega) (hp_Kc (zi := (30 + 0)) (zv := (0 + (1 * q + 0))) k2 rfl rfl (by omega) (by omega) hp_Kn))) (hp_La l0 hp_Ln) trivial ?_ ?_
  · intro p hp ys l' st' h' hys a1 a2 a3 gZ gL gS
    rcases List.mem_cons.mp hp with rfl | hp
    · obtain rfl := hp_y0 hys
      obtain ⟨y0, t0, rfl, q0, g0⟩ := hp_gSi (z := (14 + 0)) gS rfl
      obtain ⟨y1, t1, rfl, q1, g1⟩ := hp_gSi (z := (1200 + (1 * q + 0))) g0 rfl
      obtain ⟨t2, rfl, g2⟩ := hp_gSa g1 (by decide)
      cases hp_gSn g2
      exact e0 l' h' y0 y1 (by omega) (by omega) a1 a2 a3 (hp_gLa gL (List.mem_of_getElem? (i := 0) rfl) (by decide)) (hp_gLi (z := (0 + (1 * k + 0))) gL (List.mem_of_getElem? (i := 1) rfl) rfl (by omega)) (hp_gLi (z := (14 + 0)) gL (List.mem_of_getElem? (i := 2) rfl) rfl (by omega)) (hp_gLi (z := (0 + (1 * q + 0))) gL (List.mem_of_getElem? (i := 3) rfl) rfl (by omega)) (hp_gLi (z := (1200 + (1 * q + 0))) gL (List.mem_of_getElem? (i := 4) rfl) rfl (by omega))
    cases hp
  · intro p hp ys v h' hys a1 a2 a3 gZ gS
    cases hp
theorem yqE0_k : hq_chk [305, 306, 273] 304 0 2 [(0, 8, 13), (1, 0, 40)] [] [(0, .inr (.inr (.inl (some 94))))] [] [(19971, (0, []), (1, [])), (19972, (0, []), (0, [(0, 1)])), (23296, (30, []), (0, [(1, 1)]))] [] 8 [(63, ([], 2, [(0, 8, 13), (1, 0, 40)], [], [(0, .inr (.inr (.inl (some 94)))), (1, .inl (0, [(0, 1)])), (2, .inl ((-1), [(0, 1)])), (3, .inl (0, [(1, 1)]))], [.inl (0, [(1, 1)]), .inr (.inl (0, [])), .inl ((-1), [(0, 1)]), .inr (.inr (.inl (some 94)))], []))] [] = true := by decide +kernel
theorem yqE0 {cst : am_K} {strs : List Nat} {Φ : am_Q → Prop} {D : Nat} {M : am_M} {h : am_H} {l : am_L} (c : hp_C cst strs D) (hM : m_P[304]? = some M) (hD : (8 : Int) ≤ (D : Int) + 1) (hy : ly_hy m_tt ly_TH h) (k q : Int) (b0 : 8 ≤ k) (t0 : k ≤ 13) (b1 : 0 ≤ q) (t1 : q ≤ 40) (k0 : ly_hv cst h 19971 0 = some 1) (k1 : ly_hv cst h 19972 0 = some (k)) (k2 : ly_hv cst h 23296 30 = some (q)) (l0 : hp_a l 0 94) (e0 : ∀ (l' : am_L) (h' : am_H) (y0 : Int32) (y1 : Int64) (y2 : Int32), y0.toInt = (q) → y1.toInt = 0 → y2.toInt = (k - 1) → ly_hy m_tt ly_TH h' → ly_fr cst [] h h' → h.length ≤ h'.length → hp_a l' 0 94 → hp_i l' 1 (k) → hp_i l' 2 (k - 1) → hp_i l' 3 (q) → hp_F cst strs Φ D M 63 l' [.int y0, .long y1, .int y2, .ref 94] h') : hp_F cst strs Φ D M 0 l [] h := by
  refine hq_arc c hM yqE0_k hD [k, q] rfl hy (hp_Bc (z := k) rfl b0 t0 (hp_Bc (z := q) rfl b1 t1 hp_Bn)) hp_Fn (hp_Kc (zi := (0 + 0)) (zv := (1 + 0)) k0 rfl rfl (by omega) (by omega) (hp_Kc (zi := (0 + 0)) (zv := (0 + (1 * k + 0))) k1 rfl rfl (by omega) (by omega) (hp_Kc (zi := (30 + 0)) (zv := (0 + (1 * q + 0))) k2 rfl rfl (by omega) (by omega) hp_Kn))) (hp_La l0 hp_Ln) trivial ?_ ?_
  · intro p hp ys l' st' h' hys a1 a2 a3 gZ gL gS
    rcases List.mem_cons.mp hp with rfl | hp
    · obtain rfl := hp_y0 hys
      obtain ⟨y0, t0, rfl, q0, g0⟩ := hp_gSi (z := (0 + (1 * q + 0))) gS rfl
      obtain ⟨y1, t1, rfl, q1, g1⟩ := hp_gSj (z := (0 + 0)) g0 rfl
      obtain ⟨y2, t2, rfl, q2, g2⟩ := hp_gSi (z := ((-1) + (1 * k + 0))) g1 rfl
      obtain ⟨t3, rfl, g3⟩ := hp_gSa g2 (by decide)
      cases hp_gSn g3
      exact e0 l' h' y0 y1 y2 (by omega) (by omega) (by omega) a1 a2 a3 (hp_gLa gL (List.mem_of_getElem? (i := 0) rfl) (by decide)) (hp_gLi (z := (0 + (1 * k + 0))) gL (List.mem_of_getElem? (i := 1) rfl) rfl (by omega)) (hp_gLi (z := ((-1) + (1 * k + 0))) gL (List.mem_of_getElem? (i := 2) rfl) rfl (by omega)) (hp_gLi (z := (0 + (1 * q + 0))) gL (List.mem_of_getElem? (i := 3) rfl) rfl (by omega))
    cases hp
  · intro p hp ys v h' hys a1 a2 a3 gZ gS
    cases hp
theorem yqE1_k : hq_chk [305, 306, 273] 304 0 2 [(0, 14, 15), (1, 0, 40)] [] [(0, .inr (.inr (.inl (some 94))))] [] [(19971, (0, []), (1, [])), (19972, (0, []), (0, [(0, 1)])), (23296, (30, []), (0, [(1, 1)]))] [] 8 [(63, ([], 2, [(0, 14, 15), (1, 0, 40)], [], [(0, .inr (.inr (.inl (some 94)))), (1, .inl (0, [(0, 1)])), (2, .inl (13, [])), (3, .inl (0, [(1, 1)]))], [.inl (0, [(1, 1)]), .inr (.inl (0, [])), .inl (13, []), .inr (.inr (.inl (some 94)))], []))] [] = true := by decide +kernel
theorem yqE1 {cst : am_K} {strs : List Nat} {Φ : am_Q → Prop} {D : Nat} {M : am_M} {h : am_H} {l : am_L} (c : hp_C cst strs D) (hM : m_P[304]? = some M) (hD : (8 : Int) ≤ (D : Int) + 1) (hy : ly_hy m_tt ly_TH h) (k q : Int) (b0 : 14 ≤ k) (t0 : k ≤ 15) (b1 : 0 ≤ q) (t1 : q ≤ 40) (k0 : ly_hv cst h 19971 0 = some 1) (k1 : ly_hv cst h 19972 0 = some (k)) (k2 : ly_hv cst h 23296 30 = some (q)) (l0 : hp_a l 0 94) (e0 : ∀ (l' : am_L) (h' : am_H) (y0 : Int32) (y1 : Int64) (y2 : Int32), y0.toInt = (q) → y1.toInt = 0 → y2.toInt = 13 → ly_hy m_tt ly_TH h' → ly_fr cst [] h h' → h.length ≤ h'.length → hp_a l' 0 94 → hp_i l' 1 (k) → hp_i l' 2 13 → hp_i l' 3 (q) → hp_F cst strs Φ D M 63 l' [.int y0, .long y1, .int y2, .ref 94] h') : hp_F cst strs Φ D M 0 l [] h := by
  refine hq_arc c hM yqE1_k hD [k, q] rfl hy (hp_Bc (z := k) rfl b0 t0 (hp_Bc (z := q) rfl b1 t1 hp_Bn)) hp_Fn (hp_Kc (zi := (0 + 0)) (zv := (1 + 0)) k0 rfl rfl (by omega) (by omega) (hp_Kc (zi := (0 + 0)) (zv := (0 + (1 * k + 0))) k1 rfl rfl (by omega) (by omega) (hp_Kc (zi := (30 + 0)) (zv := (0 + (1 * q + 0))) k2 rfl rfl (by omega) (by omega) hp_Kn))) (hp_La l0 hp_Ln) trivial ?_ ?_
  · intro p hp ys l' st' h' hys a1 a2 a3 gZ gL gS
    rcases List.mem_cons.mp hp with rfl | hp
    · obtain rfl := hp_y0 hys
      obtain ⟨y0, t0, rfl, q0, g0⟩ := hp_gSi (z := (0 + (1 * q + 0))) gS rfl
      obtain ⟨y1, t1, rfl, q1, g1⟩ := hp_gSj (z := (0 + 0)) g0 rfl
      obtain ⟨y2, t2, rfl, q2, g2⟩ := hp_gSi (z := (13 + 0)) g1 rfl
      obtain ⟨t3, rfl, g3⟩ := hp_gSa g2 (by decide)
      cases hp_gSn g3
      exact e0 l' h' y0 y1 y2 (by omega) (by omega) (by omega) a1 a2 a3 (hp_gLa gL (List.mem_of_getElem? (i := 0) rfl) (by decide)) (hp_gLi (z := (0 + (1 * k + 0))) gL (List.mem_of_getElem? (i := 1) rfl) rfl (by omega)) (hp_gLi (z := (13 + 0)) gL (List.mem_of_getElem? (i := 2) rfl) rfl (by omega)) (hp_gLi (z := (0 + (1 * q + 0))) gL (List.mem_of_getElem? (i := 3) rfl) rfl (by omega))
    cases hp
  · intro p hp ys v h' hys a1 a2 a3 gZ gS
    cases hp
theorem yqF1_k : hq_chk [305] 304 66 4 [(0, 0, 16), (1, 0, 14), (2, 0, 40), (3, 0, 1200)] [] [(0, .inr (.inr (.inl (some 94)))), (1, .inl (0, [(0, 1)])), (2, .inl (0, [(1, 1)])), (3, .inl (0, [(2, 1)]))] [.inl (1, [])] [(19973, (0, []), (0, [(3, 1)]))] [19990, 19991] 8 [] [([], 4, [(0, 0, 16), (1, 0, 14), (2, 0, 40), (3, 0, 1200)], [], [], [.inl (0, [])], [(19990, (0, []), (3, [])), (19991, (0, []), (0, [(3, 1)]))])] = true := by decide +kernel
theorem yqF1 {cst : am_K} {strs : List Nat} {Φ : am_Q → Prop} {D : Nat} {M : am_M} {h : am_H} {l : am_L} (c : hp_C cst strs D) (hM : m_P[304]? = some M) (hD : (8 : Int) ≤ (D : Int) + 1) (hy : ly_hy m_tt ly_TH h) (k g q p : Int) (x0 : Int32) (hx0 : x0.toInt = 1) (b0 : 0 ≤ k) (t0 : k ≤ 16) (b1 : 0 ≤ g) (t1 : g ≤ 14) (b2 : 0 ≤ q) (t2 : q ≤ 40) (b3 : 0 ≤ p) (t3 : p ≤ 1200) (k0 : ly_hv cst h 19973 0 = some (p)) (l0 : hp_a l 0 94) (l1 : hp_i l 1 (k)) (l2 : hp_i l 2 (g)) (l3 : hp_i l 3 (q)) (r0 : ∀ (h' : am_H) (y0 : Int32), y0.toInt = 0 → ly_hy m_tt ly_TH h' → ly_fr cst [19990, 19991] h h' → h.length ≤ h'.length → ly_hv cst h' 19990 0 = some 3 → ly_hv cst h' 19991 0 = some (p) → Φ (some (.int y0), h', 0, 0)) : hp_F cst strs Φ D M 66 l [.int x0] h := by
  refine hq_arc c hM yqF1_k hD [k, g, q, p] rfl hy (hp_Bc (z := k) rfl b0 t0 (hp_Bc (z := g) rfl b1 t1 (hp_Bc (z := q) rfl b2 t2 (hp_Bc (z := p) rfl b3 t3 hp_Bn)))) hp_Fn (hp_Kc (zi := (0 + 0)) (zv := (0 + (1 * p + 0))) k0 rfl rfl (by omega) (by omega) hp_Kn) (hp_La l0 (hp_Li (z := (0 + (1 * k + 0))) l1 rfl (by omega) (hp_Li (z := (0 + (1 * g + 0))) l2 rfl (by omega) (hp_Li (z := (0 + (1 * q + 0))) l3 rfl (by omega) hp_Ln)))) (hp_Si (z := (1 + 0)) rfl (by omega) trivial) ?_ ?_
  · intro p hp ys l' st' h' hys a1 a2 a3 gZ gL gS
    cases hp
  · intro p hp ys v h' hys a1 a2 a3 gZ gS
    rcases List.mem_cons.mp hp with rfl | hp
    · obtain rfl := hp_y0 hys
      cases v with
      | none => cases gS
      | some w =>
        obtain ⟨y0, t0, s0, q0, -⟩ := hp_gSi (z := (0 + 0)) gS rfl
        cases s0
        exact r0 h' y0 (by omega) a1 a2 a3 (hp_gK (zi := (0 + 0)) (zv := (3 + 0)) gZ.2.2.2 (List.mem_of_getElem? (i := 0) rfl) rfl rfl (by omega) (by omega)) (hp_gK (zi := (0 + 0)) (zv := (0 + (1 * p + 0))) gZ.2.2.2 (List.mem_of_getElem? (i := 1) rfl) rfl rfl (by omega) (by omega))
    cases hp
theorem yqF4_k : hq_chk [305] 304 66 3 [(0, 0, 16), (1, 0, 14), (2, 0, 1200)] [] [(0, .inr (.inr (.inl (some 94)))), (1, .inl (0, [(0, 1)])), (2, .inl (0, [(1, 1)])), (3, .inl (40, []))] [.inl (0, [])] [(19973, (0, []), (0, [(2, 1)]))] [19990, 19991] 8 [] [([], 3, [(0, 0, 16), (1, 0, 14), (2, 0, 1200)], [], [], [.inl (0, [])], [(19990, (0, []), (4, [])), (19991, (0, []), (0, [(2, 1)]))])] = true := by decide +kernel
theorem yqF4 {cst : am_K} {strs : List Nat} {Φ : am_Q → Prop} {D : Nat} {M : am_M} {h : am_H} {l : am_L} (c : hp_C cst strs D) (hM : m_P[304]? = some M) (hD : (8 : Int) ≤ (D : Int) + 1) (hy : ly_hy m_tt ly_TH h) (k g p : Int) (x0 : Int32) (hx0 : x0.toInt = 0) (b0 : 0 ≤ k) (t0 : k ≤ 16) (b1 : 0 ≤ g) (t1 : g ≤ 14) (b2 : 0 ≤ p) (t2 : p ≤ 1200) (k0 : ly_hv cst h 19973 0 = some (p)) (l0 : hp_a l 0 94) (l1 : hp_i l 1 (k)) (l2 : hp_i l 2 (g)) (l3 : hp_i l 3 40) (r0 : ∀ (h' : am_H) (y0 : Int32), y0.toInt = 0 → ly_hy m_tt ly_TH h' → ly_fr cst [19990, 19991] h h' → h.length ≤ h'.length → ly_hv cst h' 19990 0 = some 4 → ly_hv cst h' 19991 0 = some (p) → Φ (some (.int y0), h', 0, 0)) : hp_F cst strs Φ D M 66 l [.int x0] h := by
  refine hq_arc c hM yqF4_k hD [k, g, p] rfl hy (hp_Bc (z := k) rfl b0 t0 (hp_Bc (z := g) rfl b1 t1 (hp_Bc (z := p) rfl b2 t2 hp_Bn))) hp_Fn (hp_Kc (zi := (0 + 0)) (zv := (0 + (1 * p + 0))) k0 rfl rfl (by omega) (by omega) hp_Kn) (hp_La l0 (hp_Li (z := (0 + (1 * k + 0))) l1 rfl (by omega) (hp_Li (z := (0 + (1 * g + 0))) l2 rfl (by omega) (hp_Li (z := (40 + 0)) l3 rfl (by omega) hp_Ln)))) (hp_Si (z := (0 + 0)) rfl (by omega) trivial) ?_ ?_
  · intro p hp ys l' st' h' hys a1 a2 a3 gZ gL gS
    cases hp
  · intro p hp ys v h' hys a1 a2 a3 gZ gS
    rcases List.mem_cons.mp hp with rfl | hp
    · obtain rfl := hp_y0 hys
      cases v with
      | none => cases gS
      | some w =>
        obtain ⟨y0, t0, s0, q0, -⟩ := hp_gSi (z := (0 + 0)) gS rfl
        cases s0
        exact r0 h' y0 (by omega) a1 a2 a3 (hp_gK (zi := (0 + 0)) (zv := (4 + 0)) gZ.2.2.2 (List.mem_of_getElem? (i := 0) rfl) rfl rfl (by omega) (by omega)) (hp_gK (zi := (0 + 0)) (zv := (0 + (1 * p + 0))) gZ.2.2.2 (List.mem_of_getElem? (i := 1) rfl) rfl rfl (by omega) (by omega))
    cases hp
theorem yqF0_k : hp_chk 304 66 3 [(0, 0, 16), (1, 0, 14), (2, 0, 39)] [] [(0, .inr (.inr (.inl (some 94)))), (1, .inl (0, [(0, 1)])), (2, .inl (0, [(1, 1)])), (3, .inl (0, [(2, 1)]))] [.inl (0, [])] [] [] 8 [(101, ([], 3, [(0, 0, 16), (1, 0, 14), (2, 0, 39)], [], [(0, .inr (.inr (.inl (some 94)))), (1, .inl (0, [(0, 1)])), (2, .inl (0, [(1, 1)])), (3, .inl (0, [(2, 1)])), (4, .inl (1200, [(2, 1)]))], [.inl (0, [(1, 1)]), .inl (1200, [(2, 1)]), .inr (.inr (.inl (some 108)))], []))] [] = true := by decide +kernel
theorem yqF0 {cst : am_K} {strs : List Nat} {Φ : am_Q → Prop} {D : Nat} {M : am_M} {h : am_H} {l : am_L} (c : hp_C cst strs D) (hM : m_P[304]? = some M) (hD : (8 : Int) ≤ (D : Int) + 1) (hy : ly_hy m_tt ly_TH h) (k g q : Int) (x0 : Int32) (hx0 : x0.toInt = 0) (b0 : 0 ≤ k) (t0 : k ≤ 16) (b1 : 0 ≤ g) (t1 : g ≤ 14) (b2 : 0 ≤ q) (t2 : q ≤ 39) (l0 : hp_a l 0 94) (l1 : hp_i l 1 (k)) (l2 : hp_i l 2 (g)) (l3 : hp_i l 3 (q)) (e0 : ∀ (l' : am_L) (h' : am_H) (y0 : Int32) (y1 : Int32), y0.toInt = (g) → y1.toInt = (q + 1200) → ly_hy m_tt ly_TH h' → ly_fr cst [] h h' → h.length ≤ h'.length → hp_a l' 0 94 → hp_i l' 1 (k) → hp_i l' 2 (g) → hp_i l' 3 (q) → hp_i l' 4 (q + 1200) → hp_F cst strs Φ D M 101 l' [.int y0, .int y1, .ref 108] h') : hp_F cst strs Φ D M 66 l [.int x0] h := by
  refine hp_arc c hM yqF0_k hD [k, g, q] rfl hy (hp_Bc (z := k) rfl b0 t0 (hp_Bc (z := g) rfl b1 t1 (hp_Bc (z := q) rfl b2 t2 hp_Bn))) hp_Fn hp_Kn (hp_La l0 (hp_Li (z := (0 + (1 * k + 0))) l1 rfl (by omega) (hp_Li (z := (0 + (1 * g + 0))) l2 rfl (by omega) (hp_Li (z := (0 + (1 * q + 0))) l3 rfl (by omega) hp_Ln)))) (hp_Si (z := (0 + 0)) rfl (by omega) trivial) ?_ ?_
  · intro p hp ys l' st' h' hys a1 a2 a3 gZ gL gS
    rcases List.mem_cons.mp hp with rfl | hp
    · obtain rfl := hp_y0 hys
      obtain ⟨y0, t0, rfl, q0, g0⟩ := hp_gSi (z := (0 + (1 * g + 0))) gS rfl
      obtain ⟨y1, t1, rfl, q1, g1⟩ := hp_gSi (z := (1200 + (1 * q + 0))) g0 rfl
      obtain ⟨t2, rfl, g2⟩ := hp_gSa g1 (by decide)
      cases hp_gSn g2
      exact e0 l' h' y0 y1 (by omega) (by omega) a1 a2 a3 (hp_gLa gL (List.mem_of_getElem? (i := 0) rfl) (by decide)) (hp_gLi (z := (0 + (1 * k + 0))) gL (List.mem_of_getElem? (i := 1) rfl) rfl (by omega)) (hp_gLi (z := (0 + (1 * g + 0))) gL (List.mem_of_getElem? (i := 2) rfl) rfl (by omega)) (hp_gLi (z := (0 + (1 * q + 0))) gL (List.mem_of_getElem? (i := 3) rfl) rfl (by omega)) (hp_gLi (z := (1200 + (1 * q + 0))) gL (List.mem_of_getElem? (i := 4) rfl) rfl (by omega))
    cases hp
  · intro p hp ys v h' hys a1 a2 a3 gZ gS
    cases hp
theorem yqG_k : hp_chk 304 102 3 [(0, 0, 16), (1, 0, 14), (2, 0, 39)] [] [(0, .inr (.inr (.inl (some 94)))), (1, .inl (0, [(0, 1)])), (2, .inl (0, [(1, 1)])), (3, .inl (0, [(2, 1)])), (4, .inl (1200, [(2, 1)]))] [] [] [] 8 [(109, ([], 3, [(0, 0, 16), (1, 0, 14), (2, 0, 39)], [], [(0, .inr (.inr (.inl (some 94)))), (1, .inl (0, [(0, 1)])), (2, .inl (0, [(1, 1)])), (3, .inl (0, [(2, 1)])), (4, .inl (1200, [(2, 1)]))], [.inr (.inl (0, [])), .inl (1200, [(2, 1)]), .inr (.inr (.inl (some 109)))], []))] [] = true := by decide +kernel
theorem yqG {cst : am_K} {strs : List Nat} {Φ : am_Q → Prop} {D : Nat} {M : am_M} {h : am_H} {l : am_L} (c : hp_C cst strs D) (hM : m_P[304]? = some M) (hD : (8 : Int) ≤ (D : Int) + 1) (hy : ly_hy m_tt ly_TH h) (k g q : Int) (b0 : 0 ≤ k) (t0 : k ≤ 16) (b1 : 0 ≤ g) (t1 : g ≤ 14) (b2 : 0 ≤ q) (t2 : q ≤ 39) (l0 : hp_a l 0 94) (l1 : hp_i l 1 (k)) (l2 : hp_i l 2 (g)) (l3 : hp_i l 3 (q)) (l4 : hp_i l 4 (q + 1200)) (e0 : ∀ (l' : am_L) (h' : am_H) (y0 : Int64) (y1 : Int32), y0.toInt = 0 → y1.toInt = (q + 1200) → ly_hy m_tt ly_TH h' → ly_fr cst [] h h' → h.length ≤ h'.length → hp_a l' 0 94 → hp_i l' 1 (k) → hp_i l' 2 (g) → hp_i l' 3 (q) → hp_i l' 4 (q + 1200) → hp_F cst strs Φ D M 109 l' [.long y0, .int y1, .ref 109] h') : hp_F cst strs Φ D M 102 l [] h := by
  refine hp_arc c hM yqG_k hD [k, g, q] rfl hy (hp_Bc (z := k) rfl b0 t0 (hp_Bc (z := g) rfl b1 t1 (hp_Bc (z := q) rfl b2 t2 hp_Bn))) hp_Fn hp_Kn (hp_La l0 (hp_Li (z := (0 + (1 * k + 0))) l1 rfl (by omega) (hp_Li (z := (0 + (1 * g + 0))) l2 rfl (by omega) (hp_Li (z := (0 + (1 * q + 0))) l3 rfl (by omega) (hp_Li (z := (1200 + (1 * q + 0))) l4 rfl (by omega) hp_Ln))))) trivial ?_ ?_
  · intro p hp ys l' st' h' hys a1 a2 a3 gZ gL gS
    rcases List.mem_cons.mp hp with rfl | hp
    · obtain rfl := hp_y0 hys
      obtain ⟨y0, t0, rfl, q0, g0⟩ := hp_gSj (z := (0 + 0)) gS rfl
      obtain ⟨y1, t1, rfl, q1, g1⟩ := hp_gSi (z := (1200 + (1 * q + 0))) g0 rfl
      obtain ⟨t2, rfl, g2⟩ := hp_gSa g1 (by decide)
      cases hp_gSn g2
      exact e0 l' h' y0 y1 (by omega) (by omega) a1 a2 a3 (hp_gLa gL (List.mem_of_getElem? (i := 0) rfl) (by decide)) (hp_gLi (z := (0 + (1 * k + 0))) gL (List.mem_of_getElem? (i := 1) rfl) rfl (by omega)) (hp_gLi (z := (0 + (1 * g + 0))) gL (List.mem_of_getElem? (i := 2) rfl) rfl (by omega)) (hp_gLi (z := (0 + (1 * q + 0))) gL (List.mem_of_getElem? (i := 3) rfl) rfl (by omega)) (hp_gLi (z := (1200 + (1 * q + 0))) gL (List.mem_of_getElem? (i := 4) rfl) rfl (by omega))
    cases hp
  · intro p hp ys v h' hys a1 a2 a3 gZ gS
    cases hp
theorem yqH_k : hp_chk 304 110 3 [(0, 0, 16), (1, 0, 14), (2, 0, 39)] [] [(0, .inr (.inr (.inl (some 94)))), (1, .inl (0, [(0, 1)])), (2, .inl (0, [(1, 1)])), (3, .inl (0, [(2, 1)])), (4, .inl (1200, [(2, 1)]))] [] [] [] 8 [(117, ([], 3, [(0, 0, 16), (1, 0, 14), (2, 0, 39)], [], [(0, .inr (.inr (.inl (some 94)))), (1, .inl (0, [(0, 1)])), (2, .inl (0, [(1, 1)])), (3, .inl (0, [(2, 1)])), (4, .inl (1200, [(2, 1)]))], [.inl (0, []), .inl (1200, [(2, 1)]), .inr (.inr (.inl (some 110)))], []))] [] = true := by decide +kernel
theorem yqH {cst : am_K} {strs : List Nat} {Φ : am_Q → Prop} {D : Nat} {M : am_M} {h : am_H} {l : am_L} (c : hp_C cst strs D) (hM : m_P[304]? = some M) (hD : (8 : Int) ≤ (D : Int) + 1) (hy : ly_hy m_tt ly_TH h) (k g q : Int) (b0 : 0 ≤ k) (t0 : k ≤ 16) (b1 : 0 ≤ g) (t1 : g ≤ 14) (b2 : 0 ≤ q) (t2 : q ≤ 39) (l0 : hp_a l 0 94) (l1 : hp_i l 1 (k)) (l2 : hp_i l 2 (g)) (l3 : hp_i l 3 (q)) (l4 : hp_i l 4 (q + 1200)) (e0 : ∀ (l' : am_L) (h' : am_H) (y0 : Int32) (y1 : Int32), y0.toInt = 0 → y1.toInt = (q + 1200) → ly_hy m_tt ly_TH h' → ly_fr cst [] h h' → h.length ≤ h'.length → hp_a l' 0 94 → hp_i l' 1 (k) → hp_i l' 2 (g) → hp_i l' 3 (q) → hp_i l' 4 (q + 1200) → hp_F cst strs Φ D M 117 l' [.int y0, .int y1, .ref 110] h') : hp_F cst strs Φ D M 110 l [] h := by
  refine hp_arc c hM yqH_k hD [k, g, q] rfl hy (hp_Bc (z := k) rfl b0 t0 (hp_Bc (z := g) rfl b1 t1 (hp_Bc (z := q) rfl b2 t2 hp_Bn))) hp_Fn hp_Kn (hp_La l0 (hp_Li (z := (0 + (1 * k + 0))) l1 rfl (by omega) (hp_Li (z := (0 + (1 * g + 0))) l2 rfl (by omega) (hp_Li (z := (0 + (1 * q + 0))) l3 rfl (by omega) (hp_Li (z := (1200 + (1 * q + 0))) l4 rfl (by omega) hp_Ln))))) trivial ?_ ?_
  · intro p hp ys l' st' h' hys a1 a2 a3 gZ gL gS
    rcases List.mem_cons.mp hp with rfl | hp
    · obtain rfl := hp_y0 hys
      obtain ⟨y0, t0, rfl, q0, g0⟩ := hp_gSi (z := (0 + 0)) gS rfl
      obtain ⟨y1, t1, rfl, q1, g1⟩ := hp_gSi (z := (1200 + (1 * q + 0))) g0 rfl
      obtain ⟨t2, rfl, g2⟩ := hp_gSa g1 (by decide)
      cases hp_gSn g2
      exact e0 l' h' y0 y1 (by omega) (by omega) a1 a2 a3 (hp_gLa gL (List.mem_of_getElem? (i := 0) rfl) (by decide)) (hp_gLi (z := (0 + (1 * k + 0))) gL (List.mem_of_getElem? (i := 1) rfl) rfl (by omega)) (hp_gLi (z := (0 + (1 * g + 0))) gL (List.mem_of_getElem? (i := 2) rfl) rfl (by omega)) (hp_gLi (z := (0 + (1 * q + 0))) gL (List.mem_of_getElem? (i := 3) rfl) rfl (by omega)) (hp_gLi (z := (1200 + (1 * q + 0))) gL (List.mem_of_getElem? (i := 4) rfl) rfl (by omega))
    cases hp
  · intro p hp ys v h' hys a1 a2 a3 gZ gS
    cases hp
theorem yqI_k : hp_chk 304 118 3 [(0, 0, 16), (1, 0, 14), (2, 0, 39)] [] [(0, .inr (.inr (.inl (some 94)))), (1, .inl (0, [(0, 1)])), (2, .inl (0, [(1, 1)])), (3, .inl (0, [(2, 1)])), (4, .inl (1200, [(2, 1)]))] [] [] [] 8 [(125, ([], 3, [(0, 0, 16), (1, 0, 14), (2, 0, 39)], [], [(0, .inr (.inr (.inl (some 94)))), (1, .inl (0, [(0, 1)])), (2, .inl (0, [(1, 1)])), (3, .inl (0, [(2, 1)])), (4, .inl (1200, [(2, 1)]))], [.inl (0, []), .inl (1200, [(2, 1)]), .inr (.inr (.inl (some 112)))], []))] [] = true := by decide +kernel
theorem yqI {cst : am_K} {strs : List Nat} {Φ : am_Q → Prop} {D : Nat} {M : am_M} {h : am_H} {l : am_L} (c : hp_C cst strs D) (hM : m_P[304]? = some M) (hD : (8 : Int) ≤ (D : Int) + 1) (hy : ly_hy m_tt ly_TH h) (k g q : Int) (b0 : 0 ≤ k) (t0 : k ≤ 16) (b1 : 0 ≤ g) (t1 : g ≤ 14) (b2 : 0 ≤ q) (t2 : q ≤ 39) (l0 : hp_a l 0 94) (l1 : hp_i l 1 (k)) (l2 : hp_i l 2 (g)) (l3 : hp_i l 3 (q)) (l4 : hp_i l 4 (q + 1200)) (e0 : ∀ (l' : am_L) (h' : am_H) (y0 : Int32) (y1 : Int32), y0.toInt = 0 → y1.toInt = (q + 1200) → ly_hy m_tt ly_TH h' → ly_fr cst [] h h' → h.length ≤ h'.length → hp_a l' 0 94 → hp_i l' 1 (k) → hp_i l' 2 (g) → hp_i l' 3 (q) → hp_i l' 4 (q + 1200) → hp_F cst strs Φ D M 125 l' [.int y0, .int y1, .ref 112] h') : hp_F cst strs Φ D M 118 l [] h := by
  refine hp_arc c hM yqI_k hD [k, g, q] rfl hy (hp_Bc (z := k) rfl b0 t0 (hp_Bc (z := g) rfl b1 t1 (hp_Bc (z := q) rfl b2 t2 hp_Bn))) hp_Fn hp_Kn (hp_La l0 (hp_Li (z := (0 + (1 * k + 0))) l1 rfl (by omega) (hp_Li (z := (0 + (1 * g + 0))) l2 rfl (by omega) (hp_Li (z := (0 + (1 * q + 0))) l3 rfl (by omega) (hp_Li (z := (1200 + (1 * q + 0))) l4 rfl (by omega) hp_Ln))))) trivial ?_ ?_
  · intro p hp ys l' st' h' hys a1 a2 a3 gZ gL gS
    rcases List.mem_cons.mp hp with rfl | hp
    · obtain rfl := hp_y0 hys
      obtain ⟨y0, t0, rfl, q0, g0⟩ := hp_gSi (z := (0 + 0)) gS rfl
      obtain ⟨y1, t1, rfl, q1, g1⟩ := hp_gSi (z := (1200 + (1 * q + 0))) g0 rfl
      obtain ⟨t2, rfl, g2⟩ := hp_gSa g1 (by decide)
      cases hp_gSn g2
      exact e0 l' h' y0 y1 (by omega) (by omega) a1 a2 a3 (hp_gLa gL (List.mem_of_getElem? (i := 0) rfl) (by decide)) (hp_gLi (z := (0 + (1 * k + 0))) gL (List.mem_of_getElem? (i := 1) rfl) rfl (by omega)) (hp_gLi (z := (0 + (1 * g + 0))) gL (List.mem_of_getElem? (i := 2) rfl) rfl (by omega)) (hp_gLi (z := (0 + (1 * q + 0))) gL (List.mem_of_getElem? (i := 3) rfl) rfl (by omega)) (hp_gLi (z := (1200 + (1 * q + 0))) gL (List.mem_of_getElem? (i := 4) rfl) rfl (by omega))
    cases hp
  · intro p hp ys v h' hys a1 a2 a3 gZ gS
    cases hp
theorem yqJ_k : hp_chk 304 126 3 [(0, 0, 16), (1, 0, 14), (2, 0, 39)] [] [(0, .inr (.inr (.inl (some 94)))), (1, .inl (0, [(0, 1)])), (2, .inl (0, [(1, 1)])), (3, .inl (0, [(2, 1)])), (4, .inl (1200, [(2, 1)]))] [] [] [] 8 [(127, ([], 3, [(0, 0, 16), (1, 0, 14), (2, 0, 39)], [], [(0, .inr (.inr (.inl (some 94)))), (1, .inl (0, [(0, 1)])), (2, .inl (0, [(1, 1)])), (3, .inl (0, [(2, 1)])), (4, .inl (1200, [(2, 1)]))], [.inr (.inr (.inl (some 94)))], []))] [] = true := by decide +kernel
theorem yqJ {cst : am_K} {strs : List Nat} {Φ : am_Q → Prop} {D : Nat} {M : am_M} {h : am_H} {l : am_L} (c : hp_C cst strs D) (hM : m_P[304]? = some M) (hD : (8 : Int) ≤ (D : Int) + 1) (hy : ly_hy m_tt ly_TH h) (k g q : Int) (b0 : 0 ≤ k) (t0 : k ≤ 16) (b1 : 0 ≤ g) (t1 : g ≤ 14) (b2 : 0 ≤ q) (t2 : q ≤ 39) (l0 : hp_a l 0 94) (l1 : hp_i l 1 (k)) (l2 : hp_i l 2 (g)) (l3 : hp_i l 3 (q)) (l4 : hp_i l 4 (q + 1200)) (e0 : ∀ (l' : am_L) (h' : am_H), ly_hy m_tt ly_TH h' → ly_fr cst [] h h' → h.length ≤ h'.length → hp_a l' 0 94 → hp_i l' 1 (k) → hp_i l' 2 (g) → hp_i l' 3 (q) → hp_i l' 4 (q + 1200) → hp_F cst strs Φ D M 127 l' [.ref 94] h') : hp_F cst strs Φ D M 126 l [] h := by
  refine hp_arc c hM yqJ_k hD [k, g, q] rfl hy (hp_Bc (z := k) rfl b0 t0 (hp_Bc (z := g) rfl b1 t1 (hp_Bc (z := q) rfl b2 t2 hp_Bn))) hp_Fn hp_Kn (hp_La l0 (hp_Li (z := (0 + (1 * k + 0))) l1 rfl (by omega) (hp_Li (z := (0 + (1 * g + 0))) l2 rfl (by omega) (hp_Li (z := (0 + (1 * q + 0))) l3 rfl (by omega) (hp_Li (z := (1200 + (1 * q + 0))) l4 rfl (by omega) hp_Ln))))) trivial ?_ ?_
  · intro p hp ys l' st' h' hys a1 a2 a3 gZ gL gS
    rcases List.mem_cons.mp hp with rfl | hp
    · obtain rfl := hp_y0 hys
      obtain ⟨t0, rfl, g0⟩ := hp_gSa gS (by decide)
      cases hp_gSn g0
      exact e0 l' h' a1 a2 a3 (hp_gLa gL (List.mem_of_getElem? (i := 0) rfl) (by decide)) (hp_gLi (z := (0 + (1 * k + 0))) gL (List.mem_of_getElem? (i := 1) rfl) rfl (by omega)) (hp_gLi (z := (0 + (1 * g + 0))) gL (List.mem_of_getElem? (i := 2) rfl) rfl (by omega)) (hp_gLi (z := (0 + (1 * q + 0))) gL (List.mem_of_getElem? (i := 3) rfl) rfl (by omega)) (hp_gLi (z := (1200 + (1 * q + 0))) gL (List.mem_of_getElem? (i := 4) rfl) rfl (by omega))
    cases hp
  · intro p hp ys v h' hys a1 a2 a3 gZ gS
    cases hp
theorem yqK0_k : hq_chk [305] 304 130 5 [(0, 0, 16), (1, 0, 6), (2, 0, 39), (3, 0, 1200), (4, 0, 0)] [] [(0, .inr (.inr (.inl (some 94)))), (1, .inl (0, [(0, 1)])), (2, .inl (0, [(1, 1)])), (3, .inl (0, [(2, 1)])), (4, .inl (1200, [(2, 1)]))] [] [(19971, (0, []), (0, [(4, 1)])), (19973, (0, []), (0, [(3, 1)]))] [19990, 19991] 8 [] [([], 5, [(0, 0, 16), (1, 0, 6), (2, 0, 39), (3, 0, 1200), (4, 0, 0)], [], [], [.inl (0, [])], [(19990, (0, []), (1, [])), (19991, (0, []), (0, [(3, 1)]))])] = true := by decide +kernel
theorem yqK0 {cst : am_K} {strs : List Nat} {Φ : am_Q → Prop} {D : Nat} {M : am_M} {h : am_H} {l : am_L} (c : hp_C cst strs D) (hM : m_P[304]? = some M) (hD : (8 : Int) ≤ (D : Int) + 1) (hy : ly_hy m_tt ly_TH h) (k g q p s : Int) (b0 : 0 ≤ k) (t0 : k ≤ 16) (b1 : 0 ≤ g) (t1 : g ≤ 6) (b2 : 0 ≤ q) (t2 : q ≤ 39) (b3 : 0 ≤ p) (t3 : p ≤ 1200) (b4 : 0 ≤ s) (t4 : s ≤ 0) (k0 : ly_hv cst h 19971 0 = some (s)) (k1 : ly_hv cst h 19973 0 = some (p)) (l0 : hp_a l 0 94) (l1 : hp_i l 1 (k)) (l2 : hp_i l 2 (g)) (l3 : hp_i l 3 (q)) (l4 : hp_i l 4 (q + 1200)) (r0 : ∀ (h' : am_H) (y0 : Int32), y0.toInt = 0 → ly_hy m_tt ly_TH h' → ly_fr cst [19990, 19991] h h' → h.length ≤ h'.length → ly_hv cst h' 19990 0 = some 1 → ly_hv cst h' 19991 0 = some (p) → Φ (some (.int y0), h', 0, 0)) : hp_F cst strs Φ D M 130 l [] h := by
  refine hq_arc c hM yqK0_k hD [k, g, q, p, s] rfl hy (hp_Bc (z := k) rfl b0 t0 (hp_Bc (z := g) rfl b1 t1 (hp_Bc (z := q) rfl b2 t2 (hp_Bc (z := p) rfl b3 t3 (hp_Bc (z := s) rfl b4 t4 hp_Bn))))) hp_Fn (hp_Kc (zi := (0 + 0)) (zv := (0 + (1 * s + 0))) k0 rfl rfl (by omega) (by omega) (hp_Kc (zi := (0 + 0)) (zv := (0 + (1 * p + 0))) k1 rfl rfl (by omega) (by omega) hp_Kn)) (hp_La l0 (hp_Li (z := (0 + (1 * k + 0))) l1 rfl (by omega) (hp_Li (z := (0 + (1 * g + 0))) l2 rfl (by omega) (hp_Li (z := (0 + (1 * q + 0))) l3 rfl (by omega) (hp_Li (z := (1200 + (1 * q + 0))) l4 rfl (by omega) hp_Ln))))) trivial ?_ ?_
  · intro p hp ys l' st' h' hys a1 a2 a3 gZ gL gS
    cases hp
  · intro p hp ys v h' hys a1 a2 a3 gZ gS
    rcases List.mem_cons.mp hp with rfl | hp
    · obtain rfl := hp_y0 hys
      cases v with
      | none => cases gS
      | some w =>
        obtain ⟨y0, t0, s0, q0, -⟩ := hp_gSi (z := (0 + 0)) gS rfl
        cases s0
        exact r0 h' y0 (by omega) a1 a2 a3 (hp_gK (zi := (0 + 0)) (zv := (1 + 0)) gZ.2.2.2 (List.mem_of_getElem? (i := 0) rfl) rfl rfl (by omega) (by omega)) (hp_gK (zi := (0 + 0)) (zv := (0 + (1 * p + 0))) gZ.2.2.2 (List.mem_of_getElem? (i := 1) rfl) rfl rfl (by omega) (by omega))
    cases hp
theorem yqK1_k : hq_chk [305] 304 130 5 [(0, 0, 16), (1, 0, 6), (2, 0, 39), (3, 0, 1200), (4, 2, 8)] [] [(0, .inr (.inr (.inl (some 94)))), (1, .inl (0, [(0, 1)])), (2, .inl (0, [(1, 1)])), (3, .inl (0, [(2, 1)])), (4, .inl (1200, [(2, 1)]))] [] [(19971, (0, []), (0, [(4, 1)])), (19973, (0, []), (0, [(3, 1)]))] [19990, 19991] 8 [] [([], 5, [(0, 0, 16), (1, 0, 6), (2, 0, 39), (3, 0, 1200), (4, 2, 8)], [], [], [.inl (0, [])], [(19990, (0, []), (1, [])), (19991, (0, []), (0, [(3, 1)]))])] = true := by decide +kernel
theorem yqK1 {cst : am_K} {strs : List Nat} {Φ : am_Q → Prop} {D : Nat} {M : am_M} {h : am_H} {l : am_L} (c : hp_C cst strs D) (hM : m_P[304]? = some M) (hD : (8 : Int) ≤ (D : Int) + 1) (hy : ly_hy m_tt ly_TH h) (k g q p s : Int) (b0 : 0 ≤ k) (t0 : k ≤ 16) (b1 : 0 ≤ g) (t1 : g ≤ 6) (b2 : 0 ≤ q) (t2 : q ≤ 39) (b3 : 0 ≤ p) (t3 : p ≤ 1200) (b4 : 2 ≤ s) (t4 : s ≤ 8) (k0 : ly_hv cst h 19971 0 = some (s)) (k1 : ly_hv cst h 19973 0 = some (p)) (l0 : hp_a l 0 94) (l1 : hp_i l 1 (k)) (l2 : hp_i l 2 (g)) (l3 : hp_i l 3 (q)) (l4 : hp_i l 4 (q + 1200)) (r0 : ∀ (h' : am_H) (y0 : Int32), y0.toInt = 0 → ly_hy m_tt ly_TH h' → ly_fr cst [19990, 19991] h h' → h.length ≤ h'.length → ly_hv cst h' 19990 0 = some 1 → ly_hv cst h' 19991 0 = some (p) → Φ (some (.int y0), h', 0, 0)) : hp_F cst strs Φ D M 130 l [] h := by
  refine hq_arc c hM yqK1_k hD [k, g, q, p, s] rfl hy (hp_Bc (z := k) rfl b0 t0 (hp_Bc (z := g) rfl b1 t1 (hp_Bc (z := q) rfl b2 t2 (hp_Bc (z := p) rfl b3 t3 (hp_Bc (z := s) rfl b4 t4 hp_Bn))))) hp_Fn (hp_Kc (zi := (0 + 0)) (zv := (0 + (1 * s + 0))) k0 rfl rfl (by omega) (by omega) (hp_Kc (zi := (0 + 0)) (zv := (0 + (1 * p + 0))) k1 rfl rfl (by omega) (by omega) hp_Kn)) (hp_La l0 (hp_Li (z := (0 + (1 * k + 0))) l1 rfl (by omega) (hp_Li (z := (0 + (1 * g + 0))) l2 rfl (by omega) (hp_Li (z := (0 + (1 * q + 0))) l3 rfl (by omega) (hp_Li (z := (1200 + (1 * q + 0))) l4 rfl (by omega) hp_Ln))))) trivial ?_ ?_
  · intro p hp ys l' st' h' hys a1 a2 a3 gZ gL gS
    cases hp
  · intro p hp ys v h' hys a1 a2 a3 gZ gS
    rcases List.mem_cons.mp hp with rfl | hp
    · obtain rfl := hp_y0 hys
      cases v with
      | none => cases gS
      | some w =>
        obtain ⟨y0, t0, s0, q0, -⟩ := hp_gSi (z := (0 + 0)) gS rfl
        cases s0
        exact r0 h' y0 (by omega) a1 a2 a3 (hp_gK (zi := (0 + 0)) (zv := (1 + 0)) gZ.2.2.2 (List.mem_of_getElem? (i := 0) rfl) rfl rfl (by omega) (by omega)) (hp_gK (zi := (0 + 0)) (zv := (0 + (1 * p + 0))) gZ.2.2.2 (List.mem_of_getElem? (i := 1) rfl) rfl rfl (by omega) (by omega))
    cases hp
theorem yqK2_k : hp_chk 304 130 4 [(0, 0, 16), (1, 0, 6), (2, 0, 39), (3, 0, 1152921504606846976)] [] [(0, .inr (.inr (.inl (some 94)))), (1, .inl (0, [(0, 1)])), (2, .inl (0, [(1, 1)])), (3, .inl (0, [(2, 1)])), (4, .inl (1200, [(2, 1)]))] [] [(19971, (0, []), (1, [])), (19976, (0, []), (0, [(3, 1)]))] [] 8 [(157, ([], 4, [(0, 0, 16), (1, 0, 6), (2, 0, 39), (3, 0, 1152921504606846976)], [], [(0, .inr (.inr (.inl (some 94)))), (1, .inl (0, [(0, 1)])), (2, .inl (0, [(1, 1)])), (3, .inl (0, [(2, 1)])), (4, .inl (1200, [(2, 1)]))], [.inl (0, [(2, 1)]), .inr (.inl (0, [(3, 1)])), .inl (0, [(1, 1)]), .inr (.inr (.inl (some 94)))], []))] [] = true := by decide +kernel
theorem yqK2 {cst : am_K} {strs : List Nat} {Φ : am_Q → Prop} {D : Nat} {M : am_M} {h : am_H} {l : am_L} (c : hp_C cst strs D) (hM : m_P[304]? = some M) (hD : (8 : Int) ≤ (D : Int) + 1) (hy : ly_hy m_tt ly_TH h) (k g q v : Int) (b0 : 0 ≤ k) (t0 : k ≤ 16) (b1 : 0 ≤ g) (t1 : g ≤ 6) (b2 : 0 ≤ q) (t2 : q ≤ 39) (b3 : 0 ≤ v) (t3 : v ≤ 1152921504606846976) (k0 : ly_hv cst h 19971 0 = some 1) (k1 : ly_hv cst h 19976 0 = some (v)) (l0 : hp_a l 0 94) (l1 : hp_i l 1 (k)) (l2 : hp_i l 2 (g)) (l3 : hp_i l 3 (q)) (l4 : hp_i l 4 (q + 1200)) (e0 : ∀ (l' : am_L) (h' : am_H) (y0 : Int32) (y1 : Int64) (y2 : Int32), y0.toInt = (q) → y1.toInt = (v) → y2.toInt = (g) → ly_hy m_tt ly_TH h' → ly_fr cst [] h h' → h.length ≤ h'.length → hp_a l' 0 94 → hp_i l' 1 (k) → hp_i l' 2 (g) → hp_i l' 3 (q) → hp_i l' 4 (q + 1200) → hp_F cst strs Φ D M 157 l' [.int y0, .long y1, .int y2, .ref 94] h') : hp_F cst strs Φ D M 130 l [] h := by
  refine hp_arc c hM yqK2_k hD [k, g, q, v] rfl hy (hp_Bc (z := k) rfl b0 t0 (hp_Bc (z := g) rfl b1 t1 (hp_Bc (z := q) rfl b2 t2 (hp_Bc (z := v) rfl b3 t3 hp_Bn)))) hp_Fn (hp_Kc (zi := (0 + 0)) (zv := (1 + 0)) k0 rfl rfl (by omega) (by omega) (hp_Kc (zi := (0 + 0)) (zv := (0 + (1 * v + 0))) k1 rfl rfl (by omega) (by omega) hp_Kn)) (hp_La l0 (hp_Li (z := (0 + (1 * k + 0))) l1 rfl (by omega) (hp_Li (z := (0 + (1 * g + 0))) l2 rfl (by omega) (hp_Li (z := (0 + (1 * q + 0))) l3 rfl (by omega) (hp_Li (z := (1200 + (1 * q + 0))) l4 rfl (by omega) hp_Ln))))) trivial ?_ ?_
  · intro p hp ys l' st' h' hys a1 a2 a3 gZ gL gS
    rcases List.mem_cons.mp hp with rfl | hp
    · obtain rfl := hp_y0 hys
      obtain ⟨y0, t0, rfl, q0, g0⟩ := hp_gSi (z := (0 + (1 * q + 0))) gS rfl
      obtain ⟨y1, t1, rfl, q1, g1⟩ := hp_gSj (z := (0 + (1 * v + 0))) g0 rfl
      obtain ⟨y2, t2, rfl, q2, g2⟩ := hp_gSi (z := (0 + (1 * g + 0))) g1 rfl
      obtain ⟨t3, rfl, g3⟩ := hp_gSa g2 (by decide)
      cases hp_gSn g3
      exact e0 l' h' y0 y1 y2 (by omega) (by omega) (by omega) a1 a2 a3 (hp_gLa gL (List.mem_of_getElem? (i := 0) rfl) (by decide)) (hp_gLi (z := (0 + (1 * k + 0))) gL (List.mem_of_getElem? (i := 1) rfl) rfl (by omega)) (hp_gLi (z := (0 + (1 * g + 0))) gL (List.mem_of_getElem? (i := 2) rfl) rfl (by omega)) (hp_gLi (z := (0 + (1 * q + 0))) gL (List.mem_of_getElem? (i := 3) rfl) rfl (by omega)) (hp_gLi (z := (1200 + (1 * q + 0))) gL (List.mem_of_getElem? (i := 4) rfl) rfl (by omega))
    cases hp
  · intro p hp ys v h' hys a1 a2 a3 gZ gS
    cases hp
theorem yqL_k : hp_chk 304 130 3 [(0, 0, 16), (1, 7, 14), (2, 0, 39)] [] [(0, .inr (.inr (.inl (some 94)))), (1, .inl (0, [(0, 1)])), (2, .inl (0, [(1, 1)])), (3, .inl (0, [(2, 1)])), (4, .inl (1200, [(2, 1)]))] [] [] [] 8 [(184, ([], 3, [(0, 0, 16), (1, 7, 14), (2, 0, 39)], [], [(0, .inr (.inr (.inl (some 94)))), (1, .inl (0, [(0, 1)])), (2, .inl (0, [(1, 1)])), (3, .inl (0, [(2, 1)])), (4, .inl (1200, [(2, 1)]))], [], []))] [] = true := by decide +kernel
theorem yqL {cst : am_K} {strs : List Nat} {Φ : am_Q → Prop} {D : Nat} {M : am_M} {h : am_H} {l : am_L} (c : hp_C cst strs D) (hM : m_P[304]? = some M) (hD : (8 : Int) ≤ (D : Int) + 1) (hy : ly_hy m_tt ly_TH h) (k g q : Int) (b0 : 0 ≤ k) (t0 : k ≤ 16) (b1 : 7 ≤ g) (t1 : g ≤ 14) (b2 : 0 ≤ q) (t2 : q ≤ 39) (l0 : hp_a l 0 94) (l1 : hp_i l 1 (k)) (l2 : hp_i l 2 (g)) (l3 : hp_i l 3 (q)) (l4 : hp_i l 4 (q + 1200)) (e0 : ∀ (l' : am_L) (h' : am_H), ly_hy m_tt ly_TH h' → ly_fr cst [] h h' → h.length ≤ h'.length → hp_a l' 0 94 → hp_i l' 1 (k) → hp_i l' 2 (g) → hp_i l' 3 (q) → hp_i l' 4 (q + 1200) → hp_F cst strs Φ D M 184 l' [] h') : hp_F cst strs Φ D M 130 l [] h := by
  refine hp_arc c hM yqL_k hD [k, g, q] rfl hy (hp_Bc (z := k) rfl b0 t0 (hp_Bc (z := g) rfl b1 t1 (hp_Bc (z := q) rfl b2 t2 hp_Bn))) hp_Fn hp_Kn (hp_La l0 (hp_Li (z := (0 + (1 * k + 0))) l1 rfl (by omega) (hp_Li (z := (0 + (1 * g + 0))) l2 rfl (by omega) (hp_Li (z := (0 + (1 * q + 0))) l3 rfl (by omega) (hp_Li (z := (1200 + (1 * q + 0))) l4 rfl (by omega) hp_Ln))))) trivial ?_ ?_
  · intro p hp ys l' st' h' hys a1 a2 a3 gZ gL gS
    rcases List.mem_cons.mp hp with rfl | hp
    · obtain rfl := hp_y0 hys
      cases hp_gSn gS
      exact e0 l' h' a1 a2 a3 (hp_gLa gL (List.mem_of_getElem? (i := 0) rfl) (by decide)) (hp_gLi (z := (0 + (1 * k + 0))) gL (List.mem_of_getElem? (i := 1) rfl) rfl (by omega)) (hp_gLi (z := (0 + (1 * g + 0))) gL (List.mem_of_getElem? (i := 2) rfl) rfl (by omega)) (hp_gLi (z := (0 + (1 * q + 0))) gL (List.mem_of_getElem? (i := 3) rfl) rfl (by omega)) (hp_gLi (z := (1200 + (1 * q + 0))) gL (List.mem_of_getElem? (i := 4) rfl) rfl (by omega))
    cases hp
  · intro p hp ys v h' hys a1 a2 a3 gZ gS
    cases hp
theorem yqM1_k : hq_chk [305] 304 160 4 [(0, 0, 16), (1, 0, 14), (2, 0, 39), (3, 0, 1200)] [] [(0, .inr (.inr (.inl (some 94)))), (1, .inl (0, [(0, 1)])), (2, .inl (0, [(1, 1)])), (3, .inl (0, [(2, 1)])), (4, .inl (1200, [(2, 1)]))] [.inl (1, [])] [(19973, (0, []), (0, [(3, 1)]))] [19990, 19991] 8 [] [([], 4, [(0, 0, 16), (1, 0, 14), (2, 0, 39), (3, 0, 1200)], [], [], [.inl (0, [])], [(19990, (0, []), (3, [])), (19991, (0, []), (0, [(3, 1)]))])] = true := by decide +kernel
theorem yqM1 {cst : am_K} {strs : List Nat} {Φ : am_Q → Prop} {D : Nat} {M : am_M} {h : am_H} {l : am_L} (c : hp_C cst strs D) (hM : m_P[304]? = some M) (hD : (8 : Int) ≤ (D : Int) + 1) (hy : ly_hy m_tt ly_TH h) (k g q p : Int) (x0 : Int32) (hx0 : x0.toInt = 1) (b0 : 0 ≤ k) (t0 : k ≤ 16) (b1 : 0 ≤ g) (t1 : g ≤ 14) (b2 : 0 ≤ q) (t2 : q ≤ 39) (b3 : 0 ≤ p) (t3 : p ≤ 1200) (k0 : ly_hv cst h 19973 0 = some (p)) (l0 : hp_a l 0 94) (l1 : hp_i l 1 (k)) (l2 : hp_i l 2 (g)) (l3 : hp_i l 3 (q)) (l4 : hp_i l 4 (q + 1200)) (r0 : ∀ (h' : am_H) (y0 : Int32), y0.toInt = 0 → ly_hy m_tt ly_TH h' → ly_fr cst [19990, 19991] h h' → h.length ≤ h'.length → ly_hv cst h' 19990 0 = some 3 → ly_hv cst h' 19991 0 = some (p) → Φ (some (.int y0), h', 0, 0)) : hp_F cst strs Φ D M 160 l [.int x0] h := by
  refine hq_arc c hM yqM1_k hD [k, g, q, p] rfl hy (hp_Bc (z := k) rfl b0 t0 (hp_Bc (z := g) rfl b1 t1 (hp_Bc (z := q) rfl b2 t2 (hp_Bc (z := p) rfl b3 t3 hp_Bn)))) hp_Fn (hp_Kc (zi := (0 + 0)) (zv := (0 + (1 * p + 0))) k0 rfl rfl (by omega) (by omega) hp_Kn) (hp_La l0 (hp_Li (z := (0 + (1 * k + 0))) l1 rfl (by omega) (hp_Li (z := (0 + (1 * g + 0))) l2 rfl (by omega) (hp_Li (z := (0 + (1 * q + 0))) l3 rfl (by omega) (hp_Li (z := (1200 + (1 * q + 0))) l4 rfl (by omega) hp_Ln))))) (hp_Si (z := (1 + 0)) rfl (by omega) trivial) ?_ ?_
  · intro p hp ys l' st' h' hys a1 a2 a3 gZ gL gS
    cases hp
  · intro p hp ys v h' hys a1 a2 a3 gZ gS
    rcases List.mem_cons.mp hp with rfl | hp
    · obtain rfl := hp_y0 hys
      cases v with
      | none => cases gS
      | some w =>
        obtain ⟨y0, t0, s0, q0, -⟩ := hp_gSi (z := (0 + 0)) gS rfl
        cases s0
        exact r0 h' y0 (by omega) a1 a2 a3 (hp_gK (zi := (0 + 0)) (zv := (3 + 0)) gZ.2.2.2 (List.mem_of_getElem? (i := 0) rfl) rfl rfl (by omega) (by omega)) (hp_gK (zi := (0 + 0)) (zv := (0 + (1 * p + 0))) gZ.2.2.2 (List.mem_of_getElem? (i := 1) rfl) rfl rfl (by omega) (by omega))
    cases hp
theorem yqM0_k : hp_chk 304 160 4 [(0, 0, 16), (1, 0, 14), (2, 0, 39), (3, 0, 1152921504606846976)] [] [(0, .inr (.inr (.inl (some 94)))), (1, .inl (0, [(0, 1)])), (2, .inl (0, [(1, 1)])), (3, .inl (0, [(2, 1)])), (4, .inl (1200, [(2, 1)]))] [.inl (0, [])] [(19976, (0, []), (0, [(3, 1)]))] [] 8 [(179, ([], 4, [(0, 0, 16), (1, 0, 14), (2, 0, 39), (3, 0, 1152921504606846976)], [], [(0, .inr (.inr (.inl (some 94)))), (1, .inl (0, [(0, 1)])), (2, .inl (0, [(1, 1)])), (3, .inl (0, [(2, 1)])), (4, .inl (1200, [(2, 1)]))], [.inr (.inl (0, [(3, 1)])), .inl (1200, [(2, 1)]), .inr (.inr (.inl (some 109)))], []))] [] = true := by decide +kernel
theorem yqM0 {cst : am_K} {strs : List Nat} {Φ : am_Q → Prop} {D : Nat} {M : am_M} {h : am_H} {l : am_L} (c : hp_C cst strs D) (hM : m_P[304]? = some M) (hD : (8 : Int) ≤ (D : Int) + 1) (hy : ly_hy m_tt ly_TH h) (k g q v : Int) (x0 : Int32) (hx0 : x0.toInt = 0) (b0 : 0 ≤ k) (t0 : k ≤ 16) (b1 : 0 ≤ g) (t1 : g ≤ 14) (b2 : 0 ≤ q) (t2 : q ≤ 39) (b3 : 0 ≤ v) (t3 : v ≤ 1152921504606846976) (k0 : ly_hv cst h 19976 0 = some (v)) (l0 : hp_a l 0 94) (l1 : hp_i l 1 (k)) (l2 : hp_i l 2 (g)) (l3 : hp_i l 3 (q)) (l4 : hp_i l 4 (q + 1200)) (e0 : ∀ (l' : am_L) (h' : am_H) (y0 : Int64) (y1 : Int32), y0.toInt = (v) → y1.toInt = (q + 1200) → ly_hy m_tt ly_TH h' → ly_fr cst [] h h' → h.length ≤ h'.length → hp_a l' 0 94 → hp_i l' 1 (k) → hp_i l' 2 (g) → hp_i l' 3 (q) → hp_i l' 4 (q + 1200) → hp_F cst strs Φ D M 179 l' [.long y0, .int y1, .ref 109] h') : hp_F cst strs Φ D M 160 l [.int x0] h := by
  refine hp_arc c hM yqM0_k hD [k, g, q, v] rfl hy (hp_Bc (z := k) rfl b0 t0 (hp_Bc (z := g) rfl b1 t1 (hp_Bc (z := q) rfl b2 t2 (hp_Bc (z := v) rfl b3 t3 hp_Bn)))) hp_Fn (hp_Kc (zi := (0 + 0)) (zv := (0 + (1 * v + 0))) k0 rfl rfl (by omega) (by omega) hp_Kn) (hp_La l0 (hp_Li (z := (0 + (1 * k + 0))) l1 rfl (by omega) (hp_Li (z := (0 + (1 * g + 0))) l2 rfl (by omega) (hp_Li (z := (0 + (1 * q + 0))) l3 rfl (by omega) (hp_Li (z := (1200 + (1 * q + 0))) l4 rfl (by omega) hp_Ln))))) (hp_Si (z := (0 + 0)) rfl (by omega) trivial) ?_ ?_
  · intro p hp ys l' st' h' hys a1 a2 a3 gZ gL gS
    rcases List.mem_cons.mp hp with rfl | hp
    · obtain rfl := hp_y0 hys
      obtain ⟨y0, t0, rfl, q0, g0⟩ := hp_gSj (z := (0 + (1 * v + 0))) gS rfl
      obtain ⟨y1, t1, rfl, q1, g1⟩ := hp_gSi (z := (1200 + (1 * q + 0))) g0 rfl
      obtain ⟨t2, rfl, g2⟩ := hp_gSa g1 (by decide)
      cases hp_gSn g2
      exact e0 l' h' y0 y1 (by omega) (by omega) a1 a2 a3 (hp_gLa gL (List.mem_of_getElem? (i := 0) rfl) (by decide)) (hp_gLi (z := (0 + (1 * k + 0))) gL (List.mem_of_getElem? (i := 1) rfl) rfl (by omega)) (hp_gLi (z := (0 + (1 * g + 0))) gL (List.mem_of_getElem? (i := 2) rfl) rfl (by omega)) (hp_gLi (z := (0 + (1 * q + 0))) gL (List.mem_of_getElem? (i := 3) rfl) rfl (by omega)) (hp_gLi (z := (1200 + (1 * q + 0))) gL (List.mem_of_getElem? (i := 4) rfl) rfl (by omega))
    cases hp
  · intro p hp ys v h' hys a1 a2 a3 gZ gS
    cases hp
theorem yqN_k : hp_chk 304 180 3 [(0, 0, 16), (1, 0, 14), (2, 0, 39)] [] [(0, .inr (.inr (.inl (some 94)))), (1, .inl (0, [(0, 1)])), (2, .inl (0, [(1, 1)])), (3, .inl (0, [(2, 1)])), (4, .inl (1200, [(2, 1)]))] [] [] [] 8 [(181, ([], 3, [(0, 0, 16), (1, 0, 14), (2, 0, 39)], [], [(0, .inr (.inr (.inl (some 94)))), (1, .inl (0, [(0, 1)])), (2, .inl (0, [(1, 1)])), (3, .inl (0, [(2, 1)])), (4, .inl (1200, [(2, 1)]))], [.inr (.inr (.inl (some 94)))], []))] [] = true := by decide +kernel
theorem yqN {cst : am_K} {strs : List Nat} {Φ : am_Q → Prop} {D : Nat} {M : am_M} {h : am_H} {l : am_L} (c : hp_C cst strs D) (hM : m_P[304]? = some M) (hD : (8 : Int) ≤ (D : Int) + 1) (hy : ly_hy m_tt ly_TH h) (k g q : Int) (b0 : 0 ≤ k) (t0 : k ≤ 16) (b1 : 0 ≤ g) (t1 : g ≤ 14) (b2 : 0 ≤ q) (t2 : q ≤ 39) (l0 : hp_a l 0 94) (l1 : hp_i l 1 (k)) (l2 : hp_i l 2 (g)) (l3 : hp_i l 3 (q)) (l4 : hp_i l 4 (q + 1200)) (e0 : ∀ (l' : am_L) (h' : am_H), ly_hy m_tt ly_TH h' → ly_fr cst [] h h' → h.length ≤ h'.length → hp_a l' 0 94 → hp_i l' 1 (k) → hp_i l' 2 (g) → hp_i l' 3 (q) → hp_i l' 4 (q + 1200) → hp_F cst strs Φ D M 181 l' [.ref 94] h') : hp_F cst strs Φ D M 180 l [] h := by
  refine hp_arc c hM yqN_k hD [k, g, q] rfl hy (hp_Bc (z := k) rfl b0 t0 (hp_Bc (z := g) rfl b1 t1 (hp_Bc (z := q) rfl b2 t2 hp_Bn))) hp_Fn hp_Kn (hp_La l0 (hp_Li (z := (0 + (1 * k + 0))) l1 rfl (by omega) (hp_Li (z := (0 + (1 * g + 0))) l2 rfl (by omega) (hp_Li (z := (0 + (1 * q + 0))) l3 rfl (by omega) (hp_Li (z := (1200 + (1 * q + 0))) l4 rfl (by omega) hp_Ln))))) trivial ?_ ?_
  · intro p hp ys l' st' h' hys a1 a2 a3 gZ gL gS
    rcases List.mem_cons.mp hp with rfl | hp
    · obtain rfl := hp_y0 hys
      obtain ⟨t0, rfl, g0⟩ := hp_gSa gS (by decide)
      cases hp_gSn g0
      exact e0 l' h' a1 a2 a3 (hp_gLa gL (List.mem_of_getElem? (i := 0) rfl) (by decide)) (hp_gLi (z := (0 + (1 * k + 0))) gL (List.mem_of_getElem? (i := 1) rfl) rfl (by omega)) (hp_gLi (z := (0 + (1 * g + 0))) gL (List.mem_of_getElem? (i := 2) rfl) rfl (by omega)) (hp_gLi (z := (0 + (1 * q + 0))) gL (List.mem_of_getElem? (i := 3) rfl) rfl (by omega)) (hp_gLi (z := (1200 + (1 * q + 0))) gL (List.mem_of_getElem? (i := 4) rfl) rfl (by omega))
    cases hp
  · intro p hp ys v h' hys a1 a2 a3 gZ gS
    cases hp
theorem yqO0_k : hp_chk 304 184 2 [(0, 0, 14), (1, 0, 39)] [] [(0, .inr (.inr (.inl (some 94)))), (1, .inl (0, [])), (2, .inl (0, [(0, 1)])), (3, .inl (0, [(1, 1)])), (4, .inl (1200, [(1, 1)]))] [] [] [] 8 [(194, ([], 2, [(0, 0, 14), (1, 0, 39)], [], [(0, .inr (.inr (.inl (some 94)))), (1, .inl (0, [])), (2, .inl (0, [(0, 1)])), (3, .inl (0, [(1, 1)])), (4, .inl (1200, [(1, 1)])), (5, .inl (1, []))], [.inl (1200, [(1, 1)]), .inr (.inr (.inl (some 94)))], []))] [] = true := by decide +kernel
theorem yqO0 {cst : am_K} {strs : List Nat} {Φ : am_Q → Prop} {D : Nat} {M : am_M} {h : am_H} {l : am_L} (c : hp_C cst strs D) (hM : m_P[304]? = some M) (hD : (8 : Int) ≤ (D : Int) + 1) (hy : ly_hy m_tt ly_TH h) (g q : Int) (b0 : 0 ≤ g) (t0 : g ≤ 14) (b1 : 0 ≤ q) (t1 : q ≤ 39) (l0 : hp_a l 0 94) (l1 : hp_i l 1 0) (l2 : hp_i l 2 (g)) (l3 : hp_i l 3 (q)) (l4 : hp_i l 4 (q + 1200)) (e0 : ∀ (l' : am_L) (h' : am_H) (y0 : Int32), y0.toInt = (q + 1200) → ly_hy m_tt ly_TH h' → ly_fr cst [] h h' → h.length ≤ h'.length → hp_a l' 0 94 → hp_i l' 1 0 → hp_i l' 2 (g) → hp_i l' 3 (q) → hp_i l' 4 (q + 1200) → hp_i l' 5 1 → hp_F cst strs Φ D M 194 l' [.int y0, .ref 94] h') : hp_F cst strs Φ D M 184 l [] h := by
  refine hp_arc c hM yqO0_k hD [g, q] rfl hy (hp_Bc (z := g) rfl b0 t0 (hp_Bc (z := q) rfl b1 t1 hp_Bn)) hp_Fn hp_Kn (hp_La l0 (hp_Li (z := (0 + 0)) l1 rfl (by omega) (hp_Li (z := (0 + (1 * g + 0))) l2 rfl (by omega) (hp_Li (z := (0 + (1 * q + 0))) l3 rfl (by omega) (hp_Li (z := (1200 + (1 * q + 0))) l4 rfl (by omega) hp_Ln))))) trivial ?_ ?_
  · intro p hp ys l' st' h' hys a1 a2 a3 gZ gL gS
    rcases List.mem_cons.mp hp with rfl | hp
    · obtain rfl := hp_y0 hys
      obtain ⟨y0, t0, rfl, q0, g0⟩ := hp_gSi (z := (1200 + (1 * q + 0))) gS rfl
      obtain ⟨t1, rfl, g1⟩ := hp_gSa g0 (by decide)
      cases hp_gSn g1
      exact e0 l' h' y0 (by omega) a1 a2 a3 (hp_gLa gL (List.mem_of_getElem? (i := 0) rfl) (by decide)) (hp_gLi (z := (0 + 0)) gL (List.mem_of_getElem? (i := 1) rfl) rfl (by omega)) (hp_gLi (z := (0 + (1 * g + 0))) gL (List.mem_of_getElem? (i := 2) rfl) rfl (by omega)) (hp_gLi (z := (0 + (1 * q + 0))) gL (List.mem_of_getElem? (i := 3) rfl) rfl (by omega)) (hp_gLi (z := (1200 + (1 * q + 0))) gL (List.mem_of_getElem? (i := 4) rfl) rfl (by omega)) (hp_gLi (z := (1 + 0)) gL (List.mem_of_getElem? (i := 5) rfl) rfl (by omega))
    cases hp
  · intro p hp ys v h' hys a1 a2 a3 gZ gS
    cases hp
theorem yqO1_k : hp_chk 304 184 2 [(0, 0, 14), (1, 0, 39)] [] [(0, .inr (.inr (.inl (some 94)))), (1, .inl (1, [])), (2, .inl (0, [(0, 1)])), (3, .inl (0, [(1, 1)])), (4, .inl (1200, [(1, 1)]))] [] [] [] 8 [(210, ([], 2, [(0, 0, 14), (1, 0, 39)], [], [(0, .inr (.inr (.inl (some 94)))), (1, .inl (1, [])), (2, .inl (0, [(0, 1)])), (3, .inl (0, [(1, 1)])), (4, .inl (1200, [(1, 1)])), (5, .inl (1, []))], [.inl (1200, [(1, 1)]), .inr (.inr (.inl (some 94)))], []))] [] = true := by decide +kernel
theorem yqO1 {cst : am_K} {strs : List Nat} {Φ : am_Q → Prop} {D : Nat} {M : am_M} {h : am_H} {l : am_L} (c : hp_C cst strs D) (hM : m_P[304]? = some M) (hD : (8 : Int) ≤ (D : Int) + 1) (hy : ly_hy m_tt ly_TH h) (g q : Int) (b0 : 0 ≤ g) (t0 : g ≤ 14) (b1 : 0 ≤ q) (t1 : q ≤ 39) (l0 : hp_a l 0 94) (l1 : hp_i l 1 1) (l2 : hp_i l 2 (g)) (l3 : hp_i l 3 (q)) (l4 : hp_i l 4 (q + 1200)) (e0 : ∀ (l' : am_L) (h' : am_H) (y0 : Int32), y0.toInt = (q + 1200) → ly_hy m_tt ly_TH h' → ly_fr cst [] h h' → h.length ≤ h'.length → hp_a l' 0 94 → hp_i l' 1 1 → hp_i l' 2 (g) → hp_i l' 3 (q) → hp_i l' 4 (q + 1200) → hp_i l' 5 1 → hp_F cst strs Φ D M 210 l' [.int y0, .ref 94] h') : hp_F cst strs Φ D M 184 l [] h := by
  refine hp_arc c hM yqO1_k hD [g, q] rfl hy (hp_Bc (z := g) rfl b0 t0 (hp_Bc (z := q) rfl b1 t1 hp_Bn)) hp_Fn hp_Kn (hp_La l0 (hp_Li (z := (1 + 0)) l1 rfl (by omega) (hp_Li (z := (0 + (1 * g + 0))) l2 rfl (by omega) (hp_Li (z := (0 + (1 * q + 0))) l3 rfl (by omega) (hp_Li (z := (1200 + (1 * q + 0))) l4 rfl (by omega) hp_Ln))))) trivial ?_ ?_
  · intro p hp ys l' st' h' hys a1 a2 a3 gZ gL gS
    rcases List.mem_cons.mp hp with rfl | hp
    · obtain rfl := hp_y0 hys
      obtain ⟨y0, t0, rfl, q0, g0⟩ := hp_gSi (z := (1200 + (1 * q + 0))) gS rfl
      obtain ⟨t1, rfl, g1⟩ := hp_gSa g0 (by decide)
      cases hp_gSn g1
      exact e0 l' h' y0 (by omega) a1 a2 a3 (hp_gLa gL (List.mem_of_getElem? (i := 0) rfl) (by decide)) (hp_gLi (z := (1 + 0)) gL (List.mem_of_getElem? (i := 1) rfl) rfl (by omega)) (hp_gLi (z := (0 + (1 * g + 0))) gL (List.mem_of_getElem? (i := 2) rfl) rfl (by omega)) (hp_gLi (z := (0 + (1 * q + 0))) gL (List.mem_of_getElem? (i := 3) rfl) rfl (by omega)) (hp_gLi (z := (1200 + (1 * q + 0))) gL (List.mem_of_getElem? (i := 4) rfl) rfl (by omega)) (hp_gLi (z := (1 + 0)) gL (List.mem_of_getElem? (i := 5) rfl) rfl (by omega))
    cases hp
  · intro p hp ys v h' hys a1 a2 a3 gZ gS
    cases hp
theorem yqO3_k : hp_chk 304 184 2 [(0, 0, 14), (1, 0, 39)] [] [(0, .inr (.inr (.inl (some 94)))), (1, .inl (3, [])), (2, .inl (0, [(0, 1)])), (3, .inl (0, [(1, 1)])), (4, .inl (1200, [(1, 1)]))] [] [] [] 8 [(230, ([], 2, [(0, 0, 14), (1, 0, 39)], [], [(0, .inr (.inr (.inl (some 94)))), (1, .inl (3, [])), (2, .inl (0, [(0, 1)])), (3, .inl (0, [(1, 1)])), (4, .inl (1200, [(1, 1)])), (5, .inl (1, []))], [.inl (9999, []), .inl (0, []), .inl (1200, [(1, 1)]), .inr (.inr (.inl (some 94)))], []))] [] = true := by decide +kernel
theorem yqO3 {cst : am_K} {strs : List Nat} {Φ : am_Q → Prop} {D : Nat} {M : am_M} {h : am_H} {l : am_L} (c : hp_C cst strs D) (hM : m_P[304]? = some M) (hD : (8 : Int) ≤ (D : Int) + 1) (hy : ly_hy m_tt ly_TH h) (g q : Int) (b0 : 0 ≤ g) (t0 : g ≤ 14) (b1 : 0 ≤ q) (t1 : q ≤ 39) (l0 : hp_a l 0 94) (l1 : hp_i l 1 3) (l2 : hp_i l 2 (g)) (l3 : hp_i l 3 (q)) (l4 : hp_i l 4 (q + 1200)) (e0 : ∀ (l' : am_L) (h' : am_H) (y0 : Int32) (y1 : Int32) (y2 : Int32), y0.toInt = 9999 → y1.toInt = 0 → y2.toInt = (q + 1200) → ly_hy m_tt ly_TH h' → ly_fr cst [] h h' → h.length ≤ h'.length → hp_a l' 0 94 → hp_i l' 1 3 → hp_i l' 2 (g) → hp_i l' 3 (q) → hp_i l' 4 (q + 1200) → hp_i l' 5 1 → hp_F cst strs Φ D M 230 l' [.int y0, .int y1, .int y2, .ref 94] h') : hp_F cst strs Φ D M 184 l [] h := by
  refine hp_arc c hM yqO3_k hD [g, q] rfl hy (hp_Bc (z := g) rfl b0 t0 (hp_Bc (z := q) rfl b1 t1 hp_Bn)) hp_Fn hp_Kn (hp_La l0 (hp_Li (z := (3 + 0)) l1 rfl (by omega) (hp_Li (z := (0 + (1 * g + 0))) l2 rfl (by omega) (hp_Li (z := (0 + (1 * q + 0))) l3 rfl (by omega) (hp_Li (z := (1200 + (1 * q + 0))) l4 rfl (by omega) hp_Ln))))) trivial ?_ ?_
  · intro p hp ys l' st' h' hys a1 a2 a3 gZ gL gS
    rcases List.mem_cons.mp hp with rfl | hp
    · obtain rfl := hp_y0 hys
      obtain ⟨y0, t0, rfl, q0, g0⟩ := hp_gSi (z := (9999 + 0)) gS rfl
      obtain ⟨y1, t1, rfl, q1, g1⟩ := hp_gSi (z := (0 + 0)) g0 rfl
      obtain ⟨y2, t2, rfl, q2, g2⟩ := hp_gSi (z := (1200 + (1 * q + 0))) g1 rfl
      obtain ⟨t3, rfl, g3⟩ := hp_gSa g2 (by decide)
      cases hp_gSn g3
      exact e0 l' h' y0 y1 y2 (by omega) (by omega) (by omega) a1 a2 a3 (hp_gLa gL (List.mem_of_getElem? (i := 0) rfl) (by decide)) (hp_gLi (z := (3 + 0)) gL (List.mem_of_getElem? (i := 1) rfl) rfl (by omega)) (hp_gLi (z := (0 + (1 * g + 0))) gL (List.mem_of_getElem? (i := 2) rfl) rfl (by omega)) (hp_gLi (z := (0 + (1 * q + 0))) gL (List.mem_of_getElem? (i := 3) rfl) rfl (by omega)) (hp_gLi (z := (1200 + (1 * q + 0))) gL (List.mem_of_getElem? (i := 4) rfl) rfl (by omega)) (hp_gLi (z := (1 + 0)) gL (List.mem_of_getElem? (i := 5) rfl) rfl (by omega))
    cases hp
  · intro p hp ys v h' hys a1 a2 a3 gZ gS
    cases hp
theorem yqO16_k : hp_chk 304 184 2 [(0, 0, 14), (1, 0, 39)] [] [(0, .inr (.inr (.inl (some 94)))), (1, .inl (16, [])), (2, .inl (0, [(0, 1)])), (3, .inl (0, [(1, 1)])), (4, .inl (1200, [(1, 1)]))] [] [] [] 8 [(247, ([], 2, [(0, 0, 14), (1, 0, 39)], [], [(0, .inr (.inr (.inl (some 94)))), (1, .inl (16, [])), (2, .inl (0, [(0, 1)])), (3, .inl (0, [(1, 1)])), (4, .inl (1200, [(1, 1)])), (5, .inl (1, []))], [.inl (1200, [(1, 1)]), .inr (.inr (.inl (some 94)))], []))] [] = true := by decide +kernel
theorem yqO16 {cst : am_K} {strs : List Nat} {Φ : am_Q → Prop} {D : Nat} {M : am_M} {h : am_H} {l : am_L} (c : hp_C cst strs D) (hM : m_P[304]? = some M) (hD : (8 : Int) ≤ (D : Int) + 1) (hy : ly_hy m_tt ly_TH h) (g q : Int) (b0 : 0 ≤ g) (t0 : g ≤ 14) (b1 : 0 ≤ q) (t1 : q ≤ 39) (l0 : hp_a l 0 94) (l1 : hp_i l 1 16) (l2 : hp_i l 2 (g)) (l3 : hp_i l 3 (q)) (l4 : hp_i l 4 (q + 1200)) (e0 : ∀ (l' : am_L) (h' : am_H) (y0 : Int32), y0.toInt = (q + 1200) → ly_hy m_tt ly_TH h' → ly_fr cst [] h h' → h.length ≤ h'.length → hp_a l' 0 94 → hp_i l' 1 16 → hp_i l' 2 (g) → hp_i l' 3 (q) → hp_i l' 4 (q + 1200) → hp_i l' 5 1 → hp_F cst strs Φ D M 247 l' [.int y0, .ref 94] h') : hp_F cst strs Φ D M 184 l [] h := by
  refine hp_arc c hM yqO16_k hD [g, q] rfl hy (hp_Bc (z := g) rfl b0 t0 (hp_Bc (z := q) rfl b1 t1 hp_Bn)) hp_Fn hp_Kn (hp_La l0 (hp_Li (z := (16 + 0)) l1 rfl (by omega) (hp_Li (z := (0 + (1 * g + 0))) l2 rfl (by omega) (hp_Li (z := (0 + (1 * q + 0))) l3 rfl (by omega) (hp_Li (z := (1200 + (1 * q + 0))) l4 rfl (by omega) hp_Ln))))) trivial ?_ ?_
  · intro p hp ys l' st' h' hys a1 a2 a3 gZ gL gS
    rcases List.mem_cons.mp hp with rfl | hp
    · obtain rfl := hp_y0 hys
      obtain ⟨y0, t0, rfl, q0, g0⟩ := hp_gSi (z := (1200 + (1 * q + 0))) gS rfl
      obtain ⟨t1, rfl, g1⟩ := hp_gSa g0 (by decide)
      cases hp_gSn g1
      exact e0 l' h' y0 (by omega) a1 a2 a3 (hp_gLa gL (List.mem_of_getElem? (i := 0) rfl) (by decide)) (hp_gLi (z := (16 + 0)) gL (List.mem_of_getElem? (i := 1) rfl) rfl (by omega)) (hp_gLi (z := (0 + (1 * g + 0))) gL (List.mem_of_getElem? (i := 2) rfl) rfl (by omega)) (hp_gLi (z := (0 + (1 * q + 0))) gL (List.mem_of_getElem? (i := 3) rfl) rfl (by omega)) (hp_gLi (z := (1200 + (1 * q + 0))) gL (List.mem_of_getElem? (i := 4) rfl) rfl (by omega)) (hp_gLi (z := (1 + 0)) gL (List.mem_of_getElem? (i := 5) rfl) rfl (by omega))
    cases hp
  · intro p hp ys v h' hys a1 a2 a3 gZ gS
    cases hp
theorem yqP7_k : hp_chk 304 184 1 [(0, 0, 39)] [] [(0, .inr (.inr (.inl (some 94)))), (1, .inl (8, [])), (2, .inl (7, [])), (3, .inl (0, [(0, 1)])), (4, .inl (1200, [(0, 1)]))] [] [] [] 8 [(316, ([], 1, [(0, 0, 39)], [], [(0, .inr (.inr (.inl (some 94)))), (1, .inl (8, [])), (2, .inl (7, [])), (3, .inl (0, [(0, 1)])), (4, .inl (1200, [(0, 1)])), (5, .inl (1, []))], [.inl (12, []), .inl (1, []), .inl (1200, [(0, 1)]), .inr (.inr (.inl (some 94)))], []))] [] = true := by decide +kernel
theorem yqP7 {cst : am_K} {strs : List Nat} {Φ : am_Q → Prop} {D : Nat} {M : am_M} {h : am_H} {l : am_L} (c : hp_C cst strs D) (hM : m_P[304]? = some M) (hD : (8 : Int) ≤ (D : Int) + 1) (hy : ly_hy m_tt ly_TH h) (q : Int) (b0 : 0 ≤ q) (t0 : q ≤ 39) (l0 : hp_a l 0 94) (l1 : hp_i l 1 8) (l2 : hp_i l 2 7) (l3 : hp_i l 3 (q)) (l4 : hp_i l 4 (q + 1200)) (e0 : ∀ (l' : am_L) (h' : am_H) (y0 : Int32) (y1 : Int32) (y2 : Int32), y0.toInt = 12 → y1.toInt = 1 → y2.toInt = (q + 1200) → ly_hy m_tt ly_TH h' → ly_fr cst [] h h' → h.length ≤ h'.length → hp_a l' 0 94 → hp_i l' 1 8 → hp_i l' 2 7 → hp_i l' 3 (q) → hp_i l' 4 (q + 1200) → hp_i l' 5 1 → hp_F cst strs Φ D M 316 l' [.int y0, .int y1, .int y2, .ref 94] h') : hp_F cst strs Φ D M 184 l [] h := by
  refine hp_arc c hM yqP7_k hD [q] rfl hy (hp_Bc (z := q) rfl b0 t0 hp_Bn) hp_Fn hp_Kn (hp_La l0 (hp_Li (z := (8 + 0)) l1 rfl (by omega) (hp_Li (z := (7 + 0)) l2 rfl (by omega) (hp_Li (z := (0 + (1 * q + 0))) l3 rfl (by omega) (hp_Li (z := (1200 + (1 * q + 0))) l4 rfl (by omega) hp_Ln))))) trivial ?_ ?_
  · intro p hp ys l' st' h' hys a1 a2 a3 gZ gL gS
    rcases List.mem_cons.mp hp with rfl | hp
    · obtain rfl := hp_y0 hys
      obtain ⟨y0, t0, rfl, q0, g0⟩ := hp_gSi (z := (12 + 0)) gS rfl
      obtain ⟨y1, t1, rfl, q1, g1⟩ := hp_gSi (z := (1 + 0)) g0 rfl
      obtain ⟨y2, t2, rfl, q2, g2⟩ := hp_gSi (z := (1200 + (1 * q + 0))) g1 rfl
      obtain ⟨t3, rfl, g3⟩ := hp_gSa g2 (by decide)
      cases hp_gSn g3
      exact e0 l' h' y0 y1 y2 (by omega) (by omega) (by omega) a1 a2 a3 (hp_gLa gL (List.mem_of_getElem? (i := 0) rfl) (by decide)) (hp_gLi (z := (8 + 0)) gL (List.mem_of_getElem? (i := 1) rfl) rfl (by omega)) (hp_gLi (z := (7 + 0)) gL (List.mem_of_getElem? (i := 2) rfl) rfl (by omega)) (hp_gLi (z := (0 + (1 * q + 0))) gL (List.mem_of_getElem? (i := 3) rfl) rfl (by omega)) (hp_gLi (z := (1200 + (1 * q + 0))) gL (List.mem_of_getElem? (i := 4) rfl) rfl (by omega)) (hp_gLi (z := (1 + 0)) gL (List.mem_of_getElem? (i := 5) rfl) rfl (by omega))
    cases hp
  · intro p hp ys v h' hys a1 a2 a3 gZ gS
    cases hp
theorem yqP8_k : hp_chk 304 184 1 [(0, 0, 39)] [] [(0, .inr (.inr (.inl (some 94)))), (1, .inl (9, [])), (2, .inl (8, [])), (3, .inl (0, [(0, 1)])), (4, .inl (1200, [(0, 1)]))] [] [] [] 8 [(316, ([], 1, [(0, 0, 39)], [], [(0, .inr (.inr (.inl (some 94)))), (1, .inl (9, [])), (2, .inl (8, [])), (3, .inl (0, [(0, 1)])), (4, .inl (1200, [(0, 1)])), (5, .inl (1, []))], [.inl (9999, []), .inl (0, []), .inl (1200, [(0, 1)]), .inr (.inr (.inl (some 94)))], []))] [] = true := by decide +kernel
theorem yqP8 {cst : am_K} {strs : List Nat} {Φ : am_Q → Prop} {D : Nat} {M : am_M} {h : am_H} {l : am_L} (c : hp_C cst strs D) (hM : m_P[304]? = some M) (hD : (8 : Int) ≤ (D : Int) + 1) (hy : ly_hy m_tt ly_TH h) (q : Int) (b0 : 0 ≤ q) (t0 : q ≤ 39) (l0 : hp_a l 0 94) (l1 : hp_i l 1 9) (l2 : hp_i l 2 8) (l3 : hp_i l 3 (q)) (l4 : hp_i l 4 (q + 1200)) (e0 : ∀ (l' : am_L) (h' : am_H) (y0 : Int32) (y1 : Int32) (y2 : Int32), y0.toInt = 9999 → y1.toInt = 0 → y2.toInt = (q + 1200) → ly_hy m_tt ly_TH h' → ly_fr cst [] h h' → h.length ≤ h'.length → hp_a l' 0 94 → hp_i l' 1 9 → hp_i l' 2 8 → hp_i l' 3 (q) → hp_i l' 4 (q + 1200) → hp_i l' 5 1 → hp_F cst strs Φ D M 316 l' [.int y0, .int y1, .int y2, .ref 94] h') : hp_F cst strs Φ D M 184 l [] h := by
  refine hp_arc c hM yqP8_k hD [q] rfl hy (hp_Bc (z := q) rfl b0 t0 hp_Bn) hp_Fn hp_Kn (hp_La l0 (hp_Li (z := (9 + 0)) l1 rfl (by omega) (hp_Li (z := (8 + 0)) l2 rfl (by omega) (hp_Li (z := (0 + (1 * q + 0))) l3 rfl (by omega) (hp_Li (z := (1200 + (1 * q + 0))) l4 rfl (by omega) hp_Ln))))) trivial ?_ ?_
  · intro p hp ys l' st' h' hys a1 a2 a3 gZ gL gS
    rcases List.mem_cons.mp hp with rfl | hp
    · obtain rfl := hp_y0 hys
      obtain ⟨y0, t0, rfl, q0, g0⟩ := hp_gSi (z := (9999 + 0)) gS rfl
      obtain ⟨y1, t1, rfl, q1, g1⟩ := hp_gSi (z := (0 + 0)) g0 rfl
      obtain ⟨y2, t2, rfl, q2, g2⟩ := hp_gSi (z := (1200 + (1 * q + 0))) g1 rfl
      obtain ⟨t3, rfl, g3⟩ := hp_gSa g2 (by decide)
      cases hp_gSn g3
      exact e0 l' h' y0 y1 y2 (by omega) (by omega) (by omega) a1 a2 a3 (hp_gLa gL (List.mem_of_getElem? (i := 0) rfl) (by decide)) (hp_gLi (z := (9 + 0)) gL (List.mem_of_getElem? (i := 1) rfl) rfl (by omega)) (hp_gLi (z := (8 + 0)) gL (List.mem_of_getElem? (i := 2) rfl) rfl (by omega)) (hp_gLi (z := (0 + (1 * q + 0))) gL (List.mem_of_getElem? (i := 3) rfl) rfl (by omega)) (hp_gLi (z := (1200 + (1 * q + 0))) gL (List.mem_of_getElem? (i := 4) rfl) rfl (by omega)) (hp_gLi (z := (1 + 0)) gL (List.mem_of_getElem? (i := 5) rfl) rfl (by omega))
    cases hp
  · intro p hp ys v h' hys a1 a2 a3 gZ gS
    cases hp
theorem yqP9_k : hp_chk 304 184 1 [(0, 0, 39)] [] [(0, .inr (.inr (.inl (some 94)))), (1, .inl (10, [])), (2, .inl (9, [])), (3, .inl (0, [(0, 1)])), (4, .inl (1200, [(0, 1)]))] [] [] [] 8 [(316, ([], 1, [(0, 0, 39)], [], [(0, .inr (.inr (.inl (some 94)))), (1, .inl (10, [])), (2, .inl (9, [])), (3, .inl (0, [(0, 1)])), (4, .inl (1200, [(0, 1)])), (5, .inl (1, []))], [.inl (4, []), .inl (0, []), .inl (1200, [(0, 1)]), .inr (.inr (.inl (some 94)))], []))] [] = true := by decide +kernel
theorem yqP9 {cst : am_K} {strs : List Nat} {Φ : am_Q → Prop} {D : Nat} {M : am_M} {h : am_H} {l : am_L} (c : hp_C cst strs D) (hM : m_P[304]? = some M) (hD : (8 : Int) ≤ (D : Int) + 1) (hy : ly_hy m_tt ly_TH h) (q : Int) (b0 : 0 ≤ q) (t0 : q ≤ 39) (l0 : hp_a l 0 94) (l1 : hp_i l 1 10) (l2 : hp_i l 2 9) (l3 : hp_i l 3 (q)) (l4 : hp_i l 4 (q + 1200)) (e0 : ∀ (l' : am_L) (h' : am_H) (y0 : Int32) (y1 : Int32) (y2 : Int32), y0.toInt = 4 → y1.toInt = 0 → y2.toInt = (q + 1200) → ly_hy m_tt ly_TH h' → ly_fr cst [] h h' → h.length ≤ h'.length → hp_a l' 0 94 → hp_i l' 1 10 → hp_i l' 2 9 → hp_i l' 3 (q) → hp_i l' 4 (q + 1200) → hp_i l' 5 1 → hp_F cst strs Φ D M 316 l' [.int y0, .int y1, .int y2, .ref 94] h') : hp_F cst strs Φ D M 184 l [] h := by
  refine hp_arc c hM yqP9_k hD [q] rfl hy (hp_Bc (z := q) rfl b0 t0 hp_Bn) hp_Fn hp_Kn (hp_La l0 (hp_Li (z := (10 + 0)) l1 rfl (by omega) (hp_Li (z := (9 + 0)) l2 rfl (by omega) (hp_Li (z := (0 + (1 * q + 0))) l3 rfl (by omega) (hp_Li (z := (1200 + (1 * q + 0))) l4 rfl (by omega) hp_Ln))))) trivial ?_ ?_
  · intro p hp ys l' st' h' hys a1 a2 a3 gZ gL gS
    rcases List.mem_cons.mp hp with rfl | hp
    · obtain rfl := hp_y0 hys
      obtain ⟨y0, t0, rfl, q0, g0⟩ := hp_gSi (z := (4 + 0)) gS rfl
      obtain ⟨y1, t1, rfl, q1, g1⟩ := hp_gSi (z := (0 + 0)) g0 rfl
      obtain ⟨y2, t2, rfl, q2, g2⟩ := hp_gSi (z := (1200 + (1 * q + 0))) g1 rfl
      obtain ⟨t3, rfl, g3⟩ := hp_gSa g2 (by decide)
      cases hp_gSn g3
      exact e0 l' h' y0 y1 y2 (by omega) (by omega) (by omega) a1 a2 a3 (hp_gLa gL (List.mem_of_getElem? (i := 0) rfl) (by decide)) (hp_gLi (z := (10 + 0)) gL (List.mem_of_getElem? (i := 1) rfl) rfl (by omega)) (hp_gLi (z := (9 + 0)) gL (List.mem_of_getElem? (i := 2) rfl) rfl (by omega)) (hp_gLi (z := (0 + (1 * q + 0))) gL (List.mem_of_getElem? (i := 3) rfl) rfl (by omega)) (hp_gLi (z := (1200 + (1 * q + 0))) gL (List.mem_of_getElem? (i := 4) rfl) rfl (by omega)) (hp_gLi (z := (1 + 0)) gL (List.mem_of_getElem? (i := 5) rfl) rfl (by omega))
    cases hp
  · intro p hp ys v h' hys a1 a2 a3 gZ gS
    cases hp
theorem yqP10_k : hp_chk 304 184 1 [(0, 0, 39)] [] [(0, .inr (.inr (.inl (some 94)))), (1, .inl (11, [])), (2, .inl (10, [])), (3, .inl (0, [(0, 1)])), (4, .inl (1200, [(0, 1)]))] [] [] [] 8 [(316, ([], 1, [(0, 0, 39)], [], [(0, .inr (.inr (.inl (some 94)))), (1, .inl (11, [])), (2, .inl (10, [])), (3, .inl (0, [(0, 1)])), (4, .inl (1200, [(0, 1)])), (5, .inl (1, []))], [.inl (12, []), .inl (0, []), .inl (1200, [(0, 1)]), .inr (.inr (.inl (some 94)))], []))] [] = true := by decide +kernel
theorem yqP10 {cst : am_K} {strs : List Nat} {Φ : am_Q → Prop} {D : Nat} {M : am_M} {h : am_H} {l : am_L} (c : hp_C cst strs D) (hM : m_P[304]? = some M) (hD : (8 : Int) ≤ (D : Int) + 1) (hy : ly_hy m_tt ly_TH h) (q : Int) (b0 : 0 ≤ q) (t0 : q ≤ 39) (l0 : hp_a l 0 94) (l1 : hp_i l 1 11) (l2 : hp_i l 2 10) (l3 : hp_i l 3 (q)) (l4 : hp_i l 4 (q + 1200)) (e0 : ∀ (l' : am_L) (h' : am_H) (y0 : Int32) (y1 : Int32) (y2 : Int32), y0.toInt = 12 → y1.toInt = 0 → y2.toInt = (q + 1200) → ly_hy m_tt ly_TH h' → ly_fr cst [] h h' → h.length ≤ h'.length → hp_a l' 0 94 → hp_i l' 1 11 → hp_i l' 2 10 → hp_i l' 3 (q) → hp_i l' 4 (q + 1200) → hp_i l' 5 1 → hp_F cst strs Φ D M 316 l' [.int y0, .int y1, .int y2, .ref 94] h') : hp_F cst strs Φ D M 184 l [] h := by
  refine hp_arc c hM yqP10_k hD [q] rfl hy (hp_Bc (z := q) rfl b0 t0 hp_Bn) hp_Fn hp_Kn (hp_La l0 (hp_Li (z := (11 + 0)) l1 rfl (by omega) (hp_Li (z := (10 + 0)) l2 rfl (by omega) (hp_Li (z := (0 + (1 * q + 0))) l3 rfl (by omega) (hp_Li (z := (1200 + (1 * q + 0))) l4 rfl (by omega) hp_Ln))))) trivial ?_ ?_
  · intro p hp ys l' st' h' hys a1 a2 a3 gZ gL gS
    rcases List.mem_cons.mp hp with rfl | hp
    · obtain rfl := hp_y0 hys
      obtain ⟨y0, t0, rfl, q0, g0⟩ := hp_gSi (z := (12 + 0)) gS rfl
      obtain ⟨y1, t1, rfl, q1, g1⟩ := hp_gSi (z := (0 + 0)) g0 rfl
      obtain ⟨y2, t2, rfl, q2, g2⟩ := hp_gSi (z := (1200 + (1 * q + 0))) g1 rfl
      obtain ⟨t3, rfl, g3⟩ := hp_gSa g2 (by decide)
      cases hp_gSn g3
      exact e0 l' h' y0 y1 y2 (by omega) (by omega) (by omega) a1 a2 a3 (hp_gLa gL (List.mem_of_getElem? (i := 0) rfl) (by decide)) (hp_gLi (z := (11 + 0)) gL (List.mem_of_getElem? (i := 1) rfl) rfl (by omega)) (hp_gLi (z := (10 + 0)) gL (List.mem_of_getElem? (i := 2) rfl) rfl (by omega)) (hp_gLi (z := (0 + (1 * q + 0))) gL (List.mem_of_getElem? (i := 3) rfl) rfl (by omega)) (hp_gLi (z := (1200 + (1 * q + 0))) gL (List.mem_of_getElem? (i := 4) rfl) rfl (by omega)) (hp_gLi (z := (1 + 0)) gL (List.mem_of_getElem? (i := 5) rfl) rfl (by omega))
    cases hp
  · intro p hp ys v h' hys a1 a2 a3 gZ gS
    cases hp
theorem yqP11_k : hp_chk 304 184 1 [(0, 0, 39)] [] [(0, .inr (.inr (.inl (some 94)))), (1, .inl (12, [])), (2, .inl (11, [])), (3, .inl (0, [(0, 1)])), (4, .inl (1200, [(0, 1)]))] [] [] [] 8 [(316, ([], 1, [(0, 0, 39)], [], [(0, .inr (.inr (.inl (some 94)))), (1, .inl (12, [])), (2, .inl (11, [])), (3, .inl (0, [(0, 1)])), (4, .inl (1200, [(0, 1)])), (5, .inl (1, []))], [.inl (12, []), .inl (0, []), .inl (1200, [(0, 1)]), .inr (.inr (.inl (some 94)))], []))] [] = true := by decide +kernel
theorem yqP11 {cst : am_K} {strs : List Nat} {Φ : am_Q → Prop} {D : Nat} {M : am_M} {h : am_H} {l : am_L} (c : hp_C cst strs D) (hM : m_P[304]? = some M) (hD : (8 : Int) ≤ (D : Int) + 1) (hy : ly_hy m_tt ly_TH h) (q : Int) (b0 : 0 ≤ q) (t0 : q ≤ 39) (l0 : hp_a l 0 94) (l1 : hp_i l 1 12) (l2 : hp_i l 2 11) (l3 : hp_i l 3 (q)) (l4 : hp_i l 4 (q + 1200)) (e0 : ∀ (l' : am_L) (h' : am_H) (y0 : Int32) (y1 : Int32) (y2 : Int32), y0.toInt = 12 → y1.toInt = 0 → y2.toInt = (q + 1200) → ly_hy m_tt ly_TH h' → ly_fr cst [] h h' → h.length ≤ h'.length → hp_a l' 0 94 → hp_i l' 1 12 → hp_i l' 2 11 → hp_i l' 3 (q) → hp_i l' 4 (q + 1200) → hp_i l' 5 1 → hp_F cst strs Φ D M 316 l' [.int y0, .int y1, .int y2, .ref 94] h') : hp_F cst strs Φ D M 184 l [] h := by
  refine hp_arc c hM yqP11_k hD [q] rfl hy (hp_Bc (z := q) rfl b0 t0 hp_Bn) hp_Fn hp_Kn (hp_La l0 (hp_Li (z := (12 + 0)) l1 rfl (by omega) (hp_Li (z := (11 + 0)) l2 rfl (by omega) (hp_Li (z := (0 + (1 * q + 0))) l3 rfl (by omega) (hp_Li (z := (1200 + (1 * q + 0))) l4 rfl (by omega) hp_Ln))))) trivial ?_ ?_
  · intro p hp ys l' st' h' hys a1 a2 a3 gZ gL gS
    rcases List.mem_cons.mp hp with rfl | hp
    · obtain rfl := hp_y0 hys
      obtain ⟨y0, t0, rfl, q0, g0⟩ := hp_gSi (z := (12 + 0)) gS rfl
      obtain ⟨y1, t1, rfl, q1, g1⟩ := hp_gSi (z := (0 + 0)) g0 rfl
      obtain ⟨y2, t2, rfl, q2, g2⟩ := hp_gSi (z := (1200 + (1 * q + 0))) g1 rfl
      obtain ⟨t3, rfl, g3⟩ := hp_gSa g2 (by decide)
      cases hp_gSn g3
      exact e0 l' h' y0 y1 y2 (by omega) (by omega) (by omega) a1 a2 a3 (hp_gLa gL (List.mem_of_getElem? (i := 0) rfl) (by decide)) (hp_gLi (z := (12 + 0)) gL (List.mem_of_getElem? (i := 1) rfl) rfl (by omega)) (hp_gLi (z := (11 + 0)) gL (List.mem_of_getElem? (i := 2) rfl) rfl (by omega)) (hp_gLi (z := (0 + (1 * q + 0))) gL (List.mem_of_getElem? (i := 3) rfl) rfl (by omega)) (hp_gLi (z := (1200 + (1 * q + 0))) gL (List.mem_of_getElem? (i := 4) rfl) rfl (by omega)) (hp_gLi (z := (1 + 0)) gL (List.mem_of_getElem? (i := 5) rfl) rfl (by omega))
    cases hp
  · intro p hp ys v h' hys a1 a2 a3 gZ gS
    cases hp
theorem yqP12_k : hp_chk 304 184 1 [(0, 0, 39)] [] [(0, .inr (.inr (.inl (some 94)))), (1, .inl (13, [])), (2, .inl (12, [])), (3, .inl (0, [(0, 1)])), (4, .inl (1200, [(0, 1)]))] [] [] [] 8 [(316, ([], 1, [(0, 0, 39)], [], [(0, .inr (.inr (.inl (some 94)))), (1, .inl (13, [])), (2, .inl (12, [])), (3, .inl (0, [(0, 1)])), (4, .inl (1200, [(0, 1)])), (5, .inl (1, []))], [.inl (23, []), .inl (0, []), .inl (1200, [(0, 1)]), .inr (.inr (.inl (some 94)))], []))] [] = true := by decide +kernel
theorem yqP12 {cst : am_K} {strs : List Nat} {Φ : am_Q → Prop} {D : Nat} {M : am_M} {h : am_H} {l : am_L} (c : hp_C cst strs D) (hM : m_P[304]? = some M) (hD : (8 : Int) ≤ (D : Int) + 1) (hy : ly_hy m_tt ly_TH h) (q : Int) (b0 : 0 ≤ q) (t0 : q ≤ 39) (l0 : hp_a l 0 94) (l1 : hp_i l 1 13) (l2 : hp_i l 2 12) (l3 : hp_i l 3 (q)) (l4 : hp_i l 4 (q + 1200)) (e0 : ∀ (l' : am_L) (h' : am_H) (y0 : Int32) (y1 : Int32) (y2 : Int32), y0.toInt = 23 → y1.toInt = 0 → y2.toInt = (q + 1200) → ly_hy m_tt ly_TH h' → ly_fr cst [] h h' → h.length ≤ h'.length → hp_a l' 0 94 → hp_i l' 1 13 → hp_i l' 2 12 → hp_i l' 3 (q) → hp_i l' 4 (q + 1200) → hp_i l' 5 1 → hp_F cst strs Φ D M 316 l' [.int y0, .int y1, .int y2, .ref 94] h') : hp_F cst strs Φ D M 184 l [] h := by
  refine hp_arc c hM yqP12_k hD [q] rfl hy (hp_Bc (z := q) rfl b0 t0 hp_Bn) hp_Fn hp_Kn (hp_La l0 (hp_Li (z := (13 + 0)) l1 rfl (by omega) (hp_Li (z := (12 + 0)) l2 rfl (by omega) (hp_Li (z := (0 + (1 * q + 0))) l3 rfl (by omega) (hp_Li (z := (1200 + (1 * q + 0))) l4 rfl (by omega) hp_Ln))))) trivial ?_ ?_
  · intro p hp ys l' st' h' hys a1 a2 a3 gZ gL gS
    rcases List.mem_cons.mp hp with rfl | hp
    · obtain rfl := hp_y0 hys
      obtain ⟨y0, t0, rfl, q0, g0⟩ := hp_gSi (z := (23 + 0)) gS rfl
      obtain ⟨y1, t1, rfl, q1, g1⟩ := hp_gSi (z := (0 + 0)) g0 rfl
      obtain ⟨y2, t2, rfl, q2, g2⟩ := hp_gSi (z := (1200 + (1 * q + 0))) g1 rfl
      obtain ⟨t3, rfl, g3⟩ := hp_gSa g2 (by decide)
      cases hp_gSn g3
      exact e0 l' h' y0 y1 y2 (by omega) (by omega) (by omega) a1 a2 a3 (hp_gLa gL (List.mem_of_getElem? (i := 0) rfl) (by decide)) (hp_gLi (z := (13 + 0)) gL (List.mem_of_getElem? (i := 1) rfl) rfl (by omega)) (hp_gLi (z := (12 + 0)) gL (List.mem_of_getElem? (i := 2) rfl) rfl (by omega)) (hp_gLi (z := (0 + (1 * q + 0))) gL (List.mem_of_getElem? (i := 3) rfl) rfl (by omega)) (hp_gLi (z := (1200 + (1 * q + 0))) gL (List.mem_of_getElem? (i := 4) rfl) rfl (by omega)) (hp_gLi (z := (1 + 0)) gL (List.mem_of_getElem? (i := 5) rfl) rfl (by omega))
    cases hp
  · intro p hp ys v h' hys a1 a2 a3 gZ gS
    cases hp
theorem yqQ2_k : hp_chk 304 184 1 [(0, 0, 39)] [] [(0, .inr (.inr (.inl (some 94)))), (1, .inl (2, [])), (2, .inl (2, [])), (3, .inl (0, [(0, 1)])), (4, .inl (1200, [(0, 1)]))] [] [] [] 8 [(346, ([], 1, [(0, 0, 39)], [], [(0, .inr (.inr (.inl (some 94)))), (1, .inl (2, [])), (2, .inl (2, [])), (3, .inl (0, [(0, 1)])), (4, .inl (1200, [(0, 1)])), (5, .inl (1, []))], [.inl (1, []), .inl (1200, [(0, 1)]), .inr (.inr (.inl (some 110)))], []))] [] = true := by decide +kernel
theorem yqQ2 {cst : am_K} {strs : List Nat} {Φ : am_Q → Prop} {D : Nat} {M : am_M} {h : am_H} {l : am_L} (c : hp_C cst strs D) (hM : m_P[304]? = some M) (hD : (8 : Int) ≤ (D : Int) + 1) (hy : ly_hy m_tt ly_TH h) (q : Int) (b0 : 0 ≤ q) (t0 : q ≤ 39) (l0 : hp_a l 0 94) (l1 : hp_i l 1 2) (l2 : hp_i l 2 2) (l3 : hp_i l 3 (q)) (l4 : hp_i l 4 (q + 1200)) (e0 : ∀ (l' : am_L) (h' : am_H) (y0 : Int32) (y1 : Int32), y0.toInt = 1 → y1.toInt = (q + 1200) → ly_hy m_tt ly_TH h' → ly_fr cst [] h h' → h.length ≤ h'.length → hp_a l' 0 94 → hp_i l' 1 2 → hp_i l' 2 2 → hp_i l' 3 (q) → hp_i l' 4 (q + 1200) → hp_i l' 5 1 → hp_F cst strs Φ D M 346 l' [.int y0, .int y1, .ref 110] h') : hp_F cst strs Φ D M 184 l [] h := by
  refine hp_arc c hM yqQ2_k hD [q] rfl hy (hp_Bc (z := q) rfl b0 t0 hp_Bn) hp_Fn hp_Kn (hp_La l0 (hp_Li (z := (2 + 0)) l1 rfl (by omega) (hp_Li (z := (2 + 0)) l2 rfl (by omega) (hp_Li (z := (0 + (1 * q + 0))) l3 rfl (by omega) (hp_Li (z := (1200 + (1 * q + 0))) l4 rfl (by omega) hp_Ln))))) trivial ?_ ?_
  · intro p hp ys l' st' h' hys a1 a2 a3 gZ gL gS
    rcases List.mem_cons.mp hp with rfl | hp
    · obtain rfl := hp_y0 hys
      obtain ⟨y0, t0, rfl, q0, g0⟩ := hp_gSi (z := (1 + 0)) gS rfl
      obtain ⟨y1, t1, rfl, q1, g1⟩ := hp_gSi (z := (1200 + (1 * q + 0))) g0 rfl
      obtain ⟨t2, rfl, g2⟩ := hp_gSa g1 (by decide)
      cases hp_gSn g2
      exact e0 l' h' y0 y1 (by omega) (by omega) a1 a2 a3 (hp_gLa gL (List.mem_of_getElem? (i := 0) rfl) (by decide)) (hp_gLi (z := (2 + 0)) gL (List.mem_of_getElem? (i := 1) rfl) rfl (by omega)) (hp_gLi (z := (2 + 0)) gL (List.mem_of_getElem? (i := 2) rfl) rfl (by omega)) (hp_gLi (z := (0 + (1 * q + 0))) gL (List.mem_of_getElem? (i := 3) rfl) rfl (by omega)) (hp_gLi (z := (1200 + (1 * q + 0))) gL (List.mem_of_getElem? (i := 4) rfl) rfl (by omega)) (hp_gLi (z := (1 + 0)) gL (List.mem_of_getElem? (i := 5) rfl) rfl (by omega))
    cases hp
  · intro p hp ys v h' hys a1 a2 a3 gZ gS
    cases hp
theorem yqQ4_k : hp_chk 304 184 1 [(0, 0, 39)] [] [(0, .inr (.inr (.inl (some 94)))), (1, .inl (4, [])), (2, .inl (4, [])), (3, .inl (0, [(0, 1)])), (4, .inl (1200, [(0, 1)]))] [] [] [] 8 [(346, ([], 1, [(0, 0, 39)], [], [(0, .inr (.inr (.inl (some 94)))), (1, .inl (4, [])), (2, .inl (4, [])), (3, .inl (0, [(0, 1)])), (4, .inl (1200, [(0, 1)])), (5, .inl (1, []))], [.inl (1, []), .inl (1200, [(0, 1)]), .inr (.inr (.inl (some 110)))], []))] [] = true := by decide +kernel
theorem yqQ4 {cst : am_K} {strs : List Nat} {Φ : am_Q → Prop} {D : Nat} {M : am_M} {h : am_H} {l : am_L} (c : hp_C cst strs D) (hM : m_P[304]? = some M) (hD : (8 : Int) ≤ (D : Int) + 1) (hy : ly_hy m_tt ly_TH h) (q : Int) (b0 : 0 ≤ q) (t0 : q ≤ 39) (l0 : hp_a l 0 94) (l1 : hp_i l 1 4) (l2 : hp_i l 2 4) (l3 : hp_i l 3 (q)) (l4 : hp_i l 4 (q + 1200)) (e0 : ∀ (l' : am_L) (h' : am_H) (y0 : Int32) (y1 : Int32), y0.toInt = 1 → y1.toInt = (q + 1200) → ly_hy m_tt ly_TH h' → ly_fr cst [] h h' → h.length ≤ h'.length → hp_a l' 0 94 → hp_i l' 1 4 → hp_i l' 2 4 → hp_i l' 3 (q) → hp_i l' 4 (q + 1200) → hp_i l' 5 1 → hp_F cst strs Φ D M 346 l' [.int y0, .int y1, .ref 110] h') : hp_F cst strs Φ D M 184 l [] h := by
  refine hp_arc c hM yqQ4_k hD [q] rfl hy (hp_Bc (z := q) rfl b0 t0 hp_Bn) hp_Fn hp_Kn (hp_La l0 (hp_Li (z := (4 + 0)) l1 rfl (by omega) (hp_Li (z := (4 + 0)) l2 rfl (by omega) (hp_Li (z := (0 + (1 * q + 0))) l3 rfl (by omega) (hp_Li (z := (1200 + (1 * q + 0))) l4 rfl (by omega) hp_Ln))))) trivial ?_ ?_
  · intro p hp ys l' st' h' hys a1 a2 a3 gZ gL gS
    rcases List.mem_cons.mp hp with rfl | hp
    · obtain rfl := hp_y0 hys
      obtain ⟨y0, t0, rfl, q0, g0⟩ := hp_gSi (z := (1 + 0)) gS rfl
      obtain ⟨y1, t1, rfl, q1, g1⟩ := hp_gSi (z := (1200 + (1 * q + 0))) g0 rfl
      obtain ⟨t2, rfl, g2⟩ := hp_gSa g1 (by decide)
      cases hp_gSn g2
      exact e0 l' h' y0 y1 (by omega) (by omega) a1 a2 a3 (hp_gLa gL (List.mem_of_getElem? (i := 0) rfl) (by decide)) (hp_gLi (z := (4 + 0)) gL (List.mem_of_getElem? (i := 1) rfl) rfl (by omega)) (hp_gLi (z := (4 + 0)) gL (List.mem_of_getElem? (i := 2) rfl) rfl (by omega)) (hp_gLi (z := (0 + (1 * q + 0))) gL (List.mem_of_getElem? (i := 3) rfl) rfl (by omega)) (hp_gLi (z := (1200 + (1 * q + 0))) gL (List.mem_of_getElem? (i := 4) rfl) rfl (by omega)) (hp_gLi (z := (1 + 0)) gL (List.mem_of_getElem? (i := 5) rfl) rfl (by omega))
    cases hp
  · intro p hp ys v h' hys a1 a2 a3 gZ gS
    cases hp
theorem yqQ5_k : hp_chk 304 184 1 [(0, 0, 39)] [] [(0, .inr (.inr (.inl (some 94)))), (1, .inl (5, [])), (2, .inl (4, [])), (3, .inl (0, [(0, 1)])), (4, .inl (1200, [(0, 1)]))] [] [] [] 8 [(346, ([], 1, [(0, 0, 39)], [], [(0, .inr (.inr (.inl (some 94)))), (1, .inl (5, [])), (2, .inl (4, [])), (3, .inl (0, [(0, 1)])), (4, .inl (1200, [(0, 1)])), (5, .inl (1, []))], [.inl (0, []), .inl (1200, [(0, 1)]), .inr (.inr (.inl (some 110)))], []))] [] = true := by decide +kernel
theorem yqQ5 {cst : am_K} {strs : List Nat} {Φ : am_Q → Prop} {D : Nat} {M : am_M} {h : am_H} {l : am_L} (c : hp_C cst strs D) (hM : m_P[304]? = some M) (hD : (8 : Int) ≤ (D : Int) + 1) (hy : ly_hy m_tt ly_TH h) (q : Int) (b0 : 0 ≤ q) (t0 : q ≤ 39) (l0 : hp_a l 0 94) (l1 : hp_i l 1 5) (l2 : hp_i l 2 4) (l3 : hp_i l 3 (q)) (l4 : hp_i l 4 (q + 1200)) (e0 : ∀ (l' : am_L) (h' : am_H) (y0 : Int32) (y1 : Int32), y0.toInt = 0 → y1.toInt = (q + 1200) → ly_hy m_tt ly_TH h' → ly_fr cst [] h h' → h.length ≤ h'.length → hp_a l' 0 94 → hp_i l' 1 5 → hp_i l' 2 4 → hp_i l' 3 (q) → hp_i l' 4 (q + 1200) → hp_i l' 5 1 → hp_F cst strs Φ D M 346 l' [.int y0, .int y1, .ref 110] h') : hp_F cst strs Φ D M 184 l [] h := by
  refine hp_arc c hM yqQ5_k hD [q] rfl hy (hp_Bc (z := q) rfl b0 t0 hp_Bn) hp_Fn hp_Kn (hp_La l0 (hp_Li (z := (5 + 0)) l1 rfl (by omega) (hp_Li (z := (4 + 0)) l2 rfl (by omega) (hp_Li (z := (0 + (1 * q + 0))) l3 rfl (by omega) (hp_Li (z := (1200 + (1 * q + 0))) l4 rfl (by omega) hp_Ln))))) trivial ?_ ?_
  · intro p hp ys l' st' h' hys a1 a2 a3 gZ gL gS
    rcases List.mem_cons.mp hp with rfl | hp
    · obtain rfl := hp_y0 hys
      obtain ⟨y0, t0, rfl, q0, g0⟩ := hp_gSi (z := (0 + 0)) gS rfl
      obtain ⟨y1, t1, rfl, q1, g1⟩ := hp_gSi (z := (1200 + (1 * q + 0))) g0 rfl
      obtain ⟨t2, rfl, g2⟩ := hp_gSa g1 (by decide)
      cases hp_gSn g2
      exact e0 l' h' y0 y1 (by omega) (by omega) a1 a2 a3 (hp_gLa gL (List.mem_of_getElem? (i := 0) rfl) (by decide)) (hp_gLi (z := (5 + 0)) gL (List.mem_of_getElem? (i := 1) rfl) rfl (by omega)) (hp_gLi (z := (4 + 0)) gL (List.mem_of_getElem? (i := 2) rfl) rfl (by omega)) (hp_gLi (z := (0 + (1 * q + 0))) gL (List.mem_of_getElem? (i := 3) rfl) rfl (by omega)) (hp_gLi (z := (1200 + (1 * q + 0))) gL (List.mem_of_getElem? (i := 4) rfl) rfl (by omega)) (hp_gLi (z := (1 + 0)) gL (List.mem_of_getElem? (i := 5) rfl) rfl (by omega))
    cases hp
  · intro p hp ys v h' hys a1 a2 a3 gZ gS
    cases hp
theorem yqQ6_k : hp_chk 304 184 1 [(0, 0, 39)] [] [(0, .inr (.inr (.inl (some 94)))), (1, .inl (6, [])), (2, .inl (5, [])), (3, .inl (0, [(0, 1)])), (4, .inl (1200, [(0, 1)]))] [] [] [] 8 [(346, ([], 1, [(0, 0, 39)], [], [(0, .inr (.inr (.inl (some 94)))), (1, .inl (6, [])), (2, .inl (5, [])), (3, .inl (0, [(0, 1)])), (4, .inl (1200, [(0, 1)])), (5, .inl (1, []))], [.inl (1, []), .inl (1200, [(0, 1)]), .inr (.inr (.inl (some 110)))], []))] [] = true := by decide +kernel
theorem yqQ6 {cst : am_K} {strs : List Nat} {Φ : am_Q → Prop} {D : Nat} {M : am_M} {h : am_H} {l : am_L} (c : hp_C cst strs D) (hM : m_P[304]? = some M) (hD : (8 : Int) ≤ (D : Int) + 1) (hy : ly_hy m_tt ly_TH h) (q : Int) (b0 : 0 ≤ q) (t0 : q ≤ 39) (l0 : hp_a l 0 94) (l1 : hp_i l 1 6) (l2 : hp_i l 2 5) (l3 : hp_i l 3 (q)) (l4 : hp_i l 4 (q + 1200)) (e0 : ∀ (l' : am_L) (h' : am_H) (y0 : Int32) (y1 : Int32), y0.toInt = 1 → y1.toInt = (q + 1200) → ly_hy m_tt ly_TH h' → ly_fr cst [] h h' → h.length ≤ h'.length → hp_a l' 0 94 → hp_i l' 1 6 → hp_i l' 2 5 → hp_i l' 3 (q) → hp_i l' 4 (q + 1200) → hp_i l' 5 1 → hp_F cst strs Φ D M 346 l' [.int y0, .int y1, .ref 110] h') : hp_F cst strs Φ D M 184 l [] h := by
  refine hp_arc c hM yqQ6_k hD [q] rfl hy (hp_Bc (z := q) rfl b0 t0 hp_Bn) hp_Fn hp_Kn (hp_La l0 (hp_Li (z := (6 + 0)) l1 rfl (by omega) (hp_Li (z := (5 + 0)) l2 rfl (by omega) (hp_Li (z := (0 + (1 * q + 0))) l3 rfl (by omega) (hp_Li (z := (1200 + (1 * q + 0))) l4 rfl (by omega) hp_Ln))))) trivial ?_ ?_
  · intro p hp ys l' st' h' hys a1 a2 a3 gZ gL gS
    rcases List.mem_cons.mp hp with rfl | hp
    · obtain rfl := hp_y0 hys
      obtain ⟨y0, t0, rfl, q0, g0⟩ := hp_gSi (z := (1 + 0)) gS rfl
      obtain ⟨y1, t1, rfl, q1, g1⟩ := hp_gSi (z := (1200 + (1 * q + 0))) g0 rfl
      obtain ⟨t2, rfl, g2⟩ := hp_gSa g1 (by decide)
      cases hp_gSn g2
      exact e0 l' h' y0 y1 (by omega) (by omega) a1 a2 a3 (hp_gLa gL (List.mem_of_getElem? (i := 0) rfl) (by decide)) (hp_gLi (z := (6 + 0)) gL (List.mem_of_getElem? (i := 1) rfl) rfl (by omega)) (hp_gLi (z := (5 + 0)) gL (List.mem_of_getElem? (i := 2) rfl) rfl (by omega)) (hp_gLi (z := (0 + (1 * q + 0))) gL (List.mem_of_getElem? (i := 3) rfl) rfl (by omega)) (hp_gLi (z := (1200 + (1 * q + 0))) gL (List.mem_of_getElem? (i := 4) rfl) rfl (by omega)) (hp_gLi (z := (1 + 0)) gL (List.mem_of_getElem? (i := 5) rfl) rfl (by omega))
    cases hp
  · intro p hp ys v h' hys a1 a2 a3 gZ gS
    cases hp
theorem yqQ7_k : hp_chk 304 184 1 [(0, 0, 39)] [] [(0, .inr (.inr (.inl (some 94)))), (1, .inl (7, [])), (2, .inl (6, [])), (3, .inl (0, [(0, 1)])), (4, .inl (1200, [(0, 1)]))] [] [] [] 8 [(346, ([], 1, [(0, 0, 39)], [], [(0, .inr (.inr (.inl (some 94)))), (1, .inl (7, [])), (2, .inl (6, [])), (3, .inl (0, [(0, 1)])), (4, .inl (1200, [(0, 1)])), (5, .inl (1, []))], [.inl (1, []), .inl (1200, [(0, 1)]), .inr (.inr (.inl (some 110)))], []))] [] = true := by decide +kernel
theorem yqQ7 {cst : am_K} {strs : List Nat} {Φ : am_Q → Prop} {D : Nat} {M : am_M} {h : am_H} {l : am_L} (c : hp_C cst strs D) (hM : m_P[304]? = some M) (hD : (8 : Int) ≤ (D : Int) + 1) (hy : ly_hy m_tt ly_TH h) (q : Int) (b0 : 0 ≤ q) (t0 : q ≤ 39) (l0 : hp_a l 0 94) (l1 : hp_i l 1 7) (l2 : hp_i l 2 6) (l3 : hp_i l 3 (q)) (l4 : hp_i l 4 (q + 1200)) (e0 : ∀ (l' : am_L) (h' : am_H) (y0 : Int32) (y1 : Int32), y0.toInt = 1 → y1.toInt = (q + 1200) → ly_hy m_tt ly_TH h' → ly_fr cst [] h h' → h.length ≤ h'.length → hp_a l' 0 94 → hp_i l' 1 7 → hp_i l' 2 6 → hp_i l' 3 (q) → hp_i l' 4 (q + 1200) → hp_i l' 5 1 → hp_F cst strs Φ D M 346 l' [.int y0, .int y1, .ref 110] h') : hp_F cst strs Φ D M 184 l [] h := by
  refine hp_arc c hM yqQ7_k hD [q] rfl hy (hp_Bc (z := q) rfl b0 t0 hp_Bn) hp_Fn hp_Kn (hp_La l0 (hp_Li (z := (7 + 0)) l1 rfl (by omega) (hp_Li (z := (6 + 0)) l2 rfl (by omega) (hp_Li (z := (0 + (1 * q + 0))) l3 rfl (by omega) (hp_Li (z := (1200 + (1 * q + 0))) l4 rfl (by omega) hp_Ln))))) trivial ?_ ?_
  · intro p hp ys l' st' h' hys a1 a2 a3 gZ gL gS
    rcases List.mem_cons.mp hp with rfl | hp
    · obtain rfl := hp_y0 hys
      obtain ⟨y0, t0, rfl, q0, g0⟩ := hp_gSi (z := (1 + 0)) gS rfl
      obtain ⟨y1, t1, rfl, q1, g1⟩ := hp_gSi (z := (1200 + (1 * q + 0))) g0 rfl
      obtain ⟨t2, rfl, g2⟩ := hp_gSa g1 (by decide)
      cases hp_gSn g2
      exact e0 l' h' y0 y1 (by omega) (by omega) a1 a2 a3 (hp_gLa gL (List.mem_of_getElem? (i := 0) rfl) (by decide)) (hp_gLi (z := (7 + 0)) gL (List.mem_of_getElem? (i := 1) rfl) rfl (by omega)) (hp_gLi (z := (6 + 0)) gL (List.mem_of_getElem? (i := 2) rfl) rfl (by omega)) (hp_gLi (z := (0 + (1 * q + 0))) gL (List.mem_of_getElem? (i := 3) rfl) rfl (by omega)) (hp_gLi (z := (1200 + (1 * q + 0))) gL (List.mem_of_getElem? (i := 4) rfl) rfl (by omega)) (hp_gLi (z := (1 + 0)) gL (List.mem_of_getElem? (i := 5) rfl) rfl (by omega))
    cases hp
  · intro p hp ys v h' hys a1 a2 a3 gZ gS
    cases hp
theorem yqQ14_k : hp_chk 304 184 1 [(0, 0, 39)] [] [(0, .inr (.inr (.inl (some 94)))), (1, .inl (14, [])), (2, .inl (13, [])), (3, .inl (0, [(0, 1)])), (4, .inl (1200, [(0, 1)]))] [] [] [] 8 [(346, ([], 1, [(0, 0, 39)], [], [(0, .inr (.inr (.inl (some 94)))), (1, .inl (14, [])), (2, .inl (13, [])), (3, .inl (0, [(0, 1)])), (4, .inl (1200, [(0, 1)])), (5, .inl (1, []))], [.inl (1, []), .inl (1200, [(0, 1)]), .inr (.inr (.inl (some 110)))], []))] [] = true := by decide +kernel
theorem yqQ14 {cst : am_K} {strs : List Nat} {Φ : am_Q → Prop} {D : Nat} {M : am_M} {h : am_H} {l : am_L} (c : hp_C cst strs D) (hM : m_P[304]? = some M) (hD : (8 : Int) ≤ (D : Int) + 1) (hy : ly_hy m_tt ly_TH h) (q : Int) (b0 : 0 ≤ q) (t0 : q ≤ 39) (l0 : hp_a l 0 94) (l1 : hp_i l 1 14) (l2 : hp_i l 2 13) (l3 : hp_i l 3 (q)) (l4 : hp_i l 4 (q + 1200)) (e0 : ∀ (l' : am_L) (h' : am_H) (y0 : Int32) (y1 : Int32), y0.toInt = 1 → y1.toInt = (q + 1200) → ly_hy m_tt ly_TH h' → ly_fr cst [] h h' → h.length ≤ h'.length → hp_a l' 0 94 → hp_i l' 1 14 → hp_i l' 2 13 → hp_i l' 3 (q) → hp_i l' 4 (q + 1200) → hp_i l' 5 1 → hp_F cst strs Φ D M 346 l' [.int y0, .int y1, .ref 110] h') : hp_F cst strs Φ D M 184 l [] h := by
  refine hp_arc c hM yqQ14_k hD [q] rfl hy (hp_Bc (z := q) rfl b0 t0 hp_Bn) hp_Fn hp_Kn (hp_La l0 (hp_Li (z := (14 + 0)) l1 rfl (by omega) (hp_Li (z := (13 + 0)) l2 rfl (by omega) (hp_Li (z := (0 + (1 * q + 0))) l3 rfl (by omega) (hp_Li (z := (1200 + (1 * q + 0))) l4 rfl (by omega) hp_Ln))))) trivial ?_ ?_
  · intro p hp ys l' st' h' hys a1 a2 a3 gZ gL gS
    rcases List.mem_cons.mp hp with rfl | hp
    · obtain rfl := hp_y0 hys
      obtain ⟨y0, t0, rfl, q0, g0⟩ := hp_gSi (z := (1 + 0)) gS rfl
      obtain ⟨y1, t1, rfl, q1, g1⟩ := hp_gSi (z := (1200 + (1 * q + 0))) g0 rfl
      obtain ⟨t2, rfl, g2⟩ := hp_gSa g1 (by decide)
      cases hp_gSn g2
      exact e0 l' h' y0 y1 (by omega) (by omega) a1 a2 a3 (hp_gLa gL (List.mem_of_getElem? (i := 0) rfl) (by decide)) (hp_gLi (z := (14 + 0)) gL (List.mem_of_getElem? (i := 1) rfl) rfl (by omega)) (hp_gLi (z := (13 + 0)) gL (List.mem_of_getElem? (i := 2) rfl) rfl (by omega)) (hp_gLi (z := (0 + (1 * q + 0))) gL (List.mem_of_getElem? (i := 3) rfl) rfl (by omega)) (hp_gLi (z := (1200 + (1 * q + 0))) gL (List.mem_of_getElem? (i := 4) rfl) rfl (by omega)) (hp_gLi (z := (1 + 0)) gL (List.mem_of_getElem? (i := 5) rfl) rfl (by omega))
    cases hp
  · intro p hp ys v h' hys a1 a2 a3 gZ gS
    cases hp
theorem yqQ15_k : hp_chk 304 184 1 [(0, 0, 39)] [] [(0, .inr (.inr (.inl (some 94)))), (1, .inl (15, [])), (2, .inl (13, [])), (3, .inl (0, [(0, 1)])), (4, .inl (1200, [(0, 1)]))] [] [] [] 8 [(346, ([], 1, [(0, 0, 39)], [], [(0, .inr (.inr (.inl (some 94)))), (1, .inl (15, [])), (2, .inl (13, [])), (3, .inl (0, [(0, 1)])), (4, .inl (1200, [(0, 1)])), (5, .inl (1, []))], [.inl (0, []), .inl (1200, [(0, 1)]), .inr (.inr (.inl (some 110)))], []))] [] = true := by decide +kernel
theorem yqQ15 {cst : am_K} {strs : List Nat} {Φ : am_Q → Prop} {D : Nat} {M : am_M} {h : am_H} {l : am_L} (c : hp_C cst strs D) (hM : m_P[304]? = some M) (hD : (8 : Int) ≤ (D : Int) + 1) (hy : ly_hy m_tt ly_TH h) (q : Int) (b0 : 0 ≤ q) (t0 : q ≤ 39) (l0 : hp_a l 0 94) (l1 : hp_i l 1 15) (l2 : hp_i l 2 13) (l3 : hp_i l 3 (q)) (l4 : hp_i l 4 (q + 1200)) (e0 : ∀ (l' : am_L) (h' : am_H) (y0 : Int32) (y1 : Int32), y0.toInt = 0 → y1.toInt = (q + 1200) → ly_hy m_tt ly_TH h' → ly_fr cst [] h h' → h.length ≤ h'.length → hp_a l' 0 94 → hp_i l' 1 15 → hp_i l' 2 13 → hp_i l' 3 (q) → hp_i l' 4 (q + 1200) → hp_i l' 5 1 → hp_F cst strs Φ D M 346 l' [.int y0, .int y1, .ref 110] h') : hp_F cst strs Φ D M 184 l [] h := by
  refine hp_arc c hM yqQ15_k hD [q] rfl hy (hp_Bc (z := q) rfl b0 t0 hp_Bn) hp_Fn hp_Kn (hp_La l0 (hp_Li (z := (15 + 0)) l1 rfl (by omega) (hp_Li (z := (13 + 0)) l2 rfl (by omega) (hp_Li (z := (0 + (1 * q + 0))) l3 rfl (by omega) (hp_Li (z := (1200 + (1 * q + 0))) l4 rfl (by omega) hp_Ln))))) trivial ?_ ?_
  · intro p hp ys l' st' h' hys a1 a2 a3 gZ gL gS
    rcases List.mem_cons.mp hp with rfl | hp
    · obtain rfl := hp_y0 hys
      obtain ⟨y0, t0, rfl, q0, g0⟩ := hp_gSi (z := (0 + 0)) gS rfl
      obtain ⟨y1, t1, rfl, q1, g1⟩ := hp_gSi (z := (1200 + (1 * q + 0))) g0 rfl
      obtain ⟨t2, rfl, g2⟩ := hp_gSa g1 (by decide)
      cases hp_gSn g2
      exact e0 l' h' y0 y1 (by omega) (by omega) a1 a2 a3 (hp_gLa gL (List.mem_of_getElem? (i := 0) rfl) (by decide)) (hp_gLi (z := (15 + 0)) gL (List.mem_of_getElem? (i := 1) rfl) rfl (by omega)) (hp_gLi (z := (13 + 0)) gL (List.mem_of_getElem? (i := 2) rfl) rfl (by omega)) (hp_gLi (z := (0 + (1 * q + 0))) gL (List.mem_of_getElem? (i := 3) rfl) rfl (by omega)) (hp_gLi (z := (1200 + (1 * q + 0))) gL (List.mem_of_getElem? (i := 4) rfl) rfl (by omega)) (hp_gLi (z := (1 + 0)) gL (List.mem_of_getElem? (i := 5) rfl) rfl (by omega))
    cases hp
  · intro p hp ys v h' hys a1 a2 a3 gZ gS
    cases hp
theorem yqR197_k : hp_chk 304 197 4 [(0, 0, 16), (1, 0, 14), (2, 0, 39), (3, 0, 1)] [] [(0, .inr (.inr (.inl (some 94)))), (1, .inl (0, [(0, 1)])), (2, .inl (0, [(1, 1)])), (3, .inl (0, [(2, 1)])), (4, .inl (1200, [(2, 1)])), (5, .inl (1, []))] [.inl (0, [(3, 1)])] [] [] 8 [(347, ([], 4, [(0, 0, 16), (1, 0, 14), (2, 0, 39), (3, 0, 1)], [], [(0, .inr (.inr (.inl (some 94)))), (1, .inl (0, [(0, 1)])), (2, .inl (0, [(1, 1)])), (3, .inl (0, [(2, 1)])), (4, .inl (1200, [(2, 1)])), (5, .inl (0, [(3, 1)]))], [], []))] [] = true := by decide +kernel
theorem yqR197 {cst : am_K} {strs : List Nat} {Φ : am_Q → Prop} {D : Nat} {M : am_M} {h : am_H} {l : am_L} (c : hp_C cst strs D) (hM : m_P[304]? = some M) (hD : (8 : Int) ≤ (D : Int) + 1) (hy : ly_hy m_tt ly_TH h) (k g q w : Int) (x0 : Int32) (hx0 : x0.toInt = (w)) (b0 : 0 ≤ k) (t0 : k ≤ 16) (b1 : 0 ≤ g) (t1 : g ≤ 14) (b2 : 0 ≤ q) (t2 : q ≤ 39) (b3 : 0 ≤ w) (t3 : w ≤ 1) (l0 : hp_a l 0 94) (l1 : hp_i l 1 (k)) (l2 : hp_i l 2 (g)) (l3 : hp_i l 3 (q)) (l4 : hp_i l 4 (q + 1200)) (l5 : hp_i l 5 1) (e0 : ∀ (l' : am_L) (h' : am_H), ly_hy m_tt ly_TH h' → ly_fr cst [] h h' → h.length ≤ h'.length → hp_a l' 0 94 → hp_i l' 1 (k) → hp_i l' 2 (g) → hp_i l' 3 (q) → hp_i l' 4 (q + 1200) → hp_i l' 5 (w) → hp_F cst strs Φ D M 347 l' [] h') : hp_F cst strs Φ D M 197 l [.int x0] h := by
  refine hp_arc c hM yqR197_k hD [k, g, q, w] rfl hy (hp_Bc (z := k) rfl b0 t0 (hp_Bc (z := g) rfl b1 t1 (hp_Bc (z := q) rfl b2 t2 (hp_Bc (z := w) rfl b3 t3 hp_Bn)))) hp_Fn hp_Kn (hp_La l0 (hp_Li (z := (0 + (1 * k + 0))) l1 rfl (by omega) (hp_Li (z := (0 + (1 * g + 0))) l2 rfl (by omega) (hp_Li (z := (0 + (1 * q + 0))) l3 rfl (by omega) (hp_Li (z := (1200 + (1 * q + 0))) l4 rfl (by omega) (hp_Li (z := (1 + 0)) l5 rfl (by omega) hp_Ln)))))) (hp_Si (z := (0 + (1 * w + 0))) rfl (by omega) trivial) ?_ ?_
  · intro p hp ys l' st' h' hys a1 a2 a3 gZ gL gS
    rcases List.mem_cons.mp hp with rfl | hp
    · obtain rfl := hp_y0 hys
      cases hp_gSn gS
      exact e0 l' h' a1 a2 a3 (hp_gLa gL (List.mem_of_getElem? (i := 0) rfl) (by decide)) (hp_gLi (z := (0 + (1 * k + 0))) gL (List.mem_of_getElem? (i := 1) rfl) rfl (by omega)) (hp_gLi (z := (0 + (1 * g + 0))) gL (List.mem_of_getElem? (i := 2) rfl) rfl (by omega)) (hp_gLi (z := (0 + (1 * q + 0))) gL (List.mem_of_getElem? (i := 3) rfl) rfl (by omega)) (hp_gLi (z := (1200 + (1 * q + 0))) gL (List.mem_of_getElem? (i := 4) rfl) rfl (by omega)) (hp_gLi (z := (0 + (1 * w + 0))) gL (List.mem_of_getElem? (i := 5) rfl) rfl (by omega))
    cases hp
  · intro p hp ys v h' hys a1 a2 a3 gZ gS
    cases hp
theorem yqR213_k : hp_chk 304 213 4 [(0, 0, 16), (1, 0, 14), (2, 0, 39), (3, 0, 1)] [] [(0, .inr (.inr (.inl (some 94)))), (1, .inl (0, [(0, 1)])), (2, .inl (0, [(1, 1)])), (3, .inl (0, [(2, 1)])), (4, .inl (1200, [(2, 1)])), (5, .inl (1, []))] [.inl (0, [(3, 1)])] [] [] 8 [(347, ([], 4, [(0, 0, 16), (1, 0, 14), (2, 0, 39), (3, 0, 1)], [], [(0, .inr (.inr (.inl (some 94)))), (1, .inl (0, [(0, 1)])), (2, .inl (0, [(1, 1)])), (3, .inl (0, [(2, 1)])), (4, .inl (1200, [(2, 1)])), (5, .inl (0, [(3, 1)]))], [], []))] [] = true := by decide +kernel
theorem yqR213 {cst : am_K} {strs : List Nat} {Φ : am_Q → Prop} {D : Nat} {M : am_M} {h : am_H} {l : am_L} (c : hp_C cst strs D) (hM : m_P[304]? = some M) (hD : (8 : Int) ≤ (D : Int) + 1) (hy : ly_hy m_tt ly_TH h) (k g q w : Int) (x0 : Int32) (hx0 : x0.toInt = (w)) (b0 : 0 ≤ k) (t0 : k ≤ 16) (b1 : 0 ≤ g) (t1 : g ≤ 14) (b2 : 0 ≤ q) (t2 : q ≤ 39) (b3 : 0 ≤ w) (t3 : w ≤ 1) (l0 : hp_a l 0 94) (l1 : hp_i l 1 (k)) (l2 : hp_i l 2 (g)) (l3 : hp_i l 3 (q)) (l4 : hp_i l 4 (q + 1200)) (l5 : hp_i l 5 1) (e0 : ∀ (l' : am_L) (h' : am_H), ly_hy m_tt ly_TH h' → ly_fr cst [] h h' → h.length ≤ h'.length → hp_a l' 0 94 → hp_i l' 1 (k) → hp_i l' 2 (g) → hp_i l' 3 (q) → hp_i l' 4 (q + 1200) → hp_i l' 5 (w) → hp_F cst strs Φ D M 347 l' [] h') : hp_F cst strs Φ D M 213 l [.int x0] h := by
  refine hp_arc c hM yqR213_k hD [k, g, q, w] rfl hy (hp_Bc (z := k) rfl b0 t0 (hp_Bc (z := g) rfl b1 t1 (hp_Bc (z := q) rfl b2 t2 (hp_Bc (z := w) rfl b3 t3 hp_Bn)))) hp_Fn hp_Kn (hp_La l0 (hp_Li (z := (0 + (1 * k + 0))) l1 rfl (by omega) (hp_Li (z := (0 + (1 * g + 0))) l2 rfl (by omega) (hp_Li (z := (0 + (1 * q + 0))) l3 rfl (by omega) (hp_Li (z := (1200 + (1 * q + 0))) l4 rfl (by omega) (hp_Li (z := (1 + 0)) l5 rfl (by omega) hp_Ln)))))) (hp_Si (z := (0 + (1 * w + 0))) rfl (by omega) trivial) ?_ ?_
  · intro p hp ys l' st' h' hys a1 a2 a3 gZ gL gS
    rcases List.mem_cons.mp hp with rfl | hp
    · obtain rfl := hp_y0 hys
      cases hp_gSn gS
      exact e0 l' h' a1 a2 a3 (hp_gLa gL (List.mem_of_getElem? (i := 0) rfl) (by decide)) (hp_gLi (z := (0 + (1 * k + 0))) gL (List.mem_of_getElem? (i := 1) rfl) rfl (by omega)) (hp_gLi (z := (0 + (1 * g + 0))) gL (List.mem_of_getElem? (i := 2) rfl) rfl (by omega)) (hp_gLi (z := (0 + (1 * q + 0))) gL (List.mem_of_getElem? (i := 3) rfl) rfl (by omega)) (hp_gLi (z := (1200 + (1 * q + 0))) gL (List.mem_of_getElem? (i := 4) rfl) rfl (by omega)) (hp_gLi (z := (0 + (1 * w + 0))) gL (List.mem_of_getElem? (i := 5) rfl) rfl (by omega))
    cases hp
  · intro p hp ys v h' hys a1 a2 a3 gZ gS
    cases hp
theorem yqR233_k : hp_chk 304 233 4 [(0, 0, 16), (1, 0, 14), (2, 0, 39), (3, 0, 1)] [] [(0, .inr (.inr (.inl (some 94)))), (1, .inl (0, [(0, 1)])), (2, .inl (0, [(1, 1)])), (3, .inl (0, [(2, 1)])), (4, .inl (1200, [(2, 1)])), (5, .inl (1, []))] [.inl (0, [(3, 1)])] [] [] 8 [(347, ([], 4, [(0, 0, 16), (1, 0, 14), (2, 0, 39), (3, 0, 1)], [], [(0, .inr (.inr (.inl (some 94)))), (1, .inl (0, [(0, 1)])), (2, .inl (0, [(1, 1)])), (3, .inl (0, [(2, 1)])), (4, .inl (1200, [(2, 1)])), (5, .inl (0, [(3, 1)]))], [], []))] [] = true := by decide +kernel
theorem yqR233 {cst : am_K} {strs : List Nat} {Φ : am_Q → Prop} {D : Nat} {M : am_M} {h : am_H} {l : am_L} (c : hp_C cst strs D) (hM : m_P[304]? = some M) (hD : (8 : Int) ≤ (D : Int) + 1) (hy : ly_hy m_tt ly_TH h) (k g q w : Int) (x0 : Int32) (hx0 : x0.toInt = (w)) (b0 : 0 ≤ k) (t0 : k ≤ 16) (b1 : 0 ≤ g) (t1 : g ≤ 14) (b2 : 0 ≤ q) (t2 : q ≤ 39) (b3 : 0 ≤ w) (t3 : w ≤ 1) (l0 : hp_a l 0 94) (l1 : hp_i l 1 (k)) (l2 : hp_i l 2 (g)) (l3 : hp_i l 3 (q)) (l4 : hp_i l 4 (q + 1200)) (l5 : hp_i l 5 1) (e0 : ∀ (l' : am_L) (h' : am_H), ly_hy m_tt ly_TH h' → ly_fr cst [] h h' → h.length ≤ h'.length → hp_a l' 0 94 → hp_i l' 1 (k) → hp_i l' 2 (g) → hp_i l' 3 (q) → hp_i l' 4 (q + 1200) → hp_i l' 5 (w) → hp_F cst strs Φ D M 347 l' [] h') : hp_F cst strs Φ D M 233 l [.int x0] h := by
  refine hp_arc c hM yqR233_k hD [k, g, q, w] rfl hy (hp_Bc (z := k) rfl b0 t0 (hp_Bc (z := g) rfl b1 t1 (hp_Bc (z := q) rfl b2 t2 (hp_Bc (z := w) rfl b3 t3 hp_Bn)))) hp_Fn hp_Kn (hp_La l0 (hp_Li (z := (0 + (1 * k + 0))) l1 rfl (by omega) (hp_Li (z := (0 + (1 * g + 0))) l2 rfl (by omega) (hp_Li (z := (0 + (1 * q + 0))) l3 rfl (by omega) (hp_Li (z := (1200 + (1 * q + 0))) l4 rfl (by omega) (hp_Li (z := (1 + 0)) l5 rfl (by omega) hp_Ln)))))) (hp_Si (z := (0 + (1 * w + 0))) rfl (by omega) trivial) ?_ ?_
  · intro p hp ys l' st' h' hys a1 a2 a3 gZ gL gS
    rcases List.mem_cons.mp hp with rfl | hp
    · obtain rfl := hp_y0 hys
      cases hp_gSn gS
      exact e0 l' h' a1 a2 a3 (hp_gLa gL (List.mem_of_getElem? (i := 0) rfl) (by decide)) (hp_gLi (z := (0 + (1 * k + 0))) gL (List.mem_of_getElem? (i := 1) rfl) rfl (by omega)) (hp_gLi (z := (0 + (1 * g + 0))) gL (List.mem_of_getElem? (i := 2) rfl) rfl (by omega)) (hp_gLi (z := (0 + (1 * q + 0))) gL (List.mem_of_getElem? (i := 3) rfl) rfl (by omega)) (hp_gLi (z := (1200 + (1 * q + 0))) gL (List.mem_of_getElem? (i := 4) rfl) rfl (by omega)) (hp_gLi (z := (0 + (1 * w + 0))) gL (List.mem_of_getElem? (i := 5) rfl) rfl (by omega))
    cases hp
  · intro p hp ys v h' hys a1 a2 a3 gZ gS
    cases hp
theorem yqR250_k : hp_chk 304 250 4 [(0, 0, 16), (1, 0, 14), (2, 0, 39), (3, 0, 1)] [] [(0, .inr (.inr (.inl (some 94)))), (1, .inl (0, [(0, 1)])), (2, .inl (0, [(1, 1)])), (3, .inl (0, [(2, 1)])), (4, .inl (1200, [(2, 1)])), (5, .inl (1, []))] [.inl (0, [(3, 1)])] [] [] 8 [(347, ([], 4, [(0, 0, 16), (1, 0, 14), (2, 0, 39), (3, 0, 1)], [], [(0, .inr (.inr (.inl (some 94)))), (1, .inl (0, [(0, 1)])), (2, .inl (0, [(1, 1)])), (3, .inl (0, [(2, 1)])), (4, .inl (1200, [(2, 1)])), (5, .inl (0, [(3, 1)]))], [], []))] [] = true := by decide +kernel
theorem yqR250 {cst : am_K} {strs : List Nat} {Φ : am_Q → Prop} {D : Nat} {M : am_M} {h : am_H} {l : am_L} (c : hp_C cst strs D) (hM : m_P[304]? = some M) (hD : (8 : Int) ≤ (D : Int) + 1) (hy : ly_hy m_tt ly_TH h) (k g q w : Int) (x0 : Int32) (hx0 : x0.toInt = (w)) (b0 : 0 ≤ k) (t0 : k ≤ 16) (b1 : 0 ≤ g) (t1 : g ≤ 14) (b2 : 0 ≤ q) (t2 : q ≤ 39) (b3 : 0 ≤ w) (t3 : w ≤ 1) (l0 : hp_a l 0 94) (l1 : hp_i l 1 (k)) (l2 : hp_i l 2 (g)) (l3 : hp_i l 3 (q)) (l4 : hp_i l 4 (q + 1200)) (l5 : hp_i l 5 1) (e0 : ∀ (l' : am_L) (h' : am_H), ly_hy m_tt ly_TH h' → ly_fr cst [] h h' → h.length ≤ h'.length → hp_a l' 0 94 → hp_i l' 1 (k) → hp_i l' 2 (g) → hp_i l' 3 (q) → hp_i l' 4 (q + 1200) → hp_i l' 5 (w) → hp_F cst strs Φ D M 347 l' [] h') : hp_F cst strs Φ D M 250 l [.int x0] h := by
  refine hp_arc c hM yqR250_k hD [k, g, q, w] rfl hy (hp_Bc (z := k) rfl b0 t0 (hp_Bc (z := g) rfl b1 t1 (hp_Bc (z := q) rfl b2 t2 (hp_Bc (z := w) rfl b3 t3 hp_Bn)))) hp_Fn hp_Kn (hp_La l0 (hp_Li (z := (0 + (1 * k + 0))) l1 rfl (by omega) (hp_Li (z := (0 + (1 * g + 0))) l2 rfl (by omega) (hp_Li (z := (0 + (1 * q + 0))) l3 rfl (by omega) (hp_Li (z := (1200 + (1 * q + 0))) l4 rfl (by omega) (hp_Li (z := (1 + 0)) l5 rfl (by omega) hp_Ln)))))) (hp_Si (z := (0 + (1 * w + 0))) rfl (by omega) trivial) ?_ ?_
  · intro p hp ys l' st' h' hys a1 a2 a3 gZ gL gS
    rcases List.mem_cons.mp hp with rfl | hp
    · obtain rfl := hp_y0 hys
      cases hp_gSn gS
      exact e0 l' h' a1 a2 a3 (hp_gLa gL (List.mem_of_getElem? (i := 0) rfl) (by decide)) (hp_gLi (z := (0 + (1 * k + 0))) gL (List.mem_of_getElem? (i := 1) rfl) rfl (by omega)) (hp_gLi (z := (0 + (1 * g + 0))) gL (List.mem_of_getElem? (i := 2) rfl) rfl (by omega)) (hp_gLi (z := (0 + (1 * q + 0))) gL (List.mem_of_getElem? (i := 3) rfl) rfl (by omega)) (hp_gLi (z := (1200 + (1 * q + 0))) gL (List.mem_of_getElem? (i := 4) rfl) rfl (by omega)) (hp_gLi (z := (0 + (1 * w + 0))) gL (List.mem_of_getElem? (i := 5) rfl) rfl (by omega))
    cases hp
  · intro p hp ys v h' hys a1 a2 a3 gZ gS
    cases hp
theorem yqR319_k : hp_chk 304 319 4 [(0, 0, 16), (1, 0, 14), (2, 0, 39), (3, 0, 1)] [] [(0, .inr (.inr (.inl (some 94)))), (1, .inl (0, [(0, 1)])), (2, .inl (0, [(1, 1)])), (3, .inl (0, [(2, 1)])), (4, .inl (1200, [(2, 1)])), (5, .inl (1, []))] [.inl (0, [(3, 1)])] [] [] 8 [(347, ([], 4, [(0, 0, 16), (1, 0, 14), (2, 0, 39), (3, 0, 1)], [], [(0, .inr (.inr (.inl (some 94)))), (1, .inl (0, [(0, 1)])), (2, .inl (0, [(1, 1)])), (3, .inl (0, [(2, 1)])), (4, .inl (1200, [(2, 1)])), (5, .inl (0, [(3, 1)]))], [], []))] [] = true := by decide +kernel
theorem yqR319 {cst : am_K} {strs : List Nat} {Φ : am_Q → Prop} {D : Nat} {M : am_M} {h : am_H} {l : am_L} (c : hp_C cst strs D) (hM : m_P[304]? = some M) (hD : (8 : Int) ≤ (D : Int) + 1) (hy : ly_hy m_tt ly_TH h) (k g q w : Int) (x0 : Int32) (hx0 : x0.toInt = (w)) (b0 : 0 ≤ k) (t0 : k ≤ 16) (b1 : 0 ≤ g) (t1 : g ≤ 14) (b2 : 0 ≤ q) (t2 : q ≤ 39) (b3 : 0 ≤ w) (t3 : w ≤ 1) (l0 : hp_a l 0 94) (l1 : hp_i l 1 (k)) (l2 : hp_i l 2 (g)) (l3 : hp_i l 3 (q)) (l4 : hp_i l 4 (q + 1200)) (l5 : hp_i l 5 1) (e0 : ∀ (l' : am_L) (h' : am_H), ly_hy m_tt ly_TH h' → ly_fr cst [] h h' → h.length ≤ h'.length → hp_a l' 0 94 → hp_i l' 1 (k) → hp_i l' 2 (g) → hp_i l' 3 (q) → hp_i l' 4 (q + 1200) → hp_i l' 5 (w) → hp_F cst strs Φ D M 347 l' [] h') : hp_F cst strs Φ D M 319 l [.int x0] h := by
  refine hp_arc c hM yqR319_k hD [k, g, q, w] rfl hy (hp_Bc (z := k) rfl b0 t0 (hp_Bc (z := g) rfl b1 t1 (hp_Bc (z := q) rfl b2 t2 (hp_Bc (z := w) rfl b3 t3 hp_Bn)))) hp_Fn hp_Kn (hp_La l0 (hp_Li (z := (0 + (1 * k + 0))) l1 rfl (by omega) (hp_Li (z := (0 + (1 * g + 0))) l2 rfl (by omega) (hp_Li (z := (0 + (1 * q + 0))) l3 rfl (by omega) (hp_Li (z := (1200 + (1 * q + 0))) l4 rfl (by omega) (hp_Li (z := (1 + 0)) l5 rfl (by omega) hp_Ln)))))) (hp_Si (z := (0 + (1 * w + 0))) rfl (by omega) trivial) ?_ ?_
  · intro p hp ys l' st' h' hys a1 a2 a3 gZ gL gS
    rcases List.mem_cons.mp hp with rfl | hp
    · obtain rfl := hp_y0 hys
      cases hp_gSn gS
      exact e0 l' h' a1 a2 a3 (hp_gLa gL (List.mem_of_getElem? (i := 0) rfl) (by decide)) (hp_gLi (z := (0 + (1 * k + 0))) gL (List.mem_of_getElem? (i := 1) rfl) rfl (by omega)) (hp_gLi (z := (0 + (1 * g + 0))) gL (List.mem_of_getElem? (i := 2) rfl) rfl (by omega)) (hp_gLi (z := (0 + (1 * q + 0))) gL (List.mem_of_getElem? (i := 3) rfl) rfl (by omega)) (hp_gLi (z := (1200 + (1 * q + 0))) gL (List.mem_of_getElem? (i := 4) rfl) rfl (by omega)) (hp_gLi (z := (0 + (1 * w + 0))) gL (List.mem_of_getElem? (i := 5) rfl) rfl (by omega))
    cases hp
  · intro p hp ys v h' hys a1 a2 a3 gZ gS
    cases hp
theorem yqS_k : hp_chk 304 347 3 [(0, 0, 16), (1, 0, 14), (2, 0, 39)] [] [(0, .inr (.inr (.inl (some 94)))), (1, .inl (0, [(0, 1)])), (2, .inl (0, [(1, 1)])), (3, .inl (0, [(2, 1)])), (4, .inl (1200, [(2, 1)])), (5, .inl (0, []))] [] [] [] 8 [] [([], 3, [(0, 0, 16), (1, 0, 14), (2, 0, 39)], [], [], [.inl (0, [])], [])] = true := by decide +kernel
theorem yqS {cst : am_K} {strs : List Nat} {Φ : am_Q → Prop} {D : Nat} {M : am_M} {h : am_H} {l : am_L} (c : hp_C cst strs D) (hM : m_P[304]? = some M) (hD : (8 : Int) ≤ (D : Int) + 1) (hy : ly_hy m_tt ly_TH h) (k g q : Int) (b0 : 0 ≤ k) (t0 : k ≤ 16) (b1 : 0 ≤ g) (t1 : g ≤ 14) (b2 : 0 ≤ q) (t2 : q ≤ 39) (l0 : hp_a l 0 94) (l1 : hp_i l 1 (k)) (l2 : hp_i l 2 (g)) (l3 : hp_i l 3 (q)) (l4 : hp_i l 4 (q + 1200)) (l5 : hp_i l 5 0) (r0 : ∀ (h' : am_H) (y0 : Int32), y0.toInt = 0 → ly_hy m_tt ly_TH h' → ly_fr cst [] h h' → h.length ≤ h'.length → Φ (some (.int y0), h', 0, 0)) : hp_F cst strs Φ D M 347 l [] h := by
  refine hp_arc c hM yqS_k hD [k, g, q] rfl hy (hp_Bc (z := k) rfl b0 t0 (hp_Bc (z := g) rfl b1 t1 (hp_Bc (z := q) rfl b2 t2 hp_Bn))) hp_Fn hp_Kn (hp_La l0 (hp_Li (z := (0 + (1 * k + 0))) l1 rfl (by omega) (hp_Li (z := (0 + (1 * g + 0))) l2 rfl (by omega) (hp_Li (z := (0 + (1 * q + 0))) l3 rfl (by omega) (hp_Li (z := (1200 + (1 * q + 0))) l4 rfl (by omega) (hp_Li (z := (0 + 0)) l5 rfl (by omega) hp_Ln)))))) trivial ?_ ?_
  · intro p hp ys l' st' h' hys a1 a2 a3 gZ gL gS
    cases hp
  · intro p hp ys v h' hys a1 a2 a3 gZ gS
    rcases List.mem_cons.mp hp with rfl | hp
    · obtain rfl := hp_y0 hys
      cases v with
      | none => cases gS
      | some w =>
        obtain ⟨y0, t0, s0, q0, -⟩ := hp_gSi (z := (0 + 0)) gS rfl
        cases s0
        exact r0 h' y0 (by omega) a1 a2 a3
    cases hp
theorem yqT0_k : hq_chk [305] 304 347 5 [(0, 0, 16), (1, 0, 14), (2, 0, 39), (3, 0, 1200), (4, 0, 2)] [] [(0, .inr (.inr (.inl (some 94)))), (1, .inl (0, [(0, 1)])), (2, .inl (0, [(1, 1)])), (3, .inl (0, [(2, 1)])), (4, .inl (1200, [(2, 1)])), (5, .inl (1, []))] [] [(19971, (0, []), (0, [(4, 1)])), (19973, (0, []), (0, [(3, 1)]))] [19990, 19991] 8 [] [([], 5, [(0, 0, 16), (1, 0, 14), (2, 0, 39), (3, 0, 1200), (4, 0, 2)], [], [], [.inl (0, [])], [(19990, (0, []), (1, [])), (19991, (0, []), (0, [(3, 1)]))])] = true := by decide +kernel
theorem yqT0 {cst : am_K} {strs : List Nat} {Φ : am_Q → Prop} {D : Nat} {M : am_M} {h : am_H} {l : am_L} (c : hp_C cst strs D) (hM : m_P[304]? = some M) (hD : (8 : Int) ≤ (D : Int) + 1) (hy : ly_hy m_tt ly_TH h) (k g q p s : Int) (b0 : 0 ≤ k) (t0 : k ≤ 16) (b1 : 0 ≤ g) (t1 : g ≤ 14) (b2 : 0 ≤ q) (t2 : q ≤ 39) (b3 : 0 ≤ p) (t3 : p ≤ 1200) (b4 : 0 ≤ s) (t4 : s ≤ 2) (k0 : ly_hv cst h 19971 0 = some (s)) (k1 : ly_hv cst h 19973 0 = some (p)) (l0 : hp_a l 0 94) (l1 : hp_i l 1 (k)) (l2 : hp_i l 2 (g)) (l3 : hp_i l 3 (q)) (l4 : hp_i l 4 (q + 1200)) (l5 : hp_i l 5 1) (r0 : ∀ (h' : am_H) (y0 : Int32), y0.toInt = 0 → ly_hy m_tt ly_TH h' → ly_fr cst [19990, 19991] h h' → h.length ≤ h'.length → ly_hv cst h' 19990 0 = some 1 → ly_hv cst h' 19991 0 = some (p) → Φ (some (.int y0), h', 0, 0)) : hp_F cst strs Φ D M 347 l [] h := by
  refine hq_arc c hM yqT0_k hD [k, g, q, p, s] rfl hy (hp_Bc (z := k) rfl b0 t0 (hp_Bc (z := g) rfl b1 t1 (hp_Bc (z := q) rfl b2 t2 (hp_Bc (z := p) rfl b3 t3 (hp_Bc (z := s) rfl b4 t4 hp_Bn))))) hp_Fn (hp_Kc (zi := (0 + 0)) (zv := (0 + (1 * s + 0))) k0 rfl rfl (by omega) (by omega) (hp_Kc (zi := (0 + 0)) (zv := (0 + (1 * p + 0))) k1 rfl rfl (by omega) (by omega) hp_Kn)) (hp_La l0 (hp_Li (z := (0 + (1 * k + 0))) l1 rfl (by omega) (hp_Li (z := (0 + (1 * g + 0))) l2 rfl (by omega) (hp_Li (z := (0 + (1 * q + 0))) l3 rfl (by omega) (hp_Li (z := (1200 + (1 * q + 0))) l4 rfl (by omega) (hp_Li (z := (1 + 0)) l5 rfl (by omega) hp_Ln)))))) trivial ?_ ?_
  · intro p hp ys l' st' h' hys a1 a2 a3 gZ gL gS
    cases hp
  · intro p hp ys v h' hys a1 a2 a3 gZ gS
    rcases List.mem_cons.mp hp with rfl | hp
    · obtain rfl := hp_y0 hys
      cases v with
      | none => cases gS
      | some w =>
        obtain ⟨y0, t0, s0, q0, -⟩ := hp_gSi (z := (0 + 0)) gS rfl
        cases s0
        exact r0 h' y0 (by omega) a1 a2 a3 (hp_gK (zi := (0 + 0)) (zv := (1 + 0)) gZ.2.2.2 (List.mem_of_getElem? (i := 0) rfl) rfl rfl (by omega) (by omega)) (hp_gK (zi := (0 + 0)) (zv := (0 + (1 * p + 0))) gZ.2.2.2 (List.mem_of_getElem? (i := 1) rfl) rfl rfl (by omega) (by omega))
    cases hp
theorem yqT1_k : hq_chk [305] 304 347 5 [(0, 0, 16), (1, 0, 14), (2, 0, 39), (3, 0, 1200), (4, 4, 8)] [] [(0, .inr (.inr (.inl (some 94)))), (1, .inl (0, [(0, 1)])), (2, .inl (0, [(1, 1)])), (3, .inl (0, [(2, 1)])), (4, .inl (1200, [(2, 1)])), (5, .inl (1, []))] [] [(19971, (0, []), (0, [(4, 1)])), (19973, (0, []), (0, [(3, 1)]))] [19990, 19991] 8 [] [([], 5, [(0, 0, 16), (1, 0, 14), (2, 0, 39), (3, 0, 1200), (4, 4, 8)], [], [], [.inl (0, [])], [(19990, (0, []), (1, [])), (19991, (0, []), (0, [(3, 1)]))])] = true := by decide +kernel
theorem yqT1 {cst : am_K} {strs : List Nat} {Φ : am_Q → Prop} {D : Nat} {M : am_M} {h : am_H} {l : am_L} (c : hp_C cst strs D) (hM : m_P[304]? = some M) (hD : (8 : Int) ≤ (D : Int) + 1) (hy : ly_hy m_tt ly_TH h) (k g q p s : Int) (b0 : 0 ≤ k) (t0 : k ≤ 16) (b1 : 0 ≤ g) (t1 : g ≤ 14) (b2 : 0 ≤ q) (t2 : q ≤ 39) (b3 : 0 ≤ p) (t3 : p ≤ 1200) (b4 : 4 ≤ s) (t4 : s ≤ 8) (k0 : ly_hv cst h 19971 0 = some (s)) (k1 : ly_hv cst h 19973 0 = some (p)) (l0 : hp_a l 0 94) (l1 : hp_i l 1 (k)) (l2 : hp_i l 2 (g)) (l3 : hp_i l 3 (q)) (l4 : hp_i l 4 (q + 1200)) (l5 : hp_i l 5 1) (r0 : ∀ (h' : am_H) (y0 : Int32), y0.toInt = 0 → ly_hy m_tt ly_TH h' → ly_fr cst [19990, 19991] h h' → h.length ≤ h'.length → ly_hv cst h' 19990 0 = some 1 → ly_hv cst h' 19991 0 = some (p) → Φ (some (.int y0), h', 0, 0)) : hp_F cst strs Φ D M 347 l [] h := by
  refine hq_arc c hM yqT1_k hD [k, g, q, p, s] rfl hy (hp_Bc (z := k) rfl b0 t0 (hp_Bc (z := g) rfl b1 t1 (hp_Bc (z := q) rfl b2 t2 (hp_Bc (z := p) rfl b3 t3 (hp_Bc (z := s) rfl b4 t4 hp_Bn))))) hp_Fn (hp_Kc (zi := (0 + 0)) (zv := (0 + (1 * s + 0))) k0 rfl rfl (by omega) (by omega) (hp_Kc (zi := (0 + 0)) (zv := (0 + (1 * p + 0))) k1 rfl rfl (by omega) (by omega) hp_Kn)) (hp_La l0 (hp_Li (z := (0 + (1 * k + 0))) l1 rfl (by omega) (hp_Li (z := (0 + (1 * g + 0))) l2 rfl (by omega) (hp_Li (z := (0 + (1 * q + 0))) l3 rfl (by omega) (hp_Li (z := (1200 + (1 * q + 0))) l4 rfl (by omega) (hp_Li (z := (1 + 0)) l5 rfl (by omega) hp_Ln)))))) trivial ?_ ?_
  · intro p hp ys l' st' h' hys a1 a2 a3 gZ gL gS
    cases hp
  · intro p hp ys v h' hys a1 a2 a3 gZ gS
    rcases List.mem_cons.mp hp with rfl | hp
    · obtain rfl := hp_y0 hys
      cases v with
      | none => cases gS
      | some w =>
        obtain ⟨y0, t0, s0, q0, -⟩ := hp_gSi (z := (0 + 0)) gS rfl
        cases s0
        exact r0 h' y0 (by omega) a1 a2 a3 (hp_gK (zi := (0 + 0)) (zv := (1 + 0)) gZ.2.2.2 (List.mem_of_getElem? (i := 0) rfl) rfl rfl (by omega) (by omega)) (hp_gK (zi := (0 + 0)) (zv := (0 + (1 * p + 0))) gZ.2.2.2 (List.mem_of_getElem? (i := 1) rfl) rfl rfl (by omega) (by omega))
    cases hp
theorem yqU_k : hp_chk 304 347 3 [(0, 0, 16), (1, 0, 14), (2, 0, 39)] [] [(0, .inr (.inr (.inl (some 94)))), (1, .inl (0, [(0, 1)])), (2, .inl (0, [(1, 1)])), (3, .inl (0, [(2, 1)])), (4, .inl (1200, [(2, 1)])), (5, .inl (1, []))] [] [(19971, (0, []), (3, []))] [] 8 [(369, ([], 3, [(0, 0, 16), (1, 0, 14), (2, 0, 39)], [], [(0, .inr (.inr (.inl (some 94)))), (1, .inl (0, [(0, 1)])), (2, .inl (0, [(1, 1)])), (3, .inl (0, [(2, 1)])), (4, .inl (1200, [(2, 1)]))], [.inr (.inr (.inl (some 94)))], []))] [] = true := by decide +kernel
theorem yqU {cst : am_K} {strs : List Nat} {Φ : am_Q → Prop} {D : Nat} {M : am_M} {h : am_H} {l : am_L} (c : hp_C cst strs D) (hM : m_P[304]? = some M) (hD : (8 : Int) ≤ (D : Int) + 1) (hy : ly_hy m_tt ly_TH h) (k g q : Int) (b0 : 0 ≤ k) (t0 : k ≤ 16) (b1 : 0 ≤ g) (t1 : g ≤ 14) (b2 : 0 ≤ q) (t2 : q ≤ 39) (k0 : ly_hv cst h 19971 0 = some 3) (l0 : hp_a l 0 94) (l1 : hp_i l 1 (k)) (l2 : hp_i l 2 (g)) (l3 : hp_i l 3 (q)) (l4 : hp_i l 4 (q + 1200)) (l5 : hp_i l 5 1) (e0 : ∀ (l' : am_L) (h' : am_H), ly_hy m_tt ly_TH h' → ly_fr cst [] h h' → h.length ≤ h'.length → hp_a l' 0 94 → hp_i l' 1 (k) → hp_i l' 2 (g) → hp_i l' 3 (q) → hp_i l' 4 (q + 1200) → hp_F cst strs Φ D M 369 l' [.ref 94] h') : hp_F cst strs Φ D M 347 l [] h := by
  refine hp_arc c hM yqU_k hD [k, g, q] rfl hy (hp_Bc (z := k) rfl b0 t0 (hp_Bc (z := g) rfl b1 t1 (hp_Bc (z := q) rfl b2 t2 hp_Bn))) hp_Fn (hp_Kc (zi := (0 + 0)) (zv := (3 + 0)) k0 rfl rfl (by omega) (by omega) hp_Kn) (hp_La l0 (hp_Li (z := (0 + (1 * k + 0))) l1 rfl (by omega) (hp_Li (z := (0 + (1 * g + 0))) l2 rfl (by omega) (hp_Li (z := (0 + (1 * q + 0))) l3 rfl (by omega) (hp_Li (z := (1200 + (1 * q + 0))) l4 rfl (by omega) (hp_Li (z := (1 + 0)) l5 rfl (by omega) hp_Ln)))))) trivial ?_ ?_
  · intro p hp ys l' st' h' hys a1 a2 a3 gZ gL gS
    rcases List.mem_cons.mp hp with rfl | hp
    · obtain rfl := hp_y0 hys
      obtain ⟨t0, rfl, g0⟩ := hp_gSa gS (by decide)
      cases hp_gSn g0
      exact e0 l' h' a1 a2 a3 (hp_gLa gL (List.mem_of_getElem? (i := 0) rfl) (by decide)) (hp_gLi (z := (0 + (1 * k + 0))) gL (List.mem_of_getElem? (i := 1) rfl) rfl (by omega)) (hp_gLi (z := (0 + (1 * g + 0))) gL (List.mem_of_getElem? (i := 2) rfl) rfl (by omega)) (hp_gLi (z := (0 + (1 * q + 0))) gL (List.mem_of_getElem? (i := 3) rfl) rfl (by omega)) (hp_gLi (z := (1200 + (1 * q + 0))) gL (List.mem_of_getElem? (i := 4) rfl) rfl (by omega))
    cases hp
  · intro p hp ys v h' hys a1 a2 a3 gZ gS
    cases hp
theorem yqV_k : hp_chk 304 372 3 [(0, 0, 16), (1, 0, 14), (2, 0, 39)] [] [(0, .inr (.inr (.inl (some 94)))), (1, .inl (0, [(0, 1)])), (2, .inl (0, [(1, 1)])), (3, .inl (0, [(2, 1)])), (4, .inl (1200, [(2, 1)]))] [] [(23296, (30, []), (0, [(2, 1)]))] [] 8 [(382, ([], 3, [(0, 0, 16), (1, 0, 14), (2, 0, 39)], [], [(0, .inr (.inr (.inl (some 94))))], [.inl (1, [(2, 1)]), .inl (30, []), .inr (.inr (.inl (some 107)))], []))] [] = true := by decide +kernel
theorem yqV {cst : am_K} {strs : List Nat} {Φ : am_Q → Prop} {D : Nat} {M : am_M} {h : am_H} {l : am_L} (c : hp_C cst strs D) (hM : m_P[304]? = some M) (hD : (8 : Int) ≤ (D : Int) + 1) (hy : ly_hy m_tt ly_TH h) (k g q : Int) (b0 : 0 ≤ k) (t0 : k ≤ 16) (b1 : 0 ≤ g) (t1 : g ≤ 14) (b2 : 0 ≤ q) (t2 : q ≤ 39) (k0 : ly_hv cst h 23296 30 = some (q)) (l0 : hp_a l 0 94) (l1 : hp_i l 1 (k)) (l2 : hp_i l 2 (g)) (l3 : hp_i l 3 (q)) (l4 : hp_i l 4 (q + 1200)) (e0 : ∀ (l' : am_L) (h' : am_H) (y0 : Int32) (y1 : Int32), y0.toInt = (q + 1) → y1.toInt = 30 → ly_hy m_tt ly_TH h' → ly_fr cst [] h h' → h.length ≤ h'.length → hp_a l' 0 94 → hp_F cst strs Φ D M 382 l' [.int y0, .int y1, .ref 107] h') : hp_F cst strs Φ D M 372 l [] h := by
  refine hp_arc c hM yqV_k hD [k, g, q] rfl hy (hp_Bc (z := k) rfl b0 t0 (hp_Bc (z := g) rfl b1 t1 (hp_Bc (z := q) rfl b2 t2 hp_Bn))) hp_Fn (hp_Kc (zi := (30 + 0)) (zv := (0 + (1 * q + 0))) k0 rfl rfl (by omega) (by omega) hp_Kn) (hp_La l0 (hp_Li (z := (0 + (1 * k + 0))) l1 rfl (by omega) (hp_Li (z := (0 + (1 * g + 0))) l2 rfl (by omega) (hp_Li (z := (0 + (1 * q + 0))) l3 rfl (by omega) (hp_Li (z := (1200 + (1 * q + 0))) l4 rfl (by omega) hp_Ln))))) trivial ?_ ?_
  · intro p hp ys l' st' h' hys a1 a2 a3 gZ gL gS
    rcases List.mem_cons.mp hp with rfl | hp
    · obtain rfl := hp_y0 hys
      obtain ⟨y0, t0, rfl, q0, g0⟩ := hp_gSi (z := (1 + (1 * q + 0))) gS rfl
      obtain ⟨y1, t1, rfl, q1, g1⟩ := hp_gSi (z := (30 + 0)) g0 rfl
      obtain ⟨t2, rfl, g2⟩ := hp_gSa g1 (by decide)
      cases hp_gSn g2
      exact e0 l' h' y0 y1 (by omega) (by omega) a1 a2 a3 (hp_gLa gL (List.mem_of_getElem? (i := 0) rfl) (by decide))
    cases hp
  · intro p hp ys v h' hys a1 a2 a3 gZ gS
    cases hp
theorem yqW_k : hp_chk 304 383 0 [] [] [(0, .inr (.inr (.inl (some 94))))] [] [] [] 8 [] [([], 0, [], [], [], [.inl (1, [])], [])] = true := by decide +kernel
theorem yqW {cst : am_K} {strs : List Nat} {Φ : am_Q → Prop} {D : Nat} {M : am_M} {h : am_H} {l : am_L} (c : hp_C cst strs D) (hM : m_P[304]? = some M) (hD : (8 : Int) ≤ (D : Int) + 1) (hy : ly_hy m_tt ly_TH h) (l0 : hp_a l 0 94) (r0 : ∀ (h' : am_H) (y0 : Int32), y0.toInt = 1 → ly_hy m_tt ly_TH h' → ly_fr cst [] h h' → h.length ≤ h'.length → Φ (some (.int y0), h', 0, 0)) : hp_F cst strs Φ D M 383 l [] h := by
  refine hp_arc c hM yqW_k hD [] rfl hy hp_Bn hp_Fn hp_Kn (hp_La l0 hp_Ln) trivial ?_ ?_
  · intro p hp ys l' st' h' hys a1 a2 a3 gZ gL gS
    cases hp
  · intro p hp ys v h' hys a1 a2 a3 gZ gS
    rcases List.mem_cons.mp hp with rfl | hp
    · obtain rfl := hp_y0 hys
      cases v with
      | none => cases gS
      | some w =>
        obtain ⟨y0, t0, s0, q0, -⟩ := hp_gSi (z := (1 + 0)) gS rfl
        cases s0
        exact r0 h' y0 (by omega) a1 a2 a3
    cases hp
theorem fn_ex {cst : am_K} {h : am_H} {r : Nat} {o v : Int} {ns : List Int} (A : fn_N cst h r o ns) (k : ly_hv cst h r (o + (ns.length : Int)) = some v) : fn_N cst h r o (ns ++ [v]) := fun j hj => by
  rw [List.length_append, List.length_singleton] at hj
  by_cases z : j = ns.length
  · subst z
    rw [List.getElem_append_right (Nat.le_refl _)]
    simp only [Nat.sub_self, List.getElem_singleton]
    exact k
  · rw [List.getElem_append_left (by omega)]
    exact A j (by omega)
/-- number and how many of a clause, as the reference keeps them -/
def rz_n (x : cl) : Int := if x.1 < 2 then 0 else x.2.2.1
def rz_m (x : cl) : Int := if x.1 < 2 then x.2.2.1 else 0
abbrev qt_Z : Type := Int × Int × Int
/-- the clauses of the draft; of each where its tests or words begin, where its steps begin, how many -/
def rz (cst : am_K) (h : am_H) (C : List cl) (Z : List qt_Z) : Prop := ly_hv cst h 23296 30 = some (C.length : Int) ∧ fn_N cst h 23552 1200 (C.map fun x => x.1) ∧ fn_N cst h 23808 1200 (C.map fun x => x.2.1) ∧ fn_N cst h 24064 1200 (C.map rz_n) ∧ fn_N cst h 24576 1200 (C.map rz_m) ∧ Z.length = C.length ∧ fn_N cst h 24320 1200 (Z.map fun x => x.1) ∧ fn_N cst h 24832 1200 (Z.map fun x => x.2.1) ∧ fn_N cst h 25088 1200 (Z.map fun x => x.2.2)
/-- what a clause of the class says is what the reference keeps of it -/
def rz_1 (x : cl) (z : qt_Z) (T : List qt_T) (S W : List Int) : Prop := (x.1 = 0 → ∃ (V : List (qt_T ⊕ Int)) (S2 : List Int) (A B : List qt_T) (A' B' : List Int) (m : Nat), x.2.2.2 = qv_e V ∧ T = A ++ qv_t V ++ B ∧ (A.length : Int) = z.1 ∧ S = A' ++ S2 ++ B' ∧ (A'.length : Int) = z.2.1 ∧ (S2.length : Int) = z.2.2 ∧ x.2.2.1 = (m : Int) ∧ qv_q V S2 0 m ∧ m ≤ 20) ∧ (x.1 = 1 → x.2.2.1 = (x.2.2.2.length : Int) ∧ x.2.2.2.length ≤ 8 ∧ ∃ A B : List Int, W = A ++ x.2.2.2 ++ B ∧ (A.length : Int) = z.1)
theorem rz_1a {x : cl} {z : qt_Z} {T T' : List qt_T} {S W S' W' : List Int} (h : rz_1 x z T S W) : rz_1 x z (T ++ T') (S ++ S') (W ++ W') := by
  refine ⟨fun e => ?_, fun e => ?_⟩
  · obtain ⟨V, S2, A, B, A', B', m, a1, a2, a3, a4, a5⟩ := h.1 e
    exact ⟨V, S2, A, B ++ T', A', B' ++ S', m, a1, by rw [a2]; simp only [List.append_assoc], a3, by rw [a4]; simp only [List.append_assoc], a5⟩
  · obtain ⟨a0, a1, A, B, a2, a3⟩ := h.2 e
    exact ⟨a0, a1, A, B ++ W', by rw [a2]; simp only [List.append_assoc], a3⟩
def rz_R (C : List cl) (Z : List qt_Z) (T : List qt_T) (S W : List Int) : Prop := ∀ k (hk : k < C.length) (hz : k < Z.length), rz_1 (C[k]) (Z[k]) T S W
theorem rz_Ra {C : List cl} {Z : List qt_Z} {x : cl} {z : qt_Z} {T T' : List qt_T} {S W S' W' : List Int} (h : rz_R C Z T S W) (e : Z.length = C.length) (n : rz_1 x z (T ++ T') (S ++ S') (W ++ W')) : rz_R (C ++ [x]) (Z ++ [z]) (T ++ T') (S ++ S') (W ++ W') := fun k hk hz => by
  rw [List.length_append, List.length_singleton] at hk hz
  by_cases q : k < C.length
  · rw [List.getElem_append_left q, List.getElem_append_left (by omega)]
    exact rz_1a (h k q (by omega))
  · rw [List.getElem_append_right (by omega), List.getElem_append_right (by omega)]
    simp only [List.getElem_singleton]
    exact n
/-- where the reference stands ahead of a clause -/
def yJ (cst : am_K) (h : am_H) (f : Int → Int) (n : Int) (t : Nat) (kd pl vl : Int → Int) (en : Nat → Int) (A : Int) (a : Nat) (C : List cl) (Z : List qt_Z) (T : List qt_T) (S W : List Int) : Prop := rq cst h f n t kd pl vl en a ∧ rz cst h C Z ∧ qt_D cst h T ∧ qt_S cst h S ∧ qt_W cst h W ∧ (3 * (T.length : Int) ≤ en a ∧ 3 * (S.length : Int) ≤ 2 * en a ∧ 2 * ((qt_g T).length : Int) ≤ en a) ∧ W.length ≤ 8 * C.length ∧ C.length ≤ 40 ∧ rz_R C Z T S W ∧ a ≤ t ∧ ly_hv cst h 19989 0 = some A
def yq_g (kd : Int → Int) (t : Nat) (g : Int) (R : (Int × Nat) ⊕ (Nat × Int × Int × List Int)) : (Int × Nat) ⊕ (Nat × cl) := match R with
  | .inl f => .inl f
  | .inr (e, d, n, L) => if fk kd t e ≠ 59 then .inl (1, e) else .inr (e + 1, (g, d, n, L))
/-- a clause -/
def yq_c (kd vl : Int → Int) (t : Nat) (A : Int) (C : List cl) (a : Nat) : (Int × Nat) ⊕ (Nat × cl) := if ak kd vl t a < 0 ∨ 16 < ak kd vl t a then .inl (1, a) else if 7 ≤ kf (ak kd vl t a) ∧ kf (ak kd vl t a) ≤ 13 ∧ tl (kf (ak kd vl t a)) 0 C = true then .inl (3, a) else if C.length = 40 then .inl (4, a) else if kf (ak kd vl t a) < 7 ∧ fk kd t (a + 1) ≠ 1 then .inl (1, a + 1) else if kf (ak kd vl t a) < 7 ∧ tl (kf (ak kd vl t a)) (vl ((a + 1 : Nat) : Int)) C = true then .inl (3, a + 1) else yq_g kd t (kf (ak kd vl t a)) (bo kd vl t A (ak kd vl t a) (if kf (ak kd vl t a) < 7 then vl ((a + 1 : Nat) : Int) else 0) (if kf (ak kd vl t a) < 7 then a + 2 else a + 1))
set_option maxRecDepth 8000 in
theorem tx_c {kd vl : Int → Int} {t : Nat} {A : Int} {F a : Nat} {C : List cl} (h : fk kd t a ≠ 0) : tx kd vl t A (F + 1) a C = (match yq_c kd vl t A C a with
    | .inl f => .inl f
    | .inr (b, x) => tx kd vl t A F b (C ++ [x])) := by
  rw [tx, if_neg h]
  unfold yq_c
  by_cases h1 : ak kd vl t a < 0 ∨ 16 < ak kd vl t a
  · rw [if_pos h1, if_pos h1]
  rw [if_neg h1, if_neg h1]
  by_cases h2 : 7 ≤ kf (ak kd vl t a) ∧ kf (ak kd vl t a) ≤ 13 ∧ tl (kf (ak kd vl t a)) 0 C = true
  · rw [if_pos h2, if_pos h2]
  rw [if_neg h2, if_neg h2]
  by_cases h3 : C.length = 40
  · rw [if_pos h3, if_pos h3]
  rw [if_neg h3, if_neg h3]
  by_cases h4 : kf (ak kd vl t a) < 7 ∧ fk kd t (a + 1) ≠ 1
  · rw [if_pos h4, if_pos h4]
  rw [if_neg h4, if_neg h4]
  by_cases h5 : kf (ak kd vl t a) < 7 ∧ tl (kf (ak kd vl t a)) (vl ((a + 1 : Nat) : Int)) C = true
  · rw [if_pos h5, if_pos h5]
  rw [if_neg h5, if_neg h5]
  unfold yq_g
  cases hb : bo kd vl t A (ak kd vl t a) (if kf (ak kd vl t a) < 7 then vl ((a + 1 : Nat) : Int) else 0) (if kf (ak kd vl t a) < 7 then a + 2 else a + 1) with
  | inl q => rfl
  | inr q =>
    obtain ⟨e, d, n, L⟩ := q
    simp only
    by_cases h6 : fk kd t e ≠ 59
    · rw [if_pos h6, if_pos h6]
    · rw [if_neg h6, if_neg h6]
theorem yq_1 {kd : Int → Int} {t e : Nat} {g d n : Int} {L : List Int} (h : fk kd t e = 59) : yq_g kd t g (.inr (e, d, n, L)) = .inr (e + 1, (g, d, n, L)) := if_neg (fun z => z h)
theorem yq_2 {kd : Int → Int} {t e : Nat} {g d n : Int} {L : List Int} (h : fk kd t e ≠ 59) : yq_g kd t g (.inr (e, d, n, L)) = .inl (1, e) := if_pos h
theorem bo_n {kd vl : Int → Int} {t b : Nat} {A k d lo hi : Int} (vb : vB kd vl t) (k0 : k ≠ 0) (k1 : k ≠ 1) (k16 : k ≠ 16) (kn : k = 3 ∨ (8 ≤ k ∧ k ≤ 13)) (hlo : (k = 8 ∧ lo = 1) ∨ (k ≠ 8 ∧ lo = 0)) (hhi : (if k = 3 ∨ k = 9 then (9999 : Int) else if k = 10 then 4 else if k = 13 then 23 else 12) = hi) : bo kd vl t A k d b = (match yn_f kd vl t lo hi b with
    | .inl f => .inl f
    | .inr (e, v) => .inr (e, d, v, [])) := by
  unfold bo yn_f
  rw [if_neg k0, if_neg k1, if_neg k16, if_pos kn, hhi]
  by_cases q : fk kd t b ≠ 2
  · rw [if_pos q, if_pos q]
  rw [if_neg q, if_neg q]
  have q2 : fk kd t b = 2 := Decidable.not_not.mp q
  have lt : b < t := fk_in (kd := kd) (by rw [q2]; decide)
  have v0 := ((vb b lt).2 (by rw [← fk_lt (kd := kd) lt]; exact q2)).1
  by_cases c : vl (b : Int) < lo ∨ hi < vl (b : Int)
  · rw [if_pos (show (k = 8 ∧ vl (b : Int) < 1) ∨ hi < vl (b : Int) by omega), if_pos c]
  · rw [if_neg (show ¬ ((k = 8 ∧ vl (b : Int) < 1) ∨ hi < vl (b : Int)) by omega), if_neg c]
theorem bo_k {kd vl : Int → Int} {t b : Nat} {A d : Int} (vb : vB kd vl t) : bo kd vl t A 16 d b = (match yk_f kd vl t A b with
    | .inl f => .inl f
    | .inr (e, d', v) => .inr (e, d', v, [])) := by
  unfold bo yk_f yn_f
  rw [if_neg (by decide), if_neg (by decide), if_pos rfl]
  by_cases q : fk kd t b ≠ 2
  · rw [if_pos q, if_pos q]
  rw [if_neg q, if_neg q]
  have q2 : fk kd t b = 2 := Decidable.not_not.mp q
  have lt : b < t := fk_in (kd := kd) (by rw [q2]; decide)
  have v0 := ((vb b lt).2 (by rw [← fk_lt (kd := kd) lt]; exact q2)).1
  by_cases c : vl (b : Int) < 0 ∨ A - 1 < vl (b : Int)
  · rw [if_pos (show A ≤ vl (b : Int) by omega), if_pos c]
  rw [if_neg (show ¬ A ≤ vl (b : Int) by omega), if_neg c]
  simp only
  by_cases z : fk kd t (b + 1) = 1
  · rw [if_pos z, if_pos z]
  · rw [if_neg z, if_neg z]
theorem bo_w {kd vl : Int → Int} {t b : Nat} {A d : Int} : bo kd vl t A 1 d b = (match yw_f kd vl t b with
    | .inl f => .inl f
    | .inr (e, L) => .inr (e, d, (L.length : Int), L)) := by
  unfold bo yw_f
  rw [if_neg (by decide), if_pos rfl]
  by_cases q : fk kd t b ≠ 1
  · rw [if_pos q, if_pos q]
  · rw [if_neg q, if_neg q]
    cases wo kd vl t 8 b [] <;> rfl
theorem bo_o {kd vl : Int → Int} {t b : Nat} {A k d : Int} (k0 : k ≠ 0) (k1 : k ≠ 1) (k16 : k ≠ 16) (kn : ¬ (k = 3 ∨ (8 ≤ k ∧ k ≤ 13))) : bo kd vl t A k d b = .inr (b, d, if k = 5 ∨ k = 15 then 0 else 1, []) := by
  unfold bo
  rw [if_neg k0, if_neg k1, if_neg k16, if_neg kn]
theorem tkT_le {f : Int → Int} {n : Int} {t : Nat} {kd pl vl : Int → Int} {en : Nat → Int} (T : tkT f n t kd pl vl en) {a b : Nat} (h : a ≤ b) (hb : b ≤ t) : en a + ((b : Int) - (a : Int)) ≤ en b := by
  have mo : en a + ((b - a : Nat) : Int) ≤ en (a + (b - a)) := tkT_mono T (b - a) a (by omega)
  rw [show a + (b - a) = b by omega] at mo
  omega
theorem scz304_369 {cst : am_K} {strs : List Nat} {Φ : am_Q → Prop} {D : Nat} {M : am_M} {h : am_H} {l : am_L} {st : List Value} (cc : ∀ d, hp_C cst strs d) (hM : m_P[304]? = some M) (hD : 8 ≤ D) (hy : ly_hy m_tt ly_TH h) {f : Int → Int} {n : Int} {t : Nat} {kd pl vl : Int → Int} {en : Nat → Int} {a : Nat} (R : rq cst h f n t kd pl vl en a) (hst : (st.map fun v => v.category).sum ≤ 8)
    (k : ∀ h', ly_hy m_tt ly_TH h' → ly_fr cst [19971, 19972, 19973, 19974, 19975, 19976] h h' → gl true cst h h' → rq cst h' f n t kd pl vl en (a + 1) → hp_F cst strs Φ D M 372 l st h') : hp_F cst strs Φ D M 369 l (.ref 94 :: st) h := by
  obtain ⟨E, rfl⟩ : ∃ E, D = E + 1 := ⟨D - 1, by omega⟩
  obtain ⟨r, hrun, r1, r2, r3, rhy, rfr, rR⟩ := rq_scan (D := E) (cc _) (by omega) hy R
  refine hp_call (mi := 304) (pc := 369) (tg := 299) (na := 1) (c := 78) (ci := 12) (st0 := [.ref 94]) (st := st) (av := []) hM (by decide +kernel) hy rfl rfl rfl hst hrun r2 r3 ?_
  rw [r1]
  exact k _ rhy rfr (gl_fr rfr rfl) rR
theorem scz304_127 {cst : am_K} {strs : List Nat} {Φ : am_Q → Prop} {D : Nat} {M : am_M} {h : am_H} {l : am_L} {st : List Value} (cc : ∀ d, hp_C cst strs d) (hM : m_P[304]? = some M) (hD : 8 ≤ D) (hy : ly_hy m_tt ly_TH h) {f : Int → Int} {n : Int} {t : Nat} {kd pl vl : Int → Int} {en : Nat → Int} {a : Nat} (R : rq cst h f n t kd pl vl en a) (hst : (st.map fun v => v.category).sum ≤ 8)
    (k : ∀ h', ly_hy m_tt ly_TH h' → ly_fr cst [19971, 19972, 19973, 19974, 19975, 19976] h h' → gl true cst h h' → rq cst h' f n t kd pl vl en (a + 1) → hp_F cst strs Φ D M 130 l st h') : hp_F cst strs Φ D M 127 l (.ref 94 :: st) h := by
  obtain ⟨E, rfl⟩ : ∃ E, D = E + 1 := ⟨D - 1, by omega⟩
  obtain ⟨r, hrun, r1, r2, r3, rhy, rfr, rR⟩ := rq_scan (D := E) (cc _) (by omega) hy R
  refine hp_call (mi := 304) (pc := 127) (tg := 299) (na := 1) (c := 78) (ci := 12) (st0 := [.ref 94]) (st := st) (av := []) hM (by decide +kernel) hy rfl rfl rfl hst hrun r2 r3 ?_
  rw [r1]
  exact k _ rhy rfr (gl_fr rfr rfl) rR
theorem scz304_181 {cst : am_K} {strs : List Nat} {Φ : am_Q → Prop} {D : Nat} {M : am_M} {h : am_H} {l : am_L} {st : List Value} (cc : ∀ d, hp_C cst strs d) (hM : m_P[304]? = some M) (hD : 8 ≤ D) (hy : ly_hy m_tt ly_TH h) {f : Int → Int} {n : Int} {t : Nat} {kd pl vl : Int → Int} {en : Nat → Int} {a : Nat} (R : rq cst h f n t kd pl vl en a) (hst : (st.map fun v => v.category).sum ≤ 8)
    (k : ∀ h', ly_hy m_tt ly_TH h' → ly_fr cst [19971, 19972, 19973, 19974, 19975, 19976] h h' → gl true cst h h' → rq cst h' f n t kd pl vl en (a + 1) → hp_F cst strs Φ D M 184 l st h') : hp_F cst strs Φ D M 181 l (.ref 94 :: st) h := by
  obtain ⟨E, rfl⟩ : ∃ E, D = E + 1 := ⟨D - 1, by omega⟩
  obtain ⟨r, hrun, r1, r2, r3, rhy, rfr, rR⟩ := rq_scan (D := E) (cc _) (by omega) hy R
  refine hp_call (mi := 304) (pc := 181) (tg := 299) (na := 1) (c := 78) (ci := 12) (st0 := [.ref 94]) (st := st) (av := []) hM (by decide +kernel) hy rfl rfl rfl hst hrun r2 r3 ?_
  rw [r1]
  exact k _ rhy rfr (gl_fr rfr rfl) rR
theorem kw_3l {v : Int} (h0 : 0 ≤ kw v) (h1 : kw v ≤ 16) : 1024 ≤ v := by
  by_cases z0 : kw v = 0
  · have := kw_0 z0
    omega
  by_cases z1 : kw v = 1
  · have := kw_1 z1
    omega
  by_cases z2 : kw v = 2
  · have := kw_2 z2
    omega
  by_cases z3 : kw v = 3
  · have := kw_3 z3
    omega
  by_cases z4 : kw v = 4
  · have := kw_4 z4
    omega
  by_cases z5 : kw v = 5
  · have := kw_5 z5
    omega
  by_cases z6 : kw v = 6
  · have := kw_6 z6
    omega
  by_cases z7 : kw v = 7
  · have := kw_7 z7
    omega
  by_cases z8 : kw v = 8
  · have := kw_8 z8
    omega
  by_cases z9 : kw v = 9
  · have := kw_9 z9
    omega
  by_cases z10 : kw v = 10
  · have := kw_10 z10
    omega
  by_cases z11 : kw v = 11
  · have := kw_11 z11
    omega
  by_cases z12 : kw v = 12
  · have := kw_12 z12
    omega
  by_cases z13 : kw v = 13
  · have := kw_13 z13
    omega
  by_cases z14 : kw v = 14
  · have := kw_14 z14
    omega
  by_cases z15 : kw v = 15
  · have := kw_15 z15
    omega
  by_cases z16 : kw v = 16
  · have := kw_16 z16
    omega
  omega
theorem yJ_mv {cst : am_K} {h h' : am_H} {f : Int → Int} {n : Int} {t : Nat} {kd pl vl : Int → Int} {en : Nat → Int} {A : Int} {a : Nat} {C : List cl} {Z : List qt_Z} {T : List qt_T} {S W : List Int} (I : yJ cst h f n t kd pl vl en A a C Z T S W) (hy : ly_hy m_tt ly_TH h) (hy' : ly_hy m_tt ly_TH h') (fr : ly_fr cst [] h h') : yJ cst h' f n t kd pl vl en A a C Z T S W := by
  obtain ⟨R, ⟨cm, r1, r2, r3, r4, zl, r5, r6, r7⟩, X, Y, WW, p, wl, c40, rel, ha, kA⟩ := I
  exact ⟨rq_mv R hy hy' fr rfl, ⟨fr _ _ _ rfl cm, fn_mv r1 fr rfl, fn_mv r2 fr rfl, fn_mv r3 fr rfl, fn_mv r4 fr rfl, zl, fn_mv r5 fr rfl, fn_mv r6 fr rfl, fn_mv r7 fr rfl⟩, qt_D_mv X fr rfl, qt_S_mv Y fr rfl rfl, qt_W_mv WW fr rfl rfl, p, wl, c40, rel, ha, fr _ _ _ rfl kA⟩
/-- a clause at its end -/
theorem yq_e {cst : am_K} {strs : List Nat} {D : Nat} {M : am_M} {h0 h : am_H} {l : am_L} (cc : ∀ d, hp_C cst strs d) (hM : m_P[304]? = some M) (hD : 9 ≤ D) (hy : ly_hy m_tt ly_TH h) {f : Int → Int} {n : Int} {t : Nat} {kd pl vl : Int → Int} {en : Nat → Int} (kb : kB kd t) {A : Int} {a e : Nat} {C : List cl} {Z : List qt_Z} {T' : List qt_T} {S' W' : List Int} {x : cl} {z : qt_Z} {kk gg : Int} (kk0 : 0 ≤ kk) (kk1 : kk ≤ 16) (gg0 : 0 ≤ gg) (gg1 : gg ≤ 14) (fr : ly_fr cst [19971, 19972, 19973, 19974, 19975, 19976, 19990, 19991, 20010, 20011, 20012, 20013, 20014, 20015, 20016, 23296, 23552, 23808, 24064, 24320, 24576, 24832, 25088, 25344, 25600, 25856, 26112, 26368, 26624, 26880, 27136, 60020, 60030, 60031, 60032, 60033, 60034, 60035, 60036, 60037, 60038, 60039, 60040, 60050, 60060, 60061, 60070, 60071] h0 h) (g : gl true cst h0 h) (e1 : fk kd t e = 59 → yq_c kd vl t A C a = .inr (e + 1, x)) (e2 : fk kd t e ≠ 59 → yq_c kd vl t A C a = .inl (1, e)) (R : rq cst h f n t kd pl vl en e) (cm : ly_hv cst h 23296 30 = some (C.length : Int)) (r1 : fn_N cst h 23552 1200 ((C.map fun x => x.1) ++ [x.1])) (r2 : fn_N cst h 23808 1200 ((C.map fun x => x.2.1) ++ [x.2.1])) (r3 : fn_N cst h 24064 1200 (C.map rz_n ++ [rz_n x])) (r4 : fn_N cst h 24576 1200 (C.map rz_m ++ [rz_m x])) (zl : Z.length = C.length) (r5 : fn_N cst h 24320 1200 ((Z.map fun x => x.1) ++ [z.1])) (r6 : fn_N cst h 24832 1200 ((Z.map fun x => x.2.1) ++ [z.2.1])) (r7 : fn_N cst h 25088 1200 ((Z.map fun x => x.2.2) ++ [z.2.2])) (X : qt_D cst h T') (Y : qt_S cst h S') (WW : qt_W cst h W') (po : 3 * (T'.length : Int) ≤ en e ∧ 3 * (S'.length : Int) ≤ 2 * en e ∧ 2 * ((qt_g T').length : Int) ≤ en e + 1) (wl : W'.length ≤ 8 * (C.length + 1)) (c39 : C.length ≤ 39) (rel : rz_R (C ++ [x]) (Z ++ [z]) T' S' W') (kA : ly_hv cst h 19989 0 = some A) (ae : a < e) (et : e ≤ t) (l0 : hp_a l 0 94) (l1 : hp_i l 1 kk) (l2 : hp_i l 2 gg) (l3 : hp_i l 3 (C.length : Int)) (l4 : hp_i l 4 ((C.length : Int) + 1200)) (l5 : hp_i l 5 1) : hp_F cst strs (gR cst h0 [19971, 19972, 19973, 19974, 19975, 19976, 19990, 19991, 20010, 20011, 20012, 20013, 20014, 20015, 20016, 23296, 23552, 23808, 24064, 24320, 24576, 24832, 25088, 25344, 25600, 25856, 26112, 26368, 26624, 26880, 27136, 60020, 60030, 60031, 60032, 60033, 60034, 60035, 60036, 60037, 60038, 60039, 60040, 60050, 60060, 60061, 60070, 60071] pl t n (yq_c kd vl t A C a) (fun y h9 => a < y.1 ∧ ∃ Z9 T9 S9 W9, yJ cst h9 f n t kd pl vl en A y.1 (C ++ [y.2]) Z9 T9 S9 W9)) D M 347 l [] h := by
  have c := cc D
  have TT := R.1.1
  have n1 := R.1.2.2.1
  have ks := rs_so R.2.1
  have kp := R.2.2.2
  have pb := pa_b R.1.1 R.1.2.1 e
  have b0 := (rk_b kd t e kb).1
  have b8 := (rk_b kd t e kb).2.1
  obtain ⟨p1, p2, p3⟩ := po
  by_cases q3 : fk kd t e = 59
  rotate_left
  · have n3 : rk kd t e ≠ 3 := fun z => q3 ((rk_i3 kb e).mp z)
    by_cases z : rk kd t e ≤ 2
    · exact yqT0 c hM (by omega) hy kk gg (C.length : Int) (pa pl t n e) (rk kd t e) kk0 kk1 gg0 gg1 (by omega) (by omega) pb.1 (by omega) b0 z ks kp l0 l1 l2 l3 l4 l5 (fun h2 w hw u1 u2 u3 k1 k2 => gR_f (e2 q3) hw u1 (ly_fr_tr fr (hp_sub2 rfl u2)) (gf_tr g (gl_fr u2 rfl)) k1 k2)
    · exact yqT1 c hM (by omega) hy kk gg (C.length : Int) (pa pl t n e) (rk kd t e) kk0 kk1 gg0 gg1 (by omega) (by omega) pb.1 (by omega) (by omega) b8 ks kp l0 l1 l2 l3 l4 l5 (fun h2 w hw u1 u2 u3 k1 k2 => gR_f (e2 q3) hw u1 (ly_fr_tr fr (hp_sub2 rfl u2)) (gf_tr g (gl_fr u2 rfl)) k1 k2)
  rw [(rk_i3 kb e).mpr q3] at ks
  have lt : e < t := fk_in (kd := kd) (by rw [q3]; decide)
  have en1 := tkT_1 TT lt
  refine yqU c hM (by omega) hy kk gg (C.length : Int) kk0 kk1 gg0 gg1 (by omega) (by omega) ks l0 l1 l2 l3 l4 l5 (fun l2' h2 u1 u2 u3 m0 m1 m2 m3 m4 => ?_)
  refine scz304_369 cc hM (by omega) u1 (rq_mv R hy u1 u2 rfl) (by decide) (fun h3 v1 v2 v3 v4 => ?_)
  have F3 : ly_fr cst [19971, 19972, 19973, 19974, 19975, 19976] h h3 := ly_fr_tr (hp_sub2 rfl u2) v2
  refine yqV c hM (by omega) v1 kk gg (C.length : Int) kk0 kk1 gg0 gg1 (by omega) (by omega) (F3 _ _ _ rfl cm) m0 m1 m2 m3 m4 (fun l4' h4 y0 y1 f0 f1 w1 w2 w3 o0 => ?_)
  refine hp_st0 (c := 91) hM (by decide +kernel) w1 (show ly_ths ly_TH 91 = some (.inl (.int, 31, 0, 40)) from rfl) (by omega) (by omega) (by omega) (by omega) (fun h5 s1 s2 s3 => ?_)
  rw [f0, show y1.toInt = 30 + ((0 : Nat) : Int) by omega] at s3
  have s3 : hp_p0 cst 23296 (30 + ((0 : Nat) : Int)) ((C.length : Int) + 1) h4 h5 := s3
  have F5 : ly_fr cst [23296, 60020, 60030, 60031, 60032, 60033, 60034, 60035, 60036, 60037, 60038, 60039, 60040, 60060, 60061] h4 h5 := hp_p0_fr s3 (by decide) rfl rfl
  refine yqW c hM (by omega) s1 o0 (fun h6 w hw x1 x2 x3 => ?_)
  have F6 : ly_fr cst [19971, 19972, 19973, 19974, 19975, 19976, 23296, 60020, 60030, 60031, 60032, 60033, 60034, 60035, 60036, 60037, 60038, 60039, 60040, 60060, 60061] h h6 := ly_fr_tr (hp_sub2 rfl F3) (ly_fr_tr (hp_sub2 rfl w2) (ly_fr_tr (hp_sub2 rfl F5) (hp_sub2 rfl x2)))
  have F36 : ly_fr cst [23296, 60020, 60030, 60031, 60032, 60033, 60034, 60035, 60036, 60037, 60038, 60039, 60040, 60060, 60061] h3 h6 := ly_fr_tr (hp_sub2 rfl w2) (ly_fr_tr F5 (hp_sub2 rfl x2))
  refine gR_s (e1 q3) hw x1 (ly_fr_tr fr (hp_sub2 rfl F6)) (gl_tr g (gl_tr (gl_fr F3 rfl) (gl_tr (gl_fr w2 rfl) (gl_tr (gl_p0 s3 (by decide)) (gl_fr x2 rfl))))) ⟨by show a < e + 1; omega, Z ++ [z], T', S', W', rq_mv v4 v1 x1 F36 rfl, ⟨?_, ?_, ?_, ?_, ?_, ?_, ?_, ?_, ?_⟩, qt_D_mv X F6 rfl, qt_S_mv Y F6 rfl rfl, qt_W_mv WW F6 rfl rfl, ⟨by show 3 * (T'.length : Int) ≤ en (e + 1); omega, by show 3 * (S'.length : Int) ≤ 2 * en (e + 1); omega, by show 2 * ((qt_g T').length : Int) ≤ en (e + 1); omega⟩, ?_, ?_, rel, lt, F6 _ _ _ rfl kA⟩
  · rw [List.length_append, List.length_singleton]
    refine x2 _ _ _ rfl ?_
    rw [ly_hv0 (by decide)]
    exact s3.1
  · rw [List.map_append, List.map_singleton]
    exact fn_mv r1 F6 rfl
  · rw [List.map_append, List.map_singleton]
    exact fn_mv r2 F6 rfl
  · rw [List.map_append, List.map_singleton]
    exact fn_mv r3 F6 rfl
  · rw [List.map_append, List.map_singleton]
    exact fn_mv r4 F6 rfl
  · rw [List.length_append, List.length_append, zl]
    rfl
  · rw [List.map_append, List.map_singleton]
    exact fn_mv r5 F6 rfl
  · rw [List.map_append, List.map_singleton]
    exact fn_mv r6 F6 rfl
  · rw [List.map_append, List.map_singleton]
    exact fn_mv r7 F6 rfl
  · rw [List.length_append, List.length_singleton]
    exact wl
  · rw [List.length_append, List.length_singleton]
    omega
/-- the bodies of clauses -/
theorem yq_b {cst : am_K} {strs : List Nat} {D : Nat} {M : am_M} {h0 h : am_H} {l : am_L} (cc : ∀ d, hp_C cst strs d) (hM : m_P[304]? = some M) (hD : 34 ≤ D) (hy : ly_hy m_tt ly_TH h) {f : Int → Int} {n : Int} {t : Nat} {kd pl vl : Int → Int} {en : Nat → Int} (kb : kB kd t) (vb : vB kd vl t) {A d : Int} {a b : Nat} {C : List cl} {Z : List qt_Z} {T : List qt_T} {S W : List Int} {kk gg : Int} (kk0 : 0 ≤ kk) (kk1 : kk ≤ 16) (eg : kf kk = gg) (A0 : 0 ≤ A) (A1 : A ≤ 30) (fr : ly_fr cst [19971, 19972, 19973, 19974, 19975, 19976, 19990, 19991, 20010, 20011, 20012, 20013, 20014, 20015, 20016, 23296, 23552, 23808, 24064, 24320, 24576, 24832, 25088, 25344, 25600, 25856, 26112, 26368, 26624, 26880, 27136, 60020, 60030, 60031, 60032, 60033, 60034, 60035, 60036, 60037, 60038, 60039, 60040, 60050, 60060, 60061, 60070, 60071] h0 h) (g : gl true cst h0 h) (eb : yq_c kd vl t A C a = yq_g kd t gg (bo kd vl t A kk d b)) (d16 : kk = 16 → d = 0) (R : rq cst h f n t kd pl vl en b) (cm : ly_hv cst h 23296 30 = some (C.length : Int)) (r1 : fn_N cst h 23552 1200 ((C.map fun x => x.1) ++ [gg])) (r2 : fn_N cst h 23808 1200 ((C.map fun x => x.2.1) ++ [d])) (r3 : fn_N cst h 24064 1200 (C.map rz_n ++ [0])) (r4 : fn_N cst h 24576 1200 (C.map rz_m ++ [0])) (zl : Z.length = C.length) (r5 : fn_N cst h 24320 1200 (Z.map fun x => x.1)) (r6 : fn_N cst h 24832 1200 (Z.map fun x => x.2.1)) (r7 : fn_N cst h 25088 1200 (Z.map fun x => x.2.2)) (X : qt_D cst h T) (Y : qt_S cst h S) (WW : qt_W cst h W) (po : 3 * (T.length : Int) + 2 ≤ en b ∧ 3 * (S.length : Int) + 1 ≤ 2 * en b ∧ 2 * ((qt_g T).length : Int) ≤ en b) (wl : W.length ≤ 8 * C.length) (c39 : C.length ≤ 39) (rel : rz_R C Z T S W) (kA : ly_hv cst h 19989 0 = some A) (ab : a < b) (bt : b ≤ t) (l0 : hp_a l 0 94) (l1 : hp_i l 1 kk) (l2 : hp_i l 2 gg) (l3 : hp_i l 3 (C.length : Int)) (l4 : hp_i l 4 ((C.length : Int) + 1200)) : hp_F cst strs (gR cst h0 [19971, 19972, 19973, 19974, 19975, 19976, 19990, 19991, 20010, 20011, 20012, 20013, 20014, 20015, 20016, 23296, 23552, 23808, 24064, 24320, 24576, 24832, 25088, 25344, 25600, 25856, 26112, 26368, 26624, 26880, 27136, 60020, 60030, 60031, 60032, 60033, 60034, 60035, 60036, 60037, 60038, 60039, 60040, 60050, 60060, 60061, 60070, 60071] pl t n (yq_c kd vl t A C a) (fun y h9 => a < y.1 ∧ ∃ Z9 T9 S9 W9, yJ cst h9 f n t kd pl vl en A y.1 (C ++ [y.2]) Z9 T9 S9 W9)) D M 184 l [] h := by
  have c := cc D
  have TT := R.1.1
  have n1 := R.1.2.2.1
  have cl1 : (C.map fun x => x.1).length = C.length := List.length_map ..
  have cl3 : (C.map rz_n).length = C.length := List.length_map ..
  have cl4 : (C.map rz_m).length = C.length := List.length_map ..
  have zl1 : (Z.map fun x => x.1).length = C.length := by rw [List.length_map, zl]
  have zl2 : (Z.map fun x => x.2.1).length = C.length := by rw [List.length_map, zl]
  have zl3 : (Z.map fun x => x.2.2).length = C.length := by rw [List.length_map, zl]
  have gg0 : 0 ≤ gg ∧ gg ≤ 14 := by
    rw [← eg]
    unfold kf
    split
    · omega
    · split
      · omega
      · split <;> omega
  have eb1 := tkT_end TT b bt
  -- values that stand there
  have ex : ∀ h2, ly_hy m_tt ly_TH h2 → ∃ z1 z2 z3, ly_hv cst h2 24320 (1200 + (C.length : Int)) = some z1 ∧ ly_hv cst h2 24832 (1200 + (C.length : Int)) = some z2 ∧ ly_hv cst h2 25088 (1200 + (C.length : Int)) = some z3 := fun h2 hy2 => by
    obtain ⟨z1, k1, -⟩ := hp_row (cst := cst) (i := 1200 + (C.length : Int)) hy2 (show ly_ths ly_TH 95 = some (.inl (.int, 1240, 0, 401)) from rfl) (by omega) (by omega)
    obtain ⟨z2, k2, -⟩ := hp_row (cst := cst) (i := 1200 + (C.length : Int)) hy2 (show ly_ths ly_TH 97 = some (.inl (.int, 1240, 0, 802)) from rfl) (by omega) (by omega)
    obtain ⟨z3, k3, -⟩ := hp_row (cst := cst) (i := 1200 + (C.length : Int)) hy2 (show ly_ths ly_TH 98 = some (.inl (.int, 1240, 0, 802)) from rfl) (by omega) (by omega)
    exact ⟨z1, z2, z3, k1, k2, k3⟩
  have nf : ∀ {l9 : am_L} {h9 : am_H} {q : Int} {b2 : Nat}, yq_c kd vl t A C a = .inl (q, b2) → ly_hy m_tt ly_TH h9 → ly_fr cst [19971, 19972, 19973, 19974, 19975, 19976, 19990, 19991, 20010, 20011, 20012, 20013, 20014, 20015, 20016, 23296, 23552, 23808, 24064, 24320, 24576, 24832, 25088, 25344, 25600, 25856, 26112, 26368, 26624, 26880, 27136, 60020, 60030, 60031, 60032, 60033, 60034, 60035, 60036, 60037, 60038, 60039, 60040, 60050, 60060, 60061, 60070, 60071] h0 h9 → gl false cst h0 h9 → ly_hv cst h9 19990 0 = some q → ly_hv cst h9 19991 0 = some (pa pl t n b2) → hp_a l9 0 94 → hp_i l9 1 kk → hp_i l9 2 gg → hp_i l9 3 (C.length : Int) → hp_i l9 4 ((C.length : Int) + 1200) → hp_i l9 5 0 → hp_F cst strs (gR cst h0 [19971, 19972, 19973, 19974, 19975, 19976, 19990, 19991, 20010, 20011, 20012, 20013, 20014, 20015, 20016, 23296, 23552, 23808, 24064, 24320, 24576, 24832, 25088, 25344, 25600, 25856, 26112, 26368, 26624, 26880, 27136, 60020, 60030, 60031, 60032, 60033, 60034, 60035, 60036, 60037, 60038, 60039, 60040, 60050, 60060, 60061, 60070, 60071] pl t n (yq_c kd vl t A C a) (fun y h9 => a < y.1 ∧ ∃ Z9 T9 S9 W9, yJ cst h9 f n t kd pl vl en A y.1 (C ++ [y.2]) Z9 T9 S9 W9)) D M 347 l9 [] h9 := fun er u1 u2 u3 k1 k2 m0 m1 m2 m3 m4 m5 => yqS c hM (by omega) u1 kk gg (C.length : Int) kk0 kk1 gg0.1 gg0.2 (by omega) (by omega) m0 m1 m2 m3 m4 m5 (fun h2 w hw v1 v2 v3 => gR_f er hw v1 (ly_fr_tr u2 (hp_sub2 rfl v2)) (gf_tr u3 (gl_fr v2 rfl)) (v2 _ _ _ rfl k1) (v2 _ _ _ rfl k2))
  -- a clause that has no tests and no words
  have pl' : ∀ {l9 : am_L} {h9 : am_H} {e : Nat} {d' v : Int}, 2 ≤ gg → bo kd vl t A kk d b = .inr (e, d', v, []) → ly_hy m_tt ly_TH h9 → ly_fr cst [19971, 19972, 19973, 19974, 19975, 19976, 19990, 19991, 23808, 24064, 60020, 60070] h h9 → gl true cst h h9 → rq cst h9 f n t kd pl vl en e → fn_N cst h9 23808 1200 ((C.map fun x => x.2.1) ++ [d']) → fn_N cst h9 24064 1200 (C.map rz_n ++ [v]) → a < e → e ≤ t → b ≤ e → hp_a l9 0 94 → hp_i l9 1 kk → hp_i l9 2 gg → hp_i l9 3 (C.length : Int) → hp_i l9 4 ((C.length : Int) + 1200) → hp_i l9 5 1 → hp_F cst strs (gR cst h0 [19971, 19972, 19973, 19974, 19975, 19976, 19990, 19991, 20010, 20011, 20012, 20013, 20014, 20015, 20016, 23296, 23552, 23808, 24064, 24320, 24576, 24832, 25088, 25344, 25600, 25856, 26112, 26368, 26624, 26880, 27136, 60020, 60030, 60031, 60032, 60033, 60034, 60035, 60036, 60037, 60038, 60039, 60040, 60050, 60060, 60061, 60070, 60071] pl t n (yq_c kd vl t A C a) (fun y h9 => a < y.1 ∧ ∃ Z9 T9 S9 W9, yJ cst h9 f n t kd pl vl en A y.1 (C ++ [y.2]) Z9 T9 S9 W9)) D M 347 l9 [] h9 := by
    intro l9 h9 e d' v g2 er u1 u2 u3 R9 q2 q3 ae et be m0 m1 m2 m3 m4 m5
    obtain ⟨z1, z2, z3, k1, k2, k3⟩ := ex h9 u1
    have mo := tkT_le TT be et
    have rl' : rz_R (C ++ [(gg, d', v, [])]) (Z ++ [(z1, z2, z3)]) T S W := by
      have z := rz_Ra (x := (gg, d', v, [])) (z := (z1, z2, z3)) (T' := []) (S' := []) (W' := []) rel zl ⟨fun (q : gg = 0) => by omega, fun (q : gg = 1) => by omega⟩
      rw [List.append_nil, List.append_nil, List.append_nil] at z
      exact z
    refine yq_e (x := (gg, d', v, [])) (z := (z1, z2, z3)) (e := e) cc hM (by omega) u1 kb kk0 kk1 gg0.1 gg0.2 (ly_fr_tr fr (hp_sub2 rfl u2)) (gl_tr g u3) (fun z => by rw [eb, er, yq_1 z]) (fun z => by rw [eb, er, yq_2 z]) R9 (u2 _ _ _ rfl cm) (fn_mv r1 u2 rfl) q2 ?_ ?_ zl (fn_ex (fn_mv r5 u2 rfl) (by rw [zl1]; exact k1)) (fn_ex (fn_mv r6 u2 rfl) (by rw [zl2]; exact k2)) (fn_ex (fn_mv r7 u2 rfl) (by rw [zl3]; exact k3)) (qt_D_mv X u2 rfl) (qt_S_mv Y u2 rfl rfl) (qt_W_mv WW u2 rfl rfl) ⟨by omega, by omega, by omega⟩ (by omega) c39 rl' (u2 _ _ _ rfl kA) ae et m0 m1 m2 m3 m4 m5
    · rw [show rz_n (gg, d', v, []) = v from if_neg (by show ¬ gg < 2; omega)]
      exact q3
    · rw [show rz_m (gg, d', v, []) = 0 from if_neg (by show ¬ gg < 2; omega)]
      exact fn_mv r4 u2 rfl
  by_cases q0 : kk = 0
  · subst q0
    have egg : gg = 0 := by
      rw [← eg]
      decide
    subst egg
    refine yqO0 c hM (by omega) hy 0 (C.length : Int) (by decide) (by decide) (by omega) (by omega) l0 l1 l2 l3 l4 (fun l9 h9 y0 f0 u1 u2 u3 m0 m1 m2 m3 m4 m5 => ?_)
    obtain ⟨E, rfl⟩ : ∃ E, D = E + 1 := ⟨D - 1, by omega⟩
    obtain ⟨r, hrun, w, s1, s2, s3, rhy, rfr, rg, rr⟩ := yd_run (D := E) (A := A) (d := d) (k := C.length) (xc := y0) cc (by omega) u1 kb vb (rq_mv R hy u1 u2 rfl) bt c39 (qt_D_mv X u2 rfl) (qt_S_mv Y u2 rfl rfl) po (by omega)
    refine hp_call (mi := 304) (pc := 194) (tg := 308) (na := 2) (c := 78) (ci := 12) (st0 := [.int y0, .ref 94]) (st := []) (av := [.int y0]) hM (by decide +kernel) u1 rfl rfl rfl (by decide) hrun s2 s3 ?_
    rw [s1]
    rcases rr with ⟨w0, q, b2, er, z1, z2⟩ | ⟨w0, gt, e, m, V, S2, x1, x2, sq, zR, zX, zY, ⟨p1, p2, p3⟩, be, et, m20, e4, e5, e6, e7⟩
    · have er : bo kd vl t A 0 d b = .inl (q, b2) := er
      exact yqR197 c hM (by omega) rhy 0 0 (C.length : Int) 0 w w0 (by decide) (by decide) (by decide) (by decide) (by omega) (by omega) (by decide) (by decide) m0 m1 m2 m3 m4 m5 (fun l2' h2 v1 v2 v3 n0 n1' n2 n3 n4 n5 => nf (by rw [eb, er]; rfl) v1 (ly_fr_tr fr (ly_fr_tr (hp_sub2 rfl u2) (ly_fr_tr (hp_sub2 rfl rfr) (hp_sub2 rfl v2)))) (gf_tr g (gf_tr (gl_fr (g := true) u2 rfl) (gf_tr rg (gl_fr v2 rfl)))) (v2 _ _ _ rfl z1) (v2 _ _ _ rfl z2) n0 n1' n2 n3 n4 n5)
    · refine yqR197 c hM (by omega) rhy 0 0 (C.length : Int) 1 w w0 (by decide) (by decide) (by decide) (by decide) (by omega) (by omega) (by decide) (by decide) m0 m1 m2 m3 m4 m5 (fun l2' h2 v1 v2 v3 n0 n1' n2 n3 n4 n5 => ?_)
      have F2 : ly_fr cst [19971, 19972, 19973, 19974, 19975, 19976, 19990, 19991, 20010, 20011, 20012, 20014, 20015, 20016, 24320, 24576, 24832, 25088, 25344, 25600, 25856, 26112, 26368, 26624, 26880, 60020, 60050, 60060, 60061, 60070, 60071] h h2 := ly_fr_tr (hp_sub2 rfl u2) (ly_fr_tr rfr (hp_sub2 rfl v2))
      refine yq_e (x := (0, d, (m : Int), qv_e V)) (z := ((T.length : Int), (S.length : Int), (S2.length : Int))) (e := e) cc hM (by omega) v1 kb (by decide) (by decide) (by decide) (by decide) (ly_fr_tr fr (hp_sub2 rfl F2)) (gl_tr g (gl_tr (gl_fr u2 rfl) (gl_tr gt (gl_fr v2 rfl)))) (fun z => by rw [eb, x1 z, yq_1 z]) (fun z => by rw [eb, x2 z]; rfl) (rq_mv zR rhy v1 v2 rfl) (F2 _ _ _ rfl cm) (fn_mv r1 F2 rfl) (fn_mv r2 F2 rfl) (fn_mv r3 F2 rfl) (fn_mv (e4 _ 0 cl4 (fn_mv r4 u2 rfl)) v2 rfl) zl (fn_mv (e5 _ zl1 (fn_mv r5 u2 rfl)) v2 rfl) (fn_mv (e6 _ zl2 (fn_mv r6 u2 rfl)) v2 rfl) (fn_mv (e7 _ zl3 (fn_mv r7 u2 rfl)) v2 rfl) (qt_D_mv zX v2 rfl) (qt_S_mv zY v2 rfl rfl) (qt_W_mv WW F2 rfl rfl) ⟨p1, by omega, p3⟩ (by omega) c39 ?_ (F2 _ _ _ rfl kA) (by omega) et n0 n1' n2 n3 n4 n5
      have z := rz_Ra (x := (0, d, (m : Int), qv_e V)) (z := ((T.length : Int), (S.length : Int), (S2.length : Int))) (T' := qv_t V) (S' := S2) (W' := []) rel zl ⟨fun _ => ⟨V, S2, T, [], S, [], m, rfl, by rw [List.append_nil], rfl, by rw [List.append_nil], rfl, rfl, rfl, sq, m20⟩, fun (q : (0 : Int) = 1) => absurd q (by decide)⟩
      rw [List.append_nil W] at z
      exact z
  by_cases q1 : kk = 1
  · subst q1
    have egg : gg = 1 := by
      rw [← eg]
      decide
    subst egg
    refine yqO1 c hM (by omega) hy 1 (C.length : Int) (by decide) (by decide) (by omega) (by omega) l0 l1 l2 l3 l4 (fun l9 h9 y0 f0 u1 u2 u3 m0 m1 m2 m3 m4 m5 => ?_)
    obtain ⟨E, rfl⟩ : ∃ E, D = E + 1 := ⟨D - 1, by omega⟩
    obtain ⟨r, hrun, w, s1, s2, s3, rhy, rfr, rg, rF, rS⟩ := yw_run (D := E) (k := C.length) (xc := y0) cc (by omega) u1 kb vb (rq_mv R hy u1 u2 rfl) bt c39 (qt_W_mv WW u2 rfl rfl) (by omega) (by omega)
    refine hp_call (mi := 304) (pc := 210) (tg := 316) (na := 2) (c := 78) (ci := 12) (st0 := [.int y0, .ref 94]) (st := []) (av := [.int y0]) hM (by decide +kernel) u1 rfl rfl rfl (by decide) hrun s2 s3 ?_
    rw [s1]
    have eq := bo_w (kd := kd) (vl := vl) (t := t) (b := b) (A := A) (d := d)
    cases e0 : yw_f kd vl t b with
    | inl q =>
      obtain ⟨q, b2⟩ := q
      obtain ⟨w0, z1, z2⟩ := rF q b2 e0
      have er : bo kd vl t A 1 d b = .inl (q, b2) := by rw [eq, e0]
      exact yqR213 c hM (by omega) rhy 1 1 (C.length : Int) 0 w w0 (by decide) (by decide) (by decide) (by decide) (by omega) (by omega) (by decide) (by decide) m0 m1 m2 m3 m4 m5 (fun l2' h2 v1 v2 v3 n0 n1' n2 n3 n4 n5 => nf (by rw [eb, er]; rfl) v1 (ly_fr_tr fr (ly_fr_tr (hp_sub2 rfl u2) (ly_fr_tr (hp_sub2 rfl rfr) (hp_sub2 rfl v2)))) (gf_tr g (gf_tr (gl_fr (g := true) u2 rfl) (gf_tr rg (gl_fr v2 rfl)))) (v2 _ _ _ rfl z1) (v2 _ _ _ rfl z2) n0 n1' n2 n3 n4 n5)
    | inr q =>
      obtain ⟨e, L⟩ := q
      obtain ⟨w0, gt, zR, e4, e5, zW, et⟩ := rS _ e0
      have er : bo kd vl t A 1 d b = .inr (e, d, (L.length : Int), L) := by rw [eq, e0]
      have hw : wo kd vl t 8 b [] = .inr (e, L) := by
        unfold yw_f at e0
        split at e0
        · cases e0
        · exact e0
      have wl' := wo_len 8 b [] e L hw
      rw [List.length_nil] at wl'
      have et : e ≤ t := et
      have mo := tkT_le TT (show b ≤ e by omega) et
      refine yqR213 c hM (by omega) rhy 1 1 (C.length : Int) 1 w w0 (by decide) (by decide) (by decide) (by decide) (by omega) (by omega) (by decide) (by decide) m0 m1 m2 m3 m4 m5 (fun l2' h2 v1 v2 v3 n0 n1' n2 n3 n4 n5 => ?_)
      have F2 : ly_fr cst [19971, 19972, 19973, 19974, 19975, 19976, 19990, 19991, 20013, 24320, 24576, 27136, 60020, 60070] h h2 := ly_fr_tr (hp_sub2 rfl u2) (ly_fr_tr rfr (hp_sub2 rfl v2))
      obtain ⟨z1, z2, z3, k1, k2, k3⟩ := ex h2 v1
      have zW : qt_W cst r.2.1 (W ++ L) := zW
      refine yq_e (x := (1, d, (L.length : Int), L)) (z := ((W.length : Int), z2, z3)) (e := e) cc hM (by omega) v1 kb (by decide) (by decide) (by decide) (by decide) (ly_fr_tr fr (hp_sub2 rfl F2)) (gl_tr g (gl_tr (gl_fr u2 rfl) (gl_tr gt (gl_fr v2 rfl)))) (fun z => by rw [eb, er, yq_1 z]) (fun z => by rw [eb, er, yq_2 z]) (rq_mv zR rhy v1 v2 rfl) (F2 _ _ _ rfl cm) (fn_mv r1 F2 rfl) (fn_mv r2 F2 rfl) (fn_mv r3 F2 rfl) (fn_mv (e4 _ 0 cl4 (fn_mv r4 u2 rfl)) v2 rfl) zl (fn_mv (e5 _ zl1 (fn_mv r5 u2 rfl)) v2 rfl) (fn_ex (fn_mv r6 F2 rfl) (by rw [zl2]; exact k2)) (fn_ex (fn_mv r7 F2 rfl) (by rw [zl3]; exact k3)) (qt_D_mv X F2 rfl) (qt_S_mv Y F2 rfl rfl) (qt_W_mv zW v2 rfl rfl) ⟨by omega, by omega, by omega⟩ (by rw [List.length_append]; omega) c39 ?_ (F2 _ _ _ rfl kA) (by omega) et n0 n1' n2 n3 n4 n5
      have z := rz_Ra (x := (1, d, (L.length : Int), L)) (z := ((W.length : Int), z2, z3)) (T' := []) (S' := []) (W' := L) rel zl ⟨fun (q : (1 : Int) = 0) => absurd q (by decide), fun _ => ⟨rfl, by show L.length ≤ 8; omega, W, [], by rw [List.append_nil], rfl⟩⟩
      rw [List.append_nil, List.append_nil] at z
      exact z
  by_cases q16 : kk = 16
  · subst q16
    have egg : gg = 14 := by
      rw [← eg]
      decide
    subst egg
    have d0 := d16 rfl
    refine yqO16 c hM (by omega) hy 14 (C.length : Int) (by decide) (by decide) (by omega) (by omega) l0 l1 l2 l3 l4 (fun l9 h9 y0 f0 u1 u2 u3 m0 m1 m2 m3 m4 m5 => ?_)
    obtain ⟨E, rfl⟩ : ∃ E, D = E + 1 := ⟨D - 1, by omega⟩
    obtain ⟨r, hrun, w, s1, s2, s3, rhy, rfr, rg, rF, rS⟩ := yk_run (D := E) (k := C.length) (A := A) (xc := y0) cc (by omega) u1 kb vb (rq_mv R hy u1 u2 rfl) c39 A0 A1 (u2 _ _ _ rfl kA) (by omega)
    refine hp_call (mi := 304) (pc := 247) (tg := 318) (na := 2) (c := 78) (ci := 12) (st0 := [.int y0, .ref 94]) (st := []) (av := [.int y0]) hM (by decide +kernel) u1 rfl rfl rfl (by decide) hrun s2 s3 ?_
    rw [s1]
    have eq := bo_k (kd := kd) (vl := vl) (t := t) (b := b) (A := A) (d := d) vb
    cases e0 : yk_f kd vl t A b with
    | inl q =>
      obtain ⟨q, b2⟩ := q
      obtain ⟨w0, z1, z2⟩ := rF q b2 e0
      have er : bo kd vl t A 16 d b = .inl (q, b2) := by rw [eq, e0]
      exact yqR250 c hM (by omega) rhy 16 14 (C.length : Int) 0 w w0 (by decide) (by decide) (by decide) (by decide) (by omega) (by omega) (by decide) (by decide) m0 m1 m2 m3 m4 m5 (fun l2' h2 v1 v2 v3 n0 n1' n2 n3 n4 n5 => nf (by rw [eb, er]; rfl) v1 (ly_fr_tr fr (ly_fr_tr (hp_sub2 rfl u2) (ly_fr_tr (hp_sub2 rfl rfr) (hp_sub2 rfl v2)))) (gf_tr g (gf_tr (gl_fr (g := true) u2 rfl) (gf_tr rg (gl_fr v2 rfl)))) (v2 _ _ _ rfl z1) (v2 _ _ _ rfl z2) n0 n1' n2 n3 n4 n5)
    | inr q =>
      obtain ⟨e, d', v⟩ := q
      obtain ⟨w0, gt, zR, zE, zD, et, be, -⟩ := rS _ e0
      have er : bo kd vl t A 16 d b = .inr (e, d', v, []) := by rw [eq, e0]
      have et : e ≤ t := et
      have be : b < e := be
      refine yqR250 c hM (by omega) rhy 16 14 (C.length : Int) 1 w w0 (by decide) (by decide) (by decide) (by decide) (by omega) (by omega) (by decide) (by decide) m0 m1 m2 m3 m4 m5 (fun l2' h2 v1 v2 v3 n0 n1' n2 n3 n4 n5 => ?_)
      have F2 : ly_fr cst [19971, 19972, 19973, 19974, 19975, 19976, 19990, 19991, 23808, 24064, 60020, 60070] h h2 := ly_fr_tr (hp_sub2 rfl u2) (ly_fr_tr rfr (hp_sub2 rfl v2))
      refine pl' (by decide) er v1 F2 (gl_tr (gl_fr u2 rfl) (gl_tr gt (gl_fr v2 rfl))) (rq_mv zR rhy v1 v2 rfl) ?_ (fn_mv (zE _ 0 cl3 (fn_mv r3 u2 rfl)) v2 rfl) (by omega) et (by omega) n0 n1' n2 n3 n4 n5
      rcases zD with zD | ⟨zD, zF⟩
      · exact fn_mv (zn_ze zD _ d (List.length_map ..) (fn_mv r2 u2 rfl)) v2 rfl
      · have zD : d' = 0 := zD
        rw [zD, ← d0]
        exact fn_mv (fn_mv (fn_mv r2 u2 rfl) zF rfl) v2 rfl
  by_cases q3 : kk = 3
  · subst q3
    have egg : gg = 3 := by
      rw [← eg]
      decide
    subst egg
    refine yqO3 c hM (by omega) hy 3 (C.length : Int) (by decide) (by decide) (by omega) (by omega) l0 l1 l2 l3 l4 (fun l9 h9 y0 y1 y2 f0 f1 f2 u1 u2 u3 m0 m1 m2 m3 m4 m5 => ?_)
    obtain ⟨E, rfl⟩ : ∃ E, D = E + 1 := ⟨D - 1, by omega⟩
    obtain ⟨r, hrun, w, s1, s2, s3, rhy, rfr, rg, rF, rS⟩ := yn_run (D := E) (k := C.length) (lo := 0) (hi := 9999) (xc := y2) (xl := y1) (xh := y0) cc (by omega) u1 kb vb (rq_mv R hy u1 u2 rfl) c39 (by decide) (by decide) (by decide) (by decide) (by omega) f1 f0
    refine hp_call (mi := 304) (pc := 230) (tg := 317) (na := 4) (c := 78) (ci := 12) (st0 := [.int y0, .int y1, .int y2, .ref 94]) (st := []) (av := [.int y2, .int y1, .int y0]) hM (by decide +kernel) u1 rfl rfl rfl (by decide) hrun s2 s3 ?_
    rw [s1]
    have eq := bo_n (kd := kd) (vl := vl) (t := t) (b := b) (A := A) (k := 3) (d := d) (lo := 0) (hi := 9999) vb (by decide) (by decide) (by decide) (by decide) (by decide) (by decide)
    cases e : yn_f kd vl t 0 9999 b with
    | inl q =>
      obtain ⟨q, b2⟩ := q
      obtain ⟨w0, z1, z2⟩ := rF q b2 e
      have er : bo kd vl t A 3 d b = .inl (q, b2) := by rw [eq, e]
      exact yqR233 c hM (by omega) rhy 3 3 (C.length : Int) 0 w w0 (by decide) (by decide) (by decide) (by decide) (by omega) (by omega) (by decide) (by decide) m0 m1 m2 m3 m4 m5 (fun l2' h2 v1 v2 v3 n0 n1' n2 n3 n4 n5 => nf (by rw [eb, er]; rfl) v1 (ly_fr_tr fr (ly_fr_tr (hp_sub2 rfl u2) (ly_fr_tr (hp_sub2 rfl rfr) (hp_sub2 rfl v2)))) (gf_tr g (gf_tr (gl_fr (g := true) u2 rfl) (gf_tr rg (gl_fr v2 rfl)))) (v2 _ _ _ rfl z1) (v2 _ _ _ rfl z2) n0 n1' n2 n3 n4 n5)
    | inr q =>
      obtain ⟨w0, gt, zR, zE, ex', o0, o1, lt⟩ := rS q e
      subst ex'
      have er : bo kd vl t A 3 d b = .inr (b + 1, d, vl (b : Int), []) := by rw [eq, e]
      refine yqR233 c hM (by omega) rhy 3 3 (C.length : Int) 1 w w0 (by decide) (by decide) (by decide) (by decide) (by omega) (by omega) (by decide) (by decide) m0 m1 m2 m3 m4 m5 (fun l2' h2 v1 v2 v3 n0 n1' n2 n3 n4 n5 => ?_)
      have F2 : ly_fr cst [19971, 19972, 19973, 19974, 19975, 19976, 19990, 19991, 24064, 60020, 60070] h h2 := ly_fr_tr (hp_sub2 rfl u2) (ly_fr_tr rfr (hp_sub2 rfl v2))
      exact pl' (by decide) er v1 (hp_sub2 rfl F2) (gl_tr (gl_fr u2 rfl) (gl_tr gt (gl_fr v2 rfl))) (rq_mv zR rhy v1 v2 rfl) (fn_mv r2 F2 rfl) (fn_mv (zE _ 0 cl3 (fn_mv r3 u2 rfl)) v2 rfl) (by omega) lt (by omega) n0 n1' n2 n3 n4 n5
  by_cases q8 : kk = 8
  · subst q8
    have egg : gg = 7 := by
      rw [← eg]
      decide
    subst egg
    refine yqP7 c hM (by omega) hy (C.length : Int) (by omega) (by omega) l0 l1 l2 l3 l4 (fun l9 h9 y0 y1 y2 f0 f1 f2 u1 u2 u3 m0 m1 m2 m3 m4 m5 => ?_)
    obtain ⟨E, rfl⟩ : ∃ E, D = E + 1 := ⟨D - 1, by omega⟩
    obtain ⟨r, hrun, w, s1, s2, s3, rhy, rfr, rg, rF, rS⟩ := yn_run (D := E) (k := C.length) (lo := 1) (hi := 12) (xc := y2) (xl := y1) (xh := y0) cc (by omega) u1 kb vb (rq_mv R hy u1 u2 rfl) c39 (by decide) (by decide) (by decide) (by decide) (by omega) f1 f0
    refine hp_call (mi := 304) (pc := 316) (tg := 317) (na := 4) (c := 78) (ci := 12) (st0 := [.int y0, .int y1, .int y2, .ref 94]) (st := []) (av := [.int y2, .int y1, .int y0]) hM (by decide +kernel) u1 rfl rfl rfl (by decide) hrun s2 s3 ?_
    rw [s1]
    have eq := bo_n (kd := kd) (vl := vl) (t := t) (b := b) (A := A) (k := 8) (d := d) (lo := 1) (hi := 12) vb (by decide) (by decide) (by decide) (by decide) (by decide) (by decide)
    cases e : yn_f kd vl t 1 12 b with
    | inl q =>
      obtain ⟨q, b2⟩ := q
      obtain ⟨w0, z1, z2⟩ := rF q b2 e
      have er : bo kd vl t A 8 d b = .inl (q, b2) := by rw [eq, e]
      exact yqR319 c hM (by omega) rhy 8 7 (C.length : Int) 0 w w0 (by decide) (by decide) (by decide) (by decide) (by omega) (by omega) (by decide) (by decide) m0 m1 m2 m3 m4 m5 (fun l2' h2 v1 v2 v3 n0 n1' n2 n3 n4 n5 => nf (by rw [eb, er]; rfl) v1 (ly_fr_tr fr (ly_fr_tr (hp_sub2 rfl u2) (ly_fr_tr (hp_sub2 rfl rfr) (hp_sub2 rfl v2)))) (gf_tr g (gf_tr (gl_fr (g := true) u2 rfl) (gf_tr rg (gl_fr v2 rfl)))) (v2 _ _ _ rfl z1) (v2 _ _ _ rfl z2) n0 n1' n2 n3 n4 n5)
    | inr q =>
      obtain ⟨w0, gt, zR, zE, ex', o0, o1, lt⟩ := rS q e
      subst ex'
      have er : bo kd vl t A 8 d b = .inr (b + 1, d, vl (b : Int), []) := by rw [eq, e]
      refine yqR319 c hM (by omega) rhy 8 7 (C.length : Int) 1 w w0 (by decide) (by decide) (by decide) (by decide) (by omega) (by omega) (by decide) (by decide) m0 m1 m2 m3 m4 m5 (fun l2' h2 v1 v2 v3 n0 n1' n2 n3 n4 n5 => ?_)
      have F2 : ly_fr cst [19971, 19972, 19973, 19974, 19975, 19976, 19990, 19991, 24064, 60020, 60070] h h2 := ly_fr_tr (hp_sub2 rfl u2) (ly_fr_tr rfr (hp_sub2 rfl v2))
      exact pl' (by decide) er v1 (hp_sub2 rfl F2) (gl_tr (gl_fr u2 rfl) (gl_tr gt (gl_fr v2 rfl))) (rq_mv zR rhy v1 v2 rfl) (fn_mv r2 F2 rfl) (fn_mv (zE _ 0 cl3 (fn_mv r3 u2 rfl)) v2 rfl) (by omega) lt (by omega) n0 n1' n2 n3 n4 n5
  by_cases q9 : kk = 9
  · subst q9
    have egg : gg = 8 := by
      rw [← eg]
      decide
    subst egg
    refine yqP8 c hM (by omega) hy (C.length : Int) (by omega) (by omega) l0 l1 l2 l3 l4 (fun l9 h9 y0 y1 y2 f0 f1 f2 u1 u2 u3 m0 m1 m2 m3 m4 m5 => ?_)
    obtain ⟨E, rfl⟩ : ∃ E, D = E + 1 := ⟨D - 1, by omega⟩
    obtain ⟨r, hrun, w, s1, s2, s3, rhy, rfr, rg, rF, rS⟩ := yn_run (D := E) (k := C.length) (lo := 0) (hi := 9999) (xc := y2) (xl := y1) (xh := y0) cc (by omega) u1 kb vb (rq_mv R hy u1 u2 rfl) c39 (by decide) (by decide) (by decide) (by decide) (by omega) f1 f0
    refine hp_call (mi := 304) (pc := 316) (tg := 317) (na := 4) (c := 78) (ci := 12) (st0 := [.int y0, .int y1, .int y2, .ref 94]) (st := []) (av := [.int y2, .int y1, .int y0]) hM (by decide +kernel) u1 rfl rfl rfl (by decide) hrun s2 s3 ?_
    rw [s1]
    have eq := bo_n (kd := kd) (vl := vl) (t := t) (b := b) (A := A) (k := 9) (d := d) (lo := 0) (hi := 9999) vb (by decide) (by decide) (by decide) (by decide) (by decide) (by decide)
    cases e : yn_f kd vl t 0 9999 b with
    | inl q =>
      obtain ⟨q, b2⟩ := q
      obtain ⟨w0, z1, z2⟩ := rF q b2 e
      have er : bo kd vl t A 9 d b = .inl (q, b2) := by rw [eq, e]
      exact yqR319 c hM (by omega) rhy 9 8 (C.length : Int) 0 w w0 (by decide) (by decide) (by decide) (by decide) (by omega) (by omega) (by decide) (by decide) m0 m1 m2 m3 m4 m5 (fun l2' h2 v1 v2 v3 n0 n1' n2 n3 n4 n5 => nf (by rw [eb, er]; rfl) v1 (ly_fr_tr fr (ly_fr_tr (hp_sub2 rfl u2) (ly_fr_tr (hp_sub2 rfl rfr) (hp_sub2 rfl v2)))) (gf_tr g (gf_tr (gl_fr (g := true) u2 rfl) (gf_tr rg (gl_fr v2 rfl)))) (v2 _ _ _ rfl z1) (v2 _ _ _ rfl z2) n0 n1' n2 n3 n4 n5)
    | inr q =>
      obtain ⟨w0, gt, zR, zE, ex', o0, o1, lt⟩ := rS q e
      subst ex'
      have er : bo kd vl t A 9 d b = .inr (b + 1, d, vl (b : Int), []) := by rw [eq, e]
      refine yqR319 c hM (by omega) rhy 9 8 (C.length : Int) 1 w w0 (by decide) (by decide) (by decide) (by decide) (by omega) (by omega) (by decide) (by decide) m0 m1 m2 m3 m4 m5 (fun l2' h2 v1 v2 v3 n0 n1' n2 n3 n4 n5 => ?_)
      have F2 : ly_fr cst [19971, 19972, 19973, 19974, 19975, 19976, 19990, 19991, 24064, 60020, 60070] h h2 := ly_fr_tr (hp_sub2 rfl u2) (ly_fr_tr rfr (hp_sub2 rfl v2))
      exact pl' (by decide) er v1 (hp_sub2 rfl F2) (gl_tr (gl_fr u2 rfl) (gl_tr gt (gl_fr v2 rfl))) (rq_mv zR rhy v1 v2 rfl) (fn_mv r2 F2 rfl) (fn_mv (zE _ 0 cl3 (fn_mv r3 u2 rfl)) v2 rfl) (by omega) lt (by omega) n0 n1' n2 n3 n4 n5
  by_cases q10 : kk = 10
  · subst q10
    have egg : gg = 9 := by
      rw [← eg]
      decide
    subst egg
    refine yqP9 c hM (by omega) hy (C.length : Int) (by omega) (by omega) l0 l1 l2 l3 l4 (fun l9 h9 y0 y1 y2 f0 f1 f2 u1 u2 u3 m0 m1 m2 m3 m4 m5 => ?_)
    obtain ⟨E, rfl⟩ : ∃ E, D = E + 1 := ⟨D - 1, by omega⟩
    obtain ⟨r, hrun, w, s1, s2, s3, rhy, rfr, rg, rF, rS⟩ := yn_run (D := E) (k := C.length) (lo := 0) (hi := 4) (xc := y2) (xl := y1) (xh := y0) cc (by omega) u1 kb vb (rq_mv R hy u1 u2 rfl) c39 (by decide) (by decide) (by decide) (by decide) (by omega) f1 f0
    refine hp_call (mi := 304) (pc := 316) (tg := 317) (na := 4) (c := 78) (ci := 12) (st0 := [.int y0, .int y1, .int y2, .ref 94]) (st := []) (av := [.int y2, .int y1, .int y0]) hM (by decide +kernel) u1 rfl rfl rfl (by decide) hrun s2 s3 ?_
    rw [s1]
    have eq := bo_n (kd := kd) (vl := vl) (t := t) (b := b) (A := A) (k := 10) (d := d) (lo := 0) (hi := 4) vb (by decide) (by decide) (by decide) (by decide) (by decide) (by decide)
    cases e : yn_f kd vl t 0 4 b with
    | inl q =>
      obtain ⟨q, b2⟩ := q
      obtain ⟨w0, z1, z2⟩ := rF q b2 e
      have er : bo kd vl t A 10 d b = .inl (q, b2) := by rw [eq, e]
      exact yqR319 c hM (by omega) rhy 10 9 (C.length : Int) 0 w w0 (by decide) (by decide) (by decide) (by decide) (by omega) (by omega) (by decide) (by decide) m0 m1 m2 m3 m4 m5 (fun l2' h2 v1 v2 v3 n0 n1' n2 n3 n4 n5 => nf (by rw [eb, er]; rfl) v1 (ly_fr_tr fr (ly_fr_tr (hp_sub2 rfl u2) (ly_fr_tr (hp_sub2 rfl rfr) (hp_sub2 rfl v2)))) (gf_tr g (gf_tr (gl_fr (g := true) u2 rfl) (gf_tr rg (gl_fr v2 rfl)))) (v2 _ _ _ rfl z1) (v2 _ _ _ rfl z2) n0 n1' n2 n3 n4 n5)
    | inr q =>
      obtain ⟨w0, gt, zR, zE, ex', o0, o1, lt⟩ := rS q e
      subst ex'
      have er : bo kd vl t A 10 d b = .inr (b + 1, d, vl (b : Int), []) := by rw [eq, e]
      refine yqR319 c hM (by omega) rhy 10 9 (C.length : Int) 1 w w0 (by decide) (by decide) (by decide) (by decide) (by omega) (by omega) (by decide) (by decide) m0 m1 m2 m3 m4 m5 (fun l2' h2 v1 v2 v3 n0 n1' n2 n3 n4 n5 => ?_)
      have F2 : ly_fr cst [19971, 19972, 19973, 19974, 19975, 19976, 19990, 19991, 24064, 60020, 60070] h h2 := ly_fr_tr (hp_sub2 rfl u2) (ly_fr_tr rfr (hp_sub2 rfl v2))
      exact pl' (by decide) er v1 (hp_sub2 rfl F2) (gl_tr (gl_fr u2 rfl) (gl_tr gt (gl_fr v2 rfl))) (rq_mv zR rhy v1 v2 rfl) (fn_mv r2 F2 rfl) (fn_mv (zE _ 0 cl3 (fn_mv r3 u2 rfl)) v2 rfl) (by omega) lt (by omega) n0 n1' n2 n3 n4 n5
  by_cases q11 : kk = 11
  · subst q11
    have egg : gg = 10 := by
      rw [← eg]
      decide
    subst egg
    refine yqP10 c hM (by omega) hy (C.length : Int) (by omega) (by omega) l0 l1 l2 l3 l4 (fun l9 h9 y0 y1 y2 f0 f1 f2 u1 u2 u3 m0 m1 m2 m3 m4 m5 => ?_)
    obtain ⟨E, rfl⟩ : ∃ E, D = E + 1 := ⟨D - 1, by omega⟩
    obtain ⟨r, hrun, w, s1, s2, s3, rhy, rfr, rg, rF, rS⟩ := yn_run (D := E) (k := C.length) (lo := 0) (hi := 12) (xc := y2) (xl := y1) (xh := y0) cc (by omega) u1 kb vb (rq_mv R hy u1 u2 rfl) c39 (by decide) (by decide) (by decide) (by decide) (by omega) f1 f0
    refine hp_call (mi := 304) (pc := 316) (tg := 317) (na := 4) (c := 78) (ci := 12) (st0 := [.int y0, .int y1, .int y2, .ref 94]) (st := []) (av := [.int y2, .int y1, .int y0]) hM (by decide +kernel) u1 rfl rfl rfl (by decide) hrun s2 s3 ?_
    rw [s1]
    have eq := bo_n (kd := kd) (vl := vl) (t := t) (b := b) (A := A) (k := 11) (d := d) (lo := 0) (hi := 12) vb (by decide) (by decide) (by decide) (by decide) (by decide) (by decide)
    cases e : yn_f kd vl t 0 12 b with
    | inl q =>
      obtain ⟨q, b2⟩ := q
      obtain ⟨w0, z1, z2⟩ := rF q b2 e
      have er : bo kd vl t A 11 d b = .inl (q, b2) := by rw [eq, e]
      exact yqR319 c hM (by omega) rhy 11 10 (C.length : Int) 0 w w0 (by decide) (by decide) (by decide) (by decide) (by omega) (by omega) (by decide) (by decide) m0 m1 m2 m3 m4 m5 (fun l2' h2 v1 v2 v3 n0 n1' n2 n3 n4 n5 => nf (by rw [eb, er]; rfl) v1 (ly_fr_tr fr (ly_fr_tr (hp_sub2 rfl u2) (ly_fr_tr (hp_sub2 rfl rfr) (hp_sub2 rfl v2)))) (gf_tr g (gf_tr (gl_fr (g := true) u2 rfl) (gf_tr rg (gl_fr v2 rfl)))) (v2 _ _ _ rfl z1) (v2 _ _ _ rfl z2) n0 n1' n2 n3 n4 n5)
    | inr q =>
      obtain ⟨w0, gt, zR, zE, ex', o0, o1, lt⟩ := rS q e
      subst ex'
      have er : bo kd vl t A 11 d b = .inr (b + 1, d, vl (b : Int), []) := by rw [eq, e]
      refine yqR319 c hM (by omega) rhy 11 10 (C.length : Int) 1 w w0 (by decide) (by decide) (by decide) (by decide) (by omega) (by omega) (by decide) (by decide) m0 m1 m2 m3 m4 m5 (fun l2' h2 v1 v2 v3 n0 n1' n2 n3 n4 n5 => ?_)
      have F2 : ly_fr cst [19971, 19972, 19973, 19974, 19975, 19976, 19990, 19991, 24064, 60020, 60070] h h2 := ly_fr_tr (hp_sub2 rfl u2) (ly_fr_tr rfr (hp_sub2 rfl v2))
      exact pl' (by decide) er v1 (hp_sub2 rfl F2) (gl_tr (gl_fr u2 rfl) (gl_tr gt (gl_fr v2 rfl))) (rq_mv zR rhy v1 v2 rfl) (fn_mv r2 F2 rfl) (fn_mv (zE _ 0 cl3 (fn_mv r3 u2 rfl)) v2 rfl) (by omega) lt (by omega) n0 n1' n2 n3 n4 n5
  by_cases q12 : kk = 12
  · subst q12
    have egg : gg = 11 := by
      rw [← eg]
      decide
    subst egg
    refine yqP11 c hM (by omega) hy (C.length : Int) (by omega) (by omega) l0 l1 l2 l3 l4 (fun l9 h9 y0 y1 y2 f0 f1 f2 u1 u2 u3 m0 m1 m2 m3 m4 m5 => ?_)
    obtain ⟨E, rfl⟩ : ∃ E, D = E + 1 := ⟨D - 1, by omega⟩
    obtain ⟨r, hrun, w, s1, s2, s3, rhy, rfr, rg, rF, rS⟩ := yn_run (D := E) (k := C.length) (lo := 0) (hi := 12) (xc := y2) (xl := y1) (xh := y0) cc (by omega) u1 kb vb (rq_mv R hy u1 u2 rfl) c39 (by decide) (by decide) (by decide) (by decide) (by omega) f1 f0
    refine hp_call (mi := 304) (pc := 316) (tg := 317) (na := 4) (c := 78) (ci := 12) (st0 := [.int y0, .int y1, .int y2, .ref 94]) (st := []) (av := [.int y2, .int y1, .int y0]) hM (by decide +kernel) u1 rfl rfl rfl (by decide) hrun s2 s3 ?_
    rw [s1]
    have eq := bo_n (kd := kd) (vl := vl) (t := t) (b := b) (A := A) (k := 12) (d := d) (lo := 0) (hi := 12) vb (by decide) (by decide) (by decide) (by decide) (by decide) (by decide)
    cases e : yn_f kd vl t 0 12 b with
    | inl q =>
      obtain ⟨q, b2⟩ := q
      obtain ⟨w0, z1, z2⟩ := rF q b2 e
      have er : bo kd vl t A 12 d b = .inl (q, b2) := by rw [eq, e]
      exact yqR319 c hM (by omega) rhy 12 11 (C.length : Int) 0 w w0 (by decide) (by decide) (by decide) (by decide) (by omega) (by omega) (by decide) (by decide) m0 m1 m2 m3 m4 m5 (fun l2' h2 v1 v2 v3 n0 n1' n2 n3 n4 n5 => nf (by rw [eb, er]; rfl) v1 (ly_fr_tr fr (ly_fr_tr (hp_sub2 rfl u2) (ly_fr_tr (hp_sub2 rfl rfr) (hp_sub2 rfl v2)))) (gf_tr g (gf_tr (gl_fr (g := true) u2 rfl) (gf_tr rg (gl_fr v2 rfl)))) (v2 _ _ _ rfl z1) (v2 _ _ _ rfl z2) n0 n1' n2 n3 n4 n5)
    | inr q =>
      obtain ⟨w0, gt, zR, zE, ex', o0, o1, lt⟩ := rS q e
      subst ex'
      have er : bo kd vl t A 12 d b = .inr (b + 1, d, vl (b : Int), []) := by rw [eq, e]
      refine yqR319 c hM (by omega) rhy 12 11 (C.length : Int) 1 w w0 (by decide) (by decide) (by decide) (by decide) (by omega) (by omega) (by decide) (by decide) m0 m1 m2 m3 m4 m5 (fun l2' h2 v1 v2 v3 n0 n1' n2 n3 n4 n5 => ?_)
      have F2 : ly_fr cst [19971, 19972, 19973, 19974, 19975, 19976, 19990, 19991, 24064, 60020, 60070] h h2 := ly_fr_tr (hp_sub2 rfl u2) (ly_fr_tr rfr (hp_sub2 rfl v2))
      exact pl' (by decide) er v1 (hp_sub2 rfl F2) (gl_tr (gl_fr u2 rfl) (gl_tr gt (gl_fr v2 rfl))) (rq_mv zR rhy v1 v2 rfl) (fn_mv r2 F2 rfl) (fn_mv (zE _ 0 cl3 (fn_mv r3 u2 rfl)) v2 rfl) (by omega) lt (by omega) n0 n1' n2 n3 n4 n5
  by_cases q13 : kk = 13
  · subst q13
    have egg : gg = 12 := by
      rw [← eg]
      decide
    subst egg
    refine yqP12 c hM (by omega) hy (C.length : Int) (by omega) (by omega) l0 l1 l2 l3 l4 (fun l9 h9 y0 y1 y2 f0 f1 f2 u1 u2 u3 m0 m1 m2 m3 m4 m5 => ?_)
    obtain ⟨E, rfl⟩ : ∃ E, D = E + 1 := ⟨D - 1, by omega⟩
    obtain ⟨r, hrun, w, s1, s2, s3, rhy, rfr, rg, rF, rS⟩ := yn_run (D := E) (k := C.length) (lo := 0) (hi := 23) (xc := y2) (xl := y1) (xh := y0) cc (by omega) u1 kb vb (rq_mv R hy u1 u2 rfl) c39 (by decide) (by decide) (by decide) (by decide) (by omega) f1 f0
    refine hp_call (mi := 304) (pc := 316) (tg := 317) (na := 4) (c := 78) (ci := 12) (st0 := [.int y0, .int y1, .int y2, .ref 94]) (st := []) (av := [.int y2, .int y1, .int y0]) hM (by decide +kernel) u1 rfl rfl rfl (by decide) hrun s2 s3 ?_
    rw [s1]
    have eq := bo_n (kd := kd) (vl := vl) (t := t) (b := b) (A := A) (k := 13) (d := d) (lo := 0) (hi := 23) vb (by decide) (by decide) (by decide) (by decide) (by decide) (by decide)
    cases e : yn_f kd vl t 0 23 b with
    | inl q =>
      obtain ⟨q, b2⟩ := q
      obtain ⟨w0, z1, z2⟩ := rF q b2 e
      have er : bo kd vl t A 13 d b = .inl (q, b2) := by rw [eq, e]
      exact yqR319 c hM (by omega) rhy 13 12 (C.length : Int) 0 w w0 (by decide) (by decide) (by decide) (by decide) (by omega) (by omega) (by decide) (by decide) m0 m1 m2 m3 m4 m5 (fun l2' h2 v1 v2 v3 n0 n1' n2 n3 n4 n5 => nf (by rw [eb, er]; rfl) v1 (ly_fr_tr fr (ly_fr_tr (hp_sub2 rfl u2) (ly_fr_tr (hp_sub2 rfl rfr) (hp_sub2 rfl v2)))) (gf_tr g (gf_tr (gl_fr (g := true) u2 rfl) (gf_tr rg (gl_fr v2 rfl)))) (v2 _ _ _ rfl z1) (v2 _ _ _ rfl z2) n0 n1' n2 n3 n4 n5)
    | inr q =>
      obtain ⟨w0, gt, zR, zE, ex', o0, o1, lt⟩ := rS q e
      subst ex'
      have er : bo kd vl t A 13 d b = .inr (b + 1, d, vl (b : Int), []) := by rw [eq, e]
      refine yqR319 c hM (by omega) rhy 13 12 (C.length : Int) 1 w w0 (by decide) (by decide) (by decide) (by decide) (by omega) (by omega) (by decide) (by decide) m0 m1 m2 m3 m4 m5 (fun l2' h2 v1 v2 v3 n0 n1' n2 n3 n4 n5 => ?_)
      have F2 : ly_fr cst [19971, 19972, 19973, 19974, 19975, 19976, 19990, 19991, 24064, 60020, 60070] h h2 := ly_fr_tr (hp_sub2 rfl u2) (ly_fr_tr rfr (hp_sub2 rfl v2))
      exact pl' (by decide) er v1 (hp_sub2 rfl F2) (gl_tr (gl_fr u2 rfl) (gl_tr gt (gl_fr v2 rfl))) (rq_mv zR rhy v1 v2 rfl) (fn_mv r2 F2 rfl) (fn_mv (zE _ 0 cl3 (fn_mv r3 u2 rfl)) v2 rfl) (by omega) lt (by omega) n0 n1' n2 n3 n4 n5
  by_cases q2 : kk = 2
  · subst q2
    have egg : gg = 2 := by
      rw [← eg]
      decide
    subst egg
    have er : bo kd vl t A 2 d b = .inr (b, d, 1, []) := bo_o (by decide) (by decide) (by decide) (by decide)
    refine yqQ2 c hM (by omega) hy (C.length : Int) (by omega) (by omega) l0 l1 l2 l3 l4 (fun l9 h9 y0 y1 f0 f1 u1 u2 u3 m0 m1 m2 m3 m4 m5 => ?_)
    refine hp_st0 (c := 94) hM (by decide +kernel) u1 (show ly_ths ly_TH 94 = some (.inl (.int, 1240, 0, 9999)) from rfl) (by omega) (by omega) (by omega) (by omega) (fun h2 v1 v2 v3 => ?_)
    rw [f0, show y1.toInt = 1200 + (C.length : Int) by omega] at v3
    have v3 : hp_p0 cst 24064 (1200 + (C.length : Int)) 1 h9 h2 := v3
    have F2 : ly_fr cst [24064, 60020, 60070] h9 h2 := hp_p0_fr v3 (by decide) rfl rfl
    have F : ly_fr cst [24064, 60020, 60070] h h2 := ly_fr_tr (hp_sub2 rfl u2) F2
    exact pl' (by decide) er v1 (hp_sub2 rfl F) (gl_tr (gl_fr u2 rfl) (gl_p0 v3 (by decide))) (rq_mv R hy v1 F rfl) (fn_mv r2 F rfl) (p0_re (fn_mv r3 u2 rfl) (by rw [cl3]; exact v3) (by decide)) ab bt (Nat.le_refl _) m0 m1 m2 m3 m4 m5
  by_cases q4 : kk = 4
  · subst q4
    have egg : gg = 4 := by
      rw [← eg]
      decide
    subst egg
    have er : bo kd vl t A 4 d b = .inr (b, d, 1, []) := bo_o (by decide) (by decide) (by decide) (by decide)
    refine yqQ4 c hM (by omega) hy (C.length : Int) (by omega) (by omega) l0 l1 l2 l3 l4 (fun l9 h9 y0 y1 f0 f1 u1 u2 u3 m0 m1 m2 m3 m4 m5 => ?_)
    refine hp_st0 (c := 94) hM (by decide +kernel) u1 (show ly_ths ly_TH 94 = some (.inl (.int, 1240, 0, 9999)) from rfl) (by omega) (by omega) (by omega) (by omega) (fun h2 v1 v2 v3 => ?_)
    rw [f0, show y1.toInt = 1200 + (C.length : Int) by omega] at v3
    have v3 : hp_p0 cst 24064 (1200 + (C.length : Int)) 1 h9 h2 := v3
    have F2 : ly_fr cst [24064, 60020, 60070] h9 h2 := hp_p0_fr v3 (by decide) rfl rfl
    have F : ly_fr cst [24064, 60020, 60070] h h2 := ly_fr_tr (hp_sub2 rfl u2) F2
    exact pl' (by decide) er v1 (hp_sub2 rfl F) (gl_tr (gl_fr u2 rfl) (gl_p0 v3 (by decide))) (rq_mv R hy v1 F rfl) (fn_mv r2 F rfl) (p0_re (fn_mv r3 u2 rfl) (by rw [cl3]; exact v3) (by decide)) ab bt (Nat.le_refl _) m0 m1 m2 m3 m4 m5
  by_cases q5 : kk = 5
  · subst q5
    have egg : gg = 4 := by
      rw [← eg]
      decide
    subst egg
    have er : bo kd vl t A 5 d b = .inr (b, d, 0, []) := bo_o (by decide) (by decide) (by decide) (by decide)
    refine yqQ5 c hM (by omega) hy (C.length : Int) (by omega) (by omega) l0 l1 l2 l3 l4 (fun l9 h9 y0 y1 f0 f1 u1 u2 u3 m0 m1 m2 m3 m4 m5 => ?_)
    refine hp_st0 (c := 94) hM (by decide +kernel) u1 (show ly_ths ly_TH 94 = some (.inl (.int, 1240, 0, 9999)) from rfl) (by omega) (by omega) (by omega) (by omega) (fun h2 v1 v2 v3 => ?_)
    rw [f0, show y1.toInt = 1200 + (C.length : Int) by omega] at v3
    have v3 : hp_p0 cst 24064 (1200 + (C.length : Int)) 0 h9 h2 := v3
    have F2 : ly_fr cst [24064, 60020, 60070] h9 h2 := hp_p0_fr v3 (by decide) rfl rfl
    have F : ly_fr cst [24064, 60020, 60070] h h2 := ly_fr_tr (hp_sub2 rfl u2) F2
    exact pl' (by decide) er v1 (hp_sub2 rfl F) (gl_tr (gl_fr u2 rfl) (gl_p0 v3 (by decide))) (rq_mv R hy v1 F rfl) (fn_mv r2 F rfl) (p0_re (fn_mv r3 u2 rfl) (by rw [cl3]; exact v3) (by decide)) ab bt (Nat.le_refl _) m0 m1 m2 m3 m4 m5
  by_cases q6 : kk = 6
  · subst q6
    have egg : gg = 5 := by
      rw [← eg]
      decide
    subst egg
    have er : bo kd vl t A 6 d b = .inr (b, d, 1, []) := bo_o (by decide) (by decide) (by decide) (by decide)
    refine yqQ6 c hM (by omega) hy (C.length : Int) (by omega) (by omega) l0 l1 l2 l3 l4 (fun l9 h9 y0 y1 f0 f1 u1 u2 u3 m0 m1 m2 m3 m4 m5 => ?_)
    refine hp_st0 (c := 94) hM (by decide +kernel) u1 (show ly_ths ly_TH 94 = some (.inl (.int, 1240, 0, 9999)) from rfl) (by omega) (by omega) (by omega) (by omega) (fun h2 v1 v2 v3 => ?_)
    rw [f0, show y1.toInt = 1200 + (C.length : Int) by omega] at v3
    have v3 : hp_p0 cst 24064 (1200 + (C.length : Int)) 1 h9 h2 := v3
    have F2 : ly_fr cst [24064, 60020, 60070] h9 h2 := hp_p0_fr v3 (by decide) rfl rfl
    have F : ly_fr cst [24064, 60020, 60070] h h2 := ly_fr_tr (hp_sub2 rfl u2) F2
    exact pl' (by decide) er v1 (hp_sub2 rfl F) (gl_tr (gl_fr u2 rfl) (gl_p0 v3 (by decide))) (rq_mv R hy v1 F rfl) (fn_mv r2 F rfl) (p0_re (fn_mv r3 u2 rfl) (by rw [cl3]; exact v3) (by decide)) ab bt (Nat.le_refl _) m0 m1 m2 m3 m4 m5
  by_cases q7 : kk = 7
  · subst q7
    have egg : gg = 6 := by
      rw [← eg]
      decide
    subst egg
    have er : bo kd vl t A 7 d b = .inr (b, d, 1, []) := bo_o (by decide) (by decide) (by decide) (by decide)
    refine yqQ7 c hM (by omega) hy (C.length : Int) (by omega) (by omega) l0 l1 l2 l3 l4 (fun l9 h9 y0 y1 f0 f1 u1 u2 u3 m0 m1 m2 m3 m4 m5 => ?_)
    refine hp_st0 (c := 94) hM (by decide +kernel) u1 (show ly_ths ly_TH 94 = some (.inl (.int, 1240, 0, 9999)) from rfl) (by omega) (by omega) (by omega) (by omega) (fun h2 v1 v2 v3 => ?_)
    rw [f0, show y1.toInt = 1200 + (C.length : Int) by omega] at v3
    have v3 : hp_p0 cst 24064 (1200 + (C.length : Int)) 1 h9 h2 := v3
    have F2 : ly_fr cst [24064, 60020, 60070] h9 h2 := hp_p0_fr v3 (by decide) rfl rfl
    have F : ly_fr cst [24064, 60020, 60070] h h2 := ly_fr_tr (hp_sub2 rfl u2) F2
    exact pl' (by decide) er v1 (hp_sub2 rfl F) (gl_tr (gl_fr u2 rfl) (gl_p0 v3 (by decide))) (rq_mv R hy v1 F rfl) (fn_mv r2 F rfl) (p0_re (fn_mv r3 u2 rfl) (by rw [cl3]; exact v3) (by decide)) ab bt (Nat.le_refl _) m0 m1 m2 m3 m4 m5
  by_cases q14 : kk = 14
  · subst q14
    have egg : gg = 13 := by
      rw [← eg]
      decide
    subst egg
    have er : bo kd vl t A 14 d b = .inr (b, d, 1, []) := bo_o (by decide) (by decide) (by decide) (by decide)
    refine yqQ14 c hM (by omega) hy (C.length : Int) (by omega) (by omega) l0 l1 l2 l3 l4 (fun l9 h9 y0 y1 f0 f1 u1 u2 u3 m0 m1 m2 m3 m4 m5 => ?_)
    refine hp_st0 (c := 94) hM (by decide +kernel) u1 (show ly_ths ly_TH 94 = some (.inl (.int, 1240, 0, 9999)) from rfl) (by omega) (by omega) (by omega) (by omega) (fun h2 v1 v2 v3 => ?_)
    rw [f0, show y1.toInt = 1200 + (C.length : Int) by omega] at v3
    have v3 : hp_p0 cst 24064 (1200 + (C.length : Int)) 1 h9 h2 := v3
    have F2 : ly_fr cst [24064, 60020, 60070] h9 h2 := hp_p0_fr v3 (by decide) rfl rfl
    have F : ly_fr cst [24064, 60020, 60070] h h2 := ly_fr_tr (hp_sub2 rfl u2) F2
    exact pl' (by decide) er v1 (hp_sub2 rfl F) (gl_tr (gl_fr u2 rfl) (gl_p0 v3 (by decide))) (rq_mv R hy v1 F rfl) (fn_mv r2 F rfl) (p0_re (fn_mv r3 u2 rfl) (by rw [cl3]; exact v3) (by decide)) ab bt (Nat.le_refl _) m0 m1 m2 m3 m4 m5
  by_cases q15 : kk = 15
  · subst q15
    have egg : gg = 13 := by
      rw [← eg]
      decide
    subst egg
    have er : bo kd vl t A 15 d b = .inr (b, d, 0, []) := bo_o (by decide) (by decide) (by decide) (by decide)
    refine yqQ15 c hM (by omega) hy (C.length : Int) (by omega) (by omega) l0 l1 l2 l3 l4 (fun l9 h9 y0 y1 f0 f1 u1 u2 u3 m0 m1 m2 m3 m4 m5 => ?_)
    refine hp_st0 (c := 94) hM (by decide +kernel) u1 (show ly_ths ly_TH 94 = some (.inl (.int, 1240, 0, 9999)) from rfl) (by omega) (by omega) (by omega) (by omega) (fun h2 v1 v2 v3 => ?_)
    rw [f0, show y1.toInt = 1200 + (C.length : Int) by omega] at v3
    have v3 : hp_p0 cst 24064 (1200 + (C.length : Int)) 0 h9 h2 := v3
    have F2 : ly_fr cst [24064, 60020, 60070] h9 h2 := hp_p0_fr v3 (by decide) rfl rfl
    have F : ly_fr cst [24064, 60020, 60070] h h2 := ly_fr_tr (hp_sub2 rfl u2) F2
    exact pl' (by decide) er v1 (hp_sub2 rfl F) (gl_tr (gl_fr u2 rfl) (gl_p0 v3 (by decide))) (rq_mv R hy v1 F rfl) (fn_mv r2 F rfl) (p0_re (fn_mv r3 u2 rfl) (by rw [cl3]; exact v3) (by decide)) ab bt (Nat.le_refl _) m0 m1 m2 m3 m4 m5
  omega
/-- a clause from the store of its KIND on -/
theorem yq_p {cst : am_K} {strs : List Nat} {D : Nat} {M : am_M} {h0 h : am_H} {l : am_L} (cc : ∀ d, hp_C cst strs d) (hM : m_P[304]? = some M) (hD : 34 ≤ D) (hy : ly_hy m_tt ly_TH h) {f : Int → Int} {n : Int} {t : Nat} {kd pl vl : Int → Int} {en : Nat → Int} (kb : kB kd t) (vb : vB kd vl t) {A : Int} {a : Nat} {C : List cl} {Z : List qt_Z} {T : List qt_T} {S W : List Int} {kk gg : Int} (ek : ak kd vl t a = kk) (kk0 : 0 ≤ kk) (kk1 : kk ≤ 16) (eg : kf kk = gg) (A0 : 0 ≤ A) (A1 : A ≤ 30) (fr : ly_fr cst [] h0 h) (c2 : ¬ (7 ≤ gg ∧ gg ≤ 13 ∧ tl gg 0 C = true)) (c39 : C.length ≤ 39) (I : yJ cst h f n t kd pl vl en A a C Z T S W) {xg xc : Int32} (exg : xg.toInt = gg) (exc : xc.toInt = (C.length : Int) + 1200) (l0 : hp_a l 0 94) (l1 : hp_i l 1 kk) (l2 : hp_i l 2 gg) (l3 : hp_i l 3 (C.length : Int)) (l4 : hp_i l 4 ((C.length : Int) + 1200)) : hp_F cst strs (gR cst h0 [19971, 19972, 19973, 19974, 19975, 19976, 19990, 19991, 20010, 20011, 20012, 20013, 20014, 20015, 20016, 23296, 23552, 23808, 24064, 24320, 24576, 24832, 25088, 25344, 25600, 25856, 26112, 26368, 26624, 26880, 27136, 60020, 60030, 60031, 60032, 60033, 60034, 60035, 60036, 60037, 60038, 60039, 60040, 60050, 60060, 60061, 60070, 60071] pl t n (yq_c kd vl t A C a) (fun y h9 => a < y.1 ∧ ∃ Z9 T9 S9 W9, yJ cst h9 f n t kd pl vl en A y.1 (C ++ [y.2]) Z9 T9 S9 W9)) D M 101 l [.int xg, .int xc, .ref 108] h := by
  have c := cc D
  obtain ⟨R, ⟨cm, r1, r2, r3, r4, zl, r5, r6, r7⟩, X, Y, WW, ⟨p1, p2, p3⟩, wl, -, rel, ha, kA⟩ := I
  have TT := R.1.1
  have n1 := R.1.2.2.1
  have cl1 : (C.map fun x => x.1).length = C.length := List.length_map ..
  have cl2 : (C.map fun x => x.2.1).length = C.length := List.length_map ..
  have cl3 : (C.map rz_n).length = C.length := List.length_map ..
  have cl4 : (C.map rz_m).length = C.length := List.length_map ..
  obtain ⟨q1, qw⟩ := ak_w ek kk0
  have lt : a < t := fk_in (kd := kd) (by rw [q1]; decide)
  have e3 := (tkT_l2 TT q1).2 (kw_3l (by omega) (by omega))
  have gg0 : 0 ≤ gg ∧ gg ≤ 14 := by
    rw [← eg]
    unfold kf
    split
    · omega
    · split
      · omega
      · split <;> omega
  have g16 : kk = 16 → gg = 14 := fun z => by
    rw [← eg, z]
    decide
  have pre : yq_c kd vl t A C a = (if gg < 7 ∧ fk kd t (a + 1) ≠ 1 then .inl (1, a + 1) else if gg < 7 ∧ tl gg (vl ((a + 1 : Nat) : Int)) C = true then .inl (3, a + 1) else yq_g kd t gg (bo kd vl t A kk (if gg < 7 then vl ((a + 1 : Nat) : Int) else 0) (if gg < 7 then a + 2 else a + 1))) := by
    unfold yq_c
    rw [ek, eg, if_neg (by omega), if_neg c2, if_neg (by omega)]
  refine hp_st0 (c := 92) hM (by decide +kernel) hy (show ly_ths ly_TH 92 = some (.inl (.int, 1240, 0, 14)) from rfl) (by omega) (by omega) (by omega) (by omega) (fun h1 u1 u2 u3 => ?_)
  rw [exg, show xc.toInt = 1200 + (C.length : Int) by omega] at u3
  have u3 : hp_p0 cst 23552 (1200 + (C.length : Int)) gg h h1 := u3
  have F1 : ly_fr cst [23552, 60020, 60030, 60031, 60032, 60033, 60034, 60035, 60036, 60037, 60038, 60039, 60040, 60070] h h1 := hp_p0_fr u3 (by decide) rfl rfl
  refine yqG c hM (by omega) u1 kk gg (C.length : Int) kk0 kk1 gg0.1 gg0.2 (by omega) (by omega) l0 l1 l2 l3 l4 (fun l2' h2 y0 y1 f0 f1 v1 v2 v3 m0 m1 m2 m3 m4 => ?_)
  refine hp_stj (c := 93) hM (by decide +kernel) v1 (show ly_ths ly_TH 93 = some (.inl (.long, 1240, 0, 0)) from rfl) rfl (by omega) (by omega) (fun h3 w1 w2 w3 => ?_)
  rw [f0, show y1.toInt = 1200 + (C.length : Int) by omega] at w3
  have w3 : hp_put cst 23808 (1200 + (C.length : Int)) 0 h2 h3 := w3
  have F3 : ly_fr cst [23808] h2 h3 := hp_put_fr (by rfl) w3
  refine yqH c hM (by omega) w1 kk gg (C.length : Int) kk0 kk1 gg0.1 gg0.2 (by omega) (by omega) m0 m1 m2 m3 m4 (fun l4' h4 y2 y3 f2 f3 x1 x2 x3 o0 o1 o2 o3 o4 => ?_)
  refine hp_st0 (c := 94) hM (by decide +kernel) x1 (show ly_ths ly_TH 94 = some (.inl (.int, 1240, 0, 9999)) from rfl) (by omega) (by omega) (by omega) (by omega) (fun h5 s1 s2 s3 => ?_)
  rw [f2, show y3.toInt = 1200 + (C.length : Int) by omega] at s3
  have s3 : hp_p0 cst 24064 (1200 + (C.length : Int)) 0 h4 h5 := s3
  have F5 : ly_fr cst [24064, 60020, 60070] h4 h5 := hp_p0_fr s3 (by decide) rfl rfl
  refine yqI c hM (by omega) s1 kk gg (C.length : Int) kk0 kk1 gg0.1 gg0.2 (by omega) (by omega) o0 o1 o2 o3 o4 (fun l6' h6 y4 y5 f4 f5 d1 d2 d3 i0 i1 i2 i3 i4 => ?_)
  refine hp_st0 (c := 96) hM (by decide +kernel) d1 (show ly_ths ly_TH 96 = some (.inl (.int, 1240, 0, 20)) from rfl) (by omega) (by omega) (by omega) (by omega) (fun h7 j1 j2 j3 => ?_)
  rw [f4, show y5.toInt = 1200 + (C.length : Int) by omega] at j3
  have j3 : hp_p0 cst 24576 (1200 + (C.length : Int)) 0 h6 h7 := j3
  have F7 : ly_fr cst [24576, 60020, 60070] h6 h7 := hp_p0_fr j3 (by decide) rfl rfl
  refine yqJ c hM (by omega) j1 kk gg (C.length : Int) kk0 kk1 gg0.1 gg0.2 (by omega) (by omega) i0 i1 i2 i3 i4 (fun l8' h8 t1 t2 t3 k0 k1 k2 k3 k4 => ?_)
  have FA : ly_fr cst [23552, 23808, 24064, 24576, 60020, 60030, 60031, 60032, 60033, 60034, 60035, 60036, 60037, 60038, 60039, 60040, 60070] h h8 := ly_fr_tr (hp_sub2 rfl F1) (ly_fr_tr (hp_sub2 rfl v2) (ly_fr_tr (hp_sub2 rfl F3) (ly_fr_tr (hp_sub2 rfl x2) (ly_fr_tr (hp_sub2 rfl F5) (ly_fr_tr (hp_sub2 rfl d2) (ly_fr_tr (hp_sub2 rfl F7) (hp_sub2 rfl t2)))))))
  have F18 : ly_fr cst [23808, 24064, 24576, 60020, 60070] h1 h8 := ly_fr_tr (hp_sub2 rfl v2) (ly_fr_tr (hp_sub2 rfl F3) (ly_fr_tr (hp_sub2 rfl x2) (ly_fr_tr (hp_sub2 rfl F5) (ly_fr_tr (hp_sub2 rfl d2) (ly_fr_tr (hp_sub2 rfl F7) (hp_sub2 rfl t2))))))
  have F38 : ly_fr cst [24064, 24576, 60020, 60070] h3 h8 := ly_fr_tr (hp_sub2 rfl x2) (ly_fr_tr (hp_sub2 rfl F5) (ly_fr_tr (hp_sub2 rfl d2) (ly_fr_tr (hp_sub2 rfl F7) (hp_sub2 rfl t2))))
  have F58 : ly_fr cst [24576, 60020, 60070] h5 h8 := ly_fr_tr (hp_sub2 rfl d2) (ly_fr_tr F7 (hp_sub2 rfl t2))
  have gA : gl true cst h h8 := gl_tr (gl_p0 u3 (by decide)) (gl_tr (gl_fr v2 rfl) (gl_tr (gl_pl w3 (by decide) (by decide)) (gl_tr (gl_fr x2 rfl) (gl_tr (gl_p0 s3 (by decide)) (gl_tr (gl_fr d2 rfl) (gl_tr (gl_p0 j3 (by decide)) (gl_fr t2 rfl)))))))
  have q1' : fn_N cst h8 23552 1200 ((C.map fun x => x.1) ++ [gg]) := fn_mv (p0_fn r1 (by rw [cl1]; exact u3) (by decide)) F18 rfl
  have q2' : fn_N cst h8 23808 1200 ((C.map fun x => x.2.1) ++ [0]) := fn_mv (fn_put (fn_mv (fn_mv r2 F1 rfl) v2 rfl) (by rw [cl2]; exact w3)) F38 rfl
  have q3' : fn_N cst h8 24064 1200 (C.map rz_n ++ [0]) := fn_mv (p0_fn (fn_mv (fn_mv (fn_mv (fn_mv r3 F1 rfl) v2 rfl) F3 rfl) x2 rfl) (by rw [cl3]; exact s3) (by decide)) F58 rfl
  have q4' : fn_N cst h8 24576 1200 (C.map rz_m ++ [0]) := fn_mv (p0_fn (fn_mv (fn_mv (fn_mv (fn_mv (fn_mv (fn_mv r4 F1 rfl) v2 rfl) F3 rfl) x2 rfl) F5 rfl) d2 rfl) (by rw [cl4]; exact j3) (by decide)) t2 rfl
  refine scz304_127 cc hM (by omega) t1 (rq_mv R hy t1 FA rfl) (by decide) (fun h9 z1 z2 z3 z4 => ?_)
  have FB : ly_fr cst [19971, 19972, 19973, 19974, 19975, 19976, 23552, 23808, 24064, 24576, 60020, 60030, 60031, 60032, 60033, 60034, 60035, 60036, 60037, 60038, 60039, 60040, 60070] h h9 := ly_fr_tr (hp_sub2 rfl FA) (hp_sub2 rfl z2)
  have gB : gl true cst h h9 := gl_tr gA z3
  have frB : ly_fr cst [19971, 19972, 19973, 19974, 19975, 19976, 19990, 19991, 20010, 20011, 20012, 20013, 20014, 20015, 20016, 23296, 23552, 23808, 24064, 24320, 24576, 24832, 25088, 25344, 25600, 25856, 26112, 26368, 26624, 26880, 27136, 60020, 60030, 60031, 60032, 60033, 60034, 60035, 60036, 60037, 60038, 60039, 60040, 60050, 60060, 60061, 60070, 60071] h0 h9 := ly_fr_tr (hp_sub2 rfl fr) (hp_sub2 rfl FB)
  have gB0 : gl true cst h0 h9 := gl_tr (gl_fr fr rfl) gB
  by_cases g7 : gg < 7
  rotate_left
  · refine yqL c hM (by omega) z1 kk gg (C.length : Int) kk0 kk1 (by omega) gg0.2 (by omega) (by omega) k0 k1 k2 k3 k4 (fun l10 h10 a1 a2 a3 e0 e1 e2 e3' e4 => ?_)
    rw [if_neg (fun z => g7 z.1), if_neg (fun z => g7 z.1), if_neg g7, if_neg g7] at pre
    have FC : ly_fr cst [19971, 19972, 19973, 19974, 19975, 19976, 23552, 23808, 24064, 24576, 60020, 60030, 60031, 60032, 60033, 60034, 60035, 60036, 60037, 60038, 60039, 60040, 60070] h h10 := ly_fr_tr FB (hp_sub2 rfl a2)
    have F810 : ly_fr cst [19971, 19972, 19973, 19974, 19975, 19976] h8 h10 := ly_fr_tr z2 (hp_sub2 rfl a2)
    exact yq_b cc hM hD a1 kb vb kk0 kk1 eg A0 A1 (ly_fr_tr frB (hp_sub2 rfl a2)) (gl_tr gB0 (gl_fr a2 rfl)) pre (fun _ => rfl) (rq_mv z4 z1 a1 a2 rfl) (FC _ _ _ rfl cm) (fn_mv q1' F810 rfl) (fn_mv q2' F810 rfl) (fn_mv q3' F810 rfl) (fn_mv q4' F810 rfl) zl (fn_mv r5 FC rfl) (fn_mv r6 FC rfl) (fn_mv r7 FC rfl) (qt_D_mv X FC rfl) (qt_S_mv Y FC rfl rfl) (qt_W_mv WW FC rfl rfl) ⟨by omega, by omega, by omega⟩ wl c39 rel (FC _ _ _ rfl kA) (by omega) lt e0 e1 e2 e3' e4
  have ks := rs_so z4.2.1
  have kp := z4.2.2.2
  have pb := pa_b z4.1.1 z4.1.2.1 (a + 1)
  have b0 := (rk_b kd t (a + 1) kb).1
  have b8 := (rk_b kd t (a + 1) kb).2.1
  by_cases qa : fk kd t (a + 1) = 1
  rotate_left
  · rw [if_pos ⟨g7, qa⟩] at pre
    have n1' : rk kd t (a + 1) ≠ 1 := fun z => qa ((rk_i1 kb (a + 1)).mp z)
    by_cases z : rk kd t (a + 1) ≤ 0
    · exact yqK0 c hM (by omega) z1 kk gg (C.length : Int) (pa pl t n (a + 1)) (rk kd t (a + 1)) kk0 kk1 gg0.1 (by omega) (by omega) (by omega) pb.1 (by omega) b0 z ks kp k0 k1 k2 k3 k4 (fun h10 w hw a1 a2 a3 b1 b2 => gR_f pre hw a1 (ly_fr_tr frB (hp_sub2 rfl a2)) (gf_tr gB0 (gl_fr a2 rfl)) b1 b2)
    · exact yqK1 c hM (by omega) z1 kk gg (C.length : Int) (pa pl t n (a + 1)) (rk kd t (a + 1)) kk0 kk1 gg0.1 (by omega) (by omega) (by omega) pb.1 (by omega) (by omega) b8 ks kp k0 k1 k2 k3 k4 (fun h10 w hw a1 a2 a3 b1 b2 => gR_f pre hw a1 (ly_fr_tr frB (hp_sub2 rfl a2)) (gf_tr gB0 (gl_fr a2 rfl)) b1 b2)
  rw [if_neg (fun z => z.2 qa)] at pre
  rw [(rk_i1 kb (a + 1)).mpr qa] at ks
  have lt1 : a + 1 < t := fk_in (kd := kd) (by rw [qa]; decide)
  have en2 := tkT_1 TT lt1
  have ka : kd ((a + 1 : Nat) : Int) = 1 := by
    rw [← fk_lt (kd := kd) lt1]
    exact qa
  have va := (vb (a + 1) lt1).1 ka
  have kv := (z4.2.1.1 lt1).2.2.1 ka
  refine yqK2 c hM (by omega) z1 kk gg (C.length : Int) (vl ((a + 1 : Nat) : Int)) kk0 kk1 gg0.1 (by omega) (by omega) (by omega) (by omega) (by omega) ks kv k0 k1 k2 k3 k4 (fun l10 h10 y6 y7 y8 f6 f7 f8 a1 a2 a3 e0 e1 e2 e3' e4 => ?_)
  obtain ⟨E, rfl⟩ : ∃ E, D = E + 1 := ⟨D - 1, by omega⟩
  have F810 : ly_fr cst [19971, 19972, 19973, 19974, 19975, 19976] h8 h10 := ly_fr_tr z2 (hp_sub2 rfl a2)
  have FC : ly_fr cst [19971, 19972, 19973, 19974, 19975, 19976, 23552, 23808, 24064, 24576, 60020, 60030, 60031, 60032, 60033, 60034, 60035, 60036, 60037, 60038, 60039, 60040, 60070] h h10 := ly_fr_tr FB (hp_sub2 rfl a2)
  have px : ∀ {r : Nat} {ns : List Int} {v : Int}, fn_N cst h8 r 1200 (ns ++ [v]) → ly_has r [19971, 19972, 19973, 19974, 19975, 19976] = false → fn_N cst h10 r 1200 ns := fun {r ns v} Q hr j hj => by
    have z := fn_mv Q F810 hr j (by rw [List.length_append]; omega)
    rw [List.getElem_append_left hj] at z
    exact z
  obtain ⟨r, hrun, w, s1', s2', s3', rhy, rfr, rr⟩ := yi_run (D := E) (C := C) (k := gg) (d := vl ((a + 1 : Nat) : Int)) (xk := y8) (xd := y7) (xu := y6) cc (by omega) a1 (px q1' rfl) (px q2' rfl) (by omega) gg0.1 gg0.2 f8 f7 f6
  refine hp_call (mi := 304) (pc := 157) (tg := 307) (na := 4) (c := 78) (ci := 12) (st0 := [.int y6, .long y7, .int y8, .ref 94]) (st := []) (av := [.int y8, .long y7, .int y6]) hM (by decide +kernel) a1 rfl rfl rfl (by decide) hrun s2' s3' ?_
  rw [s1']
  have FD : ly_fr cst [19971, 19972, 19973, 19974, 19975, 19976, 23552, 23808, 24064, 24576, 60020, 60030, 60031, 60032, 60033, 60034, 60035, 60036, 60037, 60038, 60039, 60040, 60070] h r.2.1 := ly_fr_tr FC (hp_sub2 rfl rfr)
  have frD : ly_fr cst [19971, 19972, 19973, 19974, 19975, 19976, 19990, 19991, 20010, 20011, 20012, 20013, 20014, 20015, 20016, 23296, 23552, 23808, 24064, 24320, 24576, 24832, 25088, 25344, 25600, 25856, 26112, 26368, 26624, 26880, 27136, 60020, 60030, 60031, 60032, 60033, 60034, 60035, 60036, 60037, 60038, 60039, 60040, 60050, 60060, 60061, 60070, 60071] h0 r.2.1 := ly_fr_tr (hp_sub2 rfl fr) (hp_sub2 rfl FD)
  have gD0 : gl true cst h0 r.2.1 := gl_tr gB0 (gl_tr (gl_fr a2 rfl) (gl_fr rfr rfl))
  have F9r : ly_fr cst [] h9 r.2.1 := ly_fr_tr a2 rfr
  rcases rr with ⟨te, w0⟩ | ⟨te, w0⟩
  · rw [if_pos ⟨g7, te⟩] at pre
    exact yqM1 c hM (by omega) rhy kk gg (C.length : Int) (pa pl t n (a + 1)) w w0 kk0 kk1 gg0.1 gg0.2 (by omega) (by omega) pb.1 (by omega) (F9r _ _ _ rfl kp) e0 e1 e2 e3' e4 (fun h11 w' hw b1 b2 b3 c1 c3 => gR_f pre hw b1 (ly_fr_tr frD (hp_sub2 rfl b2)) (gf_tr gD0 (gl_fr b2 rfl)) c1 c3)
  rw [if_neg (fun z => by rw [te] at z; exact absurd z.2 (by decide)), if_pos g7, if_pos g7] at pre
  refine yqM0 c hM (by omega) rhy kk gg (C.length : Int) (vl ((a + 1 : Nat) : Int)) w w0 kk0 kk1 gg0.1 gg0.2 (by omega) (by omega) (by omega) (by omega) (F9r _ _ _ rfl kv) e0 e1 e2 e3' e4 (fun l11 h11 y9 y10 f9 f10 b1 b2 b3 o0' o1' o2' o3' o4' => ?_)
  refine hp_stj (c := 93) hM (by decide +kernel) b1 (show ly_ths ly_TH 93 = some (.inl (.long, 1240, 0, 0)) from rfl) rfl (by omega) (by omega) (fun h12 c1 c2' c3 => ?_)
  rw [f9, show y10.toInt = 1200 + (C.length : Int) by omega] at c3
  have c3 : hp_put cst 23808 (1200 + (C.length : Int)) (vl ((a + 1 : Nat) : Int)) h11 h12 := c3
  have F12 : ly_fr cst [23808] h11 h12 := hp_put_fr (by rfl) c3
  refine yqN c hM (by omega) c1 kk gg (C.length : Int) kk0 kk1 gg0.1 gg0.2 (by omega) (by omega) o0' o1' o2' o3' o4' (fun l13 h13 d1' d2' d3' i0' i1' i2' i3' i4' => ?_)
  have Frx : ly_fr cst [23808] r.2.1 h13 := ly_fr_tr (hp_sub2 rfl b2) (ly_fr_tr F12 (hp_sub2 rfl d2'))
  refine scz304_181 cc hM (by omega) d1' (rq_mv (rq_mv z4 z1 rhy F9r rfl) rhy d1' Frx rfl) (by decide) (fun h14 j1' j2' j3' j4' => ?_)
  have Fr14 : ly_fr cst [19971, 19972, 19973, 19974, 19975, 19976, 23808] r.2.1 h14 := ly_fr_tr (hp_sub2 rfl Frx) (hp_sub2 rfl j2')
  have FE : ly_fr cst [19971, 19972, 19973, 19974, 19975, 19976, 23552, 23808, 24064, 24576, 60020, 60030, 60031, 60032, 60033, 60034, 60035, 60036, 60037, 60038, 60039, 60040, 60070] h h14 := ly_fr_tr FD (hp_sub2 rfl Fr14)
  have F8r : ly_fr cst [19971, 19972, 19973, 19974, 19975, 19976] h8 r.2.1 := ly_fr_tr F810 (hp_sub2 rfl rfr)
  have F14 : ly_fr cst [19971, 19972, 19973, 19974, 19975, 19976] h12 h14 := ly_fr_tr (hp_sub2 rfl d2') j2'
  have g14 : gl true cst h0 h14 := gl_tr gD0 (gl_tr (gl_fr b2 rfl) (gl_tr (gl_pl c3 (by decide) (by decide)) (gl_tr (gl_fr d2' rfl) j3')))
  exact yq_b cc hM hD j1' kb vb kk0 kk1 eg A0 A1 (ly_fr_tr frD (hp_sub2 rfl Fr14)) g14 pre (fun z => by have := g16 z; omega) j4' (FE _ _ _ rfl cm) (fn_mv (fn_mv q1' F8r rfl) Fr14 rfl) (fn_mv (fn_re (fn_mv (fn_mv q2' F8r rfl) b2 rfl) (by rw [cl2]; exact c3)) F14 rfl) (fn_mv (fn_mv q3' F8r rfl) Fr14 rfl) (fn_mv (fn_mv q4' F8r rfl) Fr14 rfl) zl (fn_mv r5 FE rfl) (fn_mv r6 FE rfl) (fn_mv r7 FE rfl) (qt_D_mv X FE rfl) (qt_S_mv Y FE rfl rfl) (qt_W_mv WW FE rfl rfl) ⟨by show 3 * (T.length : Int) + 2 ≤ en (a + 1 + 1); omega, by show 3 * (S.length : Int) + 1 ≤ 2 * en (a + 1 + 1); omega, by show 2 * ((qt_g T).length : Int) ≤ en (a + 1 + 1); omega⟩ wl c39 rel (FE _ _ _ rfl kA) (by omega) lt1 i0' i1' i2' i3' i4'
/-- readClause of the reference -/
theorem yq_run {cst : am_K} {strs : List Nat} {D : Nat} {h0 : am_H} (cc : ∀ d, hp_C cst strs d) (hD : 34 ≤ D) (hy : ly_hy m_tt ly_TH h0) {f : Int → Int} {n : Int} {t : Nat} {kd pl vl : Int → Int} {en : Nat → Int} (kb : kB kd t) (vb : vB kd vl t) {A : Int} {a : Nat} {C : List cl} {Z : List qt_Z} {T : List qt_T} {S W : List Int} (A0 : 0 ≤ A) (A1 : A ≤ 30) (I : yJ cst h0 f n t kd pl vl en A a C Z T S W) :
    ∃ r, am_Run cst m_cl m_tt m_P strs sx_bi (D + 1) 304 [.ref 94] h0 r ∧ (gR cst h0 [19971, 19972, 19973, 19974, 19975, 19976, 19990, 19991, 20010, 20011, 20012, 20013, 20014, 20015, 20016, 23296, 23552, 23808, 24064, 24320, 24576, 24832, 25088, 25344, 25600, 25856, 26112, 26368, 26624, 26880, 27136, 60020, 60030, 60031, 60032, 60033, 60034, 60035, 60036, 60037, 60038, 60039, 60040, 60050, 60060, 60061, 60070, 60071] pl t n (yq_c kd vl t A C a) (fun y h9 => a < y.1 ∧ ∃ Z9 T9 S9 W9, yJ cst h9 f n t kd pl vl en A y.1 (C ++ [y.2]) Z9 T9 S9 W9)) r := by
  obtain ⟨M, hM, hl⟩ := hp_M (mi := 304) (k := 1) (by decide +kernel)
  have c := cc D
  have I' := I
  obtain ⟨R, ⟨cm, r1, r2, -⟩, -, -, -, -, -, c40, -, ha, kA⟩ := I'
  have n1 := R.1.2.2.1
  have ks := rs_so R.2.1
  have kk := R.2.2.1
  have kp := R.2.2.2
  have pb := pa_b R.1.1 R.1.2.1 a
  have b0 := (rk_b kd t a kb).1
  have b8 := (rk_b kd t a kb).2.1
  have ab := ak_b kd vl t a
  have go : hp_F cst strs (gR cst h0 [19971, 19972, 19973, 19974, 19975, 19976, 19990, 19991, 20010, 20011, 20012, 20013, 20014, 20015, 20016, 23296, 23552, 23808, 24064, 24320, 24576, 24832, 25088, 25344, 25600, 25856, 26112, 26368, 26624, 26880, 27136, 60020, 60030, 60031, 60032, 60033, 60034, 60035, 60036, 60037, 60038, 60039, 60040, 60050, 60060, 60061, 60070, 60071] pl t n (yq_c kd vl t A C a) (fun y h9 => a < y.1 ∧ ∃ Z9 T9 S9 W9, yJ cst h9 f n t kd pl vl en A y.1 (C ++ [y.2]) Z9 T9 S9 W9)) D M 0 (lv_args 0 [.ref 94]) [] h0 := by
    have bad : ∀ q, yq_c kd vl t A C a = .inl (q, a) → ∀ (h2 : am_H) (w : Int32), w.toInt = 0 → ly_hy m_tt ly_TH h2 → ly_fr cst [19990, 19991] h0 h2 → ly_hv cst h2 19990 0 = some q → ly_hv cst h2 19991 0 = some (pa pl t n a) → (gR cst h0 [19971, 19972, 19973, 19974, 19975, 19976, 19990, 19991, 20010, 20011, 20012, 20013, 20014, 20015, 20016, 23296, 23552, 23808, 24064, 24320, 24576, 24832, 25088, 25344, 25600, 25856, 26112, 26368, 26624, 26880, 27136, 60020, 60030, 60031, 60032, 60033, 60034, 60035, 60036, 60037, 60038, 60039, 60040, 60050, 60060, 60061, 60070, 60071] pl t n (yq_c kd vl t A C a) (fun y h9 => a < y.1 ∧ ∃ Z9 T9 S9 W9, yJ cst h9 f n t kd pl vl en A y.1 (C ++ [y.2]) Z9 T9 S9 W9)) (some (.int w), h2, 0, 0) := fun q e h2 w hw u1 u2 k1 k2 => gR_f e hw u1 (hp_sub2 rfl u2) (gl_fr u2 rfl) k1 k2
    by_cases q1 : fk kd t a = 1
    rotate_left
    · have er : yq_c kd vl t A C a = .inl (1, a) := by
        unfold yq_c
        rw [if_pos (Or.inl (by rw [ak_n q1]; decide))]
      have n1' : rk kd t a ≠ 1 := fun z => q1 ((rk_i1 kb a).mp z)
      by_cases z : rk kd t a ≤ 0
      · exact yqA0 c hM (by omega) hy (pa pl t n a) (rk kd t a) pb.1 (by omega) b0 z ks kp rfl (fun h2 w hw u1 u2 u3 k1 k2 => bad 1 er h2 w hw u1 u2 k1 k2)
      · exact yqA1 c hM (by omega) hy (pa pl t n a) (rk kd t a) pb.1 (by omega) (by omega) b8 ks kp rfl (fun h2 w hw u1 u2 u3 k1 k2 => bad 1 er h2 w hw u1 u2 k1 k2)
    rw [(rk_i1 kb a).mpr q1] at ks
    by_cases k0 : ak kd vl t a < 0
    · have er : yq_c kd vl t A C a = .inl (1, a) := by
        unfold yq_c
        rw [if_pos (Or.inl k0)]
      exact yqB0 c hM (by omega) hy (pa pl t n a) (ak kd vl t a) pb.1 (by omega) ab.1 (by omega) ks kk kp rfl (fun h2 w hw u1 u2 u3 k1 k2 => bad 1 er h2 w hw u1 u2 k1 k2)
    by_cases k16 : 16 < ak kd vl t a
    · have er : yq_c kd vl t A C a = .inl (1, a) := by
        unfold yq_c
        rw [if_pos (Or.inr k16)]
      exact yqB1 c hM (by omega) hy (pa pl t n a) (ak kd vl t a) pb.1 (by omega) (by omega) ab.2 ks kk kp rfl (fun h2 w hw u1 u2 u3 k1 k2 => bad 1 er h2 w hw u1 u2 k1 k2)
    have c1 : ¬ (ak kd vl t a < 0 ∨ 16 < ak kd vl t a) := by omega
    -- FULL of clauses
    have full : C.length = 40 → ¬ (7 ≤ kf (ak kd vl t a) ∧ kf (ak kd vl t a) ≤ 13 ∧ tl (kf (ak kd vl t a)) 0 C = true) → yq_c kd vl t A C a = .inl (4, a) := fun z y => by
      unfold yq_c
      rw [if_neg c1, if_neg y, if_pos z]
    by_cases ca0 : ak kd vl t a ≤ 4
    · have eg : kf (ak kd vl t a) = ak kd vl t a := by
        unfold kf
        rw [if_pos ca0]
      have c2 : ¬ (7 ≤ kf (ak kd vl t a) ∧ kf (ak kd vl t a) ≤ 13 ∧ tl (kf (ak kd vl t a)) 0 C = true) := by omega
      by_cases z : C.length = 40
      · have er := full z c2
        rw [z] at cm
        exact yqC0 c hM (by omega) hy (ak kd vl t a) (pa pl t n a) (by omega) (by omega) pb.1 (by omega) ks kk cm kp rfl (fun h2 w hw u1 u2 u3 k1 k2 => bad 4 er h2 w hw u1 u2 k1 k2)
      · rw [eg] at c2
        exact yqD0 c hM (by omega) hy (ak kd vl t a) (C.length : Int) (by omega) (by omega) (by omega) (by omega) ks kk cm rfl (fun l1 h1 y0 y1 f0 f1 u1 u2 u3 m0 m1 m2 m3 m4 => yq_p cc hM hD u1 kb vb rfl (by omega) (by omega) eg A0 A1 u2 c2 (by omega) (yJ_mv I hy u1 u2) f0 f1 m0 m1 m2 m3 m4)
    by_cases ca1 : ak kd vl t a ≤ 7
    · have eg : kf (ak kd vl t a) = ak kd vl t a - 1 := by
        unfold kf
        rw [if_neg ca0, if_pos (by omega)]
      have c2 : ¬ (7 ≤ kf (ak kd vl t a) ∧ kf (ak kd vl t a) ≤ 13 ∧ tl (kf (ak kd vl t a)) 0 C = true) := by omega
      by_cases z : C.length = 40
      · have er := full z c2
        rw [z] at cm
        exact yqC1 c hM (by omega) hy (ak kd vl t a) (pa pl t n a) (by omega) (by omega) pb.1 (by omega) ks kk cm kp rfl (fun h2 w hw u1 u2 u3 k1 k2 => bad 4 er h2 w hw u1 u2 k1 k2)
      · rw [eg] at c2
        exact yqD1 c hM (by omega) hy (ak kd vl t a) (C.length : Int) (by omega) (by omega) (by omega) (by omega) ks kk cm rfl (fun l1 h1 y0 y1 f0 f1 u1 u2 u3 m0 m1 m2 m3 m4 => yq_p cc hM hD u1 kb vb rfl (by omega) (by omega) eg A0 A1 u2 c2 (by omega) (yJ_mv I hy u1 u2) f0 f1 m0 m1 m2 m3 m4)
    by_cases ca2 : ak kd vl t a = 16
    · have eg : kf (ak kd vl t a) = 14 := by
        unfold kf
        rw [if_neg ca0, if_neg (by omega), if_neg (by omega)]
      have c2 : ¬ (7 ≤ kf (ak kd vl t a) ∧ kf (ak kd vl t a) ≤ 13 ∧ tl (kf (ak kd vl t a)) 0 C = true) := by omega
      by_cases z : C.length = 40
      · have er := full z c2
        rw [z] at cm
        exact yqC2 c hM (by omega) hy (ak kd vl t a) (pa pl t n a) (by omega) (by omega) pb.1 (by omega) ks kk cm kp rfl (fun h2 w hw u1 u2 u3 k1 k2 => bad 4 er h2 w hw u1 u2 k1 k2)
      · rw [eg] at c2
        exact yqD2 c hM (by omega) hy (ak kd vl t a) (C.length : Int) (by omega) (by omega) (by omega) (by omega) ks kk cm rfl (fun l1 h1 y0 y1 f0 f1 u1 u2 u3 m0 m1 m2 m3 m4 => yq_p cc hM hD u1 kb vb rfl (by omega) (by omega) eg A0 A1 u2 c2 (by omega) (yJ_mv I hy u1 u2) f0 f1 m0 m1 m2 m3 m4)
    -- told before?
    have tld : ∀ {gg : Int} (l1 : am_L) (h1 : am_H) (y0 y2 : Int32) (y1 : Int64), kf (ak kd vl t a) = gg → 7 ≤ gg → gg ≤ 13 → y0.toInt = (C.length : Int) → y1.toInt = 0 → y2.toInt = gg → ly_hy m_tt ly_TH h1 → ly_fr cst [] h0 h1 → hp_a l1 0 94 → hp_i l1 1 (ak kd vl t a) → hp_i l1 2 gg → hp_i l1 3 (C.length : Int) → hp_F cst strs (gR cst h0 [19971, 19972, 19973, 19974, 19975, 19976, 19990, 19991, 20010, 20011, 20012, 20013, 20014, 20015, 20016, 23296, 23552, 23808, 24064, 24320, 24576, 24832, 25088, 25344, 25600, 25856, 26112, 26368, 26624, 26880, 27136, 60020, 60030, 60031, 60032, 60033, 60034, 60035, 60036, 60037, 60038, 60039, 60040, 60050, 60060, 60061, 60070, 60071] pl t n (yq_c kd vl t A C a) (fun y h9 => a < y.1 ∧ ∃ Z9 T9 S9 W9, yJ cst h9 f n t kd pl vl en A y.1 (C ++ [y.2]) Z9 T9 S9 W9)) D M 63 l1 [.int y0, .long y1, .int y2, .ref 94] h1 := by
      intro gg l1 h1 y0 y2 y1 eg g7 g13 f0 f1 f2 u1 u2 m0 m1 m2 m3
      obtain ⟨E, rfl⟩ : ∃ E, D = E + 1 := ⟨D - 1, by omega⟩
      obtain ⟨r, hrun, w, s1, s2, s3, rhy, rfr, rr⟩ := yi_run (D := E) (C := C) (k := gg) (d := 0) (xk := y2) (xd := y1) (xu := y0) cc (by omega) u1 (fn_mv r1 u2 rfl) (fn_mv r2 u2 rfl) c40 (by omega) (by omega) f2 f1 f0
      refine hp_call (mi := 304) (pc := 63) (tg := 307) (na := 4) (c := 78) (ci := 12) (st0 := [.int y0, .long y1, .int y2, .ref 94]) (st := []) (av := [.int y2, .long y1, .int y0]) hM (by decide +kernel) u1 rfl rfl rfl (by decide) hrun s2 s3 ?_
      rw [s1]
      have F1 : ly_fr cst [] h0 r.2.1 := ly_fr_tr u2 rfr
      rcases rr with ⟨te, w0⟩ | ⟨te, w0⟩
      · have er : yq_c kd vl t A C a = .inl (3, a) := by
          unfold yq_c
          rw [if_neg c1, eg, if_pos ⟨g7, g13, te⟩]
        exact yqF1 c hM (by omega) rhy (ak kd vl t a) gg (C.length : Int) (pa pl t n a) w w0 (by omega) (by omega) (by omega) (by omega) (by omega) (by omega) pb.1 (by omega) (F1 _ _ _ rfl kp) m0 m1 m2 m3 (fun h2 w hw v1 v2 v3 k1 k2 => bad 3 er h2 w hw v1 (ly_fr_tr (hp_sub2 rfl F1) v2) k1 k2)
      have c2 : ¬ (7 ≤ gg ∧ gg ≤ 13 ∧ tl gg 0 C = true) := fun z => by
        rw [te] at z
        exact absurd z.2.2 (by decide)
      by_cases z : C.length = 40
      · have er := full z (by rw [eg]; exact c2)
        rw [z] at m3
        exact yqF4 c hM (by omega) rhy (ak kd vl t a) gg (pa pl t n a) w w0 (by omega) (by omega) (by omega) (by omega) pb.1 (by omega) (F1 _ _ _ rfl kp) m0 m1 m2 m3 (fun h2 w hw v1 v2 v3 k1 k2 => bad 4 er h2 w hw v1 (ly_fr_tr (hp_sub2 rfl F1) v2) k1 k2)
      · exact yqF0 c hM (by omega) rhy (ak kd vl t a) gg (C.length : Int) w w0 (by omega) (by omega) (by omega) (by omega) (by omega) (by omega) m0 m1 m2 m3 (fun l2 h2 x0 x1 g0 g1 v1 v2 v3 n0 n1' n2 n3 n4 => yq_p cc hM hD v1 kb vb rfl (by omega) (by omega) eg A0 A1 (ly_fr_tr F1 v2) c2 (by omega) (yJ_mv I hy v1 (ly_fr_tr F1 v2)) g0 g1 n0 n1' n2 n3 n4)
    by_cases k13 : ak kd vl t a ≤ 13
    · have eg : kf (ak kd vl t a) = ak kd vl t a - 1 := by
        unfold kf
        rw [if_neg (by omega), if_pos (by omega)]
      exact yqE0 c hM (by omega) hy (ak kd vl t a) (C.length : Int) (by omega) k13 (by omega) (by omega) ks kk cm rfl (fun l1 h1 y0 y1 y2 f0 f1 f2 u1 u2 u3 m0 m1 m2 m3 => tld l1 h1 y0 y2 y1 eg (by omega) (by omega) f0 f1 f2 u1 u2 m0 m1 m2 m3)
    · have eg : kf (ak kd vl t a) = 13 := by
        unfold kf
        rw [if_neg (by omega), if_neg (by omega), if_pos (by omega)]
      exact yqE1 c hM (by omega) hy (ak kd vl t a) (C.length : Int) (by omega) (by omega) (by omega) (by omega) ks kk cm rfl (fun l1 h1 y0 y1 y2 f0 f1 f2 u1 u2 u3 m0 m1 m2 m3 => tld l1 h1 y0 y2 y1 eg (by omega) (by omega) f0 f1 f2 u1 u2 m0 m1 m2 m3)
  obtain ⟨n', r, hgo, w, s1, s2, s3, s4⟩ := go
  simp only [Nat.zero_add] at s2 s3
  exact ⟨r, Or.inr ⟨M, n', hM, hl, hgo⟩, w, s1, s2, s3, s4⟩
