/-! PRINTED by wip/p2/hp_rcond.py: readOne, readAll, readCond of the reference, exactly -/
theorem yx0_k : hp_chk 311 0 0 [] [] [(0, .inr (.inr (.inl (some 94))))] [] [] [] 8 [(2, ([], 0, [], [], [(0, .inr (.inr (.inl (some 94)))), (1, .inl (0, []))], [], []))] [] = true := by decide +kernel
theorem yx0 {cst : am_K} {strs : List Nat} {Φ : am_Q → Prop} {D : Nat} {M : am_M} {h : am_H} {l : am_L} (c : hp_C cst strs D) (hM : m_P[311]? = some M) (hD : (8 : Int) ≤ (D : Int) + 1) (hy : ly_hy m_tt ly_TH h) (l0 : hp_a l 0 94) (e0 : ∀ (l' : am_L) (h' : am_H), ly_hy m_tt ly_TH h' → ly_fr cst [] h h' → h.length ≤ h'.length → hp_a l' 0 94 → hp_i l' 1 0 → hp_F cst strs Φ D M 2 l' [] h') : hp_F cst strs Φ D M 0 l [] h := by
  refine hp_arc c hM yx0_k hD [] rfl hy hp_Bn hp_Fn hp_Kn (hp_La l0 hp_Ln) trivial ?_ ?_
  · intro p hp ys l' st' h' hys a1 a2 a3 gZ gL gS
    rcases List.mem_cons.mp hp with rfl | hp
    · obtain rfl := hp_y0 hys
      cases hp_gSn gS
      exact e0 l' h' a1 a2 a3 (hp_gLa gL (List.mem_of_getElem? (i := 0) rfl) (by decide)) (hp_gLi (z := (0 + 0)) gL (List.mem_of_getElem? (i := 1) rfl) rfl (by omega))
    cases hp
  · intro p hp ys v h' hys a1 a2 a3 gZ gS
    cases hp
theorem yxN_k : hp_chk 311 2 1 [(0, 0, 1200)] [] [(0, .inr (.inr (.inl (some 94)))), (1, .inl (0, [(0, 1)]))] [] [(19971, (0, []), (1, [])), (19972, (0, []), (20, []))] [] 8 [(23, ([], 1, [(0, 0, 1200)], [], [(0, .inr (.inr (.inl (some 94)))), (1, .inl (1, [(0, 1)]))], [.inr (.inr (.inl (some 94)))], []))] [] = true := by decide +kernel
theorem yxN {cst : am_K} {strs : List Nat} {Φ : am_Q → Prop} {D : Nat} {M : am_M} {h : am_H} {l : am_L} (c : hp_C cst strs D) (hM : m_P[311]? = some M) (hD : (8 : Int) ≤ (D : Int) + 1) (hy : ly_hy m_tt ly_TH h) (j : Int) (b0 : 0 ≤ j) (t0 : j ≤ 1200) (k0 : ly_hv cst h 19971 0 = some 1) (k1 : ly_hv cst h 19972 0 = some 20) (l0 : hp_a l 0 94) (l1 : hp_i l 1 (j)) (e0 : ∀ (l' : am_L) (h' : am_H), ly_hy m_tt ly_TH h' → ly_fr cst [] h h' → h.length ≤ h'.length → hp_a l' 0 94 → hp_i l' 1 (j + 1) → hp_F cst strs Φ D M 23 l' [.ref 94] h') : hp_F cst strs Φ D M 2 l [] h := by
  refine hp_arc c hM yxN_k hD [j] rfl hy (hp_Bc (z := j) rfl b0 t0 hp_Bn) hp_Fn (hp_Kc (zi := (0 + 0)) (zv := (1 + 0)) k0 rfl rfl (by omega) (by omega) (hp_Kc (zi := (0 + 0)) (zv := (20 + 0)) k1 rfl rfl (by omega) (by omega) hp_Kn)) (hp_La l0 (hp_Li (z := (0 + (1 * j + 0))) l1 rfl (by omega) hp_Ln)) trivial ?_ ?_
  · intro p hp ys l' st' h' hys a1 a2 a3 gZ gL gS
    rcases List.mem_cons.mp hp with rfl | hp
    · obtain rfl := hp_y0 hys
      obtain ⟨t0, rfl, g0⟩ := hp_gSa gS (by decide)
      cases hp_gSn g0
      exact e0 l' h' a1 a2 a3 (hp_gLa gL (List.mem_of_getElem? (i := 0) rfl) (by decide)) (hp_gLi (z := (1 + (1 * j + 0))) gL (List.mem_of_getElem? (i := 1) rfl) rfl (by omega))
    cases hp
  · intro p hp ys v h' hys a1 a2 a3 gZ gS
    cases hp
theorem yxG_k : hp_chk 311 26 1 [(0, 0, 1200)] [] [(0, .inr (.inr (.inl (some 94)))), (1, .inl (0, [(0, 1)]))] [] [] [] 8 [(2, ([], 1, [(0, 0, 1200)], [], [(0, .inr (.inr (.inl (some 94)))), (1, .inl (0, [(0, 1)]))], [], []))] [] = true := by decide +kernel
theorem yxG {cst : am_K} {strs : List Nat} {Φ : am_Q → Prop} {D : Nat} {M : am_M} {h : am_H} {l : am_L} (c : hp_C cst strs D) (hM : m_P[311]? = some M) (hD : (8 : Int) ≤ (D : Int) + 1) (hy : ly_hy m_tt ly_TH h) (j : Int) (b0 : 0 ≤ j) (t0 : j ≤ 1200) (l0 : hp_a l 0 94) (l1 : hp_i l 1 (j)) (e0 : ∀ (l' : am_L) (h' : am_H), ly_hy m_tt ly_TH h' → ly_fr cst [] h h' → h.length ≤ h'.length → hp_a l' 0 94 → hp_i l' 1 (j) → hp_F cst strs Φ D M 2 l' [] h') : hp_F cst strs Φ D M 26 l [] h := by
  refine hp_arc c hM yxG_k hD [j] rfl hy (hp_Bc (z := j) rfl b0 t0 hp_Bn) hp_Fn hp_Kn (hp_La l0 (hp_Li (z := (0 + (1 * j + 0))) l1 rfl (by omega) hp_Ln)) trivial ?_ ?_
  · intro p hp ys l' st' h' hys a1 a2 a3 gZ gL gS
    rcases List.mem_cons.mp hp with rfl | hp
    · obtain rfl := hp_y0 hys
      cases hp_gSn gS
      exact e0 l' h' a1 a2 a3 (hp_gLa gL (List.mem_of_getElem? (i := 0) rfl) (by decide)) (hp_gLi (z := (0 + (1 * j + 0))) gL (List.mem_of_getElem? (i := 1) rfl) rfl (by omega))
    cases hp
  · intro p hp ys v h' hys a1 a2 a3 gZ gS
    cases hp
theorem yxA_k : hq_chk [305] 311 2 2 [(0, 0, 1200), (1, 0, 1200)] [] [(0, .inr (.inr (.inl (some 94)))), (1, .inl (0, [(0, 1)]))] [] [(19971, (0, []), (5, [])), (19973, (0, []), (0, [(1, 1)])), (20015, (0, []), (6, []))] [19990, 19991] 8 [] [([], 2, [(0, 0, 1200), (1, 0, 1200)], [], [], [.inl (0, [])], [(19990, (0, []), (4, [])), (19991, (0, []), (0, [(1, 1)]))])] = true := by decide +kernel
theorem yxA {cst : am_K} {strs : List Nat} {Φ : am_Q → Prop} {D : Nat} {M : am_M} {h : am_H} {l : am_L} (c : hp_C cst strs D) (hM : m_P[311]? = some M) (hD : (8 : Int) ≤ (D : Int) + 1) (hy : ly_hy m_tt ly_TH h) (j p : Int) (b0 : 0 ≤ j) (t0 : j ≤ 1200) (b1 : 0 ≤ p) (t1 : p ≤ 1200) (k0 : ly_hv cst h 19971 0 = some 5) (k1 : ly_hv cst h 19973 0 = some (p)) (k2 : ly_hv cst h 20015 0 = some 6) (l0 : hp_a l 0 94) (l1 : hp_i l 1 (j)) (r0 : ∀ (h' : am_H) (y0 : Int32), y0.toInt = 0 → ly_hy m_tt ly_TH h' → ly_fr cst [19990, 19991] h h' → h.length ≤ h'.length → ly_hv cst h' 19990 0 = some 4 → ly_hv cst h' 19991 0 = some (p) → Φ (some (.int y0), h', 0, 0)) : hp_F cst strs Φ D M 2 l [] h := by
  refine hq_arc c hM yxA_k hD [j, p] rfl hy (hp_Bc (z := j) rfl b0 t0 (hp_Bc (z := p) rfl b1 t1 hp_Bn)) hp_Fn (hp_Kc (zi := (0 + 0)) (zv := (5 + 0)) k0 rfl rfl (by omega) (by omega) (hp_Kc (zi := (0 + 0)) (zv := (0 + (1 * p + 0))) k1 rfl rfl (by omega) (by omega) (hp_Kc (zi := (0 + 0)) (zv := (6 + 0)) k2 rfl rfl (by omega) (by omega) hp_Kn))) (hp_La l0 (hp_Li (z := (0 + (1 * j + 0))) l1 rfl (by omega) hp_Ln)) trivial ?_ ?_
  · intro p hp ys l' st' h' hys a1 a2 a3 gZ gL gS
    cases hp
  · intro p hp ys v h' hys a1 a2 a3 gZ gS
    rcases List.mem_cons.mp hp with rfl | hp
    · obtain rfl := hp_y0 hys
      cases v with
      | none => cases gS
      | some w =>
        obtain ⟨y0, t0, s0, q0, -⟩ := hp_gSi (z := (0 + 0)) gS rfl
        cases s0
        exact r0 h' y0 (by omega) a1 a2 a3 (hp_gK (zi := (0 + 0)) (zv := (4 + 0)) gZ.2.2.2 (List.mem_of_getElem? (i := 0) rfl) rfl rfl (by omega) (by omega)) (hp_gK (zi := (0 + 0)) (zv := (0 + (1 * p + 0))) gZ.2.2.2 (List.mem_of_getElem? (i := 1) rfl) rfl rfl (by omega) (by omega))
    cases hp
theorem yxB_k : hp_chk 311 2 2 [(0, 0, 1200), (1, 0, 5)] [] [(0, .inr (.inr (.inl (some 94)))), (1, .inl (0, [(0, 1)]))] [] [(19971, (0, []), (5, [])), (20015, (0, []), (0, [(1, 1)]))] [20015] 8 [(63, ([], 2, [(0, 0, 1200), (1, 0, 5)], [], [(0, .inr (.inr (.inl (some 94)))), (1, .inl (0, [(0, 1)]))], [.inr (.inr (.inl (some 94)))], [(20015, (0, []), (1, [(1, 1)]))]))] [] = true := by decide +kernel
theorem yxB {cst : am_K} {strs : List Nat} {Φ : am_Q → Prop} {D : Nat} {M : am_M} {h : am_H} {l : am_L} (c : hp_C cst strs D) (hM : m_P[311]? = some M) (hD : (8 : Int) ≤ (D : Int) + 1) (hy : ly_hy m_tt ly_TH h) (j o : Int) (b0 : 0 ≤ j) (t0 : j ≤ 1200) (b1 : 0 ≤ o) (t1 : o ≤ 5) (k0 : ly_hv cst h 19971 0 = some 5) (k1 : ly_hv cst h 20015 0 = some (o)) (l0 : hp_a l 0 94) (l1 : hp_i l 1 (j)) (e0 : ∀ (l' : am_L) (h' : am_H), ly_hy m_tt ly_TH h' → ly_fr cst [20015] h h' → h.length ≤ h'.length → ly_hv cst h' 20015 0 = some (o + 1) → hp_a l' 0 94 → hp_i l' 1 (j) → hp_F cst strs Φ D M 63 l' [.ref 94] h') : hp_F cst strs Φ D M 2 l [] h := by
  refine hp_arc c hM yxB_k hD [j, o] rfl hy (hp_Bc (z := j) rfl b0 t0 (hp_Bc (z := o) rfl b1 t1 hp_Bn)) hp_Fn (hp_Kc (zi := (0 + 0)) (zv := (5 + 0)) k0 rfl rfl (by omega) (by omega) (hp_Kc (zi := (0 + 0)) (zv := (0 + (1 * o + 0))) k1 rfl rfl (by omega) (by omega) hp_Kn)) (hp_La l0 (hp_Li (z := (0 + (1 * j + 0))) l1 rfl (by omega) hp_Ln)) trivial ?_ ?_
  · intro p hp ys l' st' h' hys a1 a2 a3 gZ gL gS
    rcases List.mem_cons.mp hp with rfl | hp
    · obtain rfl := hp_y0 hys
      obtain ⟨t0, rfl, g0⟩ := hp_gSa gS (by decide)
      cases hp_gSn g0
      exact e0 l' h' a1 a2 a3 (hp_gK (zi := (0 + 0)) (zv := (1 + (1 * o + 0))) gZ.2.2.2 (List.mem_of_getElem? (i := 0) rfl) rfl rfl (by omega) (by omega)) (hp_gLa gL (List.mem_of_getElem? (i := 0) rfl) (by decide)) (hp_gLi (z := (0 + (1 * j + 0))) gL (List.mem_of_getElem? (i := 1) rfl) rfl (by omega))
    cases hp
  · intro p hp ys v h' hys a1 a2 a3 gZ gS
    cases hp
theorem yxC0_k : hp_chk 311 2 2 [(0, 0, 1200), (1, 0, 0)] [] [(0, .inr (.inr (.inl (some 94)))), (1, .inl (0, [(0, 1)]))] [] [(19971, (0, []), (0, [(1, 1)]))] [] 8 [(108, ([], 2, [(0, 0, 1200), (1, 0, 0)], [], [(0, .inr (.inr (.inl (some 94)))), (1, .inl (0, [(0, 1)]))], [.inr (.inr (.inl (some 94)))], []))] [] = true := by decide +kernel
theorem yxC0 {cst : am_K} {strs : List Nat} {Φ : am_Q → Prop} {D : Nat} {M : am_M} {h : am_H} {l : am_L} (c : hp_C cst strs D) (hM : m_P[311]? = some M) (hD : (8 : Int) ≤ (D : Int) + 1) (hy : ly_hy m_tt ly_TH h) (j q : Int) (b0 : 0 ≤ j) (t0 : j ≤ 1200) (b1 : 0 ≤ q) (t1 : q ≤ 0) (k0 : ly_hv cst h 19971 0 = some (q)) (l0 : hp_a l 0 94) (l1 : hp_i l 1 (j)) (e0 : ∀ (l' : am_L) (h' : am_H), ly_hy m_tt ly_TH h' → ly_fr cst [] h h' → h.length ≤ h'.length → hp_a l' 0 94 → hp_i l' 1 (j) → hp_F cst strs Φ D M 108 l' [.ref 94] h') : hp_F cst strs Φ D M 2 l [] h := by
  refine hp_arc c hM yxC0_k hD [j, q] rfl hy (hp_Bc (z := j) rfl b0 t0 (hp_Bc (z := q) rfl b1 t1 hp_Bn)) hp_Fn (hp_Kc (zi := (0 + 0)) (zv := (0 + (1 * q + 0))) k0 rfl rfl (by omega) (by omega) hp_Kn) (hp_La l0 (hp_Li (z := (0 + (1 * j + 0))) l1 rfl (by omega) hp_Ln)) trivial ?_ ?_
  · intro p hp ys l' st' h' hys a1 a2 a3 gZ gL gS
    rcases List.mem_cons.mp hp with rfl | hp
    · obtain rfl := hp_y0 hys
      obtain ⟨t0, rfl, g0⟩ := hp_gSa gS (by decide)
      cases hp_gSn g0
      exact e0 l' h' a1 a2 a3 (hp_gLa gL (List.mem_of_getElem? (i := 0) rfl) (by decide)) (hp_gLi (z := (0 + (1 * j + 0))) gL (List.mem_of_getElem? (i := 1) rfl) rfl (by omega))
    cases hp
  · intro p hp ys v h' hys a1 a2 a3 gZ gS
    cases hp
theorem yxC1_k : hp_chk 311 2 2 [(0, 0, 1200), (1, 2, 4)] [] [(0, .inr (.inr (.inl (some 94)))), (1, .inl (0, [(0, 1)]))] [] [(19971, (0, []), (0, [(1, 1)]))] [] 8 [(108, ([], 2, [(0, 0, 1200), (1, 2, 4)], [], [(0, .inr (.inr (.inl (some 94)))), (1, .inl (0, [(0, 1)]))], [.inr (.inr (.inl (some 94)))], []))] [] = true := by decide +kernel
theorem yxC1 {cst : am_K} {strs : List Nat} {Φ : am_Q → Prop} {D : Nat} {M : am_M} {h : am_H} {l : am_L} (c : hp_C cst strs D) (hM : m_P[311]? = some M) (hD : (8 : Int) ≤ (D : Int) + 1) (hy : ly_hy m_tt ly_TH h) (j q : Int) (b0 : 0 ≤ j) (t0 : j ≤ 1200) (b1 : 2 ≤ q) (t1 : q ≤ 4) (k0 : ly_hv cst h 19971 0 = some (q)) (l0 : hp_a l 0 94) (l1 : hp_i l 1 (j)) (e0 : ∀ (l' : am_L) (h' : am_H), ly_hy m_tt ly_TH h' → ly_fr cst [] h h' → h.length ≤ h'.length → hp_a l' 0 94 → hp_i l' 1 (j) → hp_F cst strs Φ D M 108 l' [.ref 94] h') : hp_F cst strs Φ D M 2 l [] h := by
  refine hp_arc c hM yxC1_k hD [j, q] rfl hy (hp_Bc (z := j) rfl b0 t0 (hp_Bc (z := q) rfl b1 t1 hp_Bn)) hp_Fn (hp_Kc (zi := (0 + 0)) (zv := (0 + (1 * q + 0))) k0 rfl rfl (by omega) (by omega) hp_Kn) (hp_La l0 (hp_Li (z := (0 + (1 * j + 0))) l1 rfl (by omega) hp_Ln)) trivial ?_ ?_
  · intro p hp ys l' st' h' hys a1 a2 a3 gZ gL gS
    rcases List.mem_cons.mp hp with rfl | hp
    · obtain rfl := hp_y0 hys
      obtain ⟨t0, rfl, g0⟩ := hp_gSa gS (by decide)
      cases hp_gSn g0
      exact e0 l' h' a1 a2 a3 (hp_gLa gL (List.mem_of_getElem? (i := 0) rfl) (by decide)) (hp_gLi (z := (0 + (1 * j + 0))) gL (List.mem_of_getElem? (i := 1) rfl) rfl (by omega))
    cases hp
  · intro p hp ys v h' hys a1 a2 a3 gZ gS
    cases hp
theorem yxC2_k : hp_chk 311 2 2 [(0, 0, 1200), (1, 6, 8)] [] [(0, .inr (.inr (.inl (some 94)))), (1, .inl (0, [(0, 1)]))] [] [(19971, (0, []), (0, [(1, 1)]))] [] 8 [(108, ([], 2, [(0, 0, 1200), (1, 6, 8)], [], [(0, .inr (.inr (.inl (some 94)))), (1, .inl (0, [(0, 1)]))], [.inr (.inr (.inl (some 94)))], []))] [] = true := by decide +kernel
theorem yxC2 {cst : am_K} {strs : List Nat} {Φ : am_Q → Prop} {D : Nat} {M : am_M} {h : am_H} {l : am_L} (c : hp_C cst strs D) (hM : m_P[311]? = some M) (hD : (8 : Int) ≤ (D : Int) + 1) (hy : ly_hy m_tt ly_TH h) (j q : Int) (b0 : 0 ≤ j) (t0 : j ≤ 1200) (b1 : 6 ≤ q) (t1 : q ≤ 8) (k0 : ly_hv cst h 19971 0 = some (q)) (l0 : hp_a l 0 94) (l1 : hp_i l 1 (j)) (e0 : ∀ (l' : am_L) (h' : am_H), ly_hy m_tt ly_TH h' → ly_fr cst [] h h' → h.length ≤ h'.length → hp_a l' 0 94 → hp_i l' 1 (j) → hp_F cst strs Φ D M 108 l' [.ref 94] h') : hp_F cst strs Φ D M 2 l [] h := by
  refine hp_arc c hM yxC2_k hD [j, q] rfl hy (hp_Bc (z := j) rfl b0 t0 (hp_Bc (z := q) rfl b1 t1 hp_Bn)) hp_Fn (hp_Kc (zi := (0 + 0)) (zv := (0 + (1 * q + 0))) k0 rfl rfl (by omega) (by omega) hp_Kn) (hp_La l0 (hp_Li (z := (0 + (1 * j + 0))) l1 rfl (by omega) hp_Ln)) trivial ?_ ?_
  · intro p hp ys l' st' h' hys a1 a2 a3 gZ gL gS
    rcases List.mem_cons.mp hp with rfl | hp
    · obtain rfl := hp_y0 hys
      obtain ⟨t0, rfl, g0⟩ := hp_gSa gS (by decide)
      cases hp_gSn g0
      exact e0 l' h' a1 a2 a3 (hp_gLa gL (List.mem_of_getElem? (i := 0) rfl) (by decide)) (hp_gLi (z := (0 + (1 * j + 0))) gL (List.mem_of_getElem? (i := 1) rfl) rfl (by omega))
    cases hp
  · intro p hp ys v h' hys a1 a2 a3 gZ gS
    cases hp
theorem yxD0_k : hp_chk 311 2 2 [(0, 0, 1200), (1, (-1), 19)] [] [(0, .inr (.inr (.inl (some 94)))), (1, .inl (0, [(0, 1)]))] [] [(19971, (0, []), (1, [])), (19972, (0, []), (0, [(1, 1)]))] [] 8 [(108, ([], 2, [(0, 0, 1200), (1, (-1), 19)], [], [(0, .inr (.inr (.inl (some 94)))), (1, .inl (0, [(0, 1)]))], [.inr (.inr (.inl (some 94)))], []))] [] = true := by decide +kernel
theorem yxD0 {cst : am_K} {strs : List Nat} {Φ : am_Q → Prop} {D : Nat} {M : am_M} {h : am_H} {l : am_L} (c : hp_C cst strs D) (hM : m_P[311]? = some M) (hD : (8 : Int) ≤ (D : Int) + 1) (hy : ly_hy m_tt ly_TH h) (j k : Int) (b0 : 0 ≤ j) (t0 : j ≤ 1200) (b1 : (-1) ≤ k) (t1 : k ≤ 19) (k0 : ly_hv cst h 19971 0 = some 1) (k1 : ly_hv cst h 19972 0 = some (k)) (l0 : hp_a l 0 94) (l1 : hp_i l 1 (j)) (e0 : ∀ (l' : am_L) (h' : am_H), ly_hy m_tt ly_TH h' → ly_fr cst [] h h' → h.length ≤ h'.length → hp_a l' 0 94 → hp_i l' 1 (j) → hp_F cst strs Φ D M 108 l' [.ref 94] h') : hp_F cst strs Φ D M 2 l [] h := by
  refine hp_arc c hM yxD0_k hD [j, k] rfl hy (hp_Bc (z := j) rfl b0 t0 (hp_Bc (z := k) rfl b1 t1 hp_Bn)) hp_Fn (hp_Kc (zi := (0 + 0)) (zv := (1 + 0)) k0 rfl rfl (by omega) (by omega) (hp_Kc (zi := (0 + 0)) (zv := (0 + (1 * k + 0))) k1 rfl rfl (by omega) (by omega) hp_Kn)) (hp_La l0 (hp_Li (z := (0 + (1 * j + 0))) l1 rfl (by omega) hp_Ln)) trivial ?_ ?_
  · intro p hp ys l' st' h' hys a1 a2 a3 gZ gL gS
    rcases List.mem_cons.mp hp with rfl | hp
    · obtain rfl := hp_y0 hys
      obtain ⟨t0, rfl, g0⟩ := hp_gSa gS (by decide)
      cases hp_gSn g0
      exact e0 l' h' a1 a2 a3 (hp_gLa gL (List.mem_of_getElem? (i := 0) rfl) (by decide)) (hp_gLi (z := (0 + (1 * j + 0))) gL (List.mem_of_getElem? (i := 1) rfl) rfl (by omega))
    cases hp
  · intro p hp ys v h' hys a1 a2 a3 gZ gS
    cases hp
theorem yxD1_k : hp_chk 311 2 2 [(0, 0, 1200), (1, 21, 23)] [] [(0, .inr (.inr (.inl (some 94)))), (1, .inl (0, [(0, 1)]))] [] [(19971, (0, []), (1, [])), (19972, (0, []), (0, [(1, 1)]))] [] 8 [(108, ([], 2, [(0, 0, 1200), (1, 21, 23)], [], [(0, .inr (.inr (.inl (some 94)))), (1, .inl (0, [(0, 1)]))], [.inr (.inr (.inl (some 94)))], []))] [] = true := by decide +kernel
theorem yxD1 {cst : am_K} {strs : List Nat} {Φ : am_Q → Prop} {D : Nat} {M : am_M} {h : am_H} {l : am_L} (c : hp_C cst strs D) (hM : m_P[311]? = some M) (hD : (8 : Int) ≤ (D : Int) + 1) (hy : ly_hy m_tt ly_TH h) (j k : Int) (b0 : 0 ≤ j) (t0 : j ≤ 1200) (b1 : 21 ≤ k) (t1 : k ≤ 23) (k0 : ly_hv cst h 19971 0 = some 1) (k1 : ly_hv cst h 19972 0 = some (k)) (l0 : hp_a l 0 94) (l1 : hp_i l 1 (j)) (e0 : ∀ (l' : am_L) (h' : am_H), ly_hy m_tt ly_TH h' → ly_fr cst [] h h' → h.length ≤ h'.length → hp_a l' 0 94 → hp_i l' 1 (j) → hp_F cst strs Φ D M 108 l' [.ref 94] h') : hp_F cst strs Φ D M 2 l [] h := by
  refine hp_arc c hM yxD1_k hD [j, k] rfl hy (hp_Bc (z := j) rfl b0 t0 (hp_Bc (z := k) rfl b1 t1 hp_Bn)) hp_Fn (hp_Kc (zi := (0 + 0)) (zv := (1 + 0)) k0 rfl rfl (by omega) (by omega) (hp_Kc (zi := (0 + 0)) (zv := (0 + (1 * k + 0))) k1 rfl rfl (by omega) (by omega) hp_Kn)) (hp_La l0 (hp_Li (z := (0 + (1 * j + 0))) l1 rfl (by omega) hp_Ln)) trivial ?_ ?_
  · intro p hp ys l' st' h' hys a1 a2 a3 gZ gL gS
    rcases List.mem_cons.mp hp with rfl | hp
    · obtain rfl := hp_y0 hys
      obtain ⟨t0, rfl, g0⟩ := hp_gSa gS (by decide)
      cases hp_gSn g0
      exact e0 l' h' a1 a2 a3 (hp_gLa gL (List.mem_of_getElem? (i := 0) rfl) (by decide)) (hp_gLi (z := (0 + (1 * j + 0))) gL (List.mem_of_getElem? (i := 1) rfl) rfl (by omega))
    cases hp
  · intro p hp ys v h' hys a1 a2 a3 gZ gS
    cases hp
theorem yxE0_k : hp_chk 311 111 1 [(0, 0, 1200)] [] [(0, .inr (.inr (.inl (some 94)))), (1, .inl (0, [(0, 1)]))] [.inl (0, [])] [] [] 8 [] [([], 1, [(0, 0, 1200)], [], [], [.inl (0, [])], [])] = true := by decide +kernel
theorem yxE0 {cst : am_K} {strs : List Nat} {Φ : am_Q → Prop} {D : Nat} {M : am_M} {h : am_H} {l : am_L} (c : hp_C cst strs D) (hM : m_P[311]? = some M) (hD : (8 : Int) ≤ (D : Int) + 1) (hy : ly_hy m_tt ly_TH h) (j : Int) (x0 : Int32) (hx0 : x0.toInt = 0) (b0 : 0 ≤ j) (t0 : j ≤ 1200) (l0 : hp_a l 0 94) (l1 : hp_i l 1 (j)) (r0 : ∀ (h' : am_H) (y0 : Int32), y0.toInt = 0 → ly_hy m_tt ly_TH h' → ly_fr cst [] h h' → h.length ≤ h'.length → Φ (some (.int y0), h', 0, 0)) : hp_F cst strs Φ D M 111 l [.int x0] h := by
  refine hp_arc c hM yxE0_k hD [j] rfl hy (hp_Bc (z := j) rfl b0 t0 hp_Bn) hp_Fn hp_Kn (hp_La l0 (hp_Li (z := (0 + (1 * j + 0))) l1 rfl (by omega) hp_Ln)) (hp_Si (z := (0 + 0)) rfl (by omega) trivial) ?_ ?_
  · intro p hp ys l' st' h' hys a1 a2 a3 gZ gL gS
    cases hp
  · intro p hp ys v h' hys a1 a2 a3 gZ gS
    rcases List.mem_cons.mp hp with rfl | hp
    · obtain rfl := hp_y0 hys
      cases v with
      | none => cases gS
      | some w =>
        obtain ⟨y0, t0, s0, q0, -⟩ := hp_gSi (z := (0 + 0)) gS rfl
        cases s0
        exact r0 h' y0 (by omega) a1 a2 a3
    cases hp
theorem yxE_k : hp_chk 311 111 1 [(0, 0, 1200)] [] [(0, .inr (.inr (.inl (some 94)))), (1, .inl (0, [(0, 1)]))] [.inl (1, [])] [] [] 8 [(116, ([], 1, [(0, 0, 1200)], [], [(0, .inr (.inr (.inl (some 94)))), (1, .inl (0, [(0, 1)]))], [], []))] [] = true := by decide +kernel
theorem yxE {cst : am_K} {strs : List Nat} {Φ : am_Q → Prop} {D : Nat} {M : am_M} {h : am_H} {l : am_L} (c : hp_C cst strs D) (hM : m_P[311]? = some M) (hD : (8 : Int) ≤ (D : Int) + 1) (hy : ly_hy m_tt ly_TH h) (j : Int) (x0 : Int32) (hx0 : x0.toInt = 1) (b0 : 0 ≤ j) (t0 : j ≤ 1200) (l0 : hp_a l 0 94) (l1 : hp_i l 1 (j)) (e0 : ∀ (l' : am_L) (h' : am_H), ly_hy m_tt ly_TH h' → ly_fr cst [] h h' → h.length ≤ h'.length → hp_a l' 0 94 → hp_i l' 1 (j) → hp_F cst strs Φ D M 116 l' [] h') : hp_F cst strs Φ D M 111 l [.int x0] h := by
  refine hp_arc c hM yxE_k hD [j] rfl hy (hp_Bc (z := j) rfl b0 t0 hp_Bn) hp_Fn hp_Kn (hp_La l0 (hp_Li (z := (0 + (1 * j + 0))) l1 rfl (by omega) hp_Ln)) (hp_Si (z := (1 + 0)) rfl (by omega) trivial) ?_ ?_
  · intro p hp ys l' st' h' hys a1 a2 a3 gZ gL gS
    rcases List.mem_cons.mp hp with rfl | hp
    · obtain rfl := hp_y0 hys
      cases hp_gSn gS
      exact e0 l' h' a1 a2 a3 (hp_gLa gL (List.mem_of_getElem? (i := 0) rfl) (by decide)) (hp_gLi (z := (0 + (1 * j + 0))) gL (List.mem_of_getElem? (i := 1) rfl) rfl (by omega))
    cases hp
  · intro p hp ys v h' hys a1 a2 a3 gZ gS
    cases hp
theorem yxF_k : hp_chk 311 66 1 [(0, 0, 1200)] [] [(0, .inr (.inr (.inl (some 94)))), (1, .inl (0, [(0, 1)]))] [] [] [] 8 [(67, ([], 1, [(0, 0, 1200)], [], [(0, .inr (.inr (.inl (some 94)))), (1, .inl (0, [(0, 1)]))], [.inr (.inr (.inl (some 94)))], []))] [] = true := by decide +kernel
theorem yxF {cst : am_K} {strs : List Nat} {Φ : am_Q → Prop} {D : Nat} {M : am_M} {h : am_H} {l : am_L} (c : hp_C cst strs D) (hM : m_P[311]? = some M) (hD : (8 : Int) ≤ (D : Int) + 1) (hy : ly_hy m_tt ly_TH h) (j : Int) (b0 : 0 ≤ j) (t0 : j ≤ 1200) (l0 : hp_a l 0 94) (l1 : hp_i l 1 (j)) (e0 : ∀ (l' : am_L) (h' : am_H), ly_hy m_tt ly_TH h' → ly_fr cst [] h h' → h.length ≤ h'.length → hp_a l' 0 94 → hp_i l' 1 (j) → hp_F cst strs Φ D M 67 l' [.ref 94] h') : hp_F cst strs Φ D M 66 l [] h := by
  refine hp_arc c hM yxF_k hD [j] rfl hy (hp_Bc (z := j) rfl b0 t0 hp_Bn) hp_Fn hp_Kn (hp_La l0 (hp_Li (z := (0 + (1 * j + 0))) l1 rfl (by omega) hp_Ln)) trivial ?_ ?_
  · intro p hp ys l' st' h' hys a1 a2 a3 gZ gL gS
    rcases List.mem_cons.mp hp with rfl | hp
    · obtain rfl := hp_y0 hys
      obtain ⟨t0, rfl, g0⟩ := hp_gSa gS (by decide)
      cases hp_gSn g0
      exact e0 l' h' a1 a2 a3 (hp_gLa gL (List.mem_of_getElem? (i := 0) rfl) (by decide)) (hp_gLi (z := (0 + (1 * j + 0))) gL (List.mem_of_getElem? (i := 1) rfl) rfl (by omega))
    cases hp
  · intro p hp ys v h' hys a1 a2 a3 gZ gS
    cases hp
theorem yxH0_k : hp_chk 311 70 1 [(0, 0, 1200)] [] [(0, .inr (.inr (.inl (some 94)))), (1, .inl (0, [(0, 1)]))] [.inl (0, [])] [] [] 8 [] [([], 1, [(0, 0, 1200)], [], [], [.inl (0, [])], [])] = true := by decide +kernel
theorem yxH0 {cst : am_K} {strs : List Nat} {Φ : am_Q → Prop} {D : Nat} {M : am_M} {h : am_H} {l : am_L} (c : hp_C cst strs D) (hM : m_P[311]? = some M) (hD : (8 : Int) ≤ (D : Int) + 1) (hy : ly_hy m_tt ly_TH h) (j : Int) (x0 : Int32) (hx0 : x0.toInt = 0) (b0 : 0 ≤ j) (t0 : j ≤ 1200) (l0 : hp_a l 0 94) (l1 : hp_i l 1 (j)) (r0 : ∀ (h' : am_H) (y0 : Int32), y0.toInt = 0 → ly_hy m_tt ly_TH h' → ly_fr cst [] h h' → h.length ≤ h'.length → Φ (some (.int y0), h', 0, 0)) : hp_F cst strs Φ D M 70 l [.int x0] h := by
  refine hp_arc c hM yxH0_k hD [j] rfl hy (hp_Bc (z := j) rfl b0 t0 hp_Bn) hp_Fn hp_Kn (hp_La l0 (hp_Li (z := (0 + (1 * j + 0))) l1 rfl (by omega) hp_Ln)) (hp_Si (z := (0 + 0)) rfl (by omega) trivial) ?_ ?_
  · intro p hp ys l' st' h' hys a1 a2 a3 gZ gL gS
    cases hp
  · intro p hp ys v h' hys a1 a2 a3 gZ gS
    rcases List.mem_cons.mp hp with rfl | hp
    · obtain rfl := hp_y0 hys
      cases v with
      | none => cases gS
      | some w =>
        obtain ⟨y0, t0, s0, q0, -⟩ := hp_gSi (z := (0 + 0)) gS rfl
        cases s0
        exact r0 h' y0 (by omega) a1 a2 a3
    cases hp
theorem yxI0_k : hq_chk [305] 311 70 3 [(0, 0, 1200), (1, 0, 1200), (2, 0, 5)] [] [(0, .inr (.inr (.inl (some 94)))), (1, .inl (0, [(0, 1)]))] [.inl (1, [])] [(19971, (0, []), (0, [(2, 1)])), (19973, (0, []), (0, [(1, 1)]))] [19990, 19991] 8 [] [([], 3, [(0, 0, 1200), (1, 0, 1200), (2, 0, 5)], [], [], [.inl (0, [])], [(19990, (0, []), (1, [])), (19991, (0, []), (0, [(1, 1)]))])] = true := by decide +kernel
theorem yxI0 {cst : am_K} {strs : List Nat} {Φ : am_Q → Prop} {D : Nat} {M : am_M} {h : am_H} {l : am_L} (c : hp_C cst strs D) (hM : m_P[311]? = some M) (hD : (8 : Int) ≤ (D : Int) + 1) (hy : ly_hy m_tt ly_TH h) (j p q : Int) (x0 : Int32) (hx0 : x0.toInt = 1) (b0 : 0 ≤ j) (t0 : j ≤ 1200) (b1 : 0 ≤ p) (t1 : p ≤ 1200) (b2 : 0 ≤ q) (t2 : q ≤ 5) (k0 : ly_hv cst h 19971 0 = some (q)) (k1 : ly_hv cst h 19973 0 = some (p)) (l0 : hp_a l 0 94) (l1 : hp_i l 1 (j)) (r0 : ∀ (h' : am_H) (y0 : Int32), y0.toInt = 0 → ly_hy m_tt ly_TH h' → ly_fr cst [19990, 19991] h h' → h.length ≤ h'.length → ly_hv cst h' 19990 0 = some 1 → ly_hv cst h' 19991 0 = some (p) → Φ (some (.int y0), h', 0, 0)) : hp_F cst strs Φ D M 70 l [.int x0] h := by
  refine hq_arc c hM yxI0_k hD [j, p, q] rfl hy (hp_Bc (z := j) rfl b0 t0 (hp_Bc (z := p) rfl b1 t1 (hp_Bc (z := q) rfl b2 t2 hp_Bn))) hp_Fn (hp_Kc (zi := (0 + 0)) (zv := (0 + (1 * q + 0))) k0 rfl rfl (by omega) (by omega) (hp_Kc (zi := (0 + 0)) (zv := (0 + (1 * p + 0))) k1 rfl rfl (by omega) (by omega) hp_Kn)) (hp_La l0 (hp_Li (z := (0 + (1 * j + 0))) l1 rfl (by omega) hp_Ln)) (hp_Si (z := (1 + 0)) rfl (by omega) trivial) ?_ ?_
  · intro p hp ys l' st' h' hys a1 a2 a3 gZ gL gS
    cases hp
  · intro p hp ys v h' hys a1 a2 a3 gZ gS
    rcases List.mem_cons.mp hp with rfl | hp
    · obtain rfl := hp_y0 hys
      cases v with
      | none => cases gS
      | some w =>
        obtain ⟨y0, t0, s0, q0, -⟩ := hp_gSi (z := (0 + 0)) gS rfl
        cases s0
        exact r0 h' y0 (by omega) a1 a2 a3 (hp_gK (zi := (0 + 0)) (zv := (1 + 0)) gZ.2.2.2 (List.mem_of_getElem? (i := 0) rfl) rfl rfl (by omega) (by omega)) (hp_gK (zi := (0 + 0)) (zv := (0 + (1 * p + 0))) gZ.2.2.2 (List.mem_of_getElem? (i := 1) rfl) rfl rfl (by omega) (by omega))
    cases hp
theorem yxI1_k : hq_chk [305] 311 70 3 [(0, 0, 1200), (1, 0, 1200), (2, 7, 8)] [] [(0, .inr (.inr (.inl (some 94)))), (1, .inl (0, [(0, 1)]))] [.inl (1, [])] [(19971, (0, []), (0, [(2, 1)])), (19973, (0, []), (0, [(1, 1)]))] [19990, 19991] 8 [] [([], 3, [(0, 0, 1200), (1, 0, 1200), (2, 7, 8)], [], [], [.inl (0, [])], [(19990, (0, []), (1, [])), (19991, (0, []), (0, [(1, 1)]))])] = true := by decide +kernel
theorem yxI1 {cst : am_K} {strs : List Nat} {Φ : am_Q → Prop} {D : Nat} {M : am_M} {h : am_H} {l : am_L} (c : hp_C cst strs D) (hM : m_P[311]? = some M) (hD : (8 : Int) ≤ (D : Int) + 1) (hy : ly_hy m_tt ly_TH h) (j p q : Int) (x0 : Int32) (hx0 : x0.toInt = 1) (b0 : 0 ≤ j) (t0 : j ≤ 1200) (b1 : 0 ≤ p) (t1 : p ≤ 1200) (b2 : 7 ≤ q) (t2 : q ≤ 8) (k0 : ly_hv cst h 19971 0 = some (q)) (k1 : ly_hv cst h 19973 0 = some (p)) (l0 : hp_a l 0 94) (l1 : hp_i l 1 (j)) (r0 : ∀ (h' : am_H) (y0 : Int32), y0.toInt = 0 → ly_hy m_tt ly_TH h' → ly_fr cst [19990, 19991] h h' → h.length ≤ h'.length → ly_hv cst h' 19990 0 = some 1 → ly_hv cst h' 19991 0 = some (p) → Φ (some (.int y0), h', 0, 0)) : hp_F cst strs Φ D M 70 l [.int x0] h := by
  refine hq_arc c hM yxI1_k hD [j, p, q] rfl hy (hp_Bc (z := j) rfl b0 t0 (hp_Bc (z := p) rfl b1 t1 (hp_Bc (z := q) rfl b2 t2 hp_Bn))) hp_Fn (hp_Kc (zi := (0 + 0)) (zv := (0 + (1 * q + 0))) k0 rfl rfl (by omega) (by omega) (hp_Kc (zi := (0 + 0)) (zv := (0 + (1 * p + 0))) k1 rfl rfl (by omega) (by omega) hp_Kn)) (hp_La l0 (hp_Li (z := (0 + (1 * j + 0))) l1 rfl (by omega) hp_Ln)) (hp_Si (z := (1 + 0)) rfl (by omega) trivial) ?_ ?_
  · intro p hp ys l' st' h' hys a1 a2 a3 gZ gL gS
    cases hp
  · intro p hp ys v h' hys a1 a2 a3 gZ gS
    rcases List.mem_cons.mp hp with rfl | hp
    · obtain rfl := hp_y0 hys
      cases v with
      | none => cases gS
      | some w =>
        obtain ⟨y0, t0, s0, q0, -⟩ := hp_gSi (z := (0 + 0)) gS rfl
        cases s0
        exact r0 h' y0 (by omega) a1 a2 a3 (hp_gK (zi := (0 + 0)) (zv := (1 + 0)) gZ.2.2.2 (List.mem_of_getElem? (i := 0) rfl) rfl rfl (by omega) (by omega)) (hp_gK (zi := (0 + 0)) (zv := (0 + (1 * p + 0))) gZ.2.2.2 (List.mem_of_getElem? (i := 1) rfl) rfl rfl (by omega) (by omega))
    cases hp
theorem yxJ_k : hp_chk 311 70 2 [(0, 0, 1200), (1, 0, 5)] [] [(0, .inr (.inr (.inl (some 94)))), (1, .inl (0, [(0, 1)]))] [.inl (1, [])] [(19971, (0, []), (6, [])), (20015, (0, []), (1, [(1, 1)]))] [20015] 8 [(101, ([], 2, [(0, 0, 1200), (1, 0, 5)], [], [(0, .inr (.inr (.inl (some 94)))), (1, .inl (0, [(0, 1)]))], [.inr (.inr (.inl (some 94)))], [(20015, (0, []), (0, [(1, 1)]))]))] [] = true := by decide +kernel
theorem yxJ {cst : am_K} {strs : List Nat} {Φ : am_Q → Prop} {D : Nat} {M : am_M} {h : am_H} {l : am_L} (c : hp_C cst strs D) (hM : m_P[311]? = some M) (hD : (8 : Int) ≤ (D : Int) + 1) (hy : ly_hy m_tt ly_TH h) (j o : Int) (x0 : Int32) (hx0 : x0.toInt = 1) (b0 : 0 ≤ j) (t0 : j ≤ 1200) (b1 : 0 ≤ o) (t1 : o ≤ 5) (k0 : ly_hv cst h 19971 0 = some 6) (k1 : ly_hv cst h 20015 0 = some (o + 1)) (l0 : hp_a l 0 94) (l1 : hp_i l 1 (j)) (e0 : ∀ (l' : am_L) (h' : am_H), ly_hy m_tt ly_TH h' → ly_fr cst [20015] h h' → h.length ≤ h'.length → ly_hv cst h' 20015 0 = some (o) → hp_a l' 0 94 → hp_i l' 1 (j) → hp_F cst strs Φ D M 101 l' [.ref 94] h') : hp_F cst strs Φ D M 70 l [.int x0] h := by
  refine hp_arc c hM yxJ_k hD [j, o] rfl hy (hp_Bc (z := j) rfl b0 t0 (hp_Bc (z := o) rfl b1 t1 hp_Bn)) hp_Fn (hp_Kc (zi := (0 + 0)) (zv := (6 + 0)) k0 rfl rfl (by omega) (by omega) (hp_Kc (zi := (0 + 0)) (zv := (1 + (1 * o + 0))) k1 rfl rfl (by omega) (by omega) hp_Kn)) (hp_La l0 (hp_Li (z := (0 + (1 * j + 0))) l1 rfl (by omega) hp_Ln)) (hp_Si (z := (1 + 0)) rfl (by omega) trivial) ?_ ?_
  · intro p hp ys l' st' h' hys a1 a2 a3 gZ gL gS
    rcases List.mem_cons.mp hp with rfl | hp
    · obtain rfl := hp_y0 hys
      obtain ⟨t0, rfl, g0⟩ := hp_gSa gS (by decide)
      cases hp_gSn g0
      exact e0 l' h' a1 a2 a3 (hp_gK (zi := (0 + 0)) (zv := (0 + (1 * o + 0))) gZ.2.2.2 (List.mem_of_getElem? (i := 0) rfl) rfl rfl (by omega) (by omega)) (hp_gLa gL (List.mem_of_getElem? (i := 0) rfl) (by decide)) (hp_gLi (z := (0 + (1 * j + 0))) gL (List.mem_of_getElem? (i := 1) rfl) rfl (by omega))
    cases hp
  · intro p hp ys v h' hys a1 a2 a3 gZ gS
    cases hp
theorem yxK_k : hp_chk 311 104 1 [(0, 0, 1200)] [] [(0, .inr (.inr (.inl (some 94)))), (1, .inl (0, [(0, 1)]))] [] [] [] 8 [(116, ([], 1, [(0, 0, 1200)], [], [(0, .inr (.inr (.inl (some 94)))), (1, .inl (0, [(0, 1)]))], [], []))] [] = true := by decide +kernel
theorem yxK {cst : am_K} {strs : List Nat} {Φ : am_Q → Prop} {D : Nat} {M : am_M} {h : am_H} {l : am_L} (c : hp_C cst strs D) (hM : m_P[311]? = some M) (hD : (8 : Int) ≤ (D : Int) + 1) (hy : ly_hy m_tt ly_TH h) (j : Int) (b0 : 0 ≤ j) (t0 : j ≤ 1200) (l0 : hp_a l 0 94) (l1 : hp_i l 1 (j)) (e0 : ∀ (l' : am_L) (h' : am_H), ly_hy m_tt ly_TH h' → ly_fr cst [] h h' → h.length ≤ h'.length → hp_a l' 0 94 → hp_i l' 1 (j) → hp_F cst strs Φ D M 116 l' [] h') : hp_F cst strs Φ D M 104 l [] h := by
  refine hp_arc c hM yxK_k hD [j] rfl hy (hp_Bc (z := j) rfl b0 t0 hp_Bn) hp_Fn hp_Kn (hp_La l0 (hp_Li (z := (0 + (1 * j + 0))) l1 rfl (by omega) hp_Ln)) trivial ?_ ?_
  · intro p hp ys l' st' h' hys a1 a2 a3 gZ gL gS
    rcases List.mem_cons.mp hp with rfl | hp
    · obtain rfl := hp_y0 hys
      cases hp_gSn gS
      exact e0 l' h' a1 a2 a3 (hp_gLa gL (List.mem_of_getElem? (i := 0) rfl) (by decide)) (hp_gLi (z := (0 + (1 * j + 0))) gL (List.mem_of_getElem? (i := 1) rfl) rfl (by omega))
    cases hp
  · intro p hp ys v h' hys a1 a2 a3 gZ gS
    cases hp
theorem yxQ_k : hp_chk 311 116 1 [(0, 0, 1200)] [] [(0, .inr (.inr (.inl (some 94)))), (1, .inl (0, [(0, 1)]))] [] [] [] 8 [(118, ([], 1, [(0, 0, 1200)], [], [(0, .inr (.inr (.inl (some 94)))), (1, .inl (0, [(0, 1)])), (2, .inl (0, []))], [], []))] [] = true := by decide +kernel
theorem yxQ {cst : am_K} {strs : List Nat} {Φ : am_Q → Prop} {D : Nat} {M : am_M} {h : am_H} {l : am_L} (c : hp_C cst strs D) (hM : m_P[311]? = some M) (hD : (8 : Int) ≤ (D : Int) + 1) (hy : ly_hy m_tt ly_TH h) (j : Int) (b0 : 0 ≤ j) (t0 : j ≤ 1200) (l0 : hp_a l 0 94) (l1 : hp_i l 1 (j)) (e0 : ∀ (l' : am_L) (h' : am_H), ly_hy m_tt ly_TH h' → ly_fr cst [] h h' → h.length ≤ h'.length → hp_a l' 0 94 → hp_i l' 1 (j) → hp_i l' 2 0 → hp_F cst strs Φ D M 118 l' [] h') : hp_F cst strs Φ D M 116 l [] h := by
  refine hp_arc c hM yxQ_k hD [j] rfl hy (hp_Bc (z := j) rfl b0 t0 hp_Bn) hp_Fn hp_Kn (hp_La l0 (hp_Li (z := (0 + (1 * j + 0))) l1 rfl (by omega) hp_Ln)) trivial ?_ ?_
  · intro p hp ys l' st' h' hys a1 a2 a3 gZ gL gS
    rcases List.mem_cons.mp hp with rfl | hp
    · obtain rfl := hp_y0 hys
      cases hp_gSn gS
      exact e0 l' h' a1 a2 a3 (hp_gLa gL (List.mem_of_getElem? (i := 0) rfl) (by decide)) (hp_gLi (z := (0 + (1 * j + 0))) gL (List.mem_of_getElem? (i := 1) rfl) rfl (by omega)) (hp_gLi (z := (0 + 0)) gL (List.mem_of_getElem? (i := 2) rfl) rfl (by omega))
    cases hp
  · intro p hp ys v h' hys a1 a2 a3 gZ gS
    cases hp
theorem yxR_k : hp_chk 311 118 1 [(0, 0, 1200)] [] [(0, .inr (.inr (.inl (some 94)))), (1, .inl (0, [(0, 1)])), (2, .inl (0, [(0, 1)]))] [] [] [] 8 [] [([], 1, [(0, 0, 1200)], [], [], [.inl (1, [])], [])] = true := by decide +kernel
theorem yxR {cst : am_K} {strs : List Nat} {Φ : am_Q → Prop} {D : Nat} {M : am_M} {h : am_H} {l : am_L} (c : hp_C cst strs D) (hM : m_P[311]? = some M) (hD : (8 : Int) ≤ (D : Int) + 1) (hy : ly_hy m_tt ly_TH h) (j : Int) (b0 : 0 ≤ j) (t0 : j ≤ 1200) (l0 : hp_a l 0 94) (l1 : hp_i l 1 (j)) (l2 : hp_i l 2 (j)) (r0 : ∀ (h' : am_H) (y0 : Int32), y0.toInt = 1 → ly_hy m_tt ly_TH h' → ly_fr cst [] h h' → h.length ≤ h'.length → Φ (some (.int y0), h', 0, 0)) : hp_F cst strs Φ D M 118 l [] h := by
  refine hp_arc c hM yxR_k hD [j] rfl hy (hp_Bc (z := j) rfl b0 t0 hp_Bn) hp_Fn hp_Kn (hp_La l0 (hp_Li (z := (0 + (1 * j + 0))) l1 rfl (by omega) (hp_Li (z := (0 + (1 * j + 0))) l2 rfl (by omega) hp_Ln))) trivial ?_ ?_
  · intro p hp ys l' st' h' hys a1 a2 a3 gZ gL gS
    cases hp
  · intro p hp ys v h' hys a1 a2 a3 gZ gS
    rcases List.mem_cons.mp hp with rfl | hp
    · obtain rfl := hp_y0 hys
      cases v with
      | none => cases gS
      | some w =>
        obtain ⟨y0, t0, s0, q0, -⟩ := hp_gSi (z := (1 + 0)) gS rfl
        cases s0
        exact r0 h' y0 (by omega) a1 a2 a3
    cases hp
theorem yxS_k : hp_chk 311 118 2 [(0, 0, 1200), (1, 0, 1200)] [((-1), [(0, 1), (1, (-1))])] [(0, .inr (.inr (.inl (some 94)))), (1, .inl (0, [(0, 1)])), (2, .inl (0, [(1, 1)]))] [] [] [] 8 [(126, ([], 2, [(0, 0, 1200), (1, 0, 1200)], [], [(0, .inr (.inr (.inl (some 94)))), (1, .inl (0, [(0, 1)])), (2, .inl (0, [(1, 1)]))], [.inl ((-3), []), .inr (.inr (.inl (some 94)))], []))] [] = true := by decide +kernel
theorem yxS {cst : am_K} {strs : List Nat} {Φ : am_Q → Prop} {D : Nat} {M : am_M} {h : am_H} {l : am_L} (c : hp_C cst strs D) (hM : m_P[311]? = some M) (hD : (8 : Int) ≤ (D : Int) + 1) (hy : ly_hy m_tt ly_TH h) (j i : Int) (b0 : 0 ≤ j) (t0 : j ≤ 1200) (b1 : 0 ≤ i) (t1 : i ≤ 1200) (f0 : 0 ≤ (j - i - 1)) (l0 : hp_a l 0 94) (l1 : hp_i l 1 (j)) (l2 : hp_i l 2 (i)) (e0 : ∀ (l' : am_L) (h' : am_H) (y0 : Int32), y0.toInt = (-3) → ly_hy m_tt ly_TH h' → ly_fr cst [] h h' → h.length ≤ h'.length → hp_a l' 0 94 → hp_i l' 1 (j) → hp_i l' 2 (i) → hp_F cst strs Φ D M 126 l' [.int y0, .ref 94] h') : hp_F cst strs Φ D M 118 l [] h := by
  refine hp_arc c hM yxS_k hD [j, i] rfl hy (hp_Bc (z := j) rfl b0 t0 (hp_Bc (z := i) rfl b1 t1 hp_Bn)) (hp_Fc (z := ((-1) + (1 * j + ((-1) * i + 0)))) rfl (by omega) hp_Fn) hp_Kn (hp_La l0 (hp_Li (z := (0 + (1 * j + 0))) l1 rfl (by omega) (hp_Li (z := (0 + (1 * i + 0))) l2 rfl (by omega) hp_Ln))) trivial ?_ ?_
  · intro p hp ys l' st' h' hys a1 a2 a3 gZ gL gS
    rcases List.mem_cons.mp hp with rfl | hp
    · obtain rfl := hp_y0 hys
      obtain ⟨y0, t0, rfl, q0, g0⟩ := hp_gSi (z := ((-3) + 0)) gS rfl
      obtain ⟨t1, rfl, g1⟩ := hp_gSa g0 (by decide)
      cases hp_gSn g1
      exact e0 l' h' y0 (by omega) a1 a2 a3 (hp_gLa gL (List.mem_of_getElem? (i := 0) rfl) (by decide)) (hp_gLi (z := (0 + (1 * j + 0))) gL (List.mem_of_getElem? (i := 1) rfl) rfl (by omega)) (hp_gLi (z := (0 + (1 * i + 0))) gL (List.mem_of_getElem? (i := 2) rfl) rfl (by omega))
    cases hp
  · intro p hp ys v h' hys a1 a2 a3 gZ gS
    cases hp
theorem yxT_k : hp_chk 311 129 2 [(0, 0, 1200), (1, 0, 1200)] [((-1), [(0, 1), (1, (-1))])] [(0, .inr (.inr (.inl (some 94)))), (1, .inl (0, [(0, 1)])), (2, .inl (0, [(1, 1)]))] [] [] [] 8 [(118, ([], 2, [(0, 0, 1200), (1, 0, 1200)], [], [(0, .inr (.inr (.inl (some 94)))), (1, .inl (0, [(0, 1)])), (2, .inl (1, [(1, 1)]))], [], []))] [] = true := by decide +kernel
theorem yxT {cst : am_K} {strs : List Nat} {Φ : am_Q → Prop} {D : Nat} {M : am_M} {h : am_H} {l : am_L} (c : hp_C cst strs D) (hM : m_P[311]? = some M) (hD : (8 : Int) ≤ (D : Int) + 1) (hy : ly_hy m_tt ly_TH h) (j i : Int) (b0 : 0 ≤ j) (t0 : j ≤ 1200) (b1 : 0 ≤ i) (t1 : i ≤ 1200) (f0 : 0 ≤ (j - i - 1)) (l0 : hp_a l 0 94) (l1 : hp_i l 1 (j)) (l2 : hp_i l 2 (i)) (e0 : ∀ (l' : am_L) (h' : am_H), ly_hy m_tt ly_TH h' → ly_fr cst [] h h' → h.length ≤ h'.length → hp_a l' 0 94 → hp_i l' 1 (j) → hp_i l' 2 (i + 1) → hp_F cst strs Φ D M 118 l' [] h') : hp_F cst strs Φ D M 129 l [] h := by
  refine hp_arc c hM yxT_k hD [j, i] rfl hy (hp_Bc (z := j) rfl b0 t0 (hp_Bc (z := i) rfl b1 t1 hp_Bn)) (hp_Fc (z := ((-1) + (1 * j + ((-1) * i + 0)))) rfl (by omega) hp_Fn) hp_Kn (hp_La l0 (hp_Li (z := (0 + (1 * j + 0))) l1 rfl (by omega) (hp_Li (z := (0 + (1 * i + 0))) l2 rfl (by omega) hp_Ln))) trivial ?_ ?_
  · intro p hp ys l' st' h' hys a1 a2 a3 gZ gL gS
    rcases List.mem_cons.mp hp with rfl | hp
    · obtain rfl := hp_y0 hys
      cases hp_gSn gS
      exact e0 l' h' a1 a2 a3 (hp_gLa gL (List.mem_of_getElem? (i := 0) rfl) (by decide)) (hp_gLi (z := (0 + (1 * j + 0))) gL (List.mem_of_getElem? (i := 1) rfl) rfl (by omega)) (hp_gLi (z := (1 + (1 * i + 0))) gL (List.mem_of_getElem? (i := 2) rfl) rfl (by omega))
    cases hp
  · intro p hp ys v h' hys a1 a2 a3 gZ gS
    cases hp
theorem yy0_k : hp_chk 310 0 0 [] [] [(0, .inr (.inr (.inl (some 94))))] [] [] [] 8 [(1, ([], 0, [], [], [(0, .inr (.inr (.inl (some 94))))], [.inr (.inr (.inl (some 94)))], []))] [] = true := by decide +kernel
theorem yy0 {cst : am_K} {strs : List Nat} {Φ : am_Q → Prop} {D : Nat} {M : am_M} {h : am_H} {l : am_L} (c : hp_C cst strs D) (hM : m_P[310]? = some M) (hD : (8 : Int) ≤ (D : Int) + 1) (hy : ly_hy m_tt ly_TH h) (l0 : hp_a l 0 94) (e0 : ∀ (l' : am_L) (h' : am_H), ly_hy m_tt ly_TH h' → ly_fr cst [] h h' → h.length ≤ h'.length → hp_a l' 0 94 → hp_F cst strs Φ D M 1 l' [.ref 94] h') : hp_F cst strs Φ D M 0 l [] h := by
  refine hp_arc c hM yy0_k hD [] rfl hy hp_Bn hp_Fn hp_Kn (hp_La l0 hp_Ln) trivial ?_ ?_
  · intro p hp ys l' st' h' hys a1 a2 a3 gZ gL gS
    rcases List.mem_cons.mp hp with rfl | hp
    · obtain rfl := hp_y0 hys
      obtain ⟨t0, rfl, g0⟩ := hp_gSa gS (by decide)
      cases hp_gSn g0
      exact e0 l' h' a1 a2 a3 (hp_gLa gL (List.mem_of_getElem? (i := 0) rfl) (by decide))
    cases hp
  · intro p hp ys v h' hys a1 a2 a3 gZ gS
    cases hp
theorem yyA_k : hp_chk 310 4 0 [] [] [(0, .inr (.inr (.inl (some 94))))] [.inl (0, [])] [] [] 8 [] [([], 0, [], [], [], [.inl (0, [])], [])] = true := by decide +kernel
theorem yyA {cst : am_K} {strs : List Nat} {Φ : am_Q → Prop} {D : Nat} {M : am_M} {h : am_H} {l : am_L} (c : hp_C cst strs D) (hM : m_P[310]? = some M) (hD : (8 : Int) ≤ (D : Int) + 1) (hy : ly_hy m_tt ly_TH h) (x0 : Int32) (hx0 : x0.toInt = 0) (l0 : hp_a l 0 94) (r0 : ∀ (h' : am_H) (y0 : Int32), y0.toInt = 0 → ly_hy m_tt ly_TH h' → ly_fr cst [] h h' → h.length ≤ h'.length → Φ (some (.int y0), h', 0, 0)) : hp_F cst strs Φ D M 4 l [.int x0] h := by
  refine hp_arc c hM yyA_k hD [] rfl hy hp_Bn hp_Fn hp_Kn (hp_La l0 hp_Ln) (hp_Si (z := (0 + 0)) rfl (by omega) trivial) ?_ ?_
  · intro p hp ys l' st' h' hys a1 a2 a3 gZ gL gS
    cases hp
  · intro p hp ys v h' hys a1 a2 a3 gZ gS
    rcases List.mem_cons.mp hp with rfl | hp
    · obtain rfl := hp_y0 hys
      cases v with
      | none => cases gS
      | some w =>
        obtain ⟨y0, t0, s0, q0, -⟩ := hp_gSi (z := (0 + 0)) gS rfl
        cases s0
        exact r0 h' y0 (by omega) a1 a2 a3
    cases hp
theorem yyB_k : hp_chk 310 4 0 [] [] [(0, .inr (.inr (.inl (some 94))))] [.inl (1, [])] [] [] 8 [(9, ([], 0, [], [], [(0, .inr (.inr (.inl (some 94))))], [], []))] [] = true := by decide +kernel
theorem yyB {cst : am_K} {strs : List Nat} {Φ : am_Q → Prop} {D : Nat} {M : am_M} {h : am_H} {l : am_L} (c : hp_C cst strs D) (hM : m_P[310]? = some M) (hD : (8 : Int) ≤ (D : Int) + 1) (hy : ly_hy m_tt ly_TH h) (x0 : Int32) (hx0 : x0.toInt = 1) (l0 : hp_a l 0 94) (e0 : ∀ (l' : am_L) (h' : am_H), ly_hy m_tt ly_TH h' → ly_fr cst [] h h' → h.length ≤ h'.length → hp_a l' 0 94 → hp_F cst strs Φ D M 9 l' [] h') : hp_F cst strs Φ D M 4 l [.int x0] h := by
  refine hp_arc c hM yyB_k hD [] rfl hy hp_Bn hp_Fn hp_Kn (hp_La l0 hp_Ln) (hp_Si (z := (1 + 0)) rfl (by omega) trivial) ?_ ?_
  · intro p hp ys l' st' h' hys a1 a2 a3 gZ gL gS
    rcases List.mem_cons.mp hp with rfl | hp
    · obtain rfl := hp_y0 hys
      cases hp_gSn gS
      exact e0 l' h' a1 a2 a3 (hp_gLa gL (List.mem_of_getElem? (i := 0) rfl) (by decide))
    cases hp
  · intro p hp ys v h' hys a1 a2 a3 gZ gS
    cases hp
theorem yyC0_k : hp_chk 310 9 1 [(0, 0, 0)] [] [(0, .inr (.inr (.inl (some 94))))] [] [(19971, (0, []), (0, [(0, 1)]))] [] 8 [] [([], 1, [(0, 0, 0)], [], [], [.inl (1, [])], [])] = true := by decide +kernel
theorem yyC0 {cst : am_K} {strs : List Nat} {Φ : am_Q → Prop} {D : Nat} {M : am_M} {h : am_H} {l : am_L} (c : hp_C cst strs D) (hM : m_P[310]? = some M) (hD : (8 : Int) ≤ (D : Int) + 1) (hy : ly_hy m_tt ly_TH h) (q : Int) (b0 : 0 ≤ q) (t0 : q ≤ 0) (k0 : ly_hv cst h 19971 0 = some (q)) (l0 : hp_a l 0 94) (r0 : ∀ (h' : am_H) (y0 : Int32), y0.toInt = 1 → ly_hy m_tt ly_TH h' → ly_fr cst [] h h' → h.length ≤ h'.length → Φ (some (.int y0), h', 0, 0)) : hp_F cst strs Φ D M 9 l [] h := by
  refine hp_arc c hM yyC0_k hD [q] rfl hy (hp_Bc (z := q) rfl b0 t0 hp_Bn) hp_Fn (hp_Kc (zi := (0 + 0)) (zv := (0 + (1 * q + 0))) k0 rfl rfl (by omega) (by omega) hp_Kn) (hp_La l0 hp_Ln) trivial ?_ ?_
  · intro p hp ys l' st' h' hys a1 a2 a3 gZ gL gS
    cases hp
  · intro p hp ys v h' hys a1 a2 a3 gZ gS
    rcases List.mem_cons.mp hp with rfl | hp
    · obtain rfl := hp_y0 hys
      cases v with
      | none => cases gS
      | some w =>
        obtain ⟨y0, t0, s0, q0, -⟩ := hp_gSi (z := (1 + 0)) gS rfl
        cases s0
        exact r0 h' y0 (by omega) a1 a2 a3
    cases hp
theorem yyC1_k : hp_chk 310 9 1 [(0, 2, 8)] [] [(0, .inr (.inr (.inl (some 94))))] [] [(19971, (0, []), (0, [(0, 1)]))] [] 8 [] [([], 1, [(0, 2, 8)], [], [], [.inl (1, [])], [])] = true := by decide +kernel
theorem yyC1 {cst : am_K} {strs : List Nat} {Φ : am_Q → Prop} {D : Nat} {M : am_M} {h : am_H} {l : am_L} (c : hp_C cst strs D) (hM : m_P[310]? = some M) (hD : (8 : Int) ≤ (D : Int) + 1) (hy : ly_hy m_tt ly_TH h) (q : Int) (b0 : 2 ≤ q) (t0 : q ≤ 8) (k0 : ly_hv cst h 19971 0 = some (q)) (l0 : hp_a l 0 94) (r0 : ∀ (h' : am_H) (y0 : Int32), y0.toInt = 1 → ly_hy m_tt ly_TH h' → ly_fr cst [] h h' → h.length ≤ h'.length → Φ (some (.int y0), h', 0, 0)) : hp_F cst strs Φ D M 9 l [] h := by
  refine hp_arc c hM yyC1_k hD [q] rfl hy (hp_Bc (z := q) rfl b0 t0 hp_Bn) hp_Fn (hp_Kc (zi := (0 + 0)) (zv := (0 + (1 * q + 0))) k0 rfl rfl (by omega) (by omega) hp_Kn) (hp_La l0 hp_Ln) trivial ?_ ?_
  · intro p hp ys l' st' h' hys a1 a2 a3 gZ gL gS
    cases hp
  · intro p hp ys v h' hys a1 a2 a3 gZ gS
    rcases List.mem_cons.mp hp with rfl | hp
    · obtain rfl := hp_y0 hys
      cases v with
      | none => cases gS
      | some w =>
        obtain ⟨y0, t0, s0, q0, -⟩ := hp_gSi (z := (1 + 0)) gS rfl
        cases s0
        exact r0 h' y0 (by omega) a1 a2 a3
    cases hp
theorem yyD0_k : hp_chk 310 9 1 [(0, (-1), 18)] [] [(0, .inr (.inr (.inl (some 94))))] [] [(19971, (0, []), (1, [])), (19972, (0, []), (0, [(0, 1)]))] [] 8 [] [([], 1, [(0, (-1), 18)], [], [], [.inl (1, [])], [])] = true := by decide +kernel
theorem yyD0 {cst : am_K} {strs : List Nat} {Φ : am_Q → Prop} {D : Nat} {M : am_M} {h : am_H} {l : am_L} (c : hp_C cst strs D) (hM : m_P[310]? = some M) (hD : (8 : Int) ≤ (D : Int) + 1) (hy : ly_hy m_tt ly_TH h) (k : Int) (b0 : (-1) ≤ k) (t0 : k ≤ 18) (k0 : ly_hv cst h 19971 0 = some 1) (k1 : ly_hv cst h 19972 0 = some (k)) (l0 : hp_a l 0 94) (r0 : ∀ (h' : am_H) (y0 : Int32), y0.toInt = 1 → ly_hy m_tt ly_TH h' → ly_fr cst [] h h' → h.length ≤ h'.length → Φ (some (.int y0), h', 0, 0)) : hp_F cst strs Φ D M 9 l [] h := by
  refine hp_arc c hM yyD0_k hD [k] rfl hy (hp_Bc (z := k) rfl b0 t0 hp_Bn) hp_Fn (hp_Kc (zi := (0 + 0)) (zv := (1 + 0)) k0 rfl rfl (by omega) (by omega) (hp_Kc (zi := (0 + 0)) (zv := (0 + (1 * k + 0))) k1 rfl rfl (by omega) (by omega) hp_Kn)) (hp_La l0 hp_Ln) trivial ?_ ?_
  · intro p hp ys l' st' h' hys a1 a2 a3 gZ gL gS
    cases hp
  · intro p hp ys v h' hys a1 a2 a3 gZ gS
    rcases List.mem_cons.mp hp with rfl | hp
    · obtain rfl := hp_y0 hys
      cases v with
      | none => cases gS
      | some w =>
        obtain ⟨y0, t0, s0, q0, -⟩ := hp_gSi (z := (1 + 0)) gS rfl
        cases s0
        exact r0 h' y0 (by omega) a1 a2 a3
    cases hp
theorem yyD1_k : hp_chk 310 9 1 [(0, 20, 23)] [] [(0, .inr (.inr (.inl (some 94))))] [] [(19971, (0, []), (1, [])), (19972, (0, []), (0, [(0, 1)]))] [] 8 [] [([], 1, [(0, 20, 23)], [], [], [.inl (1, [])], [])] = true := by decide +kernel
theorem yyD1 {cst : am_K} {strs : List Nat} {Φ : am_Q → Prop} {D : Nat} {M : am_M} {h : am_H} {l : am_L} (c : hp_C cst strs D) (hM : m_P[310]? = some M) (hD : (8 : Int) ≤ (D : Int) + 1) (hy : ly_hy m_tt ly_TH h) (k : Int) (b0 : 20 ≤ k) (t0 : k ≤ 23) (k0 : ly_hv cst h 19971 0 = some 1) (k1 : ly_hv cst h 19972 0 = some (k)) (l0 : hp_a l 0 94) (r0 : ∀ (h' : am_H) (y0 : Int32), y0.toInt = 1 → ly_hy m_tt ly_TH h' → ly_fr cst [] h h' → h.length ≤ h'.length → Φ (some (.int y0), h', 0, 0)) : hp_F cst strs Φ D M 9 l [] h := by
  refine hp_arc c hM yyD1_k hD [k] rfl hy (hp_Bc (z := k) rfl b0 t0 hp_Bn) hp_Fn (hp_Kc (zi := (0 + 0)) (zv := (1 + 0)) k0 rfl rfl (by omega) (by omega) (hp_Kc (zi := (0 + 0)) (zv := (0 + (1 * k + 0))) k1 rfl rfl (by omega) (by omega) hp_Kn)) (hp_La l0 hp_Ln) trivial ?_ ?_
  · intro p hp ys l' st' h' hys a1 a2 a3 gZ gL gS
    cases hp
  · intro p hp ys v h' hys a1 a2 a3 gZ gS
    rcases List.mem_cons.mp hp with rfl | hp
    · obtain rfl := hp_y0 hys
      cases v with
      | none => cases gS
      | some w =>
        obtain ⟨y0, t0, s0, q0, -⟩ := hp_gSi (z := (1 + 0)) gS rfl
        cases s0
        exact r0 h' y0 (by omega) a1 a2 a3
    cases hp
theorem yyE_k : hp_chk 310 9 0 [] [] [(0, .inr (.inr (.inl (some 94))))] [] [(19971, (0, []), (1, [])), (19972, (0, []), (19, []))] [] 8 [(27, ([], 0, [], [], [(0, .inr (.inr (.inl (some 94))))], [.inr (.inr (.inl (some 94)))], []))] [] = true := by decide +kernel
theorem yyE {cst : am_K} {strs : List Nat} {Φ : am_Q → Prop} {D : Nat} {M : am_M} {h : am_H} {l : am_L} (c : hp_C cst strs D) (hM : m_P[310]? = some M) (hD : (8 : Int) ≤ (D : Int) + 1) (hy : ly_hy m_tt ly_TH h) (k0 : ly_hv cst h 19971 0 = some 1) (k1 : ly_hv cst h 19972 0 = some 19) (l0 : hp_a l 0 94) (e0 : ∀ (l' : am_L) (h' : am_H), ly_hy m_tt ly_TH h' → ly_fr cst [] h h' → h.length ≤ h'.length → hp_a l' 0 94 → hp_F cst strs Φ D M 27 l' [.ref 94] h') : hp_F cst strs Φ D M 9 l [] h := by
  refine hp_arc c hM yyE_k hD [] rfl hy hp_Bn hp_Fn (hp_Kc (zi := (0 + 0)) (zv := (1 + 0)) k0 rfl rfl (by omega) (by omega) (hp_Kc (zi := (0 + 0)) (zv := (19 + 0)) k1 rfl rfl (by omega) (by omega) hp_Kn)) (hp_La l0 hp_Ln) trivial ?_ ?_
  · intro p hp ys l' st' h' hys a1 a2 a3 gZ gL gS
    rcases List.mem_cons.mp hp with rfl | hp
    · obtain rfl := hp_y0 hys
      obtain ⟨t0, rfl, g0⟩ := hp_gSa gS (by decide)
      cases hp_gSn g0
      exact e0 l' h' a1 a2 a3 (hp_gLa gL (List.mem_of_getElem? (i := 0) rfl) (by decide))
    cases hp
  · intro p hp ys v h' hys a1 a2 a3 gZ gS
    cases hp
theorem yyF_k : hp_chk 310 30 0 [] [] [(0, .inr (.inr (.inl (some 94))))] [] [] [] 8 [(31, ([], 0, [], [], [(0, .inr (.inr (.inl (some 94))))], [.inr (.inr (.inl (some 94)))], []))] [] = true := by decide +kernel
theorem yyF {cst : am_K} {strs : List Nat} {Φ : am_Q → Prop} {D : Nat} {M : am_M} {h : am_H} {l : am_L} (c : hp_C cst strs D) (hM : m_P[310]? = some M) (hD : (8 : Int) ≤ (D : Int) + 1) (hy : ly_hy m_tt ly_TH h) (l0 : hp_a l 0 94) (e0 : ∀ (l' : am_L) (h' : am_H), ly_hy m_tt ly_TH h' → ly_fr cst [] h h' → h.length ≤ h'.length → hp_a l' 0 94 → hp_F cst strs Φ D M 31 l' [.ref 94] h') : hp_F cst strs Φ D M 30 l [] h := by
  refine hp_arc c hM yyF_k hD [] rfl hy hp_Bn hp_Fn hp_Kn (hp_La l0 hp_Ln) trivial ?_ ?_
  · intro p hp ys l' st' h' hys a1 a2 a3 gZ gL gS
    rcases List.mem_cons.mp hp with rfl | hp
    · obtain rfl := hp_y0 hys
      obtain ⟨t0, rfl, g0⟩ := hp_gSa gS (by decide)
      cases hp_gSn g0
      exact e0 l' h' a1 a2 a3 (hp_gLa gL (List.mem_of_getElem? (i := 0) rfl) (by decide))
    cases hp
  · intro p hp ys v h' hys a1 a2 a3 gZ gS
    cases hp
theorem yyG_k : hp_chk 310 34 0 [] [] [(0, .inr (.inr (.inl (some 94))))] [.inl (0, [])] [] [] 8 [] [([], 0, [], [], [], [.inl (0, [])], [])] = true := by decide +kernel
theorem yyG {cst : am_K} {strs : List Nat} {Φ : am_Q → Prop} {D : Nat} {M : am_M} {h : am_H} {l : am_L} (c : hp_C cst strs D) (hM : m_P[310]? = some M) (hD : (8 : Int) ≤ (D : Int) + 1) (hy : ly_hy m_tt ly_TH h) (x0 : Int32) (hx0 : x0.toInt = 0) (l0 : hp_a l 0 94) (r0 : ∀ (h' : am_H) (y0 : Int32), y0.toInt = 0 → ly_hy m_tt ly_TH h' → ly_fr cst [] h h' → h.length ≤ h'.length → Φ (some (.int y0), h', 0, 0)) : hp_F cst strs Φ D M 34 l [.int x0] h := by
  refine hp_arc c hM yyG_k hD [] rfl hy hp_Bn hp_Fn hp_Kn (hp_La l0 hp_Ln) (hp_Si (z := (0 + 0)) rfl (by omega) trivial) ?_ ?_
  · intro p hp ys l' st' h' hys a1 a2 a3 gZ gL gS
    cases hp
  · intro p hp ys v h' hys a1 a2 a3 gZ gS
    rcases List.mem_cons.mp hp with rfl | hp
    · obtain rfl := hp_y0 hys
      cases v with
      | none => cases gS
      | some w =>
        obtain ⟨y0, t0, s0, q0, -⟩ := hp_gSi (z := (0 + 0)) gS rfl
        cases s0
        exact r0 h' y0 (by omega) a1 a2 a3
    cases hp
theorem yyH_k : hp_chk 310 34 0 [] [] [(0, .inr (.inr (.inl (some 94))))] [.inl (1, [])] [] [] 8 [(41, ([], 0, [], [], [(0, .inr (.inr (.inl (some 94))))], [.inl ((-1), []), .inr (.inr (.inl (some 94)))], []))] [] = true := by decide +kernel
theorem yyH {cst : am_K} {strs : List Nat} {Φ : am_Q → Prop} {D : Nat} {M : am_M} {h : am_H} {l : am_L} (c : hp_C cst strs D) (hM : m_P[310]? = some M) (hD : (8 : Int) ≤ (D : Int) + 1) (hy : ly_hy m_tt ly_TH h) (x0 : Int32) (hx0 : x0.toInt = 1) (l0 : hp_a l 0 94) (e0 : ∀ (l' : am_L) (h' : am_H) (y0 : Int32), y0.toInt = (-1) → ly_hy m_tt ly_TH h' → ly_fr cst [] h h' → h.length ≤ h'.length → hp_a l' 0 94 → hp_F cst strs Φ D M 41 l' [.int y0, .ref 94] h') : hp_F cst strs Φ D M 34 l [.int x0] h := by
  refine hp_arc c hM yyH_k hD [] rfl hy hp_Bn hp_Fn hp_Kn (hp_La l0 hp_Ln) (hp_Si (z := (1 + 0)) rfl (by omega) trivial) ?_ ?_
  · intro p hp ys l' st' h' hys a1 a2 a3 gZ gL gS
    rcases List.mem_cons.mp hp with rfl | hp
    · obtain rfl := hp_y0 hys
      obtain ⟨y0, t0, rfl, q0, g0⟩ := hp_gSi (z := ((-1) + 0)) gS rfl
      obtain ⟨t1, rfl, g1⟩ := hp_gSa g0 (by decide)
      cases hp_gSn g1
      exact e0 l' h' y0 (by omega) a1 a2 a3 (hp_gLa gL (List.mem_of_getElem? (i := 0) rfl) (by decide))
    cases hp
  · intro p hp ys v h' hys a1 a2 a3 gZ gS
    cases hp
theorem yyI_k : hp_chk 310 44 0 [] [] [(0, .inr (.inr (.inl (some 94))))] [] [] [] 8 [(9, ([], 0, [], [], [(0, .inr (.inr (.inl (some 94))))], [], []))] [] = true := by decide +kernel
theorem yyI {cst : am_K} {strs : List Nat} {Φ : am_Q → Prop} {D : Nat} {M : am_M} {h : am_H} {l : am_L} (c : hp_C cst strs D) (hM : m_P[310]? = some M) (hD : (8 : Int) ≤ (D : Int) + 1) (hy : ly_hy m_tt ly_TH h) (l0 : hp_a l 0 94) (e0 : ∀ (l' : am_L) (h' : am_H), ly_hy m_tt ly_TH h' → ly_fr cst [] h h' → h.length ≤ h'.length → hp_a l' 0 94 → hp_F cst strs Φ D M 9 l' [] h') : hp_F cst strs Φ D M 44 l [] h := by
  refine hp_arc c hM yyI_k hD [] rfl hy hp_Bn hp_Fn hp_Kn (hp_La l0 hp_Ln) trivial ?_ ?_
  · intro p hp ys l' st' h' hys a1 a2 a3 gZ gL gS
    rcases List.mem_cons.mp hp with rfl | hp
    · obtain rfl := hp_y0 hys
      cases hp_gSn gS
      exact e0 l' h' a1 a2 a3 (hp_gLa gL (List.mem_of_getElem? (i := 0) rfl) (by decide))
    cases hp
  · intro p hp ys v h' hys a1 a2 a3 gZ gS
    cases hp
theorem yz0_k : hp_chk 309 0 0 [] [] [(0, .inr (.inr (.inl (some 94))))] [] [] [] 8 [(1, ([], 0, [], [], [(0, .inr (.inr (.inl (some 94))))], [.inr (.inr (.inl (some 94)))], []))] [] = true := by decide +kernel
theorem yz0 {cst : am_K} {strs : List Nat} {Φ : am_Q → Prop} {D : Nat} {M : am_M} {h : am_H} {l : am_L} (c : hp_C cst strs D) (hM : m_P[309]? = some M) (hD : (8 : Int) ≤ (D : Int) + 1) (hy : ly_hy m_tt ly_TH h) (l0 : hp_a l 0 94) (e0 : ∀ (l' : am_L) (h' : am_H), ly_hy m_tt ly_TH h' → ly_fr cst [] h h' → h.length ≤ h'.length → hp_a l' 0 94 → hp_F cst strs Φ D M 1 l' [.ref 94] h') : hp_F cst strs Φ D M 0 l [] h := by
  refine hp_arc c hM yz0_k hD [] rfl hy hp_Bn hp_Fn hp_Kn (hp_La l0 hp_Ln) trivial ?_ ?_
  · intro p hp ys l' st' h' hys a1 a2 a3 gZ gL gS
    rcases List.mem_cons.mp hp with rfl | hp
    · obtain rfl := hp_y0 hys
      obtain ⟨t0, rfl, g0⟩ := hp_gSa gS (by decide)
      cases hp_gSn g0
      exact e0 l' h' a1 a2 a3 (hp_gLa gL (List.mem_of_getElem? (i := 0) rfl) (by decide))
    cases hp
  · intro p hp ys v h' hys a1 a2 a3 gZ gS
    cases hp
theorem yzA_k : hp_chk 309 4 0 [] [] [(0, .inr (.inr (.inl (some 94))))] [.inl (0, [])] [] [] 8 [] [([], 0, [], [], [], [.inl (0, [])], [])] = true := by decide +kernel
theorem yzA {cst : am_K} {strs : List Nat} {Φ : am_Q → Prop} {D : Nat} {M : am_M} {h : am_H} {l : am_L} (c : hp_C cst strs D) (hM : m_P[309]? = some M) (hD : (8 : Int) ≤ (D : Int) + 1) (hy : ly_hy m_tt ly_TH h) (x0 : Int32) (hx0 : x0.toInt = 0) (l0 : hp_a l 0 94) (r0 : ∀ (h' : am_H) (y0 : Int32), y0.toInt = 0 → ly_hy m_tt ly_TH h' → ly_fr cst [] h h' → h.length ≤ h'.length → Φ (some (.int y0), h', 0, 0)) : hp_F cst strs Φ D M 4 l [.int x0] h := by
  refine hp_arc c hM yzA_k hD [] rfl hy hp_Bn hp_Fn hp_Kn (hp_La l0 hp_Ln) (hp_Si (z := (0 + 0)) rfl (by omega) trivial) ?_ ?_
  · intro p hp ys l' st' h' hys a1 a2 a3 gZ gL gS
    cases hp
  · intro p hp ys v h' hys a1 a2 a3 gZ gS
    rcases List.mem_cons.mp hp with rfl | hp
    · obtain rfl := hp_y0 hys
      cases v with
      | none => cases gS
      | some w =>
        obtain ⟨y0, t0, s0, q0, -⟩ := hp_gSi (z := (0 + 0)) gS rfl
        cases s0
        exact r0 h' y0 (by omega) a1 a2 a3
    cases hp
theorem yzB_k : hp_chk 309 4 0 [] [] [(0, .inr (.inr (.inl (some 94))))] [.inl (1, [])] [] [] 8 [(9, ([], 0, [], [], [(0, .inr (.inr (.inl (some 94))))], [], []))] [] = true := by decide +kernel
theorem yzB {cst : am_K} {strs : List Nat} {Φ : am_Q → Prop} {D : Nat} {M : am_M} {h : am_H} {l : am_L} (c : hp_C cst strs D) (hM : m_P[309]? = some M) (hD : (8 : Int) ≤ (D : Int) + 1) (hy : ly_hy m_tt ly_TH h) (x0 : Int32) (hx0 : x0.toInt = 1) (l0 : hp_a l 0 94) (e0 : ∀ (l' : am_L) (h' : am_H), ly_hy m_tt ly_TH h' → ly_fr cst [] h h' → h.length ≤ h'.length → hp_a l' 0 94 → hp_F cst strs Φ D M 9 l' [] h') : hp_F cst strs Φ D M 4 l [.int x0] h := by
  refine hp_arc c hM yzB_k hD [] rfl hy hp_Bn hp_Fn hp_Kn (hp_La l0 hp_Ln) (hp_Si (z := (1 + 0)) rfl (by omega) trivial) ?_ ?_
  · intro p hp ys l' st' h' hys a1 a2 a3 gZ gL gS
    rcases List.mem_cons.mp hp with rfl | hp
    · obtain rfl := hp_y0 hys
      cases hp_gSn gS
      exact e0 l' h' a1 a2 a3 (hp_gLa gL (List.mem_of_getElem? (i := 0) rfl) (by decide))
    cases hp
  · intro p hp ys v h' hys a1 a2 a3 gZ gS
    cases hp
theorem yzC0_k : hp_chk 309 9 1 [(0, 0, 0)] [] [(0, .inr (.inr (.inl (some 94))))] [] [(19971, (0, []), (0, [(0, 1)]))] [] 8 [] [([], 1, [(0, 0, 0)], [], [], [.inl (1, [])], [])] = true := by decide +kernel
theorem yzC0 {cst : am_K} {strs : List Nat} {Φ : am_Q → Prop} {D : Nat} {M : am_M} {h : am_H} {l : am_L} (c : hp_C cst strs D) (hM : m_P[309]? = some M) (hD : (8 : Int) ≤ (D : Int) + 1) (hy : ly_hy m_tt ly_TH h) (q : Int) (b0 : 0 ≤ q) (t0 : q ≤ 0) (k0 : ly_hv cst h 19971 0 = some (q)) (l0 : hp_a l 0 94) (r0 : ∀ (h' : am_H) (y0 : Int32), y0.toInt = 1 → ly_hy m_tt ly_TH h' → ly_fr cst [] h h' → h.length ≤ h'.length → Φ (some (.int y0), h', 0, 0)) : hp_F cst strs Φ D M 9 l [] h := by
  refine hp_arc c hM yzC0_k hD [q] rfl hy (hp_Bc (z := q) rfl b0 t0 hp_Bn) hp_Fn (hp_Kc (zi := (0 + 0)) (zv := (0 + (1 * q + 0))) k0 rfl rfl (by omega) (by omega) hp_Kn) (hp_La l0 hp_Ln) trivial ?_ ?_
  · intro p hp ys l' st' h' hys a1 a2 a3 gZ gL gS
    cases hp
  · intro p hp ys v h' hys a1 a2 a3 gZ gS
    rcases List.mem_cons.mp hp with rfl | hp
    · obtain rfl := hp_y0 hys
      cases v with
      | none => cases gS
      | some w =>
        obtain ⟨y0, t0, s0, q0, -⟩ := hp_gSi (z := (1 + 0)) gS rfl
        cases s0
        exact r0 h' y0 (by omega) a1 a2 a3
    cases hp
theorem yzC1_k : hp_chk 309 9 1 [(0, 2, 8)] [] [(0, .inr (.inr (.inl (some 94))))] [] [(19971, (0, []), (0, [(0, 1)]))] [] 8 [] [([], 1, [(0, 2, 8)], [], [], [.inl (1, [])], [])] = true := by decide +kernel
theorem yzC1 {cst : am_K} {strs : List Nat} {Φ : am_Q → Prop} {D : Nat} {M : am_M} {h : am_H} {l : am_L} (c : hp_C cst strs D) (hM : m_P[309]? = some M) (hD : (8 : Int) ≤ (D : Int) + 1) (hy : ly_hy m_tt ly_TH h) (q : Int) (b0 : 2 ≤ q) (t0 : q ≤ 8) (k0 : ly_hv cst h 19971 0 = some (q)) (l0 : hp_a l 0 94) (r0 : ∀ (h' : am_H) (y0 : Int32), y0.toInt = 1 → ly_hy m_tt ly_TH h' → ly_fr cst [] h h' → h.length ≤ h'.length → Φ (some (.int y0), h', 0, 0)) : hp_F cst strs Φ D M 9 l [] h := by
  refine hp_arc c hM yzC1_k hD [q] rfl hy (hp_Bc (z := q) rfl b0 t0 hp_Bn) hp_Fn (hp_Kc (zi := (0 + 0)) (zv := (0 + (1 * q + 0))) k0 rfl rfl (by omega) (by omega) hp_Kn) (hp_La l0 hp_Ln) trivial ?_ ?_
  · intro p hp ys l' st' h' hys a1 a2 a3 gZ gL gS
    cases hp
  · intro p hp ys v h' hys a1 a2 a3 gZ gS
    rcases List.mem_cons.mp hp with rfl | hp
    · obtain rfl := hp_y0 hys
      cases v with
      | none => cases gS
      | some w =>
        obtain ⟨y0, t0, s0, q0, -⟩ := hp_gSi (z := (1 + 0)) gS rfl
        cases s0
        exact r0 h' y0 (by omega) a1 a2 a3
    cases hp
theorem yzD0_k : hp_chk 309 9 1 [(0, (-1), 17)] [] [(0, .inr (.inr (.inl (some 94))))] [] [(19971, (0, []), (1, [])), (19972, (0, []), (0, [(0, 1)]))] [] 8 [] [([], 1, [(0, (-1), 17)], [], [], [.inl (1, [])], [])] = true := by decide +kernel
theorem yzD0 {cst : am_K} {strs : List Nat} {Φ : am_Q → Prop} {D : Nat} {M : am_M} {h : am_H} {l : am_L} (c : hp_C cst strs D) (hM : m_P[309]? = some M) (hD : (8 : Int) ≤ (D : Int) + 1) (hy : ly_hy m_tt ly_TH h) (k : Int) (b0 : (-1) ≤ k) (t0 : k ≤ 17) (k0 : ly_hv cst h 19971 0 = some 1) (k1 : ly_hv cst h 19972 0 = some (k)) (l0 : hp_a l 0 94) (r0 : ∀ (h' : am_H) (y0 : Int32), y0.toInt = 1 → ly_hy m_tt ly_TH h' → ly_fr cst [] h h' → h.length ≤ h'.length → Φ (some (.int y0), h', 0, 0)) : hp_F cst strs Φ D M 9 l [] h := by
  refine hp_arc c hM yzD0_k hD [k] rfl hy (hp_Bc (z := k) rfl b0 t0 hp_Bn) hp_Fn (hp_Kc (zi := (0 + 0)) (zv := (1 + 0)) k0 rfl rfl (by omega) (by omega) (hp_Kc (zi := (0 + 0)) (zv := (0 + (1 * k + 0))) k1 rfl rfl (by omega) (by omega) hp_Kn)) (hp_La l0 hp_Ln) trivial ?_ ?_
  · intro p hp ys l' st' h' hys a1 a2 a3 gZ gL gS
    cases hp
  · intro p hp ys v h' hys a1 a2 a3 gZ gS
    rcases List.mem_cons.mp hp with rfl | hp
    · obtain rfl := hp_y0 hys
      cases v with
      | none => cases gS
      | some w =>
        obtain ⟨y0, t0, s0, q0, -⟩ := hp_gSi (z := (1 + 0)) gS rfl
        cases s0
        exact r0 h' y0 (by omega) a1 a2 a3
    cases hp
theorem yzD1_k : hp_chk 309 9 1 [(0, 19, 23)] [] [(0, .inr (.inr (.inl (some 94))))] [] [(19971, (0, []), (1, [])), (19972, (0, []), (0, [(0, 1)]))] [] 8 [] [([], 1, [(0, 19, 23)], [], [], [.inl (1, [])], [])] = true := by decide +kernel
theorem yzD1 {cst : am_K} {strs : List Nat} {Φ : am_Q → Prop} {D : Nat} {M : am_M} {h : am_H} {l : am_L} (c : hp_C cst strs D) (hM : m_P[309]? = some M) (hD : (8 : Int) ≤ (D : Int) + 1) (hy : ly_hy m_tt ly_TH h) (k : Int) (b0 : 19 ≤ k) (t0 : k ≤ 23) (k0 : ly_hv cst h 19971 0 = some 1) (k1 : ly_hv cst h 19972 0 = some (k)) (l0 : hp_a l 0 94) (r0 : ∀ (h' : am_H) (y0 : Int32), y0.toInt = 1 → ly_hy m_tt ly_TH h' → ly_fr cst [] h h' → h.length ≤ h'.length → Φ (some (.int y0), h', 0, 0)) : hp_F cst strs Φ D M 9 l [] h := by
  refine hp_arc c hM yzD1_k hD [k] rfl hy (hp_Bc (z := k) rfl b0 t0 hp_Bn) hp_Fn (hp_Kc (zi := (0 + 0)) (zv := (1 + 0)) k0 rfl rfl (by omega) (by omega) (hp_Kc (zi := (0 + 0)) (zv := (0 + (1 * k + 0))) k1 rfl rfl (by omega) (by omega) hp_Kn)) (hp_La l0 hp_Ln) trivial ?_ ?_
  · intro p hp ys l' st' h' hys a1 a2 a3 gZ gL gS
    cases hp
  · intro p hp ys v h' hys a1 a2 a3 gZ gS
    rcases List.mem_cons.mp hp with rfl | hp
    · obtain rfl := hp_y0 hys
      cases v with
      | none => cases gS
      | some w =>
        obtain ⟨y0, t0, s0, q0, -⟩ := hp_gSi (z := (1 + 0)) gS rfl
        cases s0
        exact r0 h' y0 (by omega) a1 a2 a3
    cases hp
theorem yzE_k : hp_chk 309 9 0 [] [] [(0, .inr (.inr (.inl (some 94))))] [] [(19971, (0, []), (1, [])), (19972, (0, []), (18, []))] [] 8 [(27, ([], 0, [], [], [(0, .inr (.inr (.inl (some 94))))], [.inr (.inr (.inl (some 94)))], []))] [] = true := by decide +kernel
theorem yzE {cst : am_K} {strs : List Nat} {Φ : am_Q → Prop} {D : Nat} {M : am_M} {h : am_H} {l : am_L} (c : hp_C cst strs D) (hM : m_P[309]? = some M) (hD : (8 : Int) ≤ (D : Int) + 1) (hy : ly_hy m_tt ly_TH h) (k0 : ly_hv cst h 19971 0 = some 1) (k1 : ly_hv cst h 19972 0 = some 18) (l0 : hp_a l 0 94) (e0 : ∀ (l' : am_L) (h' : am_H), ly_hy m_tt ly_TH h' → ly_fr cst [] h h' → h.length ≤ h'.length → hp_a l' 0 94 → hp_F cst strs Φ D M 27 l' [.ref 94] h') : hp_F cst strs Φ D M 9 l [] h := by
  refine hp_arc c hM yzE_k hD [] rfl hy hp_Bn hp_Fn (hp_Kc (zi := (0 + 0)) (zv := (1 + 0)) k0 rfl rfl (by omega) (by omega) (hp_Kc (zi := (0 + 0)) (zv := (18 + 0)) k1 rfl rfl (by omega) (by omega) hp_Kn)) (hp_La l0 hp_Ln) trivial ?_ ?_
  · intro p hp ys l' st' h' hys a1 a2 a3 gZ gL gS
    rcases List.mem_cons.mp hp with rfl | hp
    · obtain rfl := hp_y0 hys
      obtain ⟨t0, rfl, g0⟩ := hp_gSa gS (by decide)
      cases hp_gSn g0
      exact e0 l' h' a1 a2 a3 (hp_gLa gL (List.mem_of_getElem? (i := 0) rfl) (by decide))
    cases hp
  · intro p hp ys v h' hys a1 a2 a3 gZ gS
    cases hp
theorem yzF_k : hp_chk 309 30 0 [] [] [(0, .inr (.inr (.inl (some 94))))] [] [] [] 8 [(31, ([], 0, [], [], [(0, .inr (.inr (.inl (some 94))))], [.inr (.inr (.inl (some 94)))], []))] [] = true := by decide +kernel
theorem yzF {cst : am_K} {strs : List Nat} {Φ : am_Q → Prop} {D : Nat} {M : am_M} {h : am_H} {l : am_L} (c : hp_C cst strs D) (hM : m_P[309]? = some M) (hD : (8 : Int) ≤ (D : Int) + 1) (hy : ly_hy m_tt ly_TH h) (l0 : hp_a l 0 94) (e0 : ∀ (l' : am_L) (h' : am_H), ly_hy m_tt ly_TH h' → ly_fr cst [] h h' → h.length ≤ h'.length → hp_a l' 0 94 → hp_F cst strs Φ D M 31 l' [.ref 94] h') : hp_F cst strs Φ D M 30 l [] h := by
  refine hp_arc c hM yzF_k hD [] rfl hy hp_Bn hp_Fn hp_Kn (hp_La l0 hp_Ln) trivial ?_ ?_
  · intro p hp ys l' st' h' hys a1 a2 a3 gZ gL gS
    rcases List.mem_cons.mp hp with rfl | hp
    · obtain rfl := hp_y0 hys
      obtain ⟨t0, rfl, g0⟩ := hp_gSa gS (by decide)
      cases hp_gSn g0
      exact e0 l' h' a1 a2 a3 (hp_gLa gL (List.mem_of_getElem? (i := 0) rfl) (by decide))
    cases hp
  · intro p hp ys v h' hys a1 a2 a3 gZ gS
    cases hp
theorem yzG_k : hp_chk 309 34 0 [] [] [(0, .inr (.inr (.inl (some 94))))] [.inl (0, [])] [] [] 8 [] [([], 0, [], [], [], [.inl (0, [])], [])] = true := by decide +kernel
theorem yzG {cst : am_K} {strs : List Nat} {Φ : am_Q → Prop} {D : Nat} {M : am_M} {h : am_H} {l : am_L} (c : hp_C cst strs D) (hM : m_P[309]? = some M) (hD : (8 : Int) ≤ (D : Int) + 1) (hy : ly_hy m_tt ly_TH h) (x0 : Int32) (hx0 : x0.toInt = 0) (l0 : hp_a l 0 94) (r0 : ∀ (h' : am_H) (y0 : Int32), y0.toInt = 0 → ly_hy m_tt ly_TH h' → ly_fr cst [] h h' → h.length ≤ h'.length → Φ (some (.int y0), h', 0, 0)) : hp_F cst strs Φ D M 34 l [.int x0] h := by
  refine hp_arc c hM yzG_k hD [] rfl hy hp_Bn hp_Fn hp_Kn (hp_La l0 hp_Ln) (hp_Si (z := (0 + 0)) rfl (by omega) trivial) ?_ ?_
  · intro p hp ys l' st' h' hys a1 a2 a3 gZ gL gS
    cases hp
  · intro p hp ys v h' hys a1 a2 a3 gZ gS
    rcases List.mem_cons.mp hp with rfl | hp
    · obtain rfl := hp_y0 hys
      cases v with
      | none => cases gS
      | some w =>
        obtain ⟨y0, t0, s0, q0, -⟩ := hp_gSi (z := (0 + 0)) gS rfl
        cases s0
        exact r0 h' y0 (by omega) a1 a2 a3
    cases hp
theorem yzH_k : hp_chk 309 34 0 [] [] [(0, .inr (.inr (.inl (some 94))))] [.inl (1, [])] [] [] 8 [(42, ([], 0, [], [], [(0, .inr (.inr (.inl (some 94))))], [.inl ((-2), []), .inr (.inr (.inl (some 94)))], []))] [] = true := by decide +kernel
theorem yzH {cst : am_K} {strs : List Nat} {Φ : am_Q → Prop} {D : Nat} {M : am_M} {h : am_H} {l : am_L} (c : hp_C cst strs D) (hM : m_P[309]? = some M) (hD : (8 : Int) ≤ (D : Int) + 1) (hy : ly_hy m_tt ly_TH h) (x0 : Int32) (hx0 : x0.toInt = 1) (l0 : hp_a l 0 94) (e0 : ∀ (l' : am_L) (h' : am_H) (y0 : Int32), y0.toInt = (-2) → ly_hy m_tt ly_TH h' → ly_fr cst [] h h' → h.length ≤ h'.length → hp_a l' 0 94 → hp_F cst strs Φ D M 42 l' [.int y0, .ref 94] h') : hp_F cst strs Φ D M 34 l [.int x0] h := by
  refine hp_arc c hM yzH_k hD [] rfl hy hp_Bn hp_Fn hp_Kn (hp_La l0 hp_Ln) (hp_Si (z := (1 + 0)) rfl (by omega) trivial) ?_ ?_
  · intro p hp ys l' st' h' hys a1 a2 a3 gZ gL gS
    rcases List.mem_cons.mp hp with rfl | hp
    · obtain rfl := hp_y0 hys
      obtain ⟨y0, t0, rfl, q0, g0⟩ := hp_gSi (z := ((-2) + 0)) gS rfl
      obtain ⟨t1, rfl, g1⟩ := hp_gSa g0 (by decide)
      cases hp_gSn g1
      exact e0 l' h' y0 (by omega) a1 a2 a3 (hp_gLa gL (List.mem_of_getElem? (i := 0) rfl) (by decide))
    cases hp
  · intro p hp ys v h' hys a1 a2 a3 gZ gS
    cases hp
theorem yzI_k : hp_chk 309 45 0 [] [] [(0, .inr (.inr (.inl (some 94))))] [] [] [] 8 [(9, ([], 0, [], [], [(0, .inr (.inr (.inl (some 94))))], [], []))] [] = true := by decide +kernel
theorem yzI {cst : am_K} {strs : List Nat} {Φ : am_Q → Prop} {D : Nat} {M : am_M} {h : am_H} {l : am_L} (c : hp_C cst strs D) (hM : m_P[309]? = some M) (hD : (8 : Int) ≤ (D : Int) + 1) (hy : ly_hy m_tt ly_TH h) (l0 : hp_a l 0 94) (e0 : ∀ (l' : am_L) (h' : am_H), ly_hy m_tt ly_TH h' → ly_fr cst [] h h' → h.length ≤ h'.length → hp_a l' 0 94 → hp_F cst strs Φ D M 9 l' [] h') : hp_F cst strs Φ D M 45 l [] h := by
  refine hp_arc c hM yzI_k hD [] rfl hy hp_Bn hp_Fn hp_Kn (hp_La l0 hp_Ln) trivial ?_ ?_
  · intro p hp ys l' st' h' hys a1 a2 a3 gZ gL gS
    rcases List.mem_cons.mp hp with rfl | hp
    · obtain rfl := hp_y0 hys
      cases hp_gSn gS
      exact e0 l' h' a1 a2 a3 (hp_gLa gL (List.mem_of_getElem? (i := 0) rfl) (by decide))
    cases hp
  · intro p hp ys v h' hys a1 a2 a3 gZ gS
    cases hp
/-! conditions as events: a test, or a join as the class numbers it -/
def qv_1 : qt_T ⊕ Int → List Int
  | .inl x => qt_e x ++ [-20004]
  | .inr j => [j]
def qv_2 : qt_T ⊕ Int → List qt_T
  | .inl x => [x]
  | .inr _ => []
def qv_e (V : List (qt_T ⊕ Int)) : List Int := V.flatMap qv_1
def qv_t (V : List (qt_T ⊕ Int)) : List qt_T := V.flatMap qv_2
theorem qv_ea (V W : List (qt_T ⊕ Int)) : qv_e (V ++ W) = qv_e V ++ qv_e W := by
  unfold qv_e
  rw [List.flatMap_append]
theorem qv_ta (V W : List (qt_T ⊕ Int)) : qv_t (V ++ W) = qv_t V ++ qv_t W := by
  unfold qv_t
  rw [List.flatMap_append]
theorem qv_e1 (x : qt_T) : qv_e [.inl x] = qt_e x ++ [-20004] := by
  unfold qv_e
  rw [List.flatMap_singleton]
  rfl
def qv_an (x : Bool) : List (qt_T ⊕ Int) := bif x then [.inr (-20006)] else []
def qv_or (y : Bool) : List (qt_T ⊕ Int) := bif y then [.inr (-20007)] else []
def qv_nt (b : Bool) : List (qt_T ⊕ Int) := bif b then [.inr (-20005)] else []
theorem qv_e_an (x : Bool) : qv_e (qv_an x) = an x := by cases x <;> rfl
theorem qv_e_or (y : Bool) : qv_e (qv_or y) = (bif y then [-20007] else []) := by cases y <;> rfl
theorem qv_e_nt (b : Bool) : qv_e (qv_nt b) = nt b := by cases b <;> rfl
theorem qv_t_an (x : Bool) : qv_t (qv_an x) = [] := by cases x <;> rfl
theorem qv_t_or (y : Bool) : qv_t (qv_or y) = [] := by cases y <;> rfl
theorem qv_t_nt (b : Bool) : qv_t (qv_nt b) = [] := by cases b <;> rfl
/-- whether so many NOTs turn a value round -/
def qv_p : Nat → Bool
  | 0 => false
  | k + 1 => !qv_p k
def qv_n : List Bool → List Bool
  | [] => []
  | b :: r => (!b) :: r
def qv_a : List Bool → List Bool
  | b :: d :: r => (d && b) :: r
  | s => s
def qv_o : List Bool → List Bool
  | b :: d :: r => (d || b) :: r
  | s => s
def qv_u : List Bool → List Bool
  | b :: d :: r => (d && !b) :: r
  | s => s
/-- an event as the class takes it: the values that wait, the tests so far -/
def qv_c1 (met : Nat → Bool) (s : List Bool × Nat) : qt_T ⊕ Int → List Bool × Nat
  | .inl _ => (met s.2 :: s.1, s.2 + 1)
  | .inr j => (if j = -20005 then qv_n s.1 else if j = -20006 then qv_a s.1 else if j = -20007 then qv_o s.1 else s.1, s.2)
def qv_c (met : Nat → Bool) (V : List (qt_T ⊕ Int)) (s : List Bool × Nat) : List Bool × Nat := V.foldl (qv_c1 met) s
/-- a step as the reference takes it -/
def qv_r1 (met : Nat → Bool) (st : List Bool) (s : Int) : List Bool := if 0 ≤ s then met s.toNat :: st else if s = -3 then qv_n st else if s = -1 then qv_a st else if s = -2 then qv_o st else qv_u st
def qv_r (met : Nat → Bool) (S : List Int) (st : List Bool) : List Bool := S.foldl (qv_r1 met) st
theorem qv_c_ap (met : Nat → Bool) (V W : List (qt_T ⊕ Int)) (s : List Bool × Nat) : qv_c met (V ++ W) s = qv_c met W (qv_c met V s) := by
  unfold qv_c
  rw [List.foldl_append]
theorem qv_r_ap (met : Nat → Bool) (A B : List Int) (s : List Bool) : qv_r met (A ++ B) s = qv_r met B (qv_r met A s) := by
  unfold qv_r
  rw [List.foldl_append]
theorem qv_cN (met : Nat → Bool) (b : Bool) (st : List Bool) (m : Nat) : qv_c met [.inr (-20005)] (b :: st, m) = ((!b) :: st, m) := by
  show ((if (-20005 : Int) = -20005 then qv_n (b :: st) else _, m) : List Bool × Nat) = _
  rw [if_pos rfl]
  rfl
theorem qv_cA (met : Nat → Bool) (b d : Bool) (st : List Bool) (m : Nat) : qv_c met [.inr (-20006)] (b :: d :: st, m) = ((d && b) :: st, m) := by
  show ((if (-20006 : Int) = -20005 then qv_n (b :: d :: st) else if (-20006 : Int) = -20006 then qv_a (b :: d :: st) else _, m) : List Bool × Nat) = _
  rw [if_neg (by decide), if_pos rfl]
  rfl
theorem qv_cO (met : Nat → Bool) (b d : Bool) (st : List Bool) (m : Nat) : qv_c met [.inr (-20007)] (b :: d :: st, m) = ((d || b) :: st, m) := by
  show ((if (-20007 : Int) = -20005 then qv_n (b :: d :: st) else if (-20007 : Int) = -20006 then qv_a (b :: d :: st) else if (-20007 : Int) = -20007 then qv_o (b :: d :: st) else b :: d :: st, m) : List Bool × Nat) = _
  rw [if_neg (by decide), if_neg (by decide), if_pos rfl]
  rfl
theorem qv_rN (met : Nat → Bool) (b : Bool) (st : List Bool) : qv_r1 met (b :: st) (-3) = (!b) :: st := by
  unfold qv_r1
  rw [if_neg (by decide), if_pos rfl]
  rfl
theorem qv_rA (met : Nat → Bool) (b d : Bool) (st : List Bool) : qv_r met [-1] (b :: d :: st) = (d && b) :: st := by
  show qv_r1 met (b :: d :: st) (-1) = _
  unfold qv_r1
  rw [if_neg (by decide), if_neg (by decide), if_pos rfl]
  rfl
theorem qv_rO (met : Nat → Bool) (b d : Bool) (st : List Bool) : qv_r met [-2] (b :: d :: st) = (d || b) :: st := by
  show qv_r1 met (b :: d :: st) (-2) = _
  unfold qv_r1
  rw [if_neg (by decide), if_neg (by decide), if_neg (by decide), if_pos rfl]
  rfl
theorem qv_rU (met : Nat → Bool) (b d : Bool) (st : List Bool) : qv_r met [-4] (b :: d :: st) = (d && !b) :: st := by
  show qv_r1 met (b :: d :: st) (-4) = _
  unfold qv_r1
  rw [if_neg (by decide), if_neg (by decide), if_neg (by decide), if_neg (by decide)]
  rfl
/-- events and steps that put one value, the same -/
def qv_b (V : List (qt_T ⊕ Int)) (S : List Int) (m m' : Nat) : Prop := ∃ b : (Nat → Bool) → Bool, ∀ (met : Nat → Bool) (st : List Bool), qv_c met V (st, m) = (b met :: st, m') ∧ qv_r met S st = b met :: st
theorem qv_b1 (x : qt_T) (m : Nat) : qv_b [.inl x] [(m : Int)] m (m + 1) := ⟨fun met => met m, fun met st => ⟨rfl, by
  show qv_r1 met st (m : Int) = met m :: st
  unfold qv_r1
  rw [if_pos (by omega)]
  rfl⟩⟩
set_option maxRecDepth 8000 in
theorem qv_rn (met : Nat → Bool) : ∀ (k : Nat) (b : Bool) (st : List Bool), qv_r met (List.replicate k (-3)) (b :: st) = (b ^^ qv_p k) :: st
  | 0, b, st => by
    show b :: st = (b ^^ false) :: st
    rw [Bool.xor_false]
  | k + 1, b, st => by
    show qv_r met (List.replicate k (-3)) (qv_r1 met (b :: st) (-3)) = (b ^^ !qv_p k) :: st
    rw [qv_rN, qv_rn met k (!b) st]
    generalize qv_p k = z
    cases b <;> cases z <;> rfl
theorem qv_bn {V : List (qt_T ⊕ Int)} {S : List Int} {m m' : Nat} (k : Nat) (h : qv_b V S m m') : qv_b (V ++ qv_nt (qv_p k)) (S ++ List.replicate k (-3)) m m' := by
  obtain ⟨b, hb⟩ := h
  refine ⟨fun met => b met ^^ qv_p k, fun met st => ⟨?_, ?_⟩⟩
  · show qv_c met (V ++ qv_nt (qv_p k)) (st, m) = ((b met ^^ qv_p k) :: st, m')
    rw [qv_c_ap, (hb met st).1]
    generalize qv_p k = z
    cases z with
    | false =>
      rw [Bool.xor_false]
      rfl
    | true =>
      rw [Bool.xor_true]
      exact qv_cN met (b met) st m'
  · show qv_r met (S ++ List.replicate k (-3)) st = (b met ^^ qv_p k) :: st
    rw [qv_r_ap, (hb met st).2, qv_rn]
theorem qv_ba {V W : List (qt_T ⊕ Int)} {S Q : List Int} {m m1 m2 : Nat} (h1 : qv_b V S m m1) (h2 : qv_b W Q m1 m2) : qv_b (V ++ W ++ [.inr (-20006)]) (S ++ Q ++ [-1]) m m2 := by
  obtain ⟨b, hb⟩ := h1
  obtain ⟨d, hd⟩ := h2
  refine ⟨fun met => b met && d met, fun met st => ⟨?_, ?_⟩⟩
  · rw [qv_c_ap, qv_c_ap, (hb met st).1, (hd met _).1]
    exact qv_cA met _ _ _ _
  · rw [qv_r_ap, qv_r_ap, (hb met st).2, (hd met _).2]
    exact qv_rA met _ _ _
theorem qv_bo {V W : List (qt_T ⊕ Int)} {S Q : List Int} {m m1 m2 : Nat} (h1 : qv_b V S m m1) (h2 : qv_b W Q m1 m2) : qv_b (V ++ W ++ [.inr (-20007)]) (S ++ Q ++ [-2]) m m2 := by
  obtain ⟨b, hb⟩ := h1
  obtain ⟨d, hd⟩ := h2
  refine ⟨fun met => b met || d met, fun met st => ⟨?_, ?_⟩⟩
  · rw [qv_c_ap, qv_c_ap, (hb met st).1, (hd met _).1]
    exact qv_cO met _ _ _ _
  · rw [qv_r_ap, qv_r_ap, (hb met st).2, (hd met _).2]
    exact qv_rO met _ _ _
theorem qv_bu {V W : List (qt_T ⊕ Int)} {S Q : List Int} {m m1 m2 : Nat} (h1 : qv_b V S m m1) (h2 : qv_b W Q m1 m2) : qv_b (V ++ W ++ [.inr (-20005), .inr (-20006)]) (S ++ Q ++ [-4]) m m2 := by
  obtain ⟨b, hb⟩ := h1
  obtain ⟨d, hd⟩ := h2
  refine ⟨fun met => b met && !d met, fun met st => ⟨?_, ?_⟩⟩
  · rw [qv_c_ap, qv_c_ap, (hb met st).1, (hd met _).1, show ([.inr (-20005), .inr (-20006)] : List (qt_T ⊕ Int)) = [.inr (-20005)] ++ [.inr (-20006)] from rfl, qv_c_ap, qv_cN]
    exact qv_cA met _ _ _ _
  · rw [qv_r_ap, qv_r_ap, (hb met st).2, (hd met _).2]
    exact qv_rU met _ _ _
def qd : List (qt_T ⊕ Int) → Nat → Option Nat
  | [], k => some k
  | .inl _ :: V, k => qd V (k + 1)
  | .inr j :: V, k => if j = -20005 then (if 1 ≤ k then qd V k else none) else if 2 ≤ k then qd V (k - 1) else none
def qe : List Int → Nat → Option Nat
  | [], k => some k
  | s :: S, k => if 0 ≤ s then qe S (k + 1) else if s = -3 then (if 1 ≤ k then qe S k else none) else if 2 ≤ k then qe S (k - 1) else none
/-- how many steps are tests -/
def qn : List Int → Nat
  | [] => 0
  | s :: S => (if 0 ≤ s then 1 else 0) + qn S
def qw : qt_T ⊕ Int → Prop
  | .inl x => qwt x
  | .inr j => j = -20005 ∨ j = -20006 ∨ j = -20007
set_option maxRecDepth 8000 in
theorem qd_ap : ∀ (V W : List (qt_T ⊕ Int)) (k : Nat), qd (V ++ W) k = (qd V k).bind (qd W)
  | [], W, k => rfl
  | .inl x :: V, W, k => by
    show qd (V ++ W) (k + 1) = (qd V (k + 1)).bind (qd W)
    exact qd_ap V W (k + 1)
  | .inr j :: V, W, k => by
    show (if j = -20005 then (if 1 ≤ k then qd (V ++ W) k else none) else if 2 ≤ k then qd (V ++ W) (k - 1) else none) = (if j = -20005 then (if 1 ≤ k then qd V k else none) else if 2 ≤ k then qd V (k - 1) else none).bind (qd W)
    by_cases a : j = -20005
    · rw [if_pos a, if_pos a]
      by_cases b : 1 ≤ k
      · rw [if_pos b, if_pos b]
        exact qd_ap V W k
      · rw [if_neg b, if_neg b]
        rfl
    · rw [if_neg a, if_neg a]
      by_cases b : 2 ≤ k
      · rw [if_pos b, if_pos b]
        exact qd_ap V W (k - 1)
      · rw [if_neg b, if_neg b]
        rfl
set_option maxRecDepth 8000 in
theorem qe_ap : ∀ (S Q : List Int) (k : Nat), qe (S ++ Q) k = (qe S k).bind (qe Q)
  | [], Q, k => rfl
  | s :: S, Q, k => by
    show (if 0 ≤ s then qe (S ++ Q) (k + 1) else if s = -3 then (if 1 ≤ k then qe (S ++ Q) k else none) else if 2 ≤ k then qe (S ++ Q) (k - 1) else none) = (if 0 ≤ s then qe S (k + 1) else if s = -3 then (if 1 ≤ k then qe S k else none) else if 2 ≤ k then qe S (k - 1) else none).bind (qe Q)
    by_cases a : 0 ≤ s
    · rw [if_pos a, if_pos a]
      exact qe_ap S Q (k + 1)
    rw [if_neg a, if_neg a]
    by_cases c : s = -3
    · rw [if_pos c, if_pos c]
      by_cases b : 1 ≤ k
      · rw [if_pos b, if_pos b]
        exact qe_ap S Q k
      · rw [if_neg b, if_neg b]
        rfl
    · rw [if_neg c, if_neg c]
      by_cases b : 2 ≤ k
      · rw [if_pos b, if_pos b]
        exact qe_ap S Q (k - 1)
      · rw [if_neg b, if_neg b]
        rfl
set_option maxRecDepth 8000 in
theorem qn_ap : ∀ (S Q : List Int), qn (S ++ Q) = qn S + qn Q
  | [], Q => by
    show qn Q = 0 + qn Q
    omega
  | s :: S, Q => by
    show (if 0 ≤ s then 1 else 0) + qn (S ++ Q) = (if 0 ≤ s then 1 else 0) + qn S + qn Q
    rw [qn_ap S Q]
    omega
set_option maxRecDepth 8000 in
theorem qe_rep : ∀ (j k : Nat), qe (List.replicate j (-3)) (k + 1) = some (k + 1)
  | 0, k => rfl
  | j + 1, k => by
    show (if (0 : Int) ≤ -3 then qe (List.replicate j (-3)) (k + 1 + 1) else if (-3 : Int) = -3 then (if 1 ≤ k + 1 then qe (List.replicate j (-3)) (k + 1) else none) else if 2 ≤ k + 1 then qe (List.replicate j (-3)) (k + 1 - 1) else none) = some (k + 1)
    rw [if_neg (by decide), if_pos rfl, if_pos (by omega)]
    exact qe_rep j k
set_option maxRecDepth 8000 in
theorem qn_rep : ∀ (j : Nat), qn (List.replicate j (-3)) = 0
  | 0 => rfl
  | j + 1 => by
    show (if (0 : Int) ≤ -3 then 1 else 0) + qn (List.replicate j (-3)) = 0
    rw [if_neg (by decide), qn_rep j]
/-- events and steps well made -/
def qv_w (V : List (qt_T ⊕ Int)) (S : List Int) (m m' : Nat) : Prop := (∀ k, qd V k = some (k + 1)) ∧ (∀ k, qe S k = some (k + 1)) ∧ (qv_t V).length + m = m' ∧ qn S + m = m' ∧ ∀ x ∈ V, qw x
theorem qw_two {V W : List (qt_T ⊕ Int)} {S Q : List Int} {m m1 m2 : Nat} (h1 : qv_w V S m m1) (h2 : qv_w W Q m1 m2) : (∀ k, qd (V ++ W) k = some (k + 2)) ∧ (∀ k, qe (S ++ Q) k = some (k + 2)) ∧ (qv_t (V ++ W)).length + m = m2 ∧ qn (S ++ Q) + m = m2 ∧ ∀ x ∈ V ++ W, qw x := by
  obtain ⟨a1, a2, a3, a4, a5⟩ := h1
  obtain ⟨b1, b2, b3, b4, b5⟩ := h2
  refine ⟨fun k => ?_, fun k => ?_, ?_, ?_, fun x hx => ?_⟩
  · rw [qd_ap, a1 k]
    exact b1 (k + 1)
  · rw [qe_ap, a2 k]
    exact b2 (k + 1)
  · rw [qv_ta, List.length_append]
    omega
  · rw [qn_ap]
    omega
  · rcases List.mem_append.mp hx with hx | hx
    · exact a5 x hx
    · exact b5 x hx
theorem qw_j {V W : List (qt_T ⊕ Int)} {S Q : List Int} {m m1 m2 : Nat} {j s : Int} (hj : j = -20006 ∨ j = -20007) (hs : s < 0 ∧ s ≠ -3) (h1 : qv_w V S m m1) (h2 : qv_w W Q m1 m2) : qv_w (V ++ W ++ [.inr j]) (S ++ Q ++ [s]) m m2 := by
  obtain ⟨c1, c2, c3, c4, c5⟩ := qw_two h1 h2
  refine ⟨fun k => ?_, fun k => ?_, ?_, ?_, fun x hx => ?_⟩
  · rw [qd_ap, c1 k]
    show (if j = -20005 then (if 1 ≤ k + 2 then some (k + 2) else none) else if 2 ≤ k + 2 then some (k + 2 - 1) else none) = some (k + 1)
    rw [if_neg (by omega), if_pos (by omega)]
    rfl
  · rw [qe_ap, c2 k]
    show (if 0 ≤ s then some (k + 2 + 1) else if s = -3 then (if 1 ≤ k + 2 then some (k + 2) else none) else if 2 ≤ k + 2 then some (k + 2 - 1) else none) = some (k + 1)
    rw [if_neg (by omega), if_neg hs.2, if_pos (by omega)]
    rfl
  · rw [qv_ta, show qv_t [.inr j] = [] from rfl, List.append_nil]
    exact c3
  · rw [qn_ap, show qn [s] = (if 0 ≤ s then 1 else 0) + 0 from rfl, if_neg (by omega)]
    exact c4
  · rcases List.mem_append.mp hx with hx | hx
    · exact c5 x hx
    · rw [List.mem_singleton.mp hx]
      exact Or.inr hj
theorem qw_u {V W : List (qt_T ⊕ Int)} {S Q : List Int} {m m1 m2 : Nat} (h1 : qv_w V S m m1) (h2 : qv_w W Q m1 m2) : qv_w (V ++ W ++ [.inr (-20005), .inr (-20006)]) (S ++ Q ++ [-4]) m m2 := by
  obtain ⟨c1, c2, c3, c4, c5⟩ := qw_two h1 h2
  refine ⟨fun k => ?_, fun k => ?_, ?_, ?_, fun x hx => ?_⟩
  · rw [qd_ap, c1 k]
    show (if (-20005 : Int) = -20005 then (if 1 ≤ k + 2 then qd [.inr (-20006)] (k + 2) else none) else if 2 ≤ k + 2 then qd [.inr (-20006)] (k + 2 - 1) else none) = some (k + 1)
    rw [if_pos rfl, if_pos (by omega)]
    show (if (-20006 : Int) = -20005 then (if 1 ≤ k + 2 then some (k + 2) else none) else if 2 ≤ k + 2 then some (k + 2 - 1) else none) = some (k + 1)
    rw [if_neg (by decide), if_pos (by omega)]
    rfl
  · rw [qe_ap, c2 k]
    show (if (0 : Int) ≤ -4 then some (k + 2 + 1) else if (-4 : Int) = -3 then (if 1 ≤ k + 2 then some (k + 2) else none) else if 2 ≤ k + 2 then some (k + 2 - 1) else none) = some (k + 1)
    rw [if_neg (by decide), if_neg (by decide), if_pos (by omega)]
    rfl
  · rw [qv_ta, show qv_t [.inr (-20005), .inr (-20006)] = [] from rfl, List.append_nil]
    exact c3
  · rw [qn_ap, show qn [-4] = 0 from rfl]
    exact c4
  · rcases List.mem_append.mp hx with hx | hx
    · exact c5 x hx
    · rcases List.mem_cons.mp hx with hx | hx
      · rw [hx]
        exact Or.inl rfl
      · rw [List.mem_singleton.mp hx]
        exact Or.inr (Or.inl rfl)
theorem qw_n {V : List (qt_T ⊕ Int)} {S : List Int} {m m' : Nat} (z : Bool) (j : Nat) (h : qv_w V S m m') : qv_w (V ++ qv_nt z) (S ++ List.replicate j (-3)) m m' := by
  obtain ⟨a1, a2, a3, a4, a5⟩ := h
  refine ⟨fun k => ?_, fun k => ?_, ?_, ?_, fun x hx => ?_⟩
  · rw [qd_ap, a1 k]
    cases z
    · rfl
    · show (if (-20005 : Int) = -20005 then (if 1 ≤ k + 1 then some (k + 1) else none) else if 2 ≤ k + 1 then some (k + 1 - 1) else none) = some (k + 1)
      rw [if_pos rfl, if_pos (by omega)]
  · rw [qe_ap, a2 k]
    exact qe_rep j k
  · rw [qv_ta, qv_t_nt, List.append_nil]
    exact a3
  · rw [qn_ap, qn_rep]
    exact a4
  · rcases List.mem_append.mp hx with hx | hx
    · exact a5 x hx
    · cases z
      · cases hx
      · rw [List.mem_singleton.mp hx]
        exact Or.inl rfl
/-- events and steps that put one value, the same, and are well made -/
def qv_q (V : List (qt_T ⊕ Int)) (S : List Int) (m m' : Nat) : Prop := qv_b V S m m' ∧ qv_w V S m m'
theorem qv_q1 (x : qt_T) (m : Nat) (wx : qwt x) : qv_q [.inl x] [(m : Int)] m (m + 1) := ⟨qv_b1 x m, fun k => rfl, fun k => by
  show (if 0 ≤ (m : Int) then some (k + 1) else _) = some (k + 1)
  rw [if_pos (by omega)], by
  show 1 + m = m + 1
  omega, by
  show (if 0 ≤ (m : Int) then 1 else 0) + 0 + m = m + 1
  rw [if_pos (by omega)]
  omega, fun y hy => by
  rw [List.mem_singleton.mp hy]
  exact wx⟩
theorem qv_qn {V : List (qt_T ⊕ Int)} {S : List Int} {m m' : Nat} (k : Nat) (h : qv_q V S m m') : qv_q (V ++ qv_nt (qv_p k)) (S ++ List.replicate k (-3)) m m' := ⟨qv_bn k h.1, qw_n _ k h.2⟩
theorem qv_qa {V W : List (qt_T ⊕ Int)} {S Q : List Int} {m m1 m2 : Nat} (h1 : qv_q V S m m1) (h2 : qv_q W Q m1 m2) : qv_q (V ++ W ++ [.inr (-20006)]) (S ++ Q ++ [-1]) m m2 := ⟨qv_ba h1.1 h2.1, qw_j (Or.inl rfl) (by decide) h1.2 h2.2⟩
theorem qv_qo {V W : List (qt_T ⊕ Int)} {S Q : List Int} {m m1 m2 : Nat} (h1 : qv_q V S m m1) (h2 : qv_q W Q m1 m2) : qv_q (V ++ W ++ [.inr (-20007)]) (S ++ Q ++ [-2]) m m2 := ⟨qv_bo h1.1 h2.1, qw_j (Or.inr rfl) (by decide) h1.2 h2.2⟩
theorem qv_qu {V W : List (qt_T ⊕ Int)} {S Q : List Int} {m m1 m2 : Nat} (h1 : qv_q V S m m1) (h2 : qv_q W Q m1 m2) : qv_q (V ++ W ++ [.inr (-20005), .inr (-20006)]) (S ++ Q ++ [-4]) m m2 := ⟨qv_bu h1.1 h2.1, qw_u h1.2 h2.2⟩
theorem ak_w {kd vl : Int → Int} {t a : Nat} {k : Int} (h : ak kd vl t a = k) (k0 : 0 ≤ k) : fk kd t a = 1 ∧ kw (vl (a : Int)) = k := by
  have q1 := ak_1 (kd := kd) (vl := vl) (t := t) (a := a) (by omega)
  unfold ak at h
  rw [if_pos q1] at h
  exact ⟨q1, h⟩
/-- how a part of the reference's reader of conditions ends -/
def yR (cst : am_K) (h0 : am_H) (pl : Int → Int) (t : Nat) (n : Int) (bad : Int → Nat → Prop) (ok : am_H → Prop) (r : am_Q) : Prop := ∃ w : Int32, r.1 = some (.int w) ∧ r.2.2.1 = 0 ∧ r.2.2.2 = 0 ∧ ly_hy m_tt ly_TH r.2.1 ∧ ly_fr cst [19971, 19972, 19973, 19974, 19975, 19976, 19990, 19991, 20010, 20011, 20012, 20014, 20015, 20016, 25344, 25600, 25856, 26112, 26368, 26624, 26880, 60020, 60050, 60060, 60061, 60071] h0 r.2.1 ∧ gl false cst h0 r.2.1 ∧ ((w.toInt = 0 ∧ ∃ k b, bad k b ∧ ly_hv cst r.2.1 19990 0 = some k ∧ ly_hv cst r.2.1 19991 0 = some (pa pl t n b)) ∨ (w.toInt = 1 ∧ gl true cst h0 r.2.1 ∧ ok r.2.1))
theorem yR_f {cst : am_K} {h0 h' : am_H} {pl : Int → Int} {t : Nat} {n : Int} {bad : Int → Nat → Prop} {ok : am_H → Prop} {w : Int32} {k : Int} {b : Nat} (hw : w.toInt = 0) (hy : ly_hy m_tt ly_TH h') (fr : ly_fr cst [19971, 19972, 19973, 19974, 19975, 19976, 19990, 19991, 20010, 20011, 20012, 20014, 20015, 20016, 25344, 25600, 25856, 26112, 26368, 26624, 26880, 60020, 60050, 60060, 60061, 60071] h0 h') (g : gl false cst h0 h') (e : bad k b) (k1 : ly_hv cst h' 19990 0 = some k) (k2 : ly_hv cst h' 19991 0 = some (pa pl t n b)) : yR cst h0 pl t n bad ok (some (.int w), h', 0, 0) := ⟨w, rfl, rfl, rfl, hy, fr, g, Or.inl ⟨hw, k, b, e, k1, k2⟩⟩
theorem yR_s {cst : am_K} {h0 h' : am_H} {pl : Int → Int} {t : Nat} {n : Int} {bad : Int → Nat → Prop} {ok : am_H → Prop} {w : Int32} (hw : w.toInt = 1) (hy : ly_hy m_tt ly_TH h') (fr : ly_fr cst [19971, 19972, 19973, 19974, 19975, 19976, 19990, 19991, 20010, 20011, 20012, 20014, 20015, 20016, 25344, 25600, 25856, 26112, 26368, 26624, 26880, 60020, 60050, 60060, 60061, 60071] h0 h') (g : gl true cst h0 h') (k : ok h') : yR cst h0 pl t n bad ok (some (.int w), h', 0, 0) := ⟨w, rfl, rfl, rfl, hy, fr, gf_tr g gl_rf, Or.inr ⟨hw, g, k⟩⟩
/-- where the reference stands behind a part of a condition -/
def yS (cst : am_K) (h : am_H) (f : Int → Int) (n : Int) (t : Nat) (kd pl vl : Int → Int) (en : Nat → Int) (b o m : Nat) (T : List qt_T) (S : List Int) (p : Int) : Prop := rq cst h f n t kd pl vl en b ∧ qt_D cst h T ∧ qt_S cst h S ∧ ly_hv cst h 20014 0 = some (m : Int) ∧ ly_hv cst h 20015 0 = some (o : Int) ∧ qt_q en b T S p ∧ b ≤ t ∧ m ≤ 20
theorem yS_mv {cst : am_K} {h h' : am_H} {f : Int → Int} {n : Int} {t : Nat} {kd pl vl : Int → Int} {en : Nat → Int} {b o m : Nat} {T : List qt_T} {S : List Int} {p : Int} {ms : List Nat} (Y : yS cst h f n t kd pl vl en b o m T S p) (hy : ly_hy m_tt ly_TH h) (hy' : ly_hy m_tt ly_TH h') (fr : ly_fr cst ms h h') (q1 : [19970, 19971, 19972, 19973, 19974, 19975, 19976, 20224].all (fun x => !ly_has x ms) = true) (q2 : [20010, 25344, 25600, 25856, 26112, 20011, 26368, 26624].all (fun x => !ly_has x ms) = true) (q3 : ly_has 20012 ms = false) (q4 : ly_has 26880 ms = false) (q5 : ly_has 20014 ms = false) (q6 : ly_has 20015 ms = false) : yS cst h' f n t kd pl vl en b o m T S p := ⟨rq_mv Y.1 hy hy' fr q1, qt_D_mv Y.2.1 fr q2, qt_S_mv Y.2.2.1 fr q3 q4, fr _ _ _ q5 Y.2.2.2.1, fr _ _ _ q6 Y.2.2.2.2.1, Y.2.2.2.2.2⟩
/-- where it stands ahead of one -/
def yI (cst : am_K) (h : am_H) (f : Int → Int) (n : Int) (t : Nat) (kd pl vl : Int → Int) (en : Nat → Int) (a o m : Nat) (T : List qt_T) (S : List Int) (p : Int) : Prop := ly_hy m_tt ly_TH h ∧ rq cst h f n t kd pl vl en a ∧ qt_D cst h T ∧ qt_S cst h S ∧ ly_hv cst h 20014 0 = some (m : Int) ∧ ly_hv cst h 20015 0 = some (o : Int) ∧ qt_p en a T S p ∧ m ≤ 20 ∧ o ≤ 6 ∧ 0 ≤ p
def yo_b (kd vl : Int → Int) (t a o m : Nat) (k : Int) (b : Nat) : Prop := ∀ (c : lv) (w : List lv) (u : Bool) (L : List Int), c.2.2 = false → w.length = o → cx kd vl t true a c w u m L = .inl (k, b)
def yo_k (cst : am_K) (f : Int → Int) (n : Int) (t : Nat) (kd pl vl : Int → Int) (en : Nat → Int) (a o m : Nat) (T : List qt_T) (S : List Int) (p : Int) (h : am_H) : Prop := ∃ (b m' : Nat) (V : List (qt_T ⊕ Int)) (S2 : List Int), (∀ (c : lv) (w : List lv) (u : Bool) (L : List Int), c.2.2 = false → w.length = o → cx kd vl t true a c w u m L = cx kd vl t false b (c.1, c.2.1, false) w u m' (L ++ qv_e V)) ∧ qv_q V S2 m m' ∧ a < b ∧ yS cst h f n t kd pl vl en b o m' (T ++ qv_t V) (S ++ S2) p
def ya_b (kd vl : Int → Int) (t a o m : Nat) (k : Int) (b : Nat) : Prop := ∀ (y : Bool) (w : List lv) (u : Bool) (L : List Int), w.length = o → cx kd vl t true a (y, false, false) w u m L = .inl (k, b)
def ya_k (cst : am_K) (f : Int → Int) (n : Int) (t : Nat) (kd pl vl : Int → Int) (en : Nat → Int) (a o m : Nat) (T : List qt_T) (S : List Int) (p : Int) (h : am_H) : Prop := ∃ (b m' : Nat) (V : List (qt_T ⊕ Int)) (S2 : List Int) (x : Bool), (∀ (y : Bool) (w : List lv) (u : Bool) (L : List Int), w.length = o → cx kd vl t true a (y, false, false) w u m L = cx kd vl t false b (y, x, false) w u m' (L ++ qv_e V)) ∧ qv_q (V ++ qv_an x) S2 m m' ∧ a < b ∧ ak kd vl t b ≠ 19 ∧ yS cst h f n t kd pl vl en b o m' (T ++ qv_t V) (S ++ S2) p
def yc_b (kd vl : Int → Int) (t a o m : Nat) (k : Int) (b : Nat) : Prop := ∀ (w : List lv) (u : Bool) (L : List Int), w.length = o → cx kd vl t true a (false, false, false) w u m L = .inl (k, b)
def yc_k (cst : am_K) (f : Int → Int) (n : Int) (t : Nat) (kd pl vl : Int → Int) (en : Nat → Int) (a o m : Nat) (T : List qt_T) (S : List Int) (p : Int) (h : am_H) : Prop := ∃ (b m' : Nat) (V : List (qt_T ⊕ Int)) (S2 : List Int) (x y : Bool), (∀ (w : List lv) (u : Bool) (L : List Int), w.length = o → cx kd vl t true a (false, false, false) w u m L = cx kd vl t false b (y, x, false) w u m' (L ++ qv_e V)) ∧ qv_q (V ++ qv_an x ++ qv_or y) S2 m m' ∧ a < b ∧ ak kd vl t b ≠ 19 ∧ ak kd vl t b ≠ 18 ∧ yS cst h f n t kd pl vl en b o m' (T ++ qv_t V) (S ++ S2) p
def yO (cst : am_K) (strs : List Nat) (f : Int → Int) (n : Int) (t : Nat) (kd pl vl : Int → Int) (en : Nat → Int) (a : Nat) : Prop := a ≤ t → ∀ (D o m : Nat) (h : am_H) (T : List qt_T) (S : List Int) (p : Int), 11 + 3 * (6 - o) ≤ D → yI cst h f n t kd pl vl en a o m T S p → ∃ r, am_Run cst m_cl m_tt m_P strs sx_bi (D + 1) 311 [.ref 94] h r ∧ yR cst h pl t n (yo_b kd vl t a o m) (yo_k cst f n t kd pl vl en a o m T S p) r
def yA (cst : am_K) (strs : List Nat) (f : Int → Int) (n : Int) (t : Nat) (kd pl vl : Int → Int) (en : Nat → Int) (a : Nat) : Prop := a ≤ t → ∀ (D o m : Nat) (h : am_H) (T : List qt_T) (S : List Int) (p : Int), 12 + 3 * (6 - o) ≤ D → yI cst h f n t kd pl vl en a o m T S p → ∃ r, am_Run cst m_cl m_tt m_P strs sx_bi (D + 1) 310 [.ref 94] h r ∧ yR cst h pl t n (ya_b kd vl t a o m) (ya_k cst f n t kd pl vl en a o m T S p) r
def yC (cst : am_K) (strs : List Nat) (f : Int → Int) (n : Int) (t : Nat) (kd pl vl : Int → Int) (en : Nat → Int) (a : Nat) : Prop := a ≤ t → ∀ (D o m : Nat) (h : am_H) (T : List qt_T) (S : List Int) (p : Int), 13 + 3 * (6 - o) ≤ D → yI cst h f n t kd pl vl en a o m T S p → ∃ r, am_Run cst m_cl m_tt m_P strs sx_bi (D + 1) 309 [.ref 94] h r ∧ yR cst h pl t n (yc_b kd vl t a o m) (yc_k cst f n t kd pl vl en a o m T S p) r
theorem tkT_1 {f : Int → Int} {n : Int} {t : Nat} {kd pl vl : Int → Int} {en : Nat → Int} (T : tkT f n t kd pl vl en) {a : Nat} (h : a < t) : en a + 1 ≤ en (a + 1) := by
  have e1 := (T.2.1 a h).1
  have e2 := (T.2.1 a h).2.1
  omega
theorem scz311_23 {cst : am_K} {strs : List Nat} {Φ : am_Q → Prop} {D : Nat} {M : am_M} {h : am_H} {l : am_L} {st : List Value} (cc : ∀ d, hp_C cst strs d) (hM : m_P[311]? = some M) (hD : 8 ≤ D) (hy : ly_hy m_tt ly_TH h) {f : Int → Int} {n : Int} {t : Nat} {kd pl vl : Int → Int} {en : Nat → Int} {a : Nat} (R : rq cst h f n t kd pl vl en a) (hst : (st.map fun v => v.category).sum ≤ 8)
    (k : ∀ h', ly_hy m_tt ly_TH h' → ly_fr cst [19971, 19972, 19973, 19974, 19975, 19976] h h' → gl true cst h h' → rq cst h' f n t kd pl vl en (a + 1) → hp_F cst strs Φ D M 26 l st h') : hp_F cst strs Φ D M 23 l (.ref 94 :: st) h := by
  obtain ⟨E, rfl⟩ : ∃ E, D = E + 1 := ⟨D - 1, by omega⟩
  obtain ⟨r, hrun, r1, r2, r3, rhy, rfr, rR⟩ := rq_scan (D := E) (cc _) (by omega) hy R
  refine hp_call (mi := 311) (pc := 23) (tg := 299) (na := 1) (c := 78) (ci := 12) (st0 := [.ref 94]) (st := st) (av := []) hM (by decide +kernel) hy rfl rfl rfl hst hrun r2 r3 ?_
  rw [r1]
  exact k _ rhy rfr (gl_fr rfr rfl) rR
theorem scz311_63 {cst : am_K} {strs : List Nat} {Φ : am_Q → Prop} {D : Nat} {M : am_M} {h : am_H} {l : am_L} {st : List Value} (cc : ∀ d, hp_C cst strs d) (hM : m_P[311]? = some M) (hD : 8 ≤ D) (hy : ly_hy m_tt ly_TH h) {f : Int → Int} {n : Int} {t : Nat} {kd pl vl : Int → Int} {en : Nat → Int} {a : Nat} (R : rq cst h f n t kd pl vl en a) (hst : (st.map fun v => v.category).sum ≤ 8)
    (k : ∀ h', ly_hy m_tt ly_TH h' → ly_fr cst [19971, 19972, 19973, 19974, 19975, 19976] h h' → gl true cst h h' → rq cst h' f n t kd pl vl en (a + 1) → hp_F cst strs Φ D M 66 l st h') : hp_F cst strs Φ D M 63 l (.ref 94 :: st) h := by
  obtain ⟨E, rfl⟩ : ∃ E, D = E + 1 := ⟨D - 1, by omega⟩
  obtain ⟨r, hrun, r1, r2, r3, rhy, rfr, rR⟩ := rq_scan (D := E) (cc _) (by omega) hy R
  refine hp_call (mi := 311) (pc := 63) (tg := 299) (na := 1) (c := 78) (ci := 12) (st0 := [.ref 94]) (st := st) (av := []) hM (by decide +kernel) hy rfl rfl rfl hst hrun r2 r3 ?_
  rw [r1]
  exact k _ rhy rfr (gl_fr rfr rfl) rR
theorem scz311_101 {cst : am_K} {strs : List Nat} {Φ : am_Q → Prop} {D : Nat} {M : am_M} {h : am_H} {l : am_L} {st : List Value} (cc : ∀ d, hp_C cst strs d) (hM : m_P[311]? = some M) (hD : 8 ≤ D) (hy : ly_hy m_tt ly_TH h) {f : Int → Int} {n : Int} {t : Nat} {kd pl vl : Int → Int} {en : Nat → Int} {a : Nat} (R : rq cst h f n t kd pl vl en a) (hst : (st.map fun v => v.category).sum ≤ 8)
    (k : ∀ h', ly_hy m_tt ly_TH h' → ly_fr cst [19971, 19972, 19973, 19974, 19975, 19976] h h' → gl true cst h h' → rq cst h' f n t kd pl vl en (a + 1) → hp_F cst strs Φ D M 104 l st h') : hp_F cst strs Φ D M 101 l (.ref 94 :: st) h := by
  obtain ⟨E, rfl⟩ : ∃ E, D = E + 1 := ⟨D - 1, by omega⟩
  obtain ⟨r, hrun, r1, r2, r3, rhy, rfr, rR⟩ := rq_scan (D := E) (cc _) (by omega) hy R
  refine hp_call (mi := 311) (pc := 101) (tg := 299) (na := 1) (c := 78) (ci := 12) (st0 := [.ref 94]) (st := st) (av := []) hM (by decide +kernel) hy rfl rfl rfl hst hrun r2 r3 ?_
  rw [r1]
  exact k _ rhy rfr (gl_fr rfr rfl) rR
theorem scz310_27 {cst : am_K} {strs : List Nat} {Φ : am_Q → Prop} {D : Nat} {M : am_M} {h : am_H} {l : am_L} {st : List Value} (cc : ∀ d, hp_C cst strs d) (hM : m_P[310]? = some M) (hD : 8 ≤ D) (hy : ly_hy m_tt ly_TH h) {f : Int → Int} {n : Int} {t : Nat} {kd pl vl : Int → Int} {en : Nat → Int} {a : Nat} (R : rq cst h f n t kd pl vl en a) (hst : (st.map fun v => v.category).sum ≤ 8)
    (k : ∀ h', ly_hy m_tt ly_TH h' → ly_fr cst [19971, 19972, 19973, 19974, 19975, 19976] h h' → gl true cst h h' → rq cst h' f n t kd pl vl en (a + 1) → hp_F cst strs Φ D M 30 l st h') : hp_F cst strs Φ D M 27 l (.ref 94 :: st) h := by
  obtain ⟨E, rfl⟩ : ∃ E, D = E + 1 := ⟨D - 1, by omega⟩
  obtain ⟨r, hrun, r1, r2, r3, rhy, rfr, rR⟩ := rq_scan (D := E) (cc _) (by omega) hy R
  refine hp_call (mi := 310) (pc := 27) (tg := 299) (na := 1) (c := 78) (ci := 12) (st0 := [.ref 94]) (st := st) (av := []) hM (by decide +kernel) hy rfl rfl rfl hst hrun r2 r3 ?_
  rw [r1]
  exact k _ rhy rfr (gl_fr rfr rfl) rR
theorem scz309_27 {cst : am_K} {strs : List Nat} {Φ : am_Q → Prop} {D : Nat} {M : am_M} {h : am_H} {l : am_L} {st : List Value} (cc : ∀ d, hp_C cst strs d) (hM : m_P[309]? = some M) (hD : 8 ≤ D) (hy : ly_hy m_tt ly_TH h) {f : Int → Int} {n : Int} {t : Nat} {kd pl vl : Int → Int} {en : Nat → Int} {a : Nat} (R : rq cst h f n t kd pl vl en a) (hst : (st.map fun v => v.category).sum ≤ 8)
    (k : ∀ h', ly_hy m_tt ly_TH h' → ly_fr cst [19971, 19972, 19973, 19974, 19975, 19976] h h' → gl true cst h h' → rq cst h' f n t kd pl vl en (a + 1) → hp_F cst strs Φ D M 30 l st h') : hp_F cst strs Φ D M 27 l (.ref 94 :: st) h := by
  obtain ⟨E, rfl⟩ : ∃ E, D = E + 1 := ⟨D - 1, by omega⟩
  obtain ⟨r, hrun, r1, r2, r3, rhy, rfr, rR⟩ := rq_scan (D := E) (cc _) (by omega) hy R
  refine hp_call (mi := 309) (pc := 27) (tg := 299) (na := 1) (c := 78) (ci := 12) (st0 := [.ref 94]) (st := st) (av := []) hM (by decide +kernel) hy rfl rfl rfl hst hrun r2 r3 ?_
  rw [r1]
  exact k _ rhy rfr (gl_fr rfr rfl) rR
theorem ypz311_126 {cst : am_K} {strs : List Nat} {Φ : am_Q → Prop} {D : Nat} {M : am_M} {h : am_H} {l : am_L} {st : List Value} (cc : ∀ d, hp_C cst strs d) (hM : m_P[311]? = some M) (hD : 8 ≤ D) (hy : ly_hy m_tt ly_TH h) {S : List Int} (X : qt_S cst h S) (sb : S.length ≤ 801) {xs : Int32} {v : Int} (xv : xs.toInt = v) (x0 : -4 ≤ v) (x1 : v ≤ 19) (hst : (st.map fun v => v.category).sum ≤ 8)
    (k : ∀ h', ly_hy m_tt ly_TH h' → ly_fr cst [20012, 26880, 60020, 60050, 60060, 60061, 60071] h h' → gl true cst h h' → qt_S cst h' (S ++ [v]) → hp_F cst strs Φ D M 129 l st h') : hp_F cst strs Φ D M 126 l (.int xs :: .ref 94 :: st) h := by
  obtain ⟨E, rfl⟩ : ∃ E, D = E + 1 := ⟨D - 1, by omega⟩
  subst xv
  obtain ⟨r, hrun, r1, r2, r3, rhy, rfr, rg, rS⟩ := yp_run (D := E) (xs := xs) cc (by omega) hy X sb x0 x1
  refine hp_call (mi := 311) (pc := 126) (tg := 313) (na := 2) (c := 78) (ci := 12) (st0 := [.int xs, .ref 94]) (st := st) (av := [.int xs]) hM (by decide +kernel) hy rfl rfl rfl hst hrun r2 r3 ?_
  rw [r1]
  exact k _ rhy rfr rg rS
theorem ypz310_41 {cst : am_K} {strs : List Nat} {Φ : am_Q → Prop} {D : Nat} {M : am_M} {h : am_H} {l : am_L} {st : List Value} (cc : ∀ d, hp_C cst strs d) (hM : m_P[310]? = some M) (hD : 8 ≤ D) (hy : ly_hy m_tt ly_TH h) {S : List Int} (X : qt_S cst h S) (sb : S.length ≤ 801) {xs : Int32} {v : Int} (xv : xs.toInt = v) (x0 : -4 ≤ v) (x1 : v ≤ 19) (hst : (st.map fun v => v.category).sum ≤ 8)
    (k : ∀ h', ly_hy m_tt ly_TH h' → ly_fr cst [20012, 26880, 60020, 60050, 60060, 60061, 60071] h h' → gl true cst h h' → qt_S cst h' (S ++ [v]) → hp_F cst strs Φ D M 44 l st h') : hp_F cst strs Φ D M 41 l (.int xs :: .ref 94 :: st) h := by
  obtain ⟨E, rfl⟩ : ∃ E, D = E + 1 := ⟨D - 1, by omega⟩
  subst xv
  obtain ⟨r, hrun, r1, r2, r3, rhy, rfr, rg, rS⟩ := yp_run (D := E) (xs := xs) cc (by omega) hy X sb x0 x1
  refine hp_call (mi := 310) (pc := 41) (tg := 313) (na := 2) (c := 78) (ci := 12) (st0 := [.int xs, .ref 94]) (st := st) (av := [.int xs]) hM (by decide +kernel) hy rfl rfl rfl hst hrun r2 r3 ?_
  rw [r1]
  exact k _ rhy rfr rg rS
theorem ypz309_42 {cst : am_K} {strs : List Nat} {Φ : am_Q → Prop} {D : Nat} {M : am_M} {h : am_H} {l : am_L} {st : List Value} (cc : ∀ d, hp_C cst strs d) (hM : m_P[309]? = some M) (hD : 8 ≤ D) (hy : ly_hy m_tt ly_TH h) {S : List Int} (X : qt_S cst h S) (sb : S.length ≤ 801) {xs : Int32} {v : Int} (xv : xs.toInt = v) (x0 : -4 ≤ v) (x1 : v ≤ 19) (hst : (st.map fun v => v.category).sum ≤ 8)
    (k : ∀ h', ly_hy m_tt ly_TH h' → ly_fr cst [20012, 26880, 60020, 60050, 60060, 60061, 60071] h h' → gl true cst h h' → qt_S cst h' (S ++ [v]) → hp_F cst strs Φ D M 45 l st h') : hp_F cst strs Φ D M 42 l (.int xs :: .ref 94 :: st) h := by
  obtain ⟨E, rfl⟩ : ∃ E, D = E + 1 := ⟨D - 1, by omega⟩
  subst xv
  obtain ⟨r, hrun, r1, r2, r3, rhy, rfr, rg, rS⟩ := yp_run (D := E) (xs := xs) cc (by omega) hy X sb x0 x1
  refine hp_call (mi := 309) (pc := 42) (tg := 313) (na := 2) (c := 78) (ci := 12) (st0 := [.int xs, .ref 94]) (st := st) (av := [.int xs]) hM (by decide +kernel) hy rfl rfl rfl hst hrun r2 r3 ?_
  rw [r1]
  exact k _ rhy rfr rg rS
set_option maxRecDepth 8000 in
/-- the NOTs that end a ONE -/
theorem yx_nt {cst : am_K} {strs : List Nat} {D : Nat} {M : am_M} (cc : ∀ d, hp_C cst strs d) (hM : m_P[311]? = some M) (hD : 8 ≤ D) {j : Nat} (j1 : (j : Int) ≤ 1200) : ∀ (k i : Nat) (h : am_H) (l : am_L) (S : List Int) (Φ : am_Q → Prop), i + k = j → ly_hy m_tt ly_TH h → qt_S cst h S → S.length + k ≤ 801 → hp_a l 0 94 → hp_i l 1 (j : Int) → hp_i l 2 (i : Int) → (∀ (h' : am_H) (w : Int32), w.toInt = 1 → ly_hy m_tt ly_TH h' → ly_fr cst [20012, 26880, 60020, 60050, 60060, 60061, 60071] h h' → gl true cst h h' → qt_S cst h' (S ++ List.replicate k (-3)) → Φ (some (.int w), h', 0, 0)) → hp_F cst strs Φ D M 118 l [] h
  | 0, i, h, l, S, Φ, e, hy, X, sb, l0, l1, l2, Q => by
    have ei : i = j := by omega
    subst ei
    exact yxR (cc _) hM (by omega) hy (i : Int) (by omega) j1 l0 l1 l2 (fun h2 w hw u1 u2 u3 => Q h2 w hw u1 (hp_sub2 rfl u2) (gl_fr u2 rfl) (by rw [List.replicate_zero, List.append_nil]; exact qt_S_mv X u2 rfl rfl))
  | k + 1, i, h, l, S, Φ, e, hy, X, sb, l0, l1, l2, Q => by
    refine yxS (cc _) hM (by omega) hy (j : Int) (i : Int) (by omega) j1 (by omega) (by omega) (by omega) l0 l1 l2 (fun l3 h3 y0 f0 u1 u2 u3 m0 m1 m2 => ?_)
    refine ypz311_126 cc hM hD u1 (qt_S_mv X u2 rfl rfl) (by omega) f0 (by decide) (by decide) (by decide) (fun h4 v1 v2 v3 v4 => ?_)
    refine yxT (cc _) hM (by omega) v1 (j : Int) (i : Int) (by omega) j1 (by omega) (by omega) (by omega) m0 m1 m2 (fun l5 h5 w1 w2 w3 o0 o1 o2 => ?_)
    refine yx_nt cc hM hD j1 k (i + 1) h5 l5 (S ++ [-3]) Φ (by omega) w1 (qt_S_mv v4 w2 rfl rfl) (by rw [List.length_append, List.length_singleton]; omega) o0 o1 o2 (fun h6 w hw x1 x2 x3 x4 => Q h6 w hw x1 (ly_fr_tr (hp_sub2 rfl u2) (ly_fr_tr v2 (ly_fr_tr (hp_sub2 rfl w2) x2))) (gl_tr (gl_fr u2 rfl) (gl_tr v3 (gl_tr (gl_fr w2 rfl) x3))) ?_)
    rw [List.append_assoc] at x4
    exact x4
/-- a ONE behind its test or its bracket -/
theorem yx_tl {cst : am_K} {strs : List Nat} {D : Nat} {M : am_M} {h0 h : am_H} {l : am_L} (cc : ∀ d, hp_C cst strs d) (hM : m_P[311]? = some M) (hD : 8 ≤ D) (hy : ly_hy m_tt ly_TH h) {f : Int → Int} {n : Int} {t : Nat} {kd pl vl : Int → Int} {en : Nat → Int} {a b o m m' j : Nat} {T : List qt_T} {S : List Int} {V : List (qt_T ⊕ Int)} {S2 : List Int} {p : Int} (fr : ly_fr cst [19971, 19972, 19973, 19974, 19975, 19976, 19990, 19991, 20010, 20011, 20012, 20014, 20015, 20016, 25344, 25600, 25856, 26112, 26368, 26624, 26880, 60020, 60050, 60060, 60061, 60071] h0 h) (g : gl true cst h0 h) (cxe : ∀ (c : lv) (w : List lv) (u : Bool) (L : List Int), c.2.2 = false → w.length = o → cx kd vl t true a c w u m L = cx kd vl t false b (c.1, c.2.1, false) w u m' (L ++ qv_e V ++ nt (qv_p j))) (sq : qv_q V S2 m m') (ab : a < b) (Y : yS cst h f n t kd pl vl en b o m' (T ++ qv_t V) (S ++ S2) (p + (j : Int))) (p0 : 0 ≤ p) (l0 : hp_a l 0 94) (l1 : hp_i l 1 (j : Int)) : hp_F cst strs (yR cst h0 pl t n (yo_b kd vl t a o m) (yo_k cst f n t kd pl vl en a o m T S p)) D M 116 l [] h := by
  obtain ⟨R, X, Y1, k14, k15, ⟨q1, q2, q3⟩, bt, m20⟩ := Y
  have eb := tkT_end R.1.1 b bt
  have n1 := R.1.2.2.1
  refine yxQ (cc _) hM (by omega) hy (j : Int) (by omega) (by omega) l0 l1 (fun l2 h2 u1 u2 u3 m0 m1 m2 => ?_)
  refine yx_nt cc hM hD (by omega) j 0 h2 l2 (S ++ S2) _ (by omega) u1 (qt_S_mv Y1 u2 rfl rfl) (by omega) m0 m1 m2 (fun h3 v hv v1 v2 v3 v4 => yR_s hv v1 (ly_fr_tr fr (ly_fr_tr (hp_sub2 rfl u2) (hp_sub2 rfl v2))) (gl_tr g (gl_tr (gl_fr u2 rfl) v3)) ⟨b, m', V ++ qv_nt (qv_p j), S2 ++ List.replicate j (-3), fun c w u L hc hw => ?_, qv_qn j sq, ab, ?_⟩)
  · rw [cxe c w u L hc hw, qv_ea, qv_e_nt, List.append_assoc]
  · have et : T ++ qv_t (V ++ qv_nt (qv_p j)) = T ++ qv_t V := by rw [qv_ta, qv_t_nt, List.append_nil]
    rw [et, ← List.append_assoc]
    exact ⟨rq_mv (rq_mv R hy u1 u2 rfl) u1 v1 v2 rfl, qt_D_mv (qt_D_mv X u2 rfl) v2 rfl, v4, v2 _ _ _ rfl (u2 _ _ _ rfl k14), v2 _ _ _ rfl (u2 _ _ _ rfl k15), ⟨q1, by rw [List.length_append, List.length_replicate]; omega, q3⟩, bt, m20⟩
/-- a ONE at its test or its bracket, so many NOTs before it -/
theorem yx_m {cst : am_K} {strs : List Nat} {D : Nat} {M : am_M} {h0 h : am_H} {l : am_L} (cc : ∀ d, hp_C cst strs d) (hM : m_P[311]? = some M) {f : Int → Int} {n : Int} {t : Nat} {kd pl vl : Int → Int} {en : Nat → Int} (kb : kB kd t) (vb : vB kd vl t) {a j o m : Nat} {T : List qt_T} {S : List Int} {p : Int} (HC : ∀ a', a < a' → yC cst strs f n t kd pl vl en a') (hD : 11 + 3 * (6 - o) ≤ D) (fr : ly_fr cst [19971, 19972, 19973, 19974, 19975, 19976, 19990, 19991, 20010, 20011, 20012, 20014, 20015, 20016, 25344, 25600, 25856, 26112, 26368, 26624, 26880, 60020, 60050, 60060, 60061, 60071] h0 h) (g : gl true cst h0 h) (cxe : ∀ (c : lv) (w : List lv) (u : Bool) (L : List Int), c.2.2 = false → cx kd vl t true a c w u m L = cx kd vl t true (a + j) (c.1, c.2.1, qv_p j) w u m L) (I : yI cst h f n t kd pl vl en (a + j) o m T S (p + (j : Int))) (p0 : 0 ≤ p) (nn : ak kd vl t (a + j) ≠ 20) (ha : a + j ≤ t) (l0 : hp_a l 0 94) (l1 : hp_i l 1 (j : Int)) : hp_F cst strs (yR cst h0 pl t n (yo_b kd vl t a o m) (yo_k cst f n t kd pl vl en a o m T S p)) D M 2 l [] h := by
  obtain ⟨hy, R, X, Y, k14, k15, ⟨p1, p2, p3⟩, m20, o6, -⟩ := I
  have c := cc D
  have TT := R.1.1
  have n1 := R.1.2.2.1
  have ea := tkT_end TT (a + j) ha
  have ks := rs_so R.2.1
  have kk := R.2.2.1
  have kp := R.2.2.2
  have pb := pa_b R.1.1 R.1.2.1 (a + j)
  have b0 := (rk_b kd t (a + j) kb).1
  have b8 := (rk_b kd t (a + j) kb).2.1
  have ab := ak_b kd vl t (a + j)
  have jb : (j : Int) ≤ 1200 := by omega
  by_cases q5 : fk kd t (a + j) = 40
  · rw [(rk_i5 kb (a + j)).mpr q5] at ks
    by_cases q6 : o = 6
    · rw [q6] at k15
      exact yxA c hM (by omega) hy (j : Int) (pa pl t n (a + j)) (by omega) jb pb.1 (by omega) ks kp k15 l0 l1 (fun h2 w hw u1 u2 u3 k1 k2 => yR_f hw u1 (ly_fr_tr fr (hp_sub2 rfl u2)) (gf_tr g (gl_fr u2 rfl)) (fun c w u L hc hw => by
        rw [cxe c w u L hc]
        exact cx_opf q5 (by omega)) k1 k2)
    have lt : a + j < t := fk_in (kd := kd) (by rw [q5]; decide)
    have e1 := tkT_1 TT lt
    refine yxB c hM (by omega) hy (j : Int) (o : Int) (by omega) jb (by omega) (by omega) ks k15 l0 l1 (fun l2 h2 u1 u2 u3 kO m0 m1 => ?_)
    refine scz311_63 cc hM (by omega) u1 (rq_mv R hy u1 u2 rfl) (by decide) (fun h3 v1 v2 v3 v4 => ?_)
    refine yxF c hM (by omega) v1 (j : Int) (by omega) jb m0 m1 (fun l4 h4 w1 w2 w3 o0 o1 => ?_)
    have F4 : ly_fr cst [19971, 19972, 19973, 19974, 19975, 19976, 20015] h h4 := ly_fr_tr (hp_sub2 rfl u2) (ly_fr_tr (hp_sub2 rfl v2) (hp_sub2 rfl w2))
    have g4 : gl true cst h h4 := gl_tr (gl_fr u2 rfl) (gl_tr v3 (gl_fr w2 rfl))
    obtain ⟨E, rfl⟩ : ∃ E, D = E + 1 := ⟨D - 1, by omega⟩
    obtain ⟨r, hrun, w, r1, r2, r3, rhy, rfr, rg, rr⟩ := HC (a + j + 1) (by omega) (by omega) E (o + 1) m h4 T S (p + (j : Int)) (by omega) ⟨w1, rq_mv v4 v1 w1 w2 rfl, qt_D_mv X F4 rfl, qt_S_mv Y F4 rfl rfl, F4 _ _ _ rfl k14, w2 _ _ _ rfl (v2 _ _ _ rfl kO), ⟨by omega, by omega, by omega⟩, m20, by omega, by omega⟩
    refine hp_call (mi := 311) (pc := 67) (tg := 309) (na := 1) (c := 78) (ci := 12) (st0 := [.ref 94]) (st := []) (av := []) hM (by decide +kernel) w1 rfl rfl rfl (by decide) hrun r2 r3 ?_
    rw [r1]
    have frr : ly_fr cst [19971, 19972, 19973, 19974, 19975, 19976, 19990, 19991, 20010, 20011, 20012, 20014, 20015, 20016, 25344, 25600, 25856, 26112, 26368, 26624, 26880, 60020, 60050, 60060, 60061, 60071] h0 r.2.1 := ly_fr_tr fr (ly_fr_tr (hp_sub2 rfl F4) rfr)
    have gr : gl false cst h0 r.2.1 := gf_tr g (gf_tr g4 rg)
    rcases rr with ⟨w0, k, b, kbd, z1, z2⟩ | ⟨w0, gt, b, m', V, S2, x, y, cxc, sqc, abc, na, no, YS⟩
    · exact yxH0 c hM (by omega) rhy (j : Int) w w0 (by omega) jb o0 o1 (fun h5 v hv s1 s2 s3 => yR_f hv s1 (ly_fr_tr frr (hp_sub2 rfl s2)) (gf_tr gr (gl_fr s2 rfl)) (fun c w u L hc hw => by
        rw [cxe c w u L hc, cx_opn (w := w) q5 (by omega)]
        exact kbd _ _ _ (by rw [List.length_cons, hw])) (s2 _ _ _ rfl z1) (s2 _ _ _ rfl z2))
    have gr : gl true cst h0 r.2.1 := gl_tr g (gl_tr g4 gt)
    have YR := YS.1
    have bt := YS.2.2.2.2.2.2.1
    have ks2 := rs_so YR.2.1
    have kp2 := YR.2.2.2
    have pb2 := pa_b YR.1.1 YR.1.2.1 b
    have c0 := (rk_b kd t b kb).1
    have c8 := (rk_b kd t b kb).2.1
    by_cases q41 : fk kd t b = 41
    rotate_left
    · have bad : yo_b kd vl t a o m 1 b := fun c w u L hc hw => by
        rw [cxe c w u L hc, cx_opn (w := w) q5 (by omega), cxc ((c.1, c.2.1, qv_p j) :: w) u L (by rw [List.length_cons, hw])]
        exact cx_bad bt (fun z => absurd z q41) no na (fun z => by cases z.2.1) (fun z => by cases z.2)
      have n6 : rk kd t b ≠ 6 := fun z => q41 ((rk_i6 kb b).mp z)
      by_cases z : rk kd t b ≤ 5
      · exact yxI0 c hM (by omega) rhy (j : Int) (pa pl t n b) (rk kd t b) w w0 (by omega) jb pb2.1 (by omega) c0 z ks2 kp2 o0 o1 (fun h5 v hv s1 s2 s3 k1 k2 => yR_f hv s1 (ly_fr_tr frr (hp_sub2 rfl s2)) (gf_tr gr (gl_fr s2 rfl)) bad k1 k2)
      · exact yxI1 c hM (by omega) rhy (j : Int) (pa pl t n b) (rk kd t b) w w0 (by omega) jb pb2.1 (by omega) (by omega) c8 ks2 kp2 o0 o1 (fun h5 v hv s1 s2 s3 k1 k2 => yR_f hv s1 (ly_fr_tr frr (hp_sub2 rfl s2)) (gf_tr gr (gl_fr s2 rfl)) bad k1 k2)
    have lb : b < t := fk_in (kd := kd) (by rw [q41]; decide)
    have e2 := tkT_1 TT lb
    rw [(rk_i6 kb b).mpr q41] at ks2
    refine yxJ c hM (by omega) rhy (j : Int) (o : Int) w w0 (by omega) jb (by omega) (by omega) ks2 YS.2.2.2.2.1 o0 o1 (fun l5 h5 s1 s2 s3 kO' i0 i1 => ?_)
    refine scz311_101 cc hM (by omega) s1 (rq_mv YR rhy s1 s2 rfl) (by decide) (fun h6 d1 d2 d3 d4 => ?_)
    refine yxK c hM (by omega) d1 (j : Int) (by omega) jb i0 i1 (fun l7 h7 t1 t2 t3 x0 x1 => ?_)
    have F7 : ly_fr cst [19971, 19972, 19973, 19974, 19975, 19976, 20015] r.2.1 h7 := ly_fr_tr (hp_sub2 rfl s2) (ly_fr_tr (hp_sub2 rfl d2) (hp_sub2 rfl t2))
    obtain ⟨YR', YX, YY, y14, y15, ⟨z1, z2, z3⟩, -, m20'⟩ := YS
    have et : T ++ qv_t (V ++ qv_an x ++ qv_or y) = T ++ qv_t V := by rw [qv_ta, qv_ta, qv_t_an, qv_t_or, List.append_nil, List.append_nil]
    refine yx_tl (b := b + 1) (m' := m') (V := V ++ qv_an x ++ qv_or y) (S2 := S2) (j := j) cc hM (by omega) t1 (ly_fr_tr frr (hp_sub2 rfl F7)) (gl_tr gr (gl_tr (gl_fr s2 rfl) (gl_tr d3 (gl_fr t2 rfl)))) (fun c w u L hc hw => ?_) sqc (by omega) ?_ p0 x0 x1
    · rw [cxe c w u L hc, cx_opn (w := w) q5 (by omega), cxc ((c.1, c.2.1, qv_p j) :: w) u L (by rw [List.length_cons, hw]), cx_sh q41, qv_ea, qv_ea, qv_e_an, qv_e_or]
      show cx kd vl t false (b + 1) (c.1, c.2.1, false) w u m' (L ++ qv_e V ++ (an x ++ (bif y then [-20007] else [])) ++ nt (qv_p j)) = _
      simp only [List.append_assoc]
    · rw [et]
      exact ⟨rq_mv d4 d1 t1 t2 rfl, qt_D_mv YX F7 rfl, qt_S_mv YY F7 rfl rfl, F7 _ _ _ rfl y14, t2 _ _ _ rfl (d2 _ _ _ rfl kO'), ⟨by omega, by omega, by omega⟩, lb, m20'⟩
  -- a test
  have on108 : ∀ (l2 : am_L) (h2 : am_H), ly_hy m_tt ly_TH h2 → ly_fr cst [] h h2 → hp_a l2 0 94 → hp_i l2 1 (j : Int) → hp_F cst strs (yR cst h0 pl t n (yo_b kd vl t a o m) (yo_k cst f n t kd pl vl en a o m T S p)) D M 108 l2 [.ref 94] h2 := by
    intro l2 h2 u1 u2 m0 m1
    obtain ⟨E, rfl⟩ : ∃ E, D = E + 1 + 1 + 1 + 1 := ⟨D - 4, by omega⟩
    obtain ⟨r, hrun, w, r1, r2, r3, rhy, rfr, rg, rF, rS⟩ := yv_run (D := E) (m := m) cc (by omega) u1 kb vb (rq_mv R hy u1 u2 rfl) ha (qt_D_mv X u2 rfl) (qt_S_mv Y u2 rfl rfl) m20 (u2 _ _ _ rfl k14) (by omega) (by omega) (by omega)
    refine hp_call (mi := 311) (pc := 108) (tg := 312) (na := 1) (c := 78) (ci := 12) (st0 := [.ref 94]) (st := []) (av := []) hM (by decide +kernel) u1 rfl rfl rfl (by decide) hrun r2 r3 ?_
    rw [r1]
    have frr : ly_fr cst [19971, 19972, 19973, 19974, 19975, 19976, 19990, 19991, 20010, 20011, 20012, 20014, 20015, 20016, 25344, 25600, 25856, 26112, 26368, 26624, 26880, 60020, 60050, 60060, 60061, 60071] h0 r.2.1 := ly_fr_tr fr (ly_fr_tr (hp_sub2 rfl u2) (hp_sub2 rfl rfr))
    have gr : gl false cst h0 r.2.1 := gf_tr g (gf_tr (gl_fr (g := true) u2 rfl) rg)
    cases e : ts kd vl t (a + j) m with
    | inl q =>
      obtain ⟨k, b⟩ := q
      obtain ⟨w0, z1, z2⟩ := rF k b e
      exact yxE0 c hM (by omega) rhy (j : Int) w w0 (by omega) jb m0 m1 (fun h5 v hv s1 s2 s3 => yR_f hv s1 (ly_fr_tr frr (hp_sub2 rfl s2)) (gf_tr gr (gl_fr s2 rfl)) (fun c w u L hc hw => by
        rw [cxe c w u L hc]
        exact cx_tf nn q5 ha e) (s2 _ _ _ rfl z1) (s2 _ _ _ rfl z2))
    | inr q =>
      obtain ⟨b, E1⟩ := q
      obtain ⟨w0, gt, x, ⟨ex, wx⟩, zR, zD, zS, z14, zab, zbt, zp⟩ := rS _ e
      have gr : gl true cst h0 r.2.1 := gl_tr g (gl_tr (gl_fr u2 rfl) gt)
      have ok := ts_ok m20 e
      have ex : E1 = qt_e x := ex
      have zp : 2 * ((qt_g (T ++ [x])).length : Int) ≤ en b + 1 := zp
      have zab : a + j < b := zab
      have mo : en (a + j) + ((b - (a + j) : Nat) : Int) ≤ en (a + j + (b - (a + j))) := tkT_mono TT (b - (a + j)) (a + j) (by omega)
      rw [show a + j + (b - (a + j)) = b by omega] at mo
      refine yxE c hM (by omega) rhy (j : Int) w w0 (by omega) jb m0 m1 (fun l4 h4 s1 s2 s3 i0 i1 => ?_)
      refine yx_tl (b := b) (m' := m + 1) (V := [.inl x]) (S2 := [(m : Int)]) (j := j) cc hM (by omega) s1 (ly_fr_tr frr (hp_sub2 rfl s2)) (gl_tr gr (gl_fr s2 rfl)) (fun c w u L hc hw => ?_) (qv_q1 x m wx) (by omega) ⟨rq_mv zR rhy s1 s2 rfl, qt_D_mv zD s2 rfl, qt_S_mv zS s2 rfl rfl, s2 _ _ _ rfl z14, s2 _ _ _ rfl (rfr _ _ _ rfl (u2 _ _ _ rfl k15)), ⟨?_, ?_, zp⟩, zbt, by omega⟩ p0 i0 i1
      · rw [cxe c w u L hc, cx_ts m20 e, qv_e1, ex]
        show cx kd vl t false b (c.1, c.2.1, false) w u (m + 1) (L ++ qt_e x ++ [-20004] ++ nt (qv_p j)) = _
        rw [List.append_assoc L]
      · show 3 * ((T ++ [x]).length : Int) ≤ en b
        rw [List.length_append, List.length_singleton]
        omega
      · rw [List.length_append, List.length_singleton]
        omega
  by_cases q1 : fk kd t (a + j) = 1
  · rw [(rk_i1 kb (a + j)).mpr q1] at ks
    by_cases z : ak kd vl t (a + j) ≤ 19
    · exact yxD0 c hM (by omega) hy (j : Int) (ak kd vl t (a + j)) (by omega) jb ab.1 z ks kk l0 l1 (fun l2 h2 u1 u2 u3 m0 m1 => on108 l2 h2 u1 u2 m0 m1)
    · exact yxD1 c hM (by omega) hy (j : Int) (ak kd vl t (a + j)) (by omega) jb (by omega) ab.2 ks kk l0 l1 (fun l2 h2 u1 u2 u3 m0 m1 => on108 l2 h2 u1 u2 m0 m1)
  have n1' : rk kd t (a + j) ≠ 1 := fun z => q1 ((rk_i1 kb (a + j)).mp z)
  have n5' : rk kd t (a + j) ≠ 5 := fun z => q5 ((rk_i5 kb (a + j)).mp z)
  by_cases z : rk kd t (a + j) ≤ 0
  · exact yxC0 c hM (by omega) hy (j : Int) (rk kd t (a + j)) (by omega) jb b0 z ks l0 l1 (fun l2 h2 u1 u2 u3 m0 m1 => on108 l2 h2 u1 u2 m0 m1)
  by_cases z4 : rk kd t (a + j) ≤ 4
  · exact yxC1 c hM (by omega) hy (j : Int) (rk kd t (a + j)) (by omega) jb (by omega) z4 ks l0 l1 (fun l2 h2 u1 u2 u3 m0 m1 => on108 l2 h2 u1 u2 m0 m1)
  · exact yxC2 c hM (by omega) hy (j : Int) (rk kd t (a + j)) (by omega) jb (by omega) b8 ks l0 l1 (fun l2 h2 u1 u2 u3 m0 m1 => on108 l2 h2 u1 u2 m0 m1)
set_option maxRecDepth 8000 in
/-- the NOTs that begin a ONE -/
theorem yx_lp {cst : am_K} {strs : List Nat} {D : Nat} {M : am_M} {h0 : am_H} (cc : ∀ d, hp_C cst strs d) (hM : m_P[311]? = some M) {f : Int → Int} {n : Int} {t : Nat} {kd pl vl : Int → Int} {en : Nat → Int} (kb : kB kd t) (vb : vB kd vl t) {a o m : Nat} {T : List qt_T} {S : List Int} {p : Int} (HC : ∀ a', a < a' → yC cst strs f n t kd pl vl en a') (hD : 11 + 3 * (6 - o) ≤ D) (p0 : 0 ≤ p) : ∀ (F j : Nat) (h : am_H) (l : am_L), t + 1 ≤ F + (a + j) → a + j ≤ t → ly_fr cst [19971, 19972, 19973, 19974, 19975, 19976, 19990, 19991, 20010, 20011, 20012, 20014, 20015, 20016, 25344, 25600, 25856, 26112, 26368, 26624, 26880, 60020, 60050, 60060, 60061, 60071] h0 h → gl true cst h0 h → (∀ (c : lv) (w : List lv) (u : Bool) (L : List Int), c.2.2 = false → cx kd vl t true a c w u m L = cx kd vl t true (a + j) (c.1, c.2.1, qv_p j) w u m L) → yI cst h f n t kd pl vl en (a + j) o m T S (p + (j : Int)) → hp_a l 0 94 → hp_i l 1 (j : Int) → hp_F cst strs (yR cst h0 pl t n (yo_b kd vl t a o m) (yo_k cst f n t kd pl vl en a o m T S p)) D M 2 l [] h
  | 0, j, h, l, hF, ha, fr, g, cxe, I, l0, l1 => by omega
  | F + 1, j, h, l, hF, ha, fr, g, cxe, I, l0, l1 => by
    by_cases nn : ak kd vl t (a + j) = 20
    rotate_left
    · exact yx_m cc hM kb vb HC hD fr g cxe I p0 nn ha l0 l1
    obtain ⟨hy, R, X, Y, k14, k15, ⟨p1, p2, p3⟩, m20, o6, pj⟩ := I
    have TT := R.1.1
    have n1 := R.1.2.2.1
    have ea := tkT_end TT (a + j) ha
    obtain ⟨q1, qw⟩ := ak_w nn (by decide)
    have lt : a + j < t := fk_in (kd := kd) (by rw [q1]; decide)
    have ks := rs_so R.2.1
    rw [(rk_i1 kb (a + j)).mpr q1] at ks
    have kk := R.2.2.1
    rw [nn] at kk
    have e3 := (tkT_l2 TT q1).2 (by have := kw_20 qw; omega)
    refine yxN (cc _) hM (by omega) hy (j : Int) (by omega) (by omega) ks kk l0 l1 (fun l2 h2 u1 u2 u3 m0 m1 => ?_)
    refine scz311_23 cc hM (by omega) u1 (rq_mv R hy u1 u2 rfl) (by decide) (fun h3 v1 v2 v3 v4 => ?_)
    refine yxG (cc _) hM (by omega) v1 ((j : Int) + 1) (by omega) (by omega) m0 m1 (fun l4 h4 w1 w2 w3 o0 o1 => ?_)
    have F4 : ly_fr cst [19971, 19972, 19973, 19974, 19975, 19976] h h4 := ly_fr_tr (hp_sub2 rfl u2) (ly_fr_tr v2 (hp_sub2 rfl w2))
    exact yx_lp cc hM kb vb HC hD p0 F (j + 1) h4 l4 (by omega) (by omega) (ly_fr_tr fr (hp_sub2 rfl F4)) (gl_tr g (gl_fr F4 rfl)) (fun c w u L hc => (cxe c w u L hc).trans (cx_not nn)) ⟨w1, rq_mv v4 v1 w1 w2 rfl, qt_D_mv X F4 rfl, qt_S_mv Y F4 rfl rfl, F4 _ _ _ rfl k14, F4 _ _ _ rfl k15, ⟨by show 3 * (T.length : Int) + 2 ≤ en (a + j + 1); omega, by show 3 * ((S.length : Int) + (p + ((j + 1 : Nat) : Int))) + 1 ≤ 2 * en (a + j + 1); omega, by show 2 * ((qt_g T).length : Int) ≤ en (a + j + 1); omega⟩, m20, o6, by omega⟩ o0 o1
/-- readOne of the reference -/
theorem yx_run {cst : am_K} {strs : List Nat} (cc : ∀ d, hp_C cst strs d) {f : Int → Int} {n : Int} {t : Nat} {kd pl vl : Int → Int} {en : Nat → Int} (kb : kB kd t) (vb : vB kd vl t) {a : Nat} (HC : ∀ a', a < a' → yC cst strs f n t kd pl vl en a') : yO cst strs f n t kd pl vl en a := by
  intro ha D o m h T S p hD I
  obtain ⟨M, hM, hl⟩ := hp_M (mi := 311) (k := 1) (by decide +kernel)
  obtain ⟨hy, R, X, Y, k14, k15, ⟨p1, p2, p3⟩, m20, o6, p0⟩ := I
  obtain ⟨n', r, hgo, w, r1, r2, r3, r4⟩ := yx0 (Φ := yR cst h pl t n (yo_b kd vl t a o m) (yo_k cst f n t kd pl vl en a o m T S p)) (l := lv_args 0 [.ref 94]) (cc D) hM (by omega) hy rfl (fun l2 h2 u1 u2 u3 m0 m1 => yx_lp cc hM kb vb HC hD p0 (t + 1) 0 h2 l2 (by omega) ha (hp_sub2 rfl u2) (gl_fr u2 rfl) (fun c w u L hc => by
    obtain ⟨c1, c2, c3⟩ := c
    have e3 : c3 = false := hc
    subst e3
    rfl) ⟨u1, rq_mv R hy u1 u2 rfl, qt_D_mv X u2 rfl, qt_S_mv Y u2 rfl rfl, u2 _ _ _ rfl k14, u2 _ _ _ rfl k15, ⟨p1, by show 3 * ((S.length : Int) + (p + ((0 : Nat) : Int))) + 1 ≤ 2 * en a; omega, p3⟩, m20, o6, by omega⟩ m0 m1)
  simp only [Nat.zero_add] at r2 r3
  exact ⟨r, Or.inr ⟨M, n', hM, hl, hgo⟩, w, r1, r2, r3, r4⟩
set_option maxRecDepth 8000 in
/-- readAll of the reference, behind its first ONE -/
theorem yy_lp {cst : am_K} {strs : List Nat} {D : Nat} {M : am_M} {h0 : am_H} (cc : ∀ d, hp_C cst strs d) (hM : m_P[310]? = some M) {f : Int → Int} {n : Int} {t : Nat} {kd pl vl : Int → Int} {en : Nat → Int} (kb : kB kd t) {a o m : Nat} {T : List qt_T} {S : List Int} {p : Int} (HO : ∀ a', a < a' → yO cst strs f n t kd pl vl en a') (hD : 12 + 3 * (6 - o) ≤ D) (o6 : o ≤ 6) (p0 : 0 ≤ p) : ∀ (F : Nat) (h : am_H) (l : am_L) (b m' : Nat) (V : List (qt_T ⊕ Int)) (S2 : List Int) (x : Bool), t + 1 ≤ F + b → ly_hy m_tt ly_TH h → ly_fr cst [19971, 19972, 19973, 19974, 19975, 19976, 19990, 19991, 20010, 20011, 20012, 20014, 20015, 20016, 25344, 25600, 25856, 26112, 26368, 26624, 26880, 60020, 60050, 60060, 60061, 60071] h0 h → gl true cst h0 h → (∀ (y : Bool) (w : List lv) (u : Bool) (L : List Int), w.length = o → cx kd vl t true a (y, false, false) w u m L = cx kd vl t false b (y, x, false) w u m' (L ++ qv_e V)) → qv_q (V ++ qv_an x) S2 m m' → a < b → yS cst h f n t kd pl vl en b o m' (T ++ qv_t V) (S ++ S2) p → hp_a l 0 94 → hp_F cst strs (yR cst h0 pl t n (ya_b kd vl t a o m) (ya_k cst f n t kd pl vl en a o m T S p)) D M 9 l [] h
  | 0, h, l, b, m', V, S2, x, hF, hy, fr, g, cxe, sq, ab, Y, l0 => by
    have bt := Y.2.2.2.2.2.2.1
    omega
  | F + 1, h, l, b, m', V, S2, x, hF, hy, fr, g, cxe, sq, ab, Y, l0 => by
    have R := Y.1
    have bt := Y.2.2.2.2.2.2.1
    have TT := R.1.1
    have n1 := R.1.2.2.1
    have eb := tkT_end TT b bt
    have ks := rs_so R.2.1
    have kk := R.2.2.1
    have b0 := (rk_b kd t b kb).1
    have b8 := (rk_b kd t b kb).2.1
    have kb' := ak_b kd vl t b
    by_cases nn : ak kd vl t b = 19
    rotate_left
    · have fin : ∀ (h2 : am_H) (w : Int32), w.toInt = 1 → ly_hy m_tt ly_TH h2 → ly_fr cst [] h h2 → yR cst h0 pl t n (ya_b kd vl t a o m) (ya_k cst f n t kd pl vl en a o m T S p) (some (.int w), h2, 0, 0) := fun h2 w hw u1 u2 => yR_s hw u1 (ly_fr_tr fr (hp_sub2 rfl u2)) (gl_tr g (gl_fr u2 rfl)) ⟨b, m', V, S2, x, cxe, sq, ab, nn, yS_mv Y hy u1 u2 rfl rfl rfl rfl rfl rfl⟩
      by_cases q1 : fk kd t b = 1
      · rw [(rk_i1 kb b).mpr q1] at ks
        by_cases z : ak kd vl t b ≤ 18
        · exact yyD0 (cc _) hM (by omega) hy (ak kd vl t b) kb'.1 z ks kk l0 (fun h2 w hw u1 u2 u3 => fin h2 w hw u1 u2)
        · exact yyD1 (cc _) hM (by omega) hy (ak kd vl t b) (by omega) kb'.2 ks kk l0 (fun h2 w hw u1 u2 u3 => fin h2 w hw u1 u2)
      have n1' : rk kd t b ≠ 1 := fun z => q1 ((rk_i1 kb b).mp z)
      by_cases z : rk kd t b ≤ 0
      · exact yyC0 (cc _) hM (by omega) hy (rk kd t b) b0 z ks l0 (fun h2 w hw u1 u2 u3 => fin h2 w hw u1 u2)
      · exact yyC1 (cc _) hM (by omega) hy (rk kd t b) (by omega) b8 ks l0 (fun h2 w hw u1 u2 u3 => fin h2 w hw u1 u2)
    obtain ⟨q1, qw⟩ := ak_w nn (by decide)
    have lt : b < t := fk_in (kd := kd) (by rw [q1]; decide)
    rw [(rk_i1 kb b).mpr q1] at ks
    rw [nn] at kk
    have e3 := (tkT_l2 TT q1).2 (by have := kw_19 qw; omega)
    obtain ⟨-, X, Y1, k14, k15, ⟨q11, q12, q13⟩, -, m20⟩ := Y
    refine yyE (cc _) hM (by omega) hy ks kk l0 (fun l2 h2 u1 u2 u3 m0 => ?_)
    refine scz310_27 cc hM (by omega) u1 (rq_mv R hy u1 u2 rfl) (by decide) (fun h3 v1 v2 v3 v4 => ?_)
    refine yyF (cc _) hM (by omega) v1 m0 (fun l4 h4 w1 w2 w3 o0 => ?_)
    have F4 : ly_fr cst [19971, 19972, 19973, 19974, 19975, 19976] h h4 := ly_fr_tr (hp_sub2 rfl u2) (ly_fr_tr v2 (hp_sub2 rfl w2))
    obtain ⟨E, rfl⟩ : ∃ E, D = E + 1 := ⟨D - 1, by omega⟩
    obtain ⟨r, hrun, w, r1, r2, r3, rhy, rfr, rg, rr⟩ := HO (b + 1) (by omega) (by omega) E o m' h4 (T ++ qv_t V) (S ++ S2) (p + 1) (by omega) ⟨w1, rq_mv v4 v1 w1 w2 rfl, qt_D_mv X F4 rfl, qt_S_mv Y1 F4 rfl rfl, F4 _ _ _ rfl k14, F4 _ _ _ rfl k15, ⟨by omega, by omega, by omega⟩, m20, o6, by omega⟩
    refine hp_call (mi := 310) (pc := 31) (tg := 311) (na := 1) (c := 78) (ci := 12) (st0 := [.ref 94]) (st := []) (av := []) hM (by decide +kernel) w1 rfl rfl rfl (by decide) hrun r2 r3 ?_
    rw [r1]
    have frr : ly_fr cst [19971, 19972, 19973, 19974, 19975, 19976, 19990, 19991, 20010, 20011, 20012, 20014, 20015, 20016, 25344, 25600, 25856, 26112, 26368, 26624, 26880, 60020, 60050, 60060, 60061, 60071] h0 r.2.1 := ly_fr_tr fr (ly_fr_tr (hp_sub2 rfl F4) rfr)
    have gr : gl false cst h0 r.2.1 := gf_tr g (gf_tr (gl_fr (g := true) F4 rfl) rg)
    rcases rr with ⟨w0, k, b2, kbd, z1, z2⟩ | ⟨w0, gt, b2, m2, V2, S3, cxo, sqo, abo, YS⟩
    · exact yyG (cc _) hM (by omega) rhy w w0 o0 (fun h5 v hv s1 s2 s3 => yR_f hv s1 (ly_fr_tr frr (hp_sub2 rfl s2)) (gf_tr gr (gl_fr s2 rfl)) (fun y w u L hw => by
        rw [cxe y w u L hw, cx_and nn]
        exact kbd _ _ _ _ rfl hw) (s2 _ _ _ rfl z1) (s2 _ _ _ rfl z2))
    have gr : gl true cst h0 r.2.1 := gl_tr g (gl_tr (gl_fr F4 rfl) gt)
    obtain ⟨YR, YX, YY, y14, y15, ⟨z1, z2, z3⟩, bt2, m20'⟩ := YS
    have eb2 := tkT_end TT b2 bt2
    refine yyH (cc _) hM (by omega) rhy w w0 o0 (fun l5 h5 y0 f0 s1 s2 s3 i0 => ?_)
    refine ypz310_41 cc hM (by omega) s1 (qt_S_mv YY s2 rfl rfl) (by omega) f0 (by decide) (by decide) (by decide) (fun h6 d1 d2 d3 d4 => ?_)
    refine yyI (cc _) hM (by omega) d1 i0 (fun l7 h7 t1 t2 t3 x0 => ?_)
    have F7 : ly_fr cst [20012, 26880, 60020, 60050, 60060, 60061, 60071] r.2.1 h7 := ly_fr_tr (hp_sub2 rfl s2) (ly_fr_tr d2 (hp_sub2 rfl t2))
    have et : T ++ qv_t (V ++ qv_an x ++ V2) = T ++ qv_t V ++ qv_t V2 := by rw [qv_ta, qv_ta, qv_t_an, List.append_nil, List.append_assoc]
    have es : S ++ (S2 ++ S3 ++ [-1]) = S ++ S2 ++ S3 ++ [-1] := by simp only [List.append_assoc]
    refine yy_lp cc hM kb HO hD o6 p0 F h7 l7 b2 m2 (V ++ qv_an x ++ V2) (S2 ++ S3 ++ [-1]) true (by omega) t1 (ly_fr_tr frr (hp_sub2 rfl F7)) (gl_tr gr (gl_tr (gl_fr s2 rfl) (gl_tr d3 (gl_fr t2 rfl)))) (fun y w u L hw => ?_) (qv_qa sq sqo) (by omega) ?_ x0
    · rw [cxe y w u L hw, cx_and nn, cxo (y, true, false) w u _ rfl hw, qv_ea, qv_ea, qv_e_an]
      show cx kd vl t false b2 (y, true, false) w u m2 (L ++ qv_e V ++ an x ++ qv_e V2) = _
      simp only [List.append_assoc]
    · rw [et, es]
      exact ⟨rq_mv YR rhy t1 F7 rfl, qt_D_mv YX F7 rfl, qt_S_mv d4 t2 rfl rfl, F7 _ _ _ rfl y14, F7 _ _ _ rfl y15, ⟨z1, by rw [List.length_append, List.length_singleton]; omega, z3⟩, bt2, m20'⟩
/-- readAll of the reference -/
theorem yy_run {cst : am_K} {strs : List Nat} (cc : ∀ d, hp_C cst strs d) {f : Int → Int} {n : Int} {t : Nat} {kd pl vl : Int → Int} {en : Nat → Int} (kb : kB kd t) {a : Nat} (HO : ∀ a', a ≤ a' → yO cst strs f n t kd pl vl en a') : yA cst strs f n t kd pl vl en a := by
  intro ha D o m h T S p hD I
  obtain ⟨M, hM, hl⟩ := hp_M (mi := 310) (k := 1) (by decide +kernel)
  have go : hp_F cst strs (yR cst h pl t n (ya_b kd vl t a o m) (ya_k cst f n t kd pl vl en a o m T S p)) D M 0 (lv_args 0 [.ref 94]) [] h := by
    obtain ⟨hy, R, X, Y, k14, k15, qp, m20, o6, p0⟩ := I
    refine yy0 (cc _) hM (by omega) hy rfl (fun l2 h2 u1 u2 u3 m0 => ?_)
    obtain ⟨E, rfl⟩ : ∃ E, D = E + 1 := ⟨D - 1, by omega⟩
    obtain ⟨r, hrun, w, r1, r2, r3, rhy, rfr, rg, rr⟩ := HO a (Nat.le_refl _) ha E o m h2 T S p (by omega) ⟨u1, rq_mv R hy u1 u2 rfl, qt_D_mv X u2 rfl, qt_S_mv Y u2 rfl rfl, u2 _ _ _ rfl k14, u2 _ _ _ rfl k15, qp, m20, o6, p0⟩
    refine hp_call (mi := 310) (pc := 1) (tg := 311) (na := 1) (c := 78) (ci := 12) (st0 := [.ref 94]) (st := []) (av := []) hM (by decide +kernel) u1 rfl rfl rfl (by decide) hrun r2 r3 ?_
    rw [r1]
    have frr : ly_fr cst [19971, 19972, 19973, 19974, 19975, 19976, 19990, 19991, 20010, 20011, 20012, 20014, 20015, 20016, 25344, 25600, 25856, 26112, 26368, 26624, 26880, 60020, 60050, 60060, 60061, 60071] h r.2.1 := ly_fr_tr (hp_sub2 rfl u2) rfr
    have gr : gl false cst h r.2.1 := gf_tr (gl_fr (g := true) u2 rfl) rg
    rcases rr with ⟨w0, k, b, kbd, z1, z2⟩ | ⟨w0, gt, b, m', V, S2, cxo, sqo, abo, YS⟩
    · exact yyA (cc _) hM (by omega) rhy w w0 m0 (fun h5 v hv s1 s2 s3 => yR_f hv s1 (ly_fr_tr frr (hp_sub2 rfl s2)) (gf_tr gr (gl_fr s2 rfl)) (fun y w u L hw => kbd _ _ _ _ rfl hw) (s2 _ _ _ rfl z1) (s2 _ _ _ rfl z2))
    · have gr : gl true cst h r.2.1 := gl_tr (gl_fr u2 rfl) gt
      refine yyB (cc _) hM (by omega) rhy w w0 m0 (fun l5 h5 s1 s2 s3 i0 => ?_)
      exact yy_lp cc hM kb (fun a' z => HO a' (by omega)) hD o6 p0 (t + 1) h5 l5 b m' V S2 false (by omega) s1 (ly_fr_tr frr (hp_sub2 rfl s2)) (gl_tr gr (gl_fr s2 rfl)) (fun y w u L hw => cxo _ _ _ _ rfl hw) (by rw [show qv_an false = [] from rfl, List.append_nil]; exact sqo) abo (yS_mv YS rhy s1 s2 rfl rfl rfl rfl rfl rfl) i0
  obtain ⟨n', r, hgo, w, r1, r2, r3, r4⟩ := go
  simp only [Nat.zero_add] at r2 r3
  exact ⟨r, Or.inr ⟨M, n', hM, hl, hgo⟩, w, r1, r2, r3, r4⟩
set_option maxRecDepth 8000 in
/-- readCond of the reference, behind its first ALL -/
theorem yz_lp {cst : am_K} {strs : List Nat} {D : Nat} {M : am_M} {h0 : am_H} (cc : ∀ d, hp_C cst strs d) (hM : m_P[309]? = some M) {f : Int → Int} {n : Int} {t : Nat} {kd pl vl : Int → Int} {en : Nat → Int} (kb : kB kd t) {a o m : Nat} {T : List qt_T} {S : List Int} {p : Int} (HA : ∀ a', a < a' → yA cst strs f n t kd pl vl en a') (hD : 13 + 3 * (6 - o) ≤ D) (o6 : o ≤ 6) (p0 : 0 ≤ p) : ∀ (F : Nat) (h : am_H) (l : am_L) (b m' : Nat) (V : List (qt_T ⊕ Int)) (S2 : List Int) (x y : Bool), t + 1 ≤ F + b → ly_hy m_tt ly_TH h → ly_fr cst [19971, 19972, 19973, 19974, 19975, 19976, 19990, 19991, 20010, 20011, 20012, 20014, 20015, 20016, 25344, 25600, 25856, 26112, 26368, 26624, 26880, 60020, 60050, 60060, 60061, 60071] h0 h → gl true cst h0 h → (∀ (w : List lv) (u : Bool) (L : List Int), w.length = o → cx kd vl t true a (false, false, false) w u m L = cx kd vl t false b (y, x, false) w u m' (L ++ qv_e V)) → qv_q (V ++ qv_an x ++ qv_or y) S2 m m' → a < b → ak kd vl t b ≠ 19 → yS cst h f n t kd pl vl en b o m' (T ++ qv_t V) (S ++ S2) p → hp_a l 0 94 → hp_F cst strs (yR cst h0 pl t n (yc_b kd vl t a o m) (yc_k cst f n t kd pl vl en a o m T S p)) D M 9 l [] h
  | 0, h, l, b, m', V, S2, x, y, hF, hy, fr, g, cxe, sq, ab, na, Y, l0 => by
    have bt := Y.2.2.2.2.2.2.1
    omega
  | F + 1, h, l, b, m', V, S2, x, y, hF, hy, fr, g, cxe, sq, ab, na, Y, l0 => by
    have R := Y.1
    have bt := Y.2.2.2.2.2.2.1
    have TT := R.1.1
    have n1 := R.1.2.2.1
    have eb := tkT_end TT b bt
    have ks := rs_so R.2.1
    have kk := R.2.2.1
    have b0 := (rk_b kd t b kb).1
    have b8 := (rk_b kd t b kb).2.1
    have kb' := ak_b kd vl t b
    by_cases nn : ak kd vl t b = 18
    rotate_left
    · have fin : ∀ (h2 : am_H) (w : Int32), w.toInt = 1 → ly_hy m_tt ly_TH h2 → ly_fr cst [] h h2 → yR cst h0 pl t n (yc_b kd vl t a o m) (yc_k cst f n t kd pl vl en a o m T S p) (some (.int w), h2, 0, 0) := fun h2 w hw u1 u2 => yR_s hw u1 (ly_fr_tr fr (hp_sub2 rfl u2)) (gl_tr g (gl_fr u2 rfl)) ⟨b, m', V, S2, x, y, cxe, sq, ab, na, nn, yS_mv Y hy u1 u2 rfl rfl rfl rfl rfl rfl⟩
      by_cases q1 : fk kd t b = 1
      · rw [(rk_i1 kb b).mpr q1] at ks
        by_cases z : ak kd vl t b ≤ 17
        · exact yzD0 (cc _) hM (by omega) hy (ak kd vl t b) kb'.1 z ks kk l0 (fun h2 w hw u1 u2 u3 => fin h2 w hw u1 u2)
        · exact yzD1 (cc _) hM (by omega) hy (ak kd vl t b) (by omega) kb'.2 ks kk l0 (fun h2 w hw u1 u2 u3 => fin h2 w hw u1 u2)
      have n1' : rk kd t b ≠ 1 := fun z => q1 ((rk_i1 kb b).mp z)
      by_cases z : rk kd t b ≤ 0
      · exact yzC0 (cc _) hM (by omega) hy (rk kd t b) b0 z ks l0 (fun h2 w hw u1 u2 u3 => fin h2 w hw u1 u2)
      · exact yzC1 (cc _) hM (by omega) hy (rk kd t b) (by omega) b8 ks l0 (fun h2 w hw u1 u2 u3 => fin h2 w hw u1 u2)
    obtain ⟨q1, qw⟩ := ak_w nn (by decide)
    have lt : b < t := fk_in (kd := kd) (by rw [q1]; decide)
    rw [(rk_i1 kb b).mpr q1] at ks
    rw [nn] at kk
    have e3 := (tkT_l2 TT q1).1 (by have := kw_18 qw; omega)
    obtain ⟨-, X, Y1, k14, k15, ⟨q11, q12, q13⟩, -, m20⟩ := Y
    refine yzE (cc _) hM (by omega) hy ks kk l0 (fun l2 h2 u1 u2 u3 m0 => ?_)
    refine scz309_27 cc hM (by omega) u1 (rq_mv R hy u1 u2 rfl) (by decide) (fun h3 v1 v2 v3 v4 => ?_)
    refine yzF (cc _) hM (by omega) v1 m0 (fun l4 h4 w1 w2 w3 o0 => ?_)
    have F4 : ly_fr cst [19971, 19972, 19973, 19974, 19975, 19976] h h4 := ly_fr_tr (hp_sub2 rfl u2) (ly_fr_tr v2 (hp_sub2 rfl w2))
    obtain ⟨E, rfl⟩ : ∃ E, D = E + 1 := ⟨D - 1, by omega⟩
    obtain ⟨r, hrun, w, r1, r2, r3, rhy, rfr, rg, rr⟩ := HA (b + 1) (by omega) (by omega) E o m' h4 (T ++ qv_t V) (S ++ S2) (p + 1) (by omega) ⟨w1, rq_mv v4 v1 w1 w2 rfl, qt_D_mv X F4 rfl, qt_S_mv Y1 F4 rfl rfl, F4 _ _ _ rfl k14, F4 _ _ _ rfl k15, ⟨by omega, by omega, by omega⟩, m20, o6, by omega⟩
    refine hp_call (mi := 309) (pc := 31) (tg := 310) (na := 1) (c := 78) (ci := 12) (st0 := [.ref 94]) (st := []) (av := []) hM (by decide +kernel) w1 rfl rfl rfl (by decide) hrun r2 r3 ?_
    rw [r1]
    have frr : ly_fr cst [19971, 19972, 19973, 19974, 19975, 19976, 19990, 19991, 20010, 20011, 20012, 20014, 20015, 20016, 25344, 25600, 25856, 26112, 26368, 26624, 26880, 60020, 60050, 60060, 60061, 60071] h0 r.2.1 := ly_fr_tr fr (ly_fr_tr (hp_sub2 rfl F4) rfr)
    have gr : gl false cst h0 r.2.1 := gf_tr g (gf_tr (gl_fr (g := true) F4 rfl) rg)
    rcases rr with ⟨w0, k, b2, kbd, z1, z2⟩ | ⟨w0, gt, b2, m2, V2, S3, x2, cxo, sqo, abo, na2, YS⟩
    · exact yzG (cc _) hM (by omega) rhy w w0 o0 (fun h5 v hv s1 s2 s3 => yR_f hv s1 (ly_fr_tr frr (hp_sub2 rfl s2)) (gf_tr gr (gl_fr s2 rfl)) (fun w u L hw => by
        rw [cxe w u L hw, cx_or nn]
        exact kbd _ _ _ _ hw) (s2 _ _ _ rfl z1) (s2 _ _ _ rfl z2))
    have gr : gl true cst h0 r.2.1 := gl_tr g (gl_tr (gl_fr F4 rfl) gt)
    obtain ⟨YR, YX, YY, y14, y15, ⟨z1, z2, z3⟩, bt2, m20'⟩ := YS
    have eb2 := tkT_end TT b2 bt2
    refine yzH (cc _) hM (by omega) rhy w w0 o0 (fun l5 h5 y0 f0 s1 s2 s3 i0 => ?_)
    refine ypz309_42 cc hM (by omega) s1 (qt_S_mv YY s2 rfl rfl) (by omega) f0 (by decide) (by decide) (by decide) (fun h6 d1 d2 d3 d4 => ?_)
    refine yzI (cc _) hM (by omega) d1 i0 (fun l7 h7 t1 t2 t3 x0 => ?_)
    have F7 : ly_fr cst [20012, 26880, 60020, 60050, 60060, 60061, 60071] r.2.1 h7 := ly_fr_tr (hp_sub2 rfl s2) (ly_fr_tr d2 (hp_sub2 rfl t2))
    have et : T ++ qv_t (V ++ qv_an x ++ qv_or y ++ V2) = T ++ qv_t V ++ qv_t V2 := by rw [qv_ta, qv_ta, qv_ta, qv_t_an, qv_t_or, List.append_nil, List.append_nil, List.append_assoc]
    have es : S ++ (S2 ++ S3 ++ [-2]) = S ++ S2 ++ S3 ++ [-2] := by simp only [List.append_assoc]
    refine yz_lp cc hM kb HA hD o6 p0 F h7 l7 b2 m2 (V ++ qv_an x ++ qv_or y ++ V2) (S2 ++ S3 ++ [-2]) x2 true (by omega) t1 (ly_fr_tr frr (hp_sub2 rfl F7)) (gl_tr gr (gl_tr (gl_fr s2 rfl) (gl_tr d3 (gl_fr t2 rfl)))) (fun w u L hw => ?_) ?_ (by omega) na2 ?_ x0
    · rw [cxe w u L hw, cx_or nn, cxo true w u _ hw, qv_ea, qv_ea, qv_ea, qv_e_an, qv_e_or]
      show cx kd vl t false b2 (true, x2, false) w u m2 (L ++ qv_e V ++ (an x ++ (bif y then [-20007] else [])) ++ qv_e V2) = _
      simp only [List.append_assoc]
    · have z := qv_qo sq sqo
      rw [List.append_assoc (V ++ qv_an x ++ qv_or y) V2]
      exact z
    · rw [et, es]
      exact ⟨rq_mv YR rhy t1 F7 rfl, qt_D_mv YX F7 rfl, qt_S_mv d4 t2 rfl rfl, F7 _ _ _ rfl y14, F7 _ _ _ rfl y15, ⟨z1, by rw [List.length_append, List.length_singleton]; omega, z3⟩, bt2, m20'⟩
/-- readCond of the reference -/
theorem yz_run {cst : am_K} {strs : List Nat} (cc : ∀ d, hp_C cst strs d) {f : Int → Int} {n : Int} {t : Nat} {kd pl vl : Int → Int} {en : Nat → Int} (kb : kB kd t) {a : Nat} (HA : ∀ a', a ≤ a' → yA cst strs f n t kd pl vl en a') : yC cst strs f n t kd pl vl en a := by
  intro ha D o m h T S p hD I
  obtain ⟨M, hM, hl⟩ := hp_M (mi := 309) (k := 1) (by decide +kernel)
  have go : hp_F cst strs (yR cst h pl t n (yc_b kd vl t a o m) (yc_k cst f n t kd pl vl en a o m T S p)) D M 0 (lv_args 0 [.ref 94]) [] h := by
    obtain ⟨hy, R, X, Y, k14, k15, qp, m20, o6, p0⟩ := I
    refine yz0 (cc _) hM (by omega) hy rfl (fun l2 h2 u1 u2 u3 m0 => ?_)
    obtain ⟨E, rfl⟩ : ∃ E, D = E + 1 := ⟨D - 1, by omega⟩
    obtain ⟨r, hrun, w, r1, r2, r3, rhy, rfr, rg, rr⟩ := HA a (Nat.le_refl _) ha E o m h2 T S p (by omega) ⟨u1, rq_mv R hy u1 u2 rfl, qt_D_mv X u2 rfl, qt_S_mv Y u2 rfl rfl, u2 _ _ _ rfl k14, u2 _ _ _ rfl k15, qp, m20, o6, p0⟩
    refine hp_call (mi := 309) (pc := 1) (tg := 310) (na := 1) (c := 78) (ci := 12) (st0 := [.ref 94]) (st := []) (av := []) hM (by decide +kernel) u1 rfl rfl rfl (by decide) hrun r2 r3 ?_
    rw [r1]
    have frr : ly_fr cst [19971, 19972, 19973, 19974, 19975, 19976, 19990, 19991, 20010, 20011, 20012, 20014, 20015, 20016, 25344, 25600, 25856, 26112, 26368, 26624, 26880, 60020, 60050, 60060, 60061, 60071] h r.2.1 := ly_fr_tr (hp_sub2 rfl u2) rfr
    have gr : gl false cst h r.2.1 := gf_tr (gl_fr (g := true) u2 rfl) rg
    rcases rr with ⟨w0, k, b, kbd, z1, z2⟩ | ⟨w0, gt, b, m', V, S2, x, cxo, sqo, abo, na, YS⟩
    · exact yzA (cc _) hM (by omega) rhy w w0 m0 (fun h5 v hv s1 s2 s3 => yR_f hv s1 (ly_fr_tr frr (hp_sub2 rfl s2)) (gf_tr gr (gl_fr s2 rfl)) (fun w u L hw => kbd _ _ _ _ hw) (s2 _ _ _ rfl z1) (s2 _ _ _ rfl z2))
    · have gr : gl true cst h r.2.1 := gl_tr (gl_fr u2 rfl) gt
      refine yzB (cc _) hM (by omega) rhy w w0 m0 (fun l5 h5 s1 s2 s3 i0 => ?_)
      exact yz_lp cc hM kb (fun a' z => HA a' (by omega)) hD o6 p0 (t + 1) h5 l5 b m' V S2 x false (by omega) s1 (ly_fr_tr frr (hp_sub2 rfl s2)) (gl_tr gr (gl_fr s2 rfl)) (fun w u L hw => cxo _ _ _ _ hw) (by rw [show qv_or false = [] from rfl, List.append_nil]; exact sqo) abo na (yS_mv YS rhy s1 s2 rfl rfl rfl rfl rfl rfl) i0
  obtain ⟨n', r, hgo, w, r1, r2, r3, r4⟩ := go
  simp only [Nat.zero_add] at r2 r3
  exact ⟨r, Or.inr ⟨M, n', hM, hl, hgo⟩, w, r1, r2, r3, r4⟩
set_option maxRecDepth 8000 in
/-- readCond of the reference, at every token -/
theorem yC_all {cst : am_K} {strs : List Nat} (cc : ∀ d, hp_C cst strs d) {f : Int → Int} {n : Int} {t : Nat} {kd pl vl : Int → Int} {en : Nat → Int} (kb : kB kd t) (vb : vB kd vl t) : ∀ (Q a : Nat), t ≤ a + Q → yC cst strs f n t kd pl vl en a
  | 0, a, hQ => yz_run cc kb (fun a1 h1 => yy_run cc kb (fun a2 h2 => yx_run cc kb vb (fun a3 h3 h4 => by omega)))
  | Q + 1, a, hQ => yz_run cc kb (fun a1 h1 => yy_run cc kb (fun a2 h2 => yx_run cc kb vb (fun a3 h3 => yC_all cc kb vb Q a3 (by omega))))
