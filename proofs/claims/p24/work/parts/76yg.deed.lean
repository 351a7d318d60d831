/-! PRINTED by wip/p2/hp_deed.py: readOpenings, readClosings, closeDeed of the class, exactly -/
theorem op0_k : hp_chk 90 0 0 [] [] [(0, .inr (.inr (.inl (some 40))))] [] [] [] 2 [(2, ([], 0, [], [], [(0, .inr (.inr (.inl (some 40)))), (1, .inl (0, []))], [], []))] [] = true := by decide +kernel
theorem op0 {cst : am_K} {strs : List Nat} {Φ : am_Q → Prop} {D : Nat} {M : am_M} {h : am_H} {l : am_L} (c : hp_C cst strs D) (hM : m_P[90]? = some M) (hD : (2 : Int) ≤ (D : Int) + 1) (hy : ly_hy m_tt ly_TH h) (l0 : hp_a l 0 40) (e0 : ∀ (l' : am_L) (h' : am_H), ly_hy m_tt ly_TH h' → ly_fr cst [] h h' → h.length ≤ h'.length → hp_a l' 0 40 → hp_i l' 1 0 → hp_F cst strs Φ D M 2 l' [] h') : hp_F cst strs Φ D M 0 l [] h := by
  refine hp_arc c hM op0_k hD [] rfl hy hp_Bn hp_Fn hp_Kn (hp_La l0 hp_Ln) trivial ?_ ?_
  · intro p hp ys l' st' h' hys a1 a2 a3 gZ gL gS
    rcases List.mem_cons.mp hp with rfl | hp
    · obtain rfl := hp_y0 hys
      cases hp_gSn gS
      exact e0 l' h' a1 a2 a3 (hp_gLa gL (List.mem_of_getElem? (i := 0) rfl) (by decide)) (hp_gLi (z := (0 + 0)) gL (List.mem_of_getElem? (i := 1) rfl) rfl (by omega))
    cases hp
  · intro p hp ys v h' hys a1 a2 a3 gZ gS
    cases hp
theorem opN_k : hp_chk 90 2 1 [(0, 0, 1200)] [] [(0, .inr (.inr (.inl (some 40)))), (1, .inl (0, [(0, 1)]))] [] [(6157, (0, []), (2, []))] [] 2 [(18, ([], 1, [(0, 0, 1200)], [], [(0, .inr (.inr (.inl (some 40)))), (1, .inl (0, [(0, 1)]))], [.inr (.inr (.inl (some 40)))], []))] [] = true := by decide +kernel
theorem opN {cst : am_K} {strs : List Nat} {Φ : am_Q → Prop} {D : Nat} {M : am_M} {h : am_H} {l : am_L} (c : hp_C cst strs D) (hM : m_P[90]? = some M) (hD : (2 : Int) ≤ (D : Int) + 1) (hy : ly_hy m_tt ly_TH h) (nn : Int) (b0 : 0 ≤ nn) (t0 : nn ≤ 1200) (k0 : ly_hv cst h 6157 0 = some 2) (l0 : hp_a l 0 40) (l1 : hp_i l 1 (nn)) (e0 : ∀ (l' : am_L) (h' : am_H), ly_hy m_tt ly_TH h' → ly_fr cst [] h h' → h.length ≤ h'.length → hp_a l' 0 40 → hp_i l' 1 (nn) → hp_F cst strs Φ D M 18 l' [.ref 40] h') : hp_F cst strs Φ D M 2 l [] h := by
  refine hp_arc c hM opN_k hD [nn] rfl hy (hp_Bc (z := nn) rfl b0 t0 hp_Bn) hp_Fn (hp_Kc (zi := (0 + 0)) (zv := (2 + 0)) k0 rfl rfl (by omega) (by omega) hp_Kn) (hp_La l0 (hp_Li (z := (0 + (1 * nn + 0))) l1 rfl (by omega) hp_Ln)) trivial ?_ ?_
  · intro p hp ys l' st' h' hys a1 a2 a3 gZ gL gS
    rcases List.mem_cons.mp hp with rfl | hp
    · obtain rfl := hp_y0 hys
      obtain ⟨t0, rfl, g0⟩ := hp_gSa gS (by decide)
      cases hp_gSn g0
      exact e0 l' h' a1 a2 a3 (hp_gLa gL (List.mem_of_getElem? (i := 0) rfl) (by decide)) (hp_gLi (z := (0 + (1 * nn + 0))) gL (List.mem_of_getElem? (i := 1) rfl) rfl (by omega))
    cases hp
  · intro p hp ys v h' hys a1 a2 a3 gZ gS
    cases hp
theorem opM_k : hp_chk 90 21 2 [(0, 0, 1200), (1, 0, 1199)] [] [(0, .inr (.inr (.inl (some 40)))), (1, .inl (0, [(0, 1)]))] [] [(6154, (0, []), (0, [(1, 1)]))] [] 2 [(85, ([], 2, [(0, 0, 1200), (1, 0, 1199)], [], [(0, .inr (.inr (.inl (some 40)))), (1, .inl (0, [(0, 1)]))], [.inl (1, [(1, 1)]), .inr (.inr (.inl (some 40)))], []))] [] = true := by decide +kernel
theorem opM {cst : am_K} {strs : List Nat} {Φ : am_Q → Prop} {D : Nat} {M : am_M} {h : am_H} {l : am_L} (c : hp_C cst strs D) (hM : m_P[90]? = some M) (hD : (2 : Int) ≤ (D : Int) + 1) (hy : ly_hy m_tt ly_TH h) (nn b : Int) (b0 : 0 ≤ nn) (t0 : nn ≤ 1200) (b1 : 0 ≤ b) (t1 : b ≤ 1199) (k0 : ly_hv cst h 6154 0 = some (b)) (l0 : hp_a l 0 40) (l1 : hp_i l 1 (nn)) (e0 : ∀ (l' : am_L) (h' : am_H) (y0 : Int32), y0.toInt = (b + 1) → ly_hy m_tt ly_TH h' → ly_fr cst [] h h' → h.length ≤ h'.length → hp_a l' 0 40 → hp_i l' 1 (nn) → hp_F cst strs Φ D M 85 l' [.int y0, .ref 40] h') : hp_F cst strs Φ D M 21 l [] h := by
  refine hp_arc c hM opM_k hD [nn, b] rfl hy (hp_Bc (z := nn) rfl b0 t0 (hp_Bc (z := b) rfl b1 t1 hp_Bn)) hp_Fn (hp_Kc (zi := (0 + 0)) (zv := (0 + (1 * b + 0))) k0 rfl rfl (by omega) (by omega) hp_Kn) (hp_La l0 (hp_Li (z := (0 + (1 * nn + 0))) l1 rfl (by omega) hp_Ln)) trivial ?_ ?_
  · intro p hp ys l' st' h' hys a1 a2 a3 gZ gL gS
    rcases List.mem_cons.mp hp with rfl | hp
    · obtain rfl := hp_y0 hys
      obtain ⟨y0, t0, rfl, q0, g0⟩ := hp_gSi (z := (1 + (1 * b + 0))) gS rfl
      obtain ⟨t1, rfl, g1⟩ := hp_gSa g0 (by decide)
      cases hp_gSn g1
      exact e0 l' h' y0 (by omega) a1 a2 a3 (hp_gLa gL (List.mem_of_getElem? (i := 0) rfl) (by decide)) (hp_gLi (z := (0 + (1 * nn + 0))) gL (List.mem_of_getElem? (i := 1) rfl) rfl (by omega))
    cases hp
  · intro p hp ys v h' hys a1 a2 a3 gZ gS
    cases hp
theorem opF0_k : hp_chk 90 2 2 [(0, 0, 1200), (1, (-1), 1)] [] [(0, .inr (.inr (.inl (some 40)))), (1, .inl (0, [(0, 1)]))] [] [(6157, (0, []), (0, [(1, 1)])), (6155, (0, []), (40, [])), (6152, (0, []), (6, []))] [] 2 [(44, ([], 2, [(0, 0, 1200), (1, (-1), 1)], [], [(0, .inr (.inr (.inl (some 40)))), (1, .inl (0, [(0, 1)]))], [.inl (4, []), .inr (.inr (.inl (some 40)))], []))] [] = true := by decide +kernel
theorem opF0 {cst : am_K} {strs : List Nat} {Φ : am_Q → Prop} {D : Nat} {M : am_M} {h : am_H} {l : am_L} (c : hp_C cst strs D) (hM : m_P[90]? = some M) (hD : (2 : Int) ≤ (D : Int) + 1) (hy : ly_hy m_tt ly_TH h) (nn j : Int) (b0 : 0 ≤ nn) (t0 : nn ≤ 1200) (b1 : (-1) ≤ j) (t1 : j ≤ 1) (k0 : ly_hv cst h 6157 0 = some (j)) (k1 : ly_hv cst h 6155 0 = some 40) (k2 : ly_hv cst h 6152 0 = some 6) (l0 : hp_a l 0 40) (l1 : hp_i l 1 (nn)) (e0 : ∀ (l' : am_L) (h' : am_H) (y0 : Int32), y0.toInt = 4 → ly_hy m_tt ly_TH h' → ly_fr cst [] h h' → h.length ≤ h'.length → hp_a l' 0 40 → hp_i l' 1 (nn) → hp_F cst strs Φ D M 44 l' [.int y0, .ref 40] h') : hp_F cst strs Φ D M 2 l [] h := by
  refine hp_arc c hM opF0_k hD [nn, j] rfl hy (hp_Bc (z := nn) rfl b0 t0 (hp_Bc (z := j) rfl b1 t1 hp_Bn)) hp_Fn (hp_Kc (zi := (0 + 0)) (zv := (0 + (1 * j + 0))) k0 rfl rfl (by omega) (by omega) (hp_Kc (zi := (0 + 0)) (zv := (40 + 0)) k1 rfl rfl (by omega) (by omega) (hp_Kc (zi := (0 + 0)) (zv := (6 + 0)) k2 rfl rfl (by omega) (by omega) hp_Kn))) (hp_La l0 (hp_Li (z := (0 + (1 * nn + 0))) l1 rfl (by omega) hp_Ln)) trivial ?_ ?_
  · intro p hp ys l' st' h' hys a1 a2 a3 gZ gL gS
    rcases List.mem_cons.mp hp with rfl | hp
    · obtain rfl := hp_y0 hys
      obtain ⟨y0, t0, rfl, q0, g0⟩ := hp_gSi (z := (4 + 0)) gS rfl
      obtain ⟨t1, rfl, g1⟩ := hp_gSa g0 (by decide)
      cases hp_gSn g1
      exact e0 l' h' y0 (by omega) a1 a2 a3 (hp_gLa gL (List.mem_of_getElem? (i := 0) rfl) (by decide)) (hp_gLi (z := (0 + (1 * nn + 0))) gL (List.mem_of_getElem? (i := 1) rfl) rfl (by omega))
    cases hp
  · intro p hp ys v h' hys a1 a2 a3 gZ gS
    cases hp
theorem opB0_k : hp_chk 90 2 3 [(0, 0, 1200), (1, (-1), 1), (2, 0, 5)] [] [(0, .inr (.inr (.inl (some 40)))), (1, .inl (0, [(0, 1)]))] [] [(6157, (0, []), (0, [(1, 1)])), (6155, (0, []), (40, [])), (6152, (0, []), (0, [(2, 1)]))] [] 2 [(60, ([], 3, [(0, 0, 1200), (1, (-1), 1), (2, 0, 5)], [], [(0, .inr (.inr (.inl (some 40)))), (1, .inl (0, [(0, 1)]))], [.inl (7, []), .inr (.inr (.inl (some 40)))], []))] [] = true := by decide +kernel
theorem opB0 {cst : am_K} {strs : List Nat} {Φ : am_Q → Prop} {D : Nat} {M : am_M} {h : am_H} {l : am_L} (c : hp_C cst strs D) (hM : m_P[90]? = some M) (hD : (2 : Int) ≤ (D : Int) + 1) (hy : ly_hy m_tt ly_TH h) (nn j o : Int) (b0 : 0 ≤ nn) (t0 : nn ≤ 1200) (b1 : (-1) ≤ j) (t1 : j ≤ 1) (b2 : 0 ≤ o) (t2 : o ≤ 5) (k0 : ly_hv cst h 6157 0 = some (j)) (k1 : ly_hv cst h 6155 0 = some 40) (k2 : ly_hv cst h 6152 0 = some (o)) (l0 : hp_a l 0 40) (l1 : hp_i l 1 (nn)) (e0 : ∀ (l' : am_L) (h' : am_H) (y0 : Int32), y0.toInt = 7 → ly_hy m_tt ly_TH h' → ly_fr cst [] h h' → h.length ≤ h'.length → hp_a l' 0 40 → hp_i l' 1 (nn) → hp_F cst strs Φ D M 60 l' [.int y0, .ref 40] h') : hp_F cst strs Φ D M 2 l [] h := by
  refine hp_arc c hM opB0_k hD [nn, j, o] rfl hy (hp_Bc (z := nn) rfl b0 t0 (hp_Bc (z := j) rfl b1 t1 (hp_Bc (z := o) rfl b2 t2 hp_Bn))) hp_Fn (hp_Kc (zi := (0 + 0)) (zv := (0 + (1 * j + 0))) k0 rfl rfl (by omega) (by omega) (hp_Kc (zi := (0 + 0)) (zv := (40 + 0)) k1 rfl rfl (by omega) (by omega) (hp_Kc (zi := (0 + 0)) (zv := (0 + (1 * o + 0))) k2 rfl rfl (by omega) (by omega) hp_Kn))) (hp_La l0 (hp_Li (z := (0 + (1 * nn + 0))) l1 rfl (by omega) hp_Ln)) trivial ?_ ?_
  · intro p hp ys l' st' h' hys a1 a2 a3 gZ gL gS
    rcases List.mem_cons.mp hp with rfl | hp
    · obtain rfl := hp_y0 hys
      obtain ⟨y0, t0, rfl, q0, g0⟩ := hp_gSi (z := (7 + 0)) gS rfl
      obtain ⟨t1, rfl, g1⟩ := hp_gSa g0 (by decide)
      cases hp_gSn g1
      exact e0 l' h' y0 (by omega) a1 a2 a3 (hp_gLa gL (List.mem_of_getElem? (i := 0) rfl) (by decide)) (hp_gLi (z := (0 + (1 * nn + 0))) gL (List.mem_of_getElem? (i := 1) rfl) rfl (by omega))
    cases hp
  · intro p hp ys v h' hys a1 a2 a3 gZ gS
    cases hp
theorem opR00_k : hp_chk 90 2 3 [(0, 0, 1200), (1, (-1), 1), (2, 0, 39)] [] [(0, .inr (.inr (.inl (some 40)))), (1, .inl (0, [(0, 1)]))] [] [(6157, (0, []), (0, [(1, 1)])), (6155, (0, []), (0, [(2, 1)]))] [] 2 [] [([], 3, [(0, 0, 1200), (1, (-1), 1), (2, 0, 39)], [], [], [.inl (1, [])], [])] = true := by decide +kernel
theorem opR00 {cst : am_K} {strs : List Nat} {Φ : am_Q → Prop} {D : Nat} {M : am_M} {h : am_H} {l : am_L} (c : hp_C cst strs D) (hM : m_P[90]? = some M) (hD : (2 : Int) ≤ (D : Int) + 1) (hy : ly_hy m_tt ly_TH h) (nn j q : Int) (b0 : 0 ≤ nn) (t0 : nn ≤ 1200) (b1 : (-1) ≤ j) (t1 : j ≤ 1) (b2 : 0 ≤ q) (t2 : q ≤ 39) (k0 : ly_hv cst h 6157 0 = some (j)) (k1 : ly_hv cst h 6155 0 = some (q)) (l0 : hp_a l 0 40) (l1 : hp_i l 1 (nn)) (r0 : ∀ (h' : am_H) (y0 : Int32), y0.toInt = 1 → ly_hy m_tt ly_TH h' → ly_fr cst [] h h' → h.length ≤ h'.length → Φ (some (.int y0), h', 0, 0)) : hp_F cst strs Φ D M 2 l [] h := by
  refine hp_arc c hM opR00_k hD [nn, j, q] rfl hy (hp_Bc (z := nn) rfl b0 t0 (hp_Bc (z := j) rfl b1 t1 (hp_Bc (z := q) rfl b2 t2 hp_Bn))) hp_Fn (hp_Kc (zi := (0 + 0)) (zv := (0 + (1 * j + 0))) k0 rfl rfl (by omega) (by omega) (hp_Kc (zi := (0 + 0)) (zv := (0 + (1 * q + 0))) k1 rfl rfl (by omega) (by omega) hp_Kn)) (hp_La l0 (hp_Li (z := (0 + (1 * nn + 0))) l1 rfl (by omega) hp_Ln)) trivial ?_ ?_
  · intro p hp ys l' st' h' hys a1 a2 a3 gZ gL gS
    cases hp
  · intro p hp ys v h' hys a1 a2 a3 gZ gS
    rcases List.mem_cons.mp hp with rfl | hp
    · obtain rfl := hp_y0 hys
      cases v with
      | none => cases gS
      | some w =>
        obtain ⟨y0, t0, s0, q0, -⟩ := hp_gSi (z := (1 + 0)) gS rfl
        cases s0
        exact r0 h' y0 (by omega) a1 a2 a3
    cases hp
theorem opR01_k : hp_chk 90 2 3 [(0, 0, 1200), (1, (-1), 1), (2, 41, 255)] [] [(0, .inr (.inr (.inl (some 40)))), (1, .inl (0, [(0, 1)]))] [] [(6157, (0, []), (0, [(1, 1)])), (6155, (0, []), (0, [(2, 1)]))] [] 2 [] [([], 3, [(0, 0, 1200), (1, (-1), 1), (2, 41, 255)], [], [], [.inl (1, [])], [])] = true := by decide +kernel
theorem opR01 {cst : am_K} {strs : List Nat} {Φ : am_Q → Prop} {D : Nat} {M : am_M} {h : am_H} {l : am_L} (c : hp_C cst strs D) (hM : m_P[90]? = some M) (hD : (2 : Int) ≤ (D : Int) + 1) (hy : ly_hy m_tt ly_TH h) (nn j q : Int) (b0 : 0 ≤ nn) (t0 : nn ≤ 1200) (b1 : (-1) ≤ j) (t1 : j ≤ 1) (b2 : 41 ≤ q) (t2 : q ≤ 255) (k0 : ly_hv cst h 6157 0 = some (j)) (k1 : ly_hv cst h 6155 0 = some (q)) (l0 : hp_a l 0 40) (l1 : hp_i l 1 (nn)) (r0 : ∀ (h' : am_H) (y0 : Int32), y0.toInt = 1 → ly_hy m_tt ly_TH h' → ly_fr cst [] h h' → h.length ≤ h'.length → Φ (some (.int y0), h', 0, 0)) : hp_F cst strs Φ D M 2 l [] h := by
  refine hp_arc c hM opR01_k hD [nn, j, q] rfl hy (hp_Bc (z := nn) rfl b0 t0 (hp_Bc (z := j) rfl b1 t1 (hp_Bc (z := q) rfl b2 t2 hp_Bn))) hp_Fn (hp_Kc (zi := (0 + 0)) (zv := (0 + (1 * j + 0))) k0 rfl rfl (by omega) (by omega) (hp_Kc (zi := (0 + 0)) (zv := (0 + (1 * q + 0))) k1 rfl rfl (by omega) (by omega) hp_Kn)) (hp_La l0 (hp_Li (z := (0 + (1 * nn + 0))) l1 rfl (by omega) hp_Ln)) trivial ?_ ?_
  · intro p hp ys l' st' h' hys a1 a2 a3 gZ gL gS
    cases hp
  · intro p hp ys v h' hys a1 a2 a3 gZ gS
    rcases List.mem_cons.mp hp with rfl | hp
    · obtain rfl := hp_y0 hys
      cases v with
      | none => cases gS
      | some w =>
        obtain ⟨y0, t0, s0, q0, -⟩ := hp_gSi (z := (1 + 0)) gS rfl
        cases s0
        exact r0 h' y0 (by omega) a1 a2 a3
    cases hp
theorem opF1_k : hp_chk 90 2 2 [(0, 0, 1200), (1, 3, 6)] [] [(0, .inr (.inr (.inl (some 40)))), (1, .inl (0, [(0, 1)]))] [] [(6157, (0, []), (0, [(1, 1)])), (6155, (0, []), (40, [])), (6152, (0, []), (6, []))] [] 2 [(44, ([], 2, [(0, 0, 1200), (1, 3, 6)], [], [(0, .inr (.inr (.inl (some 40)))), (1, .inl (0, [(0, 1)]))], [.inl (4, []), .inr (.inr (.inl (some 40)))], []))] [] = true := by decide +kernel
theorem opF1 {cst : am_K} {strs : List Nat} {Φ : am_Q → Prop} {D : Nat} {M : am_M} {h : am_H} {l : am_L} (c : hp_C cst strs D) (hM : m_P[90]? = some M) (hD : (2 : Int) ≤ (D : Int) + 1) (hy : ly_hy m_tt ly_TH h) (nn j : Int) (b0 : 0 ≤ nn) (t0 : nn ≤ 1200) (b1 : 3 ≤ j) (t1 : j ≤ 6) (k0 : ly_hv cst h 6157 0 = some (j)) (k1 : ly_hv cst h 6155 0 = some 40) (k2 : ly_hv cst h 6152 0 = some 6) (l0 : hp_a l 0 40) (l1 : hp_i l 1 (nn)) (e0 : ∀ (l' : am_L) (h' : am_H) (y0 : Int32), y0.toInt = 4 → ly_hy m_tt ly_TH h' → ly_fr cst [] h h' → h.length ≤ h'.length → hp_a l' 0 40 → hp_i l' 1 (nn) → hp_F cst strs Φ D M 44 l' [.int y0, .ref 40] h') : hp_F cst strs Φ D M 2 l [] h := by
  refine hp_arc c hM opF1_k hD [nn, j] rfl hy (hp_Bc (z := nn) rfl b0 t0 (hp_Bc (z := j) rfl b1 t1 hp_Bn)) hp_Fn (hp_Kc (zi := (0 + 0)) (zv := (0 + (1 * j + 0))) k0 rfl rfl (by omega) (by omega) (hp_Kc (zi := (0 + 0)) (zv := (40 + 0)) k1 rfl rfl (by omega) (by omega) (hp_Kc (zi := (0 + 0)) (zv := (6 + 0)) k2 rfl rfl (by omega) (by omega) hp_Kn))) (hp_La l0 (hp_Li (z := (0 + (1 * nn + 0))) l1 rfl (by omega) hp_Ln)) trivial ?_ ?_
  · intro p hp ys l' st' h' hys a1 a2 a3 gZ gL gS
    rcases List.mem_cons.mp hp with rfl | hp
    · obtain rfl := hp_y0 hys
      obtain ⟨y0, t0, rfl, q0, g0⟩ := hp_gSi (z := (4 + 0)) gS rfl
      obtain ⟨t1, rfl, g1⟩ := hp_gSa g0 (by decide)
      cases hp_gSn g1
      exact e0 l' h' y0 (by omega) a1 a2 a3 (hp_gLa gL (List.mem_of_getElem? (i := 0) rfl) (by decide)) (hp_gLi (z := (0 + (1 * nn + 0))) gL (List.mem_of_getElem? (i := 1) rfl) rfl (by omega))
    cases hp
  · intro p hp ys v h' hys a1 a2 a3 gZ gS
    cases hp
theorem opB1_k : hp_chk 90 2 3 [(0, 0, 1200), (1, 3, 6), (2, 0, 5)] [] [(0, .inr (.inr (.inl (some 40)))), (1, .inl (0, [(0, 1)]))] [] [(6157, (0, []), (0, [(1, 1)])), (6155, (0, []), (40, [])), (6152, (0, []), (0, [(2, 1)]))] [] 2 [(60, ([], 3, [(0, 0, 1200), (1, 3, 6), (2, 0, 5)], [], [(0, .inr (.inr (.inl (some 40)))), (1, .inl (0, [(0, 1)]))], [.inl (7, []), .inr (.inr (.inl (some 40)))], []))] [] = true := by decide +kernel
theorem opB1 {cst : am_K} {strs : List Nat} {Φ : am_Q → Prop} {D : Nat} {M : am_M} {h : am_H} {l : am_L} (c : hp_C cst strs D) (hM : m_P[90]? = some M) (hD : (2 : Int) ≤ (D : Int) + 1) (hy : ly_hy m_tt ly_TH h) (nn j o : Int) (b0 : 0 ≤ nn) (t0 : nn ≤ 1200) (b1 : 3 ≤ j) (t1 : j ≤ 6) (b2 : 0 ≤ o) (t2 : o ≤ 5) (k0 : ly_hv cst h 6157 0 = some (j)) (k1 : ly_hv cst h 6155 0 = some 40) (k2 : ly_hv cst h 6152 0 = some (o)) (l0 : hp_a l 0 40) (l1 : hp_i l 1 (nn)) (e0 : ∀ (l' : am_L) (h' : am_H) (y0 : Int32), y0.toInt = 7 → ly_hy m_tt ly_TH h' → ly_fr cst [] h h' → h.length ≤ h'.length → hp_a l' 0 40 → hp_i l' 1 (nn) → hp_F cst strs Φ D M 60 l' [.int y0, .ref 40] h') : hp_F cst strs Φ D M 2 l [] h := by
  refine hp_arc c hM opB1_k hD [nn, j, o] rfl hy (hp_Bc (z := nn) rfl b0 t0 (hp_Bc (z := j) rfl b1 t1 (hp_Bc (z := o) rfl b2 t2 hp_Bn))) hp_Fn (hp_Kc (zi := (0 + 0)) (zv := (0 + (1 * j + 0))) k0 rfl rfl (by omega) (by omega) (hp_Kc (zi := (0 + 0)) (zv := (40 + 0)) k1 rfl rfl (by omega) (by omega) (hp_Kc (zi := (0 + 0)) (zv := (0 + (1 * o + 0))) k2 rfl rfl (by omega) (by omega) hp_Kn))) (hp_La l0 (hp_Li (z := (0 + (1 * nn + 0))) l1 rfl (by omega) hp_Ln)) trivial ?_ ?_
  · intro p hp ys l' st' h' hys a1 a2 a3 gZ gL gS
    rcases List.mem_cons.mp hp with rfl | hp
    · obtain rfl := hp_y0 hys
      obtain ⟨y0, t0, rfl, q0, g0⟩ := hp_gSi (z := (7 + 0)) gS rfl
      obtain ⟨t1, rfl, g1⟩ := hp_gSa g0 (by decide)
      cases hp_gSn g1
      exact e0 l' h' y0 (by omega) a1 a2 a3 (hp_gLa gL (List.mem_of_getElem? (i := 0) rfl) (by decide)) (hp_gLi (z := (0 + (1 * nn + 0))) gL (List.mem_of_getElem? (i := 1) rfl) rfl (by omega))
    cases hp
  · intro p hp ys v h' hys a1 a2 a3 gZ gS
    cases hp
theorem opR10_k : hp_chk 90 2 3 [(0, 0, 1200), (1, 3, 6), (2, 0, 39)] [] [(0, .inr (.inr (.inl (some 40)))), (1, .inl (0, [(0, 1)]))] [] [(6157, (0, []), (0, [(1, 1)])), (6155, (0, []), (0, [(2, 1)]))] [] 2 [] [([], 3, [(0, 0, 1200), (1, 3, 6), (2, 0, 39)], [], [], [.inl (1, [])], [])] = true := by decide +kernel
theorem opR10 {cst : am_K} {strs : List Nat} {Φ : am_Q → Prop} {D : Nat} {M : am_M} {h : am_H} {l : am_L} (c : hp_C cst strs D) (hM : m_P[90]? = some M) (hD : (2 : Int) ≤ (D : Int) + 1) (hy : ly_hy m_tt ly_TH h) (nn j q : Int) (b0 : 0 ≤ nn) (t0 : nn ≤ 1200) (b1 : 3 ≤ j) (t1 : j ≤ 6) (b2 : 0 ≤ q) (t2 : q ≤ 39) (k0 : ly_hv cst h 6157 0 = some (j)) (k1 : ly_hv cst h 6155 0 = some (q)) (l0 : hp_a l 0 40) (l1 : hp_i l 1 (nn)) (r0 : ∀ (h' : am_H) (y0 : Int32), y0.toInt = 1 → ly_hy m_tt ly_TH h' → ly_fr cst [] h h' → h.length ≤ h'.length → Φ (some (.int y0), h', 0, 0)) : hp_F cst strs Φ D M 2 l [] h := by
  refine hp_arc c hM opR10_k hD [nn, j, q] rfl hy (hp_Bc (z := nn) rfl b0 t0 (hp_Bc (z := j) rfl b1 t1 (hp_Bc (z := q) rfl b2 t2 hp_Bn))) hp_Fn (hp_Kc (zi := (0 + 0)) (zv := (0 + (1 * j + 0))) k0 rfl rfl (by omega) (by omega) (hp_Kc (zi := (0 + 0)) (zv := (0 + (1 * q + 0))) k1 rfl rfl (by omega) (by omega) hp_Kn)) (hp_La l0 (hp_Li (z := (0 + (1 * nn + 0))) l1 rfl (by omega) hp_Ln)) trivial ?_ ?_
  · intro p hp ys l' st' h' hys a1 a2 a3 gZ gL gS
    cases hp
  · intro p hp ys v h' hys a1 a2 a3 gZ gS
    rcases List.mem_cons.mp hp with rfl | hp
    · obtain rfl := hp_y0 hys
      cases v with
      | none => cases gS
      | some w =>
        obtain ⟨y0, t0, s0, q0, -⟩ := hp_gSi (z := (1 + 0)) gS rfl
        cases s0
        exact r0 h' y0 (by omega) a1 a2 a3
    cases hp
theorem opR11_k : hp_chk 90 2 3 [(0, 0, 1200), (1, 3, 6), (2, 41, 255)] [] [(0, .inr (.inr (.inl (some 40)))), (1, .inl (0, [(0, 1)]))] [] [(6157, (0, []), (0, [(1, 1)])), (6155, (0, []), (0, [(2, 1)]))] [] 2 [] [([], 3, [(0, 0, 1200), (1, 3, 6), (2, 41, 255)], [], [], [.inl (1, [])], [])] = true := by decide +kernel
theorem opR11 {cst : am_K} {strs : List Nat} {Φ : am_Q → Prop} {D : Nat} {M : am_M} {h : am_H} {l : am_L} (c : hp_C cst strs D) (hM : m_P[90]? = some M) (hD : (2 : Int) ≤ (D : Int) + 1) (hy : ly_hy m_tt ly_TH h) (nn j q : Int) (b0 : 0 ≤ nn) (t0 : nn ≤ 1200) (b1 : 3 ≤ j) (t1 : j ≤ 6) (b2 : 41 ≤ q) (t2 : q ≤ 255) (k0 : ly_hv cst h 6157 0 = some (j)) (k1 : ly_hv cst h 6155 0 = some (q)) (l0 : hp_a l 0 40) (l1 : hp_i l 1 (nn)) (r0 : ∀ (h' : am_H) (y0 : Int32), y0.toInt = 1 → ly_hy m_tt ly_TH h' → ly_fr cst [] h h' → h.length ≤ h'.length → Φ (some (.int y0), h', 0, 0)) : hp_F cst strs Φ D M 2 l [] h := by
  refine hp_arc c hM opR11_k hD [nn, j, q] rfl hy (hp_Bc (z := nn) rfl b0 t0 (hp_Bc (z := j) rfl b1 t1 (hp_Bc (z := q) rfl b2 t2 hp_Bn))) hp_Fn (hp_Kc (zi := (0 + 0)) (zv := (0 + (1 * j + 0))) k0 rfl rfl (by omega) (by omega) (hp_Kc (zi := (0 + 0)) (zv := (0 + (1 * q + 0))) k1 rfl rfl (by omega) (by omega) hp_Kn)) (hp_La l0 (hp_Li (z := (0 + (1 * nn + 0))) l1 rfl (by omega) hp_Ln)) trivial ?_ ?_
  · intro p hp ys l' st' h' hys a1 a2 a3 gZ gL gS
    cases hp
  · intro p hp ys v h' hys a1 a2 a3 gZ gS
    rcases List.mem_cons.mp hp with rfl | hp
    · obtain rfl := hp_y0 hys
      cases v with
      | none => cases gS
      | some w =>
        obtain ⟨y0, t0, s0, q0, -⟩ := hp_gSi (z := (1 + 0)) gS rfl
        cases s0
        exact r0 h' y0 (by omega) a1 a2 a3
    cases hp
theorem opC_k : hp_chk 90 63 3 [(0, 0, 1200), (1, 0, 5), (2, 0, 1199)] [] [(0, .inr (.inr (.inl (some 40)))), (1, .inl (0, [(0, 1)]))] [] [(6152, (0, []), (0, [(1, 1)])), (6154, (0, []), (0, [(2, 1)]))] [6152] 2 [(85, ([], 3, [(0, 0, 1200), (1, 0, 5), (2, 0, 1199)], [], [(0, .inr (.inr (.inl (some 40)))), (1, .inl (0, [(0, 1)]))], [.inl (1, [(2, 1)]), .inr (.inr (.inl (some 40)))], [(6152, (0, []), (1, [(1, 1)]))]))] [] = true := by decide +kernel
theorem opC {cst : am_K} {strs : List Nat} {Φ : am_Q → Prop} {D : Nat} {M : am_M} {h : am_H} {l : am_L} (c : hp_C cst strs D) (hM : m_P[90]? = some M) (hD : (2 : Int) ≤ (D : Int) + 1) (hy : ly_hy m_tt ly_TH h) (nn o b : Int) (b0 : 0 ≤ nn) (t0 : nn ≤ 1200) (b1 : 0 ≤ o) (t1 : o ≤ 5) (b2 : 0 ≤ b) (t2 : b ≤ 1199) (k0 : ly_hv cst h 6152 0 = some (o)) (k1 : ly_hv cst h 6154 0 = some (b)) (l0 : hp_a l 0 40) (l1 : hp_i l 1 (nn)) (e0 : ∀ (l' : am_L) (h' : am_H) (y0 : Int32), y0.toInt = (b + 1) → ly_hy m_tt ly_TH h' → ly_fr cst [6152] h h' → h.length ≤ h'.length → ly_hv cst h' 6152 0 = some (o + 1) → hp_a l' 0 40 → hp_i l' 1 (nn) → hp_F cst strs Φ D M 85 l' [.int y0, .ref 40] h') : hp_F cst strs Φ D M 63 l [] h := by
  refine hp_arc c hM opC_k hD [nn, o, b] rfl hy (hp_Bc (z := nn) rfl b0 t0 (hp_Bc (z := o) rfl b1 t1 (hp_Bc (z := b) rfl b2 t2 hp_Bn))) hp_Fn (hp_Kc (zi := (0 + 0)) (zv := (0 + (1 * o + 0))) k0 rfl rfl (by omega) (by omega) (hp_Kc (zi := (0 + 0)) (zv := (0 + (1 * b + 0))) k1 rfl rfl (by omega) (by omega) hp_Kn)) (hp_La l0 (hp_Li (z := (0 + (1 * nn + 0))) l1 rfl (by omega) hp_Ln)) trivial ?_ ?_
  · intro p hp ys l' st' h' hys a1 a2 a3 gZ gL gS
    rcases List.mem_cons.mp hp with rfl | hp
    · obtain rfl := hp_y0 hys
      obtain ⟨y0, t0, rfl, q0, g0⟩ := hp_gSi (z := (1 + (1 * b + 0))) gS rfl
      obtain ⟨t1, rfl, g1⟩ := hp_gSa g0 (by decide)
      cases hp_gSn g1
      exact e0 l' h' y0 (by omega) a1 a2 a3 (hp_gK (zi := (0 + 0)) (zv := (1 + (1 * o + 0))) gZ.2.2.2 (List.mem_of_getElem? (i := 0) rfl) rfl rfl (by omega) (by omega)) (hp_gLa gL (List.mem_of_getElem? (i := 0) rfl) (by decide)) (hp_gLi (z := (0 + (1 * nn + 0))) gL (List.mem_of_getElem? (i := 1) rfl) rfl (by omega))
    cases hp
  · intro p hp ys v h' hys a1 a2 a3 gZ gS
    cases hp
theorem opG_k : hp_chk 90 88 1 [(0, 0, 1200)] [] [(0, .inr (.inr (.inl (some 40)))), (1, .inl (0, [(0, 1)]))] [] [] [] 2 [(2, ([], 1, [(0, 0, 1200)], [], [(0, .inr (.inr (.inl (some 40)))), (1, .inl (1, [(0, 1)]))], [], []))] [] = true := by decide +kernel
theorem opG {cst : am_K} {strs : List Nat} {Φ : am_Q → Prop} {D : Nat} {M : am_M} {h : am_H} {l : am_L} (c : hp_C cst strs D) (hM : m_P[90]? = some M) (hD : (2 : Int) ≤ (D : Int) + 1) (hy : ly_hy m_tt ly_TH h) (nn : Int) (b0 : 0 ≤ nn) (t0 : nn ≤ 1200) (l0 : hp_a l 0 40) (l1 : hp_i l 1 (nn)) (e0 : ∀ (l' : am_L) (h' : am_H), ly_hy m_tt ly_TH h' → ly_fr cst [] h h' → h.length ≤ h'.length → hp_a l' 0 40 → hp_i l' 1 (nn + 1) → hp_F cst strs Φ D M 2 l' [] h') : hp_F cst strs Φ D M 88 l [] h := by
  refine hp_arc c hM opG_k hD [nn] rfl hy (hp_Bc (z := nn) rfl b0 t0 hp_Bn) hp_Fn hp_Kn (hp_La l0 (hp_Li (z := (0 + (1 * nn + 0))) l1 rfl (by omega) hp_Ln)) trivial ?_ ?_
  · intro p hp ys l' st' h' hys a1 a2 a3 gZ gL gS
    rcases List.mem_cons.mp hp with rfl | hp
    · obtain rfl := hp_y0 hys
      cases hp_gSn gS
      exact e0 l' h' a1 a2 a3 (hp_gLa gL (List.mem_of_getElem? (i := 0) rfl) (by decide)) (hp_gLi (z := (1 + (1 * nn + 0))) gL (List.mem_of_getElem? (i := 1) rfl) rfl (by omega))
    cases hp
  · intro p hp ys v h' hys a1 a2 a3 gZ gS
    cases hp
theorem fr90_44_k : hp_chk 90 47 0 [] [] [] [.inl (0, [])] [] [] 2 [] [([], 0, [], [], [], [.inl (0, [])], [])] = true := by decide +kernel
theorem fr90_44 {cst : am_K} {strs : List Nat} {Φ : am_Q → Prop} {D : Nat} {M : am_M} {h : am_H} {l : am_L} (c : hp_C cst strs D) (hM : m_P[90]? = some M) (hD : (2 : Int) ≤ (D : Int) + 1) (hy : ly_hy m_tt ly_TH h) (x0 : Int32) (hx0 : x0.toInt = 0) (r0 : ∀ (h' : am_H) (y0 : Int32), y0.toInt = 0 → ly_hy m_tt ly_TH h' → ly_fr cst [] h h' → h.length ≤ h'.length → Φ (some (.int y0), h', 0, 0)) : hp_F cst strs Φ D M 47 l [.int x0] h := by
  refine hp_arc c hM fr90_44_k hD [] rfl hy hp_Bn hp_Fn hp_Kn hp_Ln (hp_Si (z := (0 + 0)) rfl (by omega) trivial) ?_ ?_
  · intro p hp ys l' st' h' hys a1 a2 a3 gZ gL gS
    cases hp
  · intro p hp ys v h' hys a1 a2 a3 gZ gS
    rcases List.mem_cons.mp hp with rfl | hp
    · obtain rfl := hp_y0 hys
      cases v with
      | none => cases gS
      | some w =>
        obtain ⟨y0, t0, s0, q0, -⟩ := hp_gSi (z := (0 + 0)) gS rfl
        cases s0
        exact r0 h' y0 (by omega) a1 a2 a3
    cases hp
theorem cp0_k : hp_chk 99 0 0 [] [] [(0, .inr (.inr (.inl (some 40))))] [] [] [] 2 [(2, ([], 0, [], [], [(0, .inr (.inr (.inl (some 40)))), (1, .inl (0, []))], [], []))] [] = true := by decide +kernel
theorem cp0 {cst : am_K} {strs : List Nat} {Φ : am_Q → Prop} {D : Nat} {M : am_M} {h : am_H} {l : am_L} (c : hp_C cst strs D) (hM : m_P[99]? = some M) (hD : (2 : Int) ≤ (D : Int) + 1) (hy : ly_hy m_tt ly_TH h) (l0 : hp_a l 0 40) (e0 : ∀ (l' : am_L) (h' : am_H), ly_hy m_tt ly_TH h' → ly_fr cst [] h h' → h.length ≤ h'.length → hp_a l' 0 40 → hp_i l' 1 0 → hp_F cst strs Φ D M 2 l' [] h') : hp_F cst strs Φ D M 0 l [] h := by
  refine hp_arc c hM cp0_k hD [] rfl hy hp_Bn hp_Fn hp_Kn (hp_La l0 hp_Ln) trivial ?_ ?_
  · intro p hp ys l' st' h' hys a1 a2 a3 gZ gL gS
    rcases List.mem_cons.mp hp with rfl | hp
    · obtain rfl := hp_y0 hys
      cases hp_gSn gS
      exact e0 l' h' a1 a2 a3 (hp_gLa gL (List.mem_of_getElem? (i := 0) rfl) (by decide)) (hp_gLi (z := (0 + 0)) gL (List.mem_of_getElem? (i := 1) rfl) rfl (by omega))
    cases hp
  · intro p hp ys v h' hys a1 a2 a3 gZ gS
    cases hp
theorem cpA_k : hp_chk 99 2 2 [(0, 0, 5), (1, 1, 6)] [] [(0, .inr (.inr (.inl (some 40)))), (1, .inl (0, [(0, 1)]))] [] [(6155, (0, []), (41, [])), (6152, (0, []), (0, [(1, 1)]))] [] 2 [(26, ([], 2, [(0, 0, 5), (1, 1, 6)], [], [(0, .inr (.inr (.inl (some 40)))), (1, .inl (0, [(0, 1)]))], [.inl (0, []), .inr (.inr (.inl (some 40)))], []))] [] = true := by decide +kernel
theorem cpA {cst : am_K} {strs : List Nat} {Φ : am_Q → Prop} {D : Nat} {M : am_M} {h : am_H} {l : am_L} (c : hp_C cst strs D) (hM : m_P[99]? = some M) (hD : (2 : Int) ≤ (D : Int) + 1) (hy : ly_hy m_tt ly_TH h) (nn o : Int) (b0 : 0 ≤ nn) (t0 : nn ≤ 5) (b1 : 1 ≤ o) (t1 : o ≤ 6) (k0 : ly_hv cst h 6155 0 = some 41) (k1 : ly_hv cst h 6152 0 = some (o)) (l0 : hp_a l 0 40) (l1 : hp_i l 1 (nn)) (e0 : ∀ (l' : am_L) (h' : am_H) (y0 : Int32), y0.toInt = 0 → ly_hy m_tt ly_TH h' → ly_fr cst [] h h' → h.length ≤ h'.length → hp_a l' 0 40 → hp_i l' 1 (nn) → hp_F cst strs Φ D M 26 l' [.int y0, .ref 40] h') : hp_F cst strs Φ D M 2 l [] h := by
  refine hp_arc c hM cpA_k hD [nn, o] rfl hy (hp_Bc (z := nn) rfl b0 t0 (hp_Bc (z := o) rfl b1 t1 hp_Bn)) hp_Fn (hp_Kc (zi := (0 + 0)) (zv := (41 + 0)) k0 rfl rfl (by omega) (by omega) (hp_Kc (zi := (0 + 0)) (zv := (0 + (1 * o + 0))) k1 rfl rfl (by omega) (by omega) hp_Kn)) (hp_La l0 (hp_Li (z := (0 + (1 * nn + 0))) l1 rfl (by omega) hp_Ln)) trivial ?_ ?_
  · intro p hp ys l' st' h' hys a1 a2 a3 gZ gL gS
    rcases List.mem_cons.mp hp with rfl | hp
    · obtain rfl := hp_y0 hys
      obtain ⟨y0, t0, rfl, q0, g0⟩ := hp_gSi (z := (0 + 0)) gS rfl
      obtain ⟨t1, rfl, g1⟩ := hp_gSa g0 (by decide)
      cases hp_gSn g1
      exact e0 l' h' y0 (by omega) a1 a2 a3 (hp_gLa gL (List.mem_of_getElem? (i := 0) rfl) (by decide)) (hp_gLi (z := (0 + (1 * nn + 0))) gL (List.mem_of_getElem? (i := 1) rfl) rfl (by omega))
    cases hp
  · intro p hp ys v h' hys a1 a2 a3 gZ gS
    cases hp
theorem cpB_k : hp_chk 99 29 3 [(0, 0, 5), (1, 1, 6), (2, 0, 27)] [] [(0, .inr (.inr (.inl (some 40)))), (1, .inl (0, [(0, 1)]))] [] [(6152, (0, []), (0, [(1, 1)])), (6151, (0, []), (1, [(2, 1)]))] [6151, 6152, 60080, 60081, 60082] 2 [(50, ([], 3, [(0, 0, 5), (1, 1, 6), (2, 0, 27)], [], [(0, .inr (.inr (.inl (some 40)))), (1, .inl (0, [(0, 1)]))], [.inr (.inr (.inl (some 40)))], [(6152, (0, []), ((-1), [(1, 1)])), (6151, (0, []), (0, [(2, 1)]))]))] [] = true := by decide +kernel
theorem cpB {cst : am_K} {strs : List Nat} {Φ : am_Q → Prop} {D : Nat} {M : am_M} {h : am_H} {l : am_L} (c : hp_C cst strs D) (hM : m_P[99]? = some M) (hD : (2 : Int) ≤ (D : Int) + 1) (hy : ly_hy m_tt ly_TH h) (nn o wz : Int) (b0 : 0 ≤ nn) (t0 : nn ≤ 5) (b1 : 1 ≤ o) (t1 : o ≤ 6) (b2 : 0 ≤ wz) (t2 : wz ≤ 27) (k0 : ly_hv cst h 6152 0 = some (o)) (k1 : ly_hv cst h 6151 0 = some (wz + 1)) (l0 : hp_a l 0 40) (l1 : hp_i l 1 (nn)) (e0 : ∀ (l' : am_L) (h' : am_H), ly_hy m_tt ly_TH h' → ly_fr cst [6151, 6152, 60080, 60081, 60082] h h' → h.length ≤ h'.length → ly_hv cst h' 6152 0 = some (o - 1) → ly_hv cst h' 6151 0 = some (wz) → hp_a l' 0 40 → hp_i l' 1 (nn) → hp_F cst strs Φ D M 50 l' [.ref 40] h') : hp_F cst strs Φ D M 29 l [] h := by
  refine hp_arc c hM cpB_k hD [nn, o, wz] rfl hy (hp_Bc (z := nn) rfl b0 t0 (hp_Bc (z := o) rfl b1 t1 (hp_Bc (z := wz) rfl b2 t2 hp_Bn))) hp_Fn (hp_Kc (zi := (0 + 0)) (zv := (0 + (1 * o + 0))) k0 rfl rfl (by omega) (by omega) (hp_Kc (zi := (0 + 0)) (zv := (1 + (1 * wz + 0))) k1 rfl rfl (by omega) (by omega) hp_Kn)) (hp_La l0 (hp_Li (z := (0 + (1 * nn + 0))) l1 rfl (by omega) hp_Ln)) trivial ?_ ?_
  · intro p hp ys l' st' h' hys a1 a2 a3 gZ gL gS
    rcases List.mem_cons.mp hp with rfl | hp
    · obtain rfl := hp_y0 hys
      obtain ⟨t0, rfl, g0⟩ := hp_gSa gS (by decide)
      cases hp_gSn g0
      exact e0 l' h' a1 a2 a3 (hp_gK (zi := (0 + 0)) (zv := ((-1) + (1 * o + 0))) gZ.2.2.2 (List.mem_of_getElem? (i := 0) rfl) rfl rfl (by omega) (by omega)) (hp_gK (zi := (0 + 0)) (zv := (0 + (1 * wz + 0))) gZ.2.2.2 (List.mem_of_getElem? (i := 1) rfl) rfl rfl (by omega) (by omega)) (hp_gLa gL (List.mem_of_getElem? (i := 0) rfl) (by decide)) (hp_gLi (z := (0 + (1 * nn + 0))) gL (List.mem_of_getElem? (i := 1) rfl) rfl (by omega))
    cases hp
  · intro p hp ys v h' hys a1 a2 a3 gZ gS
    cases hp
theorem cpC_k : hp_chk 99 53 2 [(0, 0, 5), (1, 0, 1199)] [] [(0, .inr (.inr (.inl (some 40)))), (1, .inl (0, [(0, 1)]))] [] [(6154, (0, []), (0, [(1, 1)]))] [] 2 [(60, ([], 2, [(0, 0, 5), (1, 0, 1199)], [], [(0, .inr (.inr (.inl (some 40)))), (1, .inl (0, [(0, 1)]))], [.inl (1, [(1, 1)]), .inr (.inr (.inl (some 40)))], []))] [] = true := by decide +kernel
theorem cpC {cst : am_K} {strs : List Nat} {Φ : am_Q → Prop} {D : Nat} {M : am_M} {h : am_H} {l : am_L} (c : hp_C cst strs D) (hM : m_P[99]? = some M) (hD : (2 : Int) ≤ (D : Int) + 1) (hy : ly_hy m_tt ly_TH h) (nn b : Int) (b0 : 0 ≤ nn) (t0 : nn ≤ 5) (b1 : 0 ≤ b) (t1 : b ≤ 1199) (k0 : ly_hv cst h 6154 0 = some (b)) (l0 : hp_a l 0 40) (l1 : hp_i l 1 (nn)) (e0 : ∀ (l' : am_L) (h' : am_H) (y0 : Int32), y0.toInt = (b + 1) → ly_hy m_tt ly_TH h' → ly_fr cst [] h h' → h.length ≤ h'.length → hp_a l' 0 40 → hp_i l' 1 (nn) → hp_F cst strs Φ D M 60 l' [.int y0, .ref 40] h') : hp_F cst strs Φ D M 53 l [] h := by
  refine hp_arc c hM cpC_k hD [nn, b] rfl hy (hp_Bc (z := nn) rfl b0 t0 (hp_Bc (z := b) rfl b1 t1 hp_Bn)) hp_Fn (hp_Kc (zi := (0 + 0)) (zv := (0 + (1 * b + 0))) k0 rfl rfl (by omega) (by omega) hp_Kn) (hp_La l0 (hp_Li (z := (0 + (1 * nn + 0))) l1 rfl (by omega) hp_Ln)) trivial ?_ ?_
  · intro p hp ys l' st' h' hys a1 a2 a3 gZ gL gS
    rcases List.mem_cons.mp hp with rfl | hp
    · obtain rfl := hp_y0 hys
      obtain ⟨y0, t0, rfl, q0, g0⟩ := hp_gSi (z := (1 + (1 * b + 0))) gS rfl
      obtain ⟨t1, rfl, g1⟩ := hp_gSa g0 (by decide)
      cases hp_gSn g1
      exact e0 l' h' y0 (by omega) a1 a2 a3 (hp_gLa gL (List.mem_of_getElem? (i := 0) rfl) (by decide)) (hp_gLi (z := (0 + (1 * nn + 0))) gL (List.mem_of_getElem? (i := 1) rfl) rfl (by omega))
    cases hp
  · intro p hp ys v h' hys a1 a2 a3 gZ gS
    cases hp
theorem cpD_k : hp_chk 99 63 1 [(0, 0, 5)] [] [(0, .inr (.inr (.inl (some 40)))), (1, .inl (0, [(0, 1)]))] [] [] [] 2 [(2, ([], 1, [(0, 0, 5)], [], [(0, .inr (.inr (.inl (some 40)))), (1, .inl (1, [(0, 1)]))], [], []))] [] = true := by decide +kernel
theorem cpD {cst : am_K} {strs : List Nat} {Φ : am_Q → Prop} {D : Nat} {M : am_M} {h : am_H} {l : am_L} (c : hp_C cst strs D) (hM : m_P[99]? = some M) (hD : (2 : Int) ≤ (D : Int) + 1) (hy : ly_hy m_tt ly_TH h) (nn : Int) (b0 : 0 ≤ nn) (t0 : nn ≤ 5) (l0 : hp_a l 0 40) (l1 : hp_i l 1 (nn)) (e0 : ∀ (l' : am_L) (h' : am_H), ly_hy m_tt ly_TH h' → ly_fr cst [] h h' → h.length ≤ h'.length → hp_a l' 0 40 → hp_i l' 1 (nn + 1) → hp_F cst strs Φ D M 2 l' [] h') : hp_F cst strs Φ D M 63 l [] h := by
  refine hp_arc c hM cpD_k hD [nn] rfl hy (hp_Bc (z := nn) rfl b0 t0 hp_Bn) hp_Fn hp_Kn (hp_La l0 (hp_Li (z := (0 + (1 * nn + 0))) l1 rfl (by omega) hp_Ln)) trivial ?_ ?_
  · intro p hp ys l' st' h' hys a1 a2 a3 gZ gL gS
    rcases List.mem_cons.mp hp with rfl | hp
    · obtain rfl := hp_y0 hys
      cases hp_gSn gS
      exact e0 l' h' a1 a2 a3 (hp_gLa gL (List.mem_of_getElem? (i := 0) rfl) (by decide)) (hp_gLi (z := (1 + (1 * nn + 0))) gL (List.mem_of_getElem? (i := 1) rfl) rfl (by omega))
    cases hp
  · intro p hp ys v h' hys a1 a2 a3 gZ gS
    cases hp
theorem cpE_k : hp_chk 99 2 0 [] [] [(0, .inr (.inr (.inl (some 40)))), (1, .inl (6, []))] [] [] [] 2 [] [([], 0, [], [], [], [], [])] = true := by decide +kernel
theorem cpE {cst : am_K} {strs : List Nat} {Φ : am_Q → Prop} {D : Nat} {M : am_M} {h : am_H} {l : am_L} (c : hp_C cst strs D) (hM : m_P[99]? = some M) (hD : (2 : Int) ≤ (D : Int) + 1) (hy : ly_hy m_tt ly_TH h) (l0 : hp_a l 0 40) (l1 : hp_i l 1 6) (r0 : ∀ (h' : am_H), ly_hy m_tt ly_TH h' → ly_fr cst [] h h' → h.length ≤ h'.length → Φ (none, h', 0, 0)) : hp_F cst strs Φ D M 2 l [] h := by
  refine hp_arc c hM cpE_k hD [] rfl hy hp_Bn hp_Fn hp_Kn (hp_La l0 (hp_Li (z := (6 + 0)) l1 rfl (by omega) hp_Ln)) trivial ?_ ?_
  · intro p hp ys l' st' h' hys a1 a2 a3 gZ gL gS
    cases hp
  · intro p hp ys v h' hys a1 a2 a3 gZ gS
    rcases List.mem_cons.mp hp with rfl | hp
    · obtain rfl := hp_y0 hys
      have sv := hp_gSn gS
      cases v with
      | some w => cases sv
      | none =>
        exact r0 h' a1 a2 a3
    cases hp
theorem cpF0_k : hp_chk 99 2 2 [(0, 0, 5), (1, 0, 40)] [] [(0, .inr (.inr (.inl (some 40)))), (1, .inl (0, [(0, 1)]))] [] [(6155, (0, []), (0, [(1, 1)]))] [] 2 [] [([], 2, [(0, 0, 5), (1, 0, 40)], [], [], [], [])] = true := by decide +kernel
theorem cpF0 {cst : am_K} {strs : List Nat} {Φ : am_Q → Prop} {D : Nat} {M : am_M} {h : am_H} {l : am_L} (c : hp_C cst strs D) (hM : m_P[99]? = some M) (hD : (2 : Int) ≤ (D : Int) + 1) (hy : ly_hy m_tt ly_TH h) (nn q : Int) (b0 : 0 ≤ nn) (t0 : nn ≤ 5) (b1 : 0 ≤ q) (t1 : q ≤ 40) (k0 : ly_hv cst h 6155 0 = some (q)) (l0 : hp_a l 0 40) (l1 : hp_i l 1 (nn)) (r0 : ∀ (h' : am_H), ly_hy m_tt ly_TH h' → ly_fr cst [] h h' → h.length ≤ h'.length → Φ (none, h', 0, 0)) : hp_F cst strs Φ D M 2 l [] h := by
  refine hp_arc c hM cpF0_k hD [nn, q] rfl hy (hp_Bc (z := nn) rfl b0 t0 (hp_Bc (z := q) rfl b1 t1 hp_Bn)) hp_Fn (hp_Kc (zi := (0 + 0)) (zv := (0 + (1 * q + 0))) k0 rfl rfl (by omega) (by omega) hp_Kn) (hp_La l0 (hp_Li (z := (0 + (1 * nn + 0))) l1 rfl (by omega) hp_Ln)) trivial ?_ ?_
  · intro p hp ys l' st' h' hys a1 a2 a3 gZ gL gS
    cases hp
  · intro p hp ys v h' hys a1 a2 a3 gZ gS
    rcases List.mem_cons.mp hp with rfl | hp
    · obtain rfl := hp_y0 hys
      have sv := hp_gSn gS
      cases v with
      | some w => cases sv
      | none =>
        exact r0 h' a1 a2 a3
    cases hp
theorem cpF1_k : hp_chk 99 2 2 [(0, 0, 5), (1, 42, 255)] [] [(0, .inr (.inr (.inl (some 40)))), (1, .inl (0, [(0, 1)]))] [] [(6155, (0, []), (0, [(1, 1)]))] [] 2 [] [([], 2, [(0, 0, 5), (1, 42, 255)], [], [], [], [])] = true := by decide +kernel
theorem cpF1 {cst : am_K} {strs : List Nat} {Φ : am_Q → Prop} {D : Nat} {M : am_M} {h : am_H} {l : am_L} (c : hp_C cst strs D) (hM : m_P[99]? = some M) (hD : (2 : Int) ≤ (D : Int) + 1) (hy : ly_hy m_tt ly_TH h) (nn q : Int) (b0 : 0 ≤ nn) (t0 : nn ≤ 5) (b1 : 42 ≤ q) (t1 : q ≤ 255) (k0 : ly_hv cst h 6155 0 = some (q)) (l0 : hp_a l 0 40) (l1 : hp_i l 1 (nn)) (r0 : ∀ (h' : am_H), ly_hy m_tt ly_TH h' → ly_fr cst [] h h' → h.length ≤ h'.length → Φ (none, h', 0, 0)) : hp_F cst strs Φ D M 2 l [] h := by
  refine hp_arc c hM cpF1_k hD [nn, q] rfl hy (hp_Bc (z := nn) rfl b0 t0 (hp_Bc (z := q) rfl b1 t1 hp_Bn)) hp_Fn (hp_Kc (zi := (0 + 0)) (zv := (0 + (1 * q + 0))) k0 rfl rfl (by omega) (by omega) hp_Kn) (hp_La l0 (hp_Li (z := (0 + (1 * nn + 0))) l1 rfl (by omega) hp_Ln)) trivial ?_ ?_
  · intro p hp ys l' st' h' hys a1 a2 a3 gZ gL gS
    cases hp
  · intro p hp ys v h' hys a1 a2 a3 gZ gS
    rcases List.mem_cons.mp hp with rfl | hp
    · obtain rfl := hp_y0 hys
      have sv := hp_gSn gS
      cases v with
      | some w => cases sv
      | none =>
        exact r0 h' a1 a2 a3
    cases hp
theorem cpG_k : hp_chk 99 2 1 [(0, 0, 5)] [] [(0, .inr (.inr (.inl (some 40)))), (1, .inl (0, [(0, 1)]))] [] [(6155, (0, []), (41, [])), (6152, (0, []), (0, []))] [] 2 [] [([], 1, [(0, 0, 5)], [], [], [], [])] = true := by decide +kernel
theorem cpG {cst : am_K} {strs : List Nat} {Φ : am_Q → Prop} {D : Nat} {M : am_M} {h : am_H} {l : am_L} (c : hp_C cst strs D) (hM : m_P[99]? = some M) (hD : (2 : Int) ≤ (D : Int) + 1) (hy : ly_hy m_tt ly_TH h) (nn : Int) (b0 : 0 ≤ nn) (t0 : nn ≤ 5) (k0 : ly_hv cst h 6155 0 = some 41) (k1 : ly_hv cst h 6152 0 = some 0) (l0 : hp_a l 0 40) (l1 : hp_i l 1 (nn)) (r0 : ∀ (h' : am_H), ly_hy m_tt ly_TH h' → ly_fr cst [] h h' → h.length ≤ h'.length → Φ (none, h', 0, 0)) : hp_F cst strs Φ D M 2 l [] h := by
  refine hp_arc c hM cpG_k hD [nn] rfl hy (hp_Bc (z := nn) rfl b0 t0 hp_Bn) hp_Fn (hp_Kc (zi := (0 + 0)) (zv := (41 + 0)) k0 rfl rfl (by omega) (by omega) (hp_Kc (zi := (0 + 0)) (zv := (0 + 0)) k1 rfl rfl (by omega) (by omega) hp_Kn)) (hp_La l0 (hp_Li (z := (0 + (1 * nn + 0))) l1 rfl (by omega) hp_Ln)) trivial ?_ ?_
  · intro p hp ys l' st' h' hys a1 a2 a3 gZ gL gS
    cases hp
  · intro p hp ys v h' hys a1 a2 a3 gZ gS
    rcases List.mem_cons.mp hp with rfl | hp
    · obtain rfl := hp_y0 hys
      have sv := hp_gSn gS
      cases v with
      | some w => cases sv
      | none =>
        exact r0 h' a1 a2 a3
    cases hp
theorem cl1_k : hp_chk 101 0 0 [] [] [(0, .inr (.inr (.inl (some 40)))), (1, .inl (1, []))] [] [] [] 2 [(11, ([], 0, [], [], [(0, .inr (.inr (.inl (some 40))))], [.inr (.inl ((-20005), [])), .inr (.inr (.inl (some 30)))], []))] [] = true := by decide +kernel
theorem cl1 {cst : am_K} {strs : List Nat} {Φ : am_Q → Prop} {D : Nat} {M : am_M} {h : am_H} {l : am_L} (c : hp_C cst strs D) (hM : m_P[101]? = some M) (hD : (2 : Int) ≤ (D : Int) + 1) (hy : ly_hy m_tt ly_TH h) (l0 : hp_a l 0 40) (l1 : hp_i l 1 1) (e0 : ∀ (l' : am_L) (h' : am_H) (y0 : Int64), y0.toInt = (-20005) → ly_hy m_tt ly_TH h' → ly_fr cst [] h h' → h.length ≤ h'.length → hp_a l' 0 40 → hp_F cst strs Φ D M 11 l' [.long y0, .ref 30] h') : hp_F cst strs Φ D M 0 l [] h := by
  refine hp_arc c hM cl1_k hD [] rfl hy hp_Bn hp_Fn hp_Kn (hp_La l0 (hp_Li (z := (1 + 0)) l1 rfl (by omega) hp_Ln)) trivial ?_ ?_
  · intro p hp ys l' st' h' hys a1 a2 a3 gZ gL gS
    rcases List.mem_cons.mp hp with rfl | hp
    · obtain rfl := hp_y0 hys
      obtain ⟨y0, t0, rfl, q0, g0⟩ := hp_gSj (z := ((-20005) + 0)) gS rfl
      obtain ⟨t1, rfl, g1⟩ := hp_gSa g0 (by decide)
      cases hp_gSn g1
      exact e0 l' h' y0 (by omega) a1 a2 a3 (hp_gLa gL (List.mem_of_getElem? (i := 0) rfl) (by decide))
    cases hp
  · intro p hp ys v h' hys a1 a2 a3 gZ gS
    cases hp
theorem cl2_k : hp_chk 101 14 0 [] [] [(0, .inr (.inr (.inl (some 40))))] [] [] [] 2 [(21, ([], 0, [], [], [(0, .inr (.inr (.inl (some 40))))], [.inr (.inl ((-20006), [])), .inr (.inr (.inl (some 30)))], []))] [] = true := by decide +kernel
theorem cl2 {cst : am_K} {strs : List Nat} {Φ : am_Q → Prop} {D : Nat} {M : am_M} {h : am_H} {l : am_L} (c : hp_C cst strs D) (hM : m_P[101]? = some M) (hD : (2 : Int) ≤ (D : Int) + 1) (hy : ly_hy m_tt ly_TH h) (l0 : hp_a l 0 40) (e0 : ∀ (l' : am_L) (h' : am_H) (y0 : Int64), y0.toInt = (-20006) → ly_hy m_tt ly_TH h' → ly_fr cst [] h h' → h.length ≤ h'.length → hp_a l' 0 40 → hp_F cst strs Φ D M 21 l' [.long y0, .ref 30] h') : hp_F cst strs Φ D M 14 l [] h := by
  refine hp_arc c hM cl2_k hD [] rfl hy hp_Bn hp_Fn hp_Kn (hp_La l0 hp_Ln) trivial ?_ ?_
  · intro p hp ys l' st' h' hys a1 a2 a3 gZ gL gS
    rcases List.mem_cons.mp hp with rfl | hp
    · obtain rfl := hp_y0 hys
      obtain ⟨y0, t0, rfl, q0, g0⟩ := hp_gSj (z := ((-20006) + 0)) gS rfl
      obtain ⟨t1, rfl, g1⟩ := hp_gSa g0 (by decide)
      cases hp_gSn g1
      exact e0 l' h' y0 (by omega) a1 a2 a3 (hp_gLa gL (List.mem_of_getElem? (i := 0) rfl) (by decide))
    cases hp
  · intro p hp ys v h' hys a1 a2 a3 gZ gS
    cases hp
theorem cl0_k : hp_chk 101 0 2 [(0, (-9223372036854775808), 9223372036854775807), (1, 0, 20)] [] [(0, .inr (.inr (.inl (some 40)))), (1, .inl (0, []))] [] [(6160, (0, []), (0, [(0, 1)])), (6153, (0, []), (0, [(1, 1)]))] [] 2 [(37, ([], 2, [(0, (-9223372036854775808), 9223372036854775807), (1, 0, 20)], [], [(0, .inr (.inr (.inl (some 40))))], [.inl (0, [(1, 1)]), .inr (.inl (0, [(0, 1)])), .inl (0, []), .inr (.inr (.inl (some 30)))], []))] [] = true := by decide +kernel
theorem cl0 {cst : am_K} {strs : List Nat} {Φ : am_Q → Prop} {D : Nat} {M : am_M} {h : am_H} {l : am_L} (c : hp_C cst strs D) (hM : m_P[101]? = some M) (hD : (2 : Int) ≤ (D : Int) + 1) (hy : ly_hy m_tt ly_TH h) (d m : Int) (b0 : (-9223372036854775808) ≤ d) (t0 : d ≤ 9223372036854775807) (b1 : 0 ≤ m) (t1 : m ≤ 20) (k0 : ly_hv cst h 6160 0 = some (d)) (k1 : ly_hv cst h 6153 0 = some (m)) (l0 : hp_a l 0 40) (l1 : hp_i l 1 0) (e0 : ∀ (l' : am_L) (h' : am_H) (y0 : Int32) (y1 : Int64) (y2 : Int32), y0.toInt = (m) → y1.toInt = (d) → y2.toInt = 0 → ly_hy m_tt ly_TH h' → ly_fr cst [] h h' → h.length ≤ h'.length → hp_a l' 0 40 → hp_F cst strs Φ D M 37 l' [.int y0, .long y1, .int y2, .ref 30] h') : hp_F cst strs Φ D M 0 l [] h := by
  refine hp_arc c hM cl0_k hD [d, m] rfl hy (hp_Bc (z := d) rfl b0 t0 (hp_Bc (z := m) rfl b1 t1 hp_Bn)) hp_Fn (hp_Kc (zi := (0 + 0)) (zv := (0 + (1 * d + 0))) k0 rfl rfl (by omega) (by omega) (hp_Kc (zi := (0 + 0)) (zv := (0 + (1 * m + 0))) k1 rfl rfl (by omega) (by omega) hp_Kn)) (hp_La l0 (hp_Li (z := (0 + 0)) l1 rfl (by omega) hp_Ln)) trivial ?_ ?_
  · intro p hp ys l' st' h' hys a1 a2 a3 gZ gL gS
    rcases List.mem_cons.mp hp with rfl | hp
    · obtain rfl := hp_y0 hys
      obtain ⟨y0, t0, rfl, q0, g0⟩ := hp_gSi (z := (0 + (1 * m + 0))) gS rfl
      obtain ⟨y1, t1, rfl, q1, g1⟩ := hp_gSj (z := (0 + (1 * d + 0))) g0 rfl
      obtain ⟨y2, t2, rfl, q2, g2⟩ := hp_gSi (z := (0 + 0)) g1 rfl
      obtain ⟨t3, rfl, g3⟩ := hp_gSa g2 (by decide)
      cases hp_gSn g3
      exact e0 l' h' y0 y1 y2 (by omega) (by omega) (by omega) a1 a2 a3 (hp_gLa gL (List.mem_of_getElem? (i := 0) rfl) (by decide))
    cases hp
  · intro p hp ys v h' hys a1 a2 a3 gZ gS
    cases hp
theorem cl3_k : hp_chk 101 24 2 [(0, (-9223372036854775808), 9223372036854775807), (1, 0, 20)] [] [(0, .inr (.inr (.inl (some 40))))] [] [(6160, (0, []), (0, [(0, 1)])), (6153, (0, []), (0, [(1, 1)]))] [] 2 [(37, ([], 2, [(0, (-9223372036854775808), 9223372036854775807), (1, 0, 20)], [], [(0, .inr (.inr (.inl (some 40))))], [.inl (0, [(1, 1)]), .inr (.inl (0, [(0, 1)])), .inl (0, []), .inr (.inr (.inl (some 30)))], []))] [] = true := by decide +kernel
theorem cl3 {cst : am_K} {strs : List Nat} {Φ : am_Q → Prop} {D : Nat} {M : am_M} {h : am_H} {l : am_L} (c : hp_C cst strs D) (hM : m_P[101]? = some M) (hD : (2 : Int) ≤ (D : Int) + 1) (hy : ly_hy m_tt ly_TH h) (d m : Int) (b0 : (-9223372036854775808) ≤ d) (t0 : d ≤ 9223372036854775807) (b1 : 0 ≤ m) (t1 : m ≤ 20) (k0 : ly_hv cst h 6160 0 = some (d)) (k1 : ly_hv cst h 6153 0 = some (m)) (l0 : hp_a l 0 40) (e0 : ∀ (l' : am_L) (h' : am_H) (y0 : Int32) (y1 : Int64) (y2 : Int32), y0.toInt = (m) → y1.toInt = (d) → y2.toInt = 0 → ly_hy m_tt ly_TH h' → ly_fr cst [] h h' → h.length ≤ h'.length → hp_a l' 0 40 → hp_F cst strs Φ D M 37 l' [.int y0, .long y1, .int y2, .ref 30] h') : hp_F cst strs Φ D M 24 l [] h := by
  refine hp_arc c hM cl3_k hD [d, m] rfl hy (hp_Bc (z := d) rfl b0 t0 (hp_Bc (z := m) rfl b1 t1 hp_Bn)) hp_Fn (hp_Kc (zi := (0 + 0)) (zv := (0 + (1 * d + 0))) k0 rfl rfl (by omega) (by omega) (hp_Kc (zi := (0 + 0)) (zv := (0 + (1 * m + 0))) k1 rfl rfl (by omega) (by omega) hp_Kn)) (hp_La l0 hp_Ln) trivial ?_ ?_
  · intro p hp ys l' st' h' hys a1 a2 a3 gZ gL gS
    rcases List.mem_cons.mp hp with rfl | hp
    · obtain rfl := hp_y0 hys
      obtain ⟨y0, t0, rfl, q0, g0⟩ := hp_gSi (z := (0 + (1 * m + 0))) gS rfl
      obtain ⟨y1, t1, rfl, q1, g1⟩ := hp_gSj (z := (0 + (1 * d + 0))) g0 rfl
      obtain ⟨y2, t2, rfl, q2, g2⟩ := hp_gSi (z := (0 + 0)) g1 rfl
      obtain ⟨t3, rfl, g3⟩ := hp_gSa g2 (by decide)
      cases hp_gSn g3
      exact e0 l' h' y0 y1 y2 (by omega) (by omega) (by omega) a1 a2 a3 (hp_gLa gL (List.mem_of_getElem? (i := 0) rfl) (by decide))
    cases hp
  · intro p hp ys v h' hys a1 a2 a3 gZ gS
    cases hp
theorem cl4_k : hp_chk 101 40 0 [] [] [(0, .inr (.inr (.inl (some 40))))] [] [] [] 2 [] [([], 0, [], [], [], [], [])] = true := by decide +kernel
theorem cl4 {cst : am_K} {strs : List Nat} {Φ : am_Q → Prop} {D : Nat} {M : am_M} {h : am_H} {l : am_L} (c : hp_C cst strs D) (hM : m_P[101]? = some M) (hD : (2 : Int) ≤ (D : Int) + 1) (hy : ly_hy m_tt ly_TH h) (l0 : hp_a l 0 40) (r0 : ∀ (h' : am_H), ly_hy m_tt ly_TH h' → ly_fr cst [] h h' → h.length ≤ h'.length → Φ (none, h', 0, 0)) : hp_F cst strs Φ D M 40 l [] h := by
  refine hp_arc c hM cl4_k hD [] rfl hy hp_Bn hp_Fn hp_Kn (hp_La l0 hp_Ln) trivial ?_ ?_
  · intro p hp ys l' st' h' hys a1 a2 a3 gZ gL gS
    cases hp
  · intro p hp ys v h' hys a1 a2 a3 gZ gS
    rcases List.mem_cons.mp hp with rfl | hp
    · obtain rfl := hp_y0 hys
      have sv := hp_gSn gS
      cases v with
      | some w => cases sv
      | none =>
        exact r0 h' a1 a2 a3
    cases hp
theorem fz90_44 {cst : am_K} {strs : List Nat} {Φ : am_Q → Prop} {D : Nat} {M : am_M} {h : am_H} {l : am_L} (c1 : hp_C cst strs D) (c : hp_C cst strs (D + 1)) (hM : m_P[90]? = some M) (hD : 3 ≤ D) (hy : ly_hy m_tt ly_TH h) {kd pl vl : Int → Int} {t : Nat} {n : Int} (t1 : (t : Int) ≤ 1200) (n0 : 0 ≤ n) (n1 : n ≤ 1200) (X : ct cst h kd pl vl t n) {y : Int32} {b : Nat} (k0 : 1 ≤ y.toInt) (k1 : y.toInt ≤ 4) (ka : ly_hv cst h 6154 0 = some (b : Int)) (b1 : (b : Int) ≤ 1200)
    (k : ∀ (h' : am_H) (w : Int32), w.toInt = 0 → ly_hy m_tt ly_TH h' → ly_fr cst [6144, 6145] h h' → ly_hv cst h' 6144 0 = some y.toInt → ly_hv cst h' 6145 0 = some (pa pl t n b) → Φ (some (.int w), h', 0, 0)) : hp_F cst strs Φ (D + 1) M 44 l [.int y, .ref 40] h := by
  obtain ⟨r, hrun, w, r1, r2, r3, rhy, rfr, e0, k2, k3⟩ := fl_run (xk := y) c1 (by omega) hy t1 n0 n1 X k0 k1 ka b1
  refine hp_call (mi := 90) (pc := 44) (tg := 83) (na := 2) (c := 24) (ci := 4) (st0 := [.int y, .ref 40]) (st := []) (av := [.int y]) hM (by decide +kernel) hy rfl rfl rfl (by decide) hrun r2 r3 ?_
  rw [r1]
  exact fr90_44 c hM (by omega) rhy w e0 (fun h5 v hv u1 u2 u3 => k h5 v hv u1 (ly_fr_tr rfr (hp_sub2 rfl u2)) (u2 _ _ _ rfl k2) (u2 _ _ _ rfl k3))
theorem lz90_85 {cst : am_K} {strs : List Nat} {Φ : am_Q → Prop} {D : Nat} {M : am_M} {h : am_H} {l : am_L} (c1 : hp_C cst strs D) (c : hp_C cst strs (D + 1)) (hM : m_P[90]? = some M) (hD : 3 ≤ D) (hy : ly_hy m_tt ly_TH h) {kd pl vl : Int → Int} {t : Nat} {n : Int} (t1 : (t : Int) ≤ 1200) (kb : kB kd t) (vb : vB kd vl t) (X : ct cst h kd pl vl t n) {y : Int32} {b : Nat} (e : y.toInt = (b : Int)) (b1 : (b : Int) ≤ 1200)
    (k : ∀ (h' : am_H), ly_hy m_tt ly_TH h' → ly_fr cst [6154, 6155, 6156, 6157] h h' → cs cst h' kd vl t b → hp_F cst strs Φ (D + 1) M 88 l [] h') : hp_F cst strs Φ (D + 1) M 85 l [.int y, .ref 40] h := by
  obtain ⟨r, hrun, r1, r2, r3, rhy, rfr, rC⟩ := lk_run (xb := y) c1 (by omega) hy t1 kb vb X e b1
  refine hp_call (mi := 90) (pc := 85) (tg := 78) (na := 2) (c := 24) (ci := 4) (st0 := [.int y, .ref 40]) (st := []) (av := [.int y]) hM (by decide +kernel) hy rfl rfl rfl (by decide) hrun r2 r3 ?_
  rw [r1]
  exact k _ rhy rfr rC
theorem lz99_60 {cst : am_K} {strs : List Nat} {Φ : am_Q → Prop} {D : Nat} {M : am_M} {h : am_H} {l : am_L} (c1 : hp_C cst strs D) (c : hp_C cst strs (D + 1)) (hM : m_P[99]? = some M) (hD : 3 ≤ D) (hy : ly_hy m_tt ly_TH h) {kd pl vl : Int → Int} {t : Nat} {n : Int} (t1 : (t : Int) ≤ 1200) (kb : kB kd t) (vb : vB kd vl t) (X : ct cst h kd pl vl t n) {y : Int32} {b : Nat} (e : y.toInt = (b : Int)) (b1 : (b : Int) ≤ 1200)
    (k : ∀ (h' : am_H), ly_hy m_tt ly_TH h' → ly_fr cst [6154, 6155, 6156, 6157] h h' → cs cst h' kd vl t b → hp_F cst strs Φ (D + 1) M 63 l [] h') : hp_F cst strs Φ (D + 1) M 60 l [.int y, .ref 40] h := by
  obtain ⟨r, hrun, r1, r2, r3, rhy, rfr, rC⟩ := lk_run (xb := y) c1 (by omega) hy t1 kb vb X e b1
  refine hp_call (mi := 99) (pc := 60) (tg := 78) (na := 2) (c := 24) (ci := 4) (st0 := [.int y, .ref 40]) (st := []) (av := [.int y]) hM (by decide +kernel) hy rfl rfl rfl (by decide) hrun r2 r3 ?_
  rw [r1]
  exact k _ rhy rfr rC
theorem dz101_11 {cst : am_K} {strs : List Nat} {Φ : am_Q → Prop} {D : Nat} {M : am_M} {h : am_H} {l : am_L} (c1 : hp_C cst strs D) (c : hp_C cst strs (D + 1)) (hM : m_P[101]? = some M) (hD : 1 ≤ D) (hy : ly_hy m_tt ly_TH h) {i0 : List Int} {L : List Int} (A : it cst h i0 L) (rm : (i0.length : Int) + (L.length : Int) ≤ 10239) {y : Int64}
    (k : ∀ (h' : am_H), ly_hy m_tt ly_TH h' → ly_fr cst [3594, 5888] h h' → it cst h' i0 (L ++ [y.toInt]) → hp_F cst strs Φ (D + 1) M 14 l [] h') : hp_F cst strs Φ (D + 1) M 11 l [.long y, .ref 30] h := by
  obtain ⟨r, hrun, r1, r2, r3, rhy, rfr, rI⟩ := di_run (xv := y) c1 hD hy A rm
  refine hp_call (mi := 101) (pc := 11) (tg := 97) (na := 2) (c := 14) (ci := 3) (st0 := [.long y, .ref 30]) (st := []) (av := [.long y]) hM (by decide +kernel) hy rfl rfl rfl (by decide) hrun r2 r3 ?_
  rw [r1]
  exact k _ rhy rfr rI
theorem dz101_21 {cst : am_K} {strs : List Nat} {Φ : am_Q → Prop} {D : Nat} {M : am_M} {h : am_H} {l : am_L} (c1 : hp_C cst strs D) (c : hp_C cst strs (D + 1)) (hM : m_P[101]? = some M) (hD : 1 ≤ D) (hy : ly_hy m_tt ly_TH h) {i0 : List Int} {L : List Int} (A : it cst h i0 L) (rm : (i0.length : Int) + (L.length : Int) ≤ 10239) {y : Int64}
    (k : ∀ (h' : am_H), ly_hy m_tt ly_TH h' → ly_fr cst [3594, 5888] h h' → it cst h' i0 (L ++ [y.toInt]) → hp_F cst strs Φ (D + 1) M 24 l [] h') : hp_F cst strs Φ (D + 1) M 21 l [.long y, .ref 30] h := by
  obtain ⟨r, hrun, r1, r2, r3, rhy, rfr, rI⟩ := di_run (xv := y) c1 hD hy A rm
  refine hp_call (mi := 101) (pc := 21) (tg := 97) (na := 2) (c := 14) (ci := 3) (st0 := [.long y, .ref 30]) (st := []) (av := [.long y]) hM (by decide +kernel) hy rfl rfl rfl (by decide) hrun r2 r3 ?_
  rw [r1]
  exact k _ rhy rfr rI
/-- what readOpenings leaves -/
def oR (cst : am_K) (h0 : am_H) (kd pl vl : Int → Int) (t : Nat) (n : Int) (a0 : Nat) (c0 : lv) (w0 : List lv) (r : am_Q) : Prop := ∃ v : Int32, r.1 = some (.int v) ∧ r.2.2.1 = 0 ∧ r.2.2.2 = 0 ∧ ly_hy m_tt ly_TH r.2.1 ∧ ly_fr cst (6144 :: 6145 :: [6151, 6152, 6154, 6155, 6156, 6157, 6400, 60080, 60081, 60082]) h0 r.2.1 ∧ ((v.toInt = 0 ∧ ∃ k b, (∀ u m L, cx kd vl t true a0 c0 w0 u m L = .inl (k, b)) ∧ ly_hv cst r.2.1 6144 0 = some k ∧ ly_hv cst r.2.1 6145 0 = some (pa pl t n b)) ∨ (v.toInt = 1 ∧ ly_fr cst [6151, 6152, 6154, 6155, 6156, 6157, 6400, 60080, 60081, 60082] h0 r.2.1 ∧ ∃ b x y z w, (∀ u m L, cx kd vl t true a0 c0 w0 u m L = cx kd vl t true b (x, y, z) w u m L) ∧ cs cst r.2.1 kd vl t b ∧ wt cst r.2.1 (wl (x, y, z) w) ∧ ly_hv cst r.2.1 6152 0 = some (w.length : Int) ∧ w.length ≤ 6 ∧ ak kd vl t b ≠ 20 ∧ fk kd t b ≠ 40 ∧ a0 ≤ b ∧ b ≤ t ∧ (wl (x, y, z) w).length + w0.length + a0 ≤ (wl c0 w0).length + w.length + b))
set_option maxHeartbeats 8000000 in
theorem op_lp {cst : am_K} {strs : List Nat} {D : Nat} {M : am_M} {h0 : am_H} (c2 : hp_C cst strs D) (c1 : hp_C cst strs (D + 1)) (c : hp_C cst strs (D + 1 + 1)) (hM : m_P[90]? = some M) (hD : 3 ≤ D) {kd pl vl : Int → Int} {t : Nat} {n : Int} (t1 : (t : Int) ≤ 1200) (n0 : 0 ≤ n) (n1 : n ≤ 1200) (kb : kB kd t) (vb : vB kd vl t) (X : ct cst h0 kd pl vl t n) {a0 : Nat} {c0 : lv} {w0 : List lv} : ∀ (Q : Nat) (h : am_H) (l : am_L) (a p : Nat) (x y z : Bool) (w : List lv), t - a < Q → a ≤ t → p + a0 ≤ a → a0 ≤ a → ly_hy m_tt ly_TH h → ly_fr cst [6151, 6152, 6154, 6155, 6156, 6157, 6400, 60080, 60081, 60082] h0 h → (∀ u m L, cx kd vl t true a0 c0 w0 u m L = cx kd vl t true a (x, y, z) w u m L) → cs cst h kd vl t a → wt cst h (wl (x, y, z) w) → ly_hv cst h 6152 0 = some (w.length : Int) → w.length ≤ 6 → (wl (x, y, z) w).length + w0.length + a0 ≤ (wl c0 w0).length + w.length + a → hp_a l 0 40 → hp_i l 1 (p : Int) → hp_F cst strs (oR cst h0 kd pl vl t n a0 c0 w0) (D + 1 + 1) M 2 l [] h := by
  intro Q
  induction Q with
  | zero => intro h l a p x y z w hN; omega
  | succ Q ih =>
    intro h l a p x y z w hN at1 hp hp0 hy fr E C Wt ko w6 pot l0 l1
    have b := fk_b kb a
    have ab := ak_b kd vl t a
    obtain ⟨C1, C2, C3, C4⟩ := id C
    -- look, and round again
    have again : ∀ (l2 : am_L) (h2 : am_H) (y0 : Int32) (x' y' z' : Bool) (w' : List lv), a < t → y0.toInt = (a : Int) + 1 → ly_hy m_tt ly_TH h2 → ly_fr cst [6151, 6152, 6154, 6155, 6156, 6157, 6400, 60080, 60081, 60082] h0 h2 → (∀ u m L, cx kd vl t true a0 c0 w0 u m L = cx kd vl t true (a + 1) (x', y', z') w' u m L) → wt cst h2 (wl (x', y', z') w') → ly_hv cst h2 6152 0 = some (w'.length : Int) → w'.length ≤ 6 → (wl (x', y', z') w').length + w0.length + a0 ≤ (wl c0 w0).length + w'.length + (a + 1) → hp_a l2 0 40 → hp_i l2 1 (p : Int) → hp_F cst strs (oR cst h0 kd pl vl t n a0 c0 w0) (D + 1 + 1) M 85 l2 [.int y0, .ref 40] h2 := by
      intro l2 h2 y0 x' y' z' w' lt e0 u1 u2 E2 W2 k2 w62 pot2 m0 m1
      refine lz90_85 c1 c hM (by omega) u1 t1 kb vb (ct_mv X u2 rfl) (b := a + 1) (by omega) (by omega) (fun h3 v1 v2 C3 => ?_)
      exact opG c hM (by omega) v1 (p : Int) (by omega) (by omega) m0 m1 (fun l4 h4 p1 p2 p3 g0 g1 => ih h4 l4 (a + 1) (p + 1) x' y' z' w' (by omega) (by omega) (by omega) (by omega) p1 (ly_fr_tr u2 (ly_fr_tr (hp_sub2 rfl v2) (hp_sub2 rfl p2))) E2 (cs_mv C3 p2 rfl) (wt_mv (wt_mv W2 v2 rfl) p2 rfl) (p2 _ _ _ rfl (v2 _ _ _ rfl k2)) w62 pot2 g0 g1)
    by_cases q20 : ak kd vl t a = 20
    · have f1 := ak_1 (kd := kd) (vl := vl) (t := t) (a := a) (by omega)
      have lt : a < t := fk_in (kd := kd) (by rw [f1]; decide)
      rw [q20] at C4
      have C4 : ly_hv cst h 6157 0 = some 2 := C4
      refine opN c hM (by omega) hy (p : Int) (by omega) (by omega) C4 l0 l1 (fun l2 h2 u1 u2 u3 m0 m1 => ?_)
      obtain ⟨r, hrun, r1, r2, r3, rhy, rfr, rW⟩ := an_run c2 c1 hD u1 (wt_mv Wt u2 rfl) w6
      refine hp_call (mi := 90) (pc := 18) (tg := 91) (na := 1) (c := 24) (ci := 4) (st0 := [.ref 40]) (st := []) (av := []) hM (by decide +kernel) u1 rfl rfl rfl (by decide) hrun r2 r3 ?_
      rw [r1]
      have frr : ly_fr cst [6151, 6152, 6154, 6155, 6156, 6157, 6400, 60080, 60081, 60082] h0 r.2.1 := ly_fr_tr fr (ly_fr_tr (hp_sub2 rfl u2) (hp_sub2 rfl rfr))
      have pn : (wl (x, y, !z) w).length ≤ (wl (x, y, z) w).length + 1 := by
        cases z with
        | true =>
          rw [wl_n, List.length_append, List.length_singleton]
          show (wl (x, y, false) w).length ≤ _
          omega
        | false =>
          show (wl (x, y, true) w).length ≤ _
          rw [wl_n, List.length_append, List.length_singleton]
          exact Nat.le_refl _
      refine opM c hM (by omega) rhy (p : Int) (a : Int) (by omega) (by omega) (by omega) (by omega) (rfr _ _ _ rfl (u2 _ _ _ rfl C1)) m0 m1 (fun l3 h3 y0 e0 v1 v2 v3 g0 g1 => again l3 h3 y0 x y (!z) w lt e0 v1 (ly_fr_tr frr (hp_sub2 rfl v2)) (fun u m L => by rw [E, cx_not q20]) (wt_mv rW v2 rfl) (v2 _ _ _ rfl (rfr _ _ _ rfl (u2 _ _ _ rfl ko))) w6 (by omega) g0 g1)
    have jn : jf (ak kd vl t a) ≠ 2 := by
      unfold jf
      repeat' split
      all_goals omega
    have jb : -1 ≤ jf (ak kd vl t a) ∧ jf (ak kd vl t a) ≤ 6 := by
      by_cases z9 : ak kd vl t a < 17
      · rw [jf_neg z9 ab.1]
        omega
      · have := jf_pos (k := ak kd vl t a) (by omega) ab.2
        omega
    by_cases q40 : fk kd t a = 40
    · have lt : a < t := fk_in (kd := kd) (by rw [q40]; decide)
      rw [q40] at C2
      by_cases o6 : w.length = 6
      · rw [o6] at ko
        have fz : ∀ (l2 : am_L) (h2 : am_H) (y0 : Int32), y0.toInt = 4 → ly_hy m_tt ly_TH h2 → ly_fr cst [] h h2 → hp_F cst strs (oR cst h0 kd pl vl t n a0 c0 w0) (D + 1 + 1) M 44 l2 [.int y0, .ref 40] h2 := fun l2 h2 y0 e0 u1 u2 => fz90_44 c1 c hM (by omega) u1 t1 n0 n1 (ct_mv (ct_mv X fr rfl) u2 rfl) (by omega) (by omega) (u2 _ _ _ rfl C1) (by omega) (fun h3 v hv v1 v2 z1 z2 => ⟨v, rfl, rfl, rfl, v1, ly_fr_tr (hp_sub2 rfl fr) (ly_fr_tr (hp_sub2 rfl u2) (hp_sub2 rfl v2)), Or.inl ⟨hv, 4, a, fun u m L => by rw [E, cx_opf q40 o6], by rw [← e0]; exact z1, z2⟩⟩)
        by_cases j1 : jf (ak kd vl t a) ≤ 1
        · exact opF0 c hM (by omega) hy (p : Int) (jf (ak kd vl t a)) (by omega) (by omega) jb.1 j1 C4 C2 ko l0 l1 (fun l2 h2 y0 e0 u1 u2 u3 m0 m1 => fz l2 h2 y0 e0 u1 u2)
        · exact opF1 c hM (by omega) hy (p : Int) (jf (ak kd vl t a)) (by omega) (by omega) (by omega) jb.2 C4 C2 ko l0 l1 (fun l2 h2 y0 e0 u1 u2 u3 m0 m1 => fz l2 h2 y0 e0 u1 u2)
      · have br : ∀ (l2 : am_L) (h2 : am_H) (y0 : Int32), y0.toInt = 7 → ly_hy m_tt ly_TH h2 → ly_fr cst [] h h2 → hp_a l2 0 40 → hp_i l2 1 (p : Int) → hp_F cst strs (oR cst h0 kd pl vl t n a0 c0 w0) (D + 1 + 1) M 60 l2 [.int y0, .ref 40] h2 := by
          intro l2 h2 y0 e0 u1 u2 m0 m1
          have ll := wl_len w (x, y, z)
          obtain ⟨r, hrun, r1, r2, r3, rhy, rfr, rW⟩ := aw_run (xx := y0) c1 (by omega) u1 (wt_mv Wt u2 rfl) (by omega) (by omega) (by omega)
          refine hp_call (mi := 90) (pc := 60) (tg := 93) (na := 2) (c := 24) (ci := 4) (st0 := [.int y0, .ref 40]) (st := []) (av := [.int y0]) hM (by decide +kernel) u1 rfl rfl rfl (by decide) hrun r2 r3 ?_
          rw [r1]
          rw [e0, ← wl_b] at rW
          have frr : ly_fr cst [6151, 6152, 6154, 6155, 6156, 6157, 6400, 60080, 60081, 60082] h0 r.2.1 := ly_fr_tr fr (ly_fr_tr (hp_sub2 rfl u2) (hp_sub2 rfl rfr))
          refine opC c hM (by omega) rhy (p : Int) (w.length : Int) (a : Int) (by omega) (by omega) (by omega) (by omega) (by omega) (by omega) (rfr _ _ _ rfl (u2 _ _ _ rfl ko)) (rfr _ _ _ rfl (u2 _ _ _ rfl C1)) m0 m1 (fun l3 h3 y1 e1 v1 v2 v3 k3 g0 g1 => again l3 h3 y1 false false false ((x, y, z) :: w) lt e1 v1 (ly_fr_tr frr (hp_sub2 rfl v2)) (fun u m L => by rw [E, cx_opn q40 o6]) (wt_mv rW v2 rfl) (by rw [List.length_cons]; exact k3) (by rw [List.length_cons]; omega) ?_ g0 g1)
          rw [wl_b, List.length_append, List.length_singleton, List.length_cons]
          omega
        by_cases j1 : jf (ak kd vl t a) ≤ 1
        · exact opB0 c hM (by omega) hy (p : Int) (jf (ak kd vl t a)) (w.length : Int) (by omega) (by omega) jb.1 j1 (by omega) (by omega) C4 C2 ko l0 l1 (fun l2 h2 y0 e0 u1 u2 u3 m0 m1 => br l2 h2 y0 e0 u1 u2 m0 m1)
        · exact opB1 c hM (by omega) hy (p : Int) (jf (ak kd vl t a)) (w.length : Int) (by omega) (by omega) (by omega) jb.2 (by omega) (by omega) C4 C2 ko l0 l1 (fun l2 h2 y0 e0 u1 u2 u3 m0 m1 => br l2 h2 y0 e0 u1 u2 m0 m1)
    have fin : ∀ (h3 : am_H) (v : Int32), v.toInt = 1 → ly_hy m_tt ly_TH h3 → ly_fr cst [] h h3 → (oR cst h0 kd pl vl t n a0 c0 w0) (some (.int v), h3, 0, 0) := fun h3 v hv v1 v2 => ⟨v, rfl, rfl, rfl, v1, fr_up (fr_up (ly_fr_tr fr (hp_sub2 rfl v2))), Or.inr ⟨hv, ly_fr_tr fr (hp_sub2 rfl v2), a, x, y, z, w, E, cs_mv C v2 rfl, wt_mv Wt v2 rfl, v2 _ _ _ rfl ko, w6, q20, q40, hp0, at1, pot⟩⟩
    by_cases j1 : jf (ak kd vl t a) ≤ 1
    · by_cases k9 : fk kd t a ≤ 39
      · exact opR00 c hM (by omega) hy (p : Int) (jf (ak kd vl t a)) (fk kd t a) (by omega) (by omega) jb.1 j1 b.1 k9 C4 C2 l0 l1 (fun h3 v hv v1 v2 v3 => fin h3 v hv v1 v2)
      · exact opR01 c hM (by omega) hy (p : Int) (jf (ak kd vl t a)) (fk kd t a) (by omega) (by omega) jb.1 j1 (by omega) (by omega) C4 C2 l0 l1 (fun h3 v hv v1 v2 v3 => fin h3 v hv v1 v2)
    · by_cases k9 : fk kd t a ≤ 39
      · exact opR10 c hM (by omega) hy (p : Int) (jf (ak kd vl t a)) (fk kd t a) (by omega) (by omega) (by omega) jb.2 b.1 k9 C4 C2 l0 l1 (fun h3 v hv v1 v2 v3 => fin h3 v hv v1 v2)
      · exact opR11 c hM (by omega) hy (p : Int) (jf (ak kd vl t a)) (fk kd t a) (by omega) (by omega) (by omega) jb.2 (by omega) (by omega) C4 C2 l0 l1 (fun h3 v hv v1 v2 v3 => fin h3 v hv v1 v2)
/-- readOpenings of the class -/
theorem op_run {cst : am_K} {strs : List Nat} {D : Nat} {h : am_H} (c2 : hp_C cst strs D) (c1 : hp_C cst strs (D + 1)) (c : hp_C cst strs (D + 1 + 1)) (hD : 3 ≤ D) (hy : ly_hy m_tt ly_TH h) {kd pl vl : Int → Int} {t : Nat} {n : Int} (t1 : (t : Int) ≤ 1200) (n0 : 0 ≤ n) (n1 : n ≤ 1200) (kb : kB kd t) (vb : vB kd vl t) (X : ct cst h kd pl vl t n) {a : Nat} {x y z : Bool} {w : List lv} (at1 : a ≤ t) (C : cs cst h kd vl t a) (Wt : wt cst h (wl (x, y, z) w)) (ko : ly_hv cst h 6152 0 = some (w.length : Int)) (w6 : w.length ≤ 6) :
    ∃ r, am_Run cst m_cl m_tt m_P strs sx_bi (D + 1 + 1 + 1) 90 [.ref 40] h r ∧ oR cst h kd pl vl t n a (x, y, z) w r := by
  obtain ⟨M, hM, hl⟩ := hp_M (mi := 90) (k := 1) (by decide +kernel)
  have start : hp_F cst strs (oR cst h kd pl vl t n a (x, y, z) w) (D + 1 + 1) M 0 (lv_args 0 [.ref 40]) [] h := op0 c hM (by omega) hy rfl (fun l1 h1 u1 u2 u3 m0 m1 => op_lp c2 c1 c hM hD t1 n0 n1 kb vb X (t - a + 1) h1 l1 a 0 x y z w (by omega) at1 (by omega) (by omega) u1 (hp_sub2 rfl u2) (fun _ _ _ => rfl) (cs_mv C u2 rfl) (wt_mv Wt u2 rfl) (u2 _ _ _ rfl ko) w6 (by omega) m0 m1)
  obtain ⟨n', r, hgo, q, r1, r2, r3, r4⟩ := start
  simp only [Nat.zero_add] at r2 r3
  exact ⟨r, Or.inr ⟨M, n', hM, hl, hgo⟩, q, r1, r2, r3, r4⟩
/-- what readClosings leaves -/
def cR (cst : am_K) (h0 : am_H) (kd vl : Int → Int) (t : Nat) (i0 : List Int) (P : List Int) (a0 : Nat) (c0 : lv) (w0 : List lv) (L0 : List Int) (r : am_Q) : Prop := r.1 = none ∧ r.2.2.1 = 0 ∧ r.2.2.2 = 0 ∧ ly_hy m_tt ly_TH r.2.1 ∧ ly_fr cst [3594, 5888, 6151, 6152, 6154, 6155, 6156, 6157, 60080, 60081, 60082] h0 r.2.1 ∧ ∃ b x y w L, (∀ u m, cx kd vl t false a0 c0 w0 u m L0 = cx kd vl t false b (x, y, false) w u m L) ∧ cs cst r.2.1 kd vl t b ∧ wt cst r.2.1 (wl (x, y, false) w) ∧ ly_hv cst r.2.1 6152 0 = some (w.length : Int) ∧ w.length ≤ 6 ∧ it cst r.2.1 i0 (P ++ L) ∧ (fk kd t b = 41 → w = []) ∧ a0 ≤ b ∧ b ≤ t ∧ L.length + (wl (x, y, false) w).length + w0.length + a0 ≤ L0.length + (wl c0 w0).length + w.length + b ∧ L.length ≤ L0.length + (wl c0 w0).length
theorem rl_len (a b : Bool) (w : List lv) : (rl (a, b, false)).length + (wl (false, false, false) w).length = (wl (a, b, false) w).length := by
  cases a <;> cases b <;> cases w <;> simp [rl, an, wl, wf] <;> omega
theorem nt_len (a b d : Bool) (w : List lv) : (nt d).length + (wl (a, b, false) w).length = (wl (a, b, d) w).length := by
  cases d with
  | true =>
    rw [wl_n, List.length_append, List.length_singleton]
    show 1 + _ = _
    omega
  | false =>
    show 0 + _ = _
    omega
set_option maxHeartbeats 8000000 in
theorem cp_lp {cst : am_K} {strs : List Nat} {D : Nat} {M : am_M} {h0 : am_H} (c2 : hp_C cst strs D) (c1 : hp_C cst strs (D + 1)) (c : hp_C cst strs (D + 1 + 1)) (hM : m_P[99]? = some M) (hD : 3 ≤ D) {kd pl vl : Int → Int} {t : Nat} {n : Int} (t1 : (t : Int) ≤ 1200) (n0 : 0 ≤ n) (n1 : n ≤ 1200) (kb : kB kd t) (vb : vB kd vl t) (X : ct cst h0 kd pl vl t n) {i0 : List Int} {P : List Int} {a0 : Nat} {c0 : lv} {w0 : List lv} {L0 : List Int} (rm : (i0.length : Int) + (P.length : Int) + (L0.length : Int) + ((wl c0 w0).length : Int) ≤ 10238) : ∀ (Q : Nat) (h : am_H) (l : am_L) (a : Nat) (x y : Bool) (w : List lv) (L : List Int), Q ≤ 6 → w.length ≤ Q → a ≤ t → a0 ≤ a → ly_hy m_tt ly_TH h → ly_fr cst [3594, 5888, 6151, 6152, 6154, 6155, 6156, 6157, 60080, 60081, 60082] h0 h → (∀ u m, cx kd vl t false a0 c0 w0 u m L0 = cx kd vl t false a (x, y, false) w u m L) → cs cst h kd vl t a → wt cst h (wl (x, y, false) w) → ly_hv cst h 6152 0 = some (w.length : Int) → it cst h i0 (P ++ L) → L.length + (wl (x, y, false) w).length + w0.length + a0 ≤ L0.length + (wl c0 w0).length + w.length + a → L.length + (wl (x, y, false) w).length ≤ L0.length + (wl c0 w0).length → hp_a l 0 40 → hp_i l 1 ((6 - Q : Nat) : Int) → hp_F cst strs (cR cst h0 kd vl t i0 P a0 c0 w0 L0) (D + 1 + 1) M 2 l [] h := by
  intro Q
  induction Q with
  | zero =>
    intro h l a x y w L hQ w6 at1 hp0 hy fr E C Wt ko I pot pot2 l0 l1
    have w0' : w = [] := List.length_eq_zero_iff.mp (by omega)
    exact cpE c hM (by omega) hy l0 l1 (fun h3 v1 v2 v3 => ⟨rfl, rfl, rfl, v1, ly_fr_tr fr (hp_sub2 rfl v2), a, x, y, w, L, E, cs_mv C v2 rfl, wt_mv Wt v2 rfl, v2 _ _ _ rfl ko, by omega, it_mv I v2 rfl, fun _ => w0', hp0, at1, pot, by omega⟩)
  | succ Q ih =>
    intro h l a x y w L hQ w6 at1 hp0 hy fr E C Wt ko I pot pot2 l0 l1
    have b := fk_b kb a
    obtain ⟨C1, C2, C3, C4⟩ := id C
    have fin : (fk kd t a = 41 → w = []) → ∀ (h3 : am_H), ly_hy m_tt ly_TH h3 → ly_fr cst [] h h3 → (cR cst h0 kd vl t i0 P a0 c0 w0 L0) (none, h3, 0, 0) := fun e h3 v1 v2 => ⟨rfl, rfl, rfl, v1, ly_fr_tr fr (hp_sub2 rfl v2), a, x, y, w, L, E, cs_mv C v2 rfl, wt_mv Wt v2 rfl, v2 _ _ _ rfl ko, by omega, it_mv I v2 rfl, e, hp0, at1, pot, by omega⟩
    by_cases q41 : fk kd t a = 41
    rotate_left
    · by_cases k9 : fk kd t a ≤ 40
      · exact cpF0 c hM (by omega) hy ((6 - (Q + 1) : Nat) : Int) (fk kd t a) (by omega) (by omega) b.1 k9 C2 l0 l1 (fun h3 v1 v2 v3 => fin (fun z => absurd z q41) h3 v1 v2)
      · exact cpF1 c hM (by omega) hy ((6 - (Q + 1) : Nat) : Int) (fk kd t a) (by omega) (by omega) (by omega) (by omega) C2 l0 l1 (fun h3 v1 v2 v3 => fin (fun z => absurd z q41) h3 v1 v2)
    have lt : a < t := fk_in (kd := kd) (by rw [q41]; decide)
    rw [q41] at C2
    cases w with
    | nil => exact cpG c hM (by omega) hy ((6 - (Q + 1) : Nat) : Int) (by omega) (by omega) C2 ko l0 l1 (fun h3 v1 v2 v3 => fin (fun _ => rfl) h3 v1 v2)
    | cons d w =>
      obtain ⟨dx, dy, dz⟩ := d
      rw [List.length_cons] at w6 ko pot
      refine cpA c hM (by omega) hy ((6 - (Q + 1) : Nat) : Int) ((w.length + 1 : Nat) : Int) (by omega) (by omega) (by omega) (by omega) C2 ko l0 l1 (fun l2 h2 y0 e0 u1 u2 u3 m0 m1 => ?_)
      have lenP : (P ++ L).length = P.length + L.length := List.length_append
      have rll := rl_len x y ((dx, dy, dz) :: w)
      rw [wl_b, List.length_append, List.length_singleton] at rll
      obtain ⟨r, hrun, r1, r2, r3, rhy, rfr, -, rE⟩ := re_run (xx := y0) c2 c1 hD u1 (wt_mv Wt u2 rfl) (by rw [List.length_cons]; omega) (it_mv I u2 rfl) (by omega) (by omega) (by omega)
      obtain ⟨rW, rI⟩ := rE e0
      refine hp_call (mi := 99) (pc := 26) (tg := 100) (na := 2) (c := 24) (ci := 4) (st0 := [.int y0, .ref 40]) (st := []) (av := [.int y0]) hM (by decide +kernel) u1 rfl rfl rfl (by decide) hrun r2 r3 ?_
      rw [r1]
      rw [wl_b] at rW
      have ll := wl_len w (dx, dy, dz)
      refine cpB c hM (by omega) rhy ((6 - (Q + 1) : Nat) : Int) ((w.length + 1 : Nat) : Int) ((wl (dx, dy, dz) w).length : Int) (by omega) (by omega) (by omega) (by omega) (by omega) (by omega) (rfr _ _ _ rfl (u2 _ _ _ rfl ko)) (wt_top rW).1 m0 m1 (fun l3 h3 v1 v2 v3 k3 k4 g0 g1 => ?_)
      have W3 : wt cst h3 (wl (dx, dy, dz) w) := wt_pop rW v2 rfl k4
      have lenR : (P ++ L ++ rl (x, y, false)).length = P.length + L.length + (rl (x, y, false)).length := by
        rw [List.length_append, lenP]
      obtain ⟨r', hrun', s1, s2, s3, shy, sfr, sW, sI⟩ := rn_run c2 c1 hD v1 W3 (by omega) (it_mv rI v2 rfl) (by omega)
      refine hp_call (mi := 99) (pc := 50) (tg := 98) (na := 1) (c := 24) (ci := 4) (st0 := [.ref 40]) (st := []) (av := []) hM (by decide +kernel) v1 rfl rfl rfl (by decide) hrun' s2 s3 ?_
      rw [s1]
      have frr : ly_fr cst [3594, 5888, 6151, 6152, 6154, 6155, 6156, 6157, 60080, 60081, 60082] h0 r'.2.1 := ly_fr_tr fr (ly_fr_tr (hp_sub2 rfl u2) (ly_fr_tr (hp_sub2 rfl rfr) (ly_fr_tr (hp_sub2 rfl v2) (hp_sub2 rfl sfr))))
      refine cpC c hM (by omega) shy ((6 - (Q + 1) : Nat) : Int) (a : Int) (by omega) (by omega) (by omega) (by omega) (sfr _ _ _ rfl (v2 _ _ _ rfl (rfr _ _ _ rfl (u2 _ _ _ rfl C1)))) g0 g1 (fun l4 h4 y1 e1 p1 p2 p3 i1 i2 => ?_)
      refine lz99_60 c1 c hM (by omega) p1 t1 kb vb (ct_mv (ct_mv X frr rfl) p2 rfl) (b := a + 1) (by omega) (by omega) (fun h5 f1 f2 C5 => ?_)
      have ntl := nt_len dx dy dz w
      have lenL : (L ++ rl (x, y, false) ++ nt dz).length = L.length + (rl (x, y, false)).length + (nt dz).length := by
        rw [List.length_append, List.length_append]
      have assoc : P ++ L ++ rl (x, y, false) ++ nt dz = P ++ (L ++ rl (x, y, false) ++ nt dz) := by
        simp only [List.append_assoc]
      rw [assoc] at sI
      refine cpD c hM (by omega) f1 ((6 - (Q + 1) : Nat) : Int) (by omega) (by omega) i1 i2 (fun l6 h6 d1 d2 d3 j0 j1 => ih h6 l6 (a + 1) dx dy w (L ++ rl (x, y, false) ++ nt dz) (by omega) (by omega) (by omega) (by omega) d1 (ly_fr_tr frr (ly_fr_tr (hp_sub2 rfl p2) (ly_fr_tr (hp_sub2 rfl f2) (hp_sub2 rfl d2)))) (fun u m => by rw [E, cx_sh q41]) (cs_mv C5 d2 rfl) (wt_mv (wt_mv (wt_mv sW p2 rfl) f2 rfl) d2 rfl) (d2 _ _ _ rfl (f2 _ _ _ rfl (p2 _ _ _ rfl (sfr _ _ _ rfl (by rw [k3]; congr 1 <;> omega))))) (it_mv (it_mv (it_mv sI p2 rfl) f2 rfl) d2 rfl) (by omega) (by omega) j0 (by rw [show ((6 - Q : Nat) : Int) = ((6 - (Q + 1) : Nat) : Int) + 1 by omega]; exact j1))
/-- readClosings of the class -/
theorem cp_run {cst : am_K} {strs : List Nat} {D : Nat} {h : am_H} (c2 : hp_C cst strs D) (c1 : hp_C cst strs (D + 1)) (c : hp_C cst strs (D + 1 + 1)) (hD : 3 ≤ D) (hy : ly_hy m_tt ly_TH h) {kd pl vl : Int → Int} {t : Nat} {n : Int} (t1 : (t : Int) ≤ 1200) (n0 : 0 ≤ n) (n1 : n ≤ 1200) (kb : kB kd t) (vb : vB kd vl t) (X : ct cst h kd pl vl t n) {a : Nat} {i0 : List Int} {P : List Int} {x y : Bool} {w : List lv} {L : List Int} (rm : (i0.length : Int) + (P.length : Int) + (L.length : Int) + ((wl (x, y, false) w).length : Int) ≤ 10238) (at1 : a ≤ t) (C : cs cst h kd vl t a) (Wt : wt cst h (wl (x, y, false) w)) (ko : ly_hv cst h 6152 0 = some (w.length : Int)) (w6 : w.length ≤ 6) (I : it cst h i0 (P ++ L)) :
    ∃ r, am_Run cst m_cl m_tt m_P strs sx_bi (D + 1 + 1 + 1) 99 [.ref 40] h r ∧ cR cst h kd vl t i0 P a (x, y, false) w L r := by
  obtain ⟨M, hM, hl⟩ := hp_M (mi := 99) (k := 1) (by decide +kernel)
  have start : hp_F cst strs (cR cst h kd vl t i0 P a (x, y, false) w L) (D + 1 + 1) M 0 (lv_args 0 [.ref 40]) [] h := cp0 c hM (by omega) hy rfl (fun l1 h1 u1 u2 u3 m0 m1 => cp_lp c2 c1 c hM hD t1 n0 n1 kb vb X rm 6 h1 l1 a x y w L (by omega) w6 at1 (by omega) u1 (hp_sub2 rfl u2) (fun _ _ => rfl) (cs_mv C u2 rfl) (wt_mv Wt u2 rfl) (u2 _ _ _ rfl ko) (it_mv I u2 rfl) (by omega) (by omega) m0 m1)
  obtain ⟨n', r, hgo, r1, r2, r3, r4⟩ := start
  simp only [Nat.zero_add] at r2 r3
  exact ⟨r, Or.inr ⟨M, n', hM, hl, hgo⟩, r1, r2, r3, r4⟩
/-- closeDeed of the class -/
theorem clo_run {cst : am_K} {strs : List Nat} {D : Nat} {h : am_H} (c1 : hp_C cst strs D) (c : hp_C cst strs (D + 1)) (hD : 3 ≤ D) (hy : ly_hy m_tt ly_TH h) {i0 : List Int} {c0 : List cl} {m : Nat} {C : List cl} {L : List Int} {A d : Int} {u : Bool} (Xd : dr cst h i0 c0 C) (I : it cst h i0 (cit C ++ L)) (rm : (c0.length : Int) + (C.length : Int) ≤ 1239) (ri : (i0.length : Int) + ((cit C ++ L).length : Int) ≤ 10237) (a0 : 0 ≤ A) (a1 : A ≤ 30) (kA : ly_hv cst h 3584 0 = some A) (m1 : m ≤ 20) (kd' : ly_hv cst h 6160 0 = some d) (d0 : -9223372036854775808 ≤ d) (d1 : d ≤ 9223372036854775807) (km : ly_hv cst h 6153 0 = some (m : Int)) {xu : Int32} (eu : xu.toInt = if u = true then 1 else 0) :
    ∃ r, am_Run cst m_cl m_tt m_P strs sx_bi (D + 1 + 1) 101 [.ref 40, .int xu] h r ∧ (fun r : am_Q => r.1 = none ∧ r.2.2.1 = 0 ∧ r.2.2.2 = 0 ∧ ly_hy m_tt ly_TH r.2.1 ∧ ly_fr cst [3588, 3594, 4608, 4864, 5120, 5376, 5632, 5888, 60010, 60011, 60012] h r.2.1 ∧ dr cst r.2.1 i0 c0 (C ++ [(0, d, (m : Int), L ++ (bif u then [-20005, -20006] else []))]) ∧ it cst r.2.1 i0 (cit C ++ (L ++ (bif u then [-20005, -20006] else [])))) r := by
  obtain ⟨M, hM, hl⟩ := hp_M (mi := 101) (k := 2) (by decide +kernel)
  have fin : ∀ (E : List Int) (l2 : am_L) (h2 : am_H) (y0 : Int32) (y1 : Int64) (y2 : Int32), E = (bif u then [-20005, -20006] else []) → y0.toInt = (m : Int) → y1.toInt = d → y2.toInt = 0 → ly_hy m_tt ly_TH h2 → ly_fr cst [3594, 5888] h h2 → it cst h2 i0 (cit C ++ (L ++ E)) → (i0.length : Int) + ((cit C ++ (L ++ E)).length : Int) ≤ 10240 → hp_a l2 0 40 → hp_F cst strs (fun r : am_Q => r.1 = none ∧ r.2.2.1 = 0 ∧ r.2.2.2 = 0 ∧ ly_hy m_tt ly_TH r.2.1 ∧ ly_fr cst [3588, 3594, 4608, 4864, 5120, 5376, 5632, 5888, 60010, 60011, 60012] h r.2.1 ∧ dr cst r.2.1 i0 c0 (C ++ [(0, d, (m : Int), L ++ (bif u then [-20005, -20006] else []))]) ∧ it cst r.2.1 i0 (cit C ++ (L ++ (bif u then [-20005, -20006] else [])))) (D + 1) M 37 l2 [.int y0, .long y1, .int y2, .ref 30] h2 := by
    intro E l2 h2 y0 y1 y2 eE e0 e1 e2 u1 u2 I2 ri2 m0
    obtain ⟨r, hrun, r1, r2, r3, rhy, rfr, rD⟩ := dc_run (xk := y2) (xd := y1) (xn := y0) (L := L ++ E) c1 (by omega) u1 (dr_mv Xd u2 rfl) I2 rm ri2 a0 a1 (u2 _ _ _ rfl kA)
    refine hp_call (mi := 101) (pc := 37) (tg := 102) (na := 4) (c := 14) (ci := 3) (st0 := [.int y0, .long y1, .int y2, .ref 30]) (st := []) (av := [.int y2, .long y1, .int y0]) hM (by decide +kernel) u1 rfl rfl rfl (by decide) hrun r2 r3 ?_
    rw [r1]
    rw [e0, e1, e2, eE] at rD
    rw [eE] at I2
    exact cl4 c hM (by omega) rhy m0 (fun h5 p1 p2 p3 => ⟨rfl, rfl, rfl, p1, ly_fr_tr (hp_sub2 rfl u2) (ly_fr_tr (hp_sub2 rfl rfr) (hp_sub2 rfl p2)), dr_mv rD p2 rfl, it_mv (it_mv I2 rfr rfl) p2 rfl⟩)
  have start : hp_F cst strs (fun r : am_Q => r.1 = none ∧ r.2.2.1 = 0 ∧ r.2.2.2 = 0 ∧ ly_hy m_tt ly_TH r.2.1 ∧ ly_fr cst [3588, 3594, 4608, 4864, 5120, 5376, 5632, 5888, 60010, 60011, 60012] h r.2.1 ∧ dr cst r.2.1 i0 c0 (C ++ [(0, d, (m : Int), L ++ (bif u then [-20005, -20006] else []))]) ∧ it cst r.2.1 i0 (cit C ++ (L ++ (bif u then [-20005, -20006] else [])))) (D + 1) M 0 (lv_args 0 [.ref 40, .int xu]) [] h := by
    cases u with
    | false =>
      exact cl0 c hM (by omega) hy d (m : Int) d0 d1 (by omega) (by omega) kd' km rfl ⟨xu, rfl, eu⟩ (fun l2 h2 y0 y1 y2 e0 e1 e2 u1 u2 u3 m0 => fin [] l2 h2 y0 y1 y2 rfl e0 e1 e2 u1 (hp_sub2 rfl u2) (by rw [List.append_nil]; exact it_mv I u2 rfl) (by rw [List.append_nil]; omega) m0)
    | true =>
      have len : (cit C ++ (L ++ [-20005, -20006])).length = (cit C ++ L).length + 2 := by
        rw [List.length_append, List.length_append, List.length_append]
        simp only [List.length_cons, List.length_nil]
        omega
      refine cl1 c hM (by omega) hy rfl ⟨xu, rfl, eu⟩ (fun l2 h2 y0 e0 u1 u2 u3 m0 => ?_)
      refine dz101_11 c1 c hM (by omega) u1 (it_mv I u2 rfl) (by omega) (fun h3 v1 v2 I3 => ?_)
      refine cl2 c hM (by omega) v1 m0 (fun l4 h4 y1 e1 w1 w2 w3 g0 => ?_)
      have len1 : (cit C ++ L ++ [y0.toInt]).length = (cit C ++ L).length + 1 := by
        rw [List.length_append, List.length_singleton]
      refine dz101_21 c1 c hM (by omega) w1 (it_mv I3 w2 rfl) (by omega) (fun h5 p1 p2 I5 => ?_)
      rw [e0, e1] at I5
      have f5 : ly_fr cst [3594, 5888] h h5 := ly_fr_tr (hp_sub2 rfl u2) (ly_fr_tr (hp_sub2 rfl v2) (ly_fr_tr (hp_sub2 rfl w2) (hp_sub2 rfl p2)))
      have as5 : cit C ++ L ++ [-20005] ++ [-20006] = cit C ++ (L ++ [-20005, -20006]) := by
        simp only [List.append_assoc, List.cons_append, List.nil_append]
      rw [as5] at I5
      exact cl3 c hM (by omega) p1 d (m : Int) d0 d1 (by omega) (by omega) (f5 _ _ _ rfl kd') (f5 _ _ _ rfl km) g0 (fun l6 h6 y2 y3 y4 e2 e3 e4 s1 s2 s3 i0' => fin [-20005, -20006] l6 h6 y2 y3 y4 rfl e2 e3 e4 s1 (ly_fr_tr f5 (hp_sub2 rfl s2)) (it_mv I5 s2 rfl) (by omega) i0')
  obtain ⟨n', r, hgo, r1, r2, r3, r4⟩ := start
  simp only [Nat.zero_add] at r2 r3
  exact ⟨r, Or.inr ⟨M, n', hM, hl, hgo⟩, r1, r2, r3, r4⟩
