/-! PRINTED by wip/p2/hp_text.py: readText of the class, exactly -/
theorem rt0_k : hp_chk 77 0 0 [] [] [(0, .inr (.inr (.inl (some 40))))] [] [] [6144, 6145] 2 [(12, ([], 0, [], [], [(0, .inr (.inr (.inl (some 40))))], [.inl (0, []), .inr (.inr (.inl (some 40)))], [(6144, (0, []), (0, [])), (6145, (0, []), ((-1), []))]))] [] = true := by decide +kernel
theorem rt0 {cst : am_K} {strs : List Nat} {Φ : am_Q → Prop} {D : Nat} {M : am_M} {h : am_H} {l : am_L} (c : hp_C cst strs D) (hM : m_P[77]? = some M) (hD : (2 : Int) ≤ (D : Int) + 1) (hy : ly_hy m_tt ly_TH h) (l0 : hp_a l 0 40) (e0 : ∀ (l' : am_L) (h' : am_H) (y0 : Int32), y0.toInt = 0 → ly_hy m_tt ly_TH h' → ly_fr cst [6144, 6145] h h' → h.length ≤ h'.length → ly_hv cst h' 6144 0 = some 0 → ly_hv cst h' 6145 0 = some (-1) → hp_a l' 0 40 → hp_F cst strs Φ D M 12 l' [.int y0, .ref 40] h') : hp_F cst strs Φ D M 0 l [] h := by
  refine hp_arc c hM rt0_k hD [] rfl hy hp_Bn hp_Fn hp_Kn (hp_La l0 hp_Ln) trivial ?_ ?_
  · intro p hp ys l' st' h' hys a1 a2 a3 gZ gL gS
    rcases List.mem_cons.mp hp with rfl | hp
    · obtain rfl := hp_y0 hys
      obtain ⟨y0, t0, rfl, q0, g0⟩ := hp_gSi (z := (0 + 0)) gS rfl
      obtain ⟨t1, rfl, g1⟩ := hp_gSa g0 (by decide)
      cases hp_gSn g1
      exact e0 l' h' y0 (by omega) a1 a2 a3 (hp_gK (zi := (0 + 0)) (zv := (0 + 0)) gZ.2.2.2 (List.mem_of_getElem? (i := 0) rfl) rfl rfl (by omega) (by omega)) (hp_gK (zi := (0 + 0)) (zv := ((-1) + 0)) gZ.2.2.2 (List.mem_of_getElem? (i := 1) rfl) rfl rfl (by omega) (by omega)) (hp_gLa gL (List.mem_of_getElem? (i := 0) rfl) (by decide))
    cases hp
  · intro p hp ys v h' hys a1 a2 a3 gZ gS
    cases hp
theorem rt1_k : hp_chk 77 15 0 [] [] [(0, .inr (.inr (.inl (some 40))))] [] [] [] 2 [(17, ([], 0, [], [], [(0, .inr (.inr (.inl (some 40)))), (1, .inl (0, []))], [], []))] [] = true := by decide +kernel
theorem rt1 {cst : am_K} {strs : List Nat} {Φ : am_Q → Prop} {D : Nat} {M : am_M} {h : am_H} {l : am_L} (c : hp_C cst strs D) (hM : m_P[77]? = some M) (hD : (2 : Int) ≤ (D : Int) + 1) (hy : ly_hy m_tt ly_TH h) (l0 : hp_a l 0 40) (e0 : ∀ (l' : am_L) (h' : am_H), ly_hy m_tt ly_TH h' → ly_fr cst [] h h' → h.length ≤ h'.length → hp_a l' 0 40 → hp_i l' 1 0 → hp_F cst strs Φ D M 17 l' [] h') : hp_F cst strs Φ D M 15 l [] h := by
  refine hp_arc c hM rt1_k hD [] rfl hy hp_Bn hp_Fn hp_Kn (hp_La l0 hp_Ln) trivial ?_ ?_
  · intro p hp ys l' st' h' hys a1 a2 a3 gZ gL gS
    rcases List.mem_cons.mp hp with rfl | hp
    · obtain rfl := hp_y0 hys
      cases hp_gSn gS
      exact e0 l' h' a1 a2 a3 (hp_gLa gL (List.mem_of_getElem? (i := 0) rfl) (by decide)) (hp_gLi (z := (0 + 0)) gL (List.mem_of_getElem? (i := 1) rfl) rfl (by omega))
    cases hp
  · intro p hp ys v h' hys a1 a2 a3 gZ gS
    cases hp
theorem rtA_k : hp_chk 77 17 1 [(0, 0, 1200)] [] [(0, .inr (.inr (.inl (some 40)))), (1, .inl (0, [(0, 1)]))] [] [(6155, (0, []), (0, []))] [] 2 [] [([], 1, [(0, 0, 1200)], [], [], [.inl (1, [])], [])] = true := by decide +kernel
theorem rtA {cst : am_K} {strs : List Nat} {Φ : am_Q → Prop} {D : Nat} {M : am_M} {h : am_H} {l : am_L} (c : hp_C cst strs D) (hM : m_P[77]? = some M) (hD : (2 : Int) ≤ (D : Int) + 1) (hy : ly_hy m_tt ly_TH h) (nn : Int) (b0 : 0 ≤ nn) (t0 : nn ≤ 1200) (k0 : ly_hv cst h 6155 0 = some 0) (l0 : hp_a l 0 40) (l1 : hp_i l 1 (nn)) (r0 : ∀ (h' : am_H) (y0 : Int32), y0.toInt = 1 → ly_hy m_tt ly_TH h' → ly_fr cst [] h h' → h.length ≤ h'.length → Φ (some (.int y0), h', 0, 0)) : hp_F cst strs Φ D M 17 l [] h := by
  refine hp_arc c hM rtA_k hD [nn] rfl hy (hp_Bc (z := nn) rfl b0 t0 hp_Bn) hp_Fn (hp_Kc (zi := (0 + 0)) (zv := (0 + 0)) k0 rfl rfl (by omega) (by omega) hp_Kn) (hp_La l0 (hp_Li (z := (0 + (1 * nn + 0))) l1 rfl (by omega) hp_Ln)) trivial ?_ ?_
  · intro p hp ys l' st' h' hys a1 a2 a3 gZ gL gS
    cases hp
  · intro p hp ys v h' hys a1 a2 a3 gZ gS
    rcases List.mem_cons.mp hp with rfl | hp
    · obtain rfl := hp_y0 hys
      cases v with
      | none => cases gS
      | some w =>
        obtain ⟨y0, t0, s0, q0, -⟩ := hp_gSi (z := (1 + 0)) gS rfl
        cases s0
        exact r0 h' y0 (by omega) a1 a2 a3
    cases hp
theorem rtB_k : hp_chk 77 17 2 [(0, 0, 1200), (1, 1, 255)] [] [(0, .inr (.inr (.inl (some 40)))), (1, .inl (0, [(0, 1)]))] [] [(6155, (0, []), (0, [(1, 1)]))] [] 2 [(34, ([], 2, [(0, 0, 1200), (1, 1, 255)], [], [(0, .inr (.inr (.inl (some 40)))), (1, .inl (0, [(0, 1)]))], [.inr (.inr (.inl (some 40)))], []))] [] = true := by decide +kernel
theorem rtB {cst : am_K} {strs : List Nat} {Φ : am_Q → Prop} {D : Nat} {M : am_M} {h : am_H} {l : am_L} (c : hp_C cst strs D) (hM : m_P[77]? = some M) (hD : (2 : Int) ≤ (D : Int) + 1) (hy : ly_hy m_tt ly_TH h) (nn q : Int) (b0 : 0 ≤ nn) (t0 : nn ≤ 1200) (b1 : 1 ≤ q) (t1 : q ≤ 255) (k0 : ly_hv cst h 6155 0 = some (q)) (l0 : hp_a l 0 40) (l1 : hp_i l 1 (nn)) (e0 : ∀ (l' : am_L) (h' : am_H), ly_hy m_tt ly_TH h' → ly_fr cst [] h h' → h.length ≤ h'.length → hp_a l' 0 40 → hp_i l' 1 (nn) → hp_F cst strs Φ D M 34 l' [.ref 40] h') : hp_F cst strs Φ D M 17 l [] h := by
  refine hp_arc c hM rtB_k hD [nn, q] rfl hy (hp_Bc (z := nn) rfl b0 t0 (hp_Bc (z := q) rfl b1 t1 hp_Bn)) hp_Fn (hp_Kc (zi := (0 + 0)) (zv := (0 + (1 * q + 0))) k0 rfl rfl (by omega) (by omega) hp_Kn) (hp_La l0 (hp_Li (z := (0 + (1 * nn + 0))) l1 rfl (by omega) hp_Ln)) trivial ?_ ?_
  · intro p hp ys l' st' h' hys a1 a2 a3 gZ gL gS
    rcases List.mem_cons.mp hp with rfl | hp
    · obtain rfl := hp_y0 hys
      obtain ⟨t0, rfl, g0⟩ := hp_gSa gS (by decide)
      cases hp_gSn g0
      exact e0 l' h' a1 a2 a3 (hp_gLa gL (List.mem_of_getElem? (i := 0) rfl) (by decide)) (hp_gLi (z := (0 + (1 * nn + 0))) gL (List.mem_of_getElem? (i := 1) rfl) rfl (by omega))
    cases hp
  · intro p hp ys v h' hys a1 a2 a3 gZ gS
    cases hp
theorem rtC_k : hp_chk 77 37 1 [(0, 0, 1200)] [] [(0, .inr (.inr (.inl (some 40)))), (1, .inl (0, [(0, 1)]))] [.inl (0, [])] [] [] 2 [] [([], 1, [(0, 0, 1200)], [], [], [.inl (0, [])], [])] = true := by decide +kernel
theorem rtC {cst : am_K} {strs : List Nat} {Φ : am_Q → Prop} {D : Nat} {M : am_M} {h : am_H} {l : am_L} (c : hp_C cst strs D) (hM : m_P[77]? = some M) (hD : (2 : Int) ≤ (D : Int) + 1) (hy : ly_hy m_tt ly_TH h) (nn : Int) (x0 : Int32) (hx0 : x0.toInt = 0) (b0 : 0 ≤ nn) (t0 : nn ≤ 1200) (l0 : hp_a l 0 40) (l1 : hp_i l 1 (nn)) (r0 : ∀ (h' : am_H) (y0 : Int32), y0.toInt = 0 → ly_hy m_tt ly_TH h' → ly_fr cst [] h h' → h.length ≤ h'.length → Φ (some (.int y0), h', 0, 0)) : hp_F cst strs Φ D M 37 l [.int x0] h := by
  refine hp_arc c hM rtC_k hD [nn] rfl hy (hp_Bc (z := nn) rfl b0 t0 hp_Bn) hp_Fn hp_Kn (hp_La l0 (hp_Li (z := (0 + (1 * nn + 0))) l1 rfl (by omega) hp_Ln)) (hp_Si (z := (0 + 0)) rfl (by omega) trivial) ?_ ?_
  · intro p hp ys l' st' h' hys a1 a2 a3 gZ gL gS
    cases hp
  · intro p hp ys v h' hys a1 a2 a3 gZ gS
    rcases List.mem_cons.mp hp with rfl | hp
    · obtain rfl := hp_y0 hys
      cases v with
      | none => cases gS
      | some w =>
        obtain ⟨y0, t0, s0, q0, -⟩ := hp_gSi (z := (0 + 0)) gS rfl
        cases s0
        exact r0 h' y0 (by omega) a1 a2 a3
    cases hp
theorem rtD_k : hp_chk 77 37 1 [(0, 0, 1200)] [] [(0, .inr (.inr (.inl (some 40)))), (1, .inl (0, [(0, 1)]))] [.inl (1, [])] [] [] 2 [(41, ([], 1, [(0, 0, 1200)], [], [(0, .inr (.inr (.inl (some 40)))), (1, .inl (0, [(0, 1)]))], [.inr (.inr (.inl (some 40)))], []))] [] = true := by decide +kernel
theorem rtD {cst : am_K} {strs : List Nat} {Φ : am_Q → Prop} {D : Nat} {M : am_M} {h : am_H} {l : am_L} (c : hp_C cst strs D) (hM : m_P[77]? = some M) (hD : (2 : Int) ≤ (D : Int) + 1) (hy : ly_hy m_tt ly_TH h) (nn : Int) (x0 : Int32) (hx0 : x0.toInt = 1) (b0 : 0 ≤ nn) (t0 : nn ≤ 1200) (l0 : hp_a l 0 40) (l1 : hp_i l 1 (nn)) (e0 : ∀ (l' : am_L) (h' : am_H), ly_hy m_tt ly_TH h' → ly_fr cst [] h h' → h.length ≤ h'.length → hp_a l' 0 40 → hp_i l' 1 (nn) → hp_F cst strs Φ D M 41 l' [.ref 40] h') : hp_F cst strs Φ D M 37 l [.int x0] h := by
  refine hp_arc c hM rtD_k hD [nn] rfl hy (hp_Bc (z := nn) rfl b0 t0 hp_Bn) hp_Fn hp_Kn (hp_La l0 (hp_Li (z := (0 + (1 * nn + 0))) l1 rfl (by omega) hp_Ln)) (hp_Si (z := (1 + 0)) rfl (by omega) trivial) ?_ ?_
  · intro p hp ys l' st' h' hys a1 a2 a3 gZ gL gS
    rcases List.mem_cons.mp hp with rfl | hp
    · obtain rfl := hp_y0 hys
      obtain ⟨t0, rfl, g0⟩ := hp_gSa gS (by decide)
      cases hp_gSn g0
      exact e0 l' h' a1 a2 a3 (hp_gLa gL (List.mem_of_getElem? (i := 0) rfl) (by decide)) (hp_gLi (z := (0 + (1 * nn + 0))) gL (List.mem_of_getElem? (i := 1) rfl) rfl (by omega))
    cases hp
  · intro p hp ys v h' hys a1 a2 a3 gZ gS
    cases hp
theorem rtE_k : hp_chk 77 44 1 [(0, 0, 1200)] [] [(0, .inr (.inr (.inl (some 40)))), (1, .inl (0, [(0, 1)]))] [.inl (0, [])] [] [] 2 [] [([], 1, [(0, 0, 1200)], [], [], [.inl (0, [])], [])] = true := by decide +kernel
theorem rtE {cst : am_K} {strs : List Nat} {Φ : am_Q → Prop} {D : Nat} {M : am_M} {h : am_H} {l : am_L} (c : hp_C cst strs D) (hM : m_P[77]? = some M) (hD : (2 : Int) ≤ (D : Int) + 1) (hy : ly_hy m_tt ly_TH h) (nn : Int) (x0 : Int32) (hx0 : x0.toInt = 0) (b0 : 0 ≤ nn) (t0 : nn ≤ 1200) (l0 : hp_a l 0 40) (l1 : hp_i l 1 (nn)) (r0 : ∀ (h' : am_H) (y0 : Int32), y0.toInt = 0 → ly_hy m_tt ly_TH h' → ly_fr cst [] h h' → h.length ≤ h'.length → Φ (some (.int y0), h', 0, 0)) : hp_F cst strs Φ D M 44 l [.int x0] h := by
  refine hp_arc c hM rtE_k hD [nn] rfl hy (hp_Bc (z := nn) rfl b0 t0 hp_Bn) hp_Fn hp_Kn (hp_La l0 (hp_Li (z := (0 + (1 * nn + 0))) l1 rfl (by omega) hp_Ln)) (hp_Si (z := (0 + 0)) rfl (by omega) trivial) ?_ ?_
  · intro p hp ys l' st' h' hys a1 a2 a3 gZ gL gS
    cases hp
  · intro p hp ys v h' hys a1 a2 a3 gZ gS
    rcases List.mem_cons.mp hp with rfl | hp
    · obtain rfl := hp_y0 hys
      cases v with
      | none => cases gS
      | some w =>
        obtain ⟨y0, t0, s0, q0, -⟩ := hp_gSi (z := (0 + 0)) gS rfl
        cases s0
        exact r0 h' y0 (by omega) a1 a2 a3
    cases hp
theorem rtF_k : hp_chk 77 44 2 [(0, 0, 1200), (1, 0, 1199)] [] [(0, .inr (.inr (.inl (some 40)))), (1, .inl (0, [(0, 1)]))] [.inl (1, [])] [(6155, (0, []), (59, [])), (6154, (0, []), (0, [(1, 1)]))] [] 2 [(71, ([], 2, [(0, 0, 1200), (1, 0, 1199)], [], [(0, .inr (.inr (.inl (some 40)))), (1, .inl (0, [(0, 1)]))], [.inl (1, [(1, 1)]), .inr (.inr (.inl (some 40)))], []))] [] = true := by decide +kernel
theorem rtF {cst : am_K} {strs : List Nat} {Φ : am_Q → Prop} {D : Nat} {M : am_M} {h : am_H} {l : am_L} (c : hp_C cst strs D) (hM : m_P[77]? = some M) (hD : (2 : Int) ≤ (D : Int) + 1) (hy : ly_hy m_tt ly_TH h) (nn b : Int) (x0 : Int32) (hx0 : x0.toInt = 1) (b0 : 0 ≤ nn) (t0 : nn ≤ 1200) (b1 : 0 ≤ b) (t1 : b ≤ 1199) (k0 : ly_hv cst h 6155 0 = some 59) (k1 : ly_hv cst h 6154 0 = some (b)) (l0 : hp_a l 0 40) (l1 : hp_i l 1 (nn)) (e0 : ∀ (l' : am_L) (h' : am_H) (y0 : Int32), y0.toInt = (b + 1) → ly_hy m_tt ly_TH h' → ly_fr cst [] h h' → h.length ≤ h'.length → hp_a l' 0 40 → hp_i l' 1 (nn) → hp_F cst strs Φ D M 71 l' [.int y0, .ref 40] h') : hp_F cst strs Φ D M 44 l [.int x0] h := by
  refine hp_arc c hM rtF_k hD [nn, b] rfl hy (hp_Bc (z := nn) rfl b0 t0 (hp_Bc (z := b) rfl b1 t1 hp_Bn)) hp_Fn (hp_Kc (zi := (0 + 0)) (zv := (59 + 0)) k0 rfl rfl (by omega) (by omega) (hp_Kc (zi := (0 + 0)) (zv := (0 + (1 * b + 0))) k1 rfl rfl (by omega) (by omega) hp_Kn)) (hp_La l0 (hp_Li (z := (0 + (1 * nn + 0))) l1 rfl (by omega) hp_Ln)) (hp_Si (z := (1 + 0)) rfl (by omega) trivial) ?_ ?_
  · intro p hp ys l' st' h' hys a1 a2 a3 gZ gL gS
    rcases List.mem_cons.mp hp with rfl | hp
    · obtain rfl := hp_y0 hys
      obtain ⟨y0, t0, rfl, q0, g0⟩ := hp_gSi (z := (1 + (1 * b + 0))) gS rfl
      obtain ⟨t1, rfl, g1⟩ := hp_gSa g0 (by decide)
      cases hp_gSn g1
      exact e0 l' h' y0 (by omega) a1 a2 a3 (hp_gLa gL (List.mem_of_getElem? (i := 0) rfl) (by decide)) (hp_gLi (z := (0 + (1 * nn + 0))) gL (List.mem_of_getElem? (i := 1) rfl) rfl (by omega))
    cases hp
  · intro p hp ys v h' hys a1 a2 a3 gZ gS
    cases hp
theorem rtG0_k : hp_chk 77 44 2 [(0, 0, 1200), (1, 0, 58)] [] [(0, .inr (.inr (.inl (some 40)))), (1, .inl (0, [(0, 1)]))] [.inl (1, [])] [(6155, (0, []), (0, [(1, 1)]))] [] 2 [(60, ([], 2, [(0, 0, 1200), (1, 0, 58)], [], [(0, .inr (.inr (.inl (some 40)))), (1, .inl (0, [(0, 1)]))], [.inl (1, []), .inr (.inr (.inl (some 40)))], []))] [] = true := by decide +kernel
theorem rtG0 {cst : am_K} {strs : List Nat} {Φ : am_Q → Prop} {D : Nat} {M : am_M} {h : am_H} {l : am_L} (c : hp_C cst strs D) (hM : m_P[77]? = some M) (hD : (2 : Int) ≤ (D : Int) + 1) (hy : ly_hy m_tt ly_TH h) (nn q : Int) (x0 : Int32) (hx0 : x0.toInt = 1) (b0 : 0 ≤ nn) (t0 : nn ≤ 1200) (b1 : 0 ≤ q) (t1 : q ≤ 58) (k0 : ly_hv cst h 6155 0 = some (q)) (l0 : hp_a l 0 40) (l1 : hp_i l 1 (nn)) (e0 : ∀ (l' : am_L) (h' : am_H) (y0 : Int32), y0.toInt = 1 → ly_hy m_tt ly_TH h' → ly_fr cst [] h h' → h.length ≤ h'.length → hp_a l' 0 40 → hp_i l' 1 (nn) → hp_F cst strs Φ D M 60 l' [.int y0, .ref 40] h') : hp_F cst strs Φ D M 44 l [.int x0] h := by
  refine hp_arc c hM rtG0_k hD [nn, q] rfl hy (hp_Bc (z := nn) rfl b0 t0 (hp_Bc (z := q) rfl b1 t1 hp_Bn)) hp_Fn (hp_Kc (zi := (0 + 0)) (zv := (0 + (1 * q + 0))) k0 rfl rfl (by omega) (by omega) hp_Kn) (hp_La l0 (hp_Li (z := (0 + (1 * nn + 0))) l1 rfl (by omega) hp_Ln)) (hp_Si (z := (1 + 0)) rfl (by omega) trivial) ?_ ?_
  · intro p hp ys l' st' h' hys a1 a2 a3 gZ gL gS
    rcases List.mem_cons.mp hp with rfl | hp
    · obtain rfl := hp_y0 hys
      obtain ⟨y0, t0, rfl, q0, g0⟩ := hp_gSi (z := (1 + 0)) gS rfl
      obtain ⟨t1, rfl, g1⟩ := hp_gSa g0 (by decide)
      cases hp_gSn g1
      exact e0 l' h' y0 (by omega) a1 a2 a3 (hp_gLa gL (List.mem_of_getElem? (i := 0) rfl) (by decide)) (hp_gLi (z := (0 + (1 * nn + 0))) gL (List.mem_of_getElem? (i := 1) rfl) rfl (by omega))
    cases hp
  · intro p hp ys v h' hys a1 a2 a3 gZ gS
    cases hp
theorem rtG1_k : hp_chk 77 44 2 [(0, 0, 1200), (1, 60, 255)] [] [(0, .inr (.inr (.inl (some 40)))), (1, .inl (0, [(0, 1)]))] [.inl (1, [])] [(6155, (0, []), (0, [(1, 1)]))] [] 2 [(60, ([], 2, [(0, 0, 1200), (1, 60, 255)], [], [(0, .inr (.inr (.inl (some 40)))), (1, .inl (0, [(0, 1)]))], [.inl (1, []), .inr (.inr (.inl (some 40)))], []))] [] = true := by decide +kernel
theorem rtG1 {cst : am_K} {strs : List Nat} {Φ : am_Q → Prop} {D : Nat} {M : am_M} {h : am_H} {l : am_L} (c : hp_C cst strs D) (hM : m_P[77]? = some M) (hD : (2 : Int) ≤ (D : Int) + 1) (hy : ly_hy m_tt ly_TH h) (nn q : Int) (x0 : Int32) (hx0 : x0.toInt = 1) (b0 : 0 ≤ nn) (t0 : nn ≤ 1200) (b1 : 60 ≤ q) (t1 : q ≤ 255) (k0 : ly_hv cst h 6155 0 = some (q)) (l0 : hp_a l 0 40) (l1 : hp_i l 1 (nn)) (e0 : ∀ (l' : am_L) (h' : am_H) (y0 : Int32), y0.toInt = 1 → ly_hy m_tt ly_TH h' → ly_fr cst [] h h' → h.length ≤ h'.length → hp_a l' 0 40 → hp_i l' 1 (nn) → hp_F cst strs Φ D M 60 l' [.int y0, .ref 40] h') : hp_F cst strs Φ D M 44 l [.int x0] h := by
  refine hp_arc c hM rtG1_k hD [nn, q] rfl hy (hp_Bc (z := nn) rfl b0 t0 (hp_Bc (z := q) rfl b1 t1 hp_Bn)) hp_Fn (hp_Kc (zi := (0 + 0)) (zv := (0 + (1 * q + 0))) k0 rfl rfl (by omega) (by omega) hp_Kn) (hp_La l0 (hp_Li (z := (0 + (1 * nn + 0))) l1 rfl (by omega) hp_Ln)) (hp_Si (z := (1 + 0)) rfl (by omega) trivial) ?_ ?_
  · intro p hp ys l' st' h' hys a1 a2 a3 gZ gL gS
    rcases List.mem_cons.mp hp with rfl | hp
    · obtain rfl := hp_y0 hys
      obtain ⟨y0, t0, rfl, q0, g0⟩ := hp_gSi (z := (1 + 0)) gS rfl
      obtain ⟨t1, rfl, g1⟩ := hp_gSa g0 (by decide)
      cases hp_gSn g1
      exact e0 l' h' y0 (by omega) a1 a2 a3 (hp_gLa gL (List.mem_of_getElem? (i := 0) rfl) (by decide)) (hp_gLi (z := (0 + (1 * nn + 0))) gL (List.mem_of_getElem? (i := 1) rfl) rfl (by omega))
    cases hp
  · intro p hp ys v h' hys a1 a2 a3 gZ gS
    cases hp
theorem rtH_k : hp_chk 77 74 1 [(0, 0, 1200)] [] [(0, .inr (.inr (.inl (some 40)))), (1, .inl (0, [(0, 1)]))] [] [] [] 2 [(17, ([], 1, [(0, 0, 1200)], [], [(0, .inr (.inr (.inl (some 40)))), (1, .inl (1, [(0, 1)]))], [], []))] [] = true := by decide +kernel
theorem rtH {cst : am_K} {strs : List Nat} {Φ : am_Q → Prop} {D : Nat} {M : am_M} {h : am_H} {l : am_L} (c : hp_C cst strs D) (hM : m_P[77]? = some M) (hD : (2 : Int) ≤ (D : Int) + 1) (hy : ly_hy m_tt ly_TH h) (nn : Int) (b0 : 0 ≤ nn) (t0 : nn ≤ 1200) (l0 : hp_a l 0 40) (l1 : hp_i l 1 (nn)) (e0 : ∀ (l' : am_L) (h' : am_H), ly_hy m_tt ly_TH h' → ly_fr cst [] h h' → h.length ≤ h'.length → hp_a l' 0 40 → hp_i l' 1 (nn + 1) → hp_F cst strs Φ D M 17 l' [] h') : hp_F cst strs Φ D M 74 l [] h := by
  refine hp_arc c hM rtH_k hD [nn] rfl hy (hp_Bc (z := nn) rfl b0 t0 hp_Bn) hp_Fn hp_Kn (hp_La l0 (hp_Li (z := (0 + (1 * nn + 0))) l1 rfl (by omega) hp_Ln)) trivial ?_ ?_
  · intro p hp ys l' st' h' hys a1 a2 a3 gZ gL gS
    rcases List.mem_cons.mp hp with rfl | hp
    · obtain rfl := hp_y0 hys
      cases hp_gSn gS
      exact e0 l' h' a1 a2 a3 (hp_gLa gL (List.mem_of_getElem? (i := 0) rfl) (by decide)) (hp_gLi (z := (1 + (1 * nn + 0))) gL (List.mem_of_getElem? (i := 1) rfl) rfl (by omega))
    cases hp
  · intro p hp ys v h' hys a1 a2 a3 gZ gS
    cases hp
theorem fr77_60_k : hp_chk 77 63 0 [] [] [] [.inl (0, [])] [] [] 2 [] [([], 0, [], [], [], [.inl (0, [])], [])] = true := by decide +kernel
theorem fr77_60 {cst : am_K} {strs : List Nat} {Φ : am_Q → Prop} {D : Nat} {M : am_M} {h : am_H} {l : am_L} (c : hp_C cst strs D) (hM : m_P[77]? = some M) (hD : (2 : Int) ≤ (D : Int) + 1) (hy : ly_hy m_tt ly_TH h) (x0 : Int32) (hx0 : x0.toInt = 0) (r0 : ∀ (h' : am_H) (y0 : Int32), y0.toInt = 0 → ly_hy m_tt ly_TH h' → ly_fr cst [] h h' → h.length ≤ h'.length → Φ (some (.int y0), h', 0, 0)) : hp_F cst strs Φ D M 63 l [.int x0] h := by
  refine hp_arc c hM fr77_60_k hD [] rfl hy hp_Bn hp_Fn hp_Kn hp_Ln (hp_Si (z := (0 + 0)) rfl (by omega) trivial) ?_ ?_
  · intro p hp ys l' st' h' hys a1 a2 a3 gZ gL gS
    cases hp
  · intro p hp ys v h' hys a1 a2 a3 gZ gS
    rcases List.mem_cons.mp hp with rfl | hp
    · obtain rfl := hp_y0 hys
      cases v with
      | none => cases gS
      | some w =>
        obtain ⟨y0, t0, s0, q0, -⟩ := hp_gSi (z := (0 + 0)) gS rfl
        cases s0
        exact r0 h' y0 (by omega) a1 a2 a3
    cases hp
theorem fz77_60 {cst : am_K} {strs : List Nat} {Φ : am_Q → Prop} {D : Nat} {M : am_M} {h : am_H} {l : am_L} (c1 : hp_C cst strs D) (c : hp_C cst strs (D + 1)) (hM : m_P[77]? = some M) (hD : 3 ≤ D) (hy : ly_hy m_tt ly_TH h) {kd pl vl : Int → Int} {t : Nat} {n : Int} (t1 : (t : Int) ≤ 1200) (n0 : 0 ≤ n) (n1 : n ≤ 1200) (X : ct cst h kd pl vl t n) {y : Int32} {b : Nat} (k0 : 1 ≤ y.toInt) (k1 : y.toInt ≤ 4) (ka : ly_hv cst h 6154 0 = some (b : Int)) (b1 : (b : Int) ≤ 1200)
    (k : ∀ (h' : am_H) (w : Int32), w.toInt = 0 → ly_hy m_tt ly_TH h' → ly_fr cst [6144, 6145] h h' → ly_hv cst h' 6144 0 = some y.toInt → ly_hv cst h' 6145 0 = some (pa pl t n b) → Φ (some (.int w), h', 0, 0)) : hp_F cst strs Φ (D + 1) M 60 l [.int y, .ref 40] h := by
  obtain ⟨r, hrun, w, r1, r2, r3, rhy, rfr, e0, k2, k3⟩ := fl_run (xk := y) c1 (by omega) hy t1 n0 n1 X k0 k1 ka b1
  refine hp_call (mi := 77) (pc := 60) (tg := 83) (na := 2) (c := 24) (ci := 4) (st0 := [.int y, .ref 40]) (st := []) (av := [.int y]) hM (by decide +kernel) hy rfl rfl rfl (by decide) hrun r2 r3 ?_
  rw [r1]
  exact fr77_60 c hM (by omega) rhy w e0 (fun h5 v hv u1 u2 u3 => k h5 v hv u1 (ly_fr_tr rfr (hp_sub2 rfl u2)) (u2 _ _ _ rfl k2) (u2 _ _ _ rfl k3))
theorem lz77_12 {cst : am_K} {strs : List Nat} {Φ : am_Q → Prop} {D : Nat} {M : am_M} {h : am_H} {l : am_L} (c1 : hp_C cst strs D) (c : hp_C cst strs (D + 1)) (hM : m_P[77]? = some M) (hD : 3 ≤ D) (hy : ly_hy m_tt ly_TH h) {kd pl vl : Int → Int} {t : Nat} {n : Int} (t1 : (t : Int) ≤ 1200) (kb : kB kd t) (vb : vB kd vl t) (X : ct cst h kd pl vl t n) {y : Int32} {b : Nat} (e : y.toInt = (b : Int)) (b1 : (b : Int) ≤ 1200)
    (k : ∀ (h' : am_H), ly_hy m_tt ly_TH h' → ly_fr cst [6154, 6155, 6156, 6157] h h' → cs cst h' kd vl t b → hp_F cst strs Φ (D + 1) M 15 l [] h') : hp_F cst strs Φ (D + 1) M 12 l [.int y, .ref 40] h := by
  obtain ⟨r, hrun, r1, r2, r3, rhy, rfr, rC⟩ := lk_run (xb := y) c1 (by omega) hy t1 kb vb X e b1
  refine hp_call (mi := 77) (pc := 12) (tg := 78) (na := 2) (c := 24) (ci := 4) (st0 := [.int y, .ref 40]) (st := []) (av := [.int y]) hM (by decide +kernel) hy rfl rfl rfl (by decide) hrun r2 r3 ?_
  rw [r1]
  exact k _ rhy rfr rC
theorem lz77_71 {cst : am_K} {strs : List Nat} {Φ : am_Q → Prop} {D : Nat} {M : am_M} {h : am_H} {l : am_L} (c1 : hp_C cst strs D) (c : hp_C cst strs (D + 1)) (hM : m_P[77]? = some M) (hD : 3 ≤ D) (hy : ly_hy m_tt ly_TH h) {kd pl vl : Int → Int} {t : Nat} {n : Int} (t1 : (t : Int) ≤ 1200) (kb : kB kd t) (vb : vB kd vl t) (X : ct cst h kd pl vl t n) {y : Int32} {b : Nat} (e : y.toInt = (b : Int)) (b1 : (b : Int) ≤ 1200)
    (k : ∀ (h' : am_H), ly_hy m_tt ly_TH h' → ly_fr cst [6154, 6155, 6156, 6157] h h' → cs cst h' kd vl t b → hp_F cst strs Φ (D + 1) M 74 l [] h') : hp_F cst strs Φ (D + 1) M 71 l [.int y, .ref 40] h := by
  obtain ⟨r, hrun, r1, r2, r3, rhy, rfr, rC⟩ := lk_run (xb := y) c1 (by omega) hy t1 kb vb X e b1
  refine hp_call (mi := 77) (pc := 71) (tg := 78) (na := 2) (c := 24) (ci := 4) (st0 := [.int y, .ref 40]) (st := []) (av := [.int y]) hM (by decide +kernel) hy rfl rfl rfl (by decide) hrun r2 r3 ?_
  rw [r1]
  exact k _ rhy rfr rC
theorem bo_d {kd vl : Int → Int} {t b e : Nat} {A k d d' n' : Int} {L : List Int} (h : bo kd vl t A k d b = .inr (e, d', n', L)) (k16 : k ≠ 16) : d' = d := by
  unfold bo at h
  split at h
  · split at h
    · cases h
    · split at h
      · cases h
      · cases h
        rfl
  · split at h
    · split at h
      · cases h
      · split at h
        · cases h
        · cases h
          rfl
    · try rw [if_neg k16] at h
      generalize (if k = 3 ∨ k = 9 then (9999 : Int) else if k = 10 then 4 else if k = 13 then 23 else 12) = mx at h
      split at h
      · split at h
        · cases h
        · split at h
          · cases h
          · cases h
            rfl
      · cases h
        rfl
theorem hd_d {kd vl : Int → Int} {t a b : Nat} {d : Int} {C : List cl} (vb : vB kd vl t) (at' : a < t) (h : hd kd vl t a C = .inr (b, d)) : (kf (ak kd vl t a) < 7 → 1 ≤ d) ∧ 0 ≤ d ∧ d < 1152921504606846976 ∧ a + 1 ≤ b ∧ b ≤ t ∧ 0 ≤ ak kd vl t a ∧ ak kd vl t a ≤ 16 ∧ C.length ≠ 40 := by
  unfold hd at h
  split at h
  · cases h
  rename_i q1
  split at h
  · cases h
  split at h
  · cases h
  rename_i q3
  split at h
  · cases h
  rename_i q4
  split at h
  · cases h
  cases h
  have k0 : 0 ≤ ak kd vl t a := by
    by_cases z : ak kd vl t a < 0
    · exact absurd (Or.inl z) q1
    · omega
  have k16 : ak kd vl t a ≤ 16 := by
    by_cases z : 16 < ak kd vl t a
    · exact absurd (Or.inr z) q1
    · omega
  by_cases k7 : kf (ak kd vl t a) < 7
  · rw [if_pos k7, if_pos k7]
    have f1 : fk kd t (a + 1) = 1 := by
      by_cases z : fk kd t (a + 1) = 1
      · exact z
      · exact absurd ⟨k7, z⟩ q4
    have lt1 : a + 1 < t := fk_in (kd := kd) (by rw [f1]; decide)
    have v := (vb (a + 1) lt1).1 (by rw [← fk_lt (kd := kd) lt1]; exact f1)
    exact ⟨fun _ => v.1, by omega, v.2, by omega, by omega, k0, k16, q3⟩
  · rw [if_neg k7, if_neg k7]
    exact ⟨fun z => absurd z k7, by omega, by omega, by omega, by omega, k0, k16, q3⟩
theorem fn_px {cst : am_K} {h : am_H} {r : Nat} {A B : List Int} (X : fn_N cst h r 0 (A ++ B)) : fn_N cst h r 0 A := fun k hk => by
  have := X k (by rw [List.length_append]; omega)
  rw [List.getElem_append_left hk] at this
  exact this
theorem fi_px : ∀ (O C : List cl) (i : Int), ∃ B, fi i (O ++ C) = fi i O ++ B
  | [], [], i => ⟨[], rfl⟩
  | [], x :: C, i => ⟨fi (i + (x.2.2.2.length : Int)) C, rfl⟩
  | y :: O, C, i => by
    obtain ⟨B, e⟩ := fi_px O C (i + (y.2.2.2.length : Int))
    exact ⟨B, by rw [List.cons_append, fi, fi, e, List.cons_append]⟩
/-- what is in force: clauses c0, items i0 -/
def ox (cst : am_K) (h : am_H) (i0 : List Int) (c0 : List cl) : Prop := fn_N cst h 4608 0 (c0.map fun x => x.1) ∧ fn_N cst h 4864 0 (c0.map fun x => x.2.1) ∧ fn_N cst h 5120 0 (c0.map fun x => x.2.2.1) ∧ fn_N cst h 5632 0 (fi 0 c0) ∧ fn_N cst h 5888 0 i0
def od (cst : am_K) (h : am_H) (i0 : List Int) (c0 : List cl) : Prop := ox cst h i0 c0 ∧ ow cst h c0.length c0.length
theorem dr_o {cst : am_K} {h : am_H} {i0 : List Int} {c0 C : List cl} (X : dr cst h i0 c0 C) (I : fn_N cst h 5888 0 i0) : od cst h i0 c0 := by
  obtain ⟨-, d2, d3, d4, d5, -, d7⟩ := X
  obtain ⟨B, e⟩ := fi_px c0 C 0
  rw [List.map_append] at d2 d3 d4
  rw [e] at d5
  exact ⟨⟨fn_px d2, fn_px d3, fn_px d4, fn_px d5, I⟩, ow_le d7 (by omega)⟩
theorem ox_mv {cst : am_K} {h h' : am_H} {i0 : List Int} {c0 : List cl} {ms : List Nat} (X : ox cst h i0 c0) (fr : ly_fr cst ms h h') (q : [4608, 4864, 5120, 5632, 5888].all (fun x => !ly_has x ms) = true) : ox cst h' i0 c0 := by
  simp only [List.all_cons, List.all_nil, Bool.and_true, Bool.and_eq_true, Bool.not_eq_true'] at q
  obtain ⟨q1, q2, q3, q4, q5⟩ := q
  exact ⟨fn_mv X.1 fr q1, fn_mv X.2.1 fr q2, fn_mv X.2.2.1 fr q3, fn_mv X.2.2.2.1 fr q4, fn_mv X.2.2.2.2 fr q5⟩
theorem od_mv {cst : am_K} {h h' : am_H} {i0 : List Int} {c0 : List cl} {ms : List Nat} (X : od cst h i0 c0) (fr : ly_fr cst ms h h') (q : [4608, 4864, 5120, 5632, 5888].all (fun x => !ly_has x ms) = true) (q1 : ly_has 3584 ms = false) (q2 : ly_has 4352 ms = false) (q3 : ly_has 5376 ms = false) : od cst h' i0 c0 := ⟨ox_mv X.1 fr q, ow_mv X.2 fr q1 q2 q3⟩
/-- the same of a whole text -/
def qR (cst : am_K) (h0 : am_H) (i0 : List Int) (c0 : List cl) (pl : Int → Int) (t : Nat) (n : Int) (res : (Int × Nat) ⊕ List cl) (ok : List cl → am_H → Prop) (r : am_Q) : Prop := ∃ w : Int32, r.1 = some (.int w) ∧ r.2.2.1 = 0 ∧ r.2.2.2 = 0 ∧ ly_hy m_tt ly_TH r.2.1 ∧ (∀ k b, res = .inl (k, b) → w.toInt = 0 ∧ ly_fr cst (6144 :: 6145 :: [3588, 3594, 4608, 4864, 5120, 5376, 5632, 5888, 6151, 6152, 6153, 6154, 6155, 6156, 6157, 6158, 6159, 6160, 6400, 60010, 60011, 60012, 60080, 60081, 60082]) h0 r.2.1 ∧ od cst r.2.1 i0 c0 ∧ ly_hv cst r.2.1 6144 0 = some k ∧ ly_hv cst r.2.1 6145 0 = some (pa pl t n b)) ∧ ∀ x, res = .inr x → w.toInt = 1 ∧ ly_fr cst [3588, 3594, 4608, 4864, 5120, 5376, 5632, 5888, 6151, 6152, 6153, 6154, 6155, 6156, 6157, 6158, 6159, 6160, 6400, 60010, 60011, 60012, 60080, 60081, 60082] h0 r.2.1 ∧ ok x r.2.1
theorem qR_f {cst : am_K} {h0 h' : am_H} {i0 : List Int} {c0 : List cl} {pl : Int → Int} {t : Nat} {n : Int} {res : (Int × Nat) ⊕ List cl} {ok : List cl → am_H → Prop} {w : Int32} {k : Int} {b : Nat} (e : res = .inl (k, b)) (hw : w.toInt = 0) (hy : ly_hy m_tt ly_TH h') (fr : ly_fr cst (6144 :: 6145 :: [3588, 3594, 4608, 4864, 5120, 5376, 5632, 5888, 6151, 6152, 6153, 6154, 6155, 6156, 6157, 6158, 6159, 6160, 6400, 60010, 60011, 60012, 60080, 60081, 60082]) h0 h') (kp : od cst h' i0 c0) (k1 : ly_hv cst h' 6144 0 = some k) (k2 : ly_hv cst h' 6145 0 = some (pa pl t n b)) : qR cst h0 i0 c0 pl t n res ok (some (.int w), h', 0, 0) := ⟨w, rfl, rfl, rfl, hy, fun k' b' e' => by
  rw [e] at e'
  cases e'
  exact ⟨hw, fr, kp, k1, k2⟩, fun x e' => by rw [e] at e'; cases e'⟩
theorem qR_s {cst : am_K} {h0 h' : am_H} {i0 : List Int} {c0 : List cl} {pl : Int → Int} {t : Nat} {n : Int} {res : (Int × Nat) ⊕ List cl} {ok : List cl → am_H → Prop} {w : Int32} {x : List cl} (e : res = .inr x) (hw : w.toInt = 1) (hy : ly_hy m_tt ly_TH h') (fr : ly_fr cst [3588, 3594, 4608, 4864, 5120, 5376, 5632, 5888, 6151, 6152, 6153, 6154, 6155, 6156, 6157, 6158, 6159, 6160, 6400, 60010, 60011, 60012, 60080, 60081, 60082] h0 h') (k : ok x h') : qR cst h0 i0 c0 pl t n res ok (some (.int w), h', 0, 0) := ⟨w, rfl, rfl, rfl, hy, fun k' b' e' => (by rw [e] at e'; cases e'), fun x' e' => by
  rw [e] at e'
  cases e'
  exact ⟨hw, fr, k⟩⟩
theorem kf_16 {k : Int} (h : kf k < 7) (k0 : 0 ≤ k) : k ≠ 16 := fun e => by
  rw [e] at h
  exact absurd h (by decide)
set_option maxHeartbeats 8000000 in
theorem rt_lp {cst : am_K} {strs : List Nat} {D : Nat} {M : am_M} {h0 : am_H} (c5 : hp_C cst strs D) (c4 : hp_C cst strs (D + 1)) (c3 : hp_C cst strs (D + 1 + 1)) (c2 : hp_C cst strs (D + 1 + 1 + 1)) (c1 : hp_C cst strs (D + 1 + 1 + 1 + 1)) (c : hp_C cst strs (D + 1 + 1 + 1 + 1 + 1)) (hM : m_P[77]? = some M) (hD : 3 ≤ D) {kd pl vl : Int → Int} {t : Nat} {n : Int} {f : Int → Int} {en : Nat → Int} (T : tkT f n t kd pl vl en) (t1 : (t : Int) ≤ 1200) (n0 : 0 ≤ n) (n1 : n ≤ 1200) (kb : kB kd t) (vb : vB kd vl t) (X : ct cst h0 kd pl vl t n) {i0 : List Int} {c0 : List cl} {A : Int} (ri : (i0.length : Int) + n ≤ 10220) (rc : (c0.length : Int) ≤ 1200) (A0 : 0 ≤ A) (A1 : A ≤ 30) (kA : ly_hv cst h0 3584 0 = some A) (kF : ly_hv cst h0 4352 A = some (c0.length : Int)) : ∀ (F : Nat) (h : am_H) (l : am_L) (a p : Nat) (C : List cl), t + 1 ≤ F + a → a ≤ t → p ≤ a → ly_hy m_tt ly_TH h → ly_fr cst [3588, 3594, 4608, 4864, 5120, 5376, 5632, 5888, 6151, 6152, 6153, 6154, 6155, 6156, 6157, 6158, 6159, 6160, 6400, 60010, 60011, 60012, 60080, 60081, 60082] h0 h → tx kd vl t A (t + 1) 0 [] = tx kd vl t A F a C → cs cst h kd vl t a → dr cst h i0 c0 C → it cst h i0 (cit C) → ((cit C).length : Int) ≤ en a → C.length ≤ 40 → wC C → hp_a l 0 40 → hp_i l 1 (p : Int) → hp_F cst strs (qR cst h0 i0 c0 pl t n (tx kd vl t A (t + 1) 0 []) (fun (x : List cl) h' => dr cst h' i0 c0 x ∧ it cst h' i0 (cit x) ∧ ((cit x).length : Int) ≤ n ∧ x.length ≤ 40 ∧ wC x)) (D + 1 + 1 + 1 + 1 + 1) M 17 l [] h := by
  intro F
  induction F with
  | zero => intro h l a p C hN a1; omega
  | succ F ih =>
    intro h l a p C hF a1 pa' hy fr E Cc Dr I pot c40 wC' l0 l1
    have bb := fk_b kb a
    have ena := tkT_end T a a1
    obtain ⟨K1, K2, K3, K4⟩ := id Cc
    by_cases q0 : fk kd t a = 0
    · have er : tx kd vl t A (t + 1) 0 [] = .inr C := by
        rw [E, tx, if_pos q0]
      rw [q0] at K2
      exact rtA c hM (by omega) hy (p : Int) (by omega) (by omega) K2 l0 l1 (fun h3 v hv v1 v2 v3 => qR_s (x := C) er hv v1 (ly_fr_tr fr (hp_sub2 rfl v2)) ⟨dr_mv Dr v2 rfl, it_mv I v2 rfl, by omega, c40, wC'⟩)
    have lt : a < t := fk_in q0
    rw [tx_hd q0] at E
    refine rtB c hM (by omega) hy (p : Int) (fk kd t a) (by omega) (by omega) (by omega) (by omega) K2 l0 l1 (fun l2 h2 u1 u2 u3 m0 m1 => ?_)
    have f2 : ly_fr cst [3588, 3594, 4608, 4864, 5120, 5376, 5632, 5888, 6151, 6152, 6153, 6154, 6155, 6156, 6157, 6158, 6159, 6160, 6400, 60010, 60011, 60012, 60080, 60081, 60082] h0 h2 := ly_fr_tr fr (hp_sub2 rfl u2)
    obtain ⟨r, hrun, w, r1, r2, r3, rhy, rF, rS⟩ := hd_run (A := A) (i0 := i0) (c0 := c0) c4 c3 c2 c1 (by omega) u1 t1 n0 n1 kb vb (ct_mv X f2 rfl) (by omega) A0 A1 (dr_mv Dr u2 rfl) (f2 _ _ _ rfl kA) (f2 _ _ _ rfl kF) (it_o (it_mv I u2 rfl)) c40 wC' lt (cs_mv Cc u2 rfl)
    refine hp_call (mi := 77) (pc := 34) (tg := 82) (na := 1) (c := 24) (ci := 4) (st0 := [.ref 40]) (st := []) (av := []) hM (by decide +kernel) u1 rfl rfl rfl (by decide) hrun r2 r3 ?_
    rw [r1]
    cases eh : hd kd vl t a C with
    | inl ff =>
      obtain ⟨k, b'⟩ := ff
      obtain ⟨z0, rfr, kp, z1, z2⟩ := rF k b' eh
      rw [eh] at E
      exact rtC c hM (by omega) rhy (p : Int) w z0 (by omega) (by omega) m0 m1 (fun h5 v hv p1 p2 p3 => qR_f E hv p1 (ly_fr_tr (hp_sub2 rfl f2) (ly_fr_tr (hp_sub2 rfl rfr) (hp_sub2 rfl p2))) (dr_o (dr_mv (dr_mv (dr_mv Dr u2 rfl) rfr rfl) p2 rfl) (fn_mv kp p2 rfl)) (p2 _ _ _ rfl z1) (p2 _ _ _ rfl z2))
    | inr xx =>
      obtain ⟨b, d⟩ := xx
      obtain ⟨z0, rfr, Cb, kc, kq, kD⟩ := rS _ eh
      rw [eh] at E
      obtain ⟨hd1, hd2, hd3, hd4, hd5, hd6, hd7, hd8⟩ := hd_d vb lt eh
      refine rtD c hM (by omega) rhy (p : Int) w z0 (by omega) (by omega) m0 m1 (fun l4 h4 p1 p2 p3 g0 g1 => ?_)
      have f4 : ly_fr cst [3588, 3594, 4608, 4864, 5120, 5376, 5632, 5888, 6151, 6152, 6153, 6154, 6155, 6156, 6157, 6158, 6159, 6160, 6400, 60010, 60011, 60012, 60080, 60081, 60082] h0 h4 := ly_fr_tr f2 (ly_fr_tr (hp_sub2 rfl rfr) (hp_sub2 rfl p2))
      have mo := tkT_mono T (b - a) a (by omega)
      rw [show a + (b - a) = b by omega] at mo
      obtain ⟨r', hrun', w', q1, q2, q3, qhy, qF, qS⟩ := bo_run (A := A) (d := d) (e0 := en a) (i0 := i0) (c0 := c0) (C := C) (b := b) (k := ak kd vl t a) c5 c4 c3 c2 c1 hD p1 T t1 n0 n1 kb vb (ct_mv X f4 rfl) ri pot (by have := tkT_lt T a a1; omega) (by omega) A0 A1 (by omega) (by omega) (dr_mv (dr_mv (dr_mv Dr u2 rfl) rfr rfl) p2 rfl) (it_mv (it_mv (it_mv I u2 rfl) rfr rfl) p2 rfl) (f4 _ _ _ rfl kA) (p2 _ _ _ rfl kD) hd5 (by omega) (cs_mv Cb p2 rfl) hd6 hd7 (p2 _ _ _ rfl kq) (p2 _ _ _ rfl kc)
      refine hp_call (mi := 77) (pc := 41) (tg := 88) (na := 1) (c := 24) (ci := 4) (st0 := [.ref 40]) (st := []) (av := []) hM (by decide +kernel) p1 rfl rfl rfl (by decide) hrun' q2 q3 ?_
      rw [q1]
      cases eb : bo kd vl t A (ak kd vl t a) d b with
      | inl ff =>
        obtain ⟨k, b'⟩ := ff
        obtain ⟨y0', qfr, kp, y1', y2'⟩ := qF k b' eb
        simp only [eb] at E
        exact rtE c hM (by omega) qhy (p : Int) w' y0' (by omega) (by omega) g0 g1 (fun h5 v hv s1 s2 s3 => qR_f E hv s1 (ly_fr_tr (hp_sub2 rfl f4) (ly_fr_tr (hp_sub2 rfl qfr) (hp_sub2 rfl s2))) (dr_o (dr_mv (dr_mv (dr_mv (dr_mv (dr_mv Dr u2 rfl) rfr rfl) p2 rfl) qfr rfl) s2 rfl) (fn_mv kp s2 rfl)) (s2 _ _ _ rfl y1') (s2 _ _ _ rfl y2'))
      | inr xx =>
        obtain ⟨e, d', n', L⟩ := xx
        obtain ⟨y0', qfr, Ce, De, Ie, pe, be, et⟩ := qS _ eb
        simp only [eb] at E
        have ene := tkT_end T e et
        have be5 := fk_b kb e
        have f6 : ly_fr cst [3588, 3594, 4608, 4864, 5120, 5376, 5632, 5888, 6151, 6152, 6153, 6154, 6155, 6156, 6157, 6158, 6159, 6160, 6400, 60010, 60011, 60012, 60080, 60081, 60082] h0 r'.2.1 := ly_fr_tr f4 (hp_sub2 rfl qfr)
        by_cases q59 : fk kd t e = 59
        rotate_left
        · rw [if_pos q59] at E
          have fz : ∀ (l5 : am_L) (h5 : am_H) (y0 : Int32), y0.toInt = 1 → ly_hy m_tt ly_TH h5 → ly_fr cst [] r'.2.1 h5 → hp_F cst strs (qR cst h0 i0 c0 pl t n (tx kd vl t A (t + 1) 0 []) (fun (x : List cl) h' => dr cst h' i0 c0 x ∧ it cst h' i0 (cit x) ∧ ((cit x).length : Int) ≤ n ∧ x.length ≤ 40 ∧ wC x)) (D + 1 + 1 + 1 + 1 + 1) M 60 l5 [.int y0, .ref 40] h5 := fun l5 h5 y0 e0' s1 s2 => fz77_60 c1 c hM (by omega) s1 t1 n0 n1 (ct_mv (ct_mv X f6 rfl) s2 rfl) (by omega) (by omega) (s2 _ _ _ rfl Ce.1) (by omega) (fun h6 v hv j1 j2 x1 x2 => qR_f E hv j1 (ly_fr_tr (hp_sub2 rfl f6) (ly_fr_tr (hp_sub2 rfl s2) (hp_sub2 rfl j2))) (dr_o (dr_mv (dr_mv De s2 rfl) j2 rfl) (it_o (it_mv (it_mv Ie s2 rfl) j2 rfl))) (by rw [← e0']; exact x1) x2)
          by_cases k9 : fk kd t e ≤ 58
          · exact rtG0 c hM (by omega) qhy (p : Int) (fk kd t e) w' y0' (by omega) (by omega) be5.1 k9 Ce.2.1 g0 g1 (fun l5 h5 y0 e0' s1 s2 s3 i0' i1' => fz l5 h5 y0 e0' s1 s2)
          · exact rtG1 c hM (by omega) qhy (p : Int) (fk kd t e) w' y0' (by omega) (by omega) (by omega) (by omega) Ce.2.1 g0 g1 (fun l5 h5 y0 e0' s1 s2 s3 i0' i1' => fz l5 h5 y0 e0' s1 s2)
        rw [if_neg (fun z => z q59)] at E
        have lte : e < t := fk_in (kd := kd) (by rw [q59]; decide)
        have ke := Ce.2.1
        rw [q59] at ke
        have moe := tkT_mono T 1 e (by omega)
        refine rtF c hM (by omega) qhy (p : Int) (e : Int) w' y0' (by omega) (by omega) (by omega) (by omega) ke Ce.1 g0 g1 (fun l5 h5 y0 e0' s1 s2 s3 i0' i1' => ?_)
        refine lz77_71 c1 c hM (by omega) s1 t1 kb vb (ct_mv (ct_mv X f6 rfl) s2 rfl) (b := e + 1) (by omega) (by omega) (fun h6 j1 j2 C6 => ?_)
        have cl9 : ((cit (C ++ [(kf (ak kd vl t a), d', n', L)])).length : Int) = ((cit C).length : Int) + (L.length : Int) := by
          rw [cit_app, List.length_append]
          exact Int.natCast_add _ _
        have len9 : (C ++ [(kf (ak kd vl t a), d', n', L)]).length = C.length + 1 := by
          rw [List.length_append, List.length_singleton]
        have pe : (L.length : Int) ≤ en e - en a := pe
        refine rtH c hM (by omega) j1 (p : Int) (by omega) (by omega) i0' i1' (fun l7 h7 d1' d2' d3' n0' n1' => ih h7 l7 (e + 1) (p + 1) (C ++ [(kf (ak kd vl t a), d', n', L)]) (by omega) (by omega) (by omega) d1' (ly_fr_tr f6 (ly_fr_tr (hp_sub2 rfl s2) (ly_fr_tr (hp_sub2 rfl j2) (hp_sub2 rfl d2')))) E (cs_mv C6 d2' rfl) (dr_mv (dr_mv (dr_mv De s2 rfl) j2 rfl) d2' rfl) (by rw [cit_app]; exact it_mv (it_mv (it_mv Ie s2 rfl) j2 rfl) d2' rfl) (by omega) (by omega) (fun x hx => ?_) n0' n1')
        rcases List.mem_append.mp hx with z | z
        · exact wC' x z
        · rw [List.mem_singleton.mp z]
          intro k7
          show 1 ≤ d'
          rw [bo_d eb (kf_16 k7 hd6)]
          exact hd1 k7
/-- what readText leaves -/
def tR (cst : am_K) (h : am_H) (i0 : List Int) (c0 : List cl) (pl : Int → Int) (t : Nat) (n : Int) (res : (Int × Nat) ⊕ List cl) (ok : List cl → am_H → Prop) (r : am_Q) : Prop := ∃ w : Int32, r.1 = some (.int w) ∧ r.2.2.1 = 0 ∧ r.2.2.2 = 0 ∧ ly_hy m_tt ly_TH r.2.1 ∧ ly_fr cst (6144 :: 6145 :: [3588, 3594, 4608, 4864, 5120, 5376, 5632, 5888, 6151, 6152, 6153, 6154, 6155, 6156, 6157, 6158, 6159, 6160, 6400, 60010, 60011, 60012, 60080, 60081, 60082]) h r.2.1 ∧ (∀ k b, res = .inl (k, b) → w.toInt = 0 ∧ od cst r.2.1 i0 c0 ∧ ly_hv cst r.2.1 6144 0 = some k ∧ ly_hv cst r.2.1 6145 0 = some (pa pl t n b)) ∧ ∀ x, res = .inr x → w.toInt = 1 ∧ ly_hv cst r.2.1 6144 0 = some 0 ∧ ly_hv cst r.2.1 6145 0 = some (-1) ∧ ok x r.2.1
/-- readText of the class -/
theorem rt_run {cst : am_K} {strs : List Nat} {D : Nat} {h : am_H} (c5 : hp_C cst strs D) (c4 : hp_C cst strs (D + 1)) (c3 : hp_C cst strs (D + 1 + 1)) (c2 : hp_C cst strs (D + 1 + 1 + 1)) (c1 : hp_C cst strs (D + 1 + 1 + 1 + 1)) (c : hp_C cst strs (D + 1 + 1 + 1 + 1 + 1)) (hD : 3 ≤ D) (hy : ly_hy m_tt ly_TH h) {kd pl vl : Int → Int} {t : Nat} {n : Int} {f : Int → Int} {en : Nat → Int} (T : tkT f n t kd pl vl en) (t1 : (t : Int) ≤ 1200) (n0 : 0 ≤ n) (n1 : n ≤ 1200) (kb : kB kd t) (vb : vB kd vl t) (X : ct cst h kd pl vl t n) {i0 : List Int} {c0 : List cl} {A : Int} (ri : (i0.length : Int) + n ≤ 10220) (rc : (c0.length : Int) ≤ 1200) (A0 : 0 ≤ A) (A1 : A ≤ 30) (kA : ly_hv cst h 3584 0 = some A) (kF : ly_hv cst h 4352 A = some (c0.length : Int)) (Dr : dr cst h i0 c0 []) (I : it cst h i0 []) :
    ∃ r, am_Run cst m_cl m_tt m_P strs sx_bi (D + 1 + 1 + 1 + 1 + 1 + 1) 77 [.ref 40] h r ∧ tR cst h i0 c0 pl t n (tx kd vl t A (t + 1) 0 []) (fun (x : List cl) h' => dr cst h' i0 c0 x ∧ it cst h' i0 (cit x) ∧ ((cit x).length : Int) ≤ n ∧ x.length ≤ 40 ∧ wC x) r := by
  obtain ⟨M, hM, hl⟩ := hp_M (mi := 77) (k := 1) (by decide +kernel)
  have start : hp_F cst strs (tR cst h i0 c0 pl t n (tx kd vl t A (t + 1) 0 []) (fun (x : List cl) h' => dr cst h' i0 c0 x ∧ it cst h' i0 (cit x) ∧ ((cit x).length : Int) ≤ n ∧ x.length ≤ 40 ∧ wC x)) (D + 1 + 1 + 1 + 1 + 1) M 0 (lv_args 0 [.ref 40]) [] h := by
    refine rt0 c hM (by omega) hy rfl (fun l2 h2 y0 e0' u1 u2 u3 k1 k2 m0 => ?_)
    refine lz77_12 c1 c hM (by omega) u1 t1 kb vb (ct_mv X u2 rfl) (b := 0) (by omega) (by omega) (fun h3 v1 v2 C3 => ?_)
    refine rt1 c hM (by omega) v1 m0 (fun l4 h4 w1 w2 w3 g0 g1 => ?_)
    have f4 : ly_fr cst (6144 :: 6145 :: [3588, 3594, 4608, 4864, 5120, 5376, 5632, 5888, 6151, 6152, 6153, 6154, 6155, 6156, 6157, 6158, 6159, 6160, 6400, 60010, 60011, 60012, 60080, 60081, 60082]) h h4 := ly_fr_tr (hp_sub2 rfl u2) (ly_fr_tr (hp_sub2 rfl v2) (hp_sub2 rfl w2))
    have e00 : en 0 = 0 := T.1
    refine hp_mon (rt_lp (h0 := h4) (A := A) (i0 := i0) (c0 := c0) c5 c4 c3 c2 c1 c hM hD T t1 n0 n1 kb vb (ct_mv X f4 rfl) ri rc A0 A1 (f4 _ _ _ rfl kA) (f4 _ _ _ rfl kF) (t + 1) h4 l4 0 0 [] (by omega) (by omega) (by omega) w1 (ly_fr_rf h4) rfl (cs_mv C3 w2 rfl) (dr_mv (dr_mv (dr_mv Dr u2 rfl) v2 rfl) w2 rfl) (it_mv (it_mv (it_mv I u2 rfl) v2 rfl) w2 rfl) (by rw [e00]; exact Int.le_refl _) (by decide) (fun x hx => by cases hx) g0 g1) (fun r z => ?_)
    obtain ⟨q, z1, z2, z3, z4, z6, z7⟩ := z
    have fF : ly_fr cst (6144 :: 6145 :: [3588, 3594, 4608, 4864, 5120, 5376, 5632, 5888, 6151, 6152, 6153, 6154, 6155, 6156, 6157, 6158, 6159, 6160, 6400, 60010, 60011, 60012, 60080, 60081, 60082]) h4 r.2.1 := by
      cases e : tx kd vl t A (t + 1) 0 [] with
      | inl ff => exact (z6 ff.1 ff.2 e).2.1
      | inr x => exact fr_up (fr_up (z7 x e).2.1)
    exact ⟨q, z1, z2, z3, z4, ly_fr_tr f4 fF, fun k b e => by
      obtain ⟨x1, -, x3, x4⟩ := z6 k b e
      exact ⟨x1, x3, x4⟩, fun x ex => by
      obtain ⟨y1, yf, y2⟩ := z7 x ex
      exact ⟨y1, yf _ _ _ rfl (w2 _ _ _ rfl (v2 _ _ _ rfl k1)), yf _ _ _ rfl (w2 _ _ _ rfl (v2 _ _ _ rfl k2)), y2⟩⟩
  obtain ⟨n', r, hgo, q, r1, r2, r3, r4⟩ := start
  simp only [Nat.zero_add] at r2 r3
  exact ⟨r, Or.inr ⟨M, n', hM, hl, hgo⟩, q, r1, r2, r3, r4⟩
