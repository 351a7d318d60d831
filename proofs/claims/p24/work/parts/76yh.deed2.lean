/-! PRINTED by wip/p2/hp_deed2.py: readDeed of the class, exactly -/
theorem deA0_k : hp_chk 89 0 1 [(0, 0, 60)] [] [(0, .inr (.inr (.inl (some 40))))] [] [(6155, (0, []), (0, [(0, 1)]))] [] 2 [(11, ([], 1, [(0, 0, 60)], [], [(0, .inr (.inr (.inl (some 40))))], [.inl (1, []), .inr (.inr (.inl (some 40)))], []))] [] = true := by decide +kernel
theorem deA0 {cst : am_K} {strs : List Nat} {Φ : am_Q → Prop} {D : Nat} {M : am_M} {h : am_H} {l : am_L} (c : hp_C cst strs D) (hM : m_P[89]? = some M) (hD : (2 : Int) ≤ (D : Int) + 1) (hy : ly_hy m_tt ly_TH h) (q : Int) (b0 : 0 ≤ q) (t0 : q ≤ 60) (k0 : ly_hv cst h 6155 0 = some (q)) (l0 : hp_a l 0 40) (e0 : ∀ (l' : am_L) (h' : am_H) (y0 : Int32), y0.toInt = 1 → ly_hy m_tt ly_TH h' → ly_fr cst [] h h' → h.length ≤ h'.length → hp_a l' 0 40 → hp_F cst strs Φ D M 11 l' [.int y0, .ref 40] h') : hp_F cst strs Φ D M 0 l [] h := by
  refine hp_arc c hM deA0_k hD [q] rfl hy (hp_Bc (z := q) rfl b0 t0 hp_Bn) hp_Fn (hp_Kc (zi := (0 + 0)) (zv := (0 + (1 * q + 0))) k0 rfl rfl (by omega) (by omega) hp_Kn) (hp_La l0 hp_Ln) trivial ?_ ?_
  · intro p hp ys l' st' h' hys a1 a2 a3 gZ gL gS
    rcases List.mem_cons.mp hp with rfl | hp
    · obtain rfl := hp_y0 hys
      obtain ⟨y0, t0, rfl, q0, g0⟩ := hp_gSi (z := (1 + 0)) gS rfl
      obtain ⟨t1, rfl, g1⟩ := hp_gSa g0 (by decide)
      cases hp_gSn g1
      exact e0 l' h' y0 (by omega) a1 a2 a3 (hp_gLa gL (List.mem_of_getElem? (i := 0) rfl) (by decide))
    cases hp
  · intro p hp ys v h' hys a1 a2 a3 gZ gS
    cases hp
theorem deA1_k : hp_chk 89 0 1 [(0, 62, 255)] [] [(0, .inr (.inr (.inl (some 40))))] [] [(6155, (0, []), (0, [(0, 1)]))] [] 2 [(11, ([], 1, [(0, 62, 255)], [], [(0, .inr (.inr (.inl (some 40))))], [.inl (1, []), .inr (.inr (.inl (some 40)))], []))] [] = true := by decide +kernel
theorem deA1 {cst : am_K} {strs : List Nat} {Φ : am_Q → Prop} {D : Nat} {M : am_M} {h : am_H} {l : am_L} (c : hp_C cst strs D) (hM : m_P[89]? = some M) (hD : (2 : Int) ≤ (D : Int) + 1) (hy : ly_hy m_tt ly_TH h) (q : Int) (b0 : 62 ≤ q) (t0 : q ≤ 255) (k0 : ly_hv cst h 6155 0 = some (q)) (l0 : hp_a l 0 40) (e0 : ∀ (l' : am_L) (h' : am_H) (y0 : Int32), y0.toInt = 1 → ly_hy m_tt ly_TH h' → ly_fr cst [] h h' → h.length ≤ h'.length → hp_a l' 0 40 → hp_F cst strs Φ D M 11 l' [.int y0, .ref 40] h') : hp_F cst strs Φ D M 0 l [] h := by
  refine hp_arc c hM deA1_k hD [q] rfl hy (hp_Bc (z := q) rfl b0 t0 hp_Bn) hp_Fn (hp_Kc (zi := (0 + 0)) (zv := (0 + (1 * q + 0))) k0 rfl rfl (by omega) (by omega) hp_Kn) (hp_La l0 hp_Ln) trivial ?_ ?_
  · intro p hp ys l' st' h' hys a1 a2 a3 gZ gL gS
    rcases List.mem_cons.mp hp with rfl | hp
    · obtain rfl := hp_y0 hys
      obtain ⟨y0, t0, rfl, q0, g0⟩ := hp_gSi (z := (1 + 0)) gS rfl
      obtain ⟨t1, rfl, g1⟩ := hp_gSa g0 (by decide)
      cases hp_gSn g1
      exact e0 l' h' y0 (by omega) a1 a2 a3 (hp_gLa gL (List.mem_of_getElem? (i := 0) rfl) (by decide))
    cases hp
  · intro p hp ys v h' hys a1 a2 a3 gZ gS
    cases hp
theorem deB_k : hp_chk 89 0 1 [(0, 0, 1199)] [] [(0, .inr (.inr (.inl (some 40))))] [] [(6155, (0, []), (61, [])), (6154, (0, []), (0, [(0, 1)]))] [] 2 [(22, ([], 1, [(0, 0, 1199)], [], [(0, .inr (.inr (.inl (some 40))))], [.inl (1, [(0, 1)]), .inr (.inr (.inl (some 40)))], []))] [] = true := by decide +kernel
theorem deB {cst : am_K} {strs : List Nat} {Φ : am_Q → Prop} {D : Nat} {M : am_M} {h : am_H} {l : am_L} (c : hp_C cst strs D) (hM : m_P[89]? = some M) (hD : (2 : Int) ≤ (D : Int) + 1) (hy : ly_hy m_tt ly_TH h) (b : Int) (b0 : 0 ≤ b) (t0 : b ≤ 1199) (k0 : ly_hv cst h 6155 0 = some 61) (k1 : ly_hv cst h 6154 0 = some (b)) (l0 : hp_a l 0 40) (e0 : ∀ (l' : am_L) (h' : am_H) (y0 : Int32), y0.toInt = (b + 1) → ly_hy m_tt ly_TH h' → ly_fr cst [] h h' → h.length ≤ h'.length → hp_a l' 0 40 → hp_F cst strs Φ D M 22 l' [.int y0, .ref 40] h') : hp_F cst strs Φ D M 0 l [] h := by
  refine hp_arc c hM deB_k hD [b] rfl hy (hp_Bc (z := b) rfl b0 t0 hp_Bn) hp_Fn (hp_Kc (zi := (0 + 0)) (zv := (61 + 0)) k0 rfl rfl (by omega) (by omega) (hp_Kc (zi := (0 + 0)) (zv := (0 + (1 * b + 0))) k1 rfl rfl (by omega) (by omega) hp_Kn)) (hp_La l0 hp_Ln) trivial ?_ ?_
  · intro p hp ys l' st' h' hys a1 a2 a3 gZ gL gS
    rcases List.mem_cons.mp hp with rfl | hp
    · obtain rfl := hp_y0 hys
      obtain ⟨y0, t0, rfl, q0, g0⟩ := hp_gSi (z := (1 + (1 * b + 0))) gS rfl
      obtain ⟨t1, rfl, g1⟩ := hp_gSa g0 (by decide)
      cases hp_gSn g1
      exact e0 l' h' y0 (by omega) a1 a2 a3 (hp_gLa gL (List.mem_of_getElem? (i := 0) rfl) (by decide))
    cases hp
  · intro p hp ys v h' hys a1 a2 a3 gZ gS
    cases hp
theorem deC_k : hp_chk 89 25 0 [] [] [(0, .inr (.inr (.inl (some 40))))] [] [] [6151, 6152, 6153, 60080, 60081, 60082] 2 [(44, ([], 0, [], [], [(0, .inr (.inr (.inl (some 40)))), (1, .inl (0, [])), (2, .inl (0, []))], [], [(6151, (0, []), (0, [])), (6152, (0, []), (0, [])), (6153, (0, []), (0, []))]))] [] = true := by decide +kernel
theorem deC {cst : am_K} {strs : List Nat} {Φ : am_Q → Prop} {D : Nat} {M : am_M} {h : am_H} {l : am_L} (c : hp_C cst strs D) (hM : m_P[89]? = some M) (hD : (2 : Int) ≤ (D : Int) + 1) (hy : ly_hy m_tt ly_TH h) (l0 : hp_a l 0 40) (e0 : ∀ (l' : am_L) (h' : am_H), ly_hy m_tt ly_TH h' → ly_fr cst [6151, 6152, 6153, 60080, 60081, 60082] h h' → h.length ≤ h'.length → ly_hv cst h' 6151 0 = some 0 → ly_hv cst h' 6152 0 = some 0 → ly_hv cst h' 6153 0 = some 0 → hp_a l' 0 40 → hp_i l' 1 0 → hp_i l' 2 0 → hp_F cst strs Φ D M 44 l' [] h') : hp_F cst strs Φ D M 25 l [] h := by
  refine hp_arc c hM deC_k hD [] rfl hy hp_Bn hp_Fn hp_Kn (hp_La l0 hp_Ln) trivial ?_ ?_
  · intro p hp ys l' st' h' hys a1 a2 a3 gZ gL gS
    rcases List.mem_cons.mp hp with rfl | hp
    · obtain rfl := hp_y0 hys
      cases hp_gSn gS
      exact e0 l' h' a1 a2 a3 (hp_gK (zi := (0 + 0)) (zv := (0 + 0)) gZ.2.2.2 (List.mem_of_getElem? (i := 0) rfl) rfl rfl (by omega) (by omega)) (hp_gK (zi := (0 + 0)) (zv := (0 + 0)) gZ.2.2.2 (List.mem_of_getElem? (i := 1) rfl) rfl rfl (by omega) (by omega)) (hp_gK (zi := (0 + 0)) (zv := (0 + 0)) gZ.2.2.2 (List.mem_of_getElem? (i := 2) rfl) rfl rfl (by omega) (by omega)) (hp_gLa gL (List.mem_of_getElem? (i := 0) rfl) (by decide)) (hp_gLi (z := (0 + 0)) gL (List.mem_of_getElem? (i := 1) rfl) rfl (by omega)) (hp_gLi (z := (0 + 0)) gL (List.mem_of_getElem? (i := 2) rfl) rfl (by omega))
    cases hp
  · intro p hp ys v h' hys a1 a2 a3 gZ gS
    cases hp
theorem deD_k : hp_chk 89 44 2 [(0, 0, 1), (1, 0, 1200)] [] [(0, .inr (.inr (.inl (some 40)))), (1, .inl (0, [(0, 1)])), (2, .inl (0, [(1, 1)]))] [] [] [] 2 [(52, ([], 2, [(0, 0, 1), (1, 0, 1200)], [], [(0, .inr (.inr (.inl (some 40)))), (1, .inl (0, [(0, 1)])), (2, .inl (0, [(1, 1)]))], [.inr (.inr (.inl (some 40)))], []))] [] = true := by decide +kernel
theorem deD {cst : am_K} {strs : List Nat} {Φ : am_Q → Prop} {D : Nat} {M : am_M} {h : am_H} {l : am_L} (c : hp_C cst strs D) (hM : m_P[89]? = some M) (hD : (2 : Int) ≤ (D : Int) + 1) (hy : ly_hy m_tt ly_TH h) (u nn : Int) (b0 : 0 ≤ u) (t0 : u ≤ 1) (b1 : 0 ≤ nn) (t1 : nn ≤ 1200) (l0 : hp_a l 0 40) (l1 : hp_i l 1 (u)) (l2 : hp_i l 2 (nn)) (e0 : ∀ (l' : am_L) (h' : am_H), ly_hy m_tt ly_TH h' → ly_fr cst [] h h' → h.length ≤ h'.length → hp_a l' 0 40 → hp_i l' 1 (u) → hp_i l' 2 (nn) → hp_F cst strs Φ D M 52 l' [.ref 40] h') : hp_F cst strs Φ D M 44 l [] h := by
  refine hp_arc c hM deD_k hD [u, nn] rfl hy (hp_Bc (z := u) rfl b0 t0 (hp_Bc (z := nn) rfl b1 t1 hp_Bn)) hp_Fn hp_Kn (hp_La l0 (hp_Li (z := (0 + (1 * u + 0))) l1 rfl (by omega) (hp_Li (z := (0 + (1 * nn + 0))) l2 rfl (by omega) hp_Ln))) trivial ?_ ?_
  · intro p hp ys l' st' h' hys a1 a2 a3 gZ gL gS
    rcases List.mem_cons.mp hp with rfl | hp
    · obtain rfl := hp_y0 hys
      obtain ⟨t0, rfl, g0⟩ := hp_gSa gS (by decide)
      cases hp_gSn g0
      exact e0 l' h' a1 a2 a3 (hp_gLa gL (List.mem_of_getElem? (i := 0) rfl) (by decide)) (hp_gLi (z := (0 + (1 * u + 0))) gL (List.mem_of_getElem? (i := 1) rfl) rfl (by omega)) (hp_gLi (z := (0 + (1 * nn + 0))) gL (List.mem_of_getElem? (i := 2) rfl) rfl (by omega))
    cases hp
  · intro p hp ys v h' hys a1 a2 a3 gZ gS
    cases hp
theorem deE_k : hp_chk 89 55 2 [(0, 0, 1), (1, 0, 1200)] [] [(0, .inr (.inr (.inl (some 40)))), (1, .inl (0, [(0, 1)])), (2, .inl (0, [(1, 1)]))] [.inl (0, [])] [] [] 2 [] [([], 2, [(0, 0, 1), (1, 0, 1200)], [], [], [.inl (0, [])], [])] = true := by decide +kernel
theorem deE {cst : am_K} {strs : List Nat} {Φ : am_Q → Prop} {D : Nat} {M : am_M} {h : am_H} {l : am_L} (c : hp_C cst strs D) (hM : m_P[89]? = some M) (hD : (2 : Int) ≤ (D : Int) + 1) (hy : ly_hy m_tt ly_TH h) (u nn : Int) (x0 : Int32) (hx0 : x0.toInt = 0) (b0 : 0 ≤ u) (t0 : u ≤ 1) (b1 : 0 ≤ nn) (t1 : nn ≤ 1200) (l0 : hp_a l 0 40) (l1 : hp_i l 1 (u)) (l2 : hp_i l 2 (nn)) (r0 : ∀ (h' : am_H) (y0 : Int32), y0.toInt = 0 → ly_hy m_tt ly_TH h' → ly_fr cst [] h h' → h.length ≤ h'.length → Φ (some (.int y0), h', 0, 0)) : hp_F cst strs Φ D M 55 l [.int x0] h := by
  refine hp_arc c hM deE_k hD [u, nn] rfl hy (hp_Bc (z := u) rfl b0 t0 (hp_Bc (z := nn) rfl b1 t1 hp_Bn)) hp_Fn hp_Kn (hp_La l0 (hp_Li (z := (0 + (1 * u + 0))) l1 rfl (by omega) (hp_Li (z := (0 + (1 * nn + 0))) l2 rfl (by omega) hp_Ln))) (hp_Si (z := (0 + 0)) rfl (by omega) trivial) ?_ ?_
  · intro p hp ys l' st' h' hys a1 a2 a3 gZ gL gS
    cases hp
  · intro p hp ys v h' hys a1 a2 a3 gZ gS
    rcases List.mem_cons.mp hp with rfl | hp
    · obtain rfl := hp_y0 hys
      cases v with
      | none => cases gS
      | some w =>
        obtain ⟨y0, t0, s0, q0, -⟩ := hp_gSi (z := (0 + 0)) gS rfl
        cases s0
        exact r0 h' y0 (by omega) a1 a2 a3
    cases hp
theorem deF_k : hp_chk 89 55 2 [(0, 0, 1), (1, 0, 1200)] [] [(0, .inr (.inr (.inl (some 40)))), (1, .inl (0, [(0, 1)])), (2, .inl (0, [(1, 1)]))] [.inl (1, [])] [] [] 2 [(59, ([], 2, [(0, 0, 1), (1, 0, 1200)], [], [(0, .inr (.inr (.inl (some 40)))), (1, .inl (0, [(0, 1)])), (2, .inl (0, [(1, 1)]))], [.inr (.inr (.inl (some 40)))], []))] [] = true := by decide +kernel
theorem deF {cst : am_K} {strs : List Nat} {Φ : am_Q → Prop} {D : Nat} {M : am_M} {h : am_H} {l : am_L} (c : hp_C cst strs D) (hM : m_P[89]? = some M) (hD : (2 : Int) ≤ (D : Int) + 1) (hy : ly_hy m_tt ly_TH h) (u nn : Int) (x0 : Int32) (hx0 : x0.toInt = 1) (b0 : 0 ≤ u) (t0 : u ≤ 1) (b1 : 0 ≤ nn) (t1 : nn ≤ 1200) (l0 : hp_a l 0 40) (l1 : hp_i l 1 (u)) (l2 : hp_i l 2 (nn)) (e0 : ∀ (l' : am_L) (h' : am_H), ly_hy m_tt ly_TH h' → ly_fr cst [] h h' → h.length ≤ h'.length → hp_a l' 0 40 → hp_i l' 1 (u) → hp_i l' 2 (nn) → hp_F cst strs Φ D M 59 l' [.ref 40] h') : hp_F cst strs Φ D M 55 l [.int x0] h := by
  refine hp_arc c hM deF_k hD [u, nn] rfl hy (hp_Bc (z := u) rfl b0 t0 (hp_Bc (z := nn) rfl b1 t1 hp_Bn)) hp_Fn hp_Kn (hp_La l0 (hp_Li (z := (0 + (1 * u + 0))) l1 rfl (by omega) (hp_Li (z := (0 + (1 * nn + 0))) l2 rfl (by omega) hp_Ln))) (hp_Si (z := (1 + 0)) rfl (by omega) trivial) ?_ ?_
  · intro p hp ys l' st' h' hys a1 a2 a3 gZ gL gS
    rcases List.mem_cons.mp hp with rfl | hp
    · obtain rfl := hp_y0 hys
      obtain ⟨t0, rfl, g0⟩ := hp_gSa gS (by decide)
      cases hp_gSn g0
      exact e0 l' h' a1 a2 a3 (hp_gLa gL (List.mem_of_getElem? (i := 0) rfl) (by decide)) (hp_gLi (z := (0 + (1 * u + 0))) gL (List.mem_of_getElem? (i := 1) rfl) rfl (by omega)) (hp_gLi (z := (0 + (1 * nn + 0))) gL (List.mem_of_getElem? (i := 2) rfl) rfl (by omega))
    cases hp
  · intro p hp ys v h' hys a1 a2 a3 gZ gS
    cases hp
theorem deG_k : hp_chk 89 62 2 [(0, 0, 1), (1, 0, 1200)] [] [(0, .inr (.inr (.inl (some 40)))), (1, .inl (0, [(0, 1)])), (2, .inl (0, [(1, 1)]))] [.inl (0, [])] [] [] 2 [] [([], 2, [(0, 0, 1), (1, 0, 1200)], [], [], [.inl (0, [])], [])] = true := by decide +kernel
theorem deG {cst : am_K} {strs : List Nat} {Φ : am_Q → Prop} {D : Nat} {M : am_M} {h : am_H} {l : am_L} (c : hp_C cst strs D) (hM : m_P[89]? = some M) (hD : (2 : Int) ≤ (D : Int) + 1) (hy : ly_hy m_tt ly_TH h) (u nn : Int) (x0 : Int32) (hx0 : x0.toInt = 0) (b0 : 0 ≤ u) (t0 : u ≤ 1) (b1 : 0 ≤ nn) (t1 : nn ≤ 1200) (l0 : hp_a l 0 40) (l1 : hp_i l 1 (u)) (l2 : hp_i l 2 (nn)) (r0 : ∀ (h' : am_H) (y0 : Int32), y0.toInt = 0 → ly_hy m_tt ly_TH h' → ly_fr cst [] h h' → h.length ≤ h'.length → Φ (some (.int y0), h', 0, 0)) : hp_F cst strs Φ D M 62 l [.int x0] h := by
  refine hp_arc c hM deG_k hD [u, nn] rfl hy (hp_Bc (z := u) rfl b0 t0 (hp_Bc (z := nn) rfl b1 t1 hp_Bn)) hp_Fn hp_Kn (hp_La l0 (hp_Li (z := (0 + (1 * u + 0))) l1 rfl (by omega) (hp_Li (z := (0 + (1 * nn + 0))) l2 rfl (by omega) hp_Ln))) (hp_Si (z := (0 + 0)) rfl (by omega) trivial) ?_ ?_
  · intro p hp ys l' st' h' hys a1 a2 a3 gZ gL gS
    cases hp
  · intro p hp ys v h' hys a1 a2 a3 gZ gS
    rcases List.mem_cons.mp hp with rfl | hp
    · obtain rfl := hp_y0 hys
      cases v with
      | none => cases gS
      | some w =>
        obtain ⟨y0, t0, s0, q0, -⟩ := hp_gSi (z := (0 + 0)) gS rfl
        cases s0
        exact r0 h' y0 (by omega) a1 a2 a3
    cases hp
theorem deH_k : hp_chk 89 62 2 [(0, 0, 1), (1, 0, 1200)] [] [(0, .inr (.inr (.inl (some 40)))), (1, .inl (0, [(0, 1)])), (2, .inl (0, [(1, 1)]))] [.inl (1, [])] [] [] 2 [(68, ([], 2, [(0, 0, 1), (1, 0, 1200)], [], [(0, .inr (.inr (.inl (some 40)))), (1, .inl (0, [(0, 1)])), (2, .inl (0, [(1, 1)]))], [.inr (.inr (.inl (some 40)))], []))] [] = true := by decide +kernel
theorem deH {cst : am_K} {strs : List Nat} {Φ : am_Q → Prop} {D : Nat} {M : am_M} {h : am_H} {l : am_L} (c : hp_C cst strs D) (hM : m_P[89]? = some M) (hD : (2 : Int) ≤ (D : Int) + 1) (hy : ly_hy m_tt ly_TH h) (u nn : Int) (x0 : Int32) (hx0 : x0.toInt = 1) (b0 : 0 ≤ u) (t0 : u ≤ 1) (b1 : 0 ≤ nn) (t1 : nn ≤ 1200) (l0 : hp_a l 0 40) (l1 : hp_i l 1 (u)) (l2 : hp_i l 2 (nn)) (e0 : ∀ (l' : am_L) (h' : am_H), ly_hy m_tt ly_TH h' → ly_fr cst [] h h' → h.length ≤ h'.length → hp_a l' 0 40 → hp_i l' 1 (u) → hp_i l' 2 (nn) → hp_F cst strs Φ D M 68 l' [.ref 40] h') : hp_F cst strs Φ D M 62 l [.int x0] h := by
  refine hp_arc c hM deH_k hD [u, nn] rfl hy (hp_Bc (z := u) rfl b0 t0 (hp_Bc (z := nn) rfl b1 t1 hp_Bn)) hp_Fn hp_Kn (hp_La l0 (hp_Li (z := (0 + (1 * u + 0))) l1 rfl (by omega) (hp_Li (z := (0 + (1 * nn + 0))) l2 rfl (by omega) hp_Ln))) (hp_Si (z := (1 + 0)) rfl (by omega) trivial) ?_ ?_
  · intro p hp ys l' st' h' hys a1 a2 a3 gZ gL gS
    rcases List.mem_cons.mp hp with rfl | hp
    · obtain rfl := hp_y0 hys
      obtain ⟨t0, rfl, g0⟩ := hp_gSa gS (by decide)
      cases hp_gSn g0
      exact e0 l' h' a1 a2 a3 (hp_gLa gL (List.mem_of_getElem? (i := 0) rfl) (by decide)) (hp_gLi (z := (0 + (1 * u + 0))) gL (List.mem_of_getElem? (i := 1) rfl) rfl (by omega)) (hp_gLi (z := (0 + (1 * nn + 0))) gL (List.mem_of_getElem? (i := 2) rfl) rfl (by omega))
    cases hp
  · intro p hp ys v h' hys a1 a2 a3 gZ gS
    cases hp
theorem deI0_k : hp_chk 89 71 2 [(0, 0, 1), (1, 0, 1200)] [] [(0, .inr (.inr (.inl (some 40)))), (1, .inl (0, [(0, 1)])), (2, .inl (0, [(1, 1)]))] [] [(6157, (0, []), (0, []))] [] 2 [(91, ([], 2, [(0, 0, 1), (1, 0, 1200)], [], [(0, .inr (.inr (.inl (some 40)))), (1, .inl (0, [(0, 1)])), (2, .inl (0, [(1, 1)]))], [.inl (0, []), .inr (.inr (.inl (some 40)))], []))] [] = true := by decide +kernel
theorem deI0 {cst : am_K} {strs : List Nat} {Φ : am_Q → Prop} {D : Nat} {M : am_M} {h : am_H} {l : am_L} (c : hp_C cst strs D) (hM : m_P[89]? = some M) (hD : (2 : Int) ≤ (D : Int) + 1) (hy : ly_hy m_tt ly_TH h) (u nn : Int) (b0 : 0 ≤ u) (t0 : u ≤ 1) (b1 : 0 ≤ nn) (t1 : nn ≤ 1200) (k0 : ly_hv cst h 6157 0 = some 0) (l0 : hp_a l 0 40) (l1 : hp_i l 1 (u)) (l2 : hp_i l 2 (nn)) (e0 : ∀ (l' : am_L) (h' : am_H) (y0 : Int32), y0.toInt = 0 → ly_hy m_tt ly_TH h' → ly_fr cst [] h h' → h.length ≤ h'.length → hp_a l' 0 40 → hp_i l' 1 (u) → hp_i l' 2 (nn) → hp_F cst strs Φ D M 91 l' [.int y0, .ref 40] h') : hp_F cst strs Φ D M 71 l [] h := by
  refine hp_arc c hM deI0_k hD [u, nn] rfl hy (hp_Bc (z := u) rfl b0 t0 (hp_Bc (z := nn) rfl b1 t1 hp_Bn)) hp_Fn (hp_Kc (zi := (0 + 0)) (zv := (0 + 0)) k0 rfl rfl (by omega) (by omega) hp_Kn) (hp_La l0 (hp_Li (z := (0 + (1 * u + 0))) l1 rfl (by omega) (hp_Li (z := (0 + (1 * nn + 0))) l2 rfl (by omega) hp_Ln))) trivial ?_ ?_
  · intro p hp ys l' st' h' hys a1 a2 a3 gZ gL gS
    rcases List.mem_cons.mp hp with rfl | hp
    · obtain rfl := hp_y0 hys
      obtain ⟨y0, t0, rfl, q0, g0⟩ := hp_gSi (z := (0 + 0)) gS rfl
      obtain ⟨t1, rfl, g1⟩ := hp_gSa g0 (by decide)
      cases hp_gSn g1
      exact e0 l' h' y0 (by omega) a1 a2 a3 (hp_gLa gL (List.mem_of_getElem? (i := 0) rfl) (by decide)) (hp_gLi (z := (0 + (1 * u + 0))) gL (List.mem_of_getElem? (i := 1) rfl) rfl (by omega)) (hp_gLi (z := (0 + (1 * nn + 0))) gL (List.mem_of_getElem? (i := 2) rfl) rfl (by omega))
    cases hp
  · intro p hp ys v h' hys a1 a2 a3 gZ gS
    cases hp
theorem deI1_k : hp_chk 89 71 2 [(0, 0, 1), (1, 0, 1200)] [] [(0, .inr (.inr (.inl (some 40)))), (1, .inl (0, [(0, 1)])), (2, .inl (0, [(1, 1)]))] [] [(6157, (0, []), (1, []))] [] 2 [(91, ([], 2, [(0, 0, 1), (1, 0, 1200)], [], [(0, .inr (.inr (.inl (some 40)))), (1, .inl (0, [(0, 1)])), (2, .inl (0, [(1, 1)]))], [.inl (1, []), .inr (.inr (.inl (some 40)))], []))] [] = true := by decide +kernel
theorem deI1 {cst : am_K} {strs : List Nat} {Φ : am_Q → Prop} {D : Nat} {M : am_M} {h : am_H} {l : am_L} (c : hp_C cst strs D) (hM : m_P[89]? = some M) (hD : (2 : Int) ≤ (D : Int) + 1) (hy : ly_hy m_tt ly_TH h) (u nn : Int) (b0 : 0 ≤ u) (t0 : u ≤ 1) (b1 : 0 ≤ nn) (t1 : nn ≤ 1200) (k0 : ly_hv cst h 6157 0 = some 1) (l0 : hp_a l 0 40) (l1 : hp_i l 1 (u)) (l2 : hp_i l 2 (nn)) (e0 : ∀ (l' : am_L) (h' : am_H) (y0 : Int32), y0.toInt = 1 → ly_hy m_tt ly_TH h' → ly_fr cst [] h h' → h.length ≤ h'.length → hp_a l' 0 40 → hp_i l' 1 (u) → hp_i l' 2 (nn) → hp_F cst strs Φ D M 91 l' [.int y0, .ref 40] h') : hp_F cst strs Φ D M 71 l [] h := by
  refine hp_arc c hM deI1_k hD [u, nn] rfl hy (hp_Bc (z := u) rfl b0 t0 (hp_Bc (z := nn) rfl b1 t1 hp_Bn)) hp_Fn (hp_Kc (zi := (0 + 0)) (zv := (1 + 0)) k0 rfl rfl (by omega) (by omega) hp_Kn) (hp_La l0 (hp_Li (z := (0 + (1 * u + 0))) l1 rfl (by omega) (hp_Li (z := (0 + (1 * nn + 0))) l2 rfl (by omega) hp_Ln))) trivial ?_ ?_
  · intro p hp ys l' st' h' hys a1 a2 a3 gZ gL gS
    rcases List.mem_cons.mp hp with rfl | hp
    · obtain rfl := hp_y0 hys
      obtain ⟨y0, t0, rfl, q0, g0⟩ := hp_gSi (z := (1 + 0)) gS rfl
      obtain ⟨t1, rfl, g1⟩ := hp_gSa g0 (by decide)
      cases hp_gSn g1
      exact e0 l' h' y0 (by omega) a1 a2 a3 (hp_gLa gL (List.mem_of_getElem? (i := 0) rfl) (by decide)) (hp_gLi (z := (0 + (1 * u + 0))) gL (List.mem_of_getElem? (i := 1) rfl) rfl (by omega)) (hp_gLi (z := (0 + (1 * nn + 0))) gL (List.mem_of_getElem? (i := 2) rfl) rfl (by omega))
    cases hp
  · intro p hp ys v h' hys a1 a2 a3 gZ gS
    cases hp
theorem deJ_k : hp_chk 89 94 3 [(0, 0, 1), (1, 0, 1200), (2, 0, 1)] [] [(0, .inr (.inr (.inl (some 40)))), (1, .inl (0, [(0, 1)])), (2, .inl (0, [(1, 1)]))] [] [(6157, (0, []), (0, [(2, 1)]))] [] 2 [(99, ([], 3, [(0, 0, 1), (1, 0, 1200), (2, 0, 1)], [], [(0, .inr (.inr (.inl (some 40)))), (1, .inl (0, [(0, 1)])), (2, .inl (0, [(1, 1)]))], [.inl (0, [(2, 1)]), .inr (.inr (.inl (some 40)))], []))] [] = true := by decide +kernel
theorem deJ {cst : am_K} {strs : List Nat} {Φ : am_Q → Prop} {D : Nat} {M : am_M} {h : am_H} {l : am_L} (c : hp_C cst strs D) (hM : m_P[89]? = some M) (hD : (2 : Int) ≤ (D : Int) + 1) (hy : ly_hy m_tt ly_TH h) (u nn j : Int) (b0 : 0 ≤ u) (t0 : u ≤ 1) (b1 : 0 ≤ nn) (t1 : nn ≤ 1200) (b2 : 0 ≤ j) (t2 : j ≤ 1) (k0 : ly_hv cst h 6157 0 = some (j)) (l0 : hp_a l 0 40) (l1 : hp_i l 1 (u)) (l2 : hp_i l 2 (nn)) (e0 : ∀ (l' : am_L) (h' : am_H) (y0 : Int32), y0.toInt = (j) → ly_hy m_tt ly_TH h' → ly_fr cst [] h h' → h.length ≤ h'.length → hp_a l' 0 40 → hp_i l' 1 (u) → hp_i l' 2 (nn) → hp_F cst strs Φ D M 99 l' [.int y0, .ref 40] h') : hp_F cst strs Φ D M 94 l [] h := by
  refine hp_arc c hM deJ_k hD [u, nn, j] rfl hy (hp_Bc (z := u) rfl b0 t0 (hp_Bc (z := nn) rfl b1 t1 (hp_Bc (z := j) rfl b2 t2 hp_Bn))) hp_Fn (hp_Kc (zi := (0 + 0)) (zv := (0 + (1 * j + 0))) k0 rfl rfl (by omega) (by omega) hp_Kn) (hp_La l0 (hp_Li (z := (0 + (1 * u + 0))) l1 rfl (by omega) (hp_Li (z := (0 + (1 * nn + 0))) l2 rfl (by omega) hp_Ln))) trivial ?_ ?_
  · intro p hp ys l' st' h' hys a1 a2 a3 gZ gL gS
    rcases List.mem_cons.mp hp with rfl | hp
    · obtain rfl := hp_y0 hys
      obtain ⟨y0, t0, rfl, q0, g0⟩ := hp_gSi (z := (0 + (1 * j + 0))) gS rfl
      obtain ⟨t1, rfl, g1⟩ := hp_gSa g0 (by decide)
      cases hp_gSn g1
      exact e0 l' h' y0 (by omega) a1 a2 a3 (hp_gLa gL (List.mem_of_getElem? (i := 0) rfl) (by decide)) (hp_gLi (z := (0 + (1 * u + 0))) gL (List.mem_of_getElem? (i := 1) rfl) rfl (by omega)) (hp_gLi (z := (0 + (1 * nn + 0))) gL (List.mem_of_getElem? (i := 2) rfl) rfl (by omega))
    cases hp
  · intro p hp ys v h' hys a1 a2 a3 gZ gS
    cases hp
theorem deK_k : hp_chk 89 102 3 [(0, 0, 1), (1, 0, 1200), (2, 0, 1199)] [] [(0, .inr (.inr (.inl (some 40)))), (1, .inl (0, [(0, 1)])), (2, .inl (0, [(1, 1)]))] [] [(6154, (0, []), (0, [(2, 1)]))] [] 2 [(175, ([], 3, [(0, 0, 1), (1, 0, 1200), (2, 0, 1199)], [], [(0, .inr (.inr (.inl (some 40)))), (1, .inl (0, [(0, 1)])), (2, .inl (0, [(1, 1)]))], [.inl (1, [(2, 1)]), .inr (.inr (.inl (some 40)))], []))] [] = true := by decide +kernel
theorem deK {cst : am_K} {strs : List Nat} {Φ : am_Q → Prop} {D : Nat} {M : am_M} {h : am_H} {l : am_L} (c : hp_C cst strs D) (hM : m_P[89]? = some M) (hD : (2 : Int) ≤ (D : Int) + 1) (hy : ly_hy m_tt ly_TH h) (u nn b : Int) (b0 : 0 ≤ u) (t0 : u ≤ 1) (b1 : 0 ≤ nn) (t1 : nn ≤ 1200) (b2 : 0 ≤ b) (t2 : b ≤ 1199) (k0 : ly_hv cst h 6154 0 = some (b)) (l0 : hp_a l 0 40) (l1 : hp_i l 1 (u)) (l2 : hp_i l 2 (nn)) (e0 : ∀ (l' : am_L) (h' : am_H) (y0 : Int32), y0.toInt = (b + 1) → ly_hy m_tt ly_TH h' → ly_fr cst [] h h' → h.length ≤ h'.length → hp_a l' 0 40 → hp_i l' 1 (u) → hp_i l' 2 (nn) → hp_F cst strs Φ D M 175 l' [.int y0, .ref 40] h') : hp_F cst strs Φ D M 102 l [] h := by
  refine hp_arc c hM deK_k hD [u, nn, b] rfl hy (hp_Bc (z := u) rfl b0 t0 (hp_Bc (z := nn) rfl b1 t1 (hp_Bc (z := b) rfl b2 t2 hp_Bn))) hp_Fn (hp_Kc (zi := (0 + 0)) (zv := (0 + (1 * b + 0))) k0 rfl rfl (by omega) (by omega) hp_Kn) (hp_La l0 (hp_Li (z := (0 + (1 * u + 0))) l1 rfl (by omega) (hp_Li (z := (0 + (1 * nn + 0))) l2 rfl (by omega) hp_Ln))) trivial ?_ ?_
  · intro p hp ys l' st' h' hys a1 a2 a3 gZ gL gS
    rcases List.mem_cons.mp hp with rfl | hp
    · obtain rfl := hp_y0 hys
      obtain ⟨y0, t0, rfl, q0, g0⟩ := hp_gSi (z := (1 + (1 * b + 0))) gS rfl
      obtain ⟨t1, rfl, g1⟩ := hp_gSa g0 (by decide)
      cases hp_gSn g1
      exact e0 l' h' y0 (by omega) a1 a2 a3 (hp_gLa gL (List.mem_of_getElem? (i := 0) rfl) (by decide)) (hp_gLi (z := (0 + (1 * u + 0))) gL (List.mem_of_getElem? (i := 1) rfl) rfl (by omega)) (hp_gLi (z := (0 + (1 * nn + 0))) gL (List.mem_of_getElem? (i := 2) rfl) rfl (by omega))
    cases hp
  · intro p hp ys v h' hys a1 a2 a3 gZ gS
    cases hp
theorem deL_k : hp_chk 89 71 1 [(0, 0, 1200)] [] [(0, .inr (.inr (.inl (some 40)))), (1, .inl (0, [])), (2, .inl (0, [(0, 1)]))] [] [(6157, (0, []), (3, [])), (6152, (0, []), (0, []))] [] 2 [(126, ([], 1, [(0, 0, 1200)], [], [(0, .inr (.inr (.inl (some 40)))), (2, .inl (0, [(0, 1)]))], [.inl (0, []), .inr (.inr (.inl (some 40)))], []))] [] = true := by decide +kernel
theorem deL {cst : am_K} {strs : List Nat} {Φ : am_Q → Prop} {D : Nat} {M : am_M} {h : am_H} {l : am_L} (c : hp_C cst strs D) (hM : m_P[89]? = some M) (hD : (2 : Int) ≤ (D : Int) + 1) (hy : ly_hy m_tt ly_TH h) (nn : Int) (b0 : 0 ≤ nn) (t0 : nn ≤ 1200) (k0 : ly_hv cst h 6157 0 = some 3) (k1 : ly_hv cst h 6152 0 = some 0) (l0 : hp_a l 0 40) (l1 : hp_i l 1 0) (l2 : hp_i l 2 (nn)) (e0 : ∀ (l' : am_L) (h' : am_H) (y0 : Int32), y0.toInt = 0 → ly_hy m_tt ly_TH h' → ly_fr cst [] h h' → h.length ≤ h'.length → hp_a l' 0 40 → hp_i l' 2 (nn) → hp_F cst strs Φ D M 126 l' [.int y0, .ref 40] h') : hp_F cst strs Φ D M 71 l [] h := by
  refine hp_arc c hM deL_k hD [nn] rfl hy (hp_Bc (z := nn) rfl b0 t0 hp_Bn) hp_Fn (hp_Kc (zi := (0 + 0)) (zv := (3 + 0)) k0 rfl rfl (by omega) (by omega) (hp_Kc (zi := (0 + 0)) (zv := (0 + 0)) k1 rfl rfl (by omega) (by omega) hp_Kn)) (hp_La l0 (hp_Li (z := (0 + 0)) l1 rfl (by omega) (hp_Li (z := (0 + (1 * nn + 0))) l2 rfl (by omega) hp_Ln))) trivial ?_ ?_
  · intro p hp ys l' st' h' hys a1 a2 a3 gZ gL gS
    rcases List.mem_cons.mp hp with rfl | hp
    · obtain rfl := hp_y0 hys
      obtain ⟨y0, t0, rfl, q0, g0⟩ := hp_gSi (z := (0 + 0)) gS rfl
      obtain ⟨t1, rfl, g1⟩ := hp_gSa g0 (by decide)
      cases hp_gSn g1
      exact e0 l' h' y0 (by omega) a1 a2 a3 (hp_gLa gL (List.mem_of_getElem? (i := 0) rfl) (by decide)) (hp_gLi (z := (0 + (1 * nn + 0))) gL (List.mem_of_getElem? (i := 1) rfl) rfl (by omega))
    cases hp
  · intro p hp ys v h' hys a1 a2 a3 gZ gS
    cases hp
theorem deM_k : hp_chk 89 129 2 [(0, 0, 1200), (1, 0, 1199)] [] [(0, .inr (.inr (.inl (some 40)))), (2, .inl (0, [(0, 1)]))] [] [(6154, (0, []), (0, [(1, 1)]))] [] 2 [(175, ([], 2, [(0, 0, 1200), (1, 0, 1199)], [], [(0, .inr (.inr (.inl (some 40)))), (1, .inl (1, [])), (2, .inl (0, [(0, 1)]))], [.inl (1, [(1, 1)]), .inr (.inr (.inl (some 40)))], []))] [] = true := by decide +kernel
theorem deM {cst : am_K} {strs : List Nat} {Φ : am_Q → Prop} {D : Nat} {M : am_M} {h : am_H} {l : am_L} (c : hp_C cst strs D) (hM : m_P[89]? = some M) (hD : (2 : Int) ≤ (D : Int) + 1) (hy : ly_hy m_tt ly_TH h) (nn b : Int) (b0 : 0 ≤ nn) (t0 : nn ≤ 1200) (b1 : 0 ≤ b) (t1 : b ≤ 1199) (k0 : ly_hv cst h 6154 0 = some (b)) (l0 : hp_a l 0 40) (l2 : hp_i l 2 (nn)) (e0 : ∀ (l' : am_L) (h' : am_H) (y0 : Int32), y0.toInt = (b + 1) → ly_hy m_tt ly_TH h' → ly_fr cst [] h h' → h.length ≤ h'.length → hp_a l' 0 40 → hp_i l' 1 1 → hp_i l' 2 (nn) → hp_F cst strs Φ D M 175 l' [.int y0, .ref 40] h') : hp_F cst strs Φ D M 129 l [] h := by
  refine hp_arc c hM deM_k hD [nn, b] rfl hy (hp_Bc (z := nn) rfl b0 t0 (hp_Bc (z := b) rfl b1 t1 hp_Bn)) hp_Fn (hp_Kc (zi := (0 + 0)) (zv := (0 + (1 * b + 0))) k0 rfl rfl (by omega) (by omega) hp_Kn) (hp_La l0 (hp_Li (z := (0 + (1 * nn + 0))) l2 rfl (by omega) hp_Ln)) trivial ?_ ?_
  · intro p hp ys l' st' h' hys a1 a2 a3 gZ gL gS
    rcases List.mem_cons.mp hp with rfl | hp
    · obtain rfl := hp_y0 hys
      obtain ⟨y0, t0, rfl, q0, g0⟩ := hp_gSi (z := (1 + (1 * b + 0))) gS rfl
      obtain ⟨t1, rfl, g1⟩ := hp_gSa g0 (by decide)
      cases hp_gSn g1
      exact e0 l' h' y0 (by omega) a1 a2 a3 (hp_gLa gL (List.mem_of_getElem? (i := 0) rfl) (by decide)) (hp_gLi (z := (1 + 0)) gL (List.mem_of_getElem? (i := 1) rfl) rfl (by omega)) (hp_gLi (z := (0 + (1 * nn + 0))) gL (List.mem_of_getElem? (i := 2) rfl) rfl (by omega))
    cases hp
  · intro p hp ys v h' hys a1 a2 a3 gZ gS
    cases hp
theorem deN_k : hp_chk 89 71 2 [(0, 0, 1), (1, 0, 1200)] [] [(0, .inr (.inr (.inl (some 40)))), (1, .inl (0, [(0, 1)])), (2, .inl (0, [(1, 1)]))] [] [(6157, (0, []), ((-1), [])), (6155, (0, []), (59, [])), (6152, (0, []), (0, []))] [] 2 [(152, ([], 2, [(0, 0, 1), (1, 0, 1200)], [], [(0, .inr (.inr (.inl (some 40)))), (1, .inl (0, [(0, 1)])), (2, .inl (0, [(1, 1)]))], [.inl (0, []), .inr (.inr (.inl (some 40)))], []))] [] = true := by decide +kernel
theorem deN {cst : am_K} {strs : List Nat} {Φ : am_Q → Prop} {D : Nat} {M : am_M} {h : am_H} {l : am_L} (c : hp_C cst strs D) (hM : m_P[89]? = some M) (hD : (2 : Int) ≤ (D : Int) + 1) (hy : ly_hy m_tt ly_TH h) (u nn : Int) (b0 : 0 ≤ u) (t0 : u ≤ 1) (b1 : 0 ≤ nn) (t1 : nn ≤ 1200) (k0 : ly_hv cst h 6157 0 = some (-1)) (k1 : ly_hv cst h 6155 0 = some 59) (k2 : ly_hv cst h 6152 0 = some 0) (l0 : hp_a l 0 40) (l1 : hp_i l 1 (u)) (l2 : hp_i l 2 (nn)) (e0 : ∀ (l' : am_L) (h' : am_H) (y0 : Int32), y0.toInt = 0 → ly_hy m_tt ly_TH h' → ly_fr cst [] h h' → h.length ≤ h'.length → hp_a l' 0 40 → hp_i l' 1 (u) → hp_i l' 2 (nn) → hp_F cst strs Φ D M 152 l' [.int y0, .ref 40] h') : hp_F cst strs Φ D M 71 l [] h := by
  refine hp_arc c hM deN_k hD [u, nn] rfl hy (hp_Bc (z := u) rfl b0 t0 (hp_Bc (z := nn) rfl b1 t1 hp_Bn)) hp_Fn (hp_Kc (zi := (0 + 0)) (zv := ((-1) + 0)) k0 rfl rfl (by omega) (by omega) (hp_Kc (zi := (0 + 0)) (zv := (59 + 0)) k1 rfl rfl (by omega) (by omega) (hp_Kc (zi := (0 + 0)) (zv := (0 + 0)) k2 rfl rfl (by omega) (by omega) hp_Kn))) (hp_La l0 (hp_Li (z := (0 + (1 * u + 0))) l1 rfl (by omega) (hp_Li (z := (0 + (1 * nn + 0))) l2 rfl (by omega) hp_Ln))) trivial ?_ ?_
  · intro p hp ys l' st' h' hys a1 a2 a3 gZ gL gS
    rcases List.mem_cons.mp hp with rfl | hp
    · obtain rfl := hp_y0 hys
      obtain ⟨y0, t0, rfl, q0, g0⟩ := hp_gSi (z := (0 + 0)) gS rfl
      obtain ⟨t1, rfl, g1⟩ := hp_gSa g0 (by decide)
      cases hp_gSn g1
      exact e0 l' h' y0 (by omega) a1 a2 a3 (hp_gLa gL (List.mem_of_getElem? (i := 0) rfl) (by decide)) (hp_gLi (z := (0 + (1 * u + 0))) gL (List.mem_of_getElem? (i := 1) rfl) rfl (by omega)) (hp_gLi (z := (0 + (1 * nn + 0))) gL (List.mem_of_getElem? (i := 2) rfl) rfl (by omega))
    cases hp
  · intro p hp ys v h' hys a1 a2 a3 gZ gS
    cases hp
theorem deO_k : hp_chk 89 155 2 [(0, 0, 1), (1, 0, 1200)] [] [(0, .inr (.inr (.inl (some 40)))), (1, .inl (0, [(0, 1)])), (2, .inl (0, [(1, 1)]))] [] [] [] 2 [(157, ([], 2, [(0, 0, 1), (1, 0, 1200)], [], [(0, .inr (.inr (.inl (some 40)))), (1, .inl (0, [(0, 1)])), (2, .inl (0, [(1, 1)]))], [.inl (0, [(0, 1)]), .inr (.inr (.inl (some 40)))], []))] [] = true := by decide +kernel
theorem deO {cst : am_K} {strs : List Nat} {Φ : am_Q → Prop} {D : Nat} {M : am_M} {h : am_H} {l : am_L} (c : hp_C cst strs D) (hM : m_P[89]? = some M) (hD : (2 : Int) ≤ (D : Int) + 1) (hy : ly_hy m_tt ly_TH h) (u nn : Int) (b0 : 0 ≤ u) (t0 : u ≤ 1) (b1 : 0 ≤ nn) (t1 : nn ≤ 1200) (l0 : hp_a l 0 40) (l1 : hp_i l 1 (u)) (l2 : hp_i l 2 (nn)) (e0 : ∀ (l' : am_L) (h' : am_H) (y0 : Int32), y0.toInt = (u) → ly_hy m_tt ly_TH h' → ly_fr cst [] h h' → h.length ≤ h'.length → hp_a l' 0 40 → hp_i l' 1 (u) → hp_i l' 2 (nn) → hp_F cst strs Φ D M 157 l' [.int y0, .ref 40] h') : hp_F cst strs Φ D M 155 l [] h := by
  refine hp_arc c hM deO_k hD [u, nn] rfl hy (hp_Bc (z := u) rfl b0 t0 (hp_Bc (z := nn) rfl b1 t1 hp_Bn)) hp_Fn hp_Kn (hp_La l0 (hp_Li (z := (0 + (1 * u + 0))) l1 rfl (by omega) (hp_Li (z := (0 + (1 * nn + 0))) l2 rfl (by omega) hp_Ln))) trivial ?_ ?_
  · intro p hp ys l' st' h' hys a1 a2 a3 gZ gL gS
    rcases List.mem_cons.mp hp with rfl | hp
    · obtain rfl := hp_y0 hys
      obtain ⟨y0, t0, rfl, q0, g0⟩ := hp_gSi (z := (0 + (1 * u + 0))) gS rfl
      obtain ⟨t1, rfl, g1⟩ := hp_gSa g0 (by decide)
      cases hp_gSn g1
      exact e0 l' h' y0 (by omega) a1 a2 a3 (hp_gLa gL (List.mem_of_getElem? (i := 0) rfl) (by decide)) (hp_gLi (z := (0 + (1 * u + 0))) gL (List.mem_of_getElem? (i := 1) rfl) rfl (by omega)) (hp_gLi (z := (0 + (1 * nn + 0))) gL (List.mem_of_getElem? (i := 2) rfl) rfl (by omega))
    cases hp
  · intro p hp ys v h' hys a1 a2 a3 gZ gS
    cases hp
theorem deP_k : hp_chk 89 160 2 [(0, 0, 1), (1, 0, 1200)] [] [(0, .inr (.inr (.inl (some 40)))), (1, .inl (0, [(0, 1)])), (2, .inl (0, [(1, 1)]))] [] [] [] 2 [] [([], 2, [(0, 0, 1), (1, 0, 1200)], [], [], [.inl (1, [])], [])] = true := by decide +kernel
theorem deP {cst : am_K} {strs : List Nat} {Φ : am_Q → Prop} {D : Nat} {M : am_M} {h : am_H} {l : am_L} (c : hp_C cst strs D) (hM : m_P[89]? = some M) (hD : (2 : Int) ≤ (D : Int) + 1) (hy : ly_hy m_tt ly_TH h) (u nn : Int) (b0 : 0 ≤ u) (t0 : u ≤ 1) (b1 : 0 ≤ nn) (t1 : nn ≤ 1200) (l0 : hp_a l 0 40) (l1 : hp_i l 1 (u)) (l2 : hp_i l 2 (nn)) (r0 : ∀ (h' : am_H) (y0 : Int32), y0.toInt = 1 → ly_hy m_tt ly_TH h' → ly_fr cst [] h h' → h.length ≤ h'.length → Φ (some (.int y0), h', 0, 0)) : hp_F cst strs Φ D M 160 l [] h := by
  refine hp_arc c hM deP_k hD [u, nn] rfl hy (hp_Bc (z := u) rfl b0 t0 (hp_Bc (z := nn) rfl b1 t1 hp_Bn)) hp_Fn hp_Kn (hp_La l0 (hp_Li (z := (0 + (1 * u + 0))) l1 rfl (by omega) (hp_Li (z := (0 + (1 * nn + 0))) l2 rfl (by omega) hp_Ln))) trivial ?_ ?_
  · intro p hp ys l' st' h' hys a1 a2 a3 gZ gL gS
    cases hp
  · intro p hp ys v h' hys a1 a2 a3 gZ gS
    rcases List.mem_cons.mp hp with rfl | hp
    · obtain rfl := hp_y0 hys
      cases v with
      | none => cases gS
      | some w =>
        obtain ⟨y0, t0, s0, q0, -⟩ := hp_gSi (z := (1 + 0)) gS rfl
        cases s0
        exact r0 h' y0 (by omega) a1 a2 a3
    cases hp
theorem deQ0_k : hp_chk 89 71 3 [(0, 0, 1), (1, 0, 1200), (2, 1, 6)] [] [(0, .inr (.inr (.inl (some 40)))), (1, .inl (0, [(0, 1)])), (2, .inl (0, [(1, 1)]))] [] [(6157, (0, []), (3, [])), (6155, (0, []), (1, [])), (6152, (0, []), (0, [(2, 1)]))] [] 2 [(164, ([], 3, [(0, 0, 1), (1, 0, 1200), (2, 1, 6)], [], [(0, .inr (.inr (.inl (some 40))))], [.inl (1, []), .inr (.inr (.inl (some 40)))], []))] [] = true := by decide +kernel
theorem deQ0 {cst : am_K} {strs : List Nat} {Φ : am_Q → Prop} {D : Nat} {M : am_M} {h : am_H} {l : am_L} (c : hp_C cst strs D) (hM : m_P[89]? = some M) (hD : (2 : Int) ≤ (D : Int) + 1) (hy : ly_hy m_tt ly_TH h) (u nn o : Int) (b0 : 0 ≤ u) (t0 : u ≤ 1) (b1 : 0 ≤ nn) (t1 : nn ≤ 1200) (b2 : 1 ≤ o) (t2 : o ≤ 6) (k0 : ly_hv cst h 6157 0 = some 3) (k1 : ly_hv cst h 6155 0 = some 1) (k2 : ly_hv cst h 6152 0 = some (o)) (l0 : hp_a l 0 40) (l1 : hp_i l 1 (u)) (l2 : hp_i l 2 (nn)) (e0 : ∀ (l' : am_L) (h' : am_H) (y0 : Int32), y0.toInt = 1 → ly_hy m_tt ly_TH h' → ly_fr cst [] h h' → h.length ≤ h'.length → hp_a l' 0 40 → hp_F cst strs Φ D M 164 l' [.int y0, .ref 40] h') : hp_F cst strs Φ D M 71 l [] h := by
  refine hp_arc c hM deQ0_k hD [u, nn, o] rfl hy (hp_Bc (z := u) rfl b0 t0 (hp_Bc (z := nn) rfl b1 t1 (hp_Bc (z := o) rfl b2 t2 hp_Bn))) hp_Fn (hp_Kc (zi := (0 + 0)) (zv := (3 + 0)) k0 rfl rfl (by omega) (by omega) (hp_Kc (zi := (0 + 0)) (zv := (1 + 0)) k1 rfl rfl (by omega) (by omega) (hp_Kc (zi := (0 + 0)) (zv := (0 + (1 * o + 0))) k2 rfl rfl (by omega) (by omega) hp_Kn))) (hp_La l0 (hp_Li (z := (0 + (1 * u + 0))) l1 rfl (by omega) (hp_Li (z := (0 + (1 * nn + 0))) l2 rfl (by omega) hp_Ln))) trivial ?_ ?_
  · intro p hp ys l' st' h' hys a1 a2 a3 gZ gL gS
    rcases List.mem_cons.mp hp with rfl | hp
    · obtain rfl := hp_y0 hys
      obtain ⟨y0, t0, rfl, q0, g0⟩ := hp_gSi (z := (1 + 0)) gS rfl
      obtain ⟨t1, rfl, g1⟩ := hp_gSa g0 (by decide)
      cases hp_gSn g1
      exact e0 l' h' y0 (by omega) a1 a2 a3 (hp_gLa gL (List.mem_of_getElem? (i := 0) rfl) (by decide))
    cases hp
  · intro p hp ys v h' hys a1 a2 a3 gZ gS
    cases hp
theorem deQ1_k : hp_chk 89 71 1 [(0, 0, 1200)] [] [(0, .inr (.inr (.inl (some 40)))), (1, .inl (1, [])), (2, .inl (0, [(0, 1)]))] [] [(6157, (0, []), (3, [])), (6155, (0, []), (1, [])), (6152, (0, []), (0, []))] [] 2 [(164, ([], 1, [(0, 0, 1200)], [], [(0, .inr (.inr (.inl (some 40))))], [.inl (1, []), .inr (.inr (.inl (some 40)))], []))] [] = true := by decide +kernel
theorem deQ1 {cst : am_K} {strs : List Nat} {Φ : am_Q → Prop} {D : Nat} {M : am_M} {h : am_H} {l : am_L} (c : hp_C cst strs D) (hM : m_P[89]? = some M) (hD : (2 : Int) ≤ (D : Int) + 1) (hy : ly_hy m_tt ly_TH h) (nn : Int) (b0 : 0 ≤ nn) (t0 : nn ≤ 1200) (k0 : ly_hv cst h 6157 0 = some 3) (k1 : ly_hv cst h 6155 0 = some 1) (k2 : ly_hv cst h 6152 0 = some 0) (l0 : hp_a l 0 40) (l1 : hp_i l 1 1) (l2 : hp_i l 2 (nn)) (e0 : ∀ (l' : am_L) (h' : am_H) (y0 : Int32), y0.toInt = 1 → ly_hy m_tt ly_TH h' → ly_fr cst [] h h' → h.length ≤ h'.length → hp_a l' 0 40 → hp_F cst strs Φ D M 164 l' [.int y0, .ref 40] h') : hp_F cst strs Φ D M 71 l [] h := by
  refine hp_arc c hM deQ1_k hD [nn] rfl hy (hp_Bc (z := nn) rfl b0 t0 hp_Bn) hp_Fn (hp_Kc (zi := (0 + 0)) (zv := (3 + 0)) k0 rfl rfl (by omega) (by omega) (hp_Kc (zi := (0 + 0)) (zv := (1 + 0)) k1 rfl rfl (by omega) (by omega) (hp_Kc (zi := (0 + 0)) (zv := (0 + 0)) k2 rfl rfl (by omega) (by omega) hp_Kn))) (hp_La l0 (hp_Li (z := (1 + 0)) l1 rfl (by omega) (hp_Li (z := (0 + (1 * nn + 0))) l2 rfl (by omega) hp_Ln))) trivial ?_ ?_
  · intro p hp ys l' st' h' hys a1 a2 a3 gZ gL gS
    rcases List.mem_cons.mp hp with rfl | hp
    · obtain rfl := hp_y0 hys
      obtain ⟨y0, t0, rfl, q0, g0⟩ := hp_gSi (z := (1 + 0)) gS rfl
      obtain ⟨t1, rfl, g1⟩ := hp_gSa g0 (by decide)
      cases hp_gSn g1
      exact e0 l' h' y0 (by omega) a1 a2 a3 (hp_gLa gL (List.mem_of_getElem? (i := 0) rfl) (by decide))
    cases hp
  · intro p hp ys v h' hys a1 a2 a3 gZ gS
    cases hp
theorem deQ2_k : hp_chk 89 71 3 [(0, 0, 1), (1, 0, 1200), (2, 0, 58)] [] [(0, .inr (.inr (.inl (some 40)))), (1, .inl (0, [(0, 1)])), (2, .inl (0, [(1, 1)]))] [] [(6157, (0, []), ((-1), [])), (6155, (0, []), (0, [(2, 1)]))] [] 2 [(164, ([], 3, [(0, 0, 1), (1, 0, 1200), (2, 0, 58)], [], [(0, .inr (.inr (.inl (some 40))))], [.inl (1, []), .inr (.inr (.inl (some 40)))], []))] [] = true := by decide +kernel
theorem deQ2 {cst : am_K} {strs : List Nat} {Φ : am_Q → Prop} {D : Nat} {M : am_M} {h : am_H} {l : am_L} (c : hp_C cst strs D) (hM : m_P[89]? = some M) (hD : (2 : Int) ≤ (D : Int) + 1) (hy : ly_hy m_tt ly_TH h) (u nn q : Int) (b0 : 0 ≤ u) (t0 : u ≤ 1) (b1 : 0 ≤ nn) (t1 : nn ≤ 1200) (b2 : 0 ≤ q) (t2 : q ≤ 58) (k0 : ly_hv cst h 6157 0 = some (-1)) (k1 : ly_hv cst h 6155 0 = some (q)) (l0 : hp_a l 0 40) (l1 : hp_i l 1 (u)) (l2 : hp_i l 2 (nn)) (e0 : ∀ (l' : am_L) (h' : am_H) (y0 : Int32), y0.toInt = 1 → ly_hy m_tt ly_TH h' → ly_fr cst [] h h' → h.length ≤ h'.length → hp_a l' 0 40 → hp_F cst strs Φ D M 164 l' [.int y0, .ref 40] h') : hp_F cst strs Φ D M 71 l [] h := by
  refine hp_arc c hM deQ2_k hD [u, nn, q] rfl hy (hp_Bc (z := u) rfl b0 t0 (hp_Bc (z := nn) rfl b1 t1 (hp_Bc (z := q) rfl b2 t2 hp_Bn))) hp_Fn (hp_Kc (zi := (0 + 0)) (zv := ((-1) + 0)) k0 rfl rfl (by omega) (by omega) (hp_Kc (zi := (0 + 0)) (zv := (0 + (1 * q + 0))) k1 rfl rfl (by omega) (by omega) hp_Kn)) (hp_La l0 (hp_Li (z := (0 + (1 * u + 0))) l1 rfl (by omega) (hp_Li (z := (0 + (1 * nn + 0))) l2 rfl (by omega) hp_Ln))) trivial ?_ ?_
  · intro p hp ys l' st' h' hys a1 a2 a3 gZ gL gS
    rcases List.mem_cons.mp hp with rfl | hp
    · obtain rfl := hp_y0 hys
      obtain ⟨y0, t0, rfl, q0, g0⟩ := hp_gSi (z := (1 + 0)) gS rfl
      obtain ⟨t1, rfl, g1⟩ := hp_gSa g0 (by decide)
      cases hp_gSn g1
      exact e0 l' h' y0 (by omega) a1 a2 a3 (hp_gLa gL (List.mem_of_getElem? (i := 0) rfl) (by decide))
    cases hp
  · intro p hp ys v h' hys a1 a2 a3 gZ gS
    cases hp
theorem deQ3_k : hp_chk 89 71 3 [(0, 0, 1), (1, 0, 1200), (2, 60, 255)] [] [(0, .inr (.inr (.inl (some 40)))), (1, .inl (0, [(0, 1)])), (2, .inl (0, [(1, 1)]))] [] [(6157, (0, []), ((-1), [])), (6155, (0, []), (0, [(2, 1)]))] [] 2 [(164, ([], 3, [(0, 0, 1), (1, 0, 1200), (2, 60, 255)], [], [(0, .inr (.inr (.inl (some 40))))], [.inl (1, []), .inr (.inr (.inl (some 40)))], []))] [] = true := by decide +kernel
theorem deQ3 {cst : am_K} {strs : List Nat} {Φ : am_Q → Prop} {D : Nat} {M : am_M} {h : am_H} {l : am_L} (c : hp_C cst strs D) (hM : m_P[89]? = some M) (hD : (2 : Int) ≤ (D : Int) + 1) (hy : ly_hy m_tt ly_TH h) (u nn q : Int) (b0 : 0 ≤ u) (t0 : u ≤ 1) (b1 : 0 ≤ nn) (t1 : nn ≤ 1200) (b2 : 60 ≤ q) (t2 : q ≤ 255) (k0 : ly_hv cst h 6157 0 = some (-1)) (k1 : ly_hv cst h 6155 0 = some (q)) (l0 : hp_a l 0 40) (l1 : hp_i l 1 (u)) (l2 : hp_i l 2 (nn)) (e0 : ∀ (l' : am_L) (h' : am_H) (y0 : Int32), y0.toInt = 1 → ly_hy m_tt ly_TH h' → ly_fr cst [] h h' → h.length ≤ h'.length → hp_a l' 0 40 → hp_F cst strs Φ D M 164 l' [.int y0, .ref 40] h') : hp_F cst strs Φ D M 71 l [] h := by
  refine hp_arc c hM deQ3_k hD [u, nn, q] rfl hy (hp_Bc (z := u) rfl b0 t0 (hp_Bc (z := nn) rfl b1 t1 (hp_Bc (z := q) rfl b2 t2 hp_Bn))) hp_Fn (hp_Kc (zi := (0 + 0)) (zv := ((-1) + 0)) k0 rfl rfl (by omega) (by omega) (hp_Kc (zi := (0 + 0)) (zv := (0 + (1 * q + 0))) k1 rfl rfl (by omega) (by omega) hp_Kn)) (hp_La l0 (hp_Li (z := (0 + (1 * u + 0))) l1 rfl (by omega) (hp_Li (z := (0 + (1 * nn + 0))) l2 rfl (by omega) hp_Ln))) trivial ?_ ?_
  · intro p hp ys l' st' h' hys a1 a2 a3 gZ gL gS
    rcases List.mem_cons.mp hp with rfl | hp
    · obtain rfl := hp_y0 hys
      obtain ⟨y0, t0, rfl, q0, g0⟩ := hp_gSi (z := (1 + 0)) gS rfl
      obtain ⟨t1, rfl, g1⟩ := hp_gSa g0 (by decide)
      cases hp_gSn g1
      exact e0 l' h' y0 (by omega) a1 a2 a3 (hp_gLa gL (List.mem_of_getElem? (i := 0) rfl) (by decide))
    cases hp
  · intro p hp ys v h' hys a1 a2 a3 gZ gS
    cases hp
theorem deQ4_k : hp_chk 89 71 2 [(0, 0, 1), (1, 0, 1200)] [] [(0, .inr (.inr (.inl (some 40)))), (1, .inl (0, [(0, 1)])), (2, .inl (0, [(1, 1)]))] [] [(6157, (0, []), (2, [])), (6155, (0, []), (1, []))] [] 2 [(164, ([], 2, [(0, 0, 1), (1, 0, 1200)], [], [(0, .inr (.inr (.inl (some 40))))], [.inl (1, []), .inr (.inr (.inl (some 40)))], []))] [] = true := by decide +kernel
theorem deQ4 {cst : am_K} {strs : List Nat} {Φ : am_Q → Prop} {D : Nat} {M : am_M} {h : am_H} {l : am_L} (c : hp_C cst strs D) (hM : m_P[89]? = some M) (hD : (2 : Int) ≤ (D : Int) + 1) (hy : ly_hy m_tt ly_TH h) (u nn : Int) (b0 : 0 ≤ u) (t0 : u ≤ 1) (b1 : 0 ≤ nn) (t1 : nn ≤ 1200) (k0 : ly_hv cst h 6157 0 = some 2) (k1 : ly_hv cst h 6155 0 = some 1) (l0 : hp_a l 0 40) (l1 : hp_i l 1 (u)) (l2 : hp_i l 2 (nn)) (e0 : ∀ (l' : am_L) (h' : am_H) (y0 : Int32), y0.toInt = 1 → ly_hy m_tt ly_TH h' → ly_fr cst [] h h' → h.length ≤ h'.length → hp_a l' 0 40 → hp_F cst strs Φ D M 164 l' [.int y0, .ref 40] h') : hp_F cst strs Φ D M 71 l [] h := by
  refine hp_arc c hM deQ4_k hD [u, nn] rfl hy (hp_Bc (z := u) rfl b0 t0 (hp_Bc (z := nn) rfl b1 t1 hp_Bn)) hp_Fn (hp_Kc (zi := (0 + 0)) (zv := (2 + 0)) k0 rfl rfl (by omega) (by omega) (hp_Kc (zi := (0 + 0)) (zv := (1 + 0)) k1 rfl rfl (by omega) (by omega) hp_Kn)) (hp_La l0 (hp_Li (z := (0 + (1 * u + 0))) l1 rfl (by omega) (hp_Li (z := (0 + (1 * nn + 0))) l2 rfl (by omega) hp_Ln))) trivial ?_ ?_
  · intro p hp ys l' st' h' hys a1 a2 a3 gZ gL gS
    rcases List.mem_cons.mp hp with rfl | hp
    · obtain rfl := hp_y0 hys
      obtain ⟨y0, t0, rfl, q0, g0⟩ := hp_gSi (z := (1 + 0)) gS rfl
      obtain ⟨t1, rfl, g1⟩ := hp_gSa g0 (by decide)
      cases hp_gSn g1
      exact e0 l' h' y0 (by omega) a1 a2 a3 (hp_gLa gL (List.mem_of_getElem? (i := 0) rfl) (by decide))
    cases hp
  · intro p hp ys v h' hys a1 a2 a3 gZ gS
    cases hp
theorem deQ5_k : hp_chk 89 71 3 [(0, 0, 1), (1, 0, 1200), (2, 4, 6)] [] [(0, .inr (.inr (.inl (some 40)))), (1, .inl (0, [(0, 1)])), (2, .inl (0, [(1, 1)]))] [] [(6157, (0, []), (0, [(2, 1)])), (6155, (0, []), (1, []))] [] 2 [(164, ([], 3, [(0, 0, 1), (1, 0, 1200), (2, 4, 6)], [], [(0, .inr (.inr (.inl (some 40))))], [.inl (1, []), .inr (.inr (.inl (some 40)))], []))] [] = true := by decide +kernel
theorem deQ5 {cst : am_K} {strs : List Nat} {Φ : am_Q → Prop} {D : Nat} {M : am_M} {h : am_H} {l : am_L} (c : hp_C cst strs D) (hM : m_P[89]? = some M) (hD : (2 : Int) ≤ (D : Int) + 1) (hy : ly_hy m_tt ly_TH h) (u nn j : Int) (b0 : 0 ≤ u) (t0 : u ≤ 1) (b1 : 0 ≤ nn) (t1 : nn ≤ 1200) (b2 : 4 ≤ j) (t2 : j ≤ 6) (k0 : ly_hv cst h 6157 0 = some (j)) (k1 : ly_hv cst h 6155 0 = some 1) (l0 : hp_a l 0 40) (l1 : hp_i l 1 (u)) (l2 : hp_i l 2 (nn)) (e0 : ∀ (l' : am_L) (h' : am_H) (y0 : Int32), y0.toInt = 1 → ly_hy m_tt ly_TH h' → ly_fr cst [] h h' → h.length ≤ h'.length → hp_a l' 0 40 → hp_F cst strs Φ D M 164 l' [.int y0, .ref 40] h') : hp_F cst strs Φ D M 71 l [] h := by
  refine hp_arc c hM deQ5_k hD [u, nn, j] rfl hy (hp_Bc (z := u) rfl b0 t0 (hp_Bc (z := nn) rfl b1 t1 (hp_Bc (z := j) rfl b2 t2 hp_Bn))) hp_Fn (hp_Kc (zi := (0 + 0)) (zv := (0 + (1 * j + 0))) k0 rfl rfl (by omega) (by omega) (hp_Kc (zi := (0 + 0)) (zv := (1 + 0)) k1 rfl rfl (by omega) (by omega) hp_Kn)) (hp_La l0 (hp_Li (z := (0 + (1 * u + 0))) l1 rfl (by omega) (hp_Li (z := (0 + (1 * nn + 0))) l2 rfl (by omega) hp_Ln))) trivial ?_ ?_
  · intro p hp ys l' st' h' hys a1 a2 a3 gZ gL gS
    rcases List.mem_cons.mp hp with rfl | hp
    · obtain rfl := hp_y0 hys
      obtain ⟨y0, t0, rfl, q0, g0⟩ := hp_gSi (z := (1 + 0)) gS rfl
      obtain ⟨t1, rfl, g1⟩ := hp_gSa g0 (by decide)
      cases hp_gSn g1
      exact e0 l' h' y0 (by omega) a1 a2 a3 (hp_gLa gL (List.mem_of_getElem? (i := 0) rfl) (by decide))
    cases hp
  · intro p hp ys v h' hys a1 a2 a3 gZ gS
    cases hp
theorem deQ6_k : hp_chk 89 71 3 [(0, 0, 1), (1, 0, 1200), (2, 1, 6)] [] [(0, .inr (.inr (.inl (some 40)))), (1, .inl (0, [(0, 1)])), (2, .inl (0, [(1, 1)]))] [] [(6157, (0, []), ((-1), [])), (6155, (0, []), (59, [])), (6152, (0, []), (0, [(2, 1)]))] [] 2 [(164, ([], 3, [(0, 0, 1), (1, 0, 1200), (2, 1, 6)], [], [(0, .inr (.inr (.inl (some 40))))], [.inl (1, []), .inr (.inr (.inl (some 40)))], []))] [] = true := by decide +kernel
theorem deQ6 {cst : am_K} {strs : List Nat} {Φ : am_Q → Prop} {D : Nat} {M : am_M} {h : am_H} {l : am_L} (c : hp_C cst strs D) (hM : m_P[89]? = some M) (hD : (2 : Int) ≤ (D : Int) + 1) (hy : ly_hy m_tt ly_TH h) (u nn o : Int) (b0 : 0 ≤ u) (t0 : u ≤ 1) (b1 : 0 ≤ nn) (t1 : nn ≤ 1200) (b2 : 1 ≤ o) (t2 : o ≤ 6) (k0 : ly_hv cst h 6157 0 = some (-1)) (k1 : ly_hv cst h 6155 0 = some 59) (k2 : ly_hv cst h 6152 0 = some (o)) (l0 : hp_a l 0 40) (l1 : hp_i l 1 (u)) (l2 : hp_i l 2 (nn)) (e0 : ∀ (l' : am_L) (h' : am_H) (y0 : Int32), y0.toInt = 1 → ly_hy m_tt ly_TH h' → ly_fr cst [] h h' → h.length ≤ h'.length → hp_a l' 0 40 → hp_F cst strs Φ D M 164 l' [.int y0, .ref 40] h') : hp_F cst strs Φ D M 71 l [] h := by
  refine hp_arc c hM deQ6_k hD [u, nn, o] rfl hy (hp_Bc (z := u) rfl b0 t0 (hp_Bc (z := nn) rfl b1 t1 (hp_Bc (z := o) rfl b2 t2 hp_Bn))) hp_Fn (hp_Kc (zi := (0 + 0)) (zv := ((-1) + 0)) k0 rfl rfl (by omega) (by omega) (hp_Kc (zi := (0 + 0)) (zv := (59 + 0)) k1 rfl rfl (by omega) (by omega) (hp_Kc (zi := (0 + 0)) (zv := (0 + (1 * o + 0))) k2 rfl rfl (by omega) (by omega) hp_Kn))) (hp_La l0 (hp_Li (z := (0 + (1 * u + 0))) l1 rfl (by omega) (hp_Li (z := (0 + (1 * nn + 0))) l2 rfl (by omega) hp_Ln))) trivial ?_ ?_
  · intro p hp ys l' st' h' hys a1 a2 a3 gZ gL gS
    rcases List.mem_cons.mp hp with rfl | hp
    · obtain rfl := hp_y0 hys
      obtain ⟨y0, t0, rfl, q0, g0⟩ := hp_gSi (z := (1 + 0)) gS rfl
      obtain ⟨t1, rfl, g1⟩ := hp_gSa g0 (by decide)
      cases hp_gSn g1
      exact e0 l' h' y0 (by omega) a1 a2 a3 (hp_gLa gL (List.mem_of_getElem? (i := 0) rfl) (by decide))
    cases hp
  · intro p hp ys v h' hys a1 a2 a3 gZ gS
    cases hp
theorem deR_k : hp_chk 89 178 2 [(0, 0, 1), (1, 0, 1200)] [] [(0, .inr (.inr (.inl (some 40)))), (1, .inl (0, [(0, 1)])), (2, .inl (0, [(1, 1)]))] [] [] [] 2 [(44, ([], 2, [(0, 0, 1), (1, 0, 1200)], [], [(0, .inr (.inr (.inl (some 40)))), (1, .inl (0, [(0, 1)])), (2, .inl (1, [(1, 1)]))], [], []))] [] = true := by decide +kernel
theorem deR {cst : am_K} {strs : List Nat} {Φ : am_Q → Prop} {D : Nat} {M : am_M} {h : am_H} {l : am_L} (c : hp_C cst strs D) (hM : m_P[89]? = some M) (hD : (2 : Int) ≤ (D : Int) + 1) (hy : ly_hy m_tt ly_TH h) (u nn : Int) (b0 : 0 ≤ u) (t0 : u ≤ 1) (b1 : 0 ≤ nn) (t1 : nn ≤ 1200) (l0 : hp_a l 0 40) (l1 : hp_i l 1 (u)) (l2 : hp_i l 2 (nn)) (e0 : ∀ (l' : am_L) (h' : am_H), ly_hy m_tt ly_TH h' → ly_fr cst [] h h' → h.length ≤ h'.length → hp_a l' 0 40 → hp_i l' 1 (u) → hp_i l' 2 (nn + 1) → hp_F cst strs Φ D M 44 l' [] h') : hp_F cst strs Φ D M 178 l [] h := by
  refine hp_arc c hM deR_k hD [u, nn] rfl hy (hp_Bc (z := u) rfl b0 t0 (hp_Bc (z := nn) rfl b1 t1 hp_Bn)) hp_Fn hp_Kn (hp_La l0 (hp_Li (z := (0 + (1 * u + 0))) l1 rfl (by omega) (hp_Li (z := (0 + (1 * nn + 0))) l2 rfl (by omega) hp_Ln))) trivial ?_ ?_
  · intro p hp ys l' st' h' hys a1 a2 a3 gZ gL gS
    rcases List.mem_cons.mp hp with rfl | hp
    · obtain rfl := hp_y0 hys
      cases hp_gSn gS
      exact e0 l' h' a1 a2 a3 (hp_gLa gL (List.mem_of_getElem? (i := 0) rfl) (by decide)) (hp_gLi (z := (0 + (1 * u + 0))) gL (List.mem_of_getElem? (i := 1) rfl) rfl (by omega)) (hp_gLi (z := (1 + (1 * nn + 0))) gL (List.mem_of_getElem? (i := 2) rfl) rfl (by omega))
    cases hp
  · intro p hp ys v h' hys a1 a2 a3 gZ gS
    cases hp
theorem fr89_11_k : hp_chk 89 14 0 [] [] [] [.inl (0, [])] [] [] 2 [] [([], 0, [], [], [], [.inl (0, [])], [])] = true := by decide +kernel
theorem fr89_11 {cst : am_K} {strs : List Nat} {Φ : am_Q → Prop} {D : Nat} {M : am_M} {h : am_H} {l : am_L} (c : hp_C cst strs D) (hM : m_P[89]? = some M) (hD : (2 : Int) ≤ (D : Int) + 1) (hy : ly_hy m_tt ly_TH h) (x0 : Int32) (hx0 : x0.toInt = 0) (r0 : ∀ (h' : am_H) (y0 : Int32), y0.toInt = 0 → ly_hy m_tt ly_TH h' → ly_fr cst [] h h' → h.length ≤ h'.length → Φ (some (.int y0), h', 0, 0)) : hp_F cst strs Φ D M 14 l [.int x0] h := by
  refine hp_arc c hM fr89_11_k hD [] rfl hy hp_Bn hp_Fn hp_Kn hp_Ln (hp_Si (z := (0 + 0)) rfl (by omega) trivial) ?_ ?_
  · intro p hp ys l' st' h' hys a1 a2 a3 gZ gL gS
    cases hp
  · intro p hp ys v h' hys a1 a2 a3 gZ gS
    rcases List.mem_cons.mp hp with rfl | hp
    · obtain rfl := hp_y0 hys
      cases v with
      | none => cases gS
      | some w =>
        obtain ⟨y0, t0, s0, q0, -⟩ := hp_gSi (z := (0 + 0)) gS rfl
        cases s0
        exact r0 h' y0 (by omega) a1 a2 a3
    cases hp
theorem fr89_164_k : hp_chk 89 167 0 [] [] [] [.inl (0, [])] [] [] 2 [] [([], 0, [], [], [], [.inl (0, [])], [])] = true := by decide +kernel
theorem fr89_164 {cst : am_K} {strs : List Nat} {Φ : am_Q → Prop} {D : Nat} {M : am_M} {h : am_H} {l : am_L} (c : hp_C cst strs D) (hM : m_P[89]? = some M) (hD : (2 : Int) ≤ (D : Int) + 1) (hy : ly_hy m_tt ly_TH h) (x0 : Int32) (hx0 : x0.toInt = 0) (r0 : ∀ (h' : am_H) (y0 : Int32), y0.toInt = 0 → ly_hy m_tt ly_TH h' → ly_fr cst [] h h' → h.length ≤ h'.length → Φ (some (.int y0), h', 0, 0)) : hp_F cst strs Φ D M 167 l [.int x0] h := by
  refine hp_arc c hM fr89_164_k hD [] rfl hy hp_Bn hp_Fn hp_Kn hp_Ln (hp_Si (z := (0 + 0)) rfl (by omega) trivial) ?_ ?_
  · intro p hp ys l' st' h' hys a1 a2 a3 gZ gL gS
    cases hp
  · intro p hp ys v h' hys a1 a2 a3 gZ gS
    rcases List.mem_cons.mp hp with rfl | hp
    · obtain rfl := hp_y0 hys
      cases v with
      | none => cases gS
      | some w =>
        obtain ⟨y0, t0, s0, q0, -⟩ := hp_gSi (z := (0 + 0)) gS rfl
        cases s0
        exact r0 h' y0 (by omega) a1 a2 a3
    cases hp
theorem fz89_11 {cst : am_K} {strs : List Nat} {Φ : am_Q → Prop} {D : Nat} {M : am_M} {h : am_H} {l : am_L} (c1 : hp_C cst strs D) (c : hp_C cst strs (D + 1)) (hM : m_P[89]? = some M) (hD : 3 ≤ D) (hy : ly_hy m_tt ly_TH h) {kd pl vl : Int → Int} {t : Nat} {n : Int} (t1 : (t : Int) ≤ 1200) (n0 : 0 ≤ n) (n1 : n ≤ 1200) (X : ct cst h kd pl vl t n) {y : Int32} {b : Nat} (k0 : 1 ≤ y.toInt) (k1 : y.toInt ≤ 4) (ka : ly_hv cst h 6154 0 = some (b : Int)) (b1 : (b : Int) ≤ 1200)
    (k : ∀ (h' : am_H) (w : Int32), w.toInt = 0 → ly_hy m_tt ly_TH h' → ly_fr cst [6144, 6145] h h' → ly_hv cst h' 6144 0 = some y.toInt → ly_hv cst h' 6145 0 = some (pa pl t n b) → Φ (some (.int w), h', 0, 0)) : hp_F cst strs Φ (D + 1) M 11 l [.int y, .ref 40] h := by
  obtain ⟨r, hrun, w, r1, r2, r3, rhy, rfr, e0, k2, k3⟩ := fl_run (xk := y) c1 (by omega) hy t1 n0 n1 X k0 k1 ka b1
  refine hp_call (mi := 89) (pc := 11) (tg := 83) (na := 2) (c := 24) (ci := 4) (st0 := [.int y, .ref 40]) (st := []) (av := [.int y]) hM (by decide +kernel) hy rfl rfl rfl (by decide) hrun r2 r3 ?_
  rw [r1]
  exact fr89_11 c hM (by omega) rhy w e0 (fun h5 v hv u1 u2 u3 => k h5 v hv u1 (ly_fr_tr rfr (hp_sub2 rfl u2)) (u2 _ _ _ rfl k2) (u2 _ _ _ rfl k3))
theorem fz89_164 {cst : am_K} {strs : List Nat} {Φ : am_Q → Prop} {D : Nat} {M : am_M} {h : am_H} {l : am_L} (c1 : hp_C cst strs D) (c : hp_C cst strs (D + 1)) (hM : m_P[89]? = some M) (hD : 3 ≤ D) (hy : ly_hy m_tt ly_TH h) {kd pl vl : Int → Int} {t : Nat} {n : Int} (t1 : (t : Int) ≤ 1200) (n0 : 0 ≤ n) (n1 : n ≤ 1200) (X : ct cst h kd pl vl t n) {y : Int32} {b : Nat} (k0 : 1 ≤ y.toInt) (k1 : y.toInt ≤ 4) (ka : ly_hv cst h 6154 0 = some (b : Int)) (b1 : (b : Int) ≤ 1200)
    (k : ∀ (h' : am_H) (w : Int32), w.toInt = 0 → ly_hy m_tt ly_TH h' → ly_fr cst [6144, 6145] h h' → ly_hv cst h' 6144 0 = some y.toInt → ly_hv cst h' 6145 0 = some (pa pl t n b) → Φ (some (.int w), h', 0, 0)) : hp_F cst strs Φ (D + 1) M 164 l [.int y, .ref 40] h := by
  obtain ⟨r, hrun, w, r1, r2, r3, rhy, rfr, e0, k2, k3⟩ := fl_run (xk := y) c1 (by omega) hy t1 n0 n1 X k0 k1 ka b1
  refine hp_call (mi := 89) (pc := 164) (tg := 83) (na := 2) (c := 24) (ci := 4) (st0 := [.int y, .ref 40]) (st := []) (av := [.int y]) hM (by decide +kernel) hy rfl rfl rfl (by decide) hrun r2 r3 ?_
  rw [r1]
  exact fr89_164 c hM (by omega) rhy w e0 (fun h5 v hv u1 u2 u3 => k h5 v hv u1 (ly_fr_tr rfr (hp_sub2 rfl u2)) (u2 _ _ _ rfl k2) (u2 _ _ _ rfl k3))
theorem lz89_22 {cst : am_K} {strs : List Nat} {Φ : am_Q → Prop} {D : Nat} {M : am_M} {h : am_H} {l : am_L} (c1 : hp_C cst strs D) (c : hp_C cst strs (D + 1)) (hM : m_P[89]? = some M) (hD : 3 ≤ D) (hy : ly_hy m_tt ly_TH h) {kd pl vl : Int → Int} {t : Nat} {n : Int} (t1 : (t : Int) ≤ 1200) (kb : kB kd t) (vb : vB kd vl t) (X : ct cst h kd pl vl t n) {y : Int32} {b : Nat} (e : y.toInt = (b : Int)) (b1 : (b : Int) ≤ 1200)
    (k : ∀ (h' : am_H), ly_hy m_tt ly_TH h' → ly_fr cst [6154, 6155, 6156, 6157] h h' → cs cst h' kd vl t b → hp_F cst strs Φ (D + 1) M 25 l [] h') : hp_F cst strs Φ (D + 1) M 22 l [.int y, .ref 40] h := by
  obtain ⟨r, hrun, r1, r2, r3, rhy, rfr, rC⟩ := lk_run (xb := y) c1 (by omega) hy t1 kb vb X e b1
  refine hp_call (mi := 89) (pc := 22) (tg := 78) (na := 2) (c := 24) (ci := 4) (st0 := [.int y, .ref 40]) (st := []) (av := [.int y]) hM (by decide +kernel) hy rfl rfl rfl (by decide) hrun r2 r3 ?_
  rw [r1]
  exact k _ rhy rfr rC
theorem lz89_175 {cst : am_K} {strs : List Nat} {Φ : am_Q → Prop} {D : Nat} {M : am_M} {h : am_H} {l : am_L} (c1 : hp_C cst strs D) (c : hp_C cst strs (D + 1)) (hM : m_P[89]? = some M) (hD : 3 ≤ D) (hy : ly_hy m_tt ly_TH h) {kd pl vl : Int → Int} {t : Nat} {n : Int} (t1 : (t : Int) ≤ 1200) (kb : kB kd t) (vb : vB kd vl t) (X : ct cst h kd pl vl t n) {y : Int32} {b : Nat} (e : y.toInt = (b : Int)) (b1 : (b : Int) ≤ 1200)
    (k : ∀ (h' : am_H), ly_hy m_tt ly_TH h' → ly_fr cst [6154, 6155, 6156, 6157] h h' → cs cst h' kd vl t b → hp_F cst strs Φ (D + 1) M 178 l [] h') : hp_F cst strs Φ (D + 1) M 175 l [.int y, .ref 40] h := by
  obtain ⟨r, hrun, r1, r2, r3, rhy, rfr, rC⟩ := lk_run (xb := y) c1 (by omega) hy t1 kb vb X e b1
  refine hp_call (mi := 89) (pc := 175) (tg := 78) (na := 2) (c := 24) (ci := 4) (st0 := [.int y, .ref 40]) (st := []) (av := [.int y]) hM (by decide +kernel) hy rfl rfl rfl (by decide) hrun r2 r3 ?_
  rw [r1]
  exact k _ rhy rfr rC
theorem wl_ge : ∀ (w : List lv) (c : lv), w.length ≤ (wl c w).length
  | [], _ => Nat.zero_le _
  | d :: w, _ => by
    have := wl_ge w d
    simp only [wl, List.length_append, List.length_cons, List.length_nil]
    omega
theorem ak_v {kd vl : Int → Int} {t a : Nat} {k : Int} (h : ak kd vl t a = k) (k0 : 0 ≤ k) : fk kd t a = 1 ∧ kw (vl (a : Int)) = k := by
  have f1 := ak_1 (kd := kd) (vl := vl) (t := t) (a := a) (by omega)
  refine ⟨f1, ?_⟩
  unfold ak at h
  rw [if_pos f1] at h
  exact h
theorem an_len (x y : Bool) (w : List lv) : (an y).length + (wl (x, true, false) w).length = (wl (x, y, false) w).length + 1 := by
  cases y with
  | true =>
    show 1 + _ = _
    omega
  | false =>
    rw [wl_a, List.length_append, List.length_singleton]
    show 0 + _ = _
    omega
set_option maxHeartbeats 8000000 in
theorem de_lp {cst : am_K} {strs : List Nat} {D : Nat} {M : am_M} {h0 : am_H} (c3 : hp_C cst strs D) (c2 : hp_C cst strs (D + 1)) (c1 : hp_C cst strs (D + 1 + 1)) (c : hp_C cst strs (D + 1 + 1 + 1)) (hM : m_P[89]? = some M) (hD : 3 ≤ D) {kd pl vl : Int → Int} {t : Nat} {n : Int} {f : Int → Int} {en : Nat → Int} (T : tkT f n t kd pl vl en) (t1 : (t : Int) ≤ 1200) (n0 : 0 ≤ n) (n1 : n ≤ 1200) (kb : kB kd t) (vb : vB kd vl t) (X : ct cst h0 kd pl vl t n) {i0 : List Int} {c0 : List cl} {C : List cl} {A d e0 : Int} (ri : (i0.length : Int) + n ≤ 10220) (ci : ((cit C).length : Int) ≤ e0) (e00 : 0 ≤ e0) (rc : (c0.length : Int) + (C.length : Int) ≤ 1239) (A0 : 0 ≤ A) (A1 : A ≤ 30) (d0 : -9223372036854775808 ≤ d) (d1 : d ≤ 9223372036854775807) (Dr : dr cst h0 i0 c0 C) (kA : ly_hv cst h0 3584 0 = some A) (kD : ly_hv cst h0 6160 0 = some d) {b0 : Nat} : ∀ (Q : Nat) (h : am_H) (l : am_L) (a p m : Nat) (x y : Bool) (w : List lv) (u : Bool) (L : List Int), t - a < Q → a ≤ t → p + b0 ≤ a → m ≤ 20 → ly_hy m_tt ly_TH h → ly_fr cst [3594, 5888, 6151, 6152, 6153, 6154, 6155, 6156, 6157, 6400, 60080, 60081, 60082] h0 h → (cx kd vl t true b0 (false, false, false) [] false 0 []) = cx kd vl t true a (x, y, false) w u m L → cs cst h kd vl t a → wt cst h (wl (x, y, false) w) → ly_hv cst h 6152 0 = some (w.length : Int) → w.length ≤ 6 → ly_hv cst h 6153 0 = some (m : Int) → it cst h i0 (cit C ++ L) → (L.length : Int) + ((wl (x, y, false) w).length : Int) + (if u = true then 2 else 0) + 1 ≤ en a - e0 + (w.length : Int) → hp_a l 0 40 → hp_i l 1 (if u = true then 1 else 0) → hp_i l 2 (p : Int) → hp_F cst strs (pR cst h0 [3588, 3594, 4608, 4864, 5120, 5376, 5632, 5888, 6151, 6152, 6153, 6154, 6155, 6156, 6157, 6400, 60010, 60011, 60012, 60080, 60081, 60082] [3594, 5888, 6151, 6152, 6153, 6154, 6155, 6156, 6157, 6400, 60080, 60081, 60082] i0 pl t n (cx kd vl t true b0 (false, false, false) [] false 0 []) (fun (x : Nat × Nat × List Int) h' => cs cst h' kd vl t x.1 ∧ dr cst h' i0 c0 (C ++ [(0, d, (x.2.1 : Int), x.2.2)]) ∧ it cst h' i0 (cit C ++ x.2.2) ∧ (x.2.2.length : Int) ≤ en x.1 - e0 ∧ x.1 < t ∧ b0 < x.1)) (D + 1 + 1 + 1) M 44 l [] h := by
  intro Q
  induction Q with
  | zero => intro h l a p m x y w u L hN; omega
  | succ Q ih =>
    intro h l a p m x y w u L hN at1 hp m20 hy fr E Cc Wt ko w6 km I pot l0 l1 l2
    have u01 : (0 : Int) ≤ (if u = true then 1 else 0) ∧ (if u = true then 1 else 0 : Int) ≤ 1 := by
      cases u <;> decide
    have u02 : (0 : Int) ≤ (if u = true then 2 else 0) ∧ (if u = true then 2 else 0 : Int) ≤ 2 := by
      cases u <;> decide
    generalize eU : (if u = true then 2 else 0 : Int) = U at pot u02
    refine deD c hM (by omega) hy (if u = true then 1 else 0) (p : Int) u01.1 u01.2 (by omega) (by omega) l0 l1 l2 (fun l3 h3 s1 s2 s3 g0 g1 g2 => ?_)
    have fr3 : ly_fr cst [3594, 5888, 6151, 6152, 6153, 6154, 6155, 6156, 6157, 6400, 60080, 60081, 60082] h0 h3 := ly_fr_tr fr (hp_sub2 rfl s2)
    -- the openings
    obtain ⟨r, hrun, v, r1, r2, r3, rhy, rfr, rE⟩ := op_run c3 c2 c1 hD s1 t1 n0 n1 kb vb (ct_mv X fr3 rfl) at1 (cs_mv Cc s2 rfl) (wt_mv Wt s2 rfl) (s2 _ _ _ rfl ko) w6
    refine hp_call (mi := 89) (pc := 52) (tg := 90) (na := 1) (c := 24) (ci := 4) (st0 := [.ref 40]) (st := []) (av := []) hM (by decide +kernel) s1 rfl rfl rfl (by decide) hrun r2 r3 ?_
    rw [r1]
    have frF : ly_fr cst (6144 :: 6145 :: [3594, 5888, 6151, 6152, 6153, 6154, 6155, 6156, 6157, 6400, 60080, 60081, 60082]) h0 r.2.1 := ly_fr_tr (hp_sub2 rfl fr3) (hp_sub2 rfl rfr)
    rcases rE with ⟨e0', k, b, EE, z1, z2⟩ | ⟨e1', rfr, b, x1, y1, z1, w1, EE, Cb, Wb, kob, wb6, nb20, nb40, ab, bt, potb⟩
    · exact deE c hM (by omega) rhy (if u = true then 1 else 0) (p : Int) v e0' u01.1 u01.2 (by omega) (by omega) g0 g1 g2 (fun h5 q hq p1 p2 p3 => pR_f (by rw [E, EE]) hq p1 (ly_fr_tr frF (hp_sub2 rfl p2)) (it_o (it_mv (it_mv (it_mv I s2 rfl) rfr rfl) p2 rfl)) (p2 _ _ _ rfl z1) (p2 _ _ _ rfl z2))
    have frr : ly_fr cst [3594, 5888, 6151, 6152, 6153, 6154, 6155, 6156, 6157, 6400, 60080, 60081, 60082] h0 r.2.1 := ly_fr_tr fr3 (hp_sub2 rfl rfr)
    have mono : ∀ i j : Nat, i ≤ j → j ≤ t → en i + ((j : Int) - (i : Int)) ≤ en j := fun i j h1 h2 => by
      have := tkT_mono T (j - i) i (by omega)
      rw [show i + (j - i) = j by omega] at this
      omega
    have enN : ∀ j : Nat, j ≤ t → en j ≤ n := fun j hj => tkT_end T j hj
    have mab := mono a b ab bt
    have nb := enN b bt
    have I1 := rfr _ _ _ rfl (s2 _ _ _ rfl I.1)
    have Ib : it cst r.2.1 i0 (cit C ++ L) := it_mv (it_mv I s2 rfl) rfr rfl
    have kmb := rfr _ _ _ rfl (s2 _ _ _ rfl km)
    have lenC : (cit C ++ L).length = (cit C).length + L.length := List.length_append
    refine deF c hM (by omega) rhy (if u = true then 1 else 0) (p : Int) v e1' u01.1 u01.2 (by omega) (by omega) g0 g1 g2 (fun l4 h4 p1 p2 p3 o0 o1 o2 => ?_)
    have fr4 : ly_fr cst [3594, 5888, 6151, 6152, 6153, 6154, 6155, 6156, 6157, 6400, 60080, 60081, 60082] h0 h4 := ly_fr_tr frr (hp_sub2 rfl p2)
    -- the test
    have wge := wl_ge w (x, y, false)
    obtain ⟨r', hrun', v', q1, q2, q3, qhy, qF, qS⟩ := te_run (P := cit C ++ L) (m := m) (nn := z1) (oo := x1) (dd := y1) (w := w1) c3 c2 c1 hD p1 t1 n0 n1 kb vb (ct_mv X fr4 rfl) (by omega) (a := b) (by omega) m20 (cs_mv Cb p2 rfl) (it_mv Ib p2 rfl) wb6 (wt_mv Wb p2 rfl) (p2 _ _ _ rfl kmb)
    refine hp_call (mi := 89) (pc := 59) (tg := 94) (na := 1) (c := 24) (ci := 4) (st0 := [.ref 40]) (st := []) (av := []) hM (by decide +kernel) p1 rfl rfl rfl (by decide) hrun' q2 q3 ?_
    rw [q1]
    cases et : ts kd vl t b m with
    | inl ff =>
      obtain ⟨k, b'⟩ := ff
      obtain ⟨zz0, qfr, kp, zz1, zz2⟩ := qF k b' et
      exact deG c hM (by omega) qhy (if u = true then 1 else 0) (p : Int) v' zz0 u01.1 u01.2 (by omega) (by omega) o0 o1 o2 (fun h5 q hq d1' d2' d3' => pR_f (by rw [E, EE, cx_tf nb20 nb40 bt et]) hq d1' (ly_fr_tr (hp_sub2 rfl fr4) (ly_fr_tr (hp_sub2 rfl qfr) (hp_sub2 rfl d2'))) (fn_mv kp d2' rfl) (d2' _ _ _ rfl zz1) (d2' _ _ _ rfl zz2))
    | inr xx =>
      obtain ⟨b2, E2⟩ := xx
      obtain ⟨zz0, qfr, C2, I2, W2, km2⟩ := qS _ et
      have frq : ly_fr cst [3594, 5888, 6151, 6152, 6153, 6154, 6155, 6156, 6157, 6400, 60080, 60081, 60082] h0 r'.2.1 := ly_fr_tr fr4 (hp_sub2 rfl qfr)
      obtain ⟨t9, tE, tb, tt2, tm19, -⟩ := ts_ok m20 et
      have E3 : (cx kd vl t true b0 (false, false, false) [] false 0 []) = cx kd vl t false b2 (x1, y1, false) w1 u (m + 1) (L ++ E2 ++ [-20004] ++ nt z1) := by
        rw [E, EE, cx_ts m20 et]
      have ntl := nt_len x1 y1 z1 w1
      have lenE : (L ++ E2 ++ [-20004] ++ nt z1).length = L.length + E2.length + 1 + (nt z1).length := by
        rw [List.length_append, List.length_append, List.length_append, List.length_singleton]
      have mb2 := mono b b2 (by omega) tt2
      have nb2 := enN b2 tt2
      have as2 : cit C ++ L ++ E2 ++ [-20004] ++ nt z1 = cit C ++ (L ++ E2 ++ [-20004] ++ nt z1) := by
        simp only [List.append_assoc]
      rw [as2] at I2
      have ko2 := qfr _ _ _ rfl (p2 _ _ _ rfl kob)
      generalize L ++ E2 ++ [-20004] ++ nt z1 = L2 at E3 lenE I2
      have pot2 : (L2.length : Int) + ((wl (x1, y1, false) w1).length : Int) + U ≤ en b2 - e0 + (w1.length : Int) := by omega
      refine deH c hM (by omega) qhy (if u = true then 1 else 0) (p : Int) v' zz0 u01.1 u01.2 (by omega) (by omega) o0 o1 o2 (fun l5 h5 d1' d2' d3' i0' i1' i2' => ?_)
      have fr5 : ly_fr cst [3594, 5888, 6151, 6152, 6153, 6154, 6155, 6156, 6157, 6400, 60080, 60081, 60082] h0 h5 := ly_fr_tr frq (hp_sub2 rfl d2')
      have wl1 := wl_len w1 (x1, y1, false)
      -- the closings
      obtain ⟨r6, hrun6, c61, c62, c63, c6hy, c6fr, b3, x3, y3, w3, L3, EE3, C3, W3, ko3, w36, I3, n41, b23, bt3, pot3, lle3⟩ := cp_run (P := cit C) (L := L2) (i0 := i0) c3 c2 c1 hD d1' t1 n0 n1 kb vb (ct_mv X fr5 rfl) (by omega) tt2 (cs_mv C2 d2' rfl) (wt_mv W2 d2' rfl) (d2' _ _ _ rfl ko2) wb6 (it_mv I2 d2' rfl)
      refine hp_call (mi := 89) (pc := 68) (tg := 99) (na := 1) (c := 24) (ci := 4) (st0 := [.ref 40]) (st := []) (av := []) hM (by decide +kernel) d1' rfl rfl rfl (by decide) hrun6 c62 c63 ?_
      rw [c61]
      have fr6 : ly_fr cst [3594, 5888, 6151, 6152, 6153, 6154, 6155, 6156, 6157, 6400, 60080, 60081, 60082] h0 r6.2.1 := ly_fr_tr fr5 (hp_sub2 rfl c6fr)
      have km6 := c6fr _ _ _ rfl (d2' _ _ _ rfl km2)
      have E4 : (cx kd vl t true b0 (false, false, false) [] false 0 []) = cx kd vl t false b3 (x3, y3, false) w3 u (m + 1) L3 := by
        rw [E3, EE3]
      have mb3 := mono b2 b3 b23 bt3
      have nb3 := enN b3 bt3
      have pot4 : (L3.length : Int) + ((wl (x3, y3, false) w3).length : Int) + U ≤ en b3 - e0 + (w3.length : Int) := by omega
      have lenC3 : (cit C ++ L3).length = (cit C).length + L3.length := List.length_append
      have bb := fk_b kb b3
      have abb := ak_b kd vl t b3
      obtain ⟨K1, K2, K3, K4⟩ := id C3
      have rll := rl_len x3 y3 w3
      -- look, and round again
      have again : ∀ (l7 : am_L) (h7 : am_H) (y0 : Int32) (x' y' : Bool) (u' : Bool) (L' : List Int), b3 < t → y0.toInt = (b3 : Int) + 1 → ly_hy m_tt ly_TH h7 → ly_fr cst [3594, 5888, 6151, 6152, 6153, 6154, 6155, 6156, 6157, 6400, 60080, 60081, 60082] h0 h7 → (cx kd vl t true b0 (false, false, false) [] false 0 []) = cx kd vl t true (b3 + 1) (x', y', false) w3 u' (m + 1) L' → wt cst h7 (wl (x', y', false) w3) → ly_hv cst h7 6152 0 = some (w3.length : Int) → ly_hv cst h7 6153 0 = some ((m : Int) + 1) → it cst h7 i0 (cit C ++ L') → (L'.length : Int) + ((wl (x', y', false) w3).length : Int) + (if u' = true then 2 else 0) + 1 ≤ en (b3 + 1) - e0 + (w3.length : Int) → hp_a l7 0 40 → hp_i l7 1 (if u' = true then 1 else 0) → hp_i l7 2 (p : Int) → hp_F cst strs (pR cst h0 [3588, 3594, 4608, 4864, 5120, 5376, 5632, 5888, 6151, 6152, 6153, 6154, 6155, 6156, 6157, 6400, 60010, 60011, 60012, 60080, 60081, 60082] [3594, 5888, 6151, 6152, 6153, 6154, 6155, 6156, 6157, 6400, 60080, 60081, 60082] i0 pl t n (cx kd vl t true b0 (false, false, false) [] false 0 []) (fun (x : Nat × Nat × List Int) h' => cs cst h' kd vl t x.1 ∧ dr cst h' i0 c0 (C ++ [(0, d, (x.2.1 : Int), x.2.2)]) ∧ it cst h' i0 (cit C ++ x.2.2) ∧ (x.2.2.length : Int) ≤ en x.1 - e0 ∧ x.1 < t ∧ b0 < x.1)) (D + 1 + 1 + 1) M 175 l7 [.int y0, .ref 40] h7 := by
        intro l7 h7 y0 x' y' u' L' lt e0' a1' a2' E' W' ko' km' I' pot' m0 m1 m2
        have u01' : (0 : Int) ≤ (if u' = true then 1 else 0) ∧ (if u' = true then 1 else 0 : Int) ≤ 1 := by
          cases u' <;> decide
        refine lz89_175 c1 c hM (by omega) a1' t1 kb vb (ct_mv X a2' rfl) (b := b3 + 1) (by omega) (by omega) (fun h8 f1 f2 C8 => ?_)
        exact deR c hM (by omega) f1 (if u' = true then 1 else 0) (p : Int) u01'.1 u01'.2 (by omega) (by omega) m0 m1 m2 (fun l9 h9 j1 j2 j3 n0' n1' n2' => ih h9 l9 (b3 + 1) (p + 1) (m + 1) x' y' w3 u' L' (by omega) (by omega) (by omega) (by omega) j1 (ly_fr_tr a2' (ly_fr_tr (hp_sub2 rfl f2) (hp_sub2 rfl j2))) E' (cs_mv C8 j2 rfl) (wt_mv (wt_mv W' f2 rfl) j2 rfl) (j2 _ _ _ rfl (f2 _ _ _ rfl ko')) w36 (j2 _ _ _ rfl (f2 _ _ _ rfl km')) (it_mv (it_mv I' f2 rfl) j2 rfl) pot' n0' n1' n2')
      have bad : cx kd vl t false b3 (x3, y3, false) w3 u (m + 1) L3 = .inl (1, b3) → ∀ (l7 : am_L) (h7 : am_H) (y0 : Int32), y0.toInt = 1 → ly_hy m_tt ly_TH h7 → ly_fr cst [] r6.2.1 h7 → hp_F cst strs (pR cst h0 [3588, 3594, 4608, 4864, 5120, 5376, 5632, 5888, 6151, 6152, 6153, 6154, 6155, 6156, 6157, 6400, 60010, 60011, 60012, 60080, 60081, 60082] [3594, 5888, 6151, 6152, 6153, 6154, 6155, 6156, 6157, 6400, 60080, 60081, 60082] i0 pl t n (cx kd vl t true b0 (false, false, false) [] false 0 []) (fun (x : Nat × Nat × List Int) h' => cs cst h' kd vl t x.1 ∧ dr cst h' i0 c0 (C ++ [(0, d, (x.2.1 : Int), x.2.2)]) ∧ it cst h' i0 (cit C ++ x.2.2) ∧ (x.2.2.length : Int) ≤ en x.1 - e0 ∧ x.1 < t ∧ b0 < x.1)) (D + 1 + 1 + 1) M 164 l7 [.int y0, .ref 40] h7 := fun eb l7 h7 y0 e0' a1' a2' => fz89_164 c1 c hM (by omega) a1' t1 n0 n1 (ct_mv (ct_mv X fr6 rfl) a2' rfl) (by omega) (by omega) (a2' _ _ _ rfl K1) (by omega) (fun h8 q hq f1 f2 zz1 zz2 => pR_f (by rw [E4, eb]) hq f1 (ly_fr_tr (hp_sub2 rfl fr6) (ly_fr_tr (hp_sub2 rfl a2') (hp_sub2 rfl f2))) (it_o (it_mv (it_mv I3 a2' rfl) f2 rfl)) (by rw [← e0']; exact zz1) zz2)
      have ub : (if u = true then 1 else 0 : Int) = 0 ∨ (if u = true then 1 else 0 : Int) = 1 := by
        cases u
        · exact Or.inl rfl
        · exact Or.inr rfl
      -- release, then await
      have join : ∀ (j : Int) (l7 : am_L) (h7 : am_H) (y0 : Int32), (j = 0 ∧ ak kd vl t b3 = 18 ∨ j = 1 ∧ ak kd vl t b3 = 19) → y0.toInt = j → ly_hy m_tt ly_TH h7 → ly_fr cst [] r6.2.1 h7 → hp_a l7 0 40 → hp_i l7 1 (if u = true then 1 else 0) → hp_i l7 2 (p : Int) → hp_F cst strs (pR cst h0 [3588, 3594, 4608, 4864, 5120, 5376, 5632, 5888, 6151, 6152, 6153, 6154, 6155, 6156, 6157, 6400, 60010, 60011, 60012, 60080, 60081, 60082] [3594, 5888, 6151, 6152, 6153, 6154, 6155, 6156, 6157, 6400, 60080, 60081, 60082] i0 pl t n (cx kd vl t true b0 (false, false, false) [] false 0 []) (fun (x : Nat × Nat × List Int) h' => cs cst h' kd vl t x.1 ∧ dr cst h' i0 c0 (C ++ [(0, d, (x.2.1 : Int), x.2.2)]) ∧ it cst h' i0 (cit C ++ x.2.2) ∧ (x.2.2.length : Int) ≤ en x.1 - e0 ∧ x.1 < t ∧ b0 < x.1)) (D + 1 + 1 + 1) M 91 l7 [.int y0, .ref 40] h7 := by
        intro j l7 h7 y0 ej e0' a1' a2' m0 m1 m2
        have kj : ly_hv cst h7 6157 0 = some j := by
          rcases ej with ⟨e1, e2⟩ | ⟨e1, e2⟩ <;> rw [e2] at K4 <;> rw [e1] <;> exact a2' _ _ _ rfl K4
        have f1 : fk kd t b3 = 1 := ak_1 (vl := vl) (by omega)
        have lt : b3 < t := fk_in (kd := kd) (by rw [f1]; decide)
        obtain ⟨r8, hrun8, k81, k82, k83, k8hy, k8fr, k8a, k8o⟩ := re_run (xx := y0) c2 c1 (by omega) a1' (wt_mv W3 a2' rfl) w36 (it_mv I3 a2' rfl) (by omega) (by omega) (by omega)
        refine hp_call (mi := 89) (pc := 91) (tg := 100) (na := 2) (c := 24) (ci := 4) (st0 := [.int y0, .ref 40]) (st := []) (av := [.int y0]) hM (by decide +kernel) a1' rfl rfl rfl (by decide) hrun8 k82 k83 ?_
        rw [k81]
        refine deJ c hM (by omega) k8hy (if u = true then 1 else 0) (p : Int) j u01.1 u01.2 (by omega) (by omega) (by omega) (by omega) (k8fr _ _ _ rfl kj) m0 m1 m2 (fun l9 h9 y1' e1' b1' b2' b3' m3 m4 m5 => ?_)
        have fr9 : ly_fr cst [3594, 5888, 6151, 6152, 6153, 6154, 6155, 6156, 6157, 6400, 60080, 60081, 60082] h0 h9 := ly_fr_tr fr6 (ly_fr_tr (hp_sub2 rfl a2') (ly_fr_tr (hp_sub2 rfl k8fr) (hp_sub2 rfl b2')))
        have ko9 := b2' _ _ _ rfl (k8fr _ _ _ rfl (a2' _ _ _ rfl ko3))
        have km9 := b2' _ _ _ rfl (k8fr _ _ _ rfl (a2' _ _ _ rfl km6))
        have K19 := b2' _ _ _ rfl (k8fr _ _ _ rfl (a2' _ _ _ rfl K1))
        -- await
        have aw : ∀ (x' : Bool) (y' : Bool) (Z : List Int) (L' : List Int), wl (x', y', false) w3 = Z ++ [j] → Z.length ≤ 27 → wt cst h9 Z → it cst h9 i0 (cit C ++ L') → (cx kd vl t true b0 (false, false, false) [] false 0 []) = cx kd vl t true (b3 + 1) (x', y', false) w3 u (m + 1) L' → (L'.length : Int) + ((wl (x', y', false) w3).length : Int) + U + 1 ≤ en (b3 + 1) - e0 + (w3.length : Int) → hp_F cst strs (pR cst h0 [3588, 3594, 4608, 4864, 5120, 5376, 5632, 5888, 6151, 6152, 6153, 6154, 6155, 6156, 6157, 6400, 60010, 60011, 60012, 60080, 60081, 60082] [3594, 5888, 6151, 6152, 6153, 6154, 6155, 6156, 6157, 6400, 60080, 60081, 60082] i0 pl t n (cx kd vl t true b0 (false, false, false) [] false 0 []) (fun (x : Nat × Nat × List Int) h' => cs cst h' kd vl t x.1 ∧ dr cst h' i0 c0 (C ++ [(0, d, (x.2.1 : Int), x.2.2)]) ∧ it cst h' i0 (cit C ++ x.2.2) ∧ (x.2.2.length : Int) ≤ en x.1 - e0 ∧ x.1 < t ∧ b0 < x.1)) (D + 1 + 1 + 1) M 99 l9 [.int y1', .ref 40] h9 := by
          intro x' y' Z L' eZ Z27 WZ IZ EZ potZ
          obtain ⟨r10, hrun10, n1', n2', n3', nhy, nfr, nW⟩ := aw_run (xx := y1') c1 (by omega) b1' WZ Z27 (by omega) (by omega)
          refine hp_call (mi := 89) (pc := 99) (tg := 93) (na := 2) (c := 24) (ci := 4) (st0 := [.int y1', .ref 40]) (st := []) (av := [.int y1']) hM (by decide +kernel) b1' rfl rfl rfl (by decide) hrun10 n2' n3' ?_
          rw [n1']
          rw [e1', ← eZ] at nW
          exact deK c hM (by omega) nhy (if u = true then 1 else 0) (p : Int) (b3 : Int) u01.1 u01.2 (by omega) (by omega) (by omega) (by omega) (nfr _ _ _ rfl K19) m3 m4 m5 (fun l11 h11 y2' e2' c1' c2' c3' s4 s5 s6 => again l11 h11 y2' x' y' u L' lt e2' c1' (ly_fr_tr fr9 (ly_fr_tr (hp_sub2 rfl nfr) (hp_sub2 rfl c2'))) EZ (wt_mv nW c2' rfl) (c2' _ _ _ rfl (nfr _ _ _ rfl ko9)) (c2' _ _ _ rfl (nfr _ _ _ rfl km9)) (it_mv (it_mv IZ nfr rfl) c2' rfl) (by rw [eU]; exact potZ) s4 s5 s6)
        have l2b := tkT_l2 T f1
        rcases ej with ⟨e1, e2⟩ | ⟨e1, e2⟩
        · have vv := kw_18 (ak_v e2 (by decide)).2
          have l2c := l2b.1 (by omega)
          obtain ⟨kW, kI⟩ := k8o (by omega)
          have ll := wl_len w3 (false, false, false)
          have lw : (wl (true, false, false) w3).length = (wl (false, false, false) w3).length + 1 := by
            rw [wl_o, List.length_append, List.length_singleton]
          have lr : (L3 ++ rl (x3, y3, false)).length = L3.length + (rl (x3, y3, false)).length := List.length_append
          rw [List.append_assoc] at kI
          refine aw true false _ (L3 ++ rl (x3, y3, false)) (by rw [wl_o, e1]) (by omega) (wt_mv kW b2' rfl) (it_mv kI b2' rfl) (by rw [E4, cx_or e2]) ?_
          omega
        · have vv := kw_19 (ak_v e2 (by decide)).2
          have l2c := l2b.1 (by omega)
          obtain ⟨kW, kI⟩ := k8a (by omega)
          have ll := wl_len w3 (x3, false, false)
          have lw := an_len x3 y3 w3
          have lr : (L3 ++ an y3).length = L3.length + (an y3).length := List.length_append
          rw [List.append_assoc] at kI
          refine aw x3 true _ (L3 ++ an y3) (by rw [wl_a, e1]) (by omega) (wt_mv kW b2' rfl) (it_mv kI b2' rfl) (by rw [E4, cx_and e2]) ?_
          omega
      by_cases q18 : ak kd vl t b3 = 18
      · have kj := K4
        rw [q18] at kj
        exact deI0 c hM (by omega) c6hy (if u = true then 1 else 0) (p : Int) u01.1 u01.2 (by omega) (by omega) kj i0' i1' i2' (fun l7 h7 y0 e0' a1' a2' a3' m0 m1 m2 => join 0 l7 h7 y0 (Or.inl ⟨rfl, q18⟩) e0' a1' a2' m0 m1 m2)
      by_cases q19 : ak kd vl t b3 = 19
      · have kj := K4
        rw [q19] at kj
        exact deI1 c hM (by omega) c6hy (if u = true then 1 else 0) (p : Int) u01.1 u01.2 (by omega) (by omega) kj i0' i1' i2' (fun l7 h7 y0 e0' a1' a2' a3' m0 m1 m2 => join 1 l7 h7 y0 (Or.inr ⟨rfl, q19⟩) e0' a1' a2' m0 m1 m2)
      by_cases q17 : ak kd vl t b3 = 17
      · have f1 : fk kd t b3 = 1 := ak_1 (vl := vl) (by omega)
        have lt : b3 < t := fk_in (kd := kd) (by rw [f1]; decide)
        have kj := K4
        rw [q17] at kj
        have kk := K2
        rw [f1] at kk
        by_cases o0' : w3.length = 0
        · have w30 : w3 = [] := List.length_eq_zero_iff.mp o0'
          rw [o0'] at ko3
          cases u with
          | true =>
            exact deQ1 c hM (by omega) c6hy (p : Int) (by omega) (by omega) kj kk ko3 i0' i1' i2' (fun l7 h7 y0 e0' a1' a2' a3' m0 => bad (cx_bad bt3 n41 q18 q19 (fun zz => by cases zz.2.2) (fun zz => by omega)) l7 h7 y0 e0' a1' a2')
          | false =>
            refine deL c hM (by omega) c6hy (p : Int) (by omega) (by omega) kj ko3 i0' i1' i2' (fun l7 h7 y0 e0' a1' a2' a3' m0 m2 => ?_)
            subst w30
            obtain ⟨r8, hrun8, k81, k82, k83, k8hy, k8fr, -, k8o⟩ := re_run (xx := y0) c2 c1 (by omega) a1' (wt_mv W3 a2' rfl) w36 (it_mv I3 a2' rfl) (by omega) (by omega) (by omega)
            refine hp_call (mi := 89) (pc := 126) (tg := 100) (na := 2) (c := 24) (ci := 4) (st0 := [.int y0, .ref 40]) (st := []) (av := [.int y0]) hM (by decide +kernel) a1' rfl rfl rfl (by decide) hrun8 k82 k83 ?_
            rw [k81]
            obtain ⟨kW, kI⟩ := k8o e0'
            rw [List.append_assoc] at kI
            have vv := kw_17 (ak_v q17 (by decide)).2
            have l3c := (tkT_l2 T f1).2 (by omega)
            have lr : (L3 ++ rl (x3, y3, false)).length = L3.length + (rl (x3, y3, false)).length := List.length_append
            have z00 : (wl (false, false, false) []).length = 0 := rfl
            have U0 : U = 0 := eU.symm
            refine deM c hM (by omega) k8hy (p : Int) (b3 : Int) (by omega) (by omega) (by omega) (by omega) (k8fr _ _ _ rfl (a2' _ _ _ rfl K1)) m0 m2 (fun l9 h9 y1' e1' b1' b2' b3' m3 m4 m5 => again l9 h9 y1' false false true (L3 ++ rl (x3, y3, false)) lt e1' b1' (ly_fr_tr fr6 (ly_fr_tr (hp_sub2 rfl a2') (ly_fr_tr (hp_sub2 rfl k8fr) (hp_sub2 rfl b2')))) (by rw [E4, cx_un q17]) (wt_mv kW b2' rfl) (b2' _ _ _ rfl (k8fr _ _ _ rfl (a2' _ _ _ rfl ko3))) (b2' _ _ _ rfl (k8fr _ _ _ rfl (a2' _ _ _ rfl km6))) (it_mv kI b2' rfl) ?_ m3 m4 m5)
            show (((L3 ++ rl (x3, y3, false)).length : Int) + ((wl (false, false, false) []).length : Int) + 2 + 1 ≤ en (b3 + 1) - e0 + (([] : List lv).length : Int))
            rw [List.length_nil] at pot4 ⊢
            omega
        · exact deQ0 c hM (by omega) c6hy (if u = true then 1 else 0) (p : Int) (w3.length : Int) u01.1 u01.2 (by omega) (by omega) (by omega) (by omega) kj kk ko3 i0' i1' i2' (fun l7 h7 y0 e0' a1' a2' a3' m0 => bad (cx_bad bt3 n41 q18 q19 (fun zz => o0' (by rw [zz.2.1]; rfl)) (fun zz => by omega)) l7 h7 y0 e0' a1' a2')
      by_cases q59 : fk kd t b3 = 59
      · have lt : b3 < t := fk_in (kd := kd) (by rw [q59]; decide)
        have kk := K2
        rw [q59] at kk
        have ka : ak kd vl t b3 = -1 := ak_n (by omega)
        have kj := K4
        rw [ka] at kj
        have kj : ly_hv cst r6.2.1 6157 0 = some (-1) := kj
        by_cases o0' : w3.length = 0
        · have w30 : w3 = [] := List.length_eq_zero_iff.mp o0'
          rw [o0'] at ko3
          refine deN c hM (by omega) c6hy (if u = true then 1 else 0) (p : Int) u01.1 u01.2 (by omega) (by omega) kj kk ko3 i0' i1' i2' (fun l7 h7 y0 e0' a1' a2' a3' m0 m1 m2 => ?_)
          subst w30
          obtain ⟨r8, hrun8, k81, k82, k83, k8hy, k8fr, -, k8o⟩ := re_run (xx := y0) c2 c1 (by omega) a1' (wt_mv W3 a2' rfl) w36 (it_mv I3 a2' rfl) (by omega) (by omega) (by omega)
          refine hp_call (mi := 89) (pc := 152) (tg := 100) (na := 2) (c := 24) (ci := 4) (st0 := [.int y0, .ref 40]) (st := []) (av := [.int y0]) hM (by decide +kernel) a1' rfl rfl rfl (by decide) hrun8 k82 k83 ?_
          rw [k81]
          obtain ⟨kW, kI⟩ := k8o e0'
          rw [List.append_assoc] at kI
          have lr : (L3 ++ rl (x3, y3, false)).length = L3.length + (rl (x3, y3, false)).length := List.length_append
          have z00 : (wl (false, false, false) []).length = 0 := rfl
          have lcr : (cit C ++ (L3 ++ rl (x3, y3, false))).length = (cit C).length + (L3 ++ rl (x3, y3, false)).length := List.length_append
          rw [List.length_nil] at pot4
          refine deO c hM (by omega) k8hy (if u = true then 1 else 0) (p : Int) u01.1 u01.2 (by omega) (by omega) m0 m1 m2 (fun l9 h9 y1' e1' b1' b2' b3' m3 m4 m5 => ?_)
          have fr9 : ly_fr cst [3594, 5888, 6151, 6152, 6153, 6154, 6155, 6156, 6157, 6400, 60080, 60081, 60082] h0 h9 := ly_fr_tr fr6 (ly_fr_tr (hp_sub2 rfl a2') (ly_fr_tr (hp_sub2 rfl k8fr) (hp_sub2 rfl b2')))
          obtain ⟨r9, hrun9, v91, v92, v93, v9hy, v9fr, v9D, v9I⟩ := clo_run (xu := y1') (u := u) (m := m + 1) (L := L3 ++ rl (x3, y3, false)) (A := A) (d := d) c2 c1 (by omega) b1' (dr_mv Dr fr9 rfl) (it_mv kI b2' rfl) rc (by omega) A0 A1 (fr9 _ _ _ rfl kA) (by omega) (fr9 _ _ _ rfl kD) d0 d1 (b2' _ _ _ rfl (k8fr _ _ _ rfl (a2' _ _ _ rfl km6))) e1'
          refine hp_call (mi := 89) (pc := 157) (tg := 101) (na := 2) (c := 24) (ci := 4) (st0 := [.int y1', .ref 40]) (st := []) (av := [.int y1']) hM (by decide +kernel) b1' rfl rfl rfl (by decide) hrun9 v92 v93 ?_
          rw [v91]
          have lf : ((L3 ++ rl (x3, y3, false) ++ (bif u then [-20005, -20006] else [])).length : Int) = ((L3 ++ rl (x3, y3, false)).length : Int) + U := by
            rw [List.length_append, ← eU]
            cases u <;> rfl
          exact deP c hM (by omega) v9hy (if u = true then 1 else 0) (p : Int) u01.1 u01.2 (by omega) (by omega) m3 m4 m5 (fun h10 q hq w1' w2' w3' => pR_s (x := (b3, m + 1, L3 ++ rl (x3, y3, false) ++ (bif u then [-20005, -20006] else []))) (by rw [E4, cx_fin q59]) hq w1' (ly_fr_tr (hp_sub2 rfl fr9) (ly_fr_tr (hp_sub2 rfl v9fr) (hp_sub2 rfl w2'))) ⟨cs_mv (cs_mv (cs_mv (cs_mv (cs_mv C3 a2' rfl) k8fr rfl) b2' rfl) v9fr rfl) w2' rfl, dr_mv v9D w2' rfl, it_mv v9I w2' rfl, by (try dsimp only); rw [lf]; omega, lt, by (try dsimp only); omega⟩)
        · exact deQ6 c hM (by omega) c6hy (if u = true then 1 else 0) (p : Int) (w3.length : Int) u01.1 u01.2 (by omega) (by omega) (by omega) (by omega) kj kk ko3 i0' i1' i2' (fun l7 h7 y0 e0' a1' a2' a3' m0 => bad (cx_bad bt3 n41 q18 q19 (fun zz => q17 zz.1) (fun zz => o0' (by rw [zz.2]; rfl))) l7 h7 y0 e0' a1' a2')
      have ebad := cx_bad (c := (x3, y3, false)) (L := L3) (u := u) (m := m + 1) bt3 n41 q18 q19 (fun zz => q17 zz.1) (fun zz => q59 zz.1)
      by_cases q1 : fk kd t b3 = 1
      · have kk := K2
        rw [q1] at kk
        by_cases q20 : ak kd vl t b3 = 20
        · have kj := K4
          rw [q20] at kj
          have kj : ly_hv cst r6.2.1 6157 0 = some 2 := kj
          exact deQ4 c hM (by omega) c6hy (if u = true then 1 else 0) (p : Int) u01.1 u01.2 (by omega) (by omega) kj kk i0' i1' i2' (fun l7 h7 y0 e0' a1' a2' a3' m0 => bad ebad l7 h7 y0 e0' a1' a2')
        by_cases q21 : 21 ≤ ak kd vl t b3
        · have je := jf_ge q21 abb.2
          exact deQ5 c hM (by omega) c6hy (if u = true then 1 else 0) (p : Int) (jf (ak kd vl t b3)) u01.1 u01.2 (by omega) (by omega) (by omega) (by omega) K4 kk i0' i1' i2' (fun l7 h7 y0 e0' a1' a2' a3' m0 => bad ebad l7 h7 y0 e0' a1' a2')
        · have je := jf_neg (k := ak kd vl t b3) (by omega) abb.1
          have kj := K4
          rw [je] at kj
          exact deQ2 c hM (by omega) c6hy (if u = true then 1 else 0) (p : Int) 1 u01.1 u01.2 (by omega) (by omega) (by omega) (by omega) kj kk i0' i1' i2' (fun l7 h7 y0 e0' a1' a2' a3' m0 => bad ebad l7 h7 y0 e0' a1' a2')
      · have ka : ak kd vl t b3 = -1 := ak_n q1
        have kj := K4
        rw [ka] at kj
        have kj : ly_hv cst r6.2.1 6157 0 = some (-1) := kj
        by_cases k9 : fk kd t b3 ≤ 58
        · exact deQ2 c hM (by omega) c6hy (if u = true then 1 else 0) (p : Int) (fk kd t b3) u01.1 u01.2 (by omega) (by omega) bb.1 k9 kj K2 i0' i1' i2' (fun l7 h7 y0 e0' a1' a2' a3' m0 => bad ebad l7 h7 y0 e0' a1' a2')
        · exact deQ3 c hM (by omega) c6hy (if u = true then 1 else 0) (p : Int) (fk kd t b3) u01.1 u01.2 (by omega) (by omega) (by omega) (by omega) kj K2 i0' i1' i2' (fun l7 h7 y0 e0' a1' a2' a3' m0 => bad ebad l7 h7 y0 e0' a1' a2')
/-- readDeed of the class -/
theorem de_run {cst : am_K} {strs : List Nat} {D : Nat} {h : am_H} (c3 : hp_C cst strs D) (c2 : hp_C cst strs (D + 1)) (c1 : hp_C cst strs (D + 1 + 1)) (c : hp_C cst strs (D + 1 + 1 + 1)) (hD : 3 ≤ D) (hy : ly_hy m_tt ly_TH h) {kd pl vl : Int → Int} {t : Nat} {n : Int} {f : Int → Int} {en : Nat → Int} (T : tkT f n t kd pl vl en) (t1 : (t : Int) ≤ 1200) (n0 : 0 ≤ n) (n1 : n ≤ 1200) (kb : kB kd t) (vb : vB kd vl t) (X : ct cst h kd pl vl t n) {i0 : List Int} {c0 : List cl} {C : List cl} {A d e0 : Int} (ri : (i0.length : Int) + n ≤ 10220) (ci : ((cit C).length : Int) ≤ e0) (e00 : 0 ≤ e0) (rc : (c0.length : Int) + (C.length : Int) ≤ 1239) (A0 : 0 ≤ A) (A1 : A ≤ 30) (d0 : -9223372036854775808 ≤ d) (d1 : d ≤ 9223372036854775807) (Dr : dr cst h i0 c0 C) (I : it cst h i0 (cit C)) (kA : ly_hv cst h 3584 0 = some A) (kD : ly_hv cst h 6160 0 = some d) {b : Nat} (b1 : b ≤ t) (be : e0 ≤ en b) (Cc : cs cst h kd vl t b) :
    ∃ r, am_Run cst m_cl m_tt m_P strs sx_bi (D + 1 + 1 + 1 + 1) 89 [.ref 40] h r ∧ (pR cst h [3588, 3594, 4608, 4864, 5120, 5376, 5632, 5888, 6151, 6152, 6153, 6154, 6155, 6156, 6157, 6400, 60010, 60011, 60012, 60080, 60081, 60082] [3594, 5888, 6151, 6152, 6153, 6154, 6155, 6156, 6157, 6400, 60080, 60081, 60082] i0 pl t n (if fk kd t b ≠ 61 then .inl (1, b) else cx kd vl t true (b + 1) (false, false, false) [] false 0 [] : (Int × Nat) ⊕ (Nat × Nat × List Int)) (fun (x : Nat × Nat × List Int) h' => cs cst h' kd vl t x.1 ∧ dr cst h' i0 c0 (C ++ [(0, d, (x.2.1 : Int), x.2.2)]) ∧ it cst h' i0 (cit C ++ x.2.2) ∧ (x.2.2.length : Int) ≤ en x.1 - e0 ∧ x.1 < t ∧ b < x.1)) r := by
  obtain ⟨M, hM, hl⟩ := hp_M (mi := 89) (k := 1) (by decide +kernel)
  have bb := fk_b kb b
  obtain ⟨K1, K2, K3, K4⟩ := id Cc
  have start : hp_F cst strs (pR cst h [3588, 3594, 4608, 4864, 5120, 5376, 5632, 5888, 6151, 6152, 6153, 6154, 6155, 6156, 6157, 6400, 60010, 60011, 60012, 60080, 60081, 60082] [3594, 5888, 6151, 6152, 6153, 6154, 6155, 6156, 6157, 6400, 60080, 60081, 60082] i0 pl t n (if fk kd t b ≠ 61 then .inl (1, b) else cx kd vl t true (b + 1) (false, false, false) [] false 0 [] : (Int × Nat) ⊕ (Nat × Nat × List Int)) (fun (x : Nat × Nat × List Int) h' => cs cst h' kd vl t x.1 ∧ dr cst h' i0 c0 (C ++ [(0, d, (x.2.1 : Int), x.2.2)]) ∧ it cst h' i0 (cit C ++ x.2.2) ∧ (x.2.2.length : Int) ≤ en x.1 - e0 ∧ x.1 < t ∧ b < x.1)) (D + 1 + 1 + 1) M 0 (lv_args 0 [.ref 40]) [] h := by
    by_cases q61 : fk kd t b = 61
    rotate_left
    · have fz : ∀ (l2 : am_L) (h2 : am_H) (y0 : Int32), y0.toInt = 1 → ly_hy m_tt ly_TH h2 → ly_fr cst [] h h2 → hp_F cst strs (pR cst h [3588, 3594, 4608, 4864, 5120, 5376, 5632, 5888, 6151, 6152, 6153, 6154, 6155, 6156, 6157, 6400, 60010, 60011, 60012, 60080, 60081, 60082] [3594, 5888, 6151, 6152, 6153, 6154, 6155, 6156, 6157, 6400, 60080, 60081, 60082] i0 pl t n (if fk kd t b ≠ 61 then .inl (1, b) else cx kd vl t true (b + 1) (false, false, false) [] false 0 [] : (Int × Nat) ⊕ (Nat × Nat × List Int)) (fun (x : Nat × Nat × List Int) h' => cs cst h' kd vl t x.1 ∧ dr cst h' i0 c0 (C ++ [(0, d, (x.2.1 : Int), x.2.2)]) ∧ it cst h' i0 (cit C ++ x.2.2) ∧ (x.2.2.length : Int) ≤ en x.1 - e0 ∧ x.1 < t ∧ b < x.1)) (D + 1 + 1 + 1) M 11 l2 [.int y0, .ref 40] h2 := fun l2 h2 y0 e0' u1 u2 => fz89_11 c1 c hM (by omega) u1 t1 n0 n1 (ct_mv X u2 rfl) (by omega) (by omega) (u2 _ _ _ rfl K1) (by omega) (fun h3 q hq v1 v2 z1 z2 => pR_f (by rw [if_pos q61]) hq v1 (ly_fr_tr (hp_sub2 rfl u2) (hp_sub2 rfl v2)) (it_o (L := cit C) (it_mv (it_mv I u2 rfl) v2 rfl)) (by rw [← e0']; exact z1) z2)
      by_cases k9 : fk kd t b ≤ 60
      · exact deA0 c hM (by omega) hy (fk kd t b) bb.1 k9 K2 rfl (fun l2 h2 y0 e0' u1 u2 u3 m0 => fz l2 h2 y0 e0' u1 u2)
      · exact deA1 c hM (by omega) hy (fk kd t b) (by omega) (by omega) K2 rfl (fun l2 h2 y0 e0' u1 u2 u3 m0 => fz l2 h2 y0 e0' u1 u2)
    have lt : b < t := fk_in (kd := kd) (by rw [q61]; decide)
    have kk := K2
    rw [q61] at kk
    rw [if_neg (fun z => z q61)]
    refine deB c hM (by omega) hy (b : Int) (by omega) (by omega) kk K1 rfl (fun l2 h2 y0 e0' u1 u2 u3 m0 => ?_)
    refine lz89_22 c1 c hM (by omega) u1 t1 kb vb (ct_mv X u2 rfl) (b := b + 1) (by omega) (by omega) (fun h3 v1 v2 C3 => ?_)
    refine deC c hM (by omega) v1 m0 (fun l4 h4 w1 w2 w3 k1 k2 k3 g0 g1 g2 => ?_)
    have f4 : ly_fr cst [6151, 6152, 6153, 6154, 6155, 6156, 6157, 60080, 60081, 60082] h h4 := ly_fr_tr (hp_sub2 rfl u2) (ly_fr_tr (hp_sub2 rfl v2) (hp_sub2 rfl w2))
    have mo := tkT_mono T 1 b (by omega)
    refine hp_mon (de_lp (h0 := h) (b0 := b + 1) (d := d) (e0 := e0) c3 c2 c1 c hM hD T t1 n0 n1 kb vb X ri ci e00 rc A0 A1 d0 d1 Dr kA kD (t - (b + 1) + 1) h4 l4 (b + 1) 0 0 false false [] false [] (by omega) (by omega) (by omega) (by omega) w1 (hp_sub2 rfl f4) rfl (cs_mv C3 w2 rfl) ⟨k1, fun k hk => by simp [wl, wf] at hk⟩ k2 (by decide) k3 (by rw [List.append_nil]; exact it_mv I f4 rfl) (by
      show ((0 : Nat) : Int) + ((0 : Nat) : Int) + 0 + 1 ≤ en (b + 1) - e0 + ((0 : Nat) : Int)
      omega) g0 g1 g2) (fun r z => ?_)
    obtain ⟨q, z1, z2, z3, z4, z6, z7⟩ := z
    exact ⟨q, z1, z2, z3, z4, z6, fun xx ex => by
      obtain ⟨y1, yf, y2, y3, y4, y5, y6, y7⟩ := z7 xx ex
      exact ⟨y1, yf, y2, y3, y4, y5, y6, by omega⟩⟩
  obtain ⟨n', r, hgo, q, r1, r2, r3, r4⟩ := start
  simp only [Nat.zero_add] at r2 r3
  exact ⟨r, Or.inr ⟨M, n', hM, hl, hgo⟩, q, r1, r2, r3, r4⟩
