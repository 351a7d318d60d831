/-! PRINTED by wip/p2/hp_wait.py: what waits for what is behind it: await, awaitNot, releaseNot, release of the class, exactly -/
theorem aw0_k : hp_chk 93 0 2 [(0, 0, 27), (1, 0, 7)] [] [(0, .inr (.inr (.inl (some 40)))), (1, .inl (0, [(1, 1)]))] [] [(6151, (0, []), (0, [(0, 1)]))] [] 2 [(21, ([], 2, [(0, 0, 27), (1, 0, 7)], [], [(0, .inr (.inr (.inl (some 40))))], [.inl (0, [(1, 1)]), .inl (0, [(0, 1)]), .inr (.inr (.inl (some 41)))], [(6151, (0, []), (0, [(0, 1)]))]))] [] = true := by decide +kernel
theorem aw0 {cst : am_K} {strs : List Nat} {Φ : am_Q → Prop} {D : Nat} {M : am_M} {h : am_H} {l : am_L} (c : hp_C cst strs D) (hM : m_P[93]? = some M) (hD : (2 : Int) ≤ (D : Int) + 1) (hy : ly_hy m_tt ly_TH h) (w x : Int) (b0 : 0 ≤ w) (t0 : w ≤ 27) (b1 : 0 ≤ x) (t1 : x ≤ 7) (k0 : ly_hv cst h 6151 0 = some (w)) (l0 : hp_a l 0 40) (l1 : hp_i l 1 (x)) (e0 : ∀ (l' : am_L) (h' : am_H) (y0 : Int32) (y1 : Int32), y0.toInt = (x) → y1.toInt = (w) → ly_hy m_tt ly_TH h' → ly_fr cst [] h h' → h.length ≤ h'.length → ly_hv cst h' 6151 0 = some (w) → hp_a l' 0 40 → hp_F cst strs Φ D M 21 l' [.int y0, .int y1, .ref 41] h') : hp_F cst strs Φ D M 0 l [] h := by
  refine hp_arc c hM aw0_k hD [w, x] rfl hy (hp_Bc (z := w) rfl b0 t0 (hp_Bc (z := x) rfl b1 t1 hp_Bn)) hp_Fn (hp_Kc (zi := (0 + 0)) (zv := (0 + (1 * w + 0))) k0 rfl rfl (by omega) (by omega) hp_Kn) (hp_La l0 (hp_Li (z := (0 + (1 * x + 0))) l1 rfl (by omega) hp_Ln)) trivial ?_ ?_
  · intro p hp ys l' st' h' hys a1 a2 a3 gZ gL gS
    rcases List.mem_cons.mp hp with rfl | hp
    · obtain rfl := hp_y0 hys
      obtain ⟨y0, t0, rfl, q0, g0⟩ := hp_gSi (z := (0 + (1 * x + 0))) gS rfl
      obtain ⟨y1, t1, rfl, q1, g1⟩ := hp_gSi (z := (0 + (1 * w + 0))) g0 rfl
      obtain ⟨t2, rfl, g2⟩ := hp_gSa g1 (by decide)
      cases hp_gSn g2
      exact e0 l' h' y0 y1 (by omega) (by omega) a1 a2 a3 (hp_gK (zi := (0 + 0)) (zv := (0 + (1 * w + 0))) gZ.2.2.2 (List.mem_of_getElem? (i := 0) rfl) rfl rfl (by omega) (by omega)) (hp_gLa gL (List.mem_of_getElem? (i := 0) rfl) (by decide))
    cases hp
  · intro p hp ys v h' hys a1 a2 a3 gZ gS
    cases hp
theorem aw1_k : hp_chk 93 22 1 [(0, 0, 27)] [] [(0, .inr (.inr (.inl (some 40))))] [] [(6151, (0, []), (0, [(0, 1)]))] [6151, 60080, 60081, 60082] 2 [] [([], 1, [(0, 0, 27)], [], [], [], [(6151, (0, []), (1, [(0, 1)]))])] = true := by decide +kernel
theorem aw1 {cst : am_K} {strs : List Nat} {Φ : am_Q → Prop} {D : Nat} {M : am_M} {h : am_H} {l : am_L} (c : hp_C cst strs D) (hM : m_P[93]? = some M) (hD : (2 : Int) ≤ (D : Int) + 1) (hy : ly_hy m_tt ly_TH h) (w : Int) (b0 : 0 ≤ w) (t0 : w ≤ 27) (k0 : ly_hv cst h 6151 0 = some (w)) (l0 : hp_a l 0 40) (r0 : ∀ (h' : am_H), ly_hy m_tt ly_TH h' → ly_fr cst [6151, 60080, 60081, 60082] h h' → h.length ≤ h'.length → ly_hv cst h' 6151 0 = some (w + 1) → Φ (none, h', 0, 0)) : hp_F cst strs Φ D M 22 l [] h := by
  refine hp_arc c hM aw1_k hD [w] rfl hy (hp_Bc (z := w) rfl b0 t0 hp_Bn) hp_Fn (hp_Kc (zi := (0 + 0)) (zv := (0 + (1 * w + 0))) k0 rfl rfl (by omega) (by omega) hp_Kn) (hp_La l0 hp_Ln) trivial ?_ ?_
  · intro p hp ys l' st' h' hys a1 a2 a3 gZ gL gS
    cases hp
  · intro p hp ys v h' hys a1 a2 a3 gZ gS
    rcases List.mem_cons.mp hp with rfl | hp
    · obtain rfl := hp_y0 hys
      have sv := hp_gSn gS
      cases v with
      | some w => cases sv
      | none =>
        exact r0 h' a1 a2 a3 (hp_gK (zi := (0 + 0)) (zv := (1 + (1 * w + 0))) gZ.2.2.2 (List.mem_of_getElem? (i := 0) rfl) rfl rfl (by omega) (by omega))
    cases hp
theorem an0_k : hq_chk [92] 91 0 1 [(0, 0, 27)] [] [(0, .inr (.inr (.inl (some 40))))] [] [(6151, (0, []), (1, [(0, 1)])), (6400, (0, [(0, 1)]), (2, []))] [6151, 60080, 60081, 60082] 3 [] [([], 1, [(0, 0, 27)], [], [], [], [(6151, (0, []), (0, [(0, 1)]))])] = true := by decide +kernel
theorem an0 {cst : am_K} {strs : List Nat} {Φ : am_Q → Prop} {D : Nat} {M : am_M} {h : am_H} {l : am_L} (c : hp_C cst strs D) (hM : m_P[91]? = some M) (hD : (3 : Int) ≤ (D : Int) + 1) (hy : ly_hy m_tt ly_TH h) (w : Int) (b0 : 0 ≤ w) (t0 : w ≤ 27) (k0 : ly_hv cst h 6151 0 = some (w + 1)) (k1 : ly_hv cst h 6400 (w) = some 2) (l0 : hp_a l 0 40) (r0 : ∀ (h' : am_H), ly_hy m_tt ly_TH h' → ly_fr cst [6151, 60080, 60081, 60082] h h' → h.length ≤ h'.length → ly_hv cst h' 6151 0 = some (w) → Φ (none, h', 0, 0)) : hp_F cst strs Φ D M 0 l [] h := by
  refine hq_arc c hM an0_k hD [w] rfl hy (hp_Bc (z := w) rfl b0 t0 hp_Bn) hp_Fn (hp_Kc (zi := (0 + 0)) (zv := (1 + (1 * w + 0))) k0 rfl rfl (by omega) (by omega) (hp_Kc (zi := (0 + (1 * w + 0))) (zv := (2 + 0)) k1 rfl rfl (by omega) (by omega) hp_Kn)) (hp_La l0 hp_Ln) trivial ?_ ?_
  · intro p hp ys l' st' h' hys a1 a2 a3 gZ gL gS
    cases hp
  · intro p hp ys v h' hys a1 a2 a3 gZ gS
    rcases List.mem_cons.mp hp with rfl | hp
    · obtain rfl := hp_y0 hys
      have sv := hp_gSn gS
      cases v with
      | some w => cases sv
      | none =>
        exact r0 h' a1 a2 a3 (hp_gK (zi := (0 + 0)) (zv := (0 + (1 * w + 0))) gZ.2.2.2 (List.mem_of_getElem? (i := 0) rfl) rfl rfl (by omega) (by omega))
    cases hp
theorem an1_k : hq_chk [92] 91 0 0 [] [] [(0, .inr (.inr (.inl (some 40))))] [] [(6151, (0, []), (0, []))] [] 3 [(23, ([], 0, [], [], [(0, .inr (.inr (.inl (some 40))))], [.inl (2, []), .inr (.inr (.inl (some 40)))], [(6151, (0, []), (0, []))]))] [] = true := by decide +kernel
theorem an1 {cst : am_K} {strs : List Nat} {Φ : am_Q → Prop} {D : Nat} {M : am_M} {h : am_H} {l : am_L} (c : hp_C cst strs D) (hM : m_P[91]? = some M) (hD : (3 : Int) ≤ (D : Int) + 1) (hy : ly_hy m_tt ly_TH h) (k0 : ly_hv cst h 6151 0 = some 0) (l0 : hp_a l 0 40) (e0 : ∀ (l' : am_L) (h' : am_H) (y0 : Int32), y0.toInt = 2 → ly_hy m_tt ly_TH h' → ly_fr cst [] h h' → h.length ≤ h'.length → ly_hv cst h' 6151 0 = some 0 → hp_a l' 0 40 → hp_F cst strs Φ D M 23 l' [.int y0, .ref 40] h') : hp_F cst strs Φ D M 0 l [] h := by
  refine hq_arc c hM an1_k hD [] rfl hy hp_Bn hp_Fn (hp_Kc (zi := (0 + 0)) (zv := (0 + 0)) k0 rfl rfl (by omega) (by omega) hp_Kn) (hp_La l0 hp_Ln) trivial ?_ ?_
  · intro p hp ys l' st' h' hys a1 a2 a3 gZ gL gS
    rcases List.mem_cons.mp hp with rfl | hp
    · obtain rfl := hp_y0 hys
      obtain ⟨y0, t0, rfl, q0, g0⟩ := hp_gSi (z := (2 + 0)) gS rfl
      obtain ⟨t1, rfl, g1⟩ := hp_gSa g0 (by decide)
      cases hp_gSn g1
      exact e0 l' h' y0 (by omega) a1 a2 a3 (hp_gK (zi := (0 + 0)) (zv := (0 + 0)) gZ.2.2.2 (List.mem_of_getElem? (i := 0) rfl) rfl rfl (by omega) (by omega)) (hp_gLa gL (List.mem_of_getElem? (i := 0) rfl) (by decide))
    cases hp
  · intro p hp ys v h' hys a1 a2 a3 gZ gS
    cases hp
theorem an2_k : hq_chk [92] 91 0 2 [(0, 0, 27), (1, 0, 1)] [] [(0, .inr (.inr (.inl (some 40))))] [] [(6151, (0, []), (1, [(0, 1)])), (6400, (0, [(0, 1)]), (0, [(1, 1)]))] [] 3 [(23, ([], 2, [(0, 0, 27), (1, 0, 1)], [], [(0, .inr (.inr (.inl (some 40))))], [.inl (2, []), .inr (.inr (.inl (some 40)))], [(6151, (0, []), (1, [(0, 1)]))]))] [] = true := by decide +kernel
theorem an2 {cst : am_K} {strs : List Nat} {Φ : am_Q → Prop} {D : Nat} {M : am_M} {h : am_H} {l : am_L} (c : hp_C cst strs D) (hM : m_P[91]? = some M) (hD : (3 : Int) ≤ (D : Int) + 1) (hy : ly_hy m_tt ly_TH h) (w q : Int) (b0 : 0 ≤ w) (t0 : w ≤ 27) (b1 : 0 ≤ q) (t1 : q ≤ 1) (k0 : ly_hv cst h 6151 0 = some (w + 1)) (k1 : ly_hv cst h 6400 (w) = some (q)) (l0 : hp_a l 0 40) (e0 : ∀ (l' : am_L) (h' : am_H) (y0 : Int32), y0.toInt = 2 → ly_hy m_tt ly_TH h' → ly_fr cst [] h h' → h.length ≤ h'.length → ly_hv cst h' 6151 0 = some (w + 1) → hp_a l' 0 40 → hp_F cst strs Φ D M 23 l' [.int y0, .ref 40] h') : hp_F cst strs Φ D M 0 l [] h := by
  refine hq_arc c hM an2_k hD [w, q] rfl hy (hp_Bc (z := w) rfl b0 t0 (hp_Bc (z := q) rfl b1 t1 hp_Bn)) hp_Fn (hp_Kc (zi := (0 + 0)) (zv := (1 + (1 * w + 0))) k0 rfl rfl (by omega) (by omega) (hp_Kc (zi := (0 + (1 * w + 0))) (zv := (0 + (1 * q + 0))) k1 rfl rfl (by omega) (by omega) hp_Kn)) (hp_La l0 hp_Ln) trivial ?_ ?_
  · intro p hp ys l' st' h' hys a1 a2 a3 gZ gL gS
    rcases List.mem_cons.mp hp with rfl | hp
    · obtain rfl := hp_y0 hys
      obtain ⟨y0, t0, rfl, q0, g0⟩ := hp_gSi (z := (2 + 0)) gS rfl
      obtain ⟨t1, rfl, g1⟩ := hp_gSa g0 (by decide)
      cases hp_gSn g1
      exact e0 l' h' y0 (by omega) a1 a2 a3 (hp_gK (zi := (0 + 0)) (zv := (1 + (1 * w + 0))) gZ.2.2.2 (List.mem_of_getElem? (i := 0) rfl) rfl rfl (by omega) (by omega)) (hp_gLa gL (List.mem_of_getElem? (i := 0) rfl) (by decide))
    cases hp
  · intro p hp ys v h' hys a1 a2 a3 gZ gS
    cases hp
theorem an3_k : hq_chk [92] 91 0 2 [(0, 0, 27), (1, 3, 7)] [] [(0, .inr (.inr (.inl (some 40))))] [] [(6151, (0, []), (1, [(0, 1)])), (6400, (0, [(0, 1)]), (0, [(1, 1)]))] [] 3 [(23, ([], 2, [(0, 0, 27), (1, 3, 7)], [], [(0, .inr (.inr (.inl (some 40))))], [.inl (2, []), .inr (.inr (.inl (some 40)))], [(6151, (0, []), (1, [(0, 1)]))]))] [] = true := by decide +kernel
theorem an3 {cst : am_K} {strs : List Nat} {Φ : am_Q → Prop} {D : Nat} {M : am_M} {h : am_H} {l : am_L} (c : hp_C cst strs D) (hM : m_P[91]? = some M) (hD : (3 : Int) ≤ (D : Int) + 1) (hy : ly_hy m_tt ly_TH h) (w q : Int) (b0 : 0 ≤ w) (t0 : w ≤ 27) (b1 : 3 ≤ q) (t1 : q ≤ 7) (k0 : ly_hv cst h 6151 0 = some (w + 1)) (k1 : ly_hv cst h 6400 (w) = some (q)) (l0 : hp_a l 0 40) (e0 : ∀ (l' : am_L) (h' : am_H) (y0 : Int32), y0.toInt = 2 → ly_hy m_tt ly_TH h' → ly_fr cst [] h h' → h.length ≤ h'.length → ly_hv cst h' 6151 0 = some (w + 1) → hp_a l' 0 40 → hp_F cst strs Φ D M 23 l' [.int y0, .ref 40] h') : hp_F cst strs Φ D M 0 l [] h := by
  refine hq_arc c hM an3_k hD [w, q] rfl hy (hp_Bc (z := w) rfl b0 t0 (hp_Bc (z := q) rfl b1 t1 hp_Bn)) hp_Fn (hp_Kc (zi := (0 + 0)) (zv := (1 + (1 * w + 0))) k0 rfl rfl (by omega) (by omega) (hp_Kc (zi := (0 + (1 * w + 0))) (zv := (0 + (1 * q + 0))) k1 rfl rfl (by omega) (by omega) hp_Kn)) (hp_La l0 hp_Ln) trivial ?_ ?_
  · intro p hp ys l' st' h' hys a1 a2 a3 gZ gL gS
    rcases List.mem_cons.mp hp with rfl | hp
    · obtain rfl := hp_y0 hys
      obtain ⟨y0, t0, rfl, q0, g0⟩ := hp_gSi (z := (2 + 0)) gS rfl
      obtain ⟨t1, rfl, g1⟩ := hp_gSa g0 (by decide)
      cases hp_gSn g1
      exact e0 l' h' y0 (by omega) a1 a2 a3 (hp_gK (zi := (0 + 0)) (zv := (1 + (1 * w + 0))) gZ.2.2.2 (List.mem_of_getElem? (i := 0) rfl) rfl rfl (by omega) (by omega)) (hp_gLa gL (List.mem_of_getElem? (i := 0) rfl) (by decide))
    cases hp
  · intro p hp ys v h' hys a1 a2 a3 gZ gS
    cases hp
theorem an4_k : hp_chk 91 26 0 [] [] [(0, .inr (.inr (.inl (some 40))))] [] [] [] 2 [] [([], 0, [], [], [], [], [])] = true := by decide +kernel
theorem an4 {cst : am_K} {strs : List Nat} {Φ : am_Q → Prop} {D : Nat} {M : am_M} {h : am_H} {l : am_L} (c : hp_C cst strs D) (hM : m_P[91]? = some M) (hD : (2 : Int) ≤ (D : Int) + 1) (hy : ly_hy m_tt ly_TH h) (l0 : hp_a l 0 40) (r0 : ∀ (h' : am_H), ly_hy m_tt ly_TH h' → ly_fr cst [] h h' → h.length ≤ h'.length → Φ (none, h', 0, 0)) : hp_F cst strs Φ D M 26 l [] h := by
  refine hp_arc c hM an4_k hD [] rfl hy hp_Bn hp_Fn hp_Kn (hp_La l0 hp_Ln) trivial ?_ ?_
  · intro p hp ys l' st' h' hys a1 a2 a3 gZ gL gS
    cases hp
  · intro p hp ys v h' hys a1 a2 a3 gZ gS
    rcases List.mem_cons.mp hp with rfl | hp
    · obtain rfl := hp_y0 hys
      have sv := hp_gSn gS
      cases v with
      | some w => cases sv
      | none =>
        exact r0 h' a1 a2 a3
    cases hp
theorem rn0_k : hq_chk [92] 98 0 1 [(0, 0, 27)] [] [(0, .inr (.inr (.inl (some 40))))] [] [(6151, (0, []), (1, [(0, 1)])), (6400, (0, [(0, 1)]), (2, []))] [6151, 60080, 60081, 60082] 3 [(25, ([], 1, [(0, 0, 27)], [], [(0, .inr (.inr (.inl (some 40))))], [.inr (.inl ((-20005), [])), .inr (.inr (.inl (some 30)))], [(6151, (0, []), (0, [(0, 1)]))]))] [] = true := by decide +kernel
theorem rn0 {cst : am_K} {strs : List Nat} {Φ : am_Q → Prop} {D : Nat} {M : am_M} {h : am_H} {l : am_L} (c : hp_C cst strs D) (hM : m_P[98]? = some M) (hD : (3 : Int) ≤ (D : Int) + 1) (hy : ly_hy m_tt ly_TH h) (w : Int) (b0 : 0 ≤ w) (t0 : w ≤ 27) (k0 : ly_hv cst h 6151 0 = some (w + 1)) (k1 : ly_hv cst h 6400 (w) = some 2) (l0 : hp_a l 0 40) (e0 : ∀ (l' : am_L) (h' : am_H) (y0 : Int64), y0.toInt = (-20005) → ly_hy m_tt ly_TH h' → ly_fr cst [6151, 60080, 60081, 60082] h h' → h.length ≤ h'.length → ly_hv cst h' 6151 0 = some (w) → hp_a l' 0 40 → hp_F cst strs Φ D M 25 l' [.long y0, .ref 30] h') : hp_F cst strs Φ D M 0 l [] h := by
  refine hq_arc c hM rn0_k hD [w] rfl hy (hp_Bc (z := w) rfl b0 t0 hp_Bn) hp_Fn (hp_Kc (zi := (0 + 0)) (zv := (1 + (1 * w + 0))) k0 rfl rfl (by omega) (by omega) (hp_Kc (zi := (0 + (1 * w + 0))) (zv := (2 + 0)) k1 rfl rfl (by omega) (by omega) hp_Kn)) (hp_La l0 hp_Ln) trivial ?_ ?_
  · intro p hp ys l' st' h' hys a1 a2 a3 gZ gL gS
    rcases List.mem_cons.mp hp with rfl | hp
    · obtain rfl := hp_y0 hys
      obtain ⟨y0, t0, rfl, q0, g0⟩ := hp_gSj (z := ((-20005) + 0)) gS rfl
      obtain ⟨t1, rfl, g1⟩ := hp_gSa g0 (by decide)
      cases hp_gSn g1
      exact e0 l' h' y0 (by omega) a1 a2 a3 (hp_gK (zi := (0 + 0)) (zv := (0 + (1 * w + 0))) gZ.2.2.2 (List.mem_of_getElem? (i := 0) rfl) rfl rfl (by omega) (by omega)) (hp_gLa gL (List.mem_of_getElem? (i := 0) rfl) (by decide))
    cases hp
  · intro p hp ys v h' hys a1 a2 a3 gZ gS
    cases hp
theorem rn1_k : hq_chk [92] 98 0 0 [] [] [(0, .inr (.inr (.inl (some 40))))] [] [(6151, (0, []), (0, []))] [] 3 [] [([], 0, [], [], [], [], [])] = true := by decide +kernel
theorem rn1 {cst : am_K} {strs : List Nat} {Φ : am_Q → Prop} {D : Nat} {M : am_M} {h : am_H} {l : am_L} (c : hp_C cst strs D) (hM : m_P[98]? = some M) (hD : (3 : Int) ≤ (D : Int) + 1) (hy : ly_hy m_tt ly_TH h) (k0 : ly_hv cst h 6151 0 = some 0) (l0 : hp_a l 0 40) (r0 : ∀ (h' : am_H), ly_hy m_tt ly_TH h' → ly_fr cst [] h h' → h.length ≤ h'.length → Φ (none, h', 0, 0)) : hp_F cst strs Φ D M 0 l [] h := by
  refine hq_arc c hM rn1_k hD [] rfl hy hp_Bn hp_Fn (hp_Kc (zi := (0 + 0)) (zv := (0 + 0)) k0 rfl rfl (by omega) (by omega) hp_Kn) (hp_La l0 hp_Ln) trivial ?_ ?_
  · intro p hp ys l' st' h' hys a1 a2 a3 gZ gL gS
    cases hp
  · intro p hp ys v h' hys a1 a2 a3 gZ gS
    rcases List.mem_cons.mp hp with rfl | hp
    · obtain rfl := hp_y0 hys
      have sv := hp_gSn gS
      cases v with
      | some w => cases sv
      | none =>
        exact r0 h' a1 a2 a3
    cases hp
theorem rn2_k : hq_chk [92] 98 0 2 [(0, 0, 27), (1, 0, 1)] [] [(0, .inr (.inr (.inl (some 40))))] [] [(6151, (0, []), (1, [(0, 1)])), (6400, (0, [(0, 1)]), (0, [(1, 1)]))] [] 3 [] [([], 2, [(0, 0, 27), (1, 0, 1)], [], [], [], [])] = true := by decide +kernel
theorem rn2 {cst : am_K} {strs : List Nat} {Φ : am_Q → Prop} {D : Nat} {M : am_M} {h : am_H} {l : am_L} (c : hp_C cst strs D) (hM : m_P[98]? = some M) (hD : (3 : Int) ≤ (D : Int) + 1) (hy : ly_hy m_tt ly_TH h) (w q : Int) (b0 : 0 ≤ w) (t0 : w ≤ 27) (b1 : 0 ≤ q) (t1 : q ≤ 1) (k0 : ly_hv cst h 6151 0 = some (w + 1)) (k1 : ly_hv cst h 6400 (w) = some (q)) (l0 : hp_a l 0 40) (r0 : ∀ (h' : am_H), ly_hy m_tt ly_TH h' → ly_fr cst [] h h' → h.length ≤ h'.length → Φ (none, h', 0, 0)) : hp_F cst strs Φ D M 0 l [] h := by
  refine hq_arc c hM rn2_k hD [w, q] rfl hy (hp_Bc (z := w) rfl b0 t0 (hp_Bc (z := q) rfl b1 t1 hp_Bn)) hp_Fn (hp_Kc (zi := (0 + 0)) (zv := (1 + (1 * w + 0))) k0 rfl rfl (by omega) (by omega) (hp_Kc (zi := (0 + (1 * w + 0))) (zv := (0 + (1 * q + 0))) k1 rfl rfl (by omega) (by omega) hp_Kn)) (hp_La l0 hp_Ln) trivial ?_ ?_
  · intro p hp ys l' st' h' hys a1 a2 a3 gZ gL gS
    cases hp
  · intro p hp ys v h' hys a1 a2 a3 gZ gS
    rcases List.mem_cons.mp hp with rfl | hp
    · obtain rfl := hp_y0 hys
      have sv := hp_gSn gS
      cases v with
      | some w => cases sv
      | none =>
        exact r0 h' a1 a2 a3
    cases hp
theorem rn3_k : hq_chk [92] 98 0 2 [(0, 0, 27), (1, 3, 7)] [] [(0, .inr (.inr (.inl (some 40))))] [] [(6151, (0, []), (1, [(0, 1)])), (6400, (0, [(0, 1)]), (0, [(1, 1)]))] [] 3 [] [([], 2, [(0, 0, 27), (1, 3, 7)], [], [], [], [])] = true := by decide +kernel
theorem rn3 {cst : am_K} {strs : List Nat} {Φ : am_Q → Prop} {D : Nat} {M : am_M} {h : am_H} {l : am_L} (c : hp_C cst strs D) (hM : m_P[98]? = some M) (hD : (3 : Int) ≤ (D : Int) + 1) (hy : ly_hy m_tt ly_TH h) (w q : Int) (b0 : 0 ≤ w) (t0 : w ≤ 27) (b1 : 3 ≤ q) (t1 : q ≤ 7) (k0 : ly_hv cst h 6151 0 = some (w + 1)) (k1 : ly_hv cst h 6400 (w) = some (q)) (l0 : hp_a l 0 40) (r0 : ∀ (h' : am_H), ly_hy m_tt ly_TH h' → ly_fr cst [] h h' → h.length ≤ h'.length → Φ (none, h', 0, 0)) : hp_F cst strs Φ D M 0 l [] h := by
  refine hq_arc c hM rn3_k hD [w, q] rfl hy (hp_Bc (z := w) rfl b0 t0 (hp_Bc (z := q) rfl b1 t1 hp_Bn)) hp_Fn (hp_Kc (zi := (0 + 0)) (zv := (1 + (1 * w + 0))) k0 rfl rfl (by omega) (by omega) (hp_Kc (zi := (0 + (1 * w + 0))) (zv := (0 + (1 * q + 0))) k1 rfl rfl (by omega) (by omega) hp_Kn)) (hp_La l0 hp_Ln) trivial ?_ ?_
  · intro p hp ys l' st' h' hys a1 a2 a3 gZ gL gS
    cases hp
  · intro p hp ys v h' hys a1 a2 a3 gZ gS
    rcases List.mem_cons.mp hp with rfl | hp
    · obtain rfl := hp_y0 hys
      have sv := hp_gSn gS
      cases v with
      | some w => cases sv
      | none =>
        exact r0 h' a1 a2 a3
    cases hp
theorem rn4_k : hp_chk 98 28 0 [] [] [(0, .inr (.inr (.inl (some 40))))] [] [] [] 2 [] [([], 0, [], [], [], [], [])] = true := by decide +kernel
theorem rn4 {cst : am_K} {strs : List Nat} {Φ : am_Q → Prop} {D : Nat} {M : am_M} {h : am_H} {l : am_L} (c : hp_C cst strs D) (hM : m_P[98]? = some M) (hD : (2 : Int) ≤ (D : Int) + 1) (hy : ly_hy m_tt ly_TH h) (l0 : hp_a l 0 40) (r0 : ∀ (h' : am_H), ly_hy m_tt ly_TH h' → ly_fr cst [] h h' → h.length ≤ h'.length → Φ (none, h', 0, 0)) : hp_F cst strs Φ D M 28 l [] h := by
  refine hp_arc c hM rn4_k hD [] rfl hy hp_Bn hp_Fn hp_Kn (hp_La l0 hp_Ln) trivial ?_ ?_
  · intro p hp ys l' st' h' hys a1 a2 a3 gZ gL gS
    cases hp
  · intro p hp ys v h' hys a1 a2 a3 gZ gS
    rcases List.mem_cons.mp hp with rfl | hp
    · obtain rfl := hp_y0 hys
      have sv := hp_gSn gS
      cases v with
      | some w => cases sv
      | none =>
        exact r0 h' a1 a2 a3
    cases hp
theorem re0_k : hq_chk [92] 100 0 2 [(0, 0, 1), (1, 0, 27)] [] [(0, .inr (.inr (.inl (some 40)))), (1, .inl (0, [(0, 1)]))] [] [(6151, (0, []), (1, [(1, 1)])), (6400, (0, [(1, 1)]), (1, []))] [6151, 60080, 60081, 60082] 3 [(25, ([], 2, [(0, 0, 1), (1, 0, 27)], [], [(0, .inr (.inr (.inl (some 40)))), (1, .inl (0, [(0, 1)]))], [.inr (.inl ((-20006), [])), .inr (.inr (.inl (some 30)))], [(6151, (0, []), (0, [(1, 1)]))]))] [] = true := by decide +kernel
theorem re0 {cst : am_K} {strs : List Nat} {Φ : am_Q → Prop} {D : Nat} {M : am_M} {h : am_H} {l : am_L} (c : hp_C cst strs D) (hM : m_P[100]? = some M) (hD : (3 : Int) ≤ (D : Int) + 1) (hy : ly_hy m_tt ly_TH h) (x w : Int) (b0 : 0 ≤ x) (t0 : x ≤ 1) (b1 : 0 ≤ w) (t1 : w ≤ 27) (k0 : ly_hv cst h 6151 0 = some (w + 1)) (k1 : ly_hv cst h 6400 (w) = some 1) (l0 : hp_a l 0 40) (l1 : hp_i l 1 (x)) (e0 : ∀ (l' : am_L) (h' : am_H) (y0 : Int64), y0.toInt = (-20006) → ly_hy m_tt ly_TH h' → ly_fr cst [6151, 60080, 60081, 60082] h h' → h.length ≤ h'.length → ly_hv cst h' 6151 0 = some (w) → hp_a l' 0 40 → hp_i l' 1 (x) → hp_F cst strs Φ D M 25 l' [.long y0, .ref 30] h') : hp_F cst strs Φ D M 0 l [] h := by
  refine hq_arc c hM re0_k hD [x, w] rfl hy (hp_Bc (z := x) rfl b0 t0 (hp_Bc (z := w) rfl b1 t1 hp_Bn)) hp_Fn (hp_Kc (zi := (0 + 0)) (zv := (1 + (1 * w + 0))) k0 rfl rfl (by omega) (by omega) (hp_Kc (zi := (0 + (1 * w + 0))) (zv := (1 + 0)) k1 rfl rfl (by omega) (by omega) hp_Kn)) (hp_La l0 (hp_Li (z := (0 + (1 * x + 0))) l1 rfl (by omega) hp_Ln)) trivial ?_ ?_
  · intro p hp ys l' st' h' hys a1 a2 a3 gZ gL gS
    rcases List.mem_cons.mp hp with rfl | hp
    · obtain rfl := hp_y0 hys
      obtain ⟨y0, t0, rfl, q0, g0⟩ := hp_gSj (z := ((-20006) + 0)) gS rfl
      obtain ⟨t1, rfl, g1⟩ := hp_gSa g0 (by decide)
      cases hp_gSn g1
      exact e0 l' h' y0 (by omega) a1 a2 a3 (hp_gK (zi := (0 + 0)) (zv := (0 + (1 * w + 0))) gZ.2.2.2 (List.mem_of_getElem? (i := 0) rfl) rfl rfl (by omega) (by omega)) (hp_gLa gL (List.mem_of_getElem? (i := 0) rfl) (by decide)) (hp_gLi (z := (0 + (1 * x + 0))) gL (List.mem_of_getElem? (i := 1) rfl) rfl (by omega))
    cases hp
  · intro p hp ys v h' hys a1 a2 a3 gZ gS
    cases hp
theorem re1_k : hq_chk [92] 100 0 1 [(0, 0, 1)] [] [(0, .inr (.inr (.inl (some 40)))), (1, .inl (0, [(0, 1)]))] [] [(6151, (0, []), (0, []))] [] 3 [(28, ([], 1, [(0, 0, 1)], [], [(0, .inr (.inr (.inl (some 40)))), (1, .inl (0, [(0, 1)]))], [], []))] [] = true := by decide +kernel
theorem re1 {cst : am_K} {strs : List Nat} {Φ : am_Q → Prop} {D : Nat} {M : am_M} {h : am_H} {l : am_L} (c : hp_C cst strs D) (hM : m_P[100]? = some M) (hD : (3 : Int) ≤ (D : Int) + 1) (hy : ly_hy m_tt ly_TH h) (x : Int) (b0 : 0 ≤ x) (t0 : x ≤ 1) (k0 : ly_hv cst h 6151 0 = some 0) (l0 : hp_a l 0 40) (l1 : hp_i l 1 (x)) (e0 : ∀ (l' : am_L) (h' : am_H), ly_hy m_tt ly_TH h' → ly_fr cst [] h h' → h.length ≤ h'.length → hp_a l' 0 40 → hp_i l' 1 (x) → hp_F cst strs Φ D M 28 l' [] h') : hp_F cst strs Φ D M 0 l [] h := by
  refine hq_arc c hM re1_k hD [x] rfl hy (hp_Bc (z := x) rfl b0 t0 hp_Bn) hp_Fn (hp_Kc (zi := (0 + 0)) (zv := (0 + 0)) k0 rfl rfl (by omega) (by omega) hp_Kn) (hp_La l0 (hp_Li (z := (0 + (1 * x + 0))) l1 rfl (by omega) hp_Ln)) trivial ?_ ?_
  · intro p hp ys l' st' h' hys a1 a2 a3 gZ gL gS
    rcases List.mem_cons.mp hp with rfl | hp
    · obtain rfl := hp_y0 hys
      cases hp_gSn gS
      exact e0 l' h' a1 a2 a3 (hp_gLa gL (List.mem_of_getElem? (i := 0) rfl) (by decide)) (hp_gLi (z := (0 + (1 * x + 0))) gL (List.mem_of_getElem? (i := 1) rfl) rfl (by omega))
    cases hp
  · intro p hp ys v h' hys a1 a2 a3 gZ gS
    cases hp
theorem re2_k : hq_chk [92] 100 0 3 [(0, 0, 1), (1, 0, 27), (2, 0, 0)] [] [(0, .inr (.inr (.inl (some 40)))), (1, .inl (0, [(0, 1)]))] [] [(6151, (0, []), (1, [(1, 1)])), (6400, (0, [(1, 1)]), (0, [(2, 1)]))] [] 3 [(28, ([], 3, [(0, 0, 1), (1, 0, 27), (2, 0, 0)], [], [(0, .inr (.inr (.inl (some 40)))), (1, .inl (0, [(0, 1)]))], [], []))] [] = true := by decide +kernel
theorem re2 {cst : am_K} {strs : List Nat} {Φ : am_Q → Prop} {D : Nat} {M : am_M} {h : am_H} {l : am_L} (c : hp_C cst strs D) (hM : m_P[100]? = some M) (hD : (3 : Int) ≤ (D : Int) + 1) (hy : ly_hy m_tt ly_TH h) (x w q : Int) (b0 : 0 ≤ x) (t0 : x ≤ 1) (b1 : 0 ≤ w) (t1 : w ≤ 27) (b2 : 0 ≤ q) (t2 : q ≤ 0) (k0 : ly_hv cst h 6151 0 = some (w + 1)) (k1 : ly_hv cst h 6400 (w) = some (q)) (l0 : hp_a l 0 40) (l1 : hp_i l 1 (x)) (e0 : ∀ (l' : am_L) (h' : am_H), ly_hy m_tt ly_TH h' → ly_fr cst [] h h' → h.length ≤ h'.length → hp_a l' 0 40 → hp_i l' 1 (x) → hp_F cst strs Φ D M 28 l' [] h') : hp_F cst strs Φ D M 0 l [] h := by
  refine hq_arc c hM re2_k hD [x, w, q] rfl hy (hp_Bc (z := x) rfl b0 t0 (hp_Bc (z := w) rfl b1 t1 (hp_Bc (z := q) rfl b2 t2 hp_Bn))) hp_Fn (hp_Kc (zi := (0 + 0)) (zv := (1 + (1 * w + 0))) k0 rfl rfl (by omega) (by omega) (hp_Kc (zi := (0 + (1 * w + 0))) (zv := (0 + (1 * q + 0))) k1 rfl rfl (by omega) (by omega) hp_Kn)) (hp_La l0 (hp_Li (z := (0 + (1 * x + 0))) l1 rfl (by omega) hp_Ln)) trivial ?_ ?_
  · intro p hp ys l' st' h' hys a1 a2 a3 gZ gL gS
    rcases List.mem_cons.mp hp with rfl | hp
    · obtain rfl := hp_y0 hys
      cases hp_gSn gS
      exact e0 l' h' a1 a2 a3 (hp_gLa gL (List.mem_of_getElem? (i := 0) rfl) (by decide)) (hp_gLi (z := (0 + (1 * x + 0))) gL (List.mem_of_getElem? (i := 1) rfl) rfl (by omega))
    cases hp
  · intro p hp ys v h' hys a1 a2 a3 gZ gS
    cases hp
theorem re3_k : hq_chk [92] 100 0 3 [(0, 0, 1), (1, 0, 27), (2, 2, 7)] [] [(0, .inr (.inr (.inl (some 40)))), (1, .inl (0, [(0, 1)]))] [] [(6151, (0, []), (1, [(1, 1)])), (6400, (0, [(1, 1)]), (0, [(2, 1)]))] [] 3 [(28, ([], 3, [(0, 0, 1), (1, 0, 27), (2, 2, 7)], [], [(0, .inr (.inr (.inl (some 40)))), (1, .inl (0, [(0, 1)]))], [], []))] [] = true := by decide +kernel
theorem re3 {cst : am_K} {strs : List Nat} {Φ : am_Q → Prop} {D : Nat} {M : am_M} {h : am_H} {l : am_L} (c : hp_C cst strs D) (hM : m_P[100]? = some M) (hD : (3 : Int) ≤ (D : Int) + 1) (hy : ly_hy m_tt ly_TH h) (x w q : Int) (b0 : 0 ≤ x) (t0 : x ≤ 1) (b1 : 0 ≤ w) (t1 : w ≤ 27) (b2 : 2 ≤ q) (t2 : q ≤ 7) (k0 : ly_hv cst h 6151 0 = some (w + 1)) (k1 : ly_hv cst h 6400 (w) = some (q)) (l0 : hp_a l 0 40) (l1 : hp_i l 1 (x)) (e0 : ∀ (l' : am_L) (h' : am_H), ly_hy m_tt ly_TH h' → ly_fr cst [] h h' → h.length ≤ h'.length → hp_a l' 0 40 → hp_i l' 1 (x) → hp_F cst strs Φ D M 28 l' [] h') : hp_F cst strs Φ D M 0 l [] h := by
  refine hq_arc c hM re3_k hD [x, w, q] rfl hy (hp_Bc (z := x) rfl b0 t0 (hp_Bc (z := w) rfl b1 t1 (hp_Bc (z := q) rfl b2 t2 hp_Bn))) hp_Fn (hp_Kc (zi := (0 + 0)) (zv := (1 + (1 * w + 0))) k0 rfl rfl (by omega) (by omega) (hp_Kc (zi := (0 + (1 * w + 0))) (zv := (0 + (1 * q + 0))) k1 rfl rfl (by omega) (by omega) hp_Kn)) (hp_La l0 (hp_Li (z := (0 + (1 * x + 0))) l1 rfl (by omega) hp_Ln)) trivial ?_ ?_
  · intro p hp ys l' st' h' hys a1 a2 a3 gZ gL gS
    rcases List.mem_cons.mp hp with rfl | hp
    · obtain rfl := hp_y0 hys
      cases hp_gSn gS
      exact e0 l' h' a1 a2 a3 (hp_gLa gL (List.mem_of_getElem? (i := 0) rfl) (by decide)) (hp_gLi (z := (0 + (1 * x + 0))) gL (List.mem_of_getElem? (i := 1) rfl) rfl (by omega))
    cases hp
  · intro p hp ys v h' hys a1 a2 a3 gZ gS
    cases hp
theorem re4_k : hp_chk 100 28 0 [] [] [(0, .inr (.inr (.inl (some 40)))), (1, .inl (1, []))] [] [] [] 2 [] [([], 0, [], [], [], [], [])] = true := by decide +kernel
theorem re4 {cst : am_K} {strs : List Nat} {Φ : am_Q → Prop} {D : Nat} {M : am_M} {h : am_H} {l : am_L} (c : hp_C cst strs D) (hM : m_P[100]? = some M) (hD : (2 : Int) ≤ (D : Int) + 1) (hy : ly_hy m_tt ly_TH h) (l0 : hp_a l 0 40) (l1 : hp_i l 1 1) (r0 : ∀ (h' : am_H), ly_hy m_tt ly_TH h' → ly_fr cst [] h h' → h.length ≤ h'.length → Φ (none, h', 0, 0)) : hp_F cst strs Φ D M 28 l [] h := by
  refine hp_arc c hM re4_k hD [] rfl hy hp_Bn hp_Fn hp_Kn (hp_La l0 (hp_Li (z := (1 + 0)) l1 rfl (by omega) hp_Ln)) trivial ?_ ?_
  · intro p hp ys l' st' h' hys a1 a2 a3 gZ gL gS
    cases hp
  · intro p hp ys v h' hys a1 a2 a3 gZ gS
    rcases List.mem_cons.mp hp with rfl | hp
    · obtain rfl := hp_y0 hys
      have sv := hp_gSn gS
      cases v with
      | some w => cases sv
      | none =>
        exact r0 h' a1 a2 a3
    cases hp
theorem re5_k : hq_chk [92] 100 28 1 [(0, 0, 27)] [] [(0, .inr (.inr (.inl (some 40)))), (1, .inl (0, []))] [] [(6151, (0, []), (1, [(0, 1)])), (6400, (0, [(0, 1)]), (0, []))] [6151, 60080, 60081, 60082] 3 [(57, ([], 1, [(0, 0, 27)], [], [(0, .inr (.inr (.inl (some 40)))), (1, .inl (0, []))], [.inr (.inl ((-20007), [])), .inr (.inr (.inl (some 30)))], [(6151, (0, []), (0, [(0, 1)]))]))] [] = true := by decide +kernel
theorem re5 {cst : am_K} {strs : List Nat} {Φ : am_Q → Prop} {D : Nat} {M : am_M} {h : am_H} {l : am_L} (c : hp_C cst strs D) (hM : m_P[100]? = some M) (hD : (3 : Int) ≤ (D : Int) + 1) (hy : ly_hy m_tt ly_TH h) (w : Int) (b0 : 0 ≤ w) (t0 : w ≤ 27) (k0 : ly_hv cst h 6151 0 = some (w + 1)) (k1 : ly_hv cst h 6400 (w) = some 0) (l0 : hp_a l 0 40) (l1 : hp_i l 1 0) (e0 : ∀ (l' : am_L) (h' : am_H) (y0 : Int64), y0.toInt = (-20007) → ly_hy m_tt ly_TH h' → ly_fr cst [6151, 60080, 60081, 60082] h h' → h.length ≤ h'.length → ly_hv cst h' 6151 0 = some (w) → hp_a l' 0 40 → hp_i l' 1 0 → hp_F cst strs Φ D M 57 l' [.long y0, .ref 30] h') : hp_F cst strs Φ D M 28 l [] h := by
  refine hq_arc c hM re5_k hD [w] rfl hy (hp_Bc (z := w) rfl b0 t0 hp_Bn) hp_Fn (hp_Kc (zi := (0 + 0)) (zv := (1 + (1 * w + 0))) k0 rfl rfl (by omega) (by omega) (hp_Kc (zi := (0 + (1 * w + 0))) (zv := (0 + 0)) k1 rfl rfl (by omega) (by omega) hp_Kn)) (hp_La l0 (hp_Li (z := (0 + 0)) l1 rfl (by omega) hp_Ln)) trivial ?_ ?_
  · intro p hp ys l' st' h' hys a1 a2 a3 gZ gL gS
    rcases List.mem_cons.mp hp with rfl | hp
    · obtain rfl := hp_y0 hys
      obtain ⟨y0, t0, rfl, q0, g0⟩ := hp_gSj (z := ((-20007) + 0)) gS rfl
      obtain ⟨t1, rfl, g1⟩ := hp_gSa g0 (by decide)
      cases hp_gSn g1
      exact e0 l' h' y0 (by omega) a1 a2 a3 (hp_gK (zi := (0 + 0)) (zv := (0 + (1 * w + 0))) gZ.2.2.2 (List.mem_of_getElem? (i := 0) rfl) rfl rfl (by omega) (by omega)) (hp_gLa gL (List.mem_of_getElem? (i := 0) rfl) (by decide)) (hp_gLi (z := (0 + 0)) gL (List.mem_of_getElem? (i := 1) rfl) rfl (by omega))
    cases hp
  · intro p hp ys v h' hys a1 a2 a3 gZ gS
    cases hp
theorem re6_k : hq_chk [92] 100 28 0 [] [] [(0, .inr (.inr (.inl (some 40)))), (1, .inl (0, []))] [] [(6151, (0, []), (0, []))] [] 3 [] [([], 0, [], [], [], [], [])] = true := by decide +kernel
theorem re6 {cst : am_K} {strs : List Nat} {Φ : am_Q → Prop} {D : Nat} {M : am_M} {h : am_H} {l : am_L} (c : hp_C cst strs D) (hM : m_P[100]? = some M) (hD : (3 : Int) ≤ (D : Int) + 1) (hy : ly_hy m_tt ly_TH h) (k0 : ly_hv cst h 6151 0 = some 0) (l0 : hp_a l 0 40) (l1 : hp_i l 1 0) (r0 : ∀ (h' : am_H), ly_hy m_tt ly_TH h' → ly_fr cst [] h h' → h.length ≤ h'.length → Φ (none, h', 0, 0)) : hp_F cst strs Φ D M 28 l [] h := by
  refine hq_arc c hM re6_k hD [] rfl hy hp_Bn hp_Fn (hp_Kc (zi := (0 + 0)) (zv := (0 + 0)) k0 rfl rfl (by omega) (by omega) hp_Kn) (hp_La l0 (hp_Li (z := (0 + 0)) l1 rfl (by omega) hp_Ln)) trivial ?_ ?_
  · intro p hp ys l' st' h' hys a1 a2 a3 gZ gL gS
    cases hp
  · intro p hp ys v h' hys a1 a2 a3 gZ gS
    rcases List.mem_cons.mp hp with rfl | hp
    · obtain rfl := hp_y0 hys
      have sv := hp_gSn gS
      cases v with
      | some w => cases sv
      | none =>
        exact r0 h' a1 a2 a3
    cases hp
theorem re7_k : hq_chk [92] 100 28 2 [(0, 0, 27), (1, 1, 7)] [] [(0, .inr (.inr (.inl (some 40)))), (1, .inl (0, []))] [] [(6151, (0, []), (1, [(0, 1)])), (6400, (0, [(0, 1)]), (0, [(1, 1)]))] [] 3 [] [([], 2, [(0, 0, 27), (1, 1, 7)], [], [], [], [])] = true := by decide +kernel
theorem re7 {cst : am_K} {strs : List Nat} {Φ : am_Q → Prop} {D : Nat} {M : am_M} {h : am_H} {l : am_L} (c : hp_C cst strs D) (hM : m_P[100]? = some M) (hD : (3 : Int) ≤ (D : Int) + 1) (hy : ly_hy m_tt ly_TH h) (w q : Int) (b0 : 0 ≤ w) (t0 : w ≤ 27) (b1 : 1 ≤ q) (t1 : q ≤ 7) (k0 : ly_hv cst h 6151 0 = some (w + 1)) (k1 : ly_hv cst h 6400 (w) = some (q)) (l0 : hp_a l 0 40) (l1 : hp_i l 1 0) (r0 : ∀ (h' : am_H), ly_hy m_tt ly_TH h' → ly_fr cst [] h h' → h.length ≤ h'.length → Φ (none, h', 0, 0)) : hp_F cst strs Φ D M 28 l [] h := by
  refine hq_arc c hM re7_k hD [w, q] rfl hy (hp_Bc (z := w) rfl b0 t0 (hp_Bc (z := q) rfl b1 t1 hp_Bn)) hp_Fn (hp_Kc (zi := (0 + 0)) (zv := (1 + (1 * w + 0))) k0 rfl rfl (by omega) (by omega) (hp_Kc (zi := (0 + (1 * w + 0))) (zv := (0 + (1 * q + 0))) k1 rfl rfl (by omega) (by omega) hp_Kn)) (hp_La l0 (hp_Li (z := (0 + 0)) l1 rfl (by omega) hp_Ln)) trivial ?_ ?_
  · intro p hp ys l' st' h' hys a1 a2 a3 gZ gL gS
    cases hp
  · intro p hp ys v h' hys a1 a2 a3 gZ gS
    rcases List.mem_cons.mp hp with rfl | hp
    · obtain rfl := hp_y0 hys
      have sv := hp_gSn gS
      cases v with
      | some w => cases sv
      | none =>
        exact r0 h' a1 a2 a3
    cases hp
theorem re8_k : hp_chk 100 60 0 [] [] [(0, .inr (.inr (.inl (some 40))))] [] [] [] 2 [] [([], 0, [], [], [], [], [])] = true := by decide +kernel
theorem re8 {cst : am_K} {strs : List Nat} {Φ : am_Q → Prop} {D : Nat} {M : am_M} {h : am_H} {l : am_L} (c : hp_C cst strs D) (hM : m_P[100]? = some M) (hD : (2 : Int) ≤ (D : Int) + 1) (hy : ly_hy m_tt ly_TH h) (l0 : hp_a l 0 40) (r0 : ∀ (h' : am_H), ly_hy m_tt ly_TH h' → ly_fr cst [] h h' → h.length ≤ h'.length → Φ (none, h', 0, 0)) : hp_F cst strs Φ D M 60 l [] h := by
  refine hp_arc c hM re8_k hD [] rfl hy hp_Bn hp_Fn hp_Kn (hp_La l0 hp_Ln) trivial ?_ ?_
  · intro p hp ys l' st' h' hys a1 a2 a3 gZ gL gS
    cases hp
  · intro p hp ys v h' hys a1 a2 a3 gZ gS
    rcases List.mem_cons.mp hp with rfl | hp
    · obtain rfl := hp_y0 hys
      have sv := hp_gSn gS
      cases v with
      | some w => cases sv
      | none =>
        exact r0 h' a1 a2 a3
    cases hp
def wf (c : lv) : List Int := (bif c.1 then [0] else []) ++ (bif c.2.1 then [1] else []) ++ (bif c.2.2 then [2] else [])
/-- what waits, the latest last -/
def wl : lv → List lv → List Int
  | c, [] => wf c
  | c, d :: w => wl d w ++ [7] ++ wf c
theorem wl_n (a b : Bool) (w : List lv) : wl (a, b, true) w = wl (a, b, false) w ++ [2] := by
  cases w <;> simp [wl, wf]
theorem wl_a (a : Bool) (w : List lv) : wl (a, true, false) w = wl (a, false, false) w ++ [1] := by
  cases w <;> simp [wl, wf]
theorem wl_o (w : List lv) : wl (true, false, false) w = wl (false, false, false) w ++ [0] := by
  cases w <;> simp [wl, wf]
theorem wl_b (d : lv) (w : List lv) : wl (false, false, false) (d :: w) = wl d w ++ [7] := by
  simp [wl, wf]
theorem wf_len (c : lv) : (wf c).length ≤ 3 := by
  obtain ⟨a, b, d⟩ := c
  cases a <;> cases b <;> cases d <;> decide
theorem wl_len : ∀ (w : List lv) (c : lv), (wl c w).length ≤ 4 * w.length + 3
  | [], c => by
    have := wf_len c
    rw [wl]
    simp only [List.length_nil]
    omega
  | d :: w, c => by
    have := wf_len c
    have := wl_len w d
    rw [wl, List.length_append, List.length_append, List.length_singleton, List.length_cons]
    omega
def wt (cst : am_K) (h : am_H) (W : List Int) : Prop := ly_hv cst h 6151 0 = some (W.length : Int) ∧ fn_N cst h 6400 0 W
theorem wt_mv {cst : am_K} {h h' : am_H} {W : List Int} {ms : List Nat} (A : wt cst h W) (fr : ly_fr cst ms h h') (q : [6151, 6400].all (fun x => !ly_has x ms) = true) : wt cst h' W := by
  simp only [List.all_cons, List.all_nil, Bool.and_true, Bool.and_eq_true, Bool.not_eq_true'] at q
  exact ⟨fr _ _ _ q.1 A.1, fn_mv A.2 fr q.2⟩
theorem wt_top {cst : am_K} {h : am_H} {W : List Int} {x : Int} (A : wt cst h (W ++ [x])) : ly_hv cst h 6151 0 = some ((W.length : Int) + 1) ∧ ly_hv cst h 6400 (W.length : Int) = some x := by
  have a := A.1
  have b := A.2 W.length (by rw [List.length_append, List.length_singleton]; omega)
  rw [List.length_append, List.length_singleton] at a
  rw [List.getElem_append_right (Nat.le_refl _), Int.zero_add] at b
  simp only [Nat.sub_self, List.getElem_singleton] at b
  exact ⟨by rw [a]; congr 1 <;> omega, b⟩
theorem wt_0 {cst : am_K} {h : am_H} (A : wt cst h []) : ly_hv cst h 6151 0 = some 0 := A.1
/-- the last of them gone -/
theorem wt_pop {cst : am_K} {h h' : am_H} {W : List Int} {x : Int} {ms : List Nat} (A : wt cst h (W ++ [x])) (fr : ly_fr cst ms h h') (q : ly_has 6400 ms = false) (k : ly_hv cst h' 6151 0 = some (W.length : Int)) : wt cst h' W := ⟨k, fn_mv (fn_pre A.2) fr q⟩
/-- which is last, where no not waits -/
theorem wl_last (a b : Bool) (w : List lv) : wl (a, b, false) w = [] ∨ ∃ W q, wl (a, b, false) w = W ++ [q] ∧ (b = true → q = 1) ∧ (b = false → (a = true → q = 0) ∧ (a = false → q = 7)) := by
  cases b with
  | true => exact Or.inr ⟨_, _, wl_a a w, fun _ => rfl, fun e => by cases e⟩
  | false =>
    cases a with
    | true => exact Or.inr ⟨_, _, wl_o w, fun e => (by cases e), fun _ => ⟨fun _ => rfl, fun e => by cases e⟩⟩
    | false =>
      cases w with
      | nil => exact Or.inl rfl
      | cons d w => exact Or.inr ⟨_, _, wl_b d w, fun e => (by cases e), fun _ => ⟨fun e => (by cases e), fun _ => rfl⟩⟩
theorem aw_run {cst : am_K} {strs : List Nat} {D : Nat} {h : am_H} (c : hp_C cst strs D) (hD : 2 ≤ D) (hy : ly_hy m_tt ly_TH h) {Z : List Int} (A : wt cst h Z) (l27 : Z.length ≤ 27) {xx : Int32} (x0 : 0 ≤ xx.toInt) (x1 : xx.toInt ≤ 7) :
    ∃ r, am_Run cst m_cl m_tt m_P strs sx_bi (D + 1) 93 [.ref 40, .int xx] h r ∧ r.1 = none ∧ r.2.2.1 = 0 ∧ r.2.2.2 = 0 ∧ ly_hy m_tt ly_TH r.2.1 ∧ ly_fr cst [6151, 6400, 60080, 60081, 60082] h r.2.1 ∧ wt cst r.2.1 (Z ++ [xx.toInt]) := by
  obtain ⟨M, hM, hl⟩ := hp_M (mi := 93) (k := 2) (by decide +kernel)
  have go : hp_F cst strs (fun r : am_Q => r.1 = none ∧ r.2.2.1 = 0 ∧ r.2.2.2 = 0 ∧ ly_hy m_tt ly_TH r.2.1 ∧ ly_fr cst [6151, 6400, 60080, 60081, 60082] h r.2.1 ∧ wt cst r.2.1 (Z ++ [xx.toInt])) D M 0 (lv_args 0 [.ref 40, .int xx]) [] h := by
    refine aw0 c hM (by omega) hy (Z.length : Int) xx.toInt (by omega) (by omega) x0 x1 A.1 rfl ⟨xx, rfl, rfl⟩ (fun l1 h1 y0 y1 f0 f1 u1 u2 u3 k1 g0 => ?_)
    refine hp_st0 (c := 25) hM (by decide +kernel) u1 (show ly_ths ly_TH 25 = some (.inl (.int, 28, 0, 7)) from rfl) (by omega) (by omega) (by omega) (by omega) (fun h2 q1 q2 q3 => ?_)
    rw [f0, f1] at q3
    have q3 : hp_p0 cst 6400 (Z.length : Int) xx.toInt h1 h2 := q3
    have F2 : ly_fr cst [6400, 60080, 60081, 60082] h1 h2 := hp_p0_fr q3 (by decide) rfl rfl
    have P2 : fn_N cst h2 6400 0 (Z ++ [xx.toInt]) := fun k hk => by
      rw [List.length_append, List.length_singleton] at hk
      by_cases z : k = Z.length
      · subst z
        rw [List.getElem_append_right (Nat.le_refl _), Int.zero_add]
        simp only [Nat.sub_self, List.getElem_singleton]
        rw [ly_hv0 (by decide)]
        exact q3.1
      · rw [List.getElem_append_left (by omega), ly_hv0 (by decide), q3.2 _ _ (Or.inr (by omega)), ← ly_hv0 (by decide)]
        exact u2 _ _ _ rfl (A.2 k (by omega))
    exact aw1 c hM (by omega) q1 (Z.length : Int) (by omega) (by omega) (F2 _ _ _ rfl k1) g0 (fun h3 v1 v2 v3 k3 => ⟨rfl, rfl, rfl, v1, ly_fr_tr (hp_sub2 rfl u2) (ly_fr_tr (hp_sub2 rfl F2) (hp_sub2 rfl v2)), by rw [List.length_append, List.length_singleton, k3]; congr 1 <;> omega, fn_mv P2 v2 rfl⟩)
  obtain ⟨n', r, hgo, r1, r2, r3, r4⟩ := go
  simp only [Nat.zero_add] at r2 r3
  exact ⟨r, Or.inr ⟨M, n', hM, hl, hgo⟩, r1, r2, r3, r4⟩
theorem an_run {cst : am_K} {strs : List Nat} {D : Nat} {h : am_H} (c1 : hp_C cst strs D) (c : hp_C cst strs (D + 1)) (hD : 3 ≤ D) (hy : ly_hy m_tt ly_TH h) {a b d : Bool} {w : List lv} (A : wt cst h (wl (a, b, d) w)) (w6 : w.length ≤ 6) :
    ∃ r, am_Run cst m_cl m_tt m_P strs sx_bi (D + 1 + 1) 91 [.ref 40] h r ∧ r.1 = none ∧ r.2.2.1 = 0 ∧ r.2.2.2 = 0 ∧ ly_hy m_tt ly_TH r.2.1 ∧ ly_fr cst [6151, 6400, 60080, 60081, 60082] h r.2.1 ∧ wt cst r.2.1 (wl (a, b, !d) w) := by
  obtain ⟨M, hM, hl⟩ := hp_M (mi := 91) (k := 1) (by decide +kernel)
  have go : hp_F cst strs (fun r : am_Q => r.1 = none ∧ r.2.2.1 = 0 ∧ r.2.2.2 = 0 ∧ ly_hy m_tt ly_TH r.2.1 ∧ ly_fr cst [6151, 6400, 60080, 60081, 60082] h r.2.1 ∧ wt cst r.2.1 (wl (a, b, !d) w)) (D + 1) M 0 (lv_args 0 [.ref 40]) [] h := by
    cases d with
    | true =>
      rw [wl_n] at A
      obtain ⟨k1, k2⟩ := wt_top A
      have ll := wl_len w (a, b, false)
      exact an0 c hM (by omega) hy ((wl (a, b, false) w).length : Int) (by omega) (by omega) k1 k2 rfl (fun h3 v1 v2 v3 k3 => ⟨rfl, rfl, rfl, v1, hp_sub2 rfl v2, wt_pop A v2 rfl k3⟩)
    | false =>
      have go2 : ∀ (l1 : am_L) (h1 : am_H) (y0 : Int32), y0.toInt = 2 → ly_hy m_tt ly_TH h1 → ly_fr cst [] h h1 → hp_a l1 0 40 → hp_F cst strs (fun r : am_Q => r.1 = none ∧ r.2.2.1 = 0 ∧ r.2.2.2 = 0 ∧ ly_hy m_tt ly_TH r.2.1 ∧ ly_fr cst [6151, 6400, 60080, 60081, 60082] h r.2.1 ∧ wt cst r.2.1 (wl (a, b, !false) w)) (D + 1) M 23 l1 [.int y0, .ref 40] h1 := by
        intro l1 h1 y0 e0 u1 u2 g0
        have ll := wl_len w (a, b, false)
        obtain ⟨r, hrun, r1, r2, r3, rhy, rfr, rW⟩ := aw_run (xx := y0) c1 (by omega) u1 (wt_mv A u2 rfl) (by omega) (by omega) (by omega)
        refine hp_call (mi := 91) (pc := 23) (tg := 93) (na := 2) (c := 24) (ci := 4) (st0 := [.int y0, .ref 40]) (st := []) (av := [.int y0]) hM (by decide +kernel) u1 rfl rfl rfl (by decide) hrun r2 r3 ?_
        rw [r1]
        refine an4 c hM (by omega) rhy g0 (fun h3 v1 v2 v3 => ⟨rfl, rfl, rfl, v1, ly_fr_tr (hp_sub2 rfl u2) (ly_fr_tr (hp_sub2 rfl rfr) (hp_sub2 rfl v2)), ?_⟩)
        show wt cst h3 (wl (a, b, true) w)
        rw [wl_n]
        rw [e0] at rW
        exact wt_mv rW v2 rfl
      rcases wl_last a b w with e | ⟨Z, q, e, e1, e2⟩
      · rw [e] at A
        exact an1 c hM (by omega) hy (wt_0 A) rfl (fun l1 h1 y0 f0 u1 u2 u3 k1 g0 => go2 l1 h1 y0 f0 u1 u2 g0)
      · have ll := wl_len w (a, b, false)
        rw [e] at A ll
        rw [List.length_append, List.length_singleton] at ll
        obtain ⟨k1, k2⟩ := wt_top A
        have qq : q = 0 ∨ q = 1 ∨ q = 7 := by
          cases b with
          | true => exact Or.inr (Or.inl (e1 rfl))
          | false =>
            cases a with
            | true => exact Or.inl ((e2 rfl).1 rfl)
            | false => exact Or.inr (Or.inr ((e2 rfl).2 rfl))
        by_cases q7 : q ≤ 1
        · exact an2 c hM (by omega) hy (Z.length : Int) q (by omega) (by omega) (by omega) q7 k1 k2 rfl (fun l1 h1 y0 f0 u1 u2 u3 k1 g0 => go2 l1 h1 y0 f0 u1 u2 g0)
        · exact an3 c hM (by omega) hy (Z.length : Int) q (by omega) (by omega) (by omega) (by omega) k1 k2 rfl (fun l1 h1 y0 f0 u1 u2 u3 k1 g0 => go2 l1 h1 y0 f0 u1 u2 g0)
  obtain ⟨n', r, hgo, r1, r2, r3, r4⟩ := go
  simp only [Nat.zero_add] at r2 r3
  exact ⟨r, Or.inr ⟨M, n', hM, hl, hgo⟩, r1, r2, r3, r4⟩
theorem rn_run {cst : am_K} {strs : List Nat} {D : Nat} {h : am_H} (c1 : hp_C cst strs D) (c : hp_C cst strs (D + 1)) (hD : 3 ≤ D) (hy : ly_hy m_tt ly_TH h) {a b d : Bool} {w : List lv} (A : wt cst h (wl (a, b, d) w)) (w6 : w.length ≤ 6) {i0 : List Int} {L : List Int} (I : it cst h i0 L) (rm : (i0.length : Int) + (L.length : Int) ≤ 10239) :
    ∃ r, am_Run cst m_cl m_tt m_P strs sx_bi (D + 1 + 1) 98 [.ref 40] h r ∧ r.1 = none ∧ r.2.2.1 = 0 ∧ r.2.2.2 = 0 ∧ ly_hy m_tt ly_TH r.2.1 ∧ ly_fr cst [3594, 5888, 6151, 60080, 60081, 60082] h r.2.1 ∧ wt cst r.2.1 (wl (a, b, false) w) ∧ it cst r.2.1 i0 (L ++ nt d) := by
  obtain ⟨M, hM, hl⟩ := hp_M (mi := 98) (k := 1) (by decide +kernel)
  have go : hp_F cst strs (fun r : am_Q => r.1 = none ∧ r.2.2.1 = 0 ∧ r.2.2.2 = 0 ∧ ly_hy m_tt ly_TH r.2.1 ∧ ly_fr cst [3594, 5888, 6151, 60080, 60081, 60082] h r.2.1 ∧ wt cst r.2.1 (wl (a, b, false) w) ∧ it cst r.2.1 i0 (L ++ nt d)) (D + 1) M 0 (lv_args 0 [.ref 40]) [] h := by
    cases d with
    | true =>
      rw [wl_n] at A
      obtain ⟨k1, k2⟩ := wt_top A
      have ll := wl_len w (a, b, false)
      refine rn0 c hM (by omega) hy ((wl (a, b, false) w).length : Int) (by omega) (by omega) k1 k2 rfl (fun l1 h1 y0 f0 u1 u2 u3 k3 g0 => ?_)
      obtain ⟨r, hrun, r1, r2, r3, rhy, rfr, rI⟩ := di_run (xv := y0) c1 (by omega) u1 (it_mv I u2 rfl) rm
      refine hp_call (mi := 98) (pc := 25) (tg := 97) (na := 2) (c := 14) (ci := 3) (st0 := [.long y0, .ref 30]) (st := []) (av := [.long y0]) hM (by decide +kernel) u1 rfl rfl rfl (by decide) hrun r2 r3 ?_
      rw [r1]
      rw [f0] at rI
      exact rn4 c hM (by omega) rhy g0 (fun h3 v1 v2 v3 => ⟨rfl, rfl, rfl, v1, ly_fr_tr (hp_sub2 rfl u2) (ly_fr_tr (hp_sub2 rfl rfr) (hp_sub2 rfl v2)), wt_mv (wt_mv (wt_pop A u2 rfl k3) rfr rfl) v2 rfl, it_mv rI v2 rfl⟩)
    | false =>
      have fin : ∀ (h3 : am_H), ly_hy m_tt ly_TH h3 → ly_fr cst [] h h3 → (fun r : am_Q => r.1 = none ∧ r.2.2.1 = 0 ∧ r.2.2.2 = 0 ∧ ly_hy m_tt ly_TH r.2.1 ∧ ly_fr cst [3594, 5888, 6151, 60080, 60081, 60082] h r.2.1 ∧ wt cst r.2.1 (wl (a, b, false) w) ∧ it cst r.2.1 i0 (L ++ nt false)) (none, h3, 0, 0) := fun h3 v1 v2 => ⟨rfl, rfl, rfl, v1, hp_sub2 rfl v2, wt_mv A v2 rfl, by
        show it cst h3 i0 (L ++ [])
        rw [List.append_nil]
        exact it_mv I v2 rfl⟩
      rcases wl_last a b w with e | ⟨Z, q, e, e1, e2⟩
      · have A' := A
        rw [e] at A'
        exact rn1 c hM (by omega) hy (wt_0 A') rfl (fun h3 v1 v2 v3 => fin h3 v1 v2)
      · have ll := wl_len w (a, b, false)
        have A' := A
        rw [e] at A' ll
        rw [List.length_append, List.length_singleton] at ll
        obtain ⟨k1, k2⟩ := wt_top A'
        have qq : q = 0 ∨ q = 1 ∨ q = 7 := by
          cases b with
          | true => exact Or.inr (Or.inl (e1 rfl))
          | false =>
            cases a with
            | true => exact Or.inl ((e2 rfl).1 rfl)
            | false => exact Or.inr (Or.inr ((e2 rfl).2 rfl))
        by_cases q7 : q ≤ 1
        · exact rn2 c hM (by omega) hy (Z.length : Int) q (by omega) (by omega) (by omega) q7 k1 k2 rfl (fun h3 v1 v2 v3 => fin h3 v1 v2)
        · exact rn3 c hM (by omega) hy (Z.length : Int) q (by omega) (by omega) (by omega) (by omega) k1 k2 rfl (fun h3 v1 v2 v3 => fin h3 v1 v2)
  obtain ⟨n', r, hgo, r1, r2, r3, r4⟩ := go
  simp only [Nat.zero_add] at r2 r3
  exact ⟨r, Or.inr ⟨M, n', hM, hl, hgo⟩, r1, r2, r3, r4⟩
/-- release: what joins as close as x (1 and, 0 or), or closer -/
theorem re_run {cst : am_K} {strs : List Nat} {D : Nat} {h : am_H} (c1 : hp_C cst strs D) (c : hp_C cst strs (D + 1)) (hD : 3 ≤ D) (hy : ly_hy m_tt ly_TH h) {a b : Bool} {w : List lv} (A : wt cst h (wl (a, b, false) w)) (w6 : w.length ≤ 6) {i0 : List Int} {L : List Int} (I : it cst h i0 L) (rm : (i0.length : Int) + (L.length : Int) ≤ 10238) {xx : Int32} (x0 : 0 ≤ xx.toInt) (x1 : xx.toInt ≤ 1) :
    ∃ r, am_Run cst m_cl m_tt m_P strs sx_bi (D + 1 + 1) 100 [.ref 40, .int xx] h r ∧ r.1 = none ∧ r.2.2.1 = 0 ∧ r.2.2.2 = 0 ∧ ly_hy m_tt ly_TH r.2.1 ∧ ly_fr cst [3594, 5888, 6151, 60080, 60081, 60082] h r.2.1 ∧ ((xx.toInt = 1 → wt cst r.2.1 (wl (a, false, false) w) ∧ it cst r.2.1 i0 (L ++ an b)) ∧ (xx.toInt = 0 → wt cst r.2.1 (wl (false, false, false) w) ∧ it cst r.2.1 i0 (L ++ rl (a, b, false)))) := by
  obtain ⟨M, hM, hl⟩ := hp_M (mi := 100) (k := 2) (by decide +kernel)
  -- behind the and
  have half : ∀ (l1 : am_L) (h1 : am_H), ly_hy m_tt ly_TH h1 → ly_fr cst [3594, 5888, 6151, 60080, 60081, 60082] h h1 → wt cst h1 (wl (a, false, false) w) → it cst h1 i0 (L ++ an b) → hp_a l1 0 40 → hp_i l1 1 xx.toInt → hp_F cst strs (fun r : am_Q => r.1 = none ∧ r.2.2.1 = 0 ∧ r.2.2.2 = 0 ∧ ly_hy m_tt ly_TH r.2.1 ∧ ly_fr cst [3594, 5888, 6151, 60080, 60081, 60082] h r.2.1 ∧ ((xx.toInt = 1 → wt cst r.2.1 (wl (a, false, false) w) ∧ it cst r.2.1 i0 (L ++ an b)) ∧ (xx.toInt = 0 → wt cst r.2.1 (wl (false, false, false) w) ∧ it cst r.2.1 i0 (L ++ rl (a, b, false))))) (D + 1) M 28 l1 [] h1 := by
    intro l1 h1 u1 u2 W1 I1 g0 g1
    by_cases e1 : xx.toInt = 1
    · rw [e1] at g1
      exact re4 c hM (by omega) u1 g0 g1 (fun h3 v1 v2 v3 => ⟨rfl, rfl, rfl, v1, ly_fr_tr u2 (hp_sub2 rfl v2), fun _ => ⟨wt_mv W1 v2 rfl, it_mv I1 v2 rfl⟩, fun z => by omega⟩)
    · have e0 : xx.toInt = 0 := by omega
      rw [e0] at g1
      have ln : (L ++ an b).length ≤ L.length + 1 := by
        rw [List.length_append]
        cases b <;> simp [an]
      cases a with
      | true =>
        rw [wl_o] at W1
        obtain ⟨k1, k2⟩ := wt_top W1
        have ll := wl_len w (false, false, false)
        refine re5 c hM (by omega) u1 ((wl (false, false, false) w).length : Int) (by omega) (by omega) k1 k2 g0 g1 (fun l2 h2 y0 f0 v1 v2 v3 k3 g2 g3 => ?_)
        obtain ⟨r, hrun, r1, r2, r3, rhy, rfr, rI⟩ := di_run (xv := y0) c1 (by omega) v1 (it_mv I1 v2 rfl) (by omega)
        refine hp_call (mi := 100) (pc := 57) (tg := 97) (na := 2) (c := 14) (ci := 3) (st0 := [.long y0, .ref 30]) (st := []) (av := [.long y0]) hM (by decide +kernel) v1 rfl rfl rfl (by decide) hrun r2 r3 ?_
        rw [r1]
        rw [f0] at rI
        refine re8 c hM (by omega) rhy g2 (fun h3 p1 p2 p3 => ⟨rfl, rfl, rfl, p1, ly_fr_tr u2 (ly_fr_tr (hp_sub2 rfl v2) (ly_fr_tr (hp_sub2 rfl rfr) (hp_sub2 rfl p2))), fun z => (by omega), fun _ => ⟨wt_mv (wt_mv (wt_pop W1 v2 rfl k3) rfr rfl) p2 rfl, ?_⟩⟩)
        show it cst h3 i0 (L ++ (an b ++ [-20007]))
        rw [← List.append_assoc]
        exact it_mv rI p2 rfl
      | false =>
        have fin : ∀ (h3 : am_H), ly_hy m_tt ly_TH h3 → ly_fr cst [] h1 h3 → (fun r : am_Q => r.1 = none ∧ r.2.2.1 = 0 ∧ r.2.2.2 = 0 ∧ ly_hy m_tt ly_TH r.2.1 ∧ ly_fr cst [3594, 5888, 6151, 60080, 60081, 60082] h r.2.1 ∧ ((xx.toInt = 1 → wt cst r.2.1 (wl (false, false, false) w) ∧ it cst r.2.1 i0 (L ++ an b)) ∧ (xx.toInt = 0 → wt cst r.2.1 (wl (false, false, false) w) ∧ it cst r.2.1 i0 (L ++ rl (false, b, false))))) (none, h3, 0, 0) := fun h3 v1 v2 => ⟨rfl, rfl, rfl, v1, ly_fr_tr u2 (hp_sub2 rfl v2), fun z => (by omega), fun _ => ⟨wt_mv W1 v2 rfl, by
          show it cst h3 i0 (L ++ (an b ++ []))
          rw [List.append_nil]
          exact it_mv I1 v2 rfl⟩⟩
        rcases wl_last false false w with e | ⟨Z, q, e, -, e2⟩
        · have A' := W1
          rw [e] at A'
          exact re6 c hM (by omega) u1 (wt_0 A') g0 g1 (fun h3 v1 v2 v3 => fin h3 v1 v2)
        · have ll := wl_len w (false, false, false)
          have A' := W1
          rw [e] at A' ll
          rw [List.length_append, List.length_singleton] at ll
          obtain ⟨k1, k2⟩ := wt_top A'
          have q7 := (e2 rfl).2 rfl
          exact re7 c hM (by omega) u1 (Z.length : Int) q (by omega) (by omega) (by omega) (by omega) k1 k2 g0 g1 (fun h3 v1 v2 v3 => fin h3 v1 v2)
  have go : hp_F cst strs (fun r : am_Q => r.1 = none ∧ r.2.2.1 = 0 ∧ r.2.2.2 = 0 ∧ ly_hy m_tt ly_TH r.2.1 ∧ ly_fr cst [3594, 5888, 6151, 60080, 60081, 60082] h r.2.1 ∧ ((xx.toInt = 1 → wt cst r.2.1 (wl (a, false, false) w) ∧ it cst r.2.1 i0 (L ++ an b)) ∧ (xx.toInt = 0 → wt cst r.2.1 (wl (false, false, false) w) ∧ it cst r.2.1 i0 (L ++ rl (a, b, false))))) (D + 1) M 0 (lv_args 0 [.ref 40, .int xx]) [] h := by
    cases b with
    | true =>
      rw [wl_a] at A
      obtain ⟨k1, k2⟩ := wt_top A
      have ll := wl_len w (a, false, false)
      refine re0 c hM (by omega) hy xx.toInt ((wl (a, false, false) w).length : Int) x0 x1 (by omega) (by omega) k1 k2 rfl ⟨xx, rfl, rfl⟩ (fun l1 h1 y0 f0 u1 u2 u3 k3 g0 g1 => ?_)
      obtain ⟨r, hrun, r1, r2, r3, rhy, rfr, rI⟩ := di_run (xv := y0) c1 (by omega) u1 (it_mv I u2 rfl) (by omega)
      refine hp_call (mi := 100) (pc := 25) (tg := 97) (na := 2) (c := 14) (ci := 3) (st0 := [.long y0, .ref 30]) (st := []) (av := [.long y0]) hM (by decide +kernel) u1 rfl rfl rfl (by decide) hrun r2 r3 ?_
      rw [r1]
      rw [f0] at rI
      exact half _ _ rhy (ly_fr_tr (hp_sub2 rfl u2) (hp_sub2 rfl rfr)) (wt_mv (wt_pop A u2 rfl k3) rfr rfl) rI g0 g1
    | false =>
      have I0 : it cst h i0 (L ++ an false) := by
        show it cst h i0 (L ++ [])
        rw [List.append_nil]
        exact I
      rcases wl_last a false w with e | ⟨Z, q, e, -, e2⟩
      · have A' := A
        rw [e] at A'
        exact re1 c hM (by omega) hy xx.toInt x0 x1 (wt_0 A') rfl ⟨xx, rfl, rfl⟩ (fun l1 h1 u1 u2 u3 g0 g1 => half l1 h1 u1 (hp_sub2 rfl u2) (wt_mv A u2 rfl) (it_mv I0 u2 rfl) g0 g1)
      · have ll := wl_len w (a, false, false)
        have A' := A
        rw [e] at A' ll
        rw [List.length_append, List.length_singleton] at ll
        obtain ⟨k1, k2⟩ := wt_top A'
        have qq : q = 0 ∨ q = 7 := by
          cases a with
          | true => exact Or.inl ((e2 rfl).1 rfl)
          | false => exact Or.inr ((e2 rfl).2 rfl)
        by_cases q7 : q ≤ 0
        · exact re2 c hM (by omega) hy xx.toInt (Z.length : Int) q x0 x1 (by omega) (by omega) (by omega) q7 k1 k2 rfl ⟨xx, rfl, rfl⟩ (fun l1 h1 u1 u2 u3 g0 g1 => half l1 h1 u1 (hp_sub2 rfl u2) (wt_mv A u2 rfl) (it_mv I0 u2 rfl) g0 g1)
        · exact re3 c hM (by omega) hy xx.toInt (Z.length : Int) q x0 x1 (by omega) (by omega) (by omega) (by omega) k1 k2 rfl ⟨xx, rfl, rfl⟩ (fun l1 h1 u1 u2 u3 g0 g1 => half l1 h1 u1 (hp_sub2 rfl u2) (wt_mv A u2 rfl) (it_mv I0 u2 rfl) g0 g1)
  obtain ⟨n', r, hgo, r1, r2, r3, r4⟩ := go
  simp only [Nat.zero_add] at r2 r3
  exact ⟨r, Or.inr ⟨M, n', hM, hl, hgo⟩, r1, r2, r3, r4⟩
