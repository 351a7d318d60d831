/-! PRINTED by wip/p2/hp_body.py: readNumber, readStrike, readWords of the class, exactly -/
theorem nuA0_k : hp_chk 105 0 1 [(0, 0, 1)] [] [(0, .inr (.inr (.inl (some 40))))] [] [(6155, (0, []), (0, [(0, 1)]))] [] 2 [(10, ([], 1, [(0, 0, 1)], [], [(0, .inr (.inr (.inl (some 40))))], [.inl (1, []), .inr (.inr (.inl (some 40)))], []))] [] = true := by decide +kernel
theorem nuA0 {cst : am_K} {strs : List Nat} {Φ : am_Q → Prop} {D : Nat} {M : am_M} {h : am_H} {l : am_L} (c : hp_C cst strs D) (hM : m_P[105]? = some M) (hD : (2 : Int) ≤ (D : Int) + 1) (hy : ly_hy m_tt ly_TH h) (q : Int) (b0 : 0 ≤ q) (t0 : q ≤ 1) (k0 : ly_hv cst h 6155 0 = some (q)) (l0 : hp_a l 0 40) (e0 : ∀ (l' : am_L) (h' : am_H) (y0 : Int32), y0.toInt = 1 → ly_hy m_tt ly_TH h' → ly_fr cst [] h h' → h.length ≤ h'.length → hp_a l' 0 40 → hp_F cst strs Φ D M 10 l' [.int y0, .ref 40] h') : hp_F cst strs Φ D M 0 l [] h := by
  refine hp_arc c hM nuA0_k hD [q] rfl hy (hp_Bc (z := q) rfl b0 t0 hp_Bn) hp_Fn (hp_Kc (zi := (0 + 0)) (zv := (0 + (1 * q + 0))) k0 rfl rfl (by omega) (by omega) hp_Kn) (hp_La l0 hp_Ln) trivial ?_ ?_
  · intro p hp ys l' st' h' hys a1 a2 a3 gZ gL gS
    rcases List.mem_cons.mp hp with rfl | hp
    · obtain rfl := hp_y0 hys
      obtain ⟨y0, t0, rfl, q0, g0⟩ := hp_gSi (z := (1 + 0)) gS rfl
      obtain ⟨t1, rfl, g1⟩ := hp_gSa g0 (by decide)
      cases hp_gSn g1
      exact e0 l' h' y0 (by omega) a1 a2 a3 (hp_gLa gL (List.mem_of_getElem? (i := 0) rfl) (by decide))
    cases hp
  · intro p hp ys v h' hys a1 a2 a3 gZ gS
    cases hp
theorem nuA1_k : hp_chk 105 0 1 [(0, 3, 255)] [] [(0, .inr (.inr (.inl (some 40))))] [] [(6155, (0, []), (0, [(0, 1)]))] [] 2 [(10, ([], 1, [(0, 3, 255)], [], [(0, .inr (.inr (.inl (some 40))))], [.inl (1, []), .inr (.inr (.inl (some 40)))], []))] [] = true := by decide +kernel
theorem nuA1 {cst : am_K} {strs : List Nat} {Φ : am_Q → Prop} {D : Nat} {M : am_M} {h : am_H} {l : am_L} (c : hp_C cst strs D) (hM : m_P[105]? = some M) (hD : (2 : Int) ≤ (D : Int) + 1) (hy : ly_hy m_tt ly_TH h) (q : Int) (b0 : 3 ≤ q) (t0 : q ≤ 255) (k0 : ly_hv cst h 6155 0 = some (q)) (l0 : hp_a l 0 40) (e0 : ∀ (l' : am_L) (h' : am_H) (y0 : Int32), y0.toInt = 1 → ly_hy m_tt ly_TH h' → ly_fr cst [] h h' → h.length ≤ h'.length → hp_a l' 0 40 → hp_F cst strs Φ D M 10 l' [.int y0, .ref 40] h') : hp_F cst strs Φ D M 0 l [] h := by
  refine hp_arc c hM nuA1_k hD [q] rfl hy (hp_Bc (z := q) rfl b0 t0 hp_Bn) hp_Fn (hp_Kc (zi := (0 + 0)) (zv := (0 + (1 * q + 0))) k0 rfl rfl (by omega) (by omega) hp_Kn) (hp_La l0 hp_Ln) trivial ?_ ?_
  · intro p hp ys l' st' h' hys a1 a2 a3 gZ gL gS
    rcases List.mem_cons.mp hp with rfl | hp
    · obtain rfl := hp_y0 hys
      obtain ⟨y0, t0, rfl, q0, g0⟩ := hp_gSi (z := (1 + 0)) gS rfl
      obtain ⟨t1, rfl, g1⟩ := hp_gSa g0 (by decide)
      cases hp_gSn g1
      exact e0 l' h' y0 (by omega) a1 a2 a3 (hp_gLa gL (List.mem_of_getElem? (i := 0) rfl) (by decide))
    cases hp
  · intro p hp ys v h' hys a1 a2 a3 gZ gS
    cases hp
theorem fr105_10_k : hp_chk 105 13 0 [] [] [] [.inl (0, [])] [] [] 2 [] [([], 0, [], [], [], [.inl (0, [])], [])] = true := by decide +kernel
theorem fr105_10 {cst : am_K} {strs : List Nat} {Φ : am_Q → Prop} {D : Nat} {M : am_M} {h : am_H} {l : am_L} (c : hp_C cst strs D) (hM : m_P[105]? = some M) (hD : (2 : Int) ≤ (D : Int) + 1) (hy : ly_hy m_tt ly_TH h) (x0 : Int32) (hx0 : x0.toInt = 0) (r0 : ∀ (h' : am_H) (y0 : Int32), y0.toInt = 0 → ly_hy m_tt ly_TH h' → ly_fr cst [] h h' → h.length ≤ h'.length → Φ (some (.int y0), h', 0, 0)) : hp_F cst strs Φ D M 13 l [.int x0] h := by
  refine hp_arc c hM fr105_10_k hD [] rfl hy hp_Bn hp_Fn hp_Kn hp_Ln (hp_Si (z := (0 + 0)) rfl (by omega) trivial) ?_ ?_
  · intro p hp ys l' st' h' hys a1 a2 a3 gZ gL gS
    cases hp
  · intro p hp ys v h' hys a1 a2 a3 gZ gS
    rcases List.mem_cons.mp hp with rfl | hp
    · obtain rfl := hp_y0 hys
      cases v with
      | none => cases gS
      | some w =>
        obtain ⟨y0, t0, s0, q0, -⟩ := hp_gSi (z := (0 + 0)) gS rfl
        cases s0
        exact r0 h' y0 (by omega) a1 a2 a3
    cases hp
theorem stA0_k : hp_chk 104 0 1 [(0, 0, 1)] [] [(0, .inr (.inr (.inl (some 40))))] [] [(6155, (0, []), (0, [(0, 1)]))] [] 2 [(10, ([], 1, [(0, 0, 1)], [], [(0, .inr (.inr (.inl (some 40))))], [.inl (1, []), .inr (.inr (.inl (some 40)))], []))] [] = true := by decide +kernel
theorem stA0 {cst : am_K} {strs : List Nat} {Φ : am_Q → Prop} {D : Nat} {M : am_M} {h : am_H} {l : am_L} (c : hp_C cst strs D) (hM : m_P[104]? = some M) (hD : (2 : Int) ≤ (D : Int) + 1) (hy : ly_hy m_tt ly_TH h) (q : Int) (b0 : 0 ≤ q) (t0 : q ≤ 1) (k0 : ly_hv cst h 6155 0 = some (q)) (l0 : hp_a l 0 40) (e0 : ∀ (l' : am_L) (h' : am_H) (y0 : Int32), y0.toInt = 1 → ly_hy m_tt ly_TH h' → ly_fr cst [] h h' → h.length ≤ h'.length → hp_a l' 0 40 → hp_F cst strs Φ D M 10 l' [.int y0, .ref 40] h') : hp_F cst strs Φ D M 0 l [] h := by
  refine hp_arc c hM stA0_k hD [q] rfl hy (hp_Bc (z := q) rfl b0 t0 hp_Bn) hp_Fn (hp_Kc (zi := (0 + 0)) (zv := (0 + (1 * q + 0))) k0 rfl rfl (by omega) (by omega) hp_Kn) (hp_La l0 hp_Ln) trivial ?_ ?_
  · intro p hp ys l' st' h' hys a1 a2 a3 gZ gL gS
    rcases List.mem_cons.mp hp with rfl | hp
    · obtain rfl := hp_y0 hys
      obtain ⟨y0, t0, rfl, q0, g0⟩ := hp_gSi (z := (1 + 0)) gS rfl
      obtain ⟨t1, rfl, g1⟩ := hp_gSa g0 (by decide)
      cases hp_gSn g1
      exact e0 l' h' y0 (by omega) a1 a2 a3 (hp_gLa gL (List.mem_of_getElem? (i := 0) rfl) (by decide))
    cases hp
  · intro p hp ys v h' hys a1 a2 a3 gZ gS
    cases hp
theorem stA1_k : hp_chk 104 0 1 [(0, 3, 255)] [] [(0, .inr (.inr (.inl (some 40))))] [] [(6155, (0, []), (0, [(0, 1)]))] [] 2 [(10, ([], 1, [(0, 3, 255)], [], [(0, .inr (.inr (.inl (some 40))))], [.inl (1, []), .inr (.inr (.inl (some 40)))], []))] [] = true := by decide +kernel
theorem stA1 {cst : am_K} {strs : List Nat} {Φ : am_Q → Prop} {D : Nat} {M : am_M} {h : am_H} {l : am_L} (c : hp_C cst strs D) (hM : m_P[104]? = some M) (hD : (2 : Int) ≤ (D : Int) + 1) (hy : ly_hy m_tt ly_TH h) (q : Int) (b0 : 3 ≤ q) (t0 : q ≤ 255) (k0 : ly_hv cst h 6155 0 = some (q)) (l0 : hp_a l 0 40) (e0 : ∀ (l' : am_L) (h' : am_H) (y0 : Int32), y0.toInt = 1 → ly_hy m_tt ly_TH h' → ly_fr cst [] h h' → h.length ≤ h'.length → hp_a l' 0 40 → hp_F cst strs Φ D M 10 l' [.int y0, .ref 40] h') : hp_F cst strs Φ D M 0 l [] h := by
  refine hp_arc c hM stA1_k hD [q] rfl hy (hp_Bc (z := q) rfl b0 t0 hp_Bn) hp_Fn (hp_Kc (zi := (0 + 0)) (zv := (0 + (1 * q + 0))) k0 rfl rfl (by omega) (by omega) hp_Kn) (hp_La l0 hp_Ln) trivial ?_ ?_
  · intro p hp ys l' st' h' hys a1 a2 a3 gZ gL gS
    rcases List.mem_cons.mp hp with rfl | hp
    · obtain rfl := hp_y0 hys
      obtain ⟨y0, t0, rfl, q0, g0⟩ := hp_gSi (z := (1 + 0)) gS rfl
      obtain ⟨t1, rfl, g1⟩ := hp_gSa g0 (by decide)
      cases hp_gSn g1
      exact e0 l' h' y0 (by omega) a1 a2 a3 (hp_gLa gL (List.mem_of_getElem? (i := 0) rfl) (by decide))
    cases hp
  · intro p hp ys v h' hys a1 a2 a3 gZ gS
    cases hp
theorem fr104_10_k : hp_chk 104 13 0 [] [] [] [.inl (0, [])] [] [] 2 [] [([], 0, [], [], [], [.inl (0, [])], [])] = true := by decide +kernel
theorem fr104_10 {cst : am_K} {strs : List Nat} {Φ : am_Q → Prop} {D : Nat} {M : am_M} {h : am_H} {l : am_L} (c : hp_C cst strs D) (hM : m_P[104]? = some M) (hD : (2 : Int) ≤ (D : Int) + 1) (hy : ly_hy m_tt ly_TH h) (x0 : Int32) (hx0 : x0.toInt = 0) (r0 : ∀ (h' : am_H) (y0 : Int32), y0.toInt = 0 → ly_hy m_tt ly_TH h' → ly_fr cst [] h h' → h.length ≤ h'.length → Φ (some (.int y0), h', 0, 0)) : hp_F cst strs Φ D M 13 l [.int x0] h := by
  refine hp_arc c hM fr104_10_k hD [] rfl hy hp_Bn hp_Fn hp_Kn hp_Ln (hp_Si (z := (0 + 0)) rfl (by omega) trivial) ?_ ?_
  · intro p hp ys l' st' h' hys a1 a2 a3 gZ gL gS
    cases hp
  · intro p hp ys v h' hys a1 a2 a3 gZ gS
    rcases List.mem_cons.mp hp with rfl | hp
    · obtain rfl := hp_y0 hys
      cases v with
      | none => cases gS
      | some w =>
        obtain ⟨y0, t0, s0, q0, -⟩ := hp_gSi (z := (0 + 0)) gS rfl
        cases s0
        exact r0 h' y0 (by omega) a1 a2 a3
    cases hp
theorem nuB3_k : hq_chk [80] 105 0 4 [(0, 0, 1199), (1, 0, 1200), (2, 0, 9999), (3, (-9223372036854775808), 9223372036854775807)] [((-1), [(0, (-1)), (1, 1)])] [(0, .inr (.inr (.inl (some 40))))] [] [(6155, (0, []), (2, [])), (6154, (0, []), (0, [(0, 1)])), (261, (0, []), (0, [(1, 1)])), (1280, (0, [(0, 1)]), (0, [(2, 1)])), (6159, (0, []), (3, [])), (6160, (0, []), (0, [(3, 1)]))] [] 3 [(88, ([], 4, [(0, 0, 1199), (1, 0, 1200), (2, 0, 9999), (3, (-9223372036854775808), 9223372036854775807)], [], [(0, .inr (.inr (.inl (some 40))))], [.inl (0, [(2, 1)]), .inr (.inl (0, [(3, 1)])), .inl (3, []), .inr (.inr (.inl (some 30)))], []))] [] = true := by decide +kernel
theorem nuB3 {cst : am_K} {strs : List Nat} {Φ : am_Q → Prop} {D : Nat} {M : am_M} {h : am_H} {l : am_L} (c : hp_C cst strs D) (hM : m_P[105]? = some M) (hD : (3 : Int) ≤ (D : Int) + 1) (hy : ly_hy m_tt ly_TH h) (b t x d : Int) (b0 : 0 ≤ b) (t0 : b ≤ 1199) (b1 : 0 ≤ t) (t1 : t ≤ 1200) (b2 : 0 ≤ x) (t2 : x ≤ 9999) (b3 : (-9223372036854775808) ≤ d) (t3 : d ≤ 9223372036854775807) (f0 : 0 ≤ (t - b - 1)) (k0 : ly_hv cst h 6155 0 = some 2) (k1 : ly_hv cst h 6154 0 = some (b)) (k2 : ly_hv cst h 261 0 = some (t)) (k3 : ly_hv cst h 1280 (b) = some (x)) (k4 : ly_hv cst h 6159 0 = some 3) (k5 : ly_hv cst h 6160 0 = some (d)) (l0 : hp_a l 0 40) (e0 : ∀ (l' : am_L) (h' : am_H) (y0 : Int32) (y1 : Int64) (y2 : Int32), y0.toInt = (x) → y1.toInt = (d) → y2.toInt = 3 → ly_hy m_tt ly_TH h' → ly_fr cst [] h h' → h.length ≤ h'.length → hp_a l' 0 40 → hp_F cst strs Φ D M 88 l' [.int y0, .long y1, .int y2, .ref 30] h') : hp_F cst strs Φ D M 0 l [] h := by
  refine hq_arc c hM nuB3_k hD [b, t, x, d] rfl hy (hp_Bc (z := b) rfl b0 t0 (hp_Bc (z := t) rfl b1 t1 (hp_Bc (z := x) rfl b2 t2 (hp_Bc (z := d) rfl b3 t3 hp_Bn)))) (hp_Fc (z := ((-1) + ((-1) * b + (1 * t + 0)))) rfl (by omega) hp_Fn) (hp_Kc (zi := (0 + 0)) (zv := (2 + 0)) k0 rfl rfl (by omega) (by omega) (hp_Kc (zi := (0 + 0)) (zv := (0 + (1 * b + 0))) k1 rfl rfl (by omega) (by omega) (hp_Kc (zi := (0 + 0)) (zv := (0 + (1 * t + 0))) k2 rfl rfl (by omega) (by omega) (hp_Kc (zi := (0 + (1 * b + 0))) (zv := (0 + (1 * x + 0))) k3 rfl rfl (by omega) (by omega) (hp_Kc (zi := (0 + 0)) (zv := (3 + 0)) k4 rfl rfl (by omega) (by omega) (hp_Kc (zi := (0 + 0)) (zv := (0 + (1 * d + 0))) k5 rfl rfl (by omega) (by omega) hp_Kn)))))) (hp_La l0 hp_Ln) trivial ?_ ?_
  · intro p hp ys l' st' h' hys a1 a2 a3 gZ gL gS
    rcases List.mem_cons.mp hp with rfl | hp
    · obtain rfl := hp_y0 hys
      obtain ⟨y0, t0, rfl, q0, g0⟩ := hp_gSi (z := (0 + (1 * x + 0))) gS rfl
      obtain ⟨y1, t1, rfl, q1, g1⟩ := hp_gSj (z := (0 + (1 * d + 0))) g0 rfl
      obtain ⟨y2, t2, rfl, q2, g2⟩ := hp_gSi (z := (3 + 0)) g1 rfl
      obtain ⟨t3, rfl, g3⟩ := hp_gSa g2 (by decide)
      cases hp_gSn g3
      exact e0 l' h' y0 y1 y2 (by omega) (by omega) (by omega) a1 a2 a3 (hp_gLa gL (List.mem_of_getElem? (i := 0) rfl) (by decide))
    cases hp
  · intro p hp ys v h' hys a1 a2 a3 gZ gS
    cases hp
theorem nuB7_k : hq_chk [80] 105 0 4 [(0, 0, 1199), (1, 0, 1200), (2, 1, 12), (3, (-9223372036854775808), 9223372036854775807)] [((-1), [(0, (-1)), (1, 1)])] [(0, .inr (.inr (.inl (some 40))))] [] [(6155, (0, []), (2, [])), (6154, (0, []), (0, [(0, 1)])), (261, (0, []), (0, [(1, 1)])), (1280, (0, [(0, 1)]), (0, [(2, 1)])), (6159, (0, []), (7, [])), (6160, (0, []), (0, [(3, 1)]))] [] 3 [(88, ([], 4, [(0, 0, 1199), (1, 0, 1200), (2, 1, 12), (3, (-9223372036854775808), 9223372036854775807)], [], [(0, .inr (.inr (.inl (some 40))))], [.inl (0, [(2, 1)]), .inr (.inl (0, [(3, 1)])), .inl (7, []), .inr (.inr (.inl (some 30)))], []))] [] = true := by decide +kernel
theorem nuB7 {cst : am_K} {strs : List Nat} {Φ : am_Q → Prop} {D : Nat} {M : am_M} {h : am_H} {l : am_L} (c : hp_C cst strs D) (hM : m_P[105]? = some M) (hD : (3 : Int) ≤ (D : Int) + 1) (hy : ly_hy m_tt ly_TH h) (b t x d : Int) (b0 : 0 ≤ b) (t0 : b ≤ 1199) (b1 : 0 ≤ t) (t1 : t ≤ 1200) (b2 : 1 ≤ x) (t2 : x ≤ 12) (b3 : (-9223372036854775808) ≤ d) (t3 : d ≤ 9223372036854775807) (f0 : 0 ≤ (t - b - 1)) (k0 : ly_hv cst h 6155 0 = some 2) (k1 : ly_hv cst h 6154 0 = some (b)) (k2 : ly_hv cst h 261 0 = some (t)) (k3 : ly_hv cst h 1280 (b) = some (x)) (k4 : ly_hv cst h 6159 0 = some 7) (k5 : ly_hv cst h 6160 0 = some (d)) (l0 : hp_a l 0 40) (e0 : ∀ (l' : am_L) (h' : am_H) (y0 : Int32) (y1 : Int64) (y2 : Int32), y0.toInt = (x) → y1.toInt = (d) → y2.toInt = 7 → ly_hy m_tt ly_TH h' → ly_fr cst [] h h' → h.length ≤ h'.length → hp_a l' 0 40 → hp_F cst strs Φ D M 88 l' [.int y0, .long y1, .int y2, .ref 30] h') : hp_F cst strs Φ D M 0 l [] h := by
  refine hq_arc c hM nuB7_k hD [b, t, x, d] rfl hy (hp_Bc (z := b) rfl b0 t0 (hp_Bc (z := t) rfl b1 t1 (hp_Bc (z := x) rfl b2 t2 (hp_Bc (z := d) rfl b3 t3 hp_Bn)))) (hp_Fc (z := ((-1) + ((-1) * b + (1 * t + 0)))) rfl (by omega) hp_Fn) (hp_Kc (zi := (0 + 0)) (zv := (2 + 0)) k0 rfl rfl (by omega) (by omega) (hp_Kc (zi := (0 + 0)) (zv := (0 + (1 * b + 0))) k1 rfl rfl (by omega) (by omega) (hp_Kc (zi := (0 + 0)) (zv := (0 + (1 * t + 0))) k2 rfl rfl (by omega) (by omega) (hp_Kc (zi := (0 + (1 * b + 0))) (zv := (0 + (1 * x + 0))) k3 rfl rfl (by omega) (by omega) (hp_Kc (zi := (0 + 0)) (zv := (7 + 0)) k4 rfl rfl (by omega) (by omega) (hp_Kc (zi := (0 + 0)) (zv := (0 + (1 * d + 0))) k5 rfl rfl (by omega) (by omega) hp_Kn)))))) (hp_La l0 hp_Ln) trivial ?_ ?_
  · intro p hp ys l' st' h' hys a1 a2 a3 gZ gL gS
    rcases List.mem_cons.mp hp with rfl | hp
    · obtain rfl := hp_y0 hys
      obtain ⟨y0, t0, rfl, q0, g0⟩ := hp_gSi (z := (0 + (1 * x + 0))) gS rfl
      obtain ⟨y1, t1, rfl, q1, g1⟩ := hp_gSj (z := (0 + (1 * d + 0))) g0 rfl
      obtain ⟨y2, t2, rfl, q2, g2⟩ := hp_gSi (z := (7 + 0)) g1 rfl
      obtain ⟨t3, rfl, g3⟩ := hp_gSa g2 (by decide)
      cases hp_gSn g3
      exact e0 l' h' y0 y1 y2 (by omega) (by omega) (by omega) a1 a2 a3 (hp_gLa gL (List.mem_of_getElem? (i := 0) rfl) (by decide))
    cases hp
  · intro p hp ys v h' hys a1 a2 a3 gZ gS
    cases hp
theorem nuC7_k : hq_chk [80] 105 0 3 [(0, 0, 1199), (1, 0, 1200), (2, 0, 0)] [((-1), [(0, (-1)), (1, 1)])] [(0, .inr (.inr (.inl (some 40))))] [] [(6155, (0, []), (2, [])), (6154, (0, []), (0, [(0, 1)])), (261, (0, []), (0, [(1, 1)])), (1280, (0, [(0, 1)]), (0, [(2, 1)])), (6159, (0, []), (7, []))] [] 3 [(71, ([], 3, [(0, 0, 1199), (1, 0, 1200), (2, 0, 0)], [], [(0, .inr (.inr (.inl (some 40))))], [.inl (2, []), .inr (.inr (.inl (some 40)))], []))] [] = true := by decide +kernel
theorem nuC7 {cst : am_K} {strs : List Nat} {Φ : am_Q → Prop} {D : Nat} {M : am_M} {h : am_H} {l : am_L} (c : hp_C cst strs D) (hM : m_P[105]? = some M) (hD : (3 : Int) ≤ (D : Int) + 1) (hy : ly_hy m_tt ly_TH h) (b t x : Int) (b0 : 0 ≤ b) (t0 : b ≤ 1199) (b1 : 0 ≤ t) (t1 : t ≤ 1200) (b2 : 0 ≤ x) (t2 : x ≤ 0) (f0 : 0 ≤ (t - b - 1)) (k0 : ly_hv cst h 6155 0 = some 2) (k1 : ly_hv cst h 6154 0 = some (b)) (k2 : ly_hv cst h 261 0 = some (t)) (k3 : ly_hv cst h 1280 (b) = some (x)) (k4 : ly_hv cst h 6159 0 = some 7) (l0 : hp_a l 0 40) (e0 : ∀ (l' : am_L) (h' : am_H) (y0 : Int32), y0.toInt = 2 → ly_hy m_tt ly_TH h' → ly_fr cst [] h h' → h.length ≤ h'.length → hp_a l' 0 40 → hp_F cst strs Φ D M 71 l' [.int y0, .ref 40] h') : hp_F cst strs Φ D M 0 l [] h := by
  refine hq_arc c hM nuC7_k hD [b, t, x] rfl hy (hp_Bc (z := b) rfl b0 t0 (hp_Bc (z := t) rfl b1 t1 (hp_Bc (z := x) rfl b2 t2 hp_Bn))) (hp_Fc (z := ((-1) + ((-1) * b + (1 * t + 0)))) rfl (by omega) hp_Fn) (hp_Kc (zi := (0 + 0)) (zv := (2 + 0)) k0 rfl rfl (by omega) (by omega) (hp_Kc (zi := (0 + 0)) (zv := (0 + (1 * b + 0))) k1 rfl rfl (by omega) (by omega) (hp_Kc (zi := (0 + 0)) (zv := (0 + (1 * t + 0))) k2 rfl rfl (by omega) (by omega) (hp_Kc (zi := (0 + (1 * b + 0))) (zv := (0 + (1 * x + 0))) k3 rfl rfl (by omega) (by omega) (hp_Kc (zi := (0 + 0)) (zv := (7 + 0)) k4 rfl rfl (by omega) (by omega) hp_Kn))))) (hp_La l0 hp_Ln) trivial ?_ ?_
  · intro p hp ys l' st' h' hys a1 a2 a3 gZ gL gS
    rcases List.mem_cons.mp hp with rfl | hp
    · obtain rfl := hp_y0 hys
      obtain ⟨y0, t0, rfl, q0, g0⟩ := hp_gSi (z := (2 + 0)) gS rfl
      obtain ⟨t1, rfl, g1⟩ := hp_gSa g0 (by decide)
      cases hp_gSn g1
      exact e0 l' h' y0 (by omega) a1 a2 a3 (hp_gLa gL (List.mem_of_getElem? (i := 0) rfl) (by decide))
    cases hp
  · intro p hp ys v h' hys a1 a2 a3 gZ gS
    cases hp
theorem nuD7_k : hq_chk [80] 105 0 3 [(0, 0, 1199), (1, 0, 1200), (2, 13, 9999)] [((-1), [(0, (-1)), (1, 1)])] [(0, .inr (.inr (.inl (some 40))))] [] [(6155, (0, []), (2, [])), (6154, (0, []), (0, [(0, 1)])), (261, (0, []), (0, [(1, 1)])), (1280, (0, [(0, 1)]), (0, [(2, 1)])), (6159, (0, []), (7, []))] [] 3 [(71, ([], 3, [(0, 0, 1199), (1, 0, 1200), (2, 13, 9999)], [], [(0, .inr (.inr (.inl (some 40))))], [.inl (2, []), .inr (.inr (.inl (some 40)))], []))] [] = true := by decide +kernel
theorem nuD7 {cst : am_K} {strs : List Nat} {Φ : am_Q → Prop} {D : Nat} {M : am_M} {h : am_H} {l : am_L} (c : hp_C cst strs D) (hM : m_P[105]? = some M) (hD : (3 : Int) ≤ (D : Int) + 1) (hy : ly_hy m_tt ly_TH h) (b t x : Int) (b0 : 0 ≤ b) (t0 : b ≤ 1199) (b1 : 0 ≤ t) (t1 : t ≤ 1200) (b2 : 13 ≤ x) (t2 : x ≤ 9999) (f0 : 0 ≤ (t - b - 1)) (k0 : ly_hv cst h 6155 0 = some 2) (k1 : ly_hv cst h 6154 0 = some (b)) (k2 : ly_hv cst h 261 0 = some (t)) (k3 : ly_hv cst h 1280 (b) = some (x)) (k4 : ly_hv cst h 6159 0 = some 7) (l0 : hp_a l 0 40) (e0 : ∀ (l' : am_L) (h' : am_H) (y0 : Int32), y0.toInt = 2 → ly_hy m_tt ly_TH h' → ly_fr cst [] h h' → h.length ≤ h'.length → hp_a l' 0 40 → hp_F cst strs Φ D M 71 l' [.int y0, .ref 40] h') : hp_F cst strs Φ D M 0 l [] h := by
  refine hq_arc c hM nuD7_k hD [b, t, x] rfl hy (hp_Bc (z := b) rfl b0 t0 (hp_Bc (z := t) rfl b1 t1 (hp_Bc (z := x) rfl b2 t2 hp_Bn))) (hp_Fc (z := ((-1) + ((-1) * b + (1 * t + 0)))) rfl (by omega) hp_Fn) (hp_Kc (zi := (0 + 0)) (zv := (2 + 0)) k0 rfl rfl (by omega) (by omega) (hp_Kc (zi := (0 + 0)) (zv := (0 + (1 * b + 0))) k1 rfl rfl (by omega) (by omega) (hp_Kc (zi := (0 + 0)) (zv := (0 + (1 * t + 0))) k2 rfl rfl (by omega) (by omega) (hp_Kc (zi := (0 + (1 * b + 0))) (zv := (0 + (1 * x + 0))) k3 rfl rfl (by omega) (by omega) (hp_Kc (zi := (0 + 0)) (zv := (7 + 0)) k4 rfl rfl (by omega) (by omega) hp_Kn))))) (hp_La l0 hp_Ln) trivial ?_ ?_
  · intro p hp ys l' st' h' hys a1 a2 a3 gZ gL gS
    rcases List.mem_cons.mp hp with rfl | hp
    · obtain rfl := hp_y0 hys
      obtain ⟨y0, t0, rfl, q0, g0⟩ := hp_gSi (z := (2 + 0)) gS rfl
      obtain ⟨t1, rfl, g1⟩ := hp_gSa g0 (by decide)
      cases hp_gSn g1
      exact e0 l' h' y0 (by omega) a1 a2 a3 (hp_gLa gL (List.mem_of_getElem? (i := 0) rfl) (by decide))
    cases hp
  · intro p hp ys v h' hys a1 a2 a3 gZ gS
    cases hp
theorem nuB8_k : hq_chk [80] 105 0 4 [(0, 0, 1199), (1, 0, 1200), (2, 0, 9999), (3, (-9223372036854775808), 9223372036854775807)] [((-1), [(0, (-1)), (1, 1)])] [(0, .inr (.inr (.inl (some 40))))] [] [(6155, (0, []), (2, [])), (6154, (0, []), (0, [(0, 1)])), (261, (0, []), (0, [(1, 1)])), (1280, (0, [(0, 1)]), (0, [(2, 1)])), (6159, (0, []), (8, [])), (6160, (0, []), (0, [(3, 1)]))] [] 3 [(88, ([], 4, [(0, 0, 1199), (1, 0, 1200), (2, 0, 9999), (3, (-9223372036854775808), 9223372036854775807)], [], [(0, .inr (.inr (.inl (some 40))))], [.inl (0, [(2, 1)]), .inr (.inl (0, [(3, 1)])), .inl (8, []), .inr (.inr (.inl (some 30)))], []))] [] = true := by decide +kernel
theorem nuB8 {cst : am_K} {strs : List Nat} {Φ : am_Q → Prop} {D : Nat} {M : am_M} {h : am_H} {l : am_L} (c : hp_C cst strs D) (hM : m_P[105]? = some M) (hD : (3 : Int) ≤ (D : Int) + 1) (hy : ly_hy m_tt ly_TH h) (b t x d : Int) (b0 : 0 ≤ b) (t0 : b ≤ 1199) (b1 : 0 ≤ t) (t1 : t ≤ 1200) (b2 : 0 ≤ x) (t2 : x ≤ 9999) (b3 : (-9223372036854775808) ≤ d) (t3 : d ≤ 9223372036854775807) (f0 : 0 ≤ (t - b - 1)) (k0 : ly_hv cst h 6155 0 = some 2) (k1 : ly_hv cst h 6154 0 = some (b)) (k2 : ly_hv cst h 261 0 = some (t)) (k3 : ly_hv cst h 1280 (b) = some (x)) (k4 : ly_hv cst h 6159 0 = some 8) (k5 : ly_hv cst h 6160 0 = some (d)) (l0 : hp_a l 0 40) (e0 : ∀ (l' : am_L) (h' : am_H) (y0 : Int32) (y1 : Int64) (y2 : Int32), y0.toInt = (x) → y1.toInt = (d) → y2.toInt = 8 → ly_hy m_tt ly_TH h' → ly_fr cst [] h h' → h.length ≤ h'.length → hp_a l' 0 40 → hp_F cst strs Φ D M 88 l' [.int y0, .long y1, .int y2, .ref 30] h') : hp_F cst strs Φ D M 0 l [] h := by
  refine hq_arc c hM nuB8_k hD [b, t, x, d] rfl hy (hp_Bc (z := b) rfl b0 t0 (hp_Bc (z := t) rfl b1 t1 (hp_Bc (z := x) rfl b2 t2 (hp_Bc (z := d) rfl b3 t3 hp_Bn)))) (hp_Fc (z := ((-1) + ((-1) * b + (1 * t + 0)))) rfl (by omega) hp_Fn) (hp_Kc (zi := (0 + 0)) (zv := (2 + 0)) k0 rfl rfl (by omega) (by omega) (hp_Kc (zi := (0 + 0)) (zv := (0 + (1 * b + 0))) k1 rfl rfl (by omega) (by omega) (hp_Kc (zi := (0 + 0)) (zv := (0 + (1 * t + 0))) k2 rfl rfl (by omega) (by omega) (hp_Kc (zi := (0 + (1 * b + 0))) (zv := (0 + (1 * x + 0))) k3 rfl rfl (by omega) (by omega) (hp_Kc (zi := (0 + 0)) (zv := (8 + 0)) k4 rfl rfl (by omega) (by omega) (hp_Kc (zi := (0 + 0)) (zv := (0 + (1 * d + 0))) k5 rfl rfl (by omega) (by omega) hp_Kn)))))) (hp_La l0 hp_Ln) trivial ?_ ?_
  · intro p hp ys l' st' h' hys a1 a2 a3 gZ gL gS
    rcases List.mem_cons.mp hp with rfl | hp
    · obtain rfl := hp_y0 hys
      obtain ⟨y0, t0, rfl, q0, g0⟩ := hp_gSi (z := (0 + (1 * x + 0))) gS rfl
      obtain ⟨y1, t1, rfl, q1, g1⟩ := hp_gSj (z := (0 + (1 * d + 0))) g0 rfl
      obtain ⟨y2, t2, rfl, q2, g2⟩ := hp_gSi (z := (8 + 0)) g1 rfl
      obtain ⟨t3, rfl, g3⟩ := hp_gSa g2 (by decide)
      cases hp_gSn g3
      exact e0 l' h' y0 y1 y2 (by omega) (by omega) (by omega) a1 a2 a3 (hp_gLa gL (List.mem_of_getElem? (i := 0) rfl) (by decide))
    cases hp
  · intro p hp ys v h' hys a1 a2 a3 gZ gS
    cases hp
theorem nuB9_k : hq_chk [80] 105 0 4 [(0, 0, 1199), (1, 0, 1200), (2, 0, 4), (3, (-9223372036854775808), 9223372036854775807)] [((-1), [(0, (-1)), (1, 1)])] [(0, .inr (.inr (.inl (some 40))))] [] [(6155, (0, []), (2, [])), (6154, (0, []), (0, [(0, 1)])), (261, (0, []), (0, [(1, 1)])), (1280, (0, [(0, 1)]), (0, [(2, 1)])), (6159, (0, []), (9, [])), (6160, (0, []), (0, [(3, 1)]))] [] 3 [(88, ([], 4, [(0, 0, 1199), (1, 0, 1200), (2, 0, 4), (3, (-9223372036854775808), 9223372036854775807)], [], [(0, .inr (.inr (.inl (some 40))))], [.inl (0, [(2, 1)]), .inr (.inl (0, [(3, 1)])), .inl (9, []), .inr (.inr (.inl (some 30)))], []))] [] = true := by decide +kernel
theorem nuB9 {cst : am_K} {strs : List Nat} {Φ : am_Q → Prop} {D : Nat} {M : am_M} {h : am_H} {l : am_L} (c : hp_C cst strs D) (hM : m_P[105]? = some M) (hD : (3 : Int) ≤ (D : Int) + 1) (hy : ly_hy m_tt ly_TH h) (b t x d : Int) (b0 : 0 ≤ b) (t0 : b ≤ 1199) (b1 : 0 ≤ t) (t1 : t ≤ 1200) (b2 : 0 ≤ x) (t2 : x ≤ 4) (b3 : (-9223372036854775808) ≤ d) (t3 : d ≤ 9223372036854775807) (f0 : 0 ≤ (t - b - 1)) (k0 : ly_hv cst h 6155 0 = some 2) (k1 : ly_hv cst h 6154 0 = some (b)) (k2 : ly_hv cst h 261 0 = some (t)) (k3 : ly_hv cst h 1280 (b) = some (x)) (k4 : ly_hv cst h 6159 0 = some 9) (k5 : ly_hv cst h 6160 0 = some (d)) (l0 : hp_a l 0 40) (e0 : ∀ (l' : am_L) (h' : am_H) (y0 : Int32) (y1 : Int64) (y2 : Int32), y0.toInt = (x) → y1.toInt = (d) → y2.toInt = 9 → ly_hy m_tt ly_TH h' → ly_fr cst [] h h' → h.length ≤ h'.length → hp_a l' 0 40 → hp_F cst strs Φ D M 88 l' [.int y0, .long y1, .int y2, .ref 30] h') : hp_F cst strs Φ D M 0 l [] h := by
  refine hq_arc c hM nuB9_k hD [b, t, x, d] rfl hy (hp_Bc (z := b) rfl b0 t0 (hp_Bc (z := t) rfl b1 t1 (hp_Bc (z := x) rfl b2 t2 (hp_Bc (z := d) rfl b3 t3 hp_Bn)))) (hp_Fc (z := ((-1) + ((-1) * b + (1 * t + 0)))) rfl (by omega) hp_Fn) (hp_Kc (zi := (0 + 0)) (zv := (2 + 0)) k0 rfl rfl (by omega) (by omega) (hp_Kc (zi := (0 + 0)) (zv := (0 + (1 * b + 0))) k1 rfl rfl (by omega) (by omega) (hp_Kc (zi := (0 + 0)) (zv := (0 + (1 * t + 0))) k2 rfl rfl (by omega) (by omega) (hp_Kc (zi := (0 + (1 * b + 0))) (zv := (0 + (1 * x + 0))) k3 rfl rfl (by omega) (by omega) (hp_Kc (zi := (0 + 0)) (zv := (9 + 0)) k4 rfl rfl (by omega) (by omega) (hp_Kc (zi := (0 + 0)) (zv := (0 + (1 * d + 0))) k5 rfl rfl (by omega) (by omega) hp_Kn)))))) (hp_La l0 hp_Ln) trivial ?_ ?_
  · intro p hp ys l' st' h' hys a1 a2 a3 gZ gL gS
    rcases List.mem_cons.mp hp with rfl | hp
    · obtain rfl := hp_y0 hys
      obtain ⟨y0, t0, rfl, q0, g0⟩ := hp_gSi (z := (0 + (1 * x + 0))) gS rfl
      obtain ⟨y1, t1, rfl, q1, g1⟩ := hp_gSj (z := (0 + (1 * d + 0))) g0 rfl
      obtain ⟨y2, t2, rfl, q2, g2⟩ := hp_gSi (z := (9 + 0)) g1 rfl
      obtain ⟨t3, rfl, g3⟩ := hp_gSa g2 (by decide)
      cases hp_gSn g3
      exact e0 l' h' y0 y1 y2 (by omega) (by omega) (by omega) a1 a2 a3 (hp_gLa gL (List.mem_of_getElem? (i := 0) rfl) (by decide))
    cases hp
  · intro p hp ys v h' hys a1 a2 a3 gZ gS
    cases hp
theorem nuD9_k : hq_chk [80] 105 0 3 [(0, 0, 1199), (1, 0, 1200), (2, 5, 9999)] [((-1), [(0, (-1)), (1, 1)])] [(0, .inr (.inr (.inl (some 40))))] [] [(6155, (0, []), (2, [])), (6154, (0, []), (0, [(0, 1)])), (261, (0, []), (0, [(1, 1)])), (1280, (0, [(0, 1)]), (0, [(2, 1)])), (6159, (0, []), (9, []))] [] 3 [(71, ([], 3, [(0, 0, 1199), (1, 0, 1200), (2, 5, 9999)], [], [(0, .inr (.inr (.inl (some 40))))], [.inl (2, []), .inr (.inr (.inl (some 40)))], []))] [] = true := by decide +kernel
theorem nuD9 {cst : am_K} {strs : List Nat} {Φ : am_Q → Prop} {D : Nat} {M : am_M} {h : am_H} {l : am_L} (c : hp_C cst strs D) (hM : m_P[105]? = some M) (hD : (3 : Int) ≤ (D : Int) + 1) (hy : ly_hy m_tt ly_TH h) (b t x : Int) (b0 : 0 ≤ b) (t0 : b ≤ 1199) (b1 : 0 ≤ t) (t1 : t ≤ 1200) (b2 : 5 ≤ x) (t2 : x ≤ 9999) (f0 : 0 ≤ (t - b - 1)) (k0 : ly_hv cst h 6155 0 = some 2) (k1 : ly_hv cst h 6154 0 = some (b)) (k2 : ly_hv cst h 261 0 = some (t)) (k3 : ly_hv cst h 1280 (b) = some (x)) (k4 : ly_hv cst h 6159 0 = some 9) (l0 : hp_a l 0 40) (e0 : ∀ (l' : am_L) (h' : am_H) (y0 : Int32), y0.toInt = 2 → ly_hy m_tt ly_TH h' → ly_fr cst [] h h' → h.length ≤ h'.length → hp_a l' 0 40 → hp_F cst strs Φ D M 71 l' [.int y0, .ref 40] h') : hp_F cst strs Φ D M 0 l [] h := by
  refine hq_arc c hM nuD9_k hD [b, t, x] rfl hy (hp_Bc (z := b) rfl b0 t0 (hp_Bc (z := t) rfl b1 t1 (hp_Bc (z := x) rfl b2 t2 hp_Bn))) (hp_Fc (z := ((-1) + ((-1) * b + (1 * t + 0)))) rfl (by omega) hp_Fn) (hp_Kc (zi := (0 + 0)) (zv := (2 + 0)) k0 rfl rfl (by omega) (by omega) (hp_Kc (zi := (0 + 0)) (zv := (0 + (1 * b + 0))) k1 rfl rfl (by omega) (by omega) (hp_Kc (zi := (0 + 0)) (zv := (0 + (1 * t + 0))) k2 rfl rfl (by omega) (by omega) (hp_Kc (zi := (0 + (1 * b + 0))) (zv := (0 + (1 * x + 0))) k3 rfl rfl (by omega) (by omega) (hp_Kc (zi := (0 + 0)) (zv := (9 + 0)) k4 rfl rfl (by omega) (by omega) hp_Kn))))) (hp_La l0 hp_Ln) trivial ?_ ?_
  · intro p hp ys l' st' h' hys a1 a2 a3 gZ gL gS
    rcases List.mem_cons.mp hp with rfl | hp
    · obtain rfl := hp_y0 hys
      obtain ⟨y0, t0, rfl, q0, g0⟩ := hp_gSi (z := (2 + 0)) gS rfl
      obtain ⟨t1, rfl, g1⟩ := hp_gSa g0 (by decide)
      cases hp_gSn g1
      exact e0 l' h' y0 (by omega) a1 a2 a3 (hp_gLa gL (List.mem_of_getElem? (i := 0) rfl) (by decide))
    cases hp
  · intro p hp ys v h' hys a1 a2 a3 gZ gS
    cases hp
theorem nuB10_k : hq_chk [80] 105 0 4 [(0, 0, 1199), (1, 0, 1200), (2, 0, 12), (3, (-9223372036854775808), 9223372036854775807)] [((-1), [(0, (-1)), (1, 1)])] [(0, .inr (.inr (.inl (some 40))))] [] [(6155, (0, []), (2, [])), (6154, (0, []), (0, [(0, 1)])), (261, (0, []), (0, [(1, 1)])), (1280, (0, [(0, 1)]), (0, [(2, 1)])), (6159, (0, []), (10, [])), (6160, (0, []), (0, [(3, 1)]))] [] 3 [(88, ([], 4, [(0, 0, 1199), (1, 0, 1200), (2, 0, 12), (3, (-9223372036854775808), 9223372036854775807)], [], [(0, .inr (.inr (.inl (some 40))))], [.inl (0, [(2, 1)]), .inr (.inl (0, [(3, 1)])), .inl (10, []), .inr (.inr (.inl (some 30)))], []))] [] = true := by decide +kernel
theorem nuB10 {cst : am_K} {strs : List Nat} {Φ : am_Q → Prop} {D : Nat} {M : am_M} {h : am_H} {l : am_L} (c : hp_C cst strs D) (hM : m_P[105]? = some M) (hD : (3 : Int) ≤ (D : Int) + 1) (hy : ly_hy m_tt ly_TH h) (b t x d : Int) (b0 : 0 ≤ b) (t0 : b ≤ 1199) (b1 : 0 ≤ t) (t1 : t ≤ 1200) (b2 : 0 ≤ x) (t2 : x ≤ 12) (b3 : (-9223372036854775808) ≤ d) (t3 : d ≤ 9223372036854775807) (f0 : 0 ≤ (t - b - 1)) (k0 : ly_hv cst h 6155 0 = some 2) (k1 : ly_hv cst h 6154 0 = some (b)) (k2 : ly_hv cst h 261 0 = some (t)) (k3 : ly_hv cst h 1280 (b) = some (x)) (k4 : ly_hv cst h 6159 0 = some 10) (k5 : ly_hv cst h 6160 0 = some (d)) (l0 : hp_a l 0 40) (e0 : ∀ (l' : am_L) (h' : am_H) (y0 : Int32) (y1 : Int64) (y2 : Int32), y0.toInt = (x) → y1.toInt = (d) → y2.toInt = 10 → ly_hy m_tt ly_TH h' → ly_fr cst [] h h' → h.length ≤ h'.length → hp_a l' 0 40 → hp_F cst strs Φ D M 88 l' [.int y0, .long y1, .int y2, .ref 30] h') : hp_F cst strs Φ D M 0 l [] h := by
  refine hq_arc c hM nuB10_k hD [b, t, x, d] rfl hy (hp_Bc (z := b) rfl b0 t0 (hp_Bc (z := t) rfl b1 t1 (hp_Bc (z := x) rfl b2 t2 (hp_Bc (z := d) rfl b3 t3 hp_Bn)))) (hp_Fc (z := ((-1) + ((-1) * b + (1 * t + 0)))) rfl (by omega) hp_Fn) (hp_Kc (zi := (0 + 0)) (zv := (2 + 0)) k0 rfl rfl (by omega) (by omega) (hp_Kc (zi := (0 + 0)) (zv := (0 + (1 * b + 0))) k1 rfl rfl (by omega) (by omega) (hp_Kc (zi := (0 + 0)) (zv := (0 + (1 * t + 0))) k2 rfl rfl (by omega) (by omega) (hp_Kc (zi := (0 + (1 * b + 0))) (zv := (0 + (1 * x + 0))) k3 rfl rfl (by omega) (by omega) (hp_Kc (zi := (0 + 0)) (zv := (10 + 0)) k4 rfl rfl (by omega) (by omega) (hp_Kc (zi := (0 + 0)) (zv := (0 + (1 * d + 0))) k5 rfl rfl (by omega) (by omega) hp_Kn)))))) (hp_La l0 hp_Ln) trivial ?_ ?_
  · intro p hp ys l' st' h' hys a1 a2 a3 gZ gL gS
    rcases List.mem_cons.mp hp with rfl | hp
    · obtain rfl := hp_y0 hys
      obtain ⟨y0, t0, rfl, q0, g0⟩ := hp_gSi (z := (0 + (1 * x + 0))) gS rfl
      obtain ⟨y1, t1, rfl, q1, g1⟩ := hp_gSj (z := (0 + (1 * d + 0))) g0 rfl
      obtain ⟨y2, t2, rfl, q2, g2⟩ := hp_gSi (z := (10 + 0)) g1 rfl
      obtain ⟨t3, rfl, g3⟩ := hp_gSa g2 (by decide)
      cases hp_gSn g3
      exact e0 l' h' y0 y1 y2 (by omega) (by omega) (by omega) a1 a2 a3 (hp_gLa gL (List.mem_of_getElem? (i := 0) rfl) (by decide))
    cases hp
  · intro p hp ys v h' hys a1 a2 a3 gZ gS
    cases hp
theorem nuD10_k : hq_chk [80] 105 0 3 [(0, 0, 1199), (1, 0, 1200), (2, 13, 9999)] [((-1), [(0, (-1)), (1, 1)])] [(0, .inr (.inr (.inl (some 40))))] [] [(6155, (0, []), (2, [])), (6154, (0, []), (0, [(0, 1)])), (261, (0, []), (0, [(1, 1)])), (1280, (0, [(0, 1)]), (0, [(2, 1)])), (6159, (0, []), (10, []))] [] 3 [(71, ([], 3, [(0, 0, 1199), (1, 0, 1200), (2, 13, 9999)], [], [(0, .inr (.inr (.inl (some 40))))], [.inl (2, []), .inr (.inr (.inl (some 40)))], []))] [] = true := by decide +kernel
theorem nuD10 {cst : am_K} {strs : List Nat} {Φ : am_Q → Prop} {D : Nat} {M : am_M} {h : am_H} {l : am_L} (c : hp_C cst strs D) (hM : m_P[105]? = some M) (hD : (3 : Int) ≤ (D : Int) + 1) (hy : ly_hy m_tt ly_TH h) (b t x : Int) (b0 : 0 ≤ b) (t0 : b ≤ 1199) (b1 : 0 ≤ t) (t1 : t ≤ 1200) (b2 : 13 ≤ x) (t2 : x ≤ 9999) (f0 : 0 ≤ (t - b - 1)) (k0 : ly_hv cst h 6155 0 = some 2) (k1 : ly_hv cst h 6154 0 = some (b)) (k2 : ly_hv cst h 261 0 = some (t)) (k3 : ly_hv cst h 1280 (b) = some (x)) (k4 : ly_hv cst h 6159 0 = some 10) (l0 : hp_a l 0 40) (e0 : ∀ (l' : am_L) (h' : am_H) (y0 : Int32), y0.toInt = 2 → ly_hy m_tt ly_TH h' → ly_fr cst [] h h' → h.length ≤ h'.length → hp_a l' 0 40 → hp_F cst strs Φ D M 71 l' [.int y0, .ref 40] h') : hp_F cst strs Φ D M 0 l [] h := by
  refine hq_arc c hM nuD10_k hD [b, t, x] rfl hy (hp_Bc (z := b) rfl b0 t0 (hp_Bc (z := t) rfl b1 t1 (hp_Bc (z := x) rfl b2 t2 hp_Bn))) (hp_Fc (z := ((-1) + ((-1) * b + (1 * t + 0)))) rfl (by omega) hp_Fn) (hp_Kc (zi := (0 + 0)) (zv := (2 + 0)) k0 rfl rfl (by omega) (by omega) (hp_Kc (zi := (0 + 0)) (zv := (0 + (1 * b + 0))) k1 rfl rfl (by omega) (by omega) (hp_Kc (zi := (0 + 0)) (zv := (0 + (1 * t + 0))) k2 rfl rfl (by omega) (by omega) (hp_Kc (zi := (0 + (1 * b + 0))) (zv := (0 + (1 * x + 0))) k3 rfl rfl (by omega) (by omega) (hp_Kc (zi := (0 + 0)) (zv := (10 + 0)) k4 rfl rfl (by omega) (by omega) hp_Kn))))) (hp_La l0 hp_Ln) trivial ?_ ?_
  · intro p hp ys l' st' h' hys a1 a2 a3 gZ gL gS
    rcases List.mem_cons.mp hp with rfl | hp
    · obtain rfl := hp_y0 hys
      obtain ⟨y0, t0, rfl, q0, g0⟩ := hp_gSi (z := (2 + 0)) gS rfl
      obtain ⟨t1, rfl, g1⟩ := hp_gSa g0 (by decide)
      cases hp_gSn g1
      exact e0 l' h' y0 (by omega) a1 a2 a3 (hp_gLa gL (List.mem_of_getElem? (i := 0) rfl) (by decide))
    cases hp
  · intro p hp ys v h' hys a1 a2 a3 gZ gS
    cases hp
theorem nuB11_k : hq_chk [80] 105 0 4 [(0, 0, 1199), (1, 0, 1200), (2, 0, 12), (3, (-9223372036854775808), 9223372036854775807)] [((-1), [(0, (-1)), (1, 1)])] [(0, .inr (.inr (.inl (some 40))))] [] [(6155, (0, []), (2, [])), (6154, (0, []), (0, [(0, 1)])), (261, (0, []), (0, [(1, 1)])), (1280, (0, [(0, 1)]), (0, [(2, 1)])), (6159, (0, []), (11, [])), (6160, (0, []), (0, [(3, 1)]))] [] 3 [(88, ([], 4, [(0, 0, 1199), (1, 0, 1200), (2, 0, 12), (3, (-9223372036854775808), 9223372036854775807)], [], [(0, .inr (.inr (.inl (some 40))))], [.inl (0, [(2, 1)]), .inr (.inl (0, [(3, 1)])), .inl (11, []), .inr (.inr (.inl (some 30)))], []))] [] = true := by decide +kernel
theorem nuB11 {cst : am_K} {strs : List Nat} {Φ : am_Q → Prop} {D : Nat} {M : am_M} {h : am_H} {l : am_L} (c : hp_C cst strs D) (hM : m_P[105]? = some M) (hD : (3 : Int) ≤ (D : Int) + 1) (hy : ly_hy m_tt ly_TH h) (b t x d : Int) (b0 : 0 ≤ b) (t0 : b ≤ 1199) (b1 : 0 ≤ t) (t1 : t ≤ 1200) (b2 : 0 ≤ x) (t2 : x ≤ 12) (b3 : (-9223372036854775808) ≤ d) (t3 : d ≤ 9223372036854775807) (f0 : 0 ≤ (t - b - 1)) (k0 : ly_hv cst h 6155 0 = some 2) (k1 : ly_hv cst h 6154 0 = some (b)) (k2 : ly_hv cst h 261 0 = some (t)) (k3 : ly_hv cst h 1280 (b) = some (x)) (k4 : ly_hv cst h 6159 0 = some 11) (k5 : ly_hv cst h 6160 0 = some (d)) (l0 : hp_a l 0 40) (e0 : ∀ (l' : am_L) (h' : am_H) (y0 : Int32) (y1 : Int64) (y2 : Int32), y0.toInt = (x) → y1.toInt = (d) → y2.toInt = 11 → ly_hy m_tt ly_TH h' → ly_fr cst [] h h' → h.length ≤ h'.length → hp_a l' 0 40 → hp_F cst strs Φ D M 88 l' [.int y0, .long y1, .int y2, .ref 30] h') : hp_F cst strs Φ D M 0 l [] h := by
  refine hq_arc c hM nuB11_k hD [b, t, x, d] rfl hy (hp_Bc (z := b) rfl b0 t0 (hp_Bc (z := t) rfl b1 t1 (hp_Bc (z := x) rfl b2 t2 (hp_Bc (z := d) rfl b3 t3 hp_Bn)))) (hp_Fc (z := ((-1) + ((-1) * b + (1 * t + 0)))) rfl (by omega) hp_Fn) (hp_Kc (zi := (0 + 0)) (zv := (2 + 0)) k0 rfl rfl (by omega) (by omega) (hp_Kc (zi := (0 + 0)) (zv := (0 + (1 * b + 0))) k1 rfl rfl (by omega) (by omega) (hp_Kc (zi := (0 + 0)) (zv := (0 + (1 * t + 0))) k2 rfl rfl (by omega) (by omega) (hp_Kc (zi := (0 + (1 * b + 0))) (zv := (0 + (1 * x + 0))) k3 rfl rfl (by omega) (by omega) (hp_Kc (zi := (0 + 0)) (zv := (11 + 0)) k4 rfl rfl (by omega) (by omega) (hp_Kc (zi := (0 + 0)) (zv := (0 + (1 * d + 0))) k5 rfl rfl (by omega) (by omega) hp_Kn)))))) (hp_La l0 hp_Ln) trivial ?_ ?_
  · intro p hp ys l' st' h' hys a1 a2 a3 gZ gL gS
    rcases List.mem_cons.mp hp with rfl | hp
    · obtain rfl := hp_y0 hys
      obtain ⟨y0, t0, rfl, q0, g0⟩ := hp_gSi (z := (0 + (1 * x + 0))) gS rfl
      obtain ⟨y1, t1, rfl, q1, g1⟩ := hp_gSj (z := (0 + (1 * d + 0))) g0 rfl
      obtain ⟨y2, t2, rfl, q2, g2⟩ := hp_gSi (z := (11 + 0)) g1 rfl
      obtain ⟨t3, rfl, g3⟩ := hp_gSa g2 (by decide)
      cases hp_gSn g3
      exact e0 l' h' y0 y1 y2 (by omega) (by omega) (by omega) a1 a2 a3 (hp_gLa gL (List.mem_of_getElem? (i := 0) rfl) (by decide))
    cases hp
  · intro p hp ys v h' hys a1 a2 a3 gZ gS
    cases hp
theorem nuD11_k : hq_chk [80] 105 0 3 [(0, 0, 1199), (1, 0, 1200), (2, 13, 9999)] [((-1), [(0, (-1)), (1, 1)])] [(0, .inr (.inr (.inl (some 40))))] [] [(6155, (0, []), (2, [])), (6154, (0, []), (0, [(0, 1)])), (261, (0, []), (0, [(1, 1)])), (1280, (0, [(0, 1)]), (0, [(2, 1)])), (6159, (0, []), (11, []))] [] 3 [(71, ([], 3, [(0, 0, 1199), (1, 0, 1200), (2, 13, 9999)], [], [(0, .inr (.inr (.inl (some 40))))], [.inl (2, []), .inr (.inr (.inl (some 40)))], []))] [] = true := by decide +kernel
theorem nuD11 {cst : am_K} {strs : List Nat} {Φ : am_Q → Prop} {D : Nat} {M : am_M} {h : am_H} {l : am_L} (c : hp_C cst strs D) (hM : m_P[105]? = some M) (hD : (3 : Int) ≤ (D : Int) + 1) (hy : ly_hy m_tt ly_TH h) (b t x : Int) (b0 : 0 ≤ b) (t0 : b ≤ 1199) (b1 : 0 ≤ t) (t1 : t ≤ 1200) (b2 : 13 ≤ x) (t2 : x ≤ 9999) (f0 : 0 ≤ (t - b - 1)) (k0 : ly_hv cst h 6155 0 = some 2) (k1 : ly_hv cst h 6154 0 = some (b)) (k2 : ly_hv cst h 261 0 = some (t)) (k3 : ly_hv cst h 1280 (b) = some (x)) (k4 : ly_hv cst h 6159 0 = some 11) (l0 : hp_a l 0 40) (e0 : ∀ (l' : am_L) (h' : am_H) (y0 : Int32), y0.toInt = 2 → ly_hy m_tt ly_TH h' → ly_fr cst [] h h' → h.length ≤ h'.length → hp_a l' 0 40 → hp_F cst strs Φ D M 71 l' [.int y0, .ref 40] h') : hp_F cst strs Φ D M 0 l [] h := by
  refine hq_arc c hM nuD11_k hD [b, t, x] rfl hy (hp_Bc (z := b) rfl b0 t0 (hp_Bc (z := t) rfl b1 t1 (hp_Bc (z := x) rfl b2 t2 hp_Bn))) (hp_Fc (z := ((-1) + ((-1) * b + (1 * t + 0)))) rfl (by omega) hp_Fn) (hp_Kc (zi := (0 + 0)) (zv := (2 + 0)) k0 rfl rfl (by omega) (by omega) (hp_Kc (zi := (0 + 0)) (zv := (0 + (1 * b + 0))) k1 rfl rfl (by omega) (by omega) (hp_Kc (zi := (0 + 0)) (zv := (0 + (1 * t + 0))) k2 rfl rfl (by omega) (by omega) (hp_Kc (zi := (0 + (1 * b + 0))) (zv := (0 + (1 * x + 0))) k3 rfl rfl (by omega) (by omega) (hp_Kc (zi := (0 + 0)) (zv := (11 + 0)) k4 rfl rfl (by omega) (by omega) hp_Kn))))) (hp_La l0 hp_Ln) trivial ?_ ?_
  · intro p hp ys l' st' h' hys a1 a2 a3 gZ gL gS
    rcases List.mem_cons.mp hp with rfl | hp
    · obtain rfl := hp_y0 hys
      obtain ⟨y0, t0, rfl, q0, g0⟩ := hp_gSi (z := (2 + 0)) gS rfl
      obtain ⟨t1, rfl, g1⟩ := hp_gSa g0 (by decide)
      cases hp_gSn g1
      exact e0 l' h' y0 (by omega) a1 a2 a3 (hp_gLa gL (List.mem_of_getElem? (i := 0) rfl) (by decide))
    cases hp
  · intro p hp ys v h' hys a1 a2 a3 gZ gS
    cases hp
theorem nuB12_k : hq_chk [80] 105 0 4 [(0, 0, 1199), (1, 0, 1200), (2, 0, 23), (3, (-9223372036854775808), 9223372036854775807)] [((-1), [(0, (-1)), (1, 1)])] [(0, .inr (.inr (.inl (some 40))))] [] [(6155, (0, []), (2, [])), (6154, (0, []), (0, [(0, 1)])), (261, (0, []), (0, [(1, 1)])), (1280, (0, [(0, 1)]), (0, [(2, 1)])), (6159, (0, []), (12, [])), (6160, (0, []), (0, [(3, 1)]))] [] 3 [(88, ([], 4, [(0, 0, 1199), (1, 0, 1200), (2, 0, 23), (3, (-9223372036854775808), 9223372036854775807)], [], [(0, .inr (.inr (.inl (some 40))))], [.inl (0, [(2, 1)]), .inr (.inl (0, [(3, 1)])), .inl (12, []), .inr (.inr (.inl (some 30)))], []))] [] = true := by decide +kernel
theorem nuB12 {cst : am_K} {strs : List Nat} {Φ : am_Q → Prop} {D : Nat} {M : am_M} {h : am_H} {l : am_L} (c : hp_C cst strs D) (hM : m_P[105]? = some M) (hD : (3 : Int) ≤ (D : Int) + 1) (hy : ly_hy m_tt ly_TH h) (b t x d : Int) (b0 : 0 ≤ b) (t0 : b ≤ 1199) (b1 : 0 ≤ t) (t1 : t ≤ 1200) (b2 : 0 ≤ x) (t2 : x ≤ 23) (b3 : (-9223372036854775808) ≤ d) (t3 : d ≤ 9223372036854775807) (f0 : 0 ≤ (t - b - 1)) (k0 : ly_hv cst h 6155 0 = some 2) (k1 : ly_hv cst h 6154 0 = some (b)) (k2 : ly_hv cst h 261 0 = some (t)) (k3 : ly_hv cst h 1280 (b) = some (x)) (k4 : ly_hv cst h 6159 0 = some 12) (k5 : ly_hv cst h 6160 0 = some (d)) (l0 : hp_a l 0 40) (e0 : ∀ (l' : am_L) (h' : am_H) (y0 : Int32) (y1 : Int64) (y2 : Int32), y0.toInt = (x) → y1.toInt = (d) → y2.toInt = 12 → ly_hy m_tt ly_TH h' → ly_fr cst [] h h' → h.length ≤ h'.length → hp_a l' 0 40 → hp_F cst strs Φ D M 88 l' [.int y0, .long y1, .int y2, .ref 30] h') : hp_F cst strs Φ D M 0 l [] h := by
  refine hq_arc c hM nuB12_k hD [b, t, x, d] rfl hy (hp_Bc (z := b) rfl b0 t0 (hp_Bc (z := t) rfl b1 t1 (hp_Bc (z := x) rfl b2 t2 (hp_Bc (z := d) rfl b3 t3 hp_Bn)))) (hp_Fc (z := ((-1) + ((-1) * b + (1 * t + 0)))) rfl (by omega) hp_Fn) (hp_Kc (zi := (0 + 0)) (zv := (2 + 0)) k0 rfl rfl (by omega) (by omega) (hp_Kc (zi := (0 + 0)) (zv := (0 + (1 * b + 0))) k1 rfl rfl (by omega) (by omega) (hp_Kc (zi := (0 + 0)) (zv := (0 + (1 * t + 0))) k2 rfl rfl (by omega) (by omega) (hp_Kc (zi := (0 + (1 * b + 0))) (zv := (0 + (1 * x + 0))) k3 rfl rfl (by omega) (by omega) (hp_Kc (zi := (0 + 0)) (zv := (12 + 0)) k4 rfl rfl (by omega) (by omega) (hp_Kc (zi := (0 + 0)) (zv := (0 + (1 * d + 0))) k5 rfl rfl (by omega) (by omega) hp_Kn)))))) (hp_La l0 hp_Ln) trivial ?_ ?_
  · intro p hp ys l' st' h' hys a1 a2 a3 gZ gL gS
    rcases List.mem_cons.mp hp with rfl | hp
    · obtain rfl := hp_y0 hys
      obtain ⟨y0, t0, rfl, q0, g0⟩ := hp_gSi (z := (0 + (1 * x + 0))) gS rfl
      obtain ⟨y1, t1, rfl, q1, g1⟩ := hp_gSj (z := (0 + (1 * d + 0))) g0 rfl
      obtain ⟨y2, t2, rfl, q2, g2⟩ := hp_gSi (z := (12 + 0)) g1 rfl
      obtain ⟨t3, rfl, g3⟩ := hp_gSa g2 (by decide)
      cases hp_gSn g3
      exact e0 l' h' y0 y1 y2 (by omega) (by omega) (by omega) a1 a2 a3 (hp_gLa gL (List.mem_of_getElem? (i := 0) rfl) (by decide))
    cases hp
  · intro p hp ys v h' hys a1 a2 a3 gZ gS
    cases hp
theorem nuD12_k : hq_chk [80] 105 0 3 [(0, 0, 1199), (1, 0, 1200), (2, 24, 9999)] [((-1), [(0, (-1)), (1, 1)])] [(0, .inr (.inr (.inl (some 40))))] [] [(6155, (0, []), (2, [])), (6154, (0, []), (0, [(0, 1)])), (261, (0, []), (0, [(1, 1)])), (1280, (0, [(0, 1)]), (0, [(2, 1)])), (6159, (0, []), (12, []))] [] 3 [(71, ([], 3, [(0, 0, 1199), (1, 0, 1200), (2, 24, 9999)], [], [(0, .inr (.inr (.inl (some 40))))], [.inl (2, []), .inr (.inr (.inl (some 40)))], []))] [] = true := by decide +kernel
theorem nuD12 {cst : am_K} {strs : List Nat} {Φ : am_Q → Prop} {D : Nat} {M : am_M} {h : am_H} {l : am_L} (c : hp_C cst strs D) (hM : m_P[105]? = some M) (hD : (3 : Int) ≤ (D : Int) + 1) (hy : ly_hy m_tt ly_TH h) (b t x : Int) (b0 : 0 ≤ b) (t0 : b ≤ 1199) (b1 : 0 ≤ t) (t1 : t ≤ 1200) (b2 : 24 ≤ x) (t2 : x ≤ 9999) (f0 : 0 ≤ (t - b - 1)) (k0 : ly_hv cst h 6155 0 = some 2) (k1 : ly_hv cst h 6154 0 = some (b)) (k2 : ly_hv cst h 261 0 = some (t)) (k3 : ly_hv cst h 1280 (b) = some (x)) (k4 : ly_hv cst h 6159 0 = some 12) (l0 : hp_a l 0 40) (e0 : ∀ (l' : am_L) (h' : am_H) (y0 : Int32), y0.toInt = 2 → ly_hy m_tt ly_TH h' → ly_fr cst [] h h' → h.length ≤ h'.length → hp_a l' 0 40 → hp_F cst strs Φ D M 71 l' [.int y0, .ref 40] h') : hp_F cst strs Φ D M 0 l [] h := by
  refine hq_arc c hM nuD12_k hD [b, t, x] rfl hy (hp_Bc (z := b) rfl b0 t0 (hp_Bc (z := t) rfl b1 t1 (hp_Bc (z := x) rfl b2 t2 hp_Bn))) (hp_Fc (z := ((-1) + ((-1) * b + (1 * t + 0)))) rfl (by omega) hp_Fn) (hp_Kc (zi := (0 + 0)) (zv := (2 + 0)) k0 rfl rfl (by omega) (by omega) (hp_Kc (zi := (0 + 0)) (zv := (0 + (1 * b + 0))) k1 rfl rfl (by omega) (by omega) (hp_Kc (zi := (0 + 0)) (zv := (0 + (1 * t + 0))) k2 rfl rfl (by omega) (by omega) (hp_Kc (zi := (0 + (1 * b + 0))) (zv := (0 + (1 * x + 0))) k3 rfl rfl (by omega) (by omega) (hp_Kc (zi := (0 + 0)) (zv := (12 + 0)) k4 rfl rfl (by omega) (by omega) hp_Kn))))) (hp_La l0 hp_Ln) trivial ?_ ?_
  · intro p hp ys l' st' h' hys a1 a2 a3 gZ gL gS
    rcases List.mem_cons.mp hp with rfl | hp
    · obtain rfl := hp_y0 hys
      obtain ⟨y0, t0, rfl, q0, g0⟩ := hp_gSi (z := (2 + 0)) gS rfl
      obtain ⟨t1, rfl, g1⟩ := hp_gSa g0 (by decide)
      cases hp_gSn g1
      exact e0 l' h' y0 (by omega) a1 a2 a3 (hp_gLa gL (List.mem_of_getElem? (i := 0) rfl) (by decide))
    cases hp
  · intro p hp ys v h' hys a1 a2 a3 gZ gS
    cases hp
theorem nuE_k : hp_chk 105 91 1 [(0, 0, 1199)] [] [(0, .inr (.inr (.inl (some 40))))] [] [(6154, (0, []), (0, [(0, 1)]))] [] 2 [(98, ([], 1, [(0, 0, 1199)], [], [(0, .inr (.inr (.inl (some 40))))], [.inl (1, [(0, 1)]), .inr (.inr (.inl (some 40)))], []))] [] = true := by decide +kernel
theorem nuE {cst : am_K} {strs : List Nat} {Φ : am_Q → Prop} {D : Nat} {M : am_M} {h : am_H} {l : am_L} (c : hp_C cst strs D) (hM : m_P[105]? = some M) (hD : (2 : Int) ≤ (D : Int) + 1) (hy : ly_hy m_tt ly_TH h) (b : Int) (b0 : 0 ≤ b) (t0 : b ≤ 1199) (k0 : ly_hv cst h 6154 0 = some (b)) (l0 : hp_a l 0 40) (e0 : ∀ (l' : am_L) (h' : am_H) (y0 : Int32), y0.toInt = (b + 1) → ly_hy m_tt ly_TH h' → ly_fr cst [] h h' → h.length ≤ h'.length → hp_a l' 0 40 → hp_F cst strs Φ D M 98 l' [.int y0, .ref 40] h') : hp_F cst strs Φ D M 91 l [] h := by
  refine hp_arc c hM nuE_k hD [b] rfl hy (hp_Bc (z := b) rfl b0 t0 hp_Bn) hp_Fn (hp_Kc (zi := (0 + 0)) (zv := (0 + (1 * b + 0))) k0 rfl rfl (by omega) (by omega) hp_Kn) (hp_La l0 hp_Ln) trivial ?_ ?_
  · intro p hp ys l' st' h' hys a1 a2 a3 gZ gL gS
    rcases List.mem_cons.mp hp with rfl | hp
    · obtain rfl := hp_y0 hys
      obtain ⟨y0, t0, rfl, q0, g0⟩ := hp_gSi (z := (1 + (1 * b + 0))) gS rfl
      obtain ⟨t1, rfl, g1⟩ := hp_gSa g0 (by decide)
      cases hp_gSn g1
      exact e0 l' h' y0 (by omega) a1 a2 a3 (hp_gLa gL (List.mem_of_getElem? (i := 0) rfl) (by decide))
    cases hp
  · intro p hp ys v h' hys a1 a2 a3 gZ gS
    cases hp
theorem nuF_k : hp_chk 105 101 0 [] [] [(0, .inr (.inr (.inl (some 40))))] [] [] [] 2 [] [([], 0, [], [], [], [.inl (1, [])], [])] = true := by decide +kernel
theorem nuF {cst : am_K} {strs : List Nat} {Φ : am_Q → Prop} {D : Nat} {M : am_M} {h : am_H} {l : am_L} (c : hp_C cst strs D) (hM : m_P[105]? = some M) (hD : (2 : Int) ≤ (D : Int) + 1) (hy : ly_hy m_tt ly_TH h) (l0 : hp_a l 0 40) (r0 : ∀ (h' : am_H) (y0 : Int32), y0.toInt = 1 → ly_hy m_tt ly_TH h' → ly_fr cst [] h h' → h.length ≤ h'.length → Φ (some (.int y0), h', 0, 0)) : hp_F cst strs Φ D M 101 l [] h := by
  refine hp_arc c hM nuF_k hD [] rfl hy hp_Bn hp_Fn hp_Kn (hp_La l0 hp_Ln) trivial ?_ ?_
  · intro p hp ys l' st' h' hys a1 a2 a3 gZ gL gS
    cases hp
  · intro p hp ys v h' hys a1 a2 a3 gZ gS
    rcases List.mem_cons.mp hp with rfl | hp
    · obtain rfl := hp_y0 hys
      cases v with
      | none => cases gS
      | some w =>
        obtain ⟨y0, t0, s0, q0, -⟩ := hp_gSi (z := (1 + 0)) gS rfl
        cases s0
        exact r0 h' y0 (by omega) a1 a2 a3
    cases hp
theorem fr105_71_k : hp_chk 105 74 0 [] [] [] [.inl (0, [])] [] [] 2 [] [([], 0, [], [], [], [.inl (0, [])], [])] = true := by decide +kernel
theorem fr105_71 {cst : am_K} {strs : List Nat} {Φ : am_Q → Prop} {D : Nat} {M : am_M} {h : am_H} {l : am_L} (c : hp_C cst strs D) (hM : m_P[105]? = some M) (hD : (2 : Int) ≤ (D : Int) + 1) (hy : ly_hy m_tt ly_TH h) (x0 : Int32) (hx0 : x0.toInt = 0) (r0 : ∀ (h' : am_H) (y0 : Int32), y0.toInt = 0 → ly_hy m_tt ly_TH h' → ly_fr cst [] h h' → h.length ≤ h'.length → Φ (some (.int y0), h', 0, 0)) : hp_F cst strs Φ D M 74 l [.int x0] h := by
  refine hp_arc c hM fr105_71_k hD [] rfl hy hp_Bn hp_Fn hp_Kn hp_Ln (hp_Si (z := (0 + 0)) rfl (by omega) trivial) ?_ ?_
  · intro p hp ys l' st' h' hys a1 a2 a3 gZ gL gS
    cases hp
  · intro p hp ys v h' hys a1 a2 a3 gZ gS
    rcases List.mem_cons.mp hp with rfl | hp
    · obtain rfl := hp_y0 hys
      cases v with
      | none => cases gS
      | some w =>
        obtain ⟨y0, t0, s0, q0, -⟩ := hp_gSi (z := (0 + 0)) gS rfl
        cases s0
        exact r0 h' y0 (by omega) a1 a2 a3
    cases hp
theorem stB_k : hq_chk [80] 104 0 4 [(0, 0, 1199), (1, 0, 1200), (2, 0, 9999), (3, 0, 30)] [((-1), [(0, (-1)), (1, 1)]), (0, [(2, 1), (3, (-1))])] [(0, .inr (.inr (.inl (some 40))))] [] [(6155, (0, []), (2, [])), (6154, (0, []), (0, [(0, 1)])), (261, (0, []), (0, [(1, 1)])), (1280, (0, [(0, 1)]), (0, [(2, 1)])), (3584, (0, []), (0, [(3, 1)]))] [] 3 [(40, ([], 4, [(0, 0, 1199), (1, 0, 1200), (2, 0, 9999), (3, 0, 30)], [], [(0, .inr (.inr (.inl (some 40))))], [.inl (2, []), .inr (.inr (.inl (some 40)))], []))] [] = true := by decide +kernel
theorem stB {cst : am_K} {strs : List Nat} {Φ : am_Q → Prop} {D : Nat} {M : am_M} {h : am_H} {l : am_L} (c : hp_C cst strs D) (hM : m_P[104]? = some M) (hD : (3 : Int) ≤ (D : Int) + 1) (hy : ly_hy m_tt ly_TH h) (b t x ac : Int) (b0 : 0 ≤ b) (t0 : b ≤ 1199) (b1 : 0 ≤ t) (t1 : t ≤ 1200) (b2 : 0 ≤ x) (t2 : x ≤ 9999) (b3 : 0 ≤ ac) (t3 : ac ≤ 30) (f0 : 0 ≤ (t - b - 1)) (f1 : 0 ≤ (x - ac)) (k0 : ly_hv cst h 6155 0 = some 2) (k1 : ly_hv cst h 6154 0 = some (b)) (k2 : ly_hv cst h 261 0 = some (t)) (k3 : ly_hv cst h 1280 (b) = some (x)) (k4 : ly_hv cst h 3584 0 = some (ac)) (l0 : hp_a l 0 40) (e0 : ∀ (l' : am_L) (h' : am_H) (y0 : Int32), y0.toInt = 2 → ly_hy m_tt ly_TH h' → ly_fr cst [] h h' → h.length ≤ h'.length → hp_a l' 0 40 → hp_F cst strs Φ D M 40 l' [.int y0, .ref 40] h') : hp_F cst strs Φ D M 0 l [] h := by
  refine hq_arc c hM stB_k hD [b, t, x, ac] rfl hy (hp_Bc (z := b) rfl b0 t0 (hp_Bc (z := t) rfl b1 t1 (hp_Bc (z := x) rfl b2 t2 (hp_Bc (z := ac) rfl b3 t3 hp_Bn)))) (hp_Fc (z := ((-1) + ((-1) * b + (1 * t + 0)))) rfl (by omega) (hp_Fc (z := (0 + (1 * x + ((-1) * ac + 0)))) rfl (by omega) hp_Fn)) (hp_Kc (zi := (0 + 0)) (zv := (2 + 0)) k0 rfl rfl (by omega) (by omega) (hp_Kc (zi := (0 + 0)) (zv := (0 + (1 * b + 0))) k1 rfl rfl (by omega) (by omega) (hp_Kc (zi := (0 + 0)) (zv := (0 + (1 * t + 0))) k2 rfl rfl (by omega) (by omega) (hp_Kc (zi := (0 + (1 * b + 0))) (zv := (0 + (1 * x + 0))) k3 rfl rfl (by omega) (by omega) (hp_Kc (zi := (0 + 0)) (zv := (0 + (1 * ac + 0))) k4 rfl rfl (by omega) (by omega) hp_Kn))))) (hp_La l0 hp_Ln) trivial ?_ ?_
  · intro p hp ys l' st' h' hys a1 a2 a3 gZ gL gS
    rcases List.mem_cons.mp hp with rfl | hp
    · obtain rfl := hp_y0 hys
      obtain ⟨y0, t0, rfl, q0, g0⟩ := hp_gSi (z := (2 + 0)) gS rfl
      obtain ⟨t1, rfl, g1⟩ := hp_gSa g0 (by decide)
      cases hp_gSn g1
      exact e0 l' h' y0 (by omega) a1 a2 a3 (hp_gLa gL (List.mem_of_getElem? (i := 0) rfl) (by decide))
    cases hp
  · intro p hp ys v h' hys a1 a2 a3 gZ gS
    cases hp
theorem stC_k : hq_chk [80] 104 0 4 [(0, 0, 1199), (1, 0, 1200), (2, 0, 9999), (3, 0, 30)] [((-1), [(0, (-1)), (1, 1)]), ((-1), [(2, (-1)), (3, 1)])] [(0, .inr (.inr (.inl (some 40))))] [] [(6155, (0, []), (2, [])), (6154, (0, []), (0, [(0, 1)])), (261, (0, []), (0, [(1, 1)])), (1280, (0, [(0, 1)]), (0, [(2, 1)])), (3584, (0, []), (0, [(3, 1)]))] [] 3 [(51, ([], 4, [(0, 0, 1199), (1, 0, 1200), (2, 0, 9999), (3, 0, 30)], [], [(0, .inr (.inr (.inl (some 40)))), (1, .inl (0, [(2, 1)]))], [.inl (1, [(0, 1)]), .inr (.inr (.inl (some 40)))], []))] [] = true := by decide +kernel
theorem stC {cst : am_K} {strs : List Nat} {Φ : am_Q → Prop} {D : Nat} {M : am_M} {h : am_H} {l : am_L} (c : hp_C cst strs D) (hM : m_P[104]? = some M) (hD : (3 : Int) ≤ (D : Int) + 1) (hy : ly_hy m_tt ly_TH h) (b t x ac : Int) (b0 : 0 ≤ b) (t0 : b ≤ 1199) (b1 : 0 ≤ t) (t1 : t ≤ 1200) (b2 : 0 ≤ x) (t2 : x ≤ 9999) (b3 : 0 ≤ ac) (t3 : ac ≤ 30) (f0 : 0 ≤ (t - b - 1)) (f1 : 0 ≤ (ac - x - 1)) (k0 : ly_hv cst h 6155 0 = some 2) (k1 : ly_hv cst h 6154 0 = some (b)) (k2 : ly_hv cst h 261 0 = some (t)) (k3 : ly_hv cst h 1280 (b) = some (x)) (k4 : ly_hv cst h 3584 0 = some (ac)) (l0 : hp_a l 0 40) (e0 : ∀ (l' : am_L) (h' : am_H) (y0 : Int32), y0.toInt = (b + 1) → ly_hy m_tt ly_TH h' → ly_fr cst [] h h' → h.length ≤ h'.length → hp_a l' 0 40 → hp_i l' 1 (x) → hp_F cst strs Φ D M 51 l' [.int y0, .ref 40] h') : hp_F cst strs Φ D M 0 l [] h := by
  refine hq_arc c hM stC_k hD [b, t, x, ac] rfl hy (hp_Bc (z := b) rfl b0 t0 (hp_Bc (z := t) rfl b1 t1 (hp_Bc (z := x) rfl b2 t2 (hp_Bc (z := ac) rfl b3 t3 hp_Bn)))) (hp_Fc (z := ((-1) + ((-1) * b + (1 * t + 0)))) rfl (by omega) (hp_Fc (z := ((-1) + ((-1) * x + (1 * ac + 0)))) rfl (by omega) hp_Fn)) (hp_Kc (zi := (0 + 0)) (zv := (2 + 0)) k0 rfl rfl (by omega) (by omega) (hp_Kc (zi := (0 + 0)) (zv := (0 + (1 * b + 0))) k1 rfl rfl (by omega) (by omega) (hp_Kc (zi := (0 + 0)) (zv := (0 + (1 * t + 0))) k2 rfl rfl (by omega) (by omega) (hp_Kc (zi := (0 + (1 * b + 0))) (zv := (0 + (1 * x + 0))) k3 rfl rfl (by omega) (by omega) (hp_Kc (zi := (0 + 0)) (zv := (0 + (1 * ac + 0))) k4 rfl rfl (by omega) (by omega) hp_Kn))))) (hp_La l0 hp_Ln) trivial ?_ ?_
  · intro p hp ys l' st' h' hys a1 a2 a3 gZ gL gS
    rcases List.mem_cons.mp hp with rfl | hp
    · obtain rfl := hp_y0 hys
      obtain ⟨y0, t0, rfl, q0, g0⟩ := hp_gSi (z := (1 + (1 * b + 0))) gS rfl
      obtain ⟨t1, rfl, g1⟩ := hp_gSa g0 (by decide)
      cases hp_gSn g1
      exact e0 l' h' y0 (by omega) a1 a2 a3 (hp_gLa gL (List.mem_of_getElem? (i := 0) rfl) (by decide)) (hp_gLi (z := (0 + (1 * x + 0))) gL (List.mem_of_getElem? (i := 1) rfl) rfl (by omega))
    cases hp
  · intro p hp ys v h' hys a1 a2 a3 gZ gS
    cases hp
theorem stD_k : hp_chk 104 54 2 [(0, 0, 9999), (1, (-9223372036854775808), 9223372036854775807)] [] [(0, .inr (.inr (.inl (some 40)))), (1, .inl (0, [(0, 1)]))] [] [(6156, (0, []), (0, [(1, 1)]))] [] 2 [(65, ([], 2, [(0, 0, 9999), (1, (-9223372036854775808), 9223372036854775807)], [], [(0, .inr (.inr (.inl (some 40)))), (1, .inl (0, [(0, 1)]))], [.inl (0, [(0, 1)]), .inr (.inl (0, [(1, 1)])), .inl (14, []), .inr (.inr (.inl (some 30)))], []))] [] = true := by decide +kernel
theorem stD {cst : am_K} {strs : List Nat} {Φ : am_Q → Prop} {D : Nat} {M : am_M} {h : am_H} {l : am_L} (c : hp_C cst strs D) (hM : m_P[104]? = some M) (hD : (2 : Int) ≤ (D : Int) + 1) (hy : ly_hy m_tt ly_TH h) (x d : Int) (b0 : 0 ≤ x) (t0 : x ≤ 9999) (b1 : (-9223372036854775808) ≤ d) (t1 : d ≤ 9223372036854775807) (k0 : ly_hv cst h 6156 0 = some (d)) (l0 : hp_a l 0 40) (l1 : hp_i l 1 (x)) (e0 : ∀ (l' : am_L) (h' : am_H) (y0 : Int32) (y1 : Int64) (y2 : Int32), y0.toInt = (x) → y1.toInt = (d) → y2.toInt = 14 → ly_hy m_tt ly_TH h' → ly_fr cst [] h h' → h.length ≤ h'.length → hp_a l' 0 40 → hp_i l' 1 (x) → hp_F cst strs Φ D M 65 l' [.int y0, .long y1, .int y2, .ref 30] h') : hp_F cst strs Φ D M 54 l [] h := by
  refine hp_arc c hM stD_k hD [x, d] rfl hy (hp_Bc (z := x) rfl b0 t0 (hp_Bc (z := d) rfl b1 t1 hp_Bn)) hp_Fn (hp_Kc (zi := (0 + 0)) (zv := (0 + (1 * d + 0))) k0 rfl rfl (by omega) (by omega) hp_Kn) (hp_La l0 (hp_Li (z := (0 + (1 * x + 0))) l1 rfl (by omega) hp_Ln)) trivial ?_ ?_
  · intro p hp ys l' st' h' hys a1 a2 a3 gZ gL gS
    rcases List.mem_cons.mp hp with rfl | hp
    · obtain rfl := hp_y0 hys
      obtain ⟨y0, t0, rfl, q0, g0⟩ := hp_gSi (z := (0 + (1 * x + 0))) gS rfl
      obtain ⟨y1, t1, rfl, q1, g1⟩ := hp_gSj (z := (0 + (1 * d + 0))) g0 rfl
      obtain ⟨y2, t2, rfl, q2, g2⟩ := hp_gSi (z := (14 + 0)) g1 rfl
      obtain ⟨t3, rfl, g3⟩ := hp_gSa g2 (by decide)
      cases hp_gSn g3
      exact e0 l' h' y0 y1 y2 (by omega) (by omega) (by omega) a1 a2 a3 (hp_gLa gL (List.mem_of_getElem? (i := 0) rfl) (by decide)) (hp_gLi (z := (0 + (1 * x + 0))) gL (List.mem_of_getElem? (i := 1) rfl) rfl (by omega))
    cases hp
  · intro p hp ys v h' hys a1 a2 a3 gZ gS
    cases hp
theorem stE_k : hp_chk 104 68 2 [(0, 0, 9999), (1, 0, 1199)] [] [(0, .inr (.inr (.inl (some 40)))), (1, .inl (0, [(0, 1)]))] [] [(6155, (0, []), (1, [])), (6154, (0, []), (0, [(1, 1)]))] [] 2 [(83, ([], 2, [(0, 0, 9999), (1, 0, 1199)], [], [(0, .inr (.inr (.inl (some 40)))), (1, .inl (0, [(0, 1)]))], [.inl (1, [(1, 1)]), .inr (.inr (.inl (some 40)))], []))] [] = true := by decide +kernel
theorem stE {cst : am_K} {strs : List Nat} {Φ : am_Q → Prop} {D : Nat} {M : am_M} {h : am_H} {l : am_L} (c : hp_C cst strs D) (hM : m_P[104]? = some M) (hD : (2 : Int) ≤ (D : Int) + 1) (hy : ly_hy m_tt ly_TH h) (x b : Int) (b0 : 0 ≤ x) (t0 : x ≤ 9999) (b1 : 0 ≤ b) (t1 : b ≤ 1199) (k0 : ly_hv cst h 6155 0 = some 1) (k1 : ly_hv cst h 6154 0 = some (b)) (l0 : hp_a l 0 40) (l1 : hp_i l 1 (x)) (e0 : ∀ (l' : am_L) (h' : am_H) (y0 : Int32), y0.toInt = (b + 1) → ly_hy m_tt ly_TH h' → ly_fr cst [] h h' → h.length ≤ h'.length → hp_a l' 0 40 → hp_i l' 1 (x) → hp_F cst strs Φ D M 83 l' [.int y0, .ref 40] h') : hp_F cst strs Φ D M 68 l [] h := by
  refine hp_arc c hM stE_k hD [x, b] rfl hy (hp_Bc (z := x) rfl b0 t0 (hp_Bc (z := b) rfl b1 t1 hp_Bn)) hp_Fn (hp_Kc (zi := (0 + 0)) (zv := (1 + 0)) k0 rfl rfl (by omega) (by omega) (hp_Kc (zi := (0 + 0)) (zv := (0 + (1 * b + 0))) k1 rfl rfl (by omega) (by omega) hp_Kn)) (hp_La l0 (hp_Li (z := (0 + (1 * x + 0))) l1 rfl (by omega) hp_Ln)) trivial ?_ ?_
  · intro p hp ys l' st' h' hys a1 a2 a3 gZ gL gS
    rcases List.mem_cons.mp hp with rfl | hp
    · obtain rfl := hp_y0 hys
      obtain ⟨y0, t0, rfl, q0, g0⟩ := hp_gSi (z := (1 + (1 * b + 0))) gS rfl
      obtain ⟨t1, rfl, g1⟩ := hp_gSa g0 (by decide)
      cases hp_gSn g1
      exact e0 l' h' y0 (by omega) a1 a2 a3 (hp_gLa gL (List.mem_of_getElem? (i := 0) rfl) (by decide)) (hp_gLi (z := (0 + (1 * x + 0))) gL (List.mem_of_getElem? (i := 1) rfl) rfl (by omega))
    cases hp
  · intro p hp ys v h' hys a1 a2 a3 gZ gS
    cases hp
theorem stF0_k : hp_chk 104 68 2 [(0, 0, 9999), (1, 0, 0)] [] [(0, .inr (.inr (.inl (some 40)))), (1, .inl (0, [(0, 1)]))] [] [(6155, (0, []), (0, [(1, 1)]))] [] 2 [] [([], 2, [(0, 0, 9999), (1, 0, 0)], [], [], [.inl (1, [])], [])] = true := by decide +kernel
theorem stF0 {cst : am_K} {strs : List Nat} {Φ : am_Q → Prop} {D : Nat} {M : am_M} {h : am_H} {l : am_L} (c : hp_C cst strs D) (hM : m_P[104]? = some M) (hD : (2 : Int) ≤ (D : Int) + 1) (hy : ly_hy m_tt ly_TH h) (x q : Int) (b0 : 0 ≤ x) (t0 : x ≤ 9999) (b1 : 0 ≤ q) (t1 : q ≤ 0) (k0 : ly_hv cst h 6155 0 = some (q)) (l0 : hp_a l 0 40) (l1 : hp_i l 1 (x)) (r0 : ∀ (h' : am_H) (y0 : Int32), y0.toInt = 1 → ly_hy m_tt ly_TH h' → ly_fr cst [] h h' → h.length ≤ h'.length → Φ (some (.int y0), h', 0, 0)) : hp_F cst strs Φ D M 68 l [] h := by
  refine hp_arc c hM stF0_k hD [x, q] rfl hy (hp_Bc (z := x) rfl b0 t0 (hp_Bc (z := q) rfl b1 t1 hp_Bn)) hp_Fn (hp_Kc (zi := (0 + 0)) (zv := (0 + (1 * q + 0))) k0 rfl rfl (by omega) (by omega) hp_Kn) (hp_La l0 (hp_Li (z := (0 + (1 * x + 0))) l1 rfl (by omega) hp_Ln)) trivial ?_ ?_
  · intro p hp ys l' st' h' hys a1 a2 a3 gZ gL gS
    cases hp
  · intro p hp ys v h' hys a1 a2 a3 gZ gS
    rcases List.mem_cons.mp hp with rfl | hp
    · obtain rfl := hp_y0 hys
      cases v with
      | none => cases gS
      | some w =>
        obtain ⟨y0, t0, s0, q0, -⟩ := hp_gSi (z := (1 + 0)) gS rfl
        cases s0
        exact r0 h' y0 (by omega) a1 a2 a3
    cases hp
theorem stF1_k : hp_chk 104 68 2 [(0, 0, 9999), (1, 2, 255)] [] [(0, .inr (.inr (.inl (some 40)))), (1, .inl (0, [(0, 1)]))] [] [(6155, (0, []), (0, [(1, 1)]))] [] 2 [] [([], 2, [(0, 0, 9999), (1, 2, 255)], [], [], [.inl (1, [])], [])] = true := by decide +kernel
theorem stF1 {cst : am_K} {strs : List Nat} {Φ : am_Q → Prop} {D : Nat} {M : am_M} {h : am_H} {l : am_L} (c : hp_C cst strs D) (hM : m_P[104]? = some M) (hD : (2 : Int) ≤ (D : Int) + 1) (hy : ly_hy m_tt ly_TH h) (x q : Int) (b0 : 0 ≤ x) (t0 : x ≤ 9999) (b1 : 2 ≤ q) (t1 : q ≤ 255) (k0 : ly_hv cst h 6155 0 = some (q)) (l0 : hp_a l 0 40) (l1 : hp_i l 1 (x)) (r0 : ∀ (h' : am_H) (y0 : Int32), y0.toInt = 1 → ly_hy m_tt ly_TH h' → ly_fr cst [] h h' → h.length ≤ h'.length → Φ (some (.int y0), h', 0, 0)) : hp_F cst strs Φ D M 68 l [] h := by
  refine hp_arc c hM stF1_k hD [x, q] rfl hy (hp_Bc (z := x) rfl b0 t0 (hp_Bc (z := q) rfl b1 t1 hp_Bn)) hp_Fn (hp_Kc (zi := (0 + 0)) (zv := (0 + (1 * q + 0))) k0 rfl rfl (by omega) (by omega) hp_Kn) (hp_La l0 (hp_Li (z := (0 + (1 * x + 0))) l1 rfl (by omega) hp_Ln)) trivial ?_ ?_
  · intro p hp ys l' st' h' hys a1 a2 a3 gZ gL gS
    cases hp
  · intro p hp ys v h' hys a1 a2 a3 gZ gS
    rcases List.mem_cons.mp hp with rfl | hp
    · obtain rfl := hp_y0 hys
      cases v with
      | none => cases gS
      | some w =>
        obtain ⟨y0, t0, s0, q0, -⟩ := hp_gSi (z := (1 + 0)) gS rfl
        cases s0
        exact r0 h' y0 (by omega) a1 a2 a3
    cases hp
theorem stG_k : hp_chk 104 86 1 [(0, 0, 9999)] [] [(0, .inr (.inr (.inl (some 40)))), (1, .inl (0, [(0, 1)]))] [] [] [] 2 [] [([], 1, [(0, 0, 9999)], [], [], [.inl (1, [])], [])] = true := by decide +kernel
theorem stG {cst : am_K} {strs : List Nat} {Φ : am_Q → Prop} {D : Nat} {M : am_M} {h : am_H} {l : am_L} (c : hp_C cst strs D) (hM : m_P[104]? = some M) (hD : (2 : Int) ≤ (D : Int) + 1) (hy : ly_hy m_tt ly_TH h) (x : Int) (b0 : 0 ≤ x) (t0 : x ≤ 9999) (l0 : hp_a l 0 40) (l1 : hp_i l 1 (x)) (r0 : ∀ (h' : am_H) (y0 : Int32), y0.toInt = 1 → ly_hy m_tt ly_TH h' → ly_fr cst [] h h' → h.length ≤ h'.length → Φ (some (.int y0), h', 0, 0)) : hp_F cst strs Φ D M 86 l [] h := by
  refine hp_arc c hM stG_k hD [x] rfl hy (hp_Bc (z := x) rfl b0 t0 hp_Bn) hp_Fn hp_Kn (hp_La l0 (hp_Li (z := (0 + (1 * x + 0))) l1 rfl (by omega) hp_Ln)) trivial ?_ ?_
  · intro p hp ys l' st' h' hys a1 a2 a3 gZ gL gS
    cases hp
  · intro p hp ys v h' hys a1 a2 a3 gZ gS
    rcases List.mem_cons.mp hp with rfl | hp
    · obtain rfl := hp_y0 hys
      cases v with
      | none => cases gS
      | some w =>
        obtain ⟨y0, t0, s0, q0, -⟩ := hp_gSi (z := (1 + 0)) gS rfl
        cases s0
        exact r0 h' y0 (by omega) a1 a2 a3
    cases hp
theorem fr104_40_k : hp_chk 104 43 0 [] [] [] [.inl (0, [])] [] [] 2 [] [([], 0, [], [], [], [.inl (0, [])], [])] = true := by decide +kernel
theorem fr104_40 {cst : am_K} {strs : List Nat} {Φ : am_Q → Prop} {D : Nat} {M : am_M} {h : am_H} {l : am_L} (c : hp_C cst strs D) (hM : m_P[104]? = some M) (hD : (2 : Int) ≤ (D : Int) + 1) (hy : ly_hy m_tt ly_TH h) (x0 : Int32) (hx0 : x0.toInt = 0) (r0 : ∀ (h' : am_H) (y0 : Int32), y0.toInt = 0 → ly_hy m_tt ly_TH h' → ly_fr cst [] h h' → h.length ≤ h'.length → Φ (some (.int y0), h', 0, 0)) : hp_F cst strs Φ D M 43 l [.int x0] h := by
  refine hp_arc c hM fr104_40_k hD [] rfl hy hp_Bn hp_Fn hp_Kn hp_Ln (hp_Si (z := (0 + 0)) rfl (by omega) trivial) ?_ ?_
  · intro p hp ys l' st' h' hys a1 a2 a3 gZ gL gS
    cases hp
  · intro p hp ys v h' hys a1 a2 a3 gZ gS
    rcases List.mem_cons.mp hp with rfl | hp
    · obtain rfl := hp_y0 hys
      cases v with
      | none => cases gS
      | some w =>
        obtain ⟨y0, t0, s0, q0, -⟩ := hp_gSi (z := (0 + 0)) gS rfl
        cases s0
        exact r0 h' y0 (by omega) a1 a2 a3
    cases hp
theorem wr0_k : hp_chk 103 0 0 [] [] [(0, .inr (.inr (.inl (some 40))))] [] [] [] 2 [(2, ([], 0, [], [], [(0, .inr (.inr (.inl (some 40)))), (1, .inl (0, []))], [], []))] [] = true := by decide +kernel
theorem wr0 {cst : am_K} {strs : List Nat} {Φ : am_Q → Prop} {D : Nat} {M : am_M} {h : am_H} {l : am_L} (c : hp_C cst strs D) (hM : m_P[103]? = some M) (hD : (2 : Int) ≤ (D : Int) + 1) (hy : ly_hy m_tt ly_TH h) (l0 : hp_a l 0 40) (e0 : ∀ (l' : am_L) (h' : am_H), ly_hy m_tt ly_TH h' → ly_fr cst [] h h' → h.length ≤ h'.length → hp_a l' 0 40 → hp_i l' 1 0 → hp_F cst strs Φ D M 2 l' [] h') : hp_F cst strs Φ D M 0 l [] h := by
  refine hp_arc c hM wr0_k hD [] rfl hy hp_Bn hp_Fn hp_Kn (hp_La l0 hp_Ln) trivial ?_ ?_
  · intro p hp ys l' st' h' hys a1 a2 a3 gZ gL gS
    rcases List.mem_cons.mp hp with rfl | hp
    · obtain rfl := hp_y0 hys
      cases hp_gSn gS
      exact e0 l' h' a1 a2 a3 (hp_gLa gL (List.mem_of_getElem? (i := 0) rfl) (by decide)) (hp_gLi (z := (0 + 0)) gL (List.mem_of_getElem? (i := 1) rfl) rfl (by omega))
    cases hp
  · intro p hp ys v h' hys a1 a2 a3 gZ gS
    cases hp
theorem wrA_k : hp_chk 103 2 2 [(0, 0, 7), (1, 1, 1152921504606846976)] [] [(0, .inr (.inr (.inl (some 40)))), (1, .inl (0, [(0, 1)]))] [] [(6155, (0, []), (1, [])), (6156, (0, []), (0, [(1, 1)]))] [] 2 [(24, ([], 2, [(0, 0, 7), (1, 1, 1152921504606846976)], [], [(0, .inr (.inr (.inl (some 40)))), (1, .inl (0, [(0, 1)]))], [.inr (.inl (0, [(1, 1)])), .inr (.inr (.inl (some 30)))], []))] [] = true := by decide +kernel
theorem wrA {cst : am_K} {strs : List Nat} {Φ : am_Q → Prop} {D : Nat} {M : am_M} {h : am_H} {l : am_L} (c : hp_C cst strs D) (hM : m_P[103]? = some M) (hD : (2 : Int) ≤ (D : Int) + 1) (hy : ly_hy m_tt ly_TH h) (m v : Int) (b0 : 0 ≤ m) (t0 : m ≤ 7) (b1 : 1 ≤ v) (t1 : v ≤ 1152921504606846976) (k0 : ly_hv cst h 6155 0 = some 1) (k1 : ly_hv cst h 6156 0 = some (v)) (l0 : hp_a l 0 40) (l1 : hp_i l 1 (m)) (e0 : ∀ (l' : am_L) (h' : am_H) (y0 : Int64), y0.toInt = (v) → ly_hy m_tt ly_TH h' → ly_fr cst [] h h' → h.length ≤ h'.length → hp_a l' 0 40 → hp_i l' 1 (m) → hp_F cst strs Φ D M 24 l' [.long y0, .ref 30] h') : hp_F cst strs Φ D M 2 l [] h := by
  refine hp_arc c hM wrA_k hD [m, v] rfl hy (hp_Bc (z := m) rfl b0 t0 (hp_Bc (z := v) rfl b1 t1 hp_Bn)) hp_Fn (hp_Kc (zi := (0 + 0)) (zv := (1 + 0)) k0 rfl rfl (by omega) (by omega) (hp_Kc (zi := (0 + 0)) (zv := (0 + (1 * v + 0))) k1 rfl rfl (by omega) (by omega) hp_Kn)) (hp_La l0 (hp_Li (z := (0 + (1 * m + 0))) l1 rfl (by omega) hp_Ln)) trivial ?_ ?_
  · intro p hp ys l' st' h' hys a1 a2 a3 gZ gL gS
    rcases List.mem_cons.mp hp with rfl | hp
    · obtain rfl := hp_y0 hys
      obtain ⟨y0, t0, rfl, q0, g0⟩ := hp_gSj (z := (0 + (1 * v + 0))) gS rfl
      obtain ⟨t1, rfl, g1⟩ := hp_gSa g0 (by decide)
      cases hp_gSn g1
      exact e0 l' h' y0 (by omega) a1 a2 a3 (hp_gLa gL (List.mem_of_getElem? (i := 0) rfl) (by decide)) (hp_gLi (z := (0 + (1 * m + 0))) gL (List.mem_of_getElem? (i := 1) rfl) rfl (by omega))
    cases hp
  · intro p hp ys v h' hys a1 a2 a3 gZ gS
    cases hp
theorem wrB_k : hp_chk 103 27 2 [(0, 0, 7), (1, 0, 1199)] [] [(0, .inr (.inr (.inl (some 40)))), (1, .inl (0, [(0, 1)]))] [] [(6154, (0, []), (0, [(1, 1)]))] [] 2 [(34, ([], 2, [(0, 0, 7), (1, 0, 1199)], [], [(0, .inr (.inr (.inl (some 40)))), (1, .inl (0, [(0, 1)]))], [.inl (1, [(1, 1)]), .inr (.inr (.inl (some 40)))], []))] [] = true := by decide +kernel
theorem wrB {cst : am_K} {strs : List Nat} {Φ : am_Q → Prop} {D : Nat} {M : am_M} {h : am_H} {l : am_L} (c : hp_C cst strs D) (hM : m_P[103]? = some M) (hD : (2 : Int) ≤ (D : Int) + 1) (hy : ly_hy m_tt ly_TH h) (m b : Int) (b0 : 0 ≤ m) (t0 : m ≤ 7) (b1 : 0 ≤ b) (t1 : b ≤ 1199) (k0 : ly_hv cst h 6154 0 = some (b)) (l0 : hp_a l 0 40) (l1 : hp_i l 1 (m)) (e0 : ∀ (l' : am_L) (h' : am_H) (y0 : Int32), y0.toInt = (b + 1) → ly_hy m_tt ly_TH h' → ly_fr cst [] h h' → h.length ≤ h'.length → hp_a l' 0 40 → hp_i l' 1 (m) → hp_F cst strs Φ D M 34 l' [.int y0, .ref 40] h') : hp_F cst strs Φ D M 27 l [] h := by
  refine hp_arc c hM wrB_k hD [m, b] rfl hy (hp_Bc (z := m) rfl b0 t0 (hp_Bc (z := b) rfl b1 t1 hp_Bn)) hp_Fn (hp_Kc (zi := (0 + 0)) (zv := (0 + (1 * b + 0))) k0 rfl rfl (by omega) (by omega) hp_Kn) (hp_La l0 (hp_Li (z := (0 + (1 * m + 0))) l1 rfl (by omega) hp_Ln)) trivial ?_ ?_
  · intro p hp ys l' st' h' hys a1 a2 a3 gZ gL gS
    rcases List.mem_cons.mp hp with rfl | hp
    · obtain rfl := hp_y0 hys
      obtain ⟨y0, t0, rfl, q0, g0⟩ := hp_gSi (z := (1 + (1 * b + 0))) gS rfl
      obtain ⟨t1, rfl, g1⟩ := hp_gSa g0 (by decide)
      cases hp_gSn g1
      exact e0 l' h' y0 (by omega) a1 a2 a3 (hp_gLa gL (List.mem_of_getElem? (i := 0) rfl) (by decide)) (hp_gLi (z := (0 + (1 * m + 0))) gL (List.mem_of_getElem? (i := 1) rfl) rfl (by omega))
    cases hp
  · intro p hp ys v h' hys a1 a2 a3 gZ gS
    cases hp
theorem wrC_k : hp_chk 103 37 1 [(0, 0, 7)] [] [(0, .inr (.inr (.inl (some 40)))), (1, .inl (0, [(0, 1)]))] [] [] [] 2 [(2, ([], 1, [(0, 0, 7)], [], [(0, .inr (.inr (.inl (some 40)))), (1, .inl (1, [(0, 1)]))], [], []))] [] = true := by decide +kernel
theorem wrC {cst : am_K} {strs : List Nat} {Φ : am_Q → Prop} {D : Nat} {M : am_M} {h : am_H} {l : am_L} (c : hp_C cst strs D) (hM : m_P[103]? = some M) (hD : (2 : Int) ≤ (D : Int) + 1) (hy : ly_hy m_tt ly_TH h) (m : Int) (b0 : 0 ≤ m) (t0 : m ≤ 7) (l0 : hp_a l 0 40) (l1 : hp_i l 1 (m)) (e0 : ∀ (l' : am_L) (h' : am_H), ly_hy m_tt ly_TH h' → ly_fr cst [] h h' → h.length ≤ h'.length → hp_a l' 0 40 → hp_i l' 1 (m + 1) → hp_F cst strs Φ D M 2 l' [] h') : hp_F cst strs Φ D M 37 l [] h := by
  refine hp_arc c hM wrC_k hD [m] rfl hy (hp_Bc (z := m) rfl b0 t0 hp_Bn) hp_Fn hp_Kn (hp_La l0 (hp_Li (z := (0 + (1 * m + 0))) l1 rfl (by omega) hp_Ln)) trivial ?_ ?_
  · intro p hp ys l' st' h' hys a1 a2 a3 gZ gL gS
    rcases List.mem_cons.mp hp with rfl | hp
    · obtain rfl := hp_y0 hys
      cases hp_gSn gS
      exact e0 l' h' a1 a2 a3 (hp_gLa gL (List.mem_of_getElem? (i := 0) rfl) (by decide)) (hp_gLi (z := (1 + (1 * m + 0))) gL (List.mem_of_getElem? (i := 1) rfl) rfl (by omega))
    cases hp
  · intro p hp ys v h' hys a1 a2 a3 gZ gS
    cases hp
theorem wrD0_k : hp_chk 103 2 1 [(0, 0, 0)] [] [(0, .inr (.inr (.inl (some 40)))), (1, .inl (0, []))] [] [(6155, (0, []), (0, [(0, 1)]))] [] 2 [(49, ([], 1, [(0, 0, 0)], [], [(0, .inr (.inr (.inl (some 40))))], [.inl (1, []), .inr (.inr (.inl (some 40)))], []))] [] = true := by decide +kernel
theorem wrD0 {cst : am_K} {strs : List Nat} {Φ : am_Q → Prop} {D : Nat} {M : am_M} {h : am_H} {l : am_L} (c : hp_C cst strs D) (hM : m_P[103]? = some M) (hD : (2 : Int) ≤ (D : Int) + 1) (hy : ly_hy m_tt ly_TH h) (q : Int) (b0 : 0 ≤ q) (t0 : q ≤ 0) (k0 : ly_hv cst h 6155 0 = some (q)) (l0 : hp_a l 0 40) (l1 : hp_i l 1 0) (e0 : ∀ (l' : am_L) (h' : am_H) (y0 : Int32), y0.toInt = 1 → ly_hy m_tt ly_TH h' → ly_fr cst [] h h' → h.length ≤ h'.length → hp_a l' 0 40 → hp_F cst strs Φ D M 49 l' [.int y0, .ref 40] h') : hp_F cst strs Φ D M 2 l [] h := by
  refine hp_arc c hM wrD0_k hD [q] rfl hy (hp_Bc (z := q) rfl b0 t0 hp_Bn) hp_Fn (hp_Kc (zi := (0 + 0)) (zv := (0 + (1 * q + 0))) k0 rfl rfl (by omega) (by omega) hp_Kn) (hp_La l0 (hp_Li (z := (0 + 0)) l1 rfl (by omega) hp_Ln)) trivial ?_ ?_
  · intro p hp ys l' st' h' hys a1 a2 a3 gZ gL gS
    rcases List.mem_cons.mp hp with rfl | hp
    · obtain rfl := hp_y0 hys
      obtain ⟨y0, t0, rfl, q0, g0⟩ := hp_gSi (z := (1 + 0)) gS rfl
      obtain ⟨t1, rfl, g1⟩ := hp_gSa g0 (by decide)
      cases hp_gSn g1
      exact e0 l' h' y0 (by omega) a1 a2 a3 (hp_gLa gL (List.mem_of_getElem? (i := 0) rfl) (by decide))
    cases hp
  · intro p hp ys v h' hys a1 a2 a3 gZ gS
    cases hp
theorem wrE0_k : hp_chk 103 2 3 [(0, 1, 8), (1, 0, 0), (2, (-9223372036854775808), 9223372036854775807)] [] [(0, .inr (.inr (.inl (some 40)))), (1, .inl (0, [(0, 1)]))] [] [(6155, (0, []), (0, [(1, 1)])), (6160, (0, []), (0, [(2, 1)]))] [] 2 [(77, ([], 3, [(0, 1, 8), (1, 0, 0), (2, (-9223372036854775808), 9223372036854775807)], [], [(0, .inr (.inr (.inl (some 40))))], [.inl (0, [(0, 1)]), .inr (.inl (0, [(2, 1)])), .inl (1, []), .inr (.inr (.inl (some 30)))], []))] [] = true := by decide +kernel
theorem wrE0 {cst : am_K} {strs : List Nat} {Φ : am_Q → Prop} {D : Nat} {M : am_M} {h : am_H} {l : am_L} (c : hp_C cst strs D) (hM : m_P[103]? = some M) (hD : (2 : Int) ≤ (D : Int) + 1) (hy : ly_hy m_tt ly_TH h) (m q d : Int) (b0 : 1 ≤ m) (t0 : m ≤ 8) (b1 : 0 ≤ q) (t1 : q ≤ 0) (b2 : (-9223372036854775808) ≤ d) (t2 : d ≤ 9223372036854775807) (k0 : ly_hv cst h 6155 0 = some (q)) (k1 : ly_hv cst h 6160 0 = some (d)) (l0 : hp_a l 0 40) (l1 : hp_i l 1 (m)) (e0 : ∀ (l' : am_L) (h' : am_H) (y0 : Int32) (y1 : Int64) (y2 : Int32), y0.toInt = (m) → y1.toInt = (d) → y2.toInt = 1 → ly_hy m_tt ly_TH h' → ly_fr cst [] h h' → h.length ≤ h'.length → hp_a l' 0 40 → hp_F cst strs Φ D M 77 l' [.int y0, .long y1, .int y2, .ref 30] h') : hp_F cst strs Φ D M 2 l [] h := by
  refine hp_arc c hM wrE0_k hD [m, q, d] rfl hy (hp_Bc (z := m) rfl b0 t0 (hp_Bc (z := q) rfl b1 t1 (hp_Bc (z := d) rfl b2 t2 hp_Bn))) hp_Fn (hp_Kc (zi := (0 + 0)) (zv := (0 + (1 * q + 0))) k0 rfl rfl (by omega) (by omega) (hp_Kc (zi := (0 + 0)) (zv := (0 + (1 * d + 0))) k1 rfl rfl (by omega) (by omega) hp_Kn)) (hp_La l0 (hp_Li (z := (0 + (1 * m + 0))) l1 rfl (by omega) hp_Ln)) trivial ?_ ?_
  · intro p hp ys l' st' h' hys a1 a2 a3 gZ gL gS
    rcases List.mem_cons.mp hp with rfl | hp
    · obtain rfl := hp_y0 hys
      obtain ⟨y0, t0, rfl, q0, g0⟩ := hp_gSi (z := (0 + (1 * m + 0))) gS rfl
      obtain ⟨y1, t1, rfl, q1, g1⟩ := hp_gSj (z := (0 + (1 * d + 0))) g0 rfl
      obtain ⟨y2, t2, rfl, q2, g2⟩ := hp_gSi (z := (1 + 0)) g1 rfl
      obtain ⟨t3, rfl, g3⟩ := hp_gSa g2 (by decide)
      cases hp_gSn g3
      exact e0 l' h' y0 y1 y2 (by omega) (by omega) (by omega) a1 a2 a3 (hp_gLa gL (List.mem_of_getElem? (i := 0) rfl) (by decide))
    cases hp
  · intro p hp ys v h' hys a1 a2 a3 gZ gS
    cases hp
theorem wrD1_k : hp_chk 103 2 1 [(0, 2, 255)] [] [(0, .inr (.inr (.inl (some 40)))), (1, .inl (0, []))] [] [(6155, (0, []), (0, [(0, 1)]))] [] 2 [(49, ([], 1, [(0, 2, 255)], [], [(0, .inr (.inr (.inl (some 40))))], [.inl (1, []), .inr (.inr (.inl (some 40)))], []))] [] = true := by decide +kernel
theorem wrD1 {cst : am_K} {strs : List Nat} {Φ : am_Q → Prop} {D : Nat} {M : am_M} {h : am_H} {l : am_L} (c : hp_C cst strs D) (hM : m_P[103]? = some M) (hD : (2 : Int) ≤ (D : Int) + 1) (hy : ly_hy m_tt ly_TH h) (q : Int) (b0 : 2 ≤ q) (t0 : q ≤ 255) (k0 : ly_hv cst h 6155 0 = some (q)) (l0 : hp_a l 0 40) (l1 : hp_i l 1 0) (e0 : ∀ (l' : am_L) (h' : am_H) (y0 : Int32), y0.toInt = 1 → ly_hy m_tt ly_TH h' → ly_fr cst [] h h' → h.length ≤ h'.length → hp_a l' 0 40 → hp_F cst strs Φ D M 49 l' [.int y0, .ref 40] h') : hp_F cst strs Φ D M 2 l [] h := by
  refine hp_arc c hM wrD1_k hD [q] rfl hy (hp_Bc (z := q) rfl b0 t0 hp_Bn) hp_Fn (hp_Kc (zi := (0 + 0)) (zv := (0 + (1 * q + 0))) k0 rfl rfl (by omega) (by omega) hp_Kn) (hp_La l0 (hp_Li (z := (0 + 0)) l1 rfl (by omega) hp_Ln)) trivial ?_ ?_
  · intro p hp ys l' st' h' hys a1 a2 a3 gZ gL gS
    rcases List.mem_cons.mp hp with rfl | hp
    · obtain rfl := hp_y0 hys
      obtain ⟨y0, t0, rfl, q0, g0⟩ := hp_gSi (z := (1 + 0)) gS rfl
      obtain ⟨t1, rfl, g1⟩ := hp_gSa g0 (by decide)
      cases hp_gSn g1
      exact e0 l' h' y0 (by omega) a1 a2 a3 (hp_gLa gL (List.mem_of_getElem? (i := 0) rfl) (by decide))
    cases hp
  · intro p hp ys v h' hys a1 a2 a3 gZ gS
    cases hp
theorem wrE1_k : hp_chk 103 2 3 [(0, 1, 8), (1, 2, 255), (2, (-9223372036854775808), 9223372036854775807)] [] [(0, .inr (.inr (.inl (some 40)))), (1, .inl (0, [(0, 1)]))] [] [(6155, (0, []), (0, [(1, 1)])), (6160, (0, []), (0, [(2, 1)]))] [] 2 [(77, ([], 3, [(0, 1, 8), (1, 2, 255), (2, (-9223372036854775808), 9223372036854775807)], [], [(0, .inr (.inr (.inl (some 40))))], [.inl (0, [(0, 1)]), .inr (.inl (0, [(2, 1)])), .inl (1, []), .inr (.inr (.inl (some 30)))], []))] [] = true := by decide +kernel
theorem wrE1 {cst : am_K} {strs : List Nat} {Φ : am_Q → Prop} {D : Nat} {M : am_M} {h : am_H} {l : am_L} (c : hp_C cst strs D) (hM : m_P[103]? = some M) (hD : (2 : Int) ≤ (D : Int) + 1) (hy : ly_hy m_tt ly_TH h) (m q d : Int) (b0 : 1 ≤ m) (t0 : m ≤ 8) (b1 : 2 ≤ q) (t1 : q ≤ 255) (b2 : (-9223372036854775808) ≤ d) (t2 : d ≤ 9223372036854775807) (k0 : ly_hv cst h 6155 0 = some (q)) (k1 : ly_hv cst h 6160 0 = some (d)) (l0 : hp_a l 0 40) (l1 : hp_i l 1 (m)) (e0 : ∀ (l' : am_L) (h' : am_H) (y0 : Int32) (y1 : Int64) (y2 : Int32), y0.toInt = (m) → y1.toInt = (d) → y2.toInt = 1 → ly_hy m_tt ly_TH h' → ly_fr cst [] h h' → h.length ≤ h'.length → hp_a l' 0 40 → hp_F cst strs Φ D M 77 l' [.int y0, .long y1, .int y2, .ref 30] h') : hp_F cst strs Φ D M 2 l [] h := by
  refine hp_arc c hM wrE1_k hD [m, q, d] rfl hy (hp_Bc (z := m) rfl b0 t0 (hp_Bc (z := q) rfl b1 t1 (hp_Bc (z := d) rfl b2 t2 hp_Bn))) hp_Fn (hp_Kc (zi := (0 + 0)) (zv := (0 + (1 * q + 0))) k0 rfl rfl (by omega) (by omega) (hp_Kc (zi := (0 + 0)) (zv := (0 + (1 * d + 0))) k1 rfl rfl (by omega) (by omega) hp_Kn)) (hp_La l0 (hp_Li (z := (0 + (1 * m + 0))) l1 rfl (by omega) hp_Ln)) trivial ?_ ?_
  · intro p hp ys l' st' h' hys a1 a2 a3 gZ gL gS
    rcases List.mem_cons.mp hp with rfl | hp
    · obtain rfl := hp_y0 hys
      obtain ⟨y0, t0, rfl, q0, g0⟩ := hp_gSi (z := (0 + (1 * m + 0))) gS rfl
      obtain ⟨y1, t1, rfl, q1, g1⟩ := hp_gSj (z := (0 + (1 * d + 0))) g0 rfl
      obtain ⟨y2, t2, rfl, q2, g2⟩ := hp_gSi (z := (1 + 0)) g1 rfl
      obtain ⟨t3, rfl, g3⟩ := hp_gSa g2 (by decide)
      cases hp_gSn g3
      exact e0 l' h' y0 y1 y2 (by omega) (by omega) (by omega) a1 a2 a3 (hp_gLa gL (List.mem_of_getElem? (i := 0) rfl) (by decide))
    cases hp
  · intro p hp ys v h' hys a1 a2 a3 gZ gS
    cases hp
theorem wrF_k : hp_chk 103 2 0 [] [] [(0, .inr (.inr (.inl (some 40)))), (1, .inl (8, []))] [] [(6155, (0, []), (1, []))] [] 2 [(63, ([], 0, [], [], [(0, .inr (.inr (.inl (some 40))))], [.inl (4, []), .inr (.inr (.inl (some 40)))], []))] [] = true := by decide +kernel
theorem wrF {cst : am_K} {strs : List Nat} {Φ : am_Q → Prop} {D : Nat} {M : am_M} {h : am_H} {l : am_L} (c : hp_C cst strs D) (hM : m_P[103]? = some M) (hD : (2 : Int) ≤ (D : Int) + 1) (hy : ly_hy m_tt ly_TH h) (k0 : ly_hv cst h 6155 0 = some 1) (l0 : hp_a l 0 40) (l1 : hp_i l 1 8) (e0 : ∀ (l' : am_L) (h' : am_H) (y0 : Int32), y0.toInt = 4 → ly_hy m_tt ly_TH h' → ly_fr cst [] h h' → h.length ≤ h'.length → hp_a l' 0 40 → hp_F cst strs Φ D M 63 l' [.int y0, .ref 40] h') : hp_F cst strs Φ D M 2 l [] h := by
  refine hp_arc c hM wrF_k hD [] rfl hy hp_Bn hp_Fn (hp_Kc (zi := (0 + 0)) (zv := (1 + 0)) k0 rfl rfl (by omega) (by omega) hp_Kn) (hp_La l0 (hp_Li (z := (8 + 0)) l1 rfl (by omega) hp_Ln)) trivial ?_ ?_
  · intro p hp ys l' st' h' hys a1 a2 a3 gZ gL gS
    rcases List.mem_cons.mp hp with rfl | hp
    · obtain rfl := hp_y0 hys
      obtain ⟨y0, t0, rfl, q0, g0⟩ := hp_gSi (z := (4 + 0)) gS rfl
      obtain ⟨t1, rfl, g1⟩ := hp_gSa g0 (by decide)
      cases hp_gSn g1
      exact e0 l' h' y0 (by omega) a1 a2 a3 (hp_gLa gL (List.mem_of_getElem? (i := 0) rfl) (by decide))
    cases hp
  · intro p hp ys v h' hys a1 a2 a3 gZ gS
    cases hp
theorem wrG_k : hp_chk 103 80 0 [] [] [(0, .inr (.inr (.inl (some 40))))] [] [] [] 2 [] [([], 0, [], [], [], [.inl (1, [])], [])] = true := by decide +kernel
theorem wrG {cst : am_K} {strs : List Nat} {Φ : am_Q → Prop} {D : Nat} {M : am_M} {h : am_H} {l : am_L} (c : hp_C cst strs D) (hM : m_P[103]? = some M) (hD : (2 : Int) ≤ (D : Int) + 1) (hy : ly_hy m_tt ly_TH h) (l0 : hp_a l 0 40) (r0 : ∀ (h' : am_H) (y0 : Int32), y0.toInt = 1 → ly_hy m_tt ly_TH h' → ly_fr cst [] h h' → h.length ≤ h'.length → Φ (some (.int y0), h', 0, 0)) : hp_F cst strs Φ D M 80 l [] h := by
  refine hp_arc c hM wrG_k hD [] rfl hy hp_Bn hp_Fn hp_Kn (hp_La l0 hp_Ln) trivial ?_ ?_
  · intro p hp ys l' st' h' hys a1 a2 a3 gZ gL gS
    cases hp
  · intro p hp ys v h' hys a1 a2 a3 gZ gS
    rcases List.mem_cons.mp hp with rfl | hp
    · obtain rfl := hp_y0 hys
      cases v with
      | none => cases gS
      | some w =>
        obtain ⟨y0, t0, s0, q0, -⟩ := hp_gSi (z := (1 + 0)) gS rfl
        cases s0
        exact r0 h' y0 (by omega) a1 a2 a3
    cases hp
theorem fr103_49_k : hp_chk 103 52 0 [] [] [] [.inl (0, [])] [] [] 2 [] [([], 0, [], [], [], [.inl (0, [])], [])] = true := by decide +kernel
theorem fr103_49 {cst : am_K} {strs : List Nat} {Φ : am_Q → Prop} {D : Nat} {M : am_M} {h : am_H} {l : am_L} (c : hp_C cst strs D) (hM : m_P[103]? = some M) (hD : (2 : Int) ≤ (D : Int) + 1) (hy : ly_hy m_tt ly_TH h) (x0 : Int32) (hx0 : x0.toInt = 0) (r0 : ∀ (h' : am_H) (y0 : Int32), y0.toInt = 0 → ly_hy m_tt ly_TH h' → ly_fr cst [] h h' → h.length ≤ h'.length → Φ (some (.int y0), h', 0, 0)) : hp_F cst strs Φ D M 52 l [.int x0] h := by
  refine hp_arc c hM fr103_49_k hD [] rfl hy hp_Bn hp_Fn hp_Kn hp_Ln (hp_Si (z := (0 + 0)) rfl (by omega) trivial) ?_ ?_
  · intro p hp ys l' st' h' hys a1 a2 a3 gZ gL gS
    cases hp
  · intro p hp ys v h' hys a1 a2 a3 gZ gS
    rcases List.mem_cons.mp hp with rfl | hp
    · obtain rfl := hp_y0 hys
      cases v with
      | none => cases gS
      | some w =>
        obtain ⟨y0, t0, s0, q0, -⟩ := hp_gSi (z := (0 + 0)) gS rfl
        cases s0
        exact r0 h' y0 (by omega) a1 a2 a3
    cases hp
theorem fr103_63_k : hp_chk 103 66 0 [] [] [] [.inl (0, [])] [] [] 2 [] [([], 0, [], [], [], [.inl (0, [])], [])] = true := by decide +kernel
theorem fr103_63 {cst : am_K} {strs : List Nat} {Φ : am_Q → Prop} {D : Nat} {M : am_M} {h : am_H} {l : am_L} (c : hp_C cst strs D) (hM : m_P[103]? = some M) (hD : (2 : Int) ≤ (D : Int) + 1) (hy : ly_hy m_tt ly_TH h) (x0 : Int32) (hx0 : x0.toInt = 0) (r0 : ∀ (h' : am_H) (y0 : Int32), y0.toInt = 0 → ly_hy m_tt ly_TH h' → ly_fr cst [] h h' → h.length ≤ h'.length → Φ (some (.int y0), h', 0, 0)) : hp_F cst strs Φ D M 66 l [.int x0] h := by
  refine hp_arc c hM fr103_63_k hD [] rfl hy hp_Bn hp_Fn hp_Kn hp_Ln (hp_Si (z := (0 + 0)) rfl (by omega) trivial) ?_ ?_
  · intro p hp ys l' st' h' hys a1 a2 a3 gZ gL gS
    cases hp
  · intro p hp ys v h' hys a1 a2 a3 gZ gS
    rcases List.mem_cons.mp hp with rfl | hp
    · obtain rfl := hp_y0 hys
      cases v with
      | none => cases gS
      | some w =>
        obtain ⟨y0, t0, s0, q0, -⟩ := hp_gSi (z := (0 + 0)) gS rfl
        cases s0
        exact r0 h' y0 (by omega) a1 a2 a3
    cases hp
theorem fz105_10 {cst : am_K} {strs : List Nat} {Φ : am_Q → Prop} {D : Nat} {M : am_M} {h : am_H} {l : am_L} (c1 : hp_C cst strs D) (c : hp_C cst strs (D + 1)) (hM : m_P[105]? = some M) (hD : 3 ≤ D) (hy : ly_hy m_tt ly_TH h) {kd pl vl : Int → Int} {t : Nat} {n : Int} (t1 : (t : Int) ≤ 1200) (n0 : 0 ≤ n) (n1 : n ≤ 1200) (X : ct cst h kd pl vl t n) {y : Int32} {b : Nat} (k0 : 1 ≤ y.toInt) (k1 : y.toInt ≤ 4) (ka : ly_hv cst h 6154 0 = some (b : Int)) (b1 : (b : Int) ≤ 1200)
    (k : ∀ (h' : am_H) (w : Int32), w.toInt = 0 → ly_hy m_tt ly_TH h' → ly_fr cst [6144, 6145] h h' → ly_hv cst h' 6144 0 = some y.toInt → ly_hv cst h' 6145 0 = some (pa pl t n b) → Φ (some (.int w), h', 0, 0)) : hp_F cst strs Φ (D + 1) M 10 l [.int y, .ref 40] h := by
  obtain ⟨r, hrun, w, r1, r2, r3, rhy, rfr, e0, k2, k3⟩ := fl_run (xk := y) c1 (by omega) hy t1 n0 n1 X k0 k1 ka b1
  refine hp_call (mi := 105) (pc := 10) (tg := 83) (na := 2) (c := 24) (ci := 4) (st0 := [.int y, .ref 40]) (st := []) (av := [.int y]) hM (by decide +kernel) hy rfl rfl rfl (by decide) hrun r2 r3 ?_
  rw [r1]
  exact fr105_10 c hM (by omega) rhy w e0 (fun h5 v hv u1 u2 u3 => k h5 v hv u1 (ly_fr_tr rfr (hp_sub2 rfl u2)) (u2 _ _ _ rfl k2) (u2 _ _ _ rfl k3))
theorem fz104_10 {cst : am_K} {strs : List Nat} {Φ : am_Q → Prop} {D : Nat} {M : am_M} {h : am_H} {l : am_L} (c1 : hp_C cst strs D) (c : hp_C cst strs (D + 1)) (hM : m_P[104]? = some M) (hD : 3 ≤ D) (hy : ly_hy m_tt ly_TH h) {kd pl vl : Int → Int} {t : Nat} {n : Int} (t1 : (t : Int) ≤ 1200) (n0 : 0 ≤ n) (n1 : n ≤ 1200) (X : ct cst h kd pl vl t n) {y : Int32} {b : Nat} (k0 : 1 ≤ y.toInt) (k1 : y.toInt ≤ 4) (ka : ly_hv cst h 6154 0 = some (b : Int)) (b1 : (b : Int) ≤ 1200)
    (k : ∀ (h' : am_H) (w : Int32), w.toInt = 0 → ly_hy m_tt ly_TH h' → ly_fr cst [6144, 6145] h h' → ly_hv cst h' 6144 0 = some y.toInt → ly_hv cst h' 6145 0 = some (pa pl t n b) → Φ (some (.int w), h', 0, 0)) : hp_F cst strs Φ (D + 1) M 10 l [.int y, .ref 40] h := by
  obtain ⟨r, hrun, w, r1, r2, r3, rhy, rfr, e0, k2, k3⟩ := fl_run (xk := y) c1 (by omega) hy t1 n0 n1 X k0 k1 ka b1
  refine hp_call (mi := 104) (pc := 10) (tg := 83) (na := 2) (c := 24) (ci := 4) (st0 := [.int y, .ref 40]) (st := []) (av := [.int y]) hM (by decide +kernel) hy rfl rfl rfl (by decide) hrun r2 r3 ?_
  rw [r1]
  exact fr104_10 c hM (by omega) rhy w e0 (fun h5 v hv u1 u2 u3 => k h5 v hv u1 (ly_fr_tr rfr (hp_sub2 rfl u2)) (u2 _ _ _ rfl k2) (u2 _ _ _ rfl k3))
theorem fz105_71 {cst : am_K} {strs : List Nat} {Φ : am_Q → Prop} {D : Nat} {M : am_M} {h : am_H} {l : am_L} (c1 : hp_C cst strs D) (c : hp_C cst strs (D + 1)) (hM : m_P[105]? = some M) (hD : 3 ≤ D) (hy : ly_hy m_tt ly_TH h) {kd pl vl : Int → Int} {t : Nat} {n : Int} (t1 : (t : Int) ≤ 1200) (n0 : 0 ≤ n) (n1 : n ≤ 1200) (X : ct cst h kd pl vl t n) {y : Int32} {b : Nat} (k0 : 1 ≤ y.toInt) (k1 : y.toInt ≤ 4) (ka : ly_hv cst h 6154 0 = some (b : Int)) (b1 : (b : Int) ≤ 1200)
    (k : ∀ (h' : am_H) (w : Int32), w.toInt = 0 → ly_hy m_tt ly_TH h' → ly_fr cst [6144, 6145] h h' → ly_hv cst h' 6144 0 = some y.toInt → ly_hv cst h' 6145 0 = some (pa pl t n b) → Φ (some (.int w), h', 0, 0)) : hp_F cst strs Φ (D + 1) M 71 l [.int y, .ref 40] h := by
  obtain ⟨r, hrun, w, r1, r2, r3, rhy, rfr, e0, k2, k3⟩ := fl_run (xk := y) c1 (by omega) hy t1 n0 n1 X k0 k1 ka b1
  refine hp_call (mi := 105) (pc := 71) (tg := 83) (na := 2) (c := 24) (ci := 4) (st0 := [.int y, .ref 40]) (st := []) (av := [.int y]) hM (by decide +kernel) hy rfl rfl rfl (by decide) hrun r2 r3 ?_
  rw [r1]
  exact fr105_71 c hM (by omega) rhy w e0 (fun h5 v hv u1 u2 u3 => k h5 v hv u1 (ly_fr_tr rfr (hp_sub2 rfl u2)) (u2 _ _ _ rfl k2) (u2 _ _ _ rfl k3))
theorem cz105_88 {cst : am_K} {strs : List Nat} {Φ : am_Q → Prop} {D : Nat} {M : am_M} {h : am_H} {l : am_L} (c1 : hp_C cst strs D) (c : hp_C cst strs (D + 1)) (hM : m_P[105]? = some M) (hD : 1 ≤ D) (hy : ly_hy m_tt ly_TH h) {i0 : List Int} {c0 : List cl} {C : List cl} {L : List Int} {A : Int} (X : dr cst h i0 c0 C) (I : it cst h i0 (cit C ++ L)) (rm : (c0.length : Int) + (C.length : Int) ≤ 1239) (ri : (i0.length : Int) + ((cit C ++ L).length : Int) ≤ 10240) (a0 : 0 ≤ A) (a1 : A ≤ 30) (kA : ly_hv cst h 3584 0 = some A) {yn yk : Int32} {yd : Int64}
    (k : ∀ (h' : am_H), ly_hy m_tt ly_TH h' → ly_fr cst [3588, 4608, 4864, 5120, 5376, 5632, 60010, 60011, 60012] h h' → dr cst h' i0 c0 (C ++ [(yk.toInt, yd.toInt, yn.toInt, L)]) → hp_F cst strs Φ (D + 1) M 91 l [] h') : hp_F cst strs Φ (D + 1) M 88 l [.int yn, .long yd, .int yk, .ref 30] h := by
  obtain ⟨r, hrun, r1, r2, r3, rhy, rfr, rD⟩ := dc_run (xk := yk) (xd := yd) (xn := yn) c1 hD hy X I rm ri a0 a1 kA
  refine hp_call (mi := 105) (pc := 88) (tg := 102) (na := 4) (c := 14) (ci := 3) (st0 := [.int yn, .long yd, .int yk, .ref 30]) (st := []) (av := [.int yk, .long yd, .int yn]) hM (by decide +kernel) hy rfl rfl rfl (by decide) hrun r2 r3 ?_
  rw [r1]
  exact k _ rhy rfr rD
theorem lz105_98 {cst : am_K} {strs : List Nat} {Φ : am_Q → Prop} {D : Nat} {M : am_M} {h : am_H} {l : am_L} (c1 : hp_C cst strs D) (c : hp_C cst strs (D + 1)) (hM : m_P[105]? = some M) (hD : 3 ≤ D) (hy : ly_hy m_tt ly_TH h) {kd pl vl : Int → Int} {t : Nat} {n : Int} (t1 : (t : Int) ≤ 1200) (kb : kB kd t) (vb : vB kd vl t) (X : ct cst h kd pl vl t n) {y : Int32} {b : Nat} (e : y.toInt = (b : Int)) (b1 : (b : Int) ≤ 1200)
    (k : ∀ (h' : am_H), ly_hy m_tt ly_TH h' → ly_fr cst [6154, 6155, 6156, 6157] h h' → cs cst h' kd vl t b → hp_F cst strs Φ (D + 1) M 101 l [] h') : hp_F cst strs Φ (D + 1) M 98 l [.int y, .ref 40] h := by
  obtain ⟨r, hrun, r1, r2, r3, rhy, rfr, rC⟩ := lk_run (xb := y) c1 (by omega) hy t1 kb vb X e b1
  refine hp_call (mi := 105) (pc := 98) (tg := 78) (na := 2) (c := 24) (ci := 4) (st0 := [.int y, .ref 40]) (st := []) (av := [.int y]) hM (by decide +kernel) hy rfl rfl rfl (by decide) hrun r2 r3 ?_
  rw [r1]
  exact k _ rhy rfr rC
theorem fz104_40 {cst : am_K} {strs : List Nat} {Φ : am_Q → Prop} {D : Nat} {M : am_M} {h : am_H} {l : am_L} (c1 : hp_C cst strs D) (c : hp_C cst strs (D + 1)) (hM : m_P[104]? = some M) (hD : 3 ≤ D) (hy : ly_hy m_tt ly_TH h) {kd pl vl : Int → Int} {t : Nat} {n : Int} (t1 : (t : Int) ≤ 1200) (n0 : 0 ≤ n) (n1 : n ≤ 1200) (X : ct cst h kd pl vl t n) {y : Int32} {b : Nat} (k0 : 1 ≤ y.toInt) (k1 : y.toInt ≤ 4) (ka : ly_hv cst h 6154 0 = some (b : Int)) (b1 : (b : Int) ≤ 1200)
    (k : ∀ (h' : am_H) (w : Int32), w.toInt = 0 → ly_hy m_tt ly_TH h' → ly_fr cst [6144, 6145] h h' → ly_hv cst h' 6144 0 = some y.toInt → ly_hv cst h' 6145 0 = some (pa pl t n b) → Φ (some (.int w), h', 0, 0)) : hp_F cst strs Φ (D + 1) M 40 l [.int y, .ref 40] h := by
  obtain ⟨r, hrun, w, r1, r2, r3, rhy, rfr, e0, k2, k3⟩ := fl_run (xk := y) c1 (by omega) hy t1 n0 n1 X k0 k1 ka b1
  refine hp_call (mi := 104) (pc := 40) (tg := 83) (na := 2) (c := 24) (ci := 4) (st0 := [.int y, .ref 40]) (st := []) (av := [.int y]) hM (by decide +kernel) hy rfl rfl rfl (by decide) hrun r2 r3 ?_
  rw [r1]
  exact fr104_40 c hM (by omega) rhy w e0 (fun h5 v hv u1 u2 u3 => k h5 v hv u1 (ly_fr_tr rfr (hp_sub2 rfl u2)) (u2 _ _ _ rfl k2) (u2 _ _ _ rfl k3))
theorem lz104_51 {cst : am_K} {strs : List Nat} {Φ : am_Q → Prop} {D : Nat} {M : am_M} {h : am_H} {l : am_L} (c1 : hp_C cst strs D) (c : hp_C cst strs (D + 1)) (hM : m_P[104]? = some M) (hD : 3 ≤ D) (hy : ly_hy m_tt ly_TH h) {kd pl vl : Int → Int} {t : Nat} {n : Int} (t1 : (t : Int) ≤ 1200) (kb : kB kd t) (vb : vB kd vl t) (X : ct cst h kd pl vl t n) {y : Int32} {b : Nat} (e : y.toInt = (b : Int)) (b1 : (b : Int) ≤ 1200)
    (k : ∀ (h' : am_H), ly_hy m_tt ly_TH h' → ly_fr cst [6154, 6155, 6156, 6157] h h' → cs cst h' kd vl t b → hp_F cst strs Φ (D + 1) M 54 l [] h') : hp_F cst strs Φ (D + 1) M 51 l [.int y, .ref 40] h := by
  obtain ⟨r, hrun, r1, r2, r3, rhy, rfr, rC⟩ := lk_run (xb := y) c1 (by omega) hy t1 kb vb X e b1
  refine hp_call (mi := 104) (pc := 51) (tg := 78) (na := 2) (c := 24) (ci := 4) (st0 := [.int y, .ref 40]) (st := []) (av := [.int y]) hM (by decide +kernel) hy rfl rfl rfl (by decide) hrun r2 r3 ?_
  rw [r1]
  exact k _ rhy rfr rC
theorem cz104_65 {cst : am_K} {strs : List Nat} {Φ : am_Q → Prop} {D : Nat} {M : am_M} {h : am_H} {l : am_L} (c1 : hp_C cst strs D) (c : hp_C cst strs (D + 1)) (hM : m_P[104]? = some M) (hD : 1 ≤ D) (hy : ly_hy m_tt ly_TH h) {i0 : List Int} {c0 : List cl} {C : List cl} {L : List Int} {A : Int} (X : dr cst h i0 c0 C) (I : it cst h i0 (cit C ++ L)) (rm : (c0.length : Int) + (C.length : Int) ≤ 1239) (ri : (i0.length : Int) + ((cit C ++ L).length : Int) ≤ 10240) (a0 : 0 ≤ A) (a1 : A ≤ 30) (kA : ly_hv cst h 3584 0 = some A) {yn yk : Int32} {yd : Int64}
    (k : ∀ (h' : am_H), ly_hy m_tt ly_TH h' → ly_fr cst [3588, 4608, 4864, 5120, 5376, 5632, 60010, 60011, 60012] h h' → dr cst h' i0 c0 (C ++ [(yk.toInt, yd.toInt, yn.toInt, L)]) → hp_F cst strs Φ (D + 1) M 68 l [] h') : hp_F cst strs Φ (D + 1) M 65 l [.int yn, .long yd, .int yk, .ref 30] h := by
  obtain ⟨r, hrun, r1, r2, r3, rhy, rfr, rD⟩ := dc_run (xk := yk) (xd := yd) (xn := yn) c1 hD hy X I rm ri a0 a1 kA
  refine hp_call (mi := 104) (pc := 65) (tg := 102) (na := 4) (c := 14) (ci := 3) (st0 := [.int yn, .long yd, .int yk, .ref 30]) (st := []) (av := [.int yk, .long yd, .int yn]) hM (by decide +kernel) hy rfl rfl rfl (by decide) hrun r2 r3 ?_
  rw [r1]
  exact k _ rhy rfr rD
theorem lz104_83 {cst : am_K} {strs : List Nat} {Φ : am_Q → Prop} {D : Nat} {M : am_M} {h : am_H} {l : am_L} (c1 : hp_C cst strs D) (c : hp_C cst strs (D + 1)) (hM : m_P[104]? = some M) (hD : 3 ≤ D) (hy : ly_hy m_tt ly_TH h) {kd pl vl : Int → Int} {t : Nat} {n : Int} (t1 : (t : Int) ≤ 1200) (kb : kB kd t) (vb : vB kd vl t) (X : ct cst h kd pl vl t n) {y : Int32} {b : Nat} (e : y.toInt = (b : Int)) (b1 : (b : Int) ≤ 1200)
    (k : ∀ (h' : am_H), ly_hy m_tt ly_TH h' → ly_fr cst [6154, 6155, 6156, 6157] h h' → cs cst h' kd vl t b → hp_F cst strs Φ (D + 1) M 86 l [] h') : hp_F cst strs Φ (D + 1) M 83 l [.int y, .ref 40] h := by
  obtain ⟨r, hrun, r1, r2, r3, rhy, rfr, rC⟩ := lk_run (xb := y) c1 (by omega) hy t1 kb vb X e b1
  refine hp_call (mi := 104) (pc := 83) (tg := 78) (na := 2) (c := 24) (ci := 4) (st0 := [.int y, .ref 40]) (st := []) (av := [.int y]) hM (by decide +kernel) hy rfl rfl rfl (by decide) hrun r2 r3 ?_
  rw [r1]
  exact k _ rhy rfr rC
theorem fz103_49 {cst : am_K} {strs : List Nat} {Φ : am_Q → Prop} {D : Nat} {M : am_M} {h : am_H} {l : am_L} (c1 : hp_C cst strs D) (c : hp_C cst strs (D + 1)) (hM : m_P[103]? = some M) (hD : 3 ≤ D) (hy : ly_hy m_tt ly_TH h) {kd pl vl : Int → Int} {t : Nat} {n : Int} (t1 : (t : Int) ≤ 1200) (n0 : 0 ≤ n) (n1 : n ≤ 1200) (X : ct cst h kd pl vl t n) {y : Int32} {b : Nat} (k0 : 1 ≤ y.toInt) (k1 : y.toInt ≤ 4) (ka : ly_hv cst h 6154 0 = some (b : Int)) (b1 : (b : Int) ≤ 1200)
    (k : ∀ (h' : am_H) (w : Int32), w.toInt = 0 → ly_hy m_tt ly_TH h' → ly_fr cst [6144, 6145] h h' → ly_hv cst h' 6144 0 = some y.toInt → ly_hv cst h' 6145 0 = some (pa pl t n b) → Φ (some (.int w), h', 0, 0)) : hp_F cst strs Φ (D + 1) M 49 l [.int y, .ref 40] h := by
  obtain ⟨r, hrun, w, r1, r2, r3, rhy, rfr, e0, k2, k3⟩ := fl_run (xk := y) c1 (by omega) hy t1 n0 n1 X k0 k1 ka b1
  refine hp_call (mi := 103) (pc := 49) (tg := 83) (na := 2) (c := 24) (ci := 4) (st0 := [.int y, .ref 40]) (st := []) (av := [.int y]) hM (by decide +kernel) hy rfl rfl rfl (by decide) hrun r2 r3 ?_
  rw [r1]
  exact fr103_49 c hM (by omega) rhy w e0 (fun h5 v hv u1 u2 u3 => k h5 v hv u1 (ly_fr_tr rfr (hp_sub2 rfl u2)) (u2 _ _ _ rfl k2) (u2 _ _ _ rfl k3))
theorem fz103_63 {cst : am_K} {strs : List Nat} {Φ : am_Q → Prop} {D : Nat} {M : am_M} {h : am_H} {l : am_L} (c1 : hp_C cst strs D) (c : hp_C cst strs (D + 1)) (hM : m_P[103]? = some M) (hD : 3 ≤ D) (hy : ly_hy m_tt ly_TH h) {kd pl vl : Int → Int} {t : Nat} {n : Int} (t1 : (t : Int) ≤ 1200) (n0 : 0 ≤ n) (n1 : n ≤ 1200) (X : ct cst h kd pl vl t n) {y : Int32} {b : Nat} (k0 : 1 ≤ y.toInt) (k1 : y.toInt ≤ 4) (ka : ly_hv cst h 6154 0 = some (b : Int)) (b1 : (b : Int) ≤ 1200)
    (k : ∀ (h' : am_H) (w : Int32), w.toInt = 0 → ly_hy m_tt ly_TH h' → ly_fr cst [6144, 6145] h h' → ly_hv cst h' 6144 0 = some y.toInt → ly_hv cst h' 6145 0 = some (pa pl t n b) → Φ (some (.int w), h', 0, 0)) : hp_F cst strs Φ (D + 1) M 63 l [.int y, .ref 40] h := by
  obtain ⟨r, hrun, w, r1, r2, r3, rhy, rfr, e0, k2, k3⟩ := fl_run (xk := y) c1 (by omega) hy t1 n0 n1 X k0 k1 ka b1
  refine hp_call (mi := 103) (pc := 63) (tg := 83) (na := 2) (c := 24) (ci := 4) (st0 := [.int y, .ref 40]) (st := []) (av := [.int y]) hM (by decide +kernel) hy rfl rfl rfl (by decide) hrun r2 r3 ?_
  rw [r1]
  exact fr103_63 c hM (by omega) rhy w e0 (fun h5 v hv u1 u2 u3 => k h5 v hv u1 (ly_fr_tr rfr (hp_sub2 rfl u2)) (u2 _ _ _ rfl k2) (u2 _ _ _ rfl k3))
theorem dz103_24 {cst : am_K} {strs : List Nat} {Φ : am_Q → Prop} {D : Nat} {M : am_M} {h : am_H} {l : am_L} (c1 : hp_C cst strs D) (c : hp_C cst strs (D + 1)) (hM : m_P[103]? = some M) (hD : 1 ≤ D) (hy : ly_hy m_tt ly_TH h) {i0 : List Int} {L : List Int} (A : it cst h i0 L) (rm : (i0.length : Int) + (L.length : Int) ≤ 10239) {y : Int64}
    (k : ∀ (h' : am_H), ly_hy m_tt ly_TH h' → ly_fr cst [3594, 5888] h h' → it cst h' i0 (L ++ [y.toInt]) → hp_F cst strs Φ (D + 1) M 27 l [] h') : hp_F cst strs Φ (D + 1) M 24 l [.long y, .ref 30] h := by
  obtain ⟨r, hrun, r1, r2, r3, rhy, rfr, rI⟩ := di_run (xv := y) c1 hD hy A rm
  refine hp_call (mi := 103) (pc := 24) (tg := 97) (na := 2) (c := 14) (ci := 3) (st0 := [.long y, .ref 30]) (st := []) (av := [.long y]) hM (by decide +kernel) hy rfl rfl rfl (by decide) hrun r2 r3 ?_
  rw [r1]
  exact k _ rhy rfr rI
theorem lz103_34 {cst : am_K} {strs : List Nat} {Φ : am_Q → Prop} {D : Nat} {M : am_M} {h : am_H} {l : am_L} (c1 : hp_C cst strs D) (c : hp_C cst strs (D + 1)) (hM : m_P[103]? = some M) (hD : 3 ≤ D) (hy : ly_hy m_tt ly_TH h) {kd pl vl : Int → Int} {t : Nat} {n : Int} (t1 : (t : Int) ≤ 1200) (kb : kB kd t) (vb : vB kd vl t) (X : ct cst h kd pl vl t n) {y : Int32} {b : Nat} (e : y.toInt = (b : Int)) (b1 : (b : Int) ≤ 1200)
    (k : ∀ (h' : am_H), ly_hy m_tt ly_TH h' → ly_fr cst [6154, 6155, 6156, 6157] h h' → cs cst h' kd vl t b → hp_F cst strs Φ (D + 1) M 37 l [] h') : hp_F cst strs Φ (D + 1) M 34 l [.int y, .ref 40] h := by
  obtain ⟨r, hrun, r1, r2, r3, rhy, rfr, rC⟩ := lk_run (xb := y) c1 (by omega) hy t1 kb vb X e b1
  refine hp_call (mi := 103) (pc := 34) (tg := 78) (na := 2) (c := 24) (ci := 4) (st0 := [.int y, .ref 40]) (st := []) (av := [.int y]) hM (by decide +kernel) hy rfl rfl rfl (by decide) hrun r2 r3 ?_
  rw [r1]
  exact k _ rhy rfr rC
theorem cz103_77 {cst : am_K} {strs : List Nat} {Φ : am_Q → Prop} {D : Nat} {M : am_M} {h : am_H} {l : am_L} (c1 : hp_C cst strs D) (c : hp_C cst strs (D + 1)) (hM : m_P[103]? = some M) (hD : 1 ≤ D) (hy : ly_hy m_tt ly_TH h) {i0 : List Int} {c0 : List cl} {C : List cl} {L : List Int} {A : Int} (X : dr cst h i0 c0 C) (I : it cst h i0 (cit C ++ L)) (rm : (c0.length : Int) + (C.length : Int) ≤ 1239) (ri : (i0.length : Int) + ((cit C ++ L).length : Int) ≤ 10240) (a0 : 0 ≤ A) (a1 : A ≤ 30) (kA : ly_hv cst h 3584 0 = some A) {yn yk : Int32} {yd : Int64}
    (k : ∀ (h' : am_H), ly_hy m_tt ly_TH h' → ly_fr cst [3588, 4608, 4864, 5120, 5376, 5632, 60010, 60011, 60012] h h' → dr cst h' i0 c0 (C ++ [(yk.toInt, yd.toInt, yn.toInt, L)]) → hp_F cst strs Φ (D + 1) M 80 l [] h') : hp_F cst strs Φ (D + 1) M 77 l [.int yn, .long yd, .int yk, .ref 30] h := by
  obtain ⟨r, hrun, r1, r2, r3, rhy, rfr, rD⟩ := dc_run (xk := yk) (xd := yd) (xn := yn) c1 hD hy X I rm ri a0 a1 kA
  refine hp_call (mi := 103) (pc := 77) (tg := 102) (na := 4) (c := 14) (ci := 3) (st0 := [.int yn, .long yd, .int yk, .ref 30]) (st := []) (av := [.int yk, .long yd, .int yn]) hM (by decide +kernel) hy rfl rfl rfl (by decide) hrun r2 r3 ?_
  rw [r1]
  exact k _ rhy rfr rD
theorem cit_app (C : List cl) (x : cl) : cit (C ++ [x]) = cit C ++ x.2.2.2 := by
  unfold cit
  rw [List.flatMap_append]
  simp
/-- readNumber of the class -/
theorem nu_run {cst : am_K} {strs : List Nat} {D : Nat} {h : am_H} (c1 : hp_C cst strs D) (c : hp_C cst strs (D + 1)) (hD : 3 ≤ D) (hy : ly_hy m_tt ly_TH h) {kd pl vl : Int → Int} {t : Nat} {n : Int} {f : Int → Int} {en : Nat → Int} (T : tkT f n t kd pl vl en) (t1 : (t : Int) ≤ 1200) (n0 : 0 ≤ n) (n1 : n ≤ 1200) (kb : kB kd t) (vb : vB kd vl t) (X : ct cst h kd pl vl t n) {i0 : List Int} {c0 : List cl} {C : List cl} {A d e0 : Int} (ri : (i0.length : Int) + n ≤ 10220) (ci : ((cit C).length : Int) ≤ e0) (e00 : 0 ≤ e0) (rc : (c0.length : Int) + (C.length : Int) ≤ 1239) (A0 : 0 ≤ A) (A1 : A ≤ 30) (d0 : -9223372036854775808 ≤ d) (d1 : d ≤ 9223372036854775807) (Dr : dr cst h i0 c0 C) (I : it cst h i0 (cit C)) (kA : ly_hv cst h 3584 0 = some A) (kD : ly_hv cst h 6160 0 = some d) {b : Nat} (b1 : b ≤ t) (be : e0 ≤ en b) (Cc : cs cst h kd vl t b) {k : Int} (hk : k = 3 ∨ (8 ≤ k ∧ k ≤ 13)) (kq : ly_hv cst h 6159 0 = some (kf k)) :
    ∃ r, am_Run cst m_cl m_tt m_P strs sx_bi (D + 1 + 1) 105 [.ref 40] h r ∧ (pR cst h [3588, 3594, 4608, 4864, 5120, 5376, 5632, 5888, 6154, 6155, 6156, 6157, 60010, 60011, 60012] [3594, 5888, 6154, 6155, 6156, 6157] i0 pl t n (bo kd vl t A k d b) (fun (x : Nat × Int × Int × List Int) h' => cs cst h' kd vl t x.1 ∧ dr cst h' i0 c0 (C ++ [(kf k, x.2.1, x.2.2.1, x.2.2.2)]) ∧ it cst h' i0 (cit C ++ x.2.2.2) ∧ (x.2.2.2.length : Int) ≤ en x.1 - e0 ∧ b ≤ x.1 ∧ x.1 ≤ t)) r := by
  obtain ⟨M, hM, hl⟩ := hp_M (mi := 105) (k := 1) (by decide +kernel)
  have bb := fk_b kb b
  obtain ⟨K1, K2, K3, K4⟩ := id Cc
  have mono : ∀ i j : Nat, i ≤ j → j ≤ t → en i + ((j : Int) - (i : Int)) ≤ en j := fun i j h1 h2 => by
    have := tkT_mono T (j - i) i (by omega)
    rw [show i + (j - i) = j by omega] at this
    omega
  have enb := tkT_end T b b1
  have start : hp_F cst strs (pR cst h [3588, 3594, 4608, 4864, 5120, 5376, 5632, 5888, 6154, 6155, 6156, 6157, 60010, 60011, 60012] [3594, 5888, 6154, 6155, 6156, 6157] i0 pl t n (bo kd vl t A k d b) (fun (x : Nat × Int × Int × List Int) h' => cs cst h' kd vl t x.1 ∧ dr cst h' i0 c0 (C ++ [(kf k, x.2.1, x.2.2.1, x.2.2.2)]) ∧ it cst h' i0 (cit C ++ x.2.2.2) ∧ (x.2.2.2.length : Int) ≤ en x.1 - e0 ∧ b ≤ x.1 ∧ x.1 ≤ t)) (D + 1) M 0 (lv_args 0 [.ref 40]) [] h := by
    by_cases q2 : fk kd t b = 2
    rotate_left
    · have er : bo kd vl t A k d b = .inl (1, b) := by
        rw [bo, if_neg (by omega), if_neg (by omega), if_neg (by omega), if_pos hk, if_pos q2]
      have fz : ∀ (l2 : am_L) (h2 : am_H) (y0 : Int32), y0.toInt = 1 → ly_hy m_tt ly_TH h2 → ly_fr cst [] h h2 → hp_F cst strs (pR cst h [3588, 3594, 4608, 4864, 5120, 5376, 5632, 5888, 6154, 6155, 6156, 6157, 60010, 60011, 60012] [3594, 5888, 6154, 6155, 6156, 6157] i0 pl t n (bo kd vl t A k d b) (fun (x : Nat × Int × Int × List Int) h' => cs cst h' kd vl t x.1 ∧ dr cst h' i0 c0 (C ++ [(kf k, x.2.1, x.2.2.1, x.2.2.2)]) ∧ it cst h' i0 (cit C ++ x.2.2.2) ∧ (x.2.2.2.length : Int) ≤ en x.1 - e0 ∧ b ≤ x.1 ∧ x.1 ≤ t)) (D + 1) M 10 l2 [.int y0, .ref 40] h2 := fun l2 h2 y0 e0' u1 u2 => fz105_10 c1 c hM (by omega) u1 t1 n0 n1 (ct_mv X u2 rfl) (by omega) (by omega) (u2 _ _ _ rfl K1) (by omega) (fun h3 q hq v1 v2 z1 z2 => pR_f er hq v1 (ly_fr_tr (hp_sub2 rfl u2) (hp_sub2 rfl v2)) (it_o (it_mv (it_mv I u2 rfl) v2 rfl)) (by rw [← e0']; exact z1) z2)
      by_cases k9 : fk kd t b ≤ 1
      · exact nuA0 c hM (by omega) hy (fk kd t b) bb.1 k9 K2 rfl (fun l2 h2 y0 e0' u1 u2 u3 m0 => fz l2 h2 y0 e0' u1 u2)
      · exact nuA1 c hM (by omega) hy (fk kd t b) (by omega) (by omega) K2 rfl (fun l2 h2 y0 e0' u1 u2 u3 m0 => fz l2 h2 y0 e0' u1 u2)
    have lt : b < t := fk_in (kd := kd) (by rw [q2]; decide)
    have vv := (vb b lt).2 (by rw [← fk_lt (kd := kd) lt]; exact q2)
    rw [q2] at K2
    obtain ⟨x1, -, x3, -⟩ := id X
    have kv := (x3 b lt).2.2
    have bad : bo kd vl t A k d b = .inl (2, b) → ∀ (l2 : am_L) (h2 : am_H) (y0 : Int32), y0.toInt = 2 → ly_hy m_tt ly_TH h2 → ly_fr cst [] h h2 → hp_F cst strs (pR cst h [3588, 3594, 4608, 4864, 5120, 5376, 5632, 5888, 6154, 6155, 6156, 6157, 60010, 60011, 60012] [3594, 5888, 6154, 6155, 6156, 6157] i0 pl t n (bo kd vl t A k d b) (fun (x : Nat × Int × Int × List Int) h' => cs cst h' kd vl t x.1 ∧ dr cst h' i0 c0 (C ++ [(kf k, x.2.1, x.2.2.1, x.2.2.2)]) ∧ it cst h' i0 (cit C ++ x.2.2.2) ∧ (x.2.2.2.length : Int) ≤ en x.1 - e0 ∧ b ≤ x.1 ∧ x.1 ≤ t)) (D + 1) M 71 l2 [.int y0, .ref 40] h2 := fun er l2 h2 y0 e0' u1 u2 => fz105_71 c1 c hM (by omega) u1 t1 n0 n1 (ct_mv X u2 rfl) (by omega) (by omega) (u2 _ _ _ rfl K1) (by omega) (fun h3 q hq v1 v2 z1 z2 => pR_f er hq v1 (ly_fr_tr (hp_sub2 rfl u2) (hp_sub2 rfl v2)) (it_o (it_mv (it_mv I u2 rfl) v2 rfl)) (by rw [← e0']; exact z1) z2)
    have good : bo kd vl t A k d b = .inr (b + 1, d, vl (b : Int), []) → ∀ (l2 : am_L) (h2 : am_H) (y0 : Int32) (y1 : Int64) (y2 : Int32), y0.toInt = vl (b : Int) → y1.toInt = d → y2.toInt = kf k → ly_hy m_tt ly_TH h2 → ly_fr cst [] h h2 → hp_a l2 0 40 → hp_F cst strs (pR cst h [3588, 3594, 4608, 4864, 5120, 5376, 5632, 5888, 6154, 6155, 6156, 6157, 60010, 60011, 60012] [3594, 5888, 6154, 6155, 6156, 6157] i0 pl t n (bo kd vl t A k d b) (fun (x : Nat × Int × Int × List Int) h' => cs cst h' kd vl t x.1 ∧ dr cst h' i0 c0 (C ++ [(kf k, x.2.1, x.2.2.1, x.2.2.2)]) ∧ it cst h' i0 (cit C ++ x.2.2.2) ∧ (x.2.2.2.length : Int) ≤ en x.1 - e0 ∧ b ≤ x.1 ∧ x.1 ≤ t)) (D + 1) M 88 l2 [.int y0, .long y1, .int y2, .ref 30] h2 := by
      intro er l2 h2 y0 y1 y2 e0' e1' e2' u1 u2 m0
      refine cz105_88 (L := []) (A := A) c1 c hM (by omega) u1 (dr_mv Dr u2 rfl) (by rw [List.append_nil]; exact it_mv I u2 rfl) rc (by rw [List.append_nil]; omega) A0 A1 (u2 _ _ _ rfl kA) (fun h3 v1 v2 D3 => ?_)
      rw [e0', e1', e2'] at D3
      refine nuE c hM (by omega) v1 (b : Int) (by omega) (by omega) (v2 _ _ _ rfl (u2 _ _ _ rfl K1)) m0 (fun l4 h4 y3 e3 w1 w2 w3 g0 => ?_)
      have f4 : ly_fr cst [3588, 3594, 4608, 4864, 5120, 5376, 5632, 5888, 6154, 6155, 6156, 6157, 60010, 60011, 60012] h h4 := ly_fr_tr (hp_sub2 rfl u2) (ly_fr_tr (hp_sub2 rfl v2) (hp_sub2 rfl w2))
      refine lz105_98 c1 c hM (by omega) w1 t1 kb vb (ct_mv X f4 rfl) (b := b + 1) (by omega) (by omega) (fun h5 p1 p2 C5 => ?_)
      have mo := mono b (b + 1) (by omega) (by omega)
      exact nuF c hM (by omega) p1 g0 (fun h6 q hq s1 s2 s3 => pR_s (x := (b + 1, d, vl (b : Int), [])) er hq s1 (ly_fr_tr f4 (ly_fr_tr (hp_sub2 rfl p2) (hp_sub2 rfl s2))) ⟨cs_mv C5 s2 rfl, dr_mv (dr_mv (dr_mv D3 w2 rfl) p2 rfl) s2 rfl, by
        rw [List.append_nil]
        exact it_mv (it_mv (it_mv (it_mv (it_mv I u2 rfl) v2 rfl) w2 rfl) p2 rfl) s2 rfl, by
        show ((0 : Nat) : Int) ≤ en (b + 1) - e0
        omega, by omega, by omega⟩)
    by_cases w3 : k = 3
    · subst w3
      have kq : ly_hv cst h 6159 0 = some 3 := kq
      have nb : ¬ (((3 : Int) = 8 ∧ vl (b : Int) < 1) ∨ (if (3 : Int) = 3 ∨ (3 : Int) = 9 then 9999 else if (3 : Int) = 10 then 4 else if (3 : Int) = 13 then 23 else 12 : Int) < vl (b : Int)) := by
        rintro (z | z)
        · omega
        · have z : (9999 : Int) < vl (b : Int) := z
          omega
      exact nuB3 c hM (by omega) hy (b : Int) (t : Int) (vl (b : Int)) d (by omega) (by omega) (by omega) t1 (by omega) (by omega) d0 d1 (by omega) K2 K1 x1 kv kq kD rfl (fun l2 h2 y0 y1 y2 e0' e1' e2' u1 u2 u3 m0 => good (by rw [bo, if_neg (by decide), if_neg (by decide), if_neg (by decide), if_pos (by decide), if_neg (fun z => z q2), if_neg nb]) l2 h2 y0 y1 y2 e0' e1' e2' u1 u2 m0)
    by_cases w8 : k = 8
    · subst w8
      have kq : ly_hv cst h 6159 0 = some 7 := kq
      by_cases lo : vl (b : Int) < 1
      · exact nuC7 c hM (by omega) hy (b : Int) (t : Int) (vl (b : Int)) (by omega) (by omega) (by omega) t1 vv.1 (by omega) (by omega) K2 K1 x1 kv kq rfl (fun l2 h2 y0 e0' u1 u2 u3 m0 => bad (by rw [bo, if_neg (by decide), if_neg (by decide), if_neg (by decide), if_pos (by decide), if_neg (fun z => z q2), if_pos (Or.inl ⟨rfl, lo⟩)]) l2 h2 y0 e0' u1 u2)
      by_cases hi : 12 < vl (b : Int)
      · exact nuD7 c hM (by omega) hy (b : Int) (t : Int) (vl (b : Int)) (by omega) (by omega) (by omega) t1 (by omega) vv.2 (by omega) K2 K1 x1 kv kq rfl (fun l2 h2 y0 e0' u1 u2 u3 m0 => bad (by rw [bo, if_neg (by decide), if_neg (by decide), if_neg (by decide), if_pos (by decide), if_neg (fun z => z q2), if_pos (Or.inr (show (if (8 : Int) = 3 ∨ (8 : Int) = 9 then 9999 else if (8 : Int) = 10 then 4 else if (8 : Int) = 13 then 23 else 12 : Int) < vl (b : Int) from hi))]) l2 h2 y0 e0' u1 u2)
      have nb : ¬ (((8 : Int) = 8 ∧ vl (b : Int) < 1) ∨ (if (8 : Int) = 3 ∨ (8 : Int) = 9 then 9999 else if (8 : Int) = 10 then 4 else if (8 : Int) = 13 then 23 else 12 : Int) < vl (b : Int)) := by
        rintro (z | z)
        · omega
        · have z : (12 : Int) < vl (b : Int) := z
          omega
      exact nuB7 c hM (by omega) hy (b : Int) (t : Int) (vl (b : Int)) d (by omega) (by omega) (by omega) t1 (by omega) (by omega) d0 d1 (by omega) K2 K1 x1 kv kq kD rfl (fun l2 h2 y0 y1 y2 e0' e1' e2' u1 u2 u3 m0 => good (by rw [bo, if_neg (by decide), if_neg (by decide), if_neg (by decide), if_pos (by decide), if_neg (fun z => z q2), if_neg nb]) l2 h2 y0 y1 y2 e0' e1' e2' u1 u2 m0)
    by_cases w9 : k = 9
    · subst w9
      have kq : ly_hv cst h 6159 0 = some 8 := kq
      have nb : ¬ (((9 : Int) = 8 ∧ vl (b : Int) < 1) ∨ (if (9 : Int) = 3 ∨ (9 : Int) = 9 then 9999 else if (9 : Int) = 10 then 4 else if (9 : Int) = 13 then 23 else 12 : Int) < vl (b : Int)) := by
        rintro (z | z)
        · omega
        · have z : (9999 : Int) < vl (b : Int) := z
          omega
      exact nuB8 c hM (by omega) hy (b : Int) (t : Int) (vl (b : Int)) d (by omega) (by omega) (by omega) t1 (by omega) (by omega) d0 d1 (by omega) K2 K1 x1 kv kq kD rfl (fun l2 h2 y0 y1 y2 e0' e1' e2' u1 u2 u3 m0 => good (by rw [bo, if_neg (by decide), if_neg (by decide), if_neg (by decide), if_pos (by decide), if_neg (fun z => z q2), if_neg nb]) l2 h2 y0 y1 y2 e0' e1' e2' u1 u2 m0)
    by_cases w10 : k = 10
    · subst w10
      have kq : ly_hv cst h 6159 0 = some 9 := kq
      by_cases hi : 4 < vl (b : Int)
      · exact nuD9 c hM (by omega) hy (b : Int) (t : Int) (vl (b : Int)) (by omega) (by omega) (by omega) t1 (by omega) vv.2 (by omega) K2 K1 x1 kv kq rfl (fun l2 h2 y0 e0' u1 u2 u3 m0 => bad (by rw [bo, if_neg (by decide), if_neg (by decide), if_neg (by decide), if_pos (by decide), if_neg (fun z => z q2), if_pos (Or.inr (show (if (10 : Int) = 3 ∨ (10 : Int) = 9 then 9999 else if (10 : Int) = 10 then 4 else if (10 : Int) = 13 then 23 else 12 : Int) < vl (b : Int) from hi))]) l2 h2 y0 e0' u1 u2)
      have nb : ¬ (((10 : Int) = 8 ∧ vl (b : Int) < 1) ∨ (if (10 : Int) = 3 ∨ (10 : Int) = 9 then 9999 else if (10 : Int) = 10 then 4 else if (10 : Int) = 13 then 23 else 12 : Int) < vl (b : Int)) := by
        rintro (z | z)
        · omega
        · have z : (4 : Int) < vl (b : Int) := z
          omega
      exact nuB9 c hM (by omega) hy (b : Int) (t : Int) (vl (b : Int)) d (by omega) (by omega) (by omega) t1 (by omega) (by omega) d0 d1 (by omega) K2 K1 x1 kv kq kD rfl (fun l2 h2 y0 y1 y2 e0' e1' e2' u1 u2 u3 m0 => good (by rw [bo, if_neg (by decide), if_neg (by decide), if_neg (by decide), if_pos (by decide), if_neg (fun z => z q2), if_neg nb]) l2 h2 y0 y1 y2 e0' e1' e2' u1 u2 m0)
    by_cases w11 : k = 11
    · subst w11
      have kq : ly_hv cst h 6159 0 = some 10 := kq
      by_cases hi : 12 < vl (b : Int)
      · exact nuD10 c hM (by omega) hy (b : Int) (t : Int) (vl (b : Int)) (by omega) (by omega) (by omega) t1 (by omega) vv.2 (by omega) K2 K1 x1 kv kq rfl (fun l2 h2 y0 e0' u1 u2 u3 m0 => bad (by rw [bo, if_neg (by decide), if_neg (by decide), if_neg (by decide), if_pos (by decide), if_neg (fun z => z q2), if_pos (Or.inr (show (if (11 : Int) = 3 ∨ (11 : Int) = 9 then 9999 else if (11 : Int) = 10 then 4 else if (11 : Int) = 13 then 23 else 12 : Int) < vl (b : Int) from hi))]) l2 h2 y0 e0' u1 u2)
      have nb : ¬ (((11 : Int) = 8 ∧ vl (b : Int) < 1) ∨ (if (11 : Int) = 3 ∨ (11 : Int) = 9 then 9999 else if (11 : Int) = 10 then 4 else if (11 : Int) = 13 then 23 else 12 : Int) < vl (b : Int)) := by
        rintro (z | z)
        · omega
        · have z : (12 : Int) < vl (b : Int) := z
          omega
      exact nuB10 c hM (by omega) hy (b : Int) (t : Int) (vl (b : Int)) d (by omega) (by omega) (by omega) t1 (by omega) (by omega) d0 d1 (by omega) K2 K1 x1 kv kq kD rfl (fun l2 h2 y0 y1 y2 e0' e1' e2' u1 u2 u3 m0 => good (by rw [bo, if_neg (by decide), if_neg (by decide), if_neg (by decide), if_pos (by decide), if_neg (fun z => z q2), if_neg nb]) l2 h2 y0 y1 y2 e0' e1' e2' u1 u2 m0)
    by_cases w12 : k = 12
    · subst w12
      have kq : ly_hv cst h 6159 0 = some 11 := kq
      by_cases hi : 12 < vl (b : Int)
      · exact nuD11 c hM (by omega) hy (b : Int) (t : Int) (vl (b : Int)) (by omega) (by omega) (by omega) t1 (by omega) vv.2 (by omega) K2 K1 x1 kv kq rfl (fun l2 h2 y0 e0' u1 u2 u3 m0 => bad (by rw [bo, if_neg (by decide), if_neg (by decide), if_neg (by decide), if_pos (by decide), if_neg (fun z => z q2), if_pos (Or.inr (show (if (12 : Int) = 3 ∨ (12 : Int) = 9 then 9999 else if (12 : Int) = 10 then 4 else if (12 : Int) = 13 then 23 else 12 : Int) < vl (b : Int) from hi))]) l2 h2 y0 e0' u1 u2)
      have nb : ¬ (((12 : Int) = 8 ∧ vl (b : Int) < 1) ∨ (if (12 : Int) = 3 ∨ (12 : Int) = 9 then 9999 else if (12 : Int) = 10 then 4 else if (12 : Int) = 13 then 23 else 12 : Int) < vl (b : Int)) := by
        rintro (z | z)
        · omega
        · have z : (12 : Int) < vl (b : Int) := z
          omega
      exact nuB11 c hM (by omega) hy (b : Int) (t : Int) (vl (b : Int)) d (by omega) (by omega) (by omega) t1 (by omega) (by omega) d0 d1 (by omega) K2 K1 x1 kv kq kD rfl (fun l2 h2 y0 y1 y2 e0' e1' e2' u1 u2 u3 m0 => good (by rw [bo, if_neg (by decide), if_neg (by decide), if_neg (by decide), if_pos (by decide), if_neg (fun z => z q2), if_neg nb]) l2 h2 y0 y1 y2 e0' e1' e2' u1 u2 m0)
    by_cases w13 : k = 13
    · subst w13
      have kq : ly_hv cst h 6159 0 = some 12 := kq
      by_cases hi : 23 < vl (b : Int)
      · exact nuD12 c hM (by omega) hy (b : Int) (t : Int) (vl (b : Int)) (by omega) (by omega) (by omega) t1 (by omega) vv.2 (by omega) K2 K1 x1 kv kq rfl (fun l2 h2 y0 e0' u1 u2 u3 m0 => bad (by rw [bo, if_neg (by decide), if_neg (by decide), if_neg (by decide), if_pos (by decide), if_neg (fun z => z q2), if_pos (Or.inr (show (if (13 : Int) = 3 ∨ (13 : Int) = 9 then 9999 else if (13 : Int) = 10 then 4 else if (13 : Int) = 13 then 23 else 12 : Int) < vl (b : Int) from hi))]) l2 h2 y0 e0' u1 u2)
      have nb : ¬ (((13 : Int) = 8 ∧ vl (b : Int) < 1) ∨ (if (13 : Int) = 3 ∨ (13 : Int) = 9 then 9999 else if (13 : Int) = 10 then 4 else if (13 : Int) = 13 then 23 else 12 : Int) < vl (b : Int)) := by
        rintro (z | z)
        · omega
        · have z : (23 : Int) < vl (b : Int) := z
          omega
      exact nuB12 c hM (by omega) hy (b : Int) (t : Int) (vl (b : Int)) d (by omega) (by omega) (by omega) t1 (by omega) (by omega) d0 d1 (by omega) K2 K1 x1 kv kq kD rfl (fun l2 h2 y0 y1 y2 e0' e1' e2' u1 u2 u3 m0 => good (by rw [bo, if_neg (by decide), if_neg (by decide), if_neg (by decide), if_pos (by decide), if_neg (fun z => z q2), if_neg nb]) l2 h2 y0 y1 y2 e0' e1' e2' u1 u2 m0)
    omega
  obtain ⟨n', r, hgo, q, r1, r2, r3, r4⟩ := start
  simp only [Nat.zero_add] at r2 r3
  exact ⟨r, Or.inr ⟨M, n', hM, hl, hgo⟩, q, r1, r2, r3, r4⟩
/-- readStrike of the class -/
theorem st_run {cst : am_K} {strs : List Nat} {D : Nat} {h : am_H} (c1 : hp_C cst strs D) (c : hp_C cst strs (D + 1)) (hD : 3 ≤ D) (hy : ly_hy m_tt ly_TH h) {kd pl vl : Int → Int} {t : Nat} {n : Int} {f : Int → Int} {en : Nat → Int} (T : tkT f n t kd pl vl en) (t1 : (t : Int) ≤ 1200) (n0 : 0 ≤ n) (n1 : n ≤ 1200) (kb : kB kd t) (vb : vB kd vl t) (X : ct cst h kd pl vl t n) {i0 : List Int} {c0 : List cl} {C : List cl} {A d e0 : Int} (ri : (i0.length : Int) + n ≤ 10220) (ci : ((cit C).length : Int) ≤ e0) (e00 : 0 ≤ e0) (rc : (c0.length : Int) + (C.length : Int) ≤ 1239) (A0 : 0 ≤ A) (A1 : A ≤ 30) (d0 : -9223372036854775808 ≤ d) (d1 : d ≤ 9223372036854775807) (Dr : dr cst h i0 c0 C) (I : it cst h i0 (cit C)) (kA : ly_hv cst h 3584 0 = some A) {b : Nat} (b1 : b ≤ t) (be : e0 ≤ en b) (Cc : cs cst h kd vl t b) {k : Int} (hk : k = 16) :
    ∃ r, am_Run cst m_cl m_tt m_P strs sx_bi (D + 1 + 1) 104 [.ref 40] h r ∧ (pR cst h [3588, 3594, 4608, 4864, 5120, 5376, 5632, 5888, 6154, 6155, 6156, 6157, 60010, 60011, 60012] [3594, 5888, 6154, 6155, 6156, 6157] i0 pl t n (bo kd vl t A k d b) (fun (x : Nat × Int × Int × List Int) h' => cs cst h' kd vl t x.1 ∧ dr cst h' i0 c0 (C ++ [(kf k, x.2.1, x.2.2.1, x.2.2.2)]) ∧ it cst h' i0 (cit C ++ x.2.2.2) ∧ (x.2.2.2.length : Int) ≤ en x.1 - e0 ∧ b ≤ x.1 ∧ x.1 ≤ t)) r := by
  obtain ⟨M, hM, hl⟩ := hp_M (mi := 104) (k := 1) (by decide +kernel)
  have bb := fk_b kb b
  obtain ⟨K1, K2, K3, K4⟩ := id Cc
  have mono : ∀ i j : Nat, i ≤ j → j ≤ t → en i + ((j : Int) - (i : Int)) ≤ en j := fun i j h1 h2 => by
    have := tkT_mono T (j - i) i (by omega)
    rw [show i + (j - i) = j by omega] at this
    omega
  have enb := tkT_end T b b1
  subst hk
  have start : hp_F cst strs (pR cst h [3588, 3594, 4608, 4864, 5120, 5376, 5632, 5888, 6154, 6155, 6156, 6157, 60010, 60011, 60012] [3594, 5888, 6154, 6155, 6156, 6157] i0 pl t n (bo kd vl t A 16 d b) (fun (x : Nat × Int × Int × List Int) h' => cs cst h' kd vl t x.1 ∧ dr cst h' i0 c0 (C ++ [(kf 16, x.2.1, x.2.2.1, x.2.2.2)]) ∧ it cst h' i0 (cit C ++ x.2.2.2) ∧ (x.2.2.2.length : Int) ≤ en x.1 - e0 ∧ b ≤ x.1 ∧ x.1 ≤ t)) (D + 1) M 0 (lv_args 0 [.ref 40]) [] h := by
    by_cases q2 : fk kd t b = 2
    rotate_left
    · have er : bo kd vl t A 16 d b = .inl (1, b) := by
        rw [bo, if_neg (by decide), if_neg (by decide), if_pos rfl, if_pos q2]
      have fz : ∀ (l2 : am_L) (h2 : am_H) (y0 : Int32), y0.toInt = 1 → ly_hy m_tt ly_TH h2 → ly_fr cst [] h h2 → hp_F cst strs (pR cst h [3588, 3594, 4608, 4864, 5120, 5376, 5632, 5888, 6154, 6155, 6156, 6157, 60010, 60011, 60012] [3594, 5888, 6154, 6155, 6156, 6157] i0 pl t n (bo kd vl t A 16 d b) (fun (x : Nat × Int × Int × List Int) h' => cs cst h' kd vl t x.1 ∧ dr cst h' i0 c0 (C ++ [(kf 16, x.2.1, x.2.2.1, x.2.2.2)]) ∧ it cst h' i0 (cit C ++ x.2.2.2) ∧ (x.2.2.2.length : Int) ≤ en x.1 - e0 ∧ b ≤ x.1 ∧ x.1 ≤ t)) (D + 1) M 10 l2 [.int y0, .ref 40] h2 := fun l2 h2 y0 e0' u1 u2 => fz104_10 c1 c hM (by omega) u1 t1 n0 n1 (ct_mv X u2 rfl) (by omega) (by omega) (u2 _ _ _ rfl K1) (by omega) (fun h3 q hq v1 v2 z1 z2 => pR_f er hq v1 (ly_fr_tr (hp_sub2 rfl u2) (hp_sub2 rfl v2)) (it_o (it_mv (it_mv I u2 rfl) v2 rfl)) (by rw [← e0']; exact z1) z2)
      by_cases k9 : fk kd t b ≤ 1
      · exact stA0 c hM (by omega) hy (fk kd t b) bb.1 k9 K2 rfl (fun l2 h2 y0 e0' u1 u2 u3 m0 => fz l2 h2 y0 e0' u1 u2)
      · exact stA1 c hM (by omega) hy (fk kd t b) (by omega) (by omega) K2 rfl (fun l2 h2 y0 e0' u1 u2 u3 m0 => fz l2 h2 y0 e0' u1 u2)
    have lt : b < t := fk_in (kd := kd) (by rw [q2]; decide)
    have vv := (vb b lt).2 (by rw [← fk_lt (kd := kd) lt]; exact q2)
    rw [q2] at K2
    obtain ⟨x1, -, x3, -⟩ := id X
    have kv := (x3 b lt).2.2
    by_cases qA : A ≤ vl (b : Int)
    · exact stB c hM (by omega) hy (b : Int) (t : Int) (vl (b : Int)) A (by omega) (by omega) (by omega) t1 vv.1 vv.2 A0 A1 (by omega) (by omega) K2 K1 x1 kv kA rfl (fun l2 h2 y0 e0' u1 u2 u3 m0 => fz104_40 c1 c hM (by omega) u1 t1 n0 n1 (ct_mv X u2 rfl) (by omega) (by omega) (u2 _ _ _ rfl K1) (by omega) (fun h3 q hq v1 v2 z1 z2 => pR_f (by rw [bo, if_neg (by decide), if_neg (by decide), if_pos rfl, if_neg (fun z => z q2), if_pos qA]) hq v1 (ly_fr_tr (hp_sub2 rfl u2) (hp_sub2 rfl v2)) (it_o (it_mv (it_mv I u2 rfl) v2 rfl)) (by rw [← e0']; exact z1) z2))
    refine stC c hM (by omega) hy (b : Int) (t : Int) (vl (b : Int)) A (by omega) (by omega) (by omega) t1 vv.1 vv.2 A0 A1 (by omega) (by omega) K2 K1 x1 kv kA rfl (fun l2 h2 y0 e0' u1 u2 u3 m0 m1 => ?_)
    refine lz104_51 c1 c hM (by omega) u1 t1 kb vb (ct_mv X u2 rfl) (b := b + 1) (by omega) (by omega) (fun h3 v1 v2 C3 => ?_)
    have wb : 0 ≤ wv kd vl t (b + 1) ∧ wv kd vl t (b + 1) < 1152921504606846976 := by
      unfold wv
      split
      · rename_i f1
        have lt1 : b + 1 < t := fk_in (kd := kd) (by rw [f1]; decide)
        have := (vb (b + 1) lt1).1 (by rw [← fk_lt (kd := kd) lt1]; exact f1)
        omega
      · omega
    have f3 : ly_fr cst [6154, 6155, 6156, 6157] h h3 := ly_fr_tr (hp_sub2 rfl u2) (hp_sub2 rfl v2)
    refine stD c hM (by omega) v1 (vl (b : Int)) (wv kd vl t (b + 1)) vv.1 vv.2 (by omega) (by omega) C3.2.2.1 m0 m1 (fun l4 h4 y1 y2 y3 e1 e2 e3 w1 w2 w3 g0 g1 => ?_)
    refine cz104_65 (L := []) (A := A) c1 c hM (by omega) w1 (dr_mv (dr_mv Dr f3 rfl) w2 rfl) (by rw [List.append_nil]; exact it_mv (it_mv I f3 rfl) w2 rfl) rc (by rw [List.append_nil]; omega) A0 A1 (w2 _ _ _ rfl (f3 _ _ _ rfl kA)) (fun h5 p1 p2 D5 => ?_)
    rw [e1, e2, e3] at D5
    have C5 := cs_mv (cs_mv C3 w2 rfl) p2 rfl
    have f5 : ly_fr cst [3588, 3594, 4608, 4864, 5120, 5376, 5632, 5888, 6154, 6155, 6156, 6157, 60010, 60011, 60012] h h5 := ly_fr_tr (hp_sub2 rfl f3) (ly_fr_tr (hp_sub2 rfl w2) (hp_sub2 rfl p2))
    have I5 : it cst h5 i0 (cit C ++ []) := by
      rw [List.append_nil]
      exact it_mv (it_mv (it_mv I f3 rfl) w2 rfl) p2 rfl
    have b5 := fk_b kb (b + 1)
    have mo := mono b (b + 1) (by omega) (by omega)
    by_cases q1 : fk kd t (b + 1) = 1
    · have er : bo kd vl t A 16 d b = .inr (b + 2, vl ((b + 1 : Nat) : Int), vl (b : Int), []) := by
        rw [bo, if_neg (by decide), if_neg (by decide), if_pos rfl, if_neg (fun z => z q2), if_neg qA, if_pos q1]
      have lt1 : b + 1 < t := fk_in (kd := kd) (by rw [q1]; decide)
      have ew : wv kd vl t (b + 1) = vl ((b + 1 : Nat) : Int) := if_pos q1
      rw [ew] at D5
      have kk := C5.2.1
      rw [q1] at kk
      have mo2 := mono b (b + 2) (by omega) (by omega)
      refine stE c hM (by omega) p1 (vl (b : Int)) ((b + 1 : Nat) : Int) vv.1 vv.2 (by omega) (by omega) kk C5.1 g0 g1 (fun l6 h6 y4 e4 s1 s2 s3 i0' i1' => ?_)
      refine lz104_83 c1 c hM (by omega) s1 t1 kb vb (ct_mv (ct_mv X f5 rfl) s2 rfl) (b := b + 2) (by omega) (by omega) (fun h7 d1' d2' C7 => ?_)
      exact stG c hM (by omega) d1' (vl (b : Int)) vv.1 vv.2 i0' i1' (fun h8 q hq j1 j2 j3 => pR_s (x := (b + 2, vl ((b + 1 : Nat) : Int), vl (b : Int), [])) er hq j1 (ly_fr_tr f5 (ly_fr_tr (hp_sub2 rfl s2) (ly_fr_tr (hp_sub2 rfl d2') (hp_sub2 rfl j2)))) ⟨cs_mv C7 j2 rfl, dr_mv (dr_mv (dr_mv D5 s2 rfl) d2' rfl) j2 rfl, it_mv (it_mv (it_mv I5 s2 rfl) d2' rfl) j2 rfl, by
        show ((0 : Nat) : Int) ≤ en (b + 2) - e0
        omega, by omega, by omega⟩)
    · have er : bo kd vl t A 16 d b = .inr (b + 1, 0, vl (b : Int), []) := by
        rw [bo, if_neg (by decide), if_neg (by decide), if_pos rfl, if_neg (fun z => z q2), if_neg qA, if_neg q1]
      have ew : wv kd vl t (b + 1) = 0 := if_neg q1
      rw [ew] at D5
      have fin : ∀ (h8 : am_H) (q : Int32), q.toInt = 1 → ly_hy m_tt ly_TH h8 → ly_fr cst [] h5 h8 → (pR cst h [3588, 3594, 4608, 4864, 5120, 5376, 5632, 5888, 6154, 6155, 6156, 6157, 60010, 60011, 60012] [3594, 5888, 6154, 6155, 6156, 6157] i0 pl t n (bo kd vl t A 16 d b) (fun (x : Nat × Int × Int × List Int) h' => cs cst h' kd vl t x.1 ∧ dr cst h' i0 c0 (C ++ [(kf 16, x.2.1, x.2.2.1, x.2.2.2)]) ∧ it cst h' i0 (cit C ++ x.2.2.2) ∧ (x.2.2.2.length : Int) ≤ en x.1 - e0 ∧ b ≤ x.1 ∧ x.1 ≤ t)) (some (.int q), h8, 0, 0) := fun h8 q hq j1 j2 => pR_s (x := (b + 1, 0, vl (b : Int), [])) er hq j1 (ly_fr_tr f5 (hp_sub2 rfl j2)) ⟨cs_mv C5 j2 rfl, dr_mv D5 j2 rfl, it_mv I5 j2 rfl, by
        show ((0 : Nat) : Int) ≤ en (b + 1) - e0
        omega, by omega, by omega⟩
      by_cases k9 : fk kd t (b + 1) ≤ 0
      · exact stF0 c hM (by omega) p1 (vl (b : Int)) (fk kd t (b + 1)) vv.1 vv.2 b5.1 k9 C5.2.1 g0 g1 (fun h8 q hq j1 j2 j3 => fin h8 q hq j1 j2)
      · exact stF1 c hM (by omega) p1 (vl (b : Int)) (fk kd t (b + 1)) vv.1 vv.2 (by omega) (by omega) C5.2.1 g0 g1 (fun h8 q hq j1 j2 j3 => fin h8 q hq j1 j2)
  obtain ⟨n', r, hgo, q, r1, r2, r3, r4⟩ := start
  simp only [Nat.zero_add] at r2 r3
  exact ⟨r, Or.inr ⟨M, n', hM, hl, hgo⟩, q, r1, r2, r3, r4⟩
/-- readWords of the class, from the m-th word on -/
theorem wr_lp {cst : am_K} {strs : List Nat} {D : Nat} {M : am_M} {h0 : am_H} (c1 : hp_C cst strs D) (c : hp_C cst strs (D + 1)) (hM : m_P[103]? = some M) (hD : 3 ≤ D) {kd pl vl : Int → Int} {t : Nat} {n : Int} {f : Int → Int} {en : Nat → Int} (T : tkT f n t kd pl vl en) (t1 : (t : Int) ≤ 1200) (n0 : 0 ≤ n) (n1 : n ≤ 1200) (kb : kB kd t) (vb : vB kd vl t) (X : ct cst h0 kd pl vl t n) {i0 : List Int} {c0 : List cl} {C : List cl} {A d e0 : Int} (ri : (i0.length : Int) + n ≤ 10220) (ci : ((cit C).length : Int) ≤ e0) (e00 : 0 ≤ e0) (rc : (c0.length : Int) + (C.length : Int) ≤ 1239) (A0 : 0 ≤ A) (A1 : A ≤ 30) (d0 : -9223372036854775808 ≤ d) (d1 : d ≤ 9223372036854775807) (Dr : dr cst h0 i0 c0 C) (kA : ly_hv cst h0 3584 0 = some A) (kD : ly_hv cst h0 6160 0 = some d) {b : Nat} : ∀ (F : Nat) (h : am_H) (l : am_L) (a : Nat) (L : List Int), F + L.length = 8 → a ≤ t → b ≤ a → ly_hy m_tt ly_TH h → ly_fr cst [3594, 5888, 6154, 6155, 6156, 6157] h0 h → (L = [] → fk kd t a = 1) → bo kd vl t A 1 d b = (match wo kd vl t F a L with
    | .inl f => .inl f
    | .inr (e, L) => .inr (e, d, (L.length : Int), L) : (Int × Nat) ⊕ (Nat × Int × Int × List Int)) → cs cst h kd vl t a → it cst h i0 (cit C ++ L) → (L.length : Int) ≤ en a - e0 → hp_a l 0 40 → hp_i l 1 (L.length : Int) → hp_F cst strs (pR cst h0 [3588, 3594, 4608, 4864, 5120, 5376, 5632, 5888, 6154, 6155, 6156, 6157, 60010, 60011, 60012] [3594, 5888, 6154, 6155, 6156, 6157] i0 pl t n (bo kd vl t A 1 d b) (fun (x : Nat × Int × Int × List Int) h' => cs cst h' kd vl t x.1 ∧ dr cst h' i0 c0 (C ++ [(kf 1, x.2.1, x.2.2.1, x.2.2.2)]) ∧ it cst h' i0 (cit C ++ x.2.2.2) ∧ (x.2.2.2.length : Int) ≤ en x.1 - e0 ∧ b ≤ x.1 ∧ x.1 ≤ t)) (D + 1) M 2 l [] h := by
  intro F
  induction F with
  | zero =>
    intro h l a L hN a1 ab hy fr L0 E Cc I pot l0 l1
    have bb := fk_b kb a
    have ena := tkT_end T a a1
    obtain ⟨K1, K2, K3, K4⟩ := id Cc
    have len : (cit C ++ L).length = (cit C).length + L.length := List.length_append
    rw [show (L.length : Int) = 8 by omega] at l1
    by_cases q1 : fk kd t a = 1
    · have er : bo kd vl t A 1 d b = .inl (4, a) := by
        rw [E, wo, if_pos q1]
      rw [q1] at K2
      exact wrF c hM (by omega) hy K2 l0 l1 (fun l2 h2 y0 e0' u1 u2 u3 m0 => fz103_63 c1 c hM (by omega) u1 t1 n0 n1 (ct_mv (ct_mv X fr rfl) u2 rfl) (by omega) (by omega) (u2 _ _ _ rfl K1) (by omega) (fun h3 q hq v1 v2 z1 z2 => pR_f er hq v1 (ly_fr_tr (hp_sub2 rfl fr) (ly_fr_tr (hp_sub2 rfl u2) (hp_sub2 rfl v2))) (it_o (it_mv (it_mv I u2 rfl) v2 rfl)) (by rw [← e0']; exact z1) z2))
    · have er : bo kd vl t A 1 d b = .inr (a, d, (L.length : Int), L) := by
        rw [E, wo, if_neg q1]
      have fin : ∀ (l2 : am_L) (h2 : am_H) (y0 : Int32) (y1 : Int64) (y2 : Int32), y0.toInt = 8 → y1.toInt = d → y2.toInt = 1 → ly_hy m_tt ly_TH h2 → ly_fr cst [] h h2 → hp_a l2 0 40 → hp_F cst strs (pR cst h0 [3588, 3594, 4608, 4864, 5120, 5376, 5632, 5888, 6154, 6155, 6156, 6157, 60010, 60011, 60012] [3594, 5888, 6154, 6155, 6156, 6157] i0 pl t n (bo kd vl t A 1 d b) (fun (x : Nat × Int × Int × List Int) h' => cs cst h' kd vl t x.1 ∧ dr cst h' i0 c0 (C ++ [(kf 1, x.2.1, x.2.2.1, x.2.2.2)]) ∧ it cst h' i0 (cit C ++ x.2.2.2) ∧ (x.2.2.2.length : Int) ≤ en x.1 - e0 ∧ b ≤ x.1 ∧ x.1 ≤ t)) (D + 1) M 77 l2 [.int y0, .long y1, .int y2, .ref 30] h2 := by
        intro l2 h2 y0 y1 y2 e0' e1' e2' u1 u2 m0
        refine cz103_77 (L := L) (A := A) c1 c hM (by omega) u1 (dr_mv (dr_mv Dr fr rfl) u2 rfl) (it_mv I u2 rfl) rc (by omega) A0 A1 (u2 _ _ _ rfl (fr _ _ _ rfl kA)) (fun h3 v1 v2 D3 => ?_)
        rw [e0', e1', e2', show (8 : Int) = (L.length : Int) by omega] at D3
        exact wrG c hM (by omega) v1 m0 (fun h4 q hq w1 w2 w3 => pR_s (x := (a, d, (L.length : Int), L)) er hq w1 (ly_fr_tr (hp_sub2 rfl fr) (ly_fr_tr (hp_sub2 rfl u2) (ly_fr_tr (hp_sub2 rfl v2) (hp_sub2 rfl w2)))) ⟨cs_mv (cs_mv (cs_mv Cc u2 rfl) v2 rfl) w2 rfl, dr_mv D3 w2 rfl, it_mv (it_mv (it_mv I u2 rfl) v2 rfl) w2 rfl, pot, ab, a1⟩)
      by_cases k9 : fk kd t a ≤ 0
      · exact wrE0 c hM (by omega) hy 8 (fk kd t a) d (by omega) (by omega) bb.1 k9 d0 d1 K2 (fr _ _ _ rfl kD) l0 l1 (fun l2 h2 y0 y1 y2 e0' e1' e2' u1 u2 u3 m0 => fin l2 h2 y0 y1 y2 e0' e1' e2' u1 u2 m0)
      · exact wrE1 c hM (by omega) hy 8 (fk kd t a) d (by omega) (by omega) (by omega) (by omega) d0 d1 K2 (fr _ _ _ rfl kD) l0 l1 (fun l2 h2 y0 y1 y2 e0' e1' e2' u1 u2 u3 m0 => fin l2 h2 y0 y1 y2 e0' e1' e2' u1 u2 m0)
  | succ F ih =>
    intro h l a L hN a1 ab hy fr L0 E Cc I pot l0 l1
    have bb := fk_b kb a
    have ena := tkT_end T a a1
    obtain ⟨K1, K2, K3, K4⟩ := id Cc
    have len : (cit C ++ L).length = (cit C).length + L.length := List.length_append
    by_cases q1 : fk kd t a = 1
    · have lt : a < t := fk_in (kd := kd) (by rw [q1]; decide)
      have vv := (vb a lt).1 (by rw [← fk_lt (kd := kd) lt]; exact q1)
      have ew : wv kd vl t a = vl (a : Int) := if_pos q1
      have kk := K2
      rw [q1] at kk
      have kw' := K3
      rw [ew] at kw'
      have mo := tkT_mono T 1 a (by omega)
      have ena1 := tkT_end T (a + 1) (by omega)
      refine wrA c hM (by omega) hy (L.length : Int) (vl (a : Int)) (by omega) (by omega) vv.1 (by omega) kk kw' l0 l1 (fun l2 h2 y0 e0' u1 u2 u3 m0 m1 => ?_)
      refine dz103_24 c1 c hM (by omega) u1 (it_mv I u2 rfl) (by omega) (fun h3 v1 v2 I3 => ?_)
      rw [e0', List.append_assoc] at I3
      refine wrB c hM (by omega) v1 (L.length : Int) (a : Int) (by omega) (by omega) (by omega) (by omega) (v2 _ _ _ rfl (u2 _ _ _ rfl K1)) m0 m1 (fun l4 h4 y1 e1 w1 w2 w3 g0 g1 => ?_)
      have f4 : ly_fr cst [3594, 5888, 6154, 6155, 6156, 6157] h0 h4 := ly_fr_tr fr (ly_fr_tr (hp_sub2 rfl u2) (ly_fr_tr (hp_sub2 rfl v2) (hp_sub2 rfl w2)))
      refine lz103_34 c1 c hM (by omega) w1 t1 kb vb (ct_mv X f4 rfl) (b := a + 1) (by omega) (by omega) (fun h5 p1 p2 C5 => ?_)
      have len9 : (L ++ [vl (a : Int)]).length = L.length + 1 := by
        rw [List.length_append, List.length_singleton]
      exact wrC c hM (by omega) p1 (L.length : Int) (by omega) (by omega) g0 g1 (fun l6 h6 s1 s2 s3 i0' i1' => ih h6 l6 (a + 1) (L ++ [vl (a : Int)]) (by omega) (by omega) (by omega) s1 (ly_fr_tr f4 (ly_fr_tr (hp_sub2 rfl p2) (hp_sub2 rfl s2))) (fun z => by simp at z) (by rw [E, wo, if_pos q1]) (cs_mv C5 s2 rfl) (it_mv (it_mv (it_mv I3 w2 rfl) p2 rfl) s2 rfl) (by omega) i0' (by rw [len9]; exact i1'))
    · have L1 : L ≠ [] := fun z => q1 (L0 z)
      have L2 : 1 ≤ L.length := List.length_pos_iff.mpr L1
      have er : bo kd vl t A 1 d b = .inr (a, d, (L.length : Int), L) := by
        rw [E, wo, if_neg q1]
      have fin : ∀ (l2 : am_L) (h2 : am_H) (y0 : Int32) (y1 : Int64) (y2 : Int32), y0.toInt = (L.length : Int) → y1.toInt = d → y2.toInt = 1 → ly_hy m_tt ly_TH h2 → ly_fr cst [] h h2 → hp_a l2 0 40 → hp_F cst strs (pR cst h0 [3588, 3594, 4608, 4864, 5120, 5376, 5632, 5888, 6154, 6155, 6156, 6157, 60010, 60011, 60012] [3594, 5888, 6154, 6155, 6156, 6157] i0 pl t n (bo kd vl t A 1 d b) (fun (x : Nat × Int × Int × List Int) h' => cs cst h' kd vl t x.1 ∧ dr cst h' i0 c0 (C ++ [(kf 1, x.2.1, x.2.2.1, x.2.2.2)]) ∧ it cst h' i0 (cit C ++ x.2.2.2) ∧ (x.2.2.2.length : Int) ≤ en x.1 - e0 ∧ b ≤ x.1 ∧ x.1 ≤ t)) (D + 1) M 77 l2 [.int y0, .long y1, .int y2, .ref 30] h2 := by
        intro l2 h2 y0 y1 y2 e0' e1' e2' u1 u2 m0
        refine cz103_77 (L := L) (A := A) c1 c hM (by omega) u1 (dr_mv (dr_mv Dr fr rfl) u2 rfl) (it_mv I u2 rfl) rc (by omega) A0 A1 (u2 _ _ _ rfl (fr _ _ _ rfl kA)) (fun h3 v1 v2 D3 => ?_)
        rw [e0', e1', e2'] at D3
        exact wrG c hM (by omega) v1 m0 (fun h4 q hq w1 w2 w3 => pR_s (x := (a, d, (L.length : Int), L)) er hq w1 (ly_fr_tr (hp_sub2 rfl fr) (ly_fr_tr (hp_sub2 rfl u2) (ly_fr_tr (hp_sub2 rfl v2) (hp_sub2 rfl w2)))) ⟨cs_mv (cs_mv (cs_mv Cc u2 rfl) v2 rfl) w2 rfl, dr_mv D3 w2 rfl, it_mv (it_mv (it_mv I u2 rfl) v2 rfl) w2 rfl, pot, ab, a1⟩)
      by_cases k9 : fk kd t a ≤ 0
      · exact wrE0 c hM (by omega) hy (L.length : Int) (fk kd t a) d (by omega) (by omega) bb.1 k9 d0 d1 K2 (fr _ _ _ rfl kD) l0 l1 (fun l2 h2 y0 y1 y2 e0' e1' e2' u1 u2 u3 m0 => fin l2 h2 y0 y1 y2 e0' e1' e2' u1 u2 m0)
      · exact wrE1 c hM (by omega) hy (L.length : Int) (fk kd t a) d (by omega) (by omega) (by omega) (by omega) d0 d1 K2 (fr _ _ _ rfl kD) l0 l1 (fun l2 h2 y0 y1 y2 e0' e1' e2' u1 u2 u3 m0 => fin l2 h2 y0 y1 y2 e0' e1' e2' u1 u2 m0)
/-- readWords of the class -/
theorem wr_run {cst : am_K} {strs : List Nat} {D : Nat} {h : am_H} (c1 : hp_C cst strs D) (c : hp_C cst strs (D + 1)) (hD : 3 ≤ D) (hy : ly_hy m_tt ly_TH h) {kd pl vl : Int → Int} {t : Nat} {n : Int} {f : Int → Int} {en : Nat → Int} (T : tkT f n t kd pl vl en) (t1 : (t : Int) ≤ 1200) (n0 : 0 ≤ n) (n1 : n ≤ 1200) (kb : kB kd t) (vb : vB kd vl t) (X : ct cst h kd pl vl t n) {i0 : List Int} {c0 : List cl} {C : List cl} {A d e0 : Int} (ri : (i0.length : Int) + n ≤ 10220) (ci : ((cit C).length : Int) ≤ e0) (e00 : 0 ≤ e0) (rc : (c0.length : Int) + (C.length : Int) ≤ 1239) (A0 : 0 ≤ A) (A1 : A ≤ 30) (d0 : -9223372036854775808 ≤ d) (d1 : d ≤ 9223372036854775807) (Dr : dr cst h i0 c0 C) (I : it cst h i0 (cit C)) (kA : ly_hv cst h 3584 0 = some A) (kD : ly_hv cst h 6160 0 = some d) {b : Nat} (b1 : b ≤ t) (be : e0 ≤ en b) (Cc : cs cst h kd vl t b) {k : Int} (hk : k = 1) :
    ∃ r, am_Run cst m_cl m_tt m_P strs sx_bi (D + 1 + 1) 103 [.ref 40] h r ∧ (pR cst h [3588, 3594, 4608, 4864, 5120, 5376, 5632, 5888, 6154, 6155, 6156, 6157, 60010, 60011, 60012] [3594, 5888, 6154, 6155, 6156, 6157] i0 pl t n (bo kd vl t A k d b) (fun (x : Nat × Int × Int × List Int) h' => cs cst h' kd vl t x.1 ∧ dr cst h' i0 c0 (C ++ [(kf k, x.2.1, x.2.2.1, x.2.2.2)]) ∧ it cst h' i0 (cit C ++ x.2.2.2) ∧ (x.2.2.2.length : Int) ≤ en x.1 - e0 ∧ b ≤ x.1 ∧ x.1 ≤ t)) r := by
  obtain ⟨M, hM, hl⟩ := hp_M (mi := 103) (k := 1) (by decide +kernel)
  subst hk
  have bb := fk_b kb b
  obtain ⟨K1, K2, K3, K4⟩ := id Cc
  have start : hp_F cst strs (pR cst h [3588, 3594, 4608, 4864, 5120, 5376, 5632, 5888, 6154, 6155, 6156, 6157, 60010, 60011, 60012] [3594, 5888, 6154, 6155, 6156, 6157] i0 pl t n (bo kd vl t A 1 d b) (fun (x : Nat × Int × Int × List Int) h' => cs cst h' kd vl t x.1 ∧ dr cst h' i0 c0 (C ++ [(kf 1, x.2.1, x.2.2.1, x.2.2.2)]) ∧ it cst h' i0 (cit C ++ x.2.2.2) ∧ (x.2.2.2.length : Int) ≤ en x.1 - e0 ∧ b ≤ x.1 ∧ x.1 ≤ t)) (D + 1) M 0 (lv_args 0 [.ref 40]) [] h := by
    refine wr0 c hM (by omega) hy rfl (fun l2 h2 u1 u2 u3 m0 m1 => ?_)
    by_cases q1 : fk kd t b = 1
    · exact wr_lp c1 c hM hD T t1 n0 n1 kb vb X ri ci e00 rc A0 A1 d0 d1 Dr kA kD 8 h2 l2 b [] rfl b1 (Nat.le_refl _) u1 (hp_sub2 rfl u2) (fun _ => q1) (by rw [bo, if_neg (by decide), if_pos rfl, if_neg (fun z => z q1)]; rfl) (cs_mv Cc u2 rfl) (by rw [List.append_nil]; exact it_mv I u2 rfl) (by
        show ((0 : Nat) : Int) ≤ en b - e0
        omega) m0 m1
    · have er : bo kd vl t A 1 d b = .inl (1, b) := by
        rw [bo, if_neg (by decide), if_pos rfl, if_pos q1]
      have fz : ∀ (l3 : am_L) (h3 : am_H) (y0 : Int32), y0.toInt = 1 → ly_hy m_tt ly_TH h3 → ly_fr cst [] h2 h3 → hp_F cst strs (pR cst h [3588, 3594, 4608, 4864, 5120, 5376, 5632, 5888, 6154, 6155, 6156, 6157, 60010, 60011, 60012] [3594, 5888, 6154, 6155, 6156, 6157] i0 pl t n (bo kd vl t A 1 d b) (fun (x : Nat × Int × Int × List Int) h' => cs cst h' kd vl t x.1 ∧ dr cst h' i0 c0 (C ++ [(kf 1, x.2.1, x.2.2.1, x.2.2.2)]) ∧ it cst h' i0 (cit C ++ x.2.2.2) ∧ (x.2.2.2.length : Int) ≤ en x.1 - e0 ∧ b ≤ x.1 ∧ x.1 ≤ t)) (D + 1) M 49 l3 [.int y0, .ref 40] h3 := fun l3 h3 y0 e0' v1 v2 => fz103_49 c1 c hM (by omega) v1 t1 n0 n1 (ct_mv (ct_mv X u2 rfl) v2 rfl) (by omega) (by omega) (v2 _ _ _ rfl (u2 _ _ _ rfl K1)) (by omega) (fun h4 q hq w1 w2 z1 z2 => pR_f er hq w1 (ly_fr_tr (hp_sub2 rfl u2) (ly_fr_tr (hp_sub2 rfl v2) (hp_sub2 rfl w2))) (it_o (it_mv (it_mv (it_mv I u2 rfl) v2 rfl) w2 rfl)) (by rw [← e0']; exact z1) z2)
      by_cases k9 : fk kd t b ≤ 0
      · exact wrD0 c hM (by omega) u1 (fk kd t b) bb.1 k9 (u2 _ _ _ rfl K2) m0 m1 (fun l3 h3 y0 e0' v1 v2 v3 g0 => fz l3 h3 y0 e0' v1 v2)
      · exact wrD1 c hM (by omega) u1 (fk kd t b) (by omega) (by omega) (u2 _ _ _ rfl K2) m0 m1 (fun l3 h3 y0 e0' v1 v2 v3 g0 => fz l3 h3 y0 e0' v1 v2)
  obtain ⟨n', r, hgo, q, r1, r2, r3, r4⟩ := start
  simp only [Nat.zero_add] at r2 r3
  exact ⟨r, Or.inr ⟨M, n', hM, hl, hgo⟩, q, r1, r2, r3, r4⟩
