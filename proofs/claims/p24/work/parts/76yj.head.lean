/-! PRINTED by wip/p2/hp_head.py: readDeedName, readHead, readBody of the class, exactly -/
theorem dnA0_k : hp_chk 87 0 2 [(0, 0, 1152921504606846976), (1, 0, 0)] [] [(0, .inr (.inr (.inl (some 40))))] [] [(6156, (0, []), (0, [(0, 1)])), (6155, (0, []), (0, [(1, 1)]))] [6160] 2 [(18, ([], 2, [(0, 0, 1152921504606846976), (1, 0, 0)], [], [(0, .inr (.inr (.inl (some 40))))], [.inl (1, []), .inr (.inr (.inl (some 40)))], []))] [] = true := by decide +kernel
theorem dnA0 {cst : am_K} {strs : List Nat} {Φ : am_Q → Prop} {D : Nat} {M : am_M} {h : am_H} {l : am_L} (c : hp_C cst strs D) (hM : m_P[87]? = some M) (hD : (2 : Int) ≤ (D : Int) + 1) (hy : ly_hy m_tt ly_TH h) (v k : Int) (b0 : 0 ≤ v) (t0 : v ≤ 1152921504606846976) (b1 : 0 ≤ k) (t1 : k ≤ 0) (k0 : ly_hv cst h 6156 0 = some (v)) (k1 : ly_hv cst h 6155 0 = some (k)) (l0 : hp_a l 0 40) (e0 : ∀ (l' : am_L) (h' : am_H) (y0 : Int32), y0.toInt = 1 → ly_hy m_tt ly_TH h' → ly_fr cst [6160] h h' → h.length ≤ h'.length → hp_a l' 0 40 → hp_F cst strs Φ D M 18 l' [.int y0, .ref 40] h') : hp_F cst strs Φ D M 0 l [] h := by
  refine hp_arc c hM dnA0_k hD [v, k] rfl hy (hp_Bc (z := v) rfl b0 t0 (hp_Bc (z := k) rfl b1 t1 hp_Bn)) hp_Fn (hp_Kc (zi := (0 + 0)) (zv := (0 + (1 * v + 0))) k0 rfl rfl (by omega) (by omega) (hp_Kc (zi := (0 + 0)) (zv := (0 + (1 * k + 0))) k1 rfl rfl (by omega) (by omega) hp_Kn)) (hp_La l0 hp_Ln) trivial ?_ ?_
  · intro p hp ys l' st' h' hys a1 a2 a3 gZ gL gS
    rcases List.mem_cons.mp hp with rfl | hp
    · obtain rfl := hp_y0 hys
      obtain ⟨y0, t0, rfl, q0, g0⟩ := hp_gSi (z := (1 + 0)) gS rfl
      obtain ⟨t1, rfl, g1⟩ := hp_gSa g0 (by decide)
      cases hp_gSn g1
      exact e0 l' h' y0 (by omega) a1 a2 a3 (hp_gLa gL (List.mem_of_getElem? (i := 0) rfl) (by decide))
    cases hp
  · intro p hp ys v h' hys a1 a2 a3 gZ gS
    cases hp
theorem dnA1_k : hp_chk 87 0 2 [(0, 0, 1152921504606846976), (1, 2, 255)] [] [(0, .inr (.inr (.inl (some 40))))] [] [(6156, (0, []), (0, [(0, 1)])), (6155, (0, []), (0, [(1, 1)]))] [6160] 2 [(18, ([], 2, [(0, 0, 1152921504606846976), (1, 2, 255)], [], [(0, .inr (.inr (.inl (some 40))))], [.inl (1, []), .inr (.inr (.inl (some 40)))], []))] [] = true := by decide +kernel
theorem dnA1 {cst : am_K} {strs : List Nat} {Φ : am_Q → Prop} {D : Nat} {M : am_M} {h : am_H} {l : am_L} (c : hp_C cst strs D) (hM : m_P[87]? = some M) (hD : (2 : Int) ≤ (D : Int) + 1) (hy : ly_hy m_tt ly_TH h) (v k : Int) (b0 : 0 ≤ v) (t0 : v ≤ 1152921504606846976) (b1 : 2 ≤ k) (t1 : k ≤ 255) (k0 : ly_hv cst h 6156 0 = some (v)) (k1 : ly_hv cst h 6155 0 = some (k)) (l0 : hp_a l 0 40) (e0 : ∀ (l' : am_L) (h' : am_H) (y0 : Int32), y0.toInt = 1 → ly_hy m_tt ly_TH h' → ly_fr cst [6160] h h' → h.length ≤ h'.length → hp_a l' 0 40 → hp_F cst strs Φ D M 18 l' [.int y0, .ref 40] h') : hp_F cst strs Φ D M 0 l [] h := by
  refine hp_arc c hM dnA1_k hD [v, k] rfl hy (hp_Bc (z := v) rfl b0 t0 (hp_Bc (z := k) rfl b1 t1 hp_Bn)) hp_Fn (hp_Kc (zi := (0 + 0)) (zv := (0 + (1 * v + 0))) k0 rfl rfl (by omega) (by omega) (hp_Kc (zi := (0 + 0)) (zv := (0 + (1 * k + 0))) k1 rfl rfl (by omega) (by omega) hp_Kn)) (hp_La l0 hp_Ln) trivial ?_ ?_
  · intro p hp ys l' st' h' hys a1 a2 a3 gZ gL gS
    rcases List.mem_cons.mp hp with rfl | hp
    · obtain rfl := hp_y0 hys
      obtain ⟨y0, t0, rfl, q0, g0⟩ := hp_gSi (z := (1 + 0)) gS rfl
      obtain ⟨t1, rfl, g1⟩ := hp_gSa g0 (by decide)
      cases hp_gSn g1
      exact e0 l' h' y0 (by omega) a1 a2 a3 (hp_gLa gL (List.mem_of_getElem? (i := 0) rfl) (by decide))
    cases hp
  · intro p hp ys v h' hys a1 a2 a3 gZ gS
    cases hp
theorem dnB_k : hp_chk 87 0 2 [(0, 0, 1152921504606846976), (1, 0, 6)] [] [(0, .inr (.inr (.inl (some 40))))] [] [(6156, (0, []), (0, [(0, 1)])), (6155, (0, []), (1, [])), (6159, (0, []), (0, [(1, 1)]))] [6160] 2 [(34, ([], 2, [(0, 0, 1152921504606846976), (1, 0, 6)], [], [(0, .inr (.inr (.inl (some 40))))], [.inr (.inl (0, [(0, 1)])), .inl (0, [(1, 1)]), .inr (.inr (.inl (some 30)))], [(6160, (0, []), (0, [(0, 1)]))]))] [] = true := by decide +kernel
theorem dnB {cst : am_K} {strs : List Nat} {Φ : am_Q → Prop} {D : Nat} {M : am_M} {h : am_H} {l : am_L} (c : hp_C cst strs D) (hM : m_P[87]? = some M) (hD : (2 : Int) ≤ (D : Int) + 1) (hy : ly_hy m_tt ly_TH h) (v q : Int) (b0 : 0 ≤ v) (t0 : v ≤ 1152921504606846976) (b1 : 0 ≤ q) (t1 : q ≤ 6) (k0 : ly_hv cst h 6156 0 = some (v)) (k1 : ly_hv cst h 6155 0 = some 1) (k2 : ly_hv cst h 6159 0 = some (q)) (l0 : hp_a l 0 40) (e0 : ∀ (l' : am_L) (h' : am_H) (y0 : Int64) (y1 : Int32), y0.toInt = (v) → y1.toInt = (q) → ly_hy m_tt ly_TH h' → ly_fr cst [6160] h h' → h.length ≤ h'.length → ly_hv cst h' 6160 0 = some (v) → hp_a l' 0 40 → hp_F cst strs Φ D M 34 l' [.long y0, .int y1, .ref 30] h') : hp_F cst strs Φ D M 0 l [] h := by
  refine hp_arc c hM dnB_k hD [v, q] rfl hy (hp_Bc (z := v) rfl b0 t0 (hp_Bc (z := q) rfl b1 t1 hp_Bn)) hp_Fn (hp_Kc (zi := (0 + 0)) (zv := (0 + (1 * v + 0))) k0 rfl rfl (by omega) (by omega) (hp_Kc (zi := (0 + 0)) (zv := (1 + 0)) k1 rfl rfl (by omega) (by omega) (hp_Kc (zi := (0 + 0)) (zv := (0 + (1 * q + 0))) k2 rfl rfl (by omega) (by omega) hp_Kn))) (hp_La l0 hp_Ln) trivial ?_ ?_
  · intro p hp ys l' st' h' hys a1 a2 a3 gZ gL gS
    rcases List.mem_cons.mp hp with rfl | hp
    · obtain rfl := hp_y0 hys
      obtain ⟨y0, t0, rfl, q0, g0⟩ := hp_gSj (z := (0 + (1 * v + 0))) gS rfl
      obtain ⟨y1, t1, rfl, q1, g1⟩ := hp_gSi (z := (0 + (1 * q + 0))) g0 rfl
      obtain ⟨t2, rfl, g2⟩ := hp_gSa g1 (by decide)
      cases hp_gSn g2
      exact e0 l' h' y0 y1 (by omega) (by omega) a1 a2 a3 (hp_gK (zi := (0 + 0)) (zv := (0 + (1 * v + 0))) gZ.2.2.2 (List.mem_of_getElem? (i := 0) rfl) rfl rfl (by omega) (by omega)) (hp_gLa gL (List.mem_of_getElem? (i := 0) rfl) (by decide))
    cases hp
  · intro p hp ys v h' hys a1 a2 a3 gZ gS
    cases hp
theorem dnC_k : hp_chk 87 37 0 [] [] [(0, .inr (.inr (.inl (some 40))))] [.inl (1, [])] [] [] 2 [(42, ([], 0, [], [], [(0, .inr (.inr (.inl (some 40))))], [.inl (3, []), .inr (.inr (.inl (some 40)))], []))] [] = true := by decide +kernel
theorem dnC {cst : am_K} {strs : List Nat} {Φ : am_Q → Prop} {D : Nat} {M : am_M} {h : am_H} {l : am_L} (c : hp_C cst strs D) (hM : m_P[87]? = some M) (hD : (2 : Int) ≤ (D : Int) + 1) (hy : ly_hy m_tt ly_TH h) (x0 : Int32) (hx0 : x0.toInt = 1) (l0 : hp_a l 0 40) (e0 : ∀ (l' : am_L) (h' : am_H) (y0 : Int32), y0.toInt = 3 → ly_hy m_tt ly_TH h' → ly_fr cst [] h h' → h.length ≤ h'.length → hp_a l' 0 40 → hp_F cst strs Φ D M 42 l' [.int y0, .ref 40] h') : hp_F cst strs Φ D M 37 l [.int x0] h := by
  refine hp_arc c hM dnC_k hD [] rfl hy hp_Bn hp_Fn hp_Kn (hp_La l0 hp_Ln) (hp_Si (z := (1 + 0)) rfl (by omega) trivial) ?_ ?_
  · intro p hp ys l' st' h' hys a1 a2 a3 gZ gL gS
    rcases List.mem_cons.mp hp with rfl | hp
    · obtain rfl := hp_y0 hys
      obtain ⟨y0, t0, rfl, q0, g0⟩ := hp_gSi (z := (3 + 0)) gS rfl
      obtain ⟨t1, rfl, g1⟩ := hp_gSa g0 (by decide)
      cases hp_gSn g1
      exact e0 l' h' y0 (by omega) a1 a2 a3 (hp_gLa gL (List.mem_of_getElem? (i := 0) rfl) (by decide))
    cases hp
  · intro p hp ys v h' hys a1 a2 a3 gZ gS
    cases hp
theorem dnD_k : hp_chk 87 37 1 [(0, 0, 1199)] [] [(0, .inr (.inr (.inl (some 40))))] [.inl (0, [])] [(6154, (0, []), (0, [(0, 1)]))] [] 2 [(53, ([], 1, [(0, 0, 1199)], [], [(0, .inr (.inr (.inl (some 40))))], [.inl (1, [(0, 1)]), .inr (.inr (.inl (some 40)))], []))] [] = true := by decide +kernel
theorem dnD {cst : am_K} {strs : List Nat} {Φ : am_Q → Prop} {D : Nat} {M : am_M} {h : am_H} {l : am_L} (c : hp_C cst strs D) (hM : m_P[87]? = some M) (hD : (2 : Int) ≤ (D : Int) + 1) (hy : ly_hy m_tt ly_TH h) (b : Int) (x0 : Int32) (hx0 : x0.toInt = 0) (b0 : 0 ≤ b) (t0 : b ≤ 1199) (k0 : ly_hv cst h 6154 0 = some (b)) (l0 : hp_a l 0 40) (e0 : ∀ (l' : am_L) (h' : am_H) (y0 : Int32), y0.toInt = (b + 1) → ly_hy m_tt ly_TH h' → ly_fr cst [] h h' → h.length ≤ h'.length → hp_a l' 0 40 → hp_F cst strs Φ D M 53 l' [.int y0, .ref 40] h') : hp_F cst strs Φ D M 37 l [.int x0] h := by
  refine hp_arc c hM dnD_k hD [b] rfl hy (hp_Bc (z := b) rfl b0 t0 hp_Bn) hp_Fn (hp_Kc (zi := (0 + 0)) (zv := (0 + (1 * b + 0))) k0 rfl rfl (by omega) (by omega) hp_Kn) (hp_La l0 hp_Ln) (hp_Si (z := (0 + 0)) rfl (by omega) trivial) ?_ ?_
  · intro p hp ys l' st' h' hys a1 a2 a3 gZ gL gS
    rcases List.mem_cons.mp hp with rfl | hp
    · obtain rfl := hp_y0 hys
      obtain ⟨y0, t0, rfl, q0, g0⟩ := hp_gSi (z := (1 + (1 * b + 0))) gS rfl
      obtain ⟨t1, rfl, g1⟩ := hp_gSa g0 (by decide)
      cases hp_gSn g1
      exact e0 l' h' y0 (by omega) a1 a2 a3 (hp_gLa gL (List.mem_of_getElem? (i := 0) rfl) (by decide))
    cases hp
  · intro p hp ys v h' hys a1 a2 a3 gZ gS
    cases hp
theorem dnE_k : hp_chk 87 56 0 [] [] [(0, .inr (.inr (.inl (some 40))))] [] [] [] 2 [] [([], 0, [], [], [], [.inl (1, [])], [])] = true := by decide +kernel
theorem dnE {cst : am_K} {strs : List Nat} {Φ : am_Q → Prop} {D : Nat} {M : am_M} {h : am_H} {l : am_L} (c : hp_C cst strs D) (hM : m_P[87]? = some M) (hD : (2 : Int) ≤ (D : Int) + 1) (hy : ly_hy m_tt ly_TH h) (l0 : hp_a l 0 40) (r0 : ∀ (h' : am_H) (y0 : Int32), y0.toInt = 1 → ly_hy m_tt ly_TH h' → ly_fr cst [] h h' → h.length ≤ h'.length → Φ (some (.int y0), h', 0, 0)) : hp_F cst strs Φ D M 56 l [] h := by
  refine hp_arc c hM dnE_k hD [] rfl hy hp_Bn hp_Fn hp_Kn (hp_La l0 hp_Ln) trivial ?_ ?_
  · intro p hp ys l' st' h' hys a1 a2 a3 gZ gL gS
    cases hp
  · intro p hp ys v h' hys a1 a2 a3 gZ gS
    rcases List.mem_cons.mp hp with rfl | hp
    · obtain rfl := hp_y0 hys
      cases v with
      | none => cases gS
      | some w =>
        obtain ⟨y0, t0, s0, q0, -⟩ := hp_gSi (z := (1 + 0)) gS rfl
        cases s0
        exact r0 h' y0 (by omega) a1 a2 a3
    cases hp
theorem fr87_18_k : hp_chk 87 21 0 [] [] [] [.inl (0, [])] [] [] 2 [] [([], 0, [], [], [], [.inl (0, [])], [])] = true := by decide +kernel
theorem fr87_18 {cst : am_K} {strs : List Nat} {Φ : am_Q → Prop} {D : Nat} {M : am_M} {h : am_H} {l : am_L} (c : hp_C cst strs D) (hM : m_P[87]? = some M) (hD : (2 : Int) ≤ (D : Int) + 1) (hy : ly_hy m_tt ly_TH h) (x0 : Int32) (hx0 : x0.toInt = 0) (r0 : ∀ (h' : am_H) (y0 : Int32), y0.toInt = 0 → ly_hy m_tt ly_TH h' → ly_fr cst [] h h' → h.length ≤ h'.length → Φ (some (.int y0), h', 0, 0)) : hp_F cst strs Φ D M 21 l [.int x0] h := by
  refine hp_arc c hM fr87_18_k hD [] rfl hy hp_Bn hp_Fn hp_Kn hp_Ln (hp_Si (z := (0 + 0)) rfl (by omega) trivial) ?_ ?_
  · intro p hp ys l' st' h' hys a1 a2 a3 gZ gL gS
    cases hp
  · intro p hp ys v h' hys a1 a2 a3 gZ gS
    rcases List.mem_cons.mp hp with rfl | hp
    · obtain rfl := hp_y0 hys
      cases v with
      | none => cases gS
      | some w =>
        obtain ⟨y0, t0, s0, q0, -⟩ := hp_gSi (z := (0 + 0)) gS rfl
        cases s0
        exact r0 h' y0 (by omega) a1 a2 a3
    cases hp
theorem fr87_42_k : hp_chk 87 45 0 [] [] [] [.inl (0, [])] [] [] 2 [] [([], 0, [], [], [], [.inl (0, [])], [])] = true := by decide +kernel
theorem fr87_42 {cst : am_K} {strs : List Nat} {Φ : am_Q → Prop} {D : Nat} {M : am_M} {h : am_H} {l : am_L} (c : hp_C cst strs D) (hM : m_P[87]? = some M) (hD : (2 : Int) ≤ (D : Int) + 1) (hy : ly_hy m_tt ly_TH h) (x0 : Int32) (hx0 : x0.toInt = 0) (r0 : ∀ (h' : am_H) (y0 : Int32), y0.toInt = 0 → ly_hy m_tt ly_TH h' → ly_fr cst [] h h' → h.length ≤ h'.length → Φ (some (.int y0), h', 0, 0)) : hp_F cst strs Φ D M 45 l [.int x0] h := by
  refine hp_arc c hM fr87_42_k hD [] rfl hy hp_Bn hp_Fn hp_Kn hp_Ln (hp_Si (z := (0 + 0)) rfl (by omega) trivial) ?_ ?_
  · intro p hp ys l' st' h' hys a1 a2 a3 gZ gL gS
    cases hp
  · intro p hp ys v h' hys a1 a2 a3 gZ gS
    rcases List.mem_cons.mp hp with rfl | hp
    · obtain rfl := hp_y0 hys
      cases v with
      | none => cases gS
      | some w =>
        obtain ⟨y0, t0, s0, q0, -⟩ := hp_gSi (z := (0 + 0)) gS rfl
        cases s0
        exact r0 h' y0 (by omega) a1 a2 a3
    cases hp
theorem hdN_k : hq_chk [81] 82 0 1 [(0, 0, 1152921504606846976)] [] [(0, .inr (.inr (.inl (some 40))))] [] [(6156, (0, []), (0, [(0, 1)])), (61000, ((-136356), [(0, 1)]), (1, [])), (61000, ((-24627347), [(0, 1)]), (1, [])), (61000, ((-4359816), [(0, 1)]), (1, [])), (61000, ((-206277), [(0, 1)]), (1, [])), (61000, ((-113428729), [(0, 1)]), (1, [])), (61000, ((-365744), [(0, 1)]), (1, [])), (61000, ((-431556), [(0, 1)]), (1, [])), (61000, ((-349785), [(0, 1)]), (1, [])), (61000, ((-394692), [(0, 1)]), (1, [])), (61000, ((-11566), [(0, 1)]), (1, [])), (61000, ((-3574901946597), [(0, 1)]), (1, [])), (61000, ((-9309407396), [(0, 1)]), (1, [])), (61000, ((-75148), [(0, 1)]), (1, [])), (61000, ((-736548), [(0, 1)]), (1, [])), (61000, ((-659105125), [(0, 1)]), (1, [])), (61000, ((-609441381), [(0, 1)]), (1, [])), (61000, ((-20579780), [(0, 1)]), (1, [])), (6656, (0, []), (136356, [])), (6656, (1, []), (24627347, [])), (6656, (2, []), (4359816, [])), (6656, (3, []), (206277, [])), (6656, (4, []), (113428729, [])), (6656, (5, []), (365744, [])), (6656, (6, []), (431556, [])), (6656, (7, []), (349785, [])), (6656, (8, []), (394692, [])), (6656, (9, []), (11566, [])), (6656, (10, []), (3574901946597, [])), (6656, (11, []), (9309407396, [])), (6656, (12, []), (75148, [])), (6656, (13, []), (736548, [])), (6656, (14, []), (659105125, [])), (6656, (15, []), (609441381, [])), (6656, (16, []), (20579780, []))] [6158, 6159, 6160] 3 [(25, ([], 1, [(0, 0, 1152921504606846976)], [], [(0, .inr (.inr (.inl (some 40))))], [.inl (1, []), .inr (.inr (.inl (some 40)))], []))] [] = true := by decide +kernel
theorem hdN {cst : am_K} {strs : List Nat} {Φ : am_Q → Prop} {D : Nat} {M : am_M} {h : am_H} {l : am_L} (c : hp_C cst strs D) (hM : m_P[82]? = some M) (hD : (3 : Int) ≤ (D : Int) + 1) (hy : ly_hy m_tt ly_TH h) (v : Int) (b0 : 0 ≤ v) (t0 : v ≤ 1152921504606846976) (k0 : ly_hv cst h 6156 0 = some (v)) (k1 : ly_hv cst h 61000 (v - 136356) = some 1) (k2 : ly_hv cst h 61000 (v - 24627347) = some 1) (k3 : ly_hv cst h 61000 (v - 4359816) = some 1) (k4 : ly_hv cst h 61000 (v - 206277) = some 1) (k5 : ly_hv cst h 61000 (v - 113428729) = some 1) (k6 : ly_hv cst h 61000 (v - 365744) = some 1) (k7 : ly_hv cst h 61000 (v - 431556) = some 1) (k8 : ly_hv cst h 61000 (v - 349785) = some 1) (k9 : ly_hv cst h 61000 (v - 394692) = some 1) (k10 : ly_hv cst h 61000 (v - 11566) = some 1) (k11 : ly_hv cst h 61000 (v - 3574901946597) = some 1) (k12 : ly_hv cst h 61000 (v - 9309407396) = some 1) (k13 : ly_hv cst h 61000 (v - 75148) = some 1) (k14 : ly_hv cst h 61000 (v - 736548) = some 1) (k15 : ly_hv cst h 61000 (v - 659105125) = some 1) (k16 : ly_hv cst h 61000 (v - 609441381) = some 1) (k17 : ly_hv cst h 61000 (v - 20579780) = some 1) (k18 : ly_hv cst h 6656 0 = some 136356) (k19 : ly_hv cst h 6656 1 = some 24627347) (k20 : ly_hv cst h 6656 2 = some 4359816) (k21 : ly_hv cst h 6656 3 = some 206277) (k22 : ly_hv cst h 6656 4 = some 113428729) (k23 : ly_hv cst h 6656 5 = some 365744) (k24 : ly_hv cst h 6656 6 = some 431556) (k25 : ly_hv cst h 6656 7 = some 349785) (k26 : ly_hv cst h 6656 8 = some 394692) (k27 : ly_hv cst h 6656 9 = some 11566) (k28 : ly_hv cst h 6656 10 = some 3574901946597) (k29 : ly_hv cst h 6656 11 = some 9309407396) (k30 : ly_hv cst h 6656 12 = some 75148) (k31 : ly_hv cst h 6656 13 = some 736548) (k32 : ly_hv cst h 6656 14 = some 659105125) (k33 : ly_hv cst h 6656 15 = some 609441381) (k34 : ly_hv cst h 6656 16 = some 20579780) (l0 : hp_a l 0 40) (e0 : ∀ (l' : am_L) (h' : am_H) (y0 : Int32), y0.toInt = 1 → ly_hy m_tt ly_TH h' → ly_fr cst [6158, 6159, 6160] h h' → h.length ≤ h'.length → hp_a l' 0 40 → hp_F cst strs Φ D M 25 l' [.int y0, .ref 40] h') : hp_F cst strs Φ D M 0 l [] h := by
  refine hq_arc c hM hdN_k hD [v] rfl hy (hp_Bc (z := v) rfl b0 t0 hp_Bn) hp_Fn (hp_Kc (zi := (0 + 0)) (zv := (0 + (1 * v + 0))) k0 rfl rfl (by omega) (by omega) (hp_Kc (zi := ((-136356) + (1 * v + 0))) (zv := (1 + 0)) k1 rfl rfl (by omega) (by omega) (hp_Kc (zi := ((-24627347) + (1 * v + 0))) (zv := (1 + 0)) k2 rfl rfl (by omega) (by omega) (hp_Kc (zi := ((-4359816) + (1 * v + 0))) (zv := (1 + 0)) k3 rfl rfl (by omega) (by omega) (hp_Kc (zi := ((-206277) + (1 * v + 0))) (zv := (1 + 0)) k4 rfl rfl (by omega) (by omega) (hp_Kc (zi := ((-113428729) + (1 * v + 0))) (zv := (1 + 0)) k5 rfl rfl (by omega) (by omega) (hp_Kc (zi := ((-365744) + (1 * v + 0))) (zv := (1 + 0)) k6 rfl rfl (by omega) (by omega) (hp_Kc (zi := ((-431556) + (1 * v + 0))) (zv := (1 + 0)) k7 rfl rfl (by omega) (by omega) (hp_Kc (zi := ((-349785) + (1 * v + 0))) (zv := (1 + 0)) k8 rfl rfl (by omega) (by omega) (hp_Kc (zi := ((-394692) + (1 * v + 0))) (zv := (1 + 0)) k9 rfl rfl (by omega) (by omega) (hp_Kc (zi := ((-11566) + (1 * v + 0))) (zv := (1 + 0)) k10 rfl rfl (by omega) (by omega) (hp_Kc (zi := ((-3574901946597) + (1 * v + 0))) (zv := (1 + 0)) k11 rfl rfl (by omega) (by omega) (hp_Kc (zi := ((-9309407396) + (1 * v + 0))) (zv := (1 + 0)) k12 rfl rfl (by omega) (by omega) (hp_Kc (zi := ((-75148) + (1 * v + 0))) (zv := (1 + 0)) k13 rfl rfl (by omega) (by omega) (hp_Kc (zi := ((-736548) + (1 * v + 0))) (zv := (1 + 0)) k14 rfl rfl (by omega) (by omega) (hp_Kc (zi := ((-659105125) + (1 * v + 0))) (zv := (1 + 0)) k15 rfl rfl (by omega) (by omega) (hp_Kc (zi := ((-609441381) + (1 * v + 0))) (zv := (1 + 0)) k16 rfl rfl (by omega) (by omega) (hp_Kc (zi := ((-20579780) + (1 * v + 0))) (zv := (1 + 0)) k17 rfl rfl (by omega) (by omega) (hp_Kc (zi := (0 + 0)) (zv := (136356 + 0)) k18 rfl rfl (by omega) (by omega) (hp_Kc (zi := (1 + 0)) (zv := (24627347 + 0)) k19 rfl rfl (by omega) (by omega) (hp_Kc (zi := (2 + 0)) (zv := (4359816 + 0)) k20 rfl rfl (by omega) (by omega) (hp_Kc (zi := (3 + 0)) (zv := (206277 + 0)) k21 rfl rfl (by omega) (by omega) (hp_Kc (zi := (4 + 0)) (zv := (113428729 + 0)) k22 rfl rfl (by omega) (by omega) (hp_Kc (zi := (5 + 0)) (zv := (365744 + 0)) k23 rfl rfl (by omega) (by omega) (hp_Kc (zi := (6 + 0)) (zv := (431556 + 0)) k24 rfl rfl (by omega) (by omega) (hp_Kc (zi := (7 + 0)) (zv := (349785 + 0)) k25 rfl rfl (by omega) (by omega) (hp_Kc (zi := (8 + 0)) (zv := (394692 + 0)) k26 rfl rfl (by omega) (by omega) (hp_Kc (zi := (9 + 0)) (zv := (11566 + 0)) k27 rfl rfl (by omega) (by omega) (hp_Kc (zi := (10 + 0)) (zv := (3574901946597 + 0)) k28 rfl rfl (by omega) (by omega) (hp_Kc (zi := (11 + 0)) (zv := (9309407396 + 0)) k29 rfl rfl (by omega) (by omega) (hp_Kc (zi := (12 + 0)) (zv := (75148 + 0)) k30 rfl rfl (by omega) (by omega) (hp_Kc (zi := (13 + 0)) (zv := (736548 + 0)) k31 rfl rfl (by omega) (by omega) (hp_Kc (zi := (14 + 0)) (zv := (659105125 + 0)) k32 rfl rfl (by omega) (by omega) (hp_Kc (zi := (15 + 0)) (zv := (609441381 + 0)) k33 rfl rfl (by omega) (by omega) (hp_Kc (zi := (16 + 0)) (zv := (20579780 + 0)) k34 rfl rfl (by omega) (by omega) hp_Kn))))))))))))))))))))))))))))))))))) (hp_La l0 hp_Ln) trivial ?_ ?_
  · intro p hp ys l' st' h' hys a1 a2 a3 gZ gL gS
    rcases List.mem_cons.mp hp with rfl | hp
    · obtain rfl := hp_y0 hys
      obtain ⟨y0, t0, rfl, q0, g0⟩ := hp_gSi (z := (1 + 0)) gS rfl
      obtain ⟨t1, rfl, g1⟩ := hp_gSa g0 (by decide)
      cases hp_gSn g1
      exact e0 l' h' y0 (by omega) a1 a2 a3 (hp_gLa gL (List.mem_of_getElem? (i := 0) rfl) (by decide))
    cases hp
  · intro p hp ys v h' hys a1 a2 a3 gZ gS
    cases hp
theorem hdA0_k : hq_chk [81] 82 0 0 [] [] [(0, .inr (.inr (.inl (some 40))))] [] [(6156, (0, []), (136356, [])), (6656, (0, []), (136356, [])), (6656, (1, []), (24627347, [])), (6656, (2, []), (4359816, [])), (6656, (3, []), (206277, [])), (6656, (4, []), (113428729, [])), (6656, (5, []), (365744, [])), (6656, (6, []), (431556, [])), (6656, (7, []), (349785, [])), (6656, (8, []), (394692, [])), (6656, (9, []), (11566, [])), (6656, (10, []), (3574901946597, [])), (6656, (11, []), (9309407396, [])), (6656, (12, []), (75148, [])), (6656, (13, []), (736548, [])), (6656, (14, []), (659105125, [])), (6656, (15, []), (609441381, [])), (6656, (16, []), (20579780, []))] [6158, 6159, 6160] 3 [(90, ([], 0, [], [], [(0, .inr (.inr (.inl (some 40))))], [.inr (.inl (0, [])), .inl (0, []), .inr (.inr (.inl (some 30)))], [(6158, (0, []), (0, [])), (6159, (0, []), (0, [])), (6160, (0, []), (0, []))]))] [] = true := by decide +kernel
theorem hdA0 {cst : am_K} {strs : List Nat} {Φ : am_Q → Prop} {D : Nat} {M : am_M} {h : am_H} {l : am_L} (c : hp_C cst strs D) (hM : m_P[82]? = some M) (hD : (3 : Int) ≤ (D : Int) + 1) (hy : ly_hy m_tt ly_TH h) (k0 : ly_hv cst h 6156 0 = some 136356) (k1 : ly_hv cst h 6656 0 = some 136356) (k2 : ly_hv cst h 6656 1 = some 24627347) (k3 : ly_hv cst h 6656 2 = some 4359816) (k4 : ly_hv cst h 6656 3 = some 206277) (k5 : ly_hv cst h 6656 4 = some 113428729) (k6 : ly_hv cst h 6656 5 = some 365744) (k7 : ly_hv cst h 6656 6 = some 431556) (k8 : ly_hv cst h 6656 7 = some 349785) (k9 : ly_hv cst h 6656 8 = some 394692) (k10 : ly_hv cst h 6656 9 = some 11566) (k11 : ly_hv cst h 6656 10 = some 3574901946597) (k12 : ly_hv cst h 6656 11 = some 9309407396) (k13 : ly_hv cst h 6656 12 = some 75148) (k14 : ly_hv cst h 6656 13 = some 736548) (k15 : ly_hv cst h 6656 14 = some 659105125) (k16 : ly_hv cst h 6656 15 = some 609441381) (k17 : ly_hv cst h 6656 16 = some 20579780) (l0 : hp_a l 0 40) (e0 : ∀ (l' : am_L) (h' : am_H) (y0 : Int64) (y1 : Int32), y0.toInt = 0 → y1.toInt = 0 → ly_hy m_tt ly_TH h' → ly_fr cst [6158, 6159, 6160] h h' → h.length ≤ h'.length → ly_hv cst h' 6158 0 = some 0 → ly_hv cst h' 6159 0 = some 0 → ly_hv cst h' 6160 0 = some 0 → hp_a l' 0 40 → hp_F cst strs Φ D M 90 l' [.long y0, .int y1, .ref 30] h') : hp_F cst strs Φ D M 0 l [] h := by
  refine hq_arc c hM hdA0_k hD [] rfl hy hp_Bn hp_Fn (hp_Kc (zi := (0 + 0)) (zv := (136356 + 0)) k0 rfl rfl (by omega) (by omega) (hp_Kc (zi := (0 + 0)) (zv := (136356 + 0)) k1 rfl rfl (by omega) (by omega) (hp_Kc (zi := (1 + 0)) (zv := (24627347 + 0)) k2 rfl rfl (by omega) (by omega) (hp_Kc (zi := (2 + 0)) (zv := (4359816 + 0)) k3 rfl rfl (by omega) (by omega) (hp_Kc (zi := (3 + 0)) (zv := (206277 + 0)) k4 rfl rfl (by omega) (by omega) (hp_Kc (zi := (4 + 0)) (zv := (113428729 + 0)) k5 rfl rfl (by omega) (by omega) (hp_Kc (zi := (5 + 0)) (zv := (365744 + 0)) k6 rfl rfl (by omega) (by omega) (hp_Kc (zi := (6 + 0)) (zv := (431556 + 0)) k7 rfl rfl (by omega) (by omega) (hp_Kc (zi := (7 + 0)) (zv := (349785 + 0)) k8 rfl rfl (by omega) (by omega) (hp_Kc (zi := (8 + 0)) (zv := (394692 + 0)) k9 rfl rfl (by omega) (by omega) (hp_Kc (zi := (9 + 0)) (zv := (11566 + 0)) k10 rfl rfl (by omega) (by omega) (hp_Kc (zi := (10 + 0)) (zv := (3574901946597 + 0)) k11 rfl rfl (by omega) (by omega) (hp_Kc (zi := (11 + 0)) (zv := (9309407396 + 0)) k12 rfl rfl (by omega) (by omega) (hp_Kc (zi := (12 + 0)) (zv := (75148 + 0)) k13 rfl rfl (by omega) (by omega) (hp_Kc (zi := (13 + 0)) (zv := (736548 + 0)) k14 rfl rfl (by omega) (by omega) (hp_Kc (zi := (14 + 0)) (zv := (659105125 + 0)) k15 rfl rfl (by omega) (by omega) (hp_Kc (zi := (15 + 0)) (zv := (609441381 + 0)) k16 rfl rfl (by omega) (by omega) (hp_Kc (zi := (16 + 0)) (zv := (20579780 + 0)) k17 rfl rfl (by omega) (by omega) hp_Kn)))))))))))))))))) (hp_La l0 hp_Ln) trivial ?_ ?_
  · intro p hp ys l' st' h' hys a1 a2 a3 gZ gL gS
    rcases List.mem_cons.mp hp with rfl | hp
    · obtain rfl := hp_y0 hys
      obtain ⟨y0, t0, rfl, q0, g0⟩ := hp_gSj (z := (0 + 0)) gS rfl
      obtain ⟨y1, t1, rfl, q1, g1⟩ := hp_gSi (z := (0 + 0)) g0 rfl
      obtain ⟨t2, rfl, g2⟩ := hp_gSa g1 (by decide)
      cases hp_gSn g2
      exact e0 l' h' y0 y1 (by omega) (by omega) a1 a2 a3 (hp_gK (zi := (0 + 0)) (zv := (0 + 0)) gZ.2.2.2 (List.mem_of_getElem? (i := 0) rfl) rfl rfl (by omega) (by omega)) (hp_gK (zi := (0 + 0)) (zv := (0 + 0)) gZ.2.2.2 (List.mem_of_getElem? (i := 1) rfl) rfl rfl (by omega) (by omega)) (hp_gK (zi := (0 + 0)) (zv := (0 + 0)) gZ.2.2.2 (List.mem_of_getElem? (i := 2) rfl) rfl rfl (by omega) (by omega)) (hp_gLa gL (List.mem_of_getElem? (i := 0) rfl) (by decide))
    cases hp
  · intro p hp ys v h' hys a1 a2 a3 gZ gS
    cases hp
theorem hdA1_k : hq_chk [81] 82 0 0 [] [] [(0, .inr (.inr (.inl (some 40))))] [] [(6156, (0, []), (24627347, [])), (6656, (0, []), (136356, [])), (6656, (1, []), (24627347, [])), (6656, (2, []), (4359816, [])), (6656, (3, []), (206277, [])), (6656, (4, []), (113428729, [])), (6656, (5, []), (365744, [])), (6656, (6, []), (431556, [])), (6656, (7, []), (349785, [])), (6656, (8, []), (394692, [])), (6656, (9, []), (11566, [])), (6656, (10, []), (3574901946597, [])), (6656, (11, []), (9309407396, [])), (6656, (12, []), (75148, [])), (6656, (13, []), (736548, [])), (6656, (14, []), (659105125, [])), (6656, (15, []), (609441381, [])), (6656, (16, []), (20579780, []))] [6158, 6159, 6160] 3 [(90, ([], 0, [], [], [(0, .inr (.inr (.inl (some 40))))], [.inr (.inl (0, [])), .inl (1, []), .inr (.inr (.inl (some 30)))], [(6158, (0, []), (1, [])), (6159, (0, []), (1, [])), (6160, (0, []), (0, []))]))] [] = true := by decide +kernel
theorem hdA1 {cst : am_K} {strs : List Nat} {Φ : am_Q → Prop} {D : Nat} {M : am_M} {h : am_H} {l : am_L} (c : hp_C cst strs D) (hM : m_P[82]? = some M) (hD : (3 : Int) ≤ (D : Int) + 1) (hy : ly_hy m_tt ly_TH h) (k0 : ly_hv cst h 6156 0 = some 24627347) (k1 : ly_hv cst h 6656 0 = some 136356) (k2 : ly_hv cst h 6656 1 = some 24627347) (k3 : ly_hv cst h 6656 2 = some 4359816) (k4 : ly_hv cst h 6656 3 = some 206277) (k5 : ly_hv cst h 6656 4 = some 113428729) (k6 : ly_hv cst h 6656 5 = some 365744) (k7 : ly_hv cst h 6656 6 = some 431556) (k8 : ly_hv cst h 6656 7 = some 349785) (k9 : ly_hv cst h 6656 8 = some 394692) (k10 : ly_hv cst h 6656 9 = some 11566) (k11 : ly_hv cst h 6656 10 = some 3574901946597) (k12 : ly_hv cst h 6656 11 = some 9309407396) (k13 : ly_hv cst h 6656 12 = some 75148) (k14 : ly_hv cst h 6656 13 = some 736548) (k15 : ly_hv cst h 6656 14 = some 659105125) (k16 : ly_hv cst h 6656 15 = some 609441381) (k17 : ly_hv cst h 6656 16 = some 20579780) (l0 : hp_a l 0 40) (e0 : ∀ (l' : am_L) (h' : am_H) (y0 : Int64) (y1 : Int32), y0.toInt = 0 → y1.toInt = 1 → ly_hy m_tt ly_TH h' → ly_fr cst [6158, 6159, 6160] h h' → h.length ≤ h'.length → ly_hv cst h' 6158 0 = some 1 → ly_hv cst h' 6159 0 = some 1 → ly_hv cst h' 6160 0 = some 0 → hp_a l' 0 40 → hp_F cst strs Φ D M 90 l' [.long y0, .int y1, .ref 30] h') : hp_F cst strs Φ D M 0 l [] h := by
  refine hq_arc c hM hdA1_k hD [] rfl hy hp_Bn hp_Fn (hp_Kc (zi := (0 + 0)) (zv := (24627347 + 0)) k0 rfl rfl (by omega) (by omega) (hp_Kc (zi := (0 + 0)) (zv := (136356 + 0)) k1 rfl rfl (by omega) (by omega) (hp_Kc (zi := (1 + 0)) (zv := (24627347 + 0)) k2 rfl rfl (by omega) (by omega) (hp_Kc (zi := (2 + 0)) (zv := (4359816 + 0)) k3 rfl rfl (by omega) (by omega) (hp_Kc (zi := (3 + 0)) (zv := (206277 + 0)) k4 rfl rfl (by omega) (by omega) (hp_Kc (zi := (4 + 0)) (zv := (113428729 + 0)) k5 rfl rfl (by omega) (by omega) (hp_Kc (zi := (5 + 0)) (zv := (365744 + 0)) k6 rfl rfl (by omega) (by omega) (hp_Kc (zi := (6 + 0)) (zv := (431556 + 0)) k7 rfl rfl (by omega) (by omega) (hp_Kc (zi := (7 + 0)) (zv := (349785 + 0)) k8 rfl rfl (by omega) (by omega) (hp_Kc (zi := (8 + 0)) (zv := (394692 + 0)) k9 rfl rfl (by omega) (by omega) (hp_Kc (zi := (9 + 0)) (zv := (11566 + 0)) k10 rfl rfl (by omega) (by omega) (hp_Kc (zi := (10 + 0)) (zv := (3574901946597 + 0)) k11 rfl rfl (by omega) (by omega) (hp_Kc (zi := (11 + 0)) (zv := (9309407396 + 0)) k12 rfl rfl (by omega) (by omega) (hp_Kc (zi := (12 + 0)) (zv := (75148 + 0)) k13 rfl rfl (by omega) (by omega) (hp_Kc (zi := (13 + 0)) (zv := (736548 + 0)) k14 rfl rfl (by omega) (by omega) (hp_Kc (zi := (14 + 0)) (zv := (659105125 + 0)) k15 rfl rfl (by omega) (by omega) (hp_Kc (zi := (15 + 0)) (zv := (609441381 + 0)) k16 rfl rfl (by omega) (by omega) (hp_Kc (zi := (16 + 0)) (zv := (20579780 + 0)) k17 rfl rfl (by omega) (by omega) hp_Kn)))))))))))))))))) (hp_La l0 hp_Ln) trivial ?_ ?_
  · intro p hp ys l' st' h' hys a1 a2 a3 gZ gL gS
    rcases List.mem_cons.mp hp with rfl | hp
    · obtain rfl := hp_y0 hys
      obtain ⟨y0, t0, rfl, q0, g0⟩ := hp_gSj (z := (0 + 0)) gS rfl
      obtain ⟨y1, t1, rfl, q1, g1⟩ := hp_gSi (z := (1 + 0)) g0 rfl
      obtain ⟨t2, rfl, g2⟩ := hp_gSa g1 (by decide)
      cases hp_gSn g2
      exact e0 l' h' y0 y1 (by omega) (by omega) a1 a2 a3 (hp_gK (zi := (0 + 0)) (zv := (1 + 0)) gZ.2.2.2 (List.mem_of_getElem? (i := 0) rfl) rfl rfl (by omega) (by omega)) (hp_gK (zi := (0 + 0)) (zv := (1 + 0)) gZ.2.2.2 (List.mem_of_getElem? (i := 1) rfl) rfl rfl (by omega) (by omega)) (hp_gK (zi := (0 + 0)) (zv := (0 + 0)) gZ.2.2.2 (List.mem_of_getElem? (i := 2) rfl) rfl rfl (by omega) (by omega)) (hp_gLa gL (List.mem_of_getElem? (i := 0) rfl) (by decide))
    cases hp
  · intro p hp ys v h' hys a1 a2 a3 gZ gS
    cases hp
theorem hdA2_k : hq_chk [81] 82 0 0 [] [] [(0, .inr (.inr (.inl (some 40))))] [] [(6156, (0, []), (4359816, [])), (6656, (0, []), (136356, [])), (6656, (1, []), (24627347, [])), (6656, (2, []), (4359816, [])), (6656, (3, []), (206277, [])), (6656, (4, []), (113428729, [])), (6656, (5, []), (365744, [])), (6656, (6, []), (431556, [])), (6656, (7, []), (349785, [])), (6656, (8, []), (394692, [])), (6656, (9, []), (11566, [])), (6656, (10, []), (3574901946597, [])), (6656, (11, []), (9309407396, [])), (6656, (12, []), (75148, [])), (6656, (13, []), (736548, [])), (6656, (14, []), (659105125, [])), (6656, (15, []), (609441381, [])), (6656, (16, []), (20579780, []))] [6158, 6159, 6160] 3 [(90, ([], 0, [], [], [(0, .inr (.inr (.inl (some 40))))], [.inr (.inl (0, [])), .inl (2, []), .inr (.inr (.inl (some 30)))], [(6158, (0, []), (2, [])), (6159, (0, []), (2, [])), (6160, (0, []), (0, []))]))] [] = true := by decide +kernel
theorem hdA2 {cst : am_K} {strs : List Nat} {Φ : am_Q → Prop} {D : Nat} {M : am_M} {h : am_H} {l : am_L} (c : hp_C cst strs D) (hM : m_P[82]? = some M) (hD : (3 : Int) ≤ (D : Int) + 1) (hy : ly_hy m_tt ly_TH h) (k0 : ly_hv cst h 6156 0 = some 4359816) (k1 : ly_hv cst h 6656 0 = some 136356) (k2 : ly_hv cst h 6656 1 = some 24627347) (k3 : ly_hv cst h 6656 2 = some 4359816) (k4 : ly_hv cst h 6656 3 = some 206277) (k5 : ly_hv cst h 6656 4 = some 113428729) (k6 : ly_hv cst h 6656 5 = some 365744) (k7 : ly_hv cst h 6656 6 = some 431556) (k8 : ly_hv cst h 6656 7 = some 349785) (k9 : ly_hv cst h 6656 8 = some 394692) (k10 : ly_hv cst h 6656 9 = some 11566) (k11 : ly_hv cst h 6656 10 = some 3574901946597) (k12 : ly_hv cst h 6656 11 = some 9309407396) (k13 : ly_hv cst h 6656 12 = some 75148) (k14 : ly_hv cst h 6656 13 = some 736548) (k15 : ly_hv cst h 6656 14 = some 659105125) (k16 : ly_hv cst h 6656 15 = some 609441381) (k17 : ly_hv cst h 6656 16 = some 20579780) (l0 : hp_a l 0 40) (e0 : ∀ (l' : am_L) (h' : am_H) (y0 : Int64) (y1 : Int32), y0.toInt = 0 → y1.toInt = 2 → ly_hy m_tt ly_TH h' → ly_fr cst [6158, 6159, 6160] h h' → h.length ≤ h'.length → ly_hv cst h' 6158 0 = some 2 → ly_hv cst h' 6159 0 = some 2 → ly_hv cst h' 6160 0 = some 0 → hp_a l' 0 40 → hp_F cst strs Φ D M 90 l' [.long y0, .int y1, .ref 30] h') : hp_F cst strs Φ D M 0 l [] h := by
  refine hq_arc c hM hdA2_k hD [] rfl hy hp_Bn hp_Fn (hp_Kc (zi := (0 + 0)) (zv := (4359816 + 0)) k0 rfl rfl (by omega) (by omega) (hp_Kc (zi := (0 + 0)) (zv := (136356 + 0)) k1 rfl rfl (by omega) (by omega) (hp_Kc (zi := (1 + 0)) (zv := (24627347 + 0)) k2 rfl rfl (by omega) (by omega) (hp_Kc (zi := (2 + 0)) (zv := (4359816 + 0)) k3 rfl rfl (by omega) (by omega) (hp_Kc (zi := (3 + 0)) (zv := (206277 + 0)) k4 rfl rfl (by omega) (by omega) (hp_Kc (zi := (4 + 0)) (zv := (113428729 + 0)) k5 rfl rfl (by omega) (by omega) (hp_Kc (zi := (5 + 0)) (zv := (365744 + 0)) k6 rfl rfl (by omega) (by omega) (hp_Kc (zi := (6 + 0)) (zv := (431556 + 0)) k7 rfl rfl (by omega) (by omega) (hp_Kc (zi := (7 + 0)) (zv := (349785 + 0)) k8 rfl rfl (by omega) (by omega) (hp_Kc (zi := (8 + 0)) (zv := (394692 + 0)) k9 rfl rfl (by omega) (by omega) (hp_Kc (zi := (9 + 0)) (zv := (11566 + 0)) k10 rfl rfl (by omega) (by omega) (hp_Kc (zi := (10 + 0)) (zv := (3574901946597 + 0)) k11 rfl rfl (by omega) (by omega) (hp_Kc (zi := (11 + 0)) (zv := (9309407396 + 0)) k12 rfl rfl (by omega) (by omega) (hp_Kc (zi := (12 + 0)) (zv := (75148 + 0)) k13 rfl rfl (by omega) (by omega) (hp_Kc (zi := (13 + 0)) (zv := (736548 + 0)) k14 rfl rfl (by omega) (by omega) (hp_Kc (zi := (14 + 0)) (zv := (659105125 + 0)) k15 rfl rfl (by omega) (by omega) (hp_Kc (zi := (15 + 0)) (zv := (609441381 + 0)) k16 rfl rfl (by omega) (by omega) (hp_Kc (zi := (16 + 0)) (zv := (20579780 + 0)) k17 rfl rfl (by omega) (by omega) hp_Kn)))))))))))))))))) (hp_La l0 hp_Ln) trivial ?_ ?_
  · intro p hp ys l' st' h' hys a1 a2 a3 gZ gL gS
    rcases List.mem_cons.mp hp with rfl | hp
    · obtain rfl := hp_y0 hys
      obtain ⟨y0, t0, rfl, q0, g0⟩ := hp_gSj (z := (0 + 0)) gS rfl
      obtain ⟨y1, t1, rfl, q1, g1⟩ := hp_gSi (z := (2 + 0)) g0 rfl
      obtain ⟨t2, rfl, g2⟩ := hp_gSa g1 (by decide)
      cases hp_gSn g2
      exact e0 l' h' y0 y1 (by omega) (by omega) a1 a2 a3 (hp_gK (zi := (0 + 0)) (zv := (2 + 0)) gZ.2.2.2 (List.mem_of_getElem? (i := 0) rfl) rfl rfl (by omega) (by omega)) (hp_gK (zi := (0 + 0)) (zv := (2 + 0)) gZ.2.2.2 (List.mem_of_getElem? (i := 1) rfl) rfl rfl (by omega) (by omega)) (hp_gK (zi := (0 + 0)) (zv := (0 + 0)) gZ.2.2.2 (List.mem_of_getElem? (i := 2) rfl) rfl rfl (by omega) (by omega)) (hp_gLa gL (List.mem_of_getElem? (i := 0) rfl) (by decide))
    cases hp
  · intro p hp ys v h' hys a1 a2 a3 gZ gS
    cases hp
theorem hdA3_k : hq_chk [81] 82 0 0 [] [] [(0, .inr (.inr (.inl (some 40))))] [] [(6156, (0, []), (206277, [])), (6656, (0, []), (136356, [])), (6656, (1, []), (24627347, [])), (6656, (2, []), (4359816, [])), (6656, (3, []), (206277, [])), (6656, (4, []), (113428729, [])), (6656, (5, []), (365744, [])), (6656, (6, []), (431556, [])), (6656, (7, []), (349785, [])), (6656, (8, []), (394692, [])), (6656, (9, []), (11566, [])), (6656, (10, []), (3574901946597, [])), (6656, (11, []), (9309407396, [])), (6656, (12, []), (75148, [])), (6656, (13, []), (736548, [])), (6656, (14, []), (659105125, [])), (6656, (15, []), (609441381, [])), (6656, (16, []), (20579780, []))] [6158, 6159, 6160] 3 [(90, ([], 0, [], [], [(0, .inr (.inr (.inl (some 40))))], [.inr (.inl (0, [])), .inl (3, []), .inr (.inr (.inl (some 30)))], [(6158, (0, []), (3, [])), (6159, (0, []), (3, [])), (6160, (0, []), (0, []))]))] [] = true := by decide +kernel
theorem hdA3 {cst : am_K} {strs : List Nat} {Φ : am_Q → Prop} {D : Nat} {M : am_M} {h : am_H} {l : am_L} (c : hp_C cst strs D) (hM : m_P[82]? = some M) (hD : (3 : Int) ≤ (D : Int) + 1) (hy : ly_hy m_tt ly_TH h) (k0 : ly_hv cst h 6156 0 = some 206277) (k1 : ly_hv cst h 6656 0 = some 136356) (k2 : ly_hv cst h 6656 1 = some 24627347) (k3 : ly_hv cst h 6656 2 = some 4359816) (k4 : ly_hv cst h 6656 3 = some 206277) (k5 : ly_hv cst h 6656 4 = some 113428729) (k6 : ly_hv cst h 6656 5 = some 365744) (k7 : ly_hv cst h 6656 6 = some 431556) (k8 : ly_hv cst h 6656 7 = some 349785) (k9 : ly_hv cst h 6656 8 = some 394692) (k10 : ly_hv cst h 6656 9 = some 11566) (k11 : ly_hv cst h 6656 10 = some 3574901946597) (k12 : ly_hv cst h 6656 11 = some 9309407396) (k13 : ly_hv cst h 6656 12 = some 75148) (k14 : ly_hv cst h 6656 13 = some 736548) (k15 : ly_hv cst h 6656 14 = some 659105125) (k16 : ly_hv cst h 6656 15 = some 609441381) (k17 : ly_hv cst h 6656 16 = some 20579780) (l0 : hp_a l 0 40) (e0 : ∀ (l' : am_L) (h' : am_H) (y0 : Int64) (y1 : Int32), y0.toInt = 0 → y1.toInt = 3 → ly_hy m_tt ly_TH h' → ly_fr cst [6158, 6159, 6160] h h' → h.length ≤ h'.length → ly_hv cst h' 6158 0 = some 3 → ly_hv cst h' 6159 0 = some 3 → ly_hv cst h' 6160 0 = some 0 → hp_a l' 0 40 → hp_F cst strs Φ D M 90 l' [.long y0, .int y1, .ref 30] h') : hp_F cst strs Φ D M 0 l [] h := by
  refine hq_arc c hM hdA3_k hD [] rfl hy hp_Bn hp_Fn (hp_Kc (zi := (0 + 0)) (zv := (206277 + 0)) k0 rfl rfl (by omega) (by omega) (hp_Kc (zi := (0 + 0)) (zv := (136356 + 0)) k1 rfl rfl (by omega) (by omega) (hp_Kc (zi := (1 + 0)) (zv := (24627347 + 0)) k2 rfl rfl (by omega) (by omega) (hp_Kc (zi := (2 + 0)) (zv := (4359816 + 0)) k3 rfl rfl (by omega) (by omega) (hp_Kc (zi := (3 + 0)) (zv := (206277 + 0)) k4 rfl rfl (by omega) (by omega) (hp_Kc (zi := (4 + 0)) (zv := (113428729 + 0)) k5 rfl rfl (by omega) (by omega) (hp_Kc (zi := (5 + 0)) (zv := (365744 + 0)) k6 rfl rfl (by omega) (by omega) (hp_Kc (zi := (6 + 0)) (zv := (431556 + 0)) k7 rfl rfl (by omega) (by omega) (hp_Kc (zi := (7 + 0)) (zv := (349785 + 0)) k8 rfl rfl (by omega) (by omega) (hp_Kc (zi := (8 + 0)) (zv := (394692 + 0)) k9 rfl rfl (by omega) (by omega) (hp_Kc (zi := (9 + 0)) (zv := (11566 + 0)) k10 rfl rfl (by omega) (by omega) (hp_Kc (zi := (10 + 0)) (zv := (3574901946597 + 0)) k11 rfl rfl (by omega) (by omega) (hp_Kc (zi := (11 + 0)) (zv := (9309407396 + 0)) k12 rfl rfl (by omega) (by omega) (hp_Kc (zi := (12 + 0)) (zv := (75148 + 0)) k13 rfl rfl (by omega) (by omega) (hp_Kc (zi := (13 + 0)) (zv := (736548 + 0)) k14 rfl rfl (by omega) (by omega) (hp_Kc (zi := (14 + 0)) (zv := (659105125 + 0)) k15 rfl rfl (by omega) (by omega) (hp_Kc (zi := (15 + 0)) (zv := (609441381 + 0)) k16 rfl rfl (by omega) (by omega) (hp_Kc (zi := (16 + 0)) (zv := (20579780 + 0)) k17 rfl rfl (by omega) (by omega) hp_Kn)))))))))))))))))) (hp_La l0 hp_Ln) trivial ?_ ?_
  · intro p hp ys l' st' h' hys a1 a2 a3 gZ gL gS
    rcases List.mem_cons.mp hp with rfl | hp
    · obtain rfl := hp_y0 hys
      obtain ⟨y0, t0, rfl, q0, g0⟩ := hp_gSj (z := (0 + 0)) gS rfl
      obtain ⟨y1, t1, rfl, q1, g1⟩ := hp_gSi (z := (3 + 0)) g0 rfl
      obtain ⟨t2, rfl, g2⟩ := hp_gSa g1 (by decide)
      cases hp_gSn g2
      exact e0 l' h' y0 y1 (by omega) (by omega) a1 a2 a3 (hp_gK (zi := (0 + 0)) (zv := (3 + 0)) gZ.2.2.2 (List.mem_of_getElem? (i := 0) rfl) rfl rfl (by omega) (by omega)) (hp_gK (zi := (0 + 0)) (zv := (3 + 0)) gZ.2.2.2 (List.mem_of_getElem? (i := 1) rfl) rfl rfl (by omega) (by omega)) (hp_gK (zi := (0 + 0)) (zv := (0 + 0)) gZ.2.2.2 (List.mem_of_getElem? (i := 2) rfl) rfl rfl (by omega) (by omega)) (hp_gLa gL (List.mem_of_getElem? (i := 0) rfl) (by decide))
    cases hp
  · intro p hp ys v h' hys a1 a2 a3 gZ gS
    cases hp
theorem hdA4_k : hq_chk [81] 82 0 0 [] [] [(0, .inr (.inr (.inl (some 40))))] [] [(6156, (0, []), (113428729, [])), (6656, (0, []), (136356, [])), (6656, (1, []), (24627347, [])), (6656, (2, []), (4359816, [])), (6656, (3, []), (206277, [])), (6656, (4, []), (113428729, [])), (6656, (5, []), (365744, [])), (6656, (6, []), (431556, [])), (6656, (7, []), (349785, [])), (6656, (8, []), (394692, [])), (6656, (9, []), (11566, [])), (6656, (10, []), (3574901946597, [])), (6656, (11, []), (9309407396, [])), (6656, (12, []), (75148, [])), (6656, (13, []), (736548, [])), (6656, (14, []), (659105125, [])), (6656, (15, []), (609441381, [])), (6656, (16, []), (20579780, []))] [6158, 6159, 6160] 3 [(90, ([], 0, [], [], [(0, .inr (.inr (.inl (some 40))))], [.inr (.inl (0, [])), .inl (4, []), .inr (.inr (.inl (some 30)))], [(6158, (0, []), (4, [])), (6159, (0, []), (4, [])), (6160, (0, []), (0, []))]))] [] = true := by decide +kernel
theorem hdA4 {cst : am_K} {strs : List Nat} {Φ : am_Q → Prop} {D : Nat} {M : am_M} {h : am_H} {l : am_L} (c : hp_C cst strs D) (hM : m_P[82]? = some M) (hD : (3 : Int) ≤ (D : Int) + 1) (hy : ly_hy m_tt ly_TH h) (k0 : ly_hv cst h 6156 0 = some 113428729) (k1 : ly_hv cst h 6656 0 = some 136356) (k2 : ly_hv cst h 6656 1 = some 24627347) (k3 : ly_hv cst h 6656 2 = some 4359816) (k4 : ly_hv cst h 6656 3 = some 206277) (k5 : ly_hv cst h 6656 4 = some 113428729) (k6 : ly_hv cst h 6656 5 = some 365744) (k7 : ly_hv cst h 6656 6 = some 431556) (k8 : ly_hv cst h 6656 7 = some 349785) (k9 : ly_hv cst h 6656 8 = some 394692) (k10 : ly_hv cst h 6656 9 = some 11566) (k11 : ly_hv cst h 6656 10 = some 3574901946597) (k12 : ly_hv cst h 6656 11 = some 9309407396) (k13 : ly_hv cst h 6656 12 = some 75148) (k14 : ly_hv cst h 6656 13 = some 736548) (k15 : ly_hv cst h 6656 14 = some 659105125) (k16 : ly_hv cst h 6656 15 = some 609441381) (k17 : ly_hv cst h 6656 16 = some 20579780) (l0 : hp_a l 0 40) (e0 : ∀ (l' : am_L) (h' : am_H) (y0 : Int64) (y1 : Int32), y0.toInt = 0 → y1.toInt = 4 → ly_hy m_tt ly_TH h' → ly_fr cst [6158, 6159, 6160] h h' → h.length ≤ h'.length → ly_hv cst h' 6158 0 = some 4 → ly_hv cst h' 6159 0 = some 4 → ly_hv cst h' 6160 0 = some 0 → hp_a l' 0 40 → hp_F cst strs Φ D M 90 l' [.long y0, .int y1, .ref 30] h') : hp_F cst strs Φ D M 0 l [] h := by
  refine hq_arc c hM hdA4_k hD [] rfl hy hp_Bn hp_Fn (hp_Kc (zi := (0 + 0)) (zv := (113428729 + 0)) k0 rfl rfl (by omega) (by omega) (hp_Kc (zi := (0 + 0)) (zv := (136356 + 0)) k1 rfl rfl (by omega) (by omega) (hp_Kc (zi := (1 + 0)) (zv := (24627347 + 0)) k2 rfl rfl (by omega) (by omega) (hp_Kc (zi := (2 + 0)) (zv := (4359816 + 0)) k3 rfl rfl (by omega) (by omega) (hp_Kc (zi := (3 + 0)) (zv := (206277 + 0)) k4 rfl rfl (by omega) (by omega) (hp_Kc (zi := (4 + 0)) (zv := (113428729 + 0)) k5 rfl rfl (by omega) (by omega) (hp_Kc (zi := (5 + 0)) (zv := (365744 + 0)) k6 rfl rfl (by omega) (by omega) (hp_Kc (zi := (6 + 0)) (zv := (431556 + 0)) k7 rfl rfl (by omega) (by omega) (hp_Kc (zi := (7 + 0)) (zv := (349785 + 0)) k8 rfl rfl (by omega) (by omega) (hp_Kc (zi := (8 + 0)) (zv := (394692 + 0)) k9 rfl rfl (by omega) (by omega) (hp_Kc (zi := (9 + 0)) (zv := (11566 + 0)) k10 rfl rfl (by omega) (by omega) (hp_Kc (zi := (10 + 0)) (zv := (3574901946597 + 0)) k11 rfl rfl (by omega) (by omega) (hp_Kc (zi := (11 + 0)) (zv := (9309407396 + 0)) k12 rfl rfl (by omega) (by omega) (hp_Kc (zi := (12 + 0)) (zv := (75148 + 0)) k13 rfl rfl (by omega) (by omega) (hp_Kc (zi := (13 + 0)) (zv := (736548 + 0)) k14 rfl rfl (by omega) (by omega) (hp_Kc (zi := (14 + 0)) (zv := (659105125 + 0)) k15 rfl rfl (by omega) (by omega) (hp_Kc (zi := (15 + 0)) (zv := (609441381 + 0)) k16 rfl rfl (by omega) (by omega) (hp_Kc (zi := (16 + 0)) (zv := (20579780 + 0)) k17 rfl rfl (by omega) (by omega) hp_Kn)))))))))))))))))) (hp_La l0 hp_Ln) trivial ?_ ?_
  · intro p hp ys l' st' h' hys a1 a2 a3 gZ gL gS
    rcases List.mem_cons.mp hp with rfl | hp
    · obtain rfl := hp_y0 hys
      obtain ⟨y0, t0, rfl, q0, g0⟩ := hp_gSj (z := (0 + 0)) gS rfl
      obtain ⟨y1, t1, rfl, q1, g1⟩ := hp_gSi (z := (4 + 0)) g0 rfl
      obtain ⟨t2, rfl, g2⟩ := hp_gSa g1 (by decide)
      cases hp_gSn g2
      exact e0 l' h' y0 y1 (by omega) (by omega) a1 a2 a3 (hp_gK (zi := (0 + 0)) (zv := (4 + 0)) gZ.2.2.2 (List.mem_of_getElem? (i := 0) rfl) rfl rfl (by omega) (by omega)) (hp_gK (zi := (0 + 0)) (zv := (4 + 0)) gZ.2.2.2 (List.mem_of_getElem? (i := 1) rfl) rfl rfl (by omega) (by omega)) (hp_gK (zi := (0 + 0)) (zv := (0 + 0)) gZ.2.2.2 (List.mem_of_getElem? (i := 2) rfl) rfl rfl (by omega) (by omega)) (hp_gLa gL (List.mem_of_getElem? (i := 0) rfl) (by decide))
    cases hp
  · intro p hp ys v h' hys a1 a2 a3 gZ gS
    cases hp
theorem hdA5_k : hq_chk [81] 82 0 0 [] [] [(0, .inr (.inr (.inl (some 40))))] [] [(6156, (0, []), (365744, [])), (6656, (0, []), (136356, [])), (6656, (1, []), (24627347, [])), (6656, (2, []), (4359816, [])), (6656, (3, []), (206277, [])), (6656, (4, []), (113428729, [])), (6656, (5, []), (365744, [])), (6656, (6, []), (431556, [])), (6656, (7, []), (349785, [])), (6656, (8, []), (394692, [])), (6656, (9, []), (11566, [])), (6656, (10, []), (3574901946597, [])), (6656, (11, []), (9309407396, [])), (6656, (12, []), (75148, [])), (6656, (13, []), (736548, [])), (6656, (14, []), (659105125, [])), (6656, (15, []), (609441381, [])), (6656, (16, []), (20579780, []))] [6158, 6159, 6160] 3 [(90, ([], 0, [], [], [(0, .inr (.inr (.inl (some 40))))], [.inr (.inl (0, [])), .inl (5, []), .inr (.inr (.inl (some 30)))], [(6158, (0, []), (5, [])), (6159, (0, []), (5, [])), (6160, (0, []), (0, []))]))] [] = true := by decide +kernel
theorem hdA5 {cst : am_K} {strs : List Nat} {Φ : am_Q → Prop} {D : Nat} {M : am_M} {h : am_H} {l : am_L} (c : hp_C cst strs D) (hM : m_P[82]? = some M) (hD : (3 : Int) ≤ (D : Int) + 1) (hy : ly_hy m_tt ly_TH h) (k0 : ly_hv cst h 6156 0 = some 365744) (k1 : ly_hv cst h 6656 0 = some 136356) (k2 : ly_hv cst h 6656 1 = some 24627347) (k3 : ly_hv cst h 6656 2 = some 4359816) (k4 : ly_hv cst h 6656 3 = some 206277) (k5 : ly_hv cst h 6656 4 = some 113428729) (k6 : ly_hv cst h 6656 5 = some 365744) (k7 : ly_hv cst h 6656 6 = some 431556) (k8 : ly_hv cst h 6656 7 = some 349785) (k9 : ly_hv cst h 6656 8 = some 394692) (k10 : ly_hv cst h 6656 9 = some 11566) (k11 : ly_hv cst h 6656 10 = some 3574901946597) (k12 : ly_hv cst h 6656 11 = some 9309407396) (k13 : ly_hv cst h 6656 12 = some 75148) (k14 : ly_hv cst h 6656 13 = some 736548) (k15 : ly_hv cst h 6656 14 = some 659105125) (k16 : ly_hv cst h 6656 15 = some 609441381) (k17 : ly_hv cst h 6656 16 = some 20579780) (l0 : hp_a l 0 40) (e0 : ∀ (l' : am_L) (h' : am_H) (y0 : Int64) (y1 : Int32), y0.toInt = 0 → y1.toInt = 5 → ly_hy m_tt ly_TH h' → ly_fr cst [6158, 6159, 6160] h h' → h.length ≤ h'.length → ly_hv cst h' 6158 0 = some 5 → ly_hv cst h' 6159 0 = some 5 → ly_hv cst h' 6160 0 = some 0 → hp_a l' 0 40 → hp_F cst strs Φ D M 90 l' [.long y0, .int y1, .ref 30] h') : hp_F cst strs Φ D M 0 l [] h := by
  refine hq_arc c hM hdA5_k hD [] rfl hy hp_Bn hp_Fn (hp_Kc (zi := (0 + 0)) (zv := (365744 + 0)) k0 rfl rfl (by omega) (by omega) (hp_Kc (zi := (0 + 0)) (zv := (136356 + 0)) k1 rfl rfl (by omega) (by omega) (hp_Kc (zi := (1 + 0)) (zv := (24627347 + 0)) k2 rfl rfl (by omega) (by omega) (hp_Kc (zi := (2 + 0)) (zv := (4359816 + 0)) k3 rfl rfl (by omega) (by omega) (hp_Kc (zi := (3 + 0)) (zv := (206277 + 0)) k4 rfl rfl (by omega) (by omega) (hp_Kc (zi := (4 + 0)) (zv := (113428729 + 0)) k5 rfl rfl (by omega) (by omega) (hp_Kc (zi := (5 + 0)) (zv := (365744 + 0)) k6 rfl rfl (by omega) (by omega) (hp_Kc (zi := (6 + 0)) (zv := (431556 + 0)) k7 rfl rfl (by omega) (by omega) (hp_Kc (zi := (7 + 0)) (zv := (349785 + 0)) k8 rfl rfl (by omega) (by omega) (hp_Kc (zi := (8 + 0)) (zv := (394692 + 0)) k9 rfl rfl (by omega) (by omega) (hp_Kc (zi := (9 + 0)) (zv := (11566 + 0)) k10 rfl rfl (by omega) (by omega) (hp_Kc (zi := (10 + 0)) (zv := (3574901946597 + 0)) k11 rfl rfl (by omega) (by omega) (hp_Kc (zi := (11 + 0)) (zv := (9309407396 + 0)) k12 rfl rfl (by omega) (by omega) (hp_Kc (zi := (12 + 0)) (zv := (75148 + 0)) k13 rfl rfl (by omega) (by omega) (hp_Kc (zi := (13 + 0)) (zv := (736548 + 0)) k14 rfl rfl (by omega) (by omega) (hp_Kc (zi := (14 + 0)) (zv := (659105125 + 0)) k15 rfl rfl (by omega) (by omega) (hp_Kc (zi := (15 + 0)) (zv := (609441381 + 0)) k16 rfl rfl (by omega) (by omega) (hp_Kc (zi := (16 + 0)) (zv := (20579780 + 0)) k17 rfl rfl (by omega) (by omega) hp_Kn)))))))))))))))))) (hp_La l0 hp_Ln) trivial ?_ ?_
  · intro p hp ys l' st' h' hys a1 a2 a3 gZ gL gS
    rcases List.mem_cons.mp hp with rfl | hp
    · obtain rfl := hp_y0 hys
      obtain ⟨y0, t0, rfl, q0, g0⟩ := hp_gSj (z := (0 + 0)) gS rfl
      obtain ⟨y1, t1, rfl, q1, g1⟩ := hp_gSi (z := (5 + 0)) g0 rfl
      obtain ⟨t2, rfl, g2⟩ := hp_gSa g1 (by decide)
      cases hp_gSn g2
      exact e0 l' h' y0 y1 (by omega) (by omega) a1 a2 a3 (hp_gK (zi := (0 + 0)) (zv := (5 + 0)) gZ.2.2.2 (List.mem_of_getElem? (i := 0) rfl) rfl rfl (by omega) (by omega)) (hp_gK (zi := (0 + 0)) (zv := (5 + 0)) gZ.2.2.2 (List.mem_of_getElem? (i := 1) rfl) rfl rfl (by omega) (by omega)) (hp_gK (zi := (0 + 0)) (zv := (0 + 0)) gZ.2.2.2 (List.mem_of_getElem? (i := 2) rfl) rfl rfl (by omega) (by omega)) (hp_gLa gL (List.mem_of_getElem? (i := 0) rfl) (by decide))
    cases hp
  · intro p hp ys v h' hys a1 a2 a3 gZ gS
    cases hp
theorem hdA6_k : hq_chk [81] 82 0 0 [] [] [(0, .inr (.inr (.inl (some 40))))] [] [(6156, (0, []), (431556, [])), (6656, (0, []), (136356, [])), (6656, (1, []), (24627347, [])), (6656, (2, []), (4359816, [])), (6656, (3, []), (206277, [])), (6656, (4, []), (113428729, [])), (6656, (5, []), (365744, [])), (6656, (6, []), (431556, [])), (6656, (7, []), (349785, [])), (6656, (8, []), (394692, [])), (6656, (9, []), (11566, [])), (6656, (10, []), (3574901946597, [])), (6656, (11, []), (9309407396, [])), (6656, (12, []), (75148, [])), (6656, (13, []), (736548, [])), (6656, (14, []), (659105125, [])), (6656, (15, []), (609441381, [])), (6656, (16, []), (20579780, []))] [6158, 6159, 6160] 3 [(90, ([], 0, [], [], [(0, .inr (.inr (.inl (some 40))))], [.inr (.inl (0, [])), .inl (6, []), .inr (.inr (.inl (some 30)))], [(6158, (0, []), (6, [])), (6159, (0, []), (6, [])), (6160, (0, []), (0, []))]))] [] = true := by decide +kernel
theorem hdA6 {cst : am_K} {strs : List Nat} {Φ : am_Q → Prop} {D : Nat} {M : am_M} {h : am_H} {l : am_L} (c : hp_C cst strs D) (hM : m_P[82]? = some M) (hD : (3 : Int) ≤ (D : Int) + 1) (hy : ly_hy m_tt ly_TH h) (k0 : ly_hv cst h 6156 0 = some 431556) (k1 : ly_hv cst h 6656 0 = some 136356) (k2 : ly_hv cst h 6656 1 = some 24627347) (k3 : ly_hv cst h 6656 2 = some 4359816) (k4 : ly_hv cst h 6656 3 = some 206277) (k5 : ly_hv cst h 6656 4 = some 113428729) (k6 : ly_hv cst h 6656 5 = some 365744) (k7 : ly_hv cst h 6656 6 = some 431556) (k8 : ly_hv cst h 6656 7 = some 349785) (k9 : ly_hv cst h 6656 8 = some 394692) (k10 : ly_hv cst h 6656 9 = some 11566) (k11 : ly_hv cst h 6656 10 = some 3574901946597) (k12 : ly_hv cst h 6656 11 = some 9309407396) (k13 : ly_hv cst h 6656 12 = some 75148) (k14 : ly_hv cst h 6656 13 = some 736548) (k15 : ly_hv cst h 6656 14 = some 659105125) (k16 : ly_hv cst h 6656 15 = some 609441381) (k17 : ly_hv cst h 6656 16 = some 20579780) (l0 : hp_a l 0 40) (e0 : ∀ (l' : am_L) (h' : am_H) (y0 : Int64) (y1 : Int32), y0.toInt = 0 → y1.toInt = 6 → ly_hy m_tt ly_TH h' → ly_fr cst [6158, 6159, 6160] h h' → h.length ≤ h'.length → ly_hv cst h' 6158 0 = some 6 → ly_hv cst h' 6159 0 = some 6 → ly_hv cst h' 6160 0 = some 0 → hp_a l' 0 40 → hp_F cst strs Φ D M 90 l' [.long y0, .int y1, .ref 30] h') : hp_F cst strs Φ D M 0 l [] h := by
  refine hq_arc c hM hdA6_k hD [] rfl hy hp_Bn hp_Fn (hp_Kc (zi := (0 + 0)) (zv := (431556 + 0)) k0 rfl rfl (by omega) (by omega) (hp_Kc (zi := (0 + 0)) (zv := (136356 + 0)) k1 rfl rfl (by omega) (by omega) (hp_Kc (zi := (1 + 0)) (zv := (24627347 + 0)) k2 rfl rfl (by omega) (by omega) (hp_Kc (zi := (2 + 0)) (zv := (4359816 + 0)) k3 rfl rfl (by omega) (by omega) (hp_Kc (zi := (3 + 0)) (zv := (206277 + 0)) k4 rfl rfl (by omega) (by omega) (hp_Kc (zi := (4 + 0)) (zv := (113428729 + 0)) k5 rfl rfl (by omega) (by omega) (hp_Kc (zi := (5 + 0)) (zv := (365744 + 0)) k6 rfl rfl (by omega) (by omega) (hp_Kc (zi := (6 + 0)) (zv := (431556 + 0)) k7 rfl rfl (by omega) (by omega) (hp_Kc (zi := (7 + 0)) (zv := (349785 + 0)) k8 rfl rfl (by omega) (by omega) (hp_Kc (zi := (8 + 0)) (zv := (394692 + 0)) k9 rfl rfl (by omega) (by omega) (hp_Kc (zi := (9 + 0)) (zv := (11566 + 0)) k10 rfl rfl (by omega) (by omega) (hp_Kc (zi := (10 + 0)) (zv := (3574901946597 + 0)) k11 rfl rfl (by omega) (by omega) (hp_Kc (zi := (11 + 0)) (zv := (9309407396 + 0)) k12 rfl rfl (by omega) (by omega) (hp_Kc (zi := (12 + 0)) (zv := (75148 + 0)) k13 rfl rfl (by omega) (by omega) (hp_Kc (zi := (13 + 0)) (zv := (736548 + 0)) k14 rfl rfl (by omega) (by omega) (hp_Kc (zi := (14 + 0)) (zv := (659105125 + 0)) k15 rfl rfl (by omega) (by omega) (hp_Kc (zi := (15 + 0)) (zv := (609441381 + 0)) k16 rfl rfl (by omega) (by omega) (hp_Kc (zi := (16 + 0)) (zv := (20579780 + 0)) k17 rfl rfl (by omega) (by omega) hp_Kn)))))))))))))))))) (hp_La l0 hp_Ln) trivial ?_ ?_
  · intro p hp ys l' st' h' hys a1 a2 a3 gZ gL gS
    rcases List.mem_cons.mp hp with rfl | hp
    · obtain rfl := hp_y0 hys
      obtain ⟨y0, t0, rfl, q0, g0⟩ := hp_gSj (z := (0 + 0)) gS rfl
      obtain ⟨y1, t1, rfl, q1, g1⟩ := hp_gSi (z := (6 + 0)) g0 rfl
      obtain ⟨t2, rfl, g2⟩ := hp_gSa g1 (by decide)
      cases hp_gSn g2
      exact e0 l' h' y0 y1 (by omega) (by omega) a1 a2 a3 (hp_gK (zi := (0 + 0)) (zv := (6 + 0)) gZ.2.2.2 (List.mem_of_getElem? (i := 0) rfl) rfl rfl (by omega) (by omega)) (hp_gK (zi := (0 + 0)) (zv := (6 + 0)) gZ.2.2.2 (List.mem_of_getElem? (i := 1) rfl) rfl rfl (by omega) (by omega)) (hp_gK (zi := (0 + 0)) (zv := (0 + 0)) gZ.2.2.2 (List.mem_of_getElem? (i := 2) rfl) rfl rfl (by omega) (by omega)) (hp_gLa gL (List.mem_of_getElem? (i := 0) rfl) (by decide))
    cases hp
  · intro p hp ys v h' hys a1 a2 a3 gZ gS
    cases hp
theorem hdA7_k : hq_chk [81] 82 0 0 [] [] [(0, .inr (.inr (.inl (some 40))))] [] [(6156, (0, []), (349785, [])), (6656, (0, []), (136356, [])), (6656, (1, []), (24627347, [])), (6656, (2, []), (4359816, [])), (6656, (3, []), (206277, [])), (6656, (4, []), (113428729, [])), (6656, (5, []), (365744, [])), (6656, (6, []), (431556, [])), (6656, (7, []), (349785, [])), (6656, (8, []), (394692, [])), (6656, (9, []), (11566, [])), (6656, (10, []), (3574901946597, [])), (6656, (11, []), (9309407396, [])), (6656, (12, []), (75148, [])), (6656, (13, []), (736548, [])), (6656, (14, []), (659105125, [])), (6656, (15, []), (609441381, [])), (6656, (16, []), (20579780, []))] [6158, 6159, 6160] 3 [(90, ([], 0, [], [], [(0, .inr (.inr (.inl (some 40))))], [.inr (.inl (0, [])), .inl (7, []), .inr (.inr (.inl (some 30)))], [(6158, (0, []), (7, [])), (6159, (0, []), (7, [])), (6160, (0, []), (0, []))]))] [] = true := by decide +kernel
theorem hdA7 {cst : am_K} {strs : List Nat} {Φ : am_Q → Prop} {D : Nat} {M : am_M} {h : am_H} {l : am_L} (c : hp_C cst strs D) (hM : m_P[82]? = some M) (hD : (3 : Int) ≤ (D : Int) + 1) (hy : ly_hy m_tt ly_TH h) (k0 : ly_hv cst h 6156 0 = some 349785) (k1 : ly_hv cst h 6656 0 = some 136356) (k2 : ly_hv cst h 6656 1 = some 24627347) (k3 : ly_hv cst h 6656 2 = some 4359816) (k4 : ly_hv cst h 6656 3 = some 206277) (k5 : ly_hv cst h 6656 4 = some 113428729) (k6 : ly_hv cst h 6656 5 = some 365744) (k7 : ly_hv cst h 6656 6 = some 431556) (k8 : ly_hv cst h 6656 7 = some 349785) (k9 : ly_hv cst h 6656 8 = some 394692) (k10 : ly_hv cst h 6656 9 = some 11566) (k11 : ly_hv cst h 6656 10 = some 3574901946597) (k12 : ly_hv cst h 6656 11 = some 9309407396) (k13 : ly_hv cst h 6656 12 = some 75148) (k14 : ly_hv cst h 6656 13 = some 736548) (k15 : ly_hv cst h 6656 14 = some 659105125) (k16 : ly_hv cst h 6656 15 = some 609441381) (k17 : ly_hv cst h 6656 16 = some 20579780) (l0 : hp_a l 0 40) (e0 : ∀ (l' : am_L) (h' : am_H) (y0 : Int64) (y1 : Int32), y0.toInt = 0 → y1.toInt = 7 → ly_hy m_tt ly_TH h' → ly_fr cst [6158, 6159, 6160] h h' → h.length ≤ h'.length → ly_hv cst h' 6158 0 = some 7 → ly_hv cst h' 6159 0 = some 7 → ly_hv cst h' 6160 0 = some 0 → hp_a l' 0 40 → hp_F cst strs Φ D M 90 l' [.long y0, .int y1, .ref 30] h') : hp_F cst strs Φ D M 0 l [] h := by
  refine hq_arc c hM hdA7_k hD [] rfl hy hp_Bn hp_Fn (hp_Kc (zi := (0 + 0)) (zv := (349785 + 0)) k0 rfl rfl (by omega) (by omega) (hp_Kc (zi := (0 + 0)) (zv := (136356 + 0)) k1 rfl rfl (by omega) (by omega) (hp_Kc (zi := (1 + 0)) (zv := (24627347 + 0)) k2 rfl rfl (by omega) (by omega) (hp_Kc (zi := (2 + 0)) (zv := (4359816 + 0)) k3 rfl rfl (by omega) (by omega) (hp_Kc (zi := (3 + 0)) (zv := (206277 + 0)) k4 rfl rfl (by omega) (by omega) (hp_Kc (zi := (4 + 0)) (zv := (113428729 + 0)) k5 rfl rfl (by omega) (by omega) (hp_Kc (zi := (5 + 0)) (zv := (365744 + 0)) k6 rfl rfl (by omega) (by omega) (hp_Kc (zi := (6 + 0)) (zv := (431556 + 0)) k7 rfl rfl (by omega) (by omega) (hp_Kc (zi := (7 + 0)) (zv := (349785 + 0)) k8 rfl rfl (by omega) (by omega) (hp_Kc (zi := (8 + 0)) (zv := (394692 + 0)) k9 rfl rfl (by omega) (by omega) (hp_Kc (zi := (9 + 0)) (zv := (11566 + 0)) k10 rfl rfl (by omega) (by omega) (hp_Kc (zi := (10 + 0)) (zv := (3574901946597 + 0)) k11 rfl rfl (by omega) (by omega) (hp_Kc (zi := (11 + 0)) (zv := (9309407396 + 0)) k12 rfl rfl (by omega) (by omega) (hp_Kc (zi := (12 + 0)) (zv := (75148 + 0)) k13 rfl rfl (by omega) (by omega) (hp_Kc (zi := (13 + 0)) (zv := (736548 + 0)) k14 rfl rfl (by omega) (by omega) (hp_Kc (zi := (14 + 0)) (zv := (659105125 + 0)) k15 rfl rfl (by omega) (by omega) (hp_Kc (zi := (15 + 0)) (zv := (609441381 + 0)) k16 rfl rfl (by omega) (by omega) (hp_Kc (zi := (16 + 0)) (zv := (20579780 + 0)) k17 rfl rfl (by omega) (by omega) hp_Kn)))))))))))))))))) (hp_La l0 hp_Ln) trivial ?_ ?_
  · intro p hp ys l' st' h' hys a1 a2 a3 gZ gL gS
    rcases List.mem_cons.mp hp with rfl | hp
    · obtain rfl := hp_y0 hys
      obtain ⟨y0, t0, rfl, q0, g0⟩ := hp_gSj (z := (0 + 0)) gS rfl
      obtain ⟨y1, t1, rfl, q1, g1⟩ := hp_gSi (z := (7 + 0)) g0 rfl
      obtain ⟨t2, rfl, g2⟩ := hp_gSa g1 (by decide)
      cases hp_gSn g2
      exact e0 l' h' y0 y1 (by omega) (by omega) a1 a2 a3 (hp_gK (zi := (0 + 0)) (zv := (7 + 0)) gZ.2.2.2 (List.mem_of_getElem? (i := 0) rfl) rfl rfl (by omega) (by omega)) (hp_gK (zi := (0 + 0)) (zv := (7 + 0)) gZ.2.2.2 (List.mem_of_getElem? (i := 1) rfl) rfl rfl (by omega) (by omega)) (hp_gK (zi := (0 + 0)) (zv := (0 + 0)) gZ.2.2.2 (List.mem_of_getElem? (i := 2) rfl) rfl rfl (by omega) (by omega)) (hp_gLa gL (List.mem_of_getElem? (i := 0) rfl) (by decide))
    cases hp
  · intro p hp ys v h' hys a1 a2 a3 gZ gS
    cases hp
theorem hdA8_k : hq_chk [81] 82 0 0 [] [] [(0, .inr (.inr (.inl (some 40))))] [] [(6156, (0, []), (394692, [])), (6656, (0, []), (136356, [])), (6656, (1, []), (24627347, [])), (6656, (2, []), (4359816, [])), (6656, (3, []), (206277, [])), (6656, (4, []), (113428729, [])), (6656, (5, []), (365744, [])), (6656, (6, []), (431556, [])), (6656, (7, []), (349785, [])), (6656, (8, []), (394692, [])), (6656, (9, []), (11566, [])), (6656, (10, []), (3574901946597, [])), (6656, (11, []), (9309407396, [])), (6656, (12, []), (75148, [])), (6656, (13, []), (736548, [])), (6656, (14, []), (659105125, [])), (6656, (15, []), (609441381, [])), (6656, (16, []), (20579780, []))] [6158, 6159, 6160] 3 [(90, ([], 0, [], [], [(0, .inr (.inr (.inl (some 40))))], [.inr (.inl (0, [])), .inl (8, []), .inr (.inr (.inl (some 30)))], [(6158, (0, []), (8, [])), (6159, (0, []), (8, [])), (6160, (0, []), (0, []))]))] [] = true := by decide +kernel
theorem hdA8 {cst : am_K} {strs : List Nat} {Φ : am_Q → Prop} {D : Nat} {M : am_M} {h : am_H} {l : am_L} (c : hp_C cst strs D) (hM : m_P[82]? = some M) (hD : (3 : Int) ≤ (D : Int) + 1) (hy : ly_hy m_tt ly_TH h) (k0 : ly_hv cst h 6156 0 = some 394692) (k1 : ly_hv cst h 6656 0 = some 136356) (k2 : ly_hv cst h 6656 1 = some 24627347) (k3 : ly_hv cst h 6656 2 = some 4359816) (k4 : ly_hv cst h 6656 3 = some 206277) (k5 : ly_hv cst h 6656 4 = some 113428729) (k6 : ly_hv cst h 6656 5 = some 365744) (k7 : ly_hv cst h 6656 6 = some 431556) (k8 : ly_hv cst h 6656 7 = some 349785) (k9 : ly_hv cst h 6656 8 = some 394692) (k10 : ly_hv cst h 6656 9 = some 11566) (k11 : ly_hv cst h 6656 10 = some 3574901946597) (k12 : ly_hv cst h 6656 11 = some 9309407396) (k13 : ly_hv cst h 6656 12 = some 75148) (k14 : ly_hv cst h 6656 13 = some 736548) (k15 : ly_hv cst h 6656 14 = some 659105125) (k16 : ly_hv cst h 6656 15 = some 609441381) (k17 : ly_hv cst h 6656 16 = some 20579780) (l0 : hp_a l 0 40) (e0 : ∀ (l' : am_L) (h' : am_H) (y0 : Int64) (y1 : Int32), y0.toInt = 0 → y1.toInt = 8 → ly_hy m_tt ly_TH h' → ly_fr cst [6158, 6159, 6160] h h' → h.length ≤ h'.length → ly_hv cst h' 6158 0 = some 8 → ly_hv cst h' 6159 0 = some 8 → ly_hv cst h' 6160 0 = some 0 → hp_a l' 0 40 → hp_F cst strs Φ D M 90 l' [.long y0, .int y1, .ref 30] h') : hp_F cst strs Φ D M 0 l [] h := by
  refine hq_arc c hM hdA8_k hD [] rfl hy hp_Bn hp_Fn (hp_Kc (zi := (0 + 0)) (zv := (394692 + 0)) k0 rfl rfl (by omega) (by omega) (hp_Kc (zi := (0 + 0)) (zv := (136356 + 0)) k1 rfl rfl (by omega) (by omega) (hp_Kc (zi := (1 + 0)) (zv := (24627347 + 0)) k2 rfl rfl (by omega) (by omega) (hp_Kc (zi := (2 + 0)) (zv := (4359816 + 0)) k3 rfl rfl (by omega) (by omega) (hp_Kc (zi := (3 + 0)) (zv := (206277 + 0)) k4 rfl rfl (by omega) (by omega) (hp_Kc (zi := (4 + 0)) (zv := (113428729 + 0)) k5 rfl rfl (by omega) (by omega) (hp_Kc (zi := (5 + 0)) (zv := (365744 + 0)) k6 rfl rfl (by omega) (by omega) (hp_Kc (zi := (6 + 0)) (zv := (431556 + 0)) k7 rfl rfl (by omega) (by omega) (hp_Kc (zi := (7 + 0)) (zv := (349785 + 0)) k8 rfl rfl (by omega) (by omega) (hp_Kc (zi := (8 + 0)) (zv := (394692 + 0)) k9 rfl rfl (by omega) (by omega) (hp_Kc (zi := (9 + 0)) (zv := (11566 + 0)) k10 rfl rfl (by omega) (by omega) (hp_Kc (zi := (10 + 0)) (zv := (3574901946597 + 0)) k11 rfl rfl (by omega) (by omega) (hp_Kc (zi := (11 + 0)) (zv := (9309407396 + 0)) k12 rfl rfl (by omega) (by omega) (hp_Kc (zi := (12 + 0)) (zv := (75148 + 0)) k13 rfl rfl (by omega) (by omega) (hp_Kc (zi := (13 + 0)) (zv := (736548 + 0)) k14 rfl rfl (by omega) (by omega) (hp_Kc (zi := (14 + 0)) (zv := (659105125 + 0)) k15 rfl rfl (by omega) (by omega) (hp_Kc (zi := (15 + 0)) (zv := (609441381 + 0)) k16 rfl rfl (by omega) (by omega) (hp_Kc (zi := (16 + 0)) (zv := (20579780 + 0)) k17 rfl rfl (by omega) (by omega) hp_Kn)))))))))))))))))) (hp_La l0 hp_Ln) trivial ?_ ?_
  · intro p hp ys l' st' h' hys a1 a2 a3 gZ gL gS
    rcases List.mem_cons.mp hp with rfl | hp
    · obtain rfl := hp_y0 hys
      obtain ⟨y0, t0, rfl, q0, g0⟩ := hp_gSj (z := (0 + 0)) gS rfl
      obtain ⟨y1, t1, rfl, q1, g1⟩ := hp_gSi (z := (8 + 0)) g0 rfl
      obtain ⟨t2, rfl, g2⟩ := hp_gSa g1 (by decide)
      cases hp_gSn g2
      exact e0 l' h' y0 y1 (by omega) (by omega) a1 a2 a3 (hp_gK (zi := (0 + 0)) (zv := (8 + 0)) gZ.2.2.2 (List.mem_of_getElem? (i := 0) rfl) rfl rfl (by omega) (by omega)) (hp_gK (zi := (0 + 0)) (zv := (8 + 0)) gZ.2.2.2 (List.mem_of_getElem? (i := 1) rfl) rfl rfl (by omega) (by omega)) (hp_gK (zi := (0 + 0)) (zv := (0 + 0)) gZ.2.2.2 (List.mem_of_getElem? (i := 2) rfl) rfl rfl (by omega) (by omega)) (hp_gLa gL (List.mem_of_getElem? (i := 0) rfl) (by decide))
    cases hp
  · intro p hp ys v h' hys a1 a2 a3 gZ gS
    cases hp
theorem hdA9_k : hq_chk [81] 82 0 0 [] [] [(0, .inr (.inr (.inl (some 40))))] [] [(6156, (0, []), (11566, [])), (6656, (0, []), (136356, [])), (6656, (1, []), (24627347, [])), (6656, (2, []), (4359816, [])), (6656, (3, []), (206277, [])), (6656, (4, []), (113428729, [])), (6656, (5, []), (365744, [])), (6656, (6, []), (431556, [])), (6656, (7, []), (349785, [])), (6656, (8, []), (394692, [])), (6656, (9, []), (11566, [])), (6656, (10, []), (3574901946597, [])), (6656, (11, []), (9309407396, [])), (6656, (12, []), (75148, [])), (6656, (13, []), (736548, [])), (6656, (14, []), (659105125, [])), (6656, (15, []), (609441381, [])), (6656, (16, []), (20579780, []))] [6158, 6159, 6160] 3 [(90, ([], 0, [], [], [(0, .inr (.inr (.inl (some 40))))], [.inr (.inl (0, [])), .inl (9, []), .inr (.inr (.inl (some 30)))], [(6158, (0, []), (9, [])), (6159, (0, []), (9, [])), (6160, (0, []), (0, []))]))] [] = true := by decide +kernel
theorem hdA9 {cst : am_K} {strs : List Nat} {Φ : am_Q → Prop} {D : Nat} {M : am_M} {h : am_H} {l : am_L} (c : hp_C cst strs D) (hM : m_P[82]? = some M) (hD : (3 : Int) ≤ (D : Int) + 1) (hy : ly_hy m_tt ly_TH h) (k0 : ly_hv cst h 6156 0 = some 11566) (k1 : ly_hv cst h 6656 0 = some 136356) (k2 : ly_hv cst h 6656 1 = some 24627347) (k3 : ly_hv cst h 6656 2 = some 4359816) (k4 : ly_hv cst h 6656 3 = some 206277) (k5 : ly_hv cst h 6656 4 = some 113428729) (k6 : ly_hv cst h 6656 5 = some 365744) (k7 : ly_hv cst h 6656 6 = some 431556) (k8 : ly_hv cst h 6656 7 = some 349785) (k9 : ly_hv cst h 6656 8 = some 394692) (k10 : ly_hv cst h 6656 9 = some 11566) (k11 : ly_hv cst h 6656 10 = some 3574901946597) (k12 : ly_hv cst h 6656 11 = some 9309407396) (k13 : ly_hv cst h 6656 12 = some 75148) (k14 : ly_hv cst h 6656 13 = some 736548) (k15 : ly_hv cst h 6656 14 = some 659105125) (k16 : ly_hv cst h 6656 15 = some 609441381) (k17 : ly_hv cst h 6656 16 = some 20579780) (l0 : hp_a l 0 40) (e0 : ∀ (l' : am_L) (h' : am_H) (y0 : Int64) (y1 : Int32), y0.toInt = 0 → y1.toInt = 9 → ly_hy m_tt ly_TH h' → ly_fr cst [6158, 6159, 6160] h h' → h.length ≤ h'.length → ly_hv cst h' 6158 0 = some 9 → ly_hv cst h' 6159 0 = some 9 → ly_hv cst h' 6160 0 = some 0 → hp_a l' 0 40 → hp_F cst strs Φ D M 90 l' [.long y0, .int y1, .ref 30] h') : hp_F cst strs Φ D M 0 l [] h := by
  refine hq_arc c hM hdA9_k hD [] rfl hy hp_Bn hp_Fn (hp_Kc (zi := (0 + 0)) (zv := (11566 + 0)) k0 rfl rfl (by omega) (by omega) (hp_Kc (zi := (0 + 0)) (zv := (136356 + 0)) k1 rfl rfl (by omega) (by omega) (hp_Kc (zi := (1 + 0)) (zv := (24627347 + 0)) k2 rfl rfl (by omega) (by omega) (hp_Kc (zi := (2 + 0)) (zv := (4359816 + 0)) k3 rfl rfl (by omega) (by omega) (hp_Kc (zi := (3 + 0)) (zv := (206277 + 0)) k4 rfl rfl (by omega) (by omega) (hp_Kc (zi := (4 + 0)) (zv := (113428729 + 0)) k5 rfl rfl (by omega) (by omega) (hp_Kc (zi := (5 + 0)) (zv := (365744 + 0)) k6 rfl rfl (by omega) (by omega) (hp_Kc (zi := (6 + 0)) (zv := (431556 + 0)) k7 rfl rfl (by omega) (by omega) (hp_Kc (zi := (7 + 0)) (zv := (349785 + 0)) k8 rfl rfl (by omega) (by omega) (hp_Kc (zi := (8 + 0)) (zv := (394692 + 0)) k9 rfl rfl (by omega) (by omega) (hp_Kc (zi := (9 + 0)) (zv := (11566 + 0)) k10 rfl rfl (by omega) (by omega) (hp_Kc (zi := (10 + 0)) (zv := (3574901946597 + 0)) k11 rfl rfl (by omega) (by omega) (hp_Kc (zi := (11 + 0)) (zv := (9309407396 + 0)) k12 rfl rfl (by omega) (by omega) (hp_Kc (zi := (12 + 0)) (zv := (75148 + 0)) k13 rfl rfl (by omega) (by omega) (hp_Kc (zi := (13 + 0)) (zv := (736548 + 0)) k14 rfl rfl (by omega) (by omega) (hp_Kc (zi := (14 + 0)) (zv := (659105125 + 0)) k15 rfl rfl (by omega) (by omega) (hp_Kc (zi := (15 + 0)) (zv := (609441381 + 0)) k16 rfl rfl (by omega) (by omega) (hp_Kc (zi := (16 + 0)) (zv := (20579780 + 0)) k17 rfl rfl (by omega) (by omega) hp_Kn)))))))))))))))))) (hp_La l0 hp_Ln) trivial ?_ ?_
  · intro p hp ys l' st' h' hys a1 a2 a3 gZ gL gS
    rcases List.mem_cons.mp hp with rfl | hp
    · obtain rfl := hp_y0 hys
      obtain ⟨y0, t0, rfl, q0, g0⟩ := hp_gSj (z := (0 + 0)) gS rfl
      obtain ⟨y1, t1, rfl, q1, g1⟩ := hp_gSi (z := (9 + 0)) g0 rfl
      obtain ⟨t2, rfl, g2⟩ := hp_gSa g1 (by decide)
      cases hp_gSn g2
      exact e0 l' h' y0 y1 (by omega) (by omega) a1 a2 a3 (hp_gK (zi := (0 + 0)) (zv := (9 + 0)) gZ.2.2.2 (List.mem_of_getElem? (i := 0) rfl) rfl rfl (by omega) (by omega)) (hp_gK (zi := (0 + 0)) (zv := (9 + 0)) gZ.2.2.2 (List.mem_of_getElem? (i := 1) rfl) rfl rfl (by omega) (by omega)) (hp_gK (zi := (0 + 0)) (zv := (0 + 0)) gZ.2.2.2 (List.mem_of_getElem? (i := 2) rfl) rfl rfl (by omega) (by omega)) (hp_gLa gL (List.mem_of_getElem? (i := 0) rfl) (by decide))
    cases hp
  · intro p hp ys v h' hys a1 a2 a3 gZ gS
    cases hp
theorem hdA10_k : hq_chk [81] 82 0 0 [] [] [(0, .inr (.inr (.inl (some 40))))] [] [(6156, (0, []), (3574901946597, [])), (6656, (0, []), (136356, [])), (6656, (1, []), (24627347, [])), (6656, (2, []), (4359816, [])), (6656, (3, []), (206277, [])), (6656, (4, []), (113428729, [])), (6656, (5, []), (365744, [])), (6656, (6, []), (431556, [])), (6656, (7, []), (349785, [])), (6656, (8, []), (394692, [])), (6656, (9, []), (11566, [])), (6656, (10, []), (3574901946597, [])), (6656, (11, []), (9309407396, [])), (6656, (12, []), (75148, [])), (6656, (13, []), (736548, [])), (6656, (14, []), (659105125, [])), (6656, (15, []), (609441381, [])), (6656, (16, []), (20579780, []))] [6158, 6159, 6160] 3 [(90, ([], 0, [], [], [(0, .inr (.inr (.inl (some 40))))], [.inr (.inl (0, [])), .inl (10, []), .inr (.inr (.inl (some 30)))], [(6158, (0, []), (10, [])), (6159, (0, []), (10, [])), (6160, (0, []), (0, []))]))] [] = true := by decide +kernel
theorem hdA10 {cst : am_K} {strs : List Nat} {Φ : am_Q → Prop} {D : Nat} {M : am_M} {h : am_H} {l : am_L} (c : hp_C cst strs D) (hM : m_P[82]? = some M) (hD : (3 : Int) ≤ (D : Int) + 1) (hy : ly_hy m_tt ly_TH h) (k0 : ly_hv cst h 6156 0 = some 3574901946597) (k1 : ly_hv cst h 6656 0 = some 136356) (k2 : ly_hv cst h 6656 1 = some 24627347) (k3 : ly_hv cst h 6656 2 = some 4359816) (k4 : ly_hv cst h 6656 3 = some 206277) (k5 : ly_hv cst h 6656 4 = some 113428729) (k6 : ly_hv cst h 6656 5 = some 365744) (k7 : ly_hv cst h 6656 6 = some 431556) (k8 : ly_hv cst h 6656 7 = some 349785) (k9 : ly_hv cst h 6656 8 = some 394692) (k10 : ly_hv cst h 6656 9 = some 11566) (k11 : ly_hv cst h 6656 10 = some 3574901946597) (k12 : ly_hv cst h 6656 11 = some 9309407396) (k13 : ly_hv cst h 6656 12 = some 75148) (k14 : ly_hv cst h 6656 13 = some 736548) (k15 : ly_hv cst h 6656 14 = some 659105125) (k16 : ly_hv cst h 6656 15 = some 609441381) (k17 : ly_hv cst h 6656 16 = some 20579780) (l0 : hp_a l 0 40) (e0 : ∀ (l' : am_L) (h' : am_H) (y0 : Int64) (y1 : Int32), y0.toInt = 0 → y1.toInt = 10 → ly_hy m_tt ly_TH h' → ly_fr cst [6158, 6159, 6160] h h' → h.length ≤ h'.length → ly_hv cst h' 6158 0 = some 10 → ly_hv cst h' 6159 0 = some 10 → ly_hv cst h' 6160 0 = some 0 → hp_a l' 0 40 → hp_F cst strs Φ D M 90 l' [.long y0, .int y1, .ref 30] h') : hp_F cst strs Φ D M 0 l [] h := by
  refine hq_arc c hM hdA10_k hD [] rfl hy hp_Bn hp_Fn (hp_Kc (zi := (0 + 0)) (zv := (3574901946597 + 0)) k0 rfl rfl (by omega) (by omega) (hp_Kc (zi := (0 + 0)) (zv := (136356 + 0)) k1 rfl rfl (by omega) (by omega) (hp_Kc (zi := (1 + 0)) (zv := (24627347 + 0)) k2 rfl rfl (by omega) (by omega) (hp_Kc (zi := (2 + 0)) (zv := (4359816 + 0)) k3 rfl rfl (by omega) (by omega) (hp_Kc (zi := (3 + 0)) (zv := (206277 + 0)) k4 rfl rfl (by omega) (by omega) (hp_Kc (zi := (4 + 0)) (zv := (113428729 + 0)) k5 rfl rfl (by omega) (by omega) (hp_Kc (zi := (5 + 0)) (zv := (365744 + 0)) k6 rfl rfl (by omega) (by omega) (hp_Kc (zi := (6 + 0)) (zv := (431556 + 0)) k7 rfl rfl (by omega) (by omega) (hp_Kc (zi := (7 + 0)) (zv := (349785 + 0)) k8 rfl rfl (by omega) (by omega) (hp_Kc (zi := (8 + 0)) (zv := (394692 + 0)) k9 rfl rfl (by omega) (by omega) (hp_Kc (zi := (9 + 0)) (zv := (11566 + 0)) k10 rfl rfl (by omega) (by omega) (hp_Kc (zi := (10 + 0)) (zv := (3574901946597 + 0)) k11 rfl rfl (by omega) (by omega) (hp_Kc (zi := (11 + 0)) (zv := (9309407396 + 0)) k12 rfl rfl (by omega) (by omega) (hp_Kc (zi := (12 + 0)) (zv := (75148 + 0)) k13 rfl rfl (by omega) (by omega) (hp_Kc (zi := (13 + 0)) (zv := (736548 + 0)) k14 rfl rfl (by omega) (by omega) (hp_Kc (zi := (14 + 0)) (zv := (659105125 + 0)) k15 rfl rfl (by omega) (by omega) (hp_Kc (zi := (15 + 0)) (zv := (609441381 + 0)) k16 rfl rfl (by omega) (by omega) (hp_Kc (zi := (16 + 0)) (zv := (20579780 + 0)) k17 rfl rfl (by omega) (by omega) hp_Kn)))))))))))))))))) (hp_La l0 hp_Ln) trivial ?_ ?_
  · intro p hp ys l' st' h' hys a1 a2 a3 gZ gL gS
    rcases List.mem_cons.mp hp with rfl | hp
    · obtain rfl := hp_y0 hys
      obtain ⟨y0, t0, rfl, q0, g0⟩ := hp_gSj (z := (0 + 0)) gS rfl
      obtain ⟨y1, t1, rfl, q1, g1⟩ := hp_gSi (z := (10 + 0)) g0 rfl
      obtain ⟨t2, rfl, g2⟩ := hp_gSa g1 (by decide)
      cases hp_gSn g2
      exact e0 l' h' y0 y1 (by omega) (by omega) a1 a2 a3 (hp_gK (zi := (0 + 0)) (zv := (10 + 0)) gZ.2.2.2 (List.mem_of_getElem? (i := 0) rfl) rfl rfl (by omega) (by omega)) (hp_gK (zi := (0 + 0)) (zv := (10 + 0)) gZ.2.2.2 (List.mem_of_getElem? (i := 1) rfl) rfl rfl (by omega) (by omega)) (hp_gK (zi := (0 + 0)) (zv := (0 + 0)) gZ.2.2.2 (List.mem_of_getElem? (i := 2) rfl) rfl rfl (by omega) (by omega)) (hp_gLa gL (List.mem_of_getElem? (i := 0) rfl) (by decide))
    cases hp
  · intro p hp ys v h' hys a1 a2 a3 gZ gS
    cases hp
theorem hdA11_k : hq_chk [81] 82 0 0 [] [] [(0, .inr (.inr (.inl (some 40))))] [] [(6156, (0, []), (9309407396, [])), (6656, (0, []), (136356, [])), (6656, (1, []), (24627347, [])), (6656, (2, []), (4359816, [])), (6656, (3, []), (206277, [])), (6656, (4, []), (113428729, [])), (6656, (5, []), (365744, [])), (6656, (6, []), (431556, [])), (6656, (7, []), (349785, [])), (6656, (8, []), (394692, [])), (6656, (9, []), (11566, [])), (6656, (10, []), (3574901946597, [])), (6656, (11, []), (9309407396, [])), (6656, (12, []), (75148, [])), (6656, (13, []), (736548, [])), (6656, (14, []), (659105125, [])), (6656, (15, []), (609441381, [])), (6656, (16, []), (20579780, []))] [6158, 6159, 6160] 3 [(90, ([], 0, [], [], [(0, .inr (.inr (.inl (some 40))))], [.inr (.inl (0, [])), .inl (11, []), .inr (.inr (.inl (some 30)))], [(6158, (0, []), (11, [])), (6159, (0, []), (11, [])), (6160, (0, []), (0, []))]))] [] = true := by decide +kernel
theorem hdA11 {cst : am_K} {strs : List Nat} {Φ : am_Q → Prop} {D : Nat} {M : am_M} {h : am_H} {l : am_L} (c : hp_C cst strs D) (hM : m_P[82]? = some M) (hD : (3 : Int) ≤ (D : Int) + 1) (hy : ly_hy m_tt ly_TH h) (k0 : ly_hv cst h 6156 0 = some 9309407396) (k1 : ly_hv cst h 6656 0 = some 136356) (k2 : ly_hv cst h 6656 1 = some 24627347) (k3 : ly_hv cst h 6656 2 = some 4359816) (k4 : ly_hv cst h 6656 3 = some 206277) (k5 : ly_hv cst h 6656 4 = some 113428729) (k6 : ly_hv cst h 6656 5 = some 365744) (k7 : ly_hv cst h 6656 6 = some 431556) (k8 : ly_hv cst h 6656 7 = some 349785) (k9 : ly_hv cst h 6656 8 = some 394692) (k10 : ly_hv cst h 6656 9 = some 11566) (k11 : ly_hv cst h 6656 10 = some 3574901946597) (k12 : ly_hv cst h 6656 11 = some 9309407396) (k13 : ly_hv cst h 6656 12 = some 75148) (k14 : ly_hv cst h 6656 13 = some 736548) (k15 : ly_hv cst h 6656 14 = some 659105125) (k16 : ly_hv cst h 6656 15 = some 609441381) (k17 : ly_hv cst h 6656 16 = some 20579780) (l0 : hp_a l 0 40) (e0 : ∀ (l' : am_L) (h' : am_H) (y0 : Int64) (y1 : Int32), y0.toInt = 0 → y1.toInt = 11 → ly_hy m_tt ly_TH h' → ly_fr cst [6158, 6159, 6160] h h' → h.length ≤ h'.length → ly_hv cst h' 6158 0 = some 11 → ly_hv cst h' 6159 0 = some 11 → ly_hv cst h' 6160 0 = some 0 → hp_a l' 0 40 → hp_F cst strs Φ D M 90 l' [.long y0, .int y1, .ref 30] h') : hp_F cst strs Φ D M 0 l [] h := by
  refine hq_arc c hM hdA11_k hD [] rfl hy hp_Bn hp_Fn (hp_Kc (zi := (0 + 0)) (zv := (9309407396 + 0)) k0 rfl rfl (by omega) (by omega) (hp_Kc (zi := (0 + 0)) (zv := (136356 + 0)) k1 rfl rfl (by omega) (by omega) (hp_Kc (zi := (1 + 0)) (zv := (24627347 + 0)) k2 rfl rfl (by omega) (by omega) (hp_Kc (zi := (2 + 0)) (zv := (4359816 + 0)) k3 rfl rfl (by omega) (by omega) (hp_Kc (zi := (3 + 0)) (zv := (206277 + 0)) k4 rfl rfl (by omega) (by omega) (hp_Kc (zi := (4 + 0)) (zv := (113428729 + 0)) k5 rfl rfl (by omega) (by omega) (hp_Kc (zi := (5 + 0)) (zv := (365744 + 0)) k6 rfl rfl (by omega) (by omega) (hp_Kc (zi := (6 + 0)) (zv := (431556 + 0)) k7 rfl rfl (by omega) (by omega) (hp_Kc (zi := (7 + 0)) (zv := (349785 + 0)) k8 rfl rfl (by omega) (by omega) (hp_Kc (zi := (8 + 0)) (zv := (394692 + 0)) k9 rfl rfl (by omega) (by omega) (hp_Kc (zi := (9 + 0)) (zv := (11566 + 0)) k10 rfl rfl (by omega) (by omega) (hp_Kc (zi := (10 + 0)) (zv := (3574901946597 + 0)) k11 rfl rfl (by omega) (by omega) (hp_Kc (zi := (11 + 0)) (zv := (9309407396 + 0)) k12 rfl rfl (by omega) (by omega) (hp_Kc (zi := (12 + 0)) (zv := (75148 + 0)) k13 rfl rfl (by omega) (by omega) (hp_Kc (zi := (13 + 0)) (zv := (736548 + 0)) k14 rfl rfl (by omega) (by omega) (hp_Kc (zi := (14 + 0)) (zv := (659105125 + 0)) k15 rfl rfl (by omega) (by omega) (hp_Kc (zi := (15 + 0)) (zv := (609441381 + 0)) k16 rfl rfl (by omega) (by omega) (hp_Kc (zi := (16 + 0)) (zv := (20579780 + 0)) k17 rfl rfl (by omega) (by omega) hp_Kn)))))))))))))))))) (hp_La l0 hp_Ln) trivial ?_ ?_
  · intro p hp ys l' st' h' hys a1 a2 a3 gZ gL gS
    rcases List.mem_cons.mp hp with rfl | hp
    · obtain rfl := hp_y0 hys
      obtain ⟨y0, t0, rfl, q0, g0⟩ := hp_gSj (z := (0 + 0)) gS rfl
      obtain ⟨y1, t1, rfl, q1, g1⟩ := hp_gSi (z := (11 + 0)) g0 rfl
      obtain ⟨t2, rfl, g2⟩ := hp_gSa g1 (by decide)
      cases hp_gSn g2
      exact e0 l' h' y0 y1 (by omega) (by omega) a1 a2 a3 (hp_gK (zi := (0 + 0)) (zv := (11 + 0)) gZ.2.2.2 (List.mem_of_getElem? (i := 0) rfl) rfl rfl (by omega) (by omega)) (hp_gK (zi := (0 + 0)) (zv := (11 + 0)) gZ.2.2.2 (List.mem_of_getElem? (i := 1) rfl) rfl rfl (by omega) (by omega)) (hp_gK (zi := (0 + 0)) (zv := (0 + 0)) gZ.2.2.2 (List.mem_of_getElem? (i := 2) rfl) rfl rfl (by omega) (by omega)) (hp_gLa gL (List.mem_of_getElem? (i := 0) rfl) (by decide))
    cases hp
  · intro p hp ys v h' hys a1 a2 a3 gZ gS
    cases hp
theorem hdA12_k : hq_chk [81] 82 0 0 [] [] [(0, .inr (.inr (.inl (some 40))))] [] [(6156, (0, []), (75148, [])), (6656, (0, []), (136356, [])), (6656, (1, []), (24627347, [])), (6656, (2, []), (4359816, [])), (6656, (3, []), (206277, [])), (6656, (4, []), (113428729, [])), (6656, (5, []), (365744, [])), (6656, (6, []), (431556, [])), (6656, (7, []), (349785, [])), (6656, (8, []), (394692, [])), (6656, (9, []), (11566, [])), (6656, (10, []), (3574901946597, [])), (6656, (11, []), (9309407396, [])), (6656, (12, []), (75148, [])), (6656, (13, []), (736548, [])), (6656, (14, []), (659105125, [])), (6656, (15, []), (609441381, [])), (6656, (16, []), (20579780, []))] [6158, 6159, 6160] 3 [(90, ([], 0, [], [], [(0, .inr (.inr (.inl (some 40))))], [.inr (.inl (0, [])), .inl (12, []), .inr (.inr (.inl (some 30)))], [(6158, (0, []), (12, [])), (6159, (0, []), (12, [])), (6160, (0, []), (0, []))]))] [] = true := by decide +kernel
theorem hdA12 {cst : am_K} {strs : List Nat} {Φ : am_Q → Prop} {D : Nat} {M : am_M} {h : am_H} {l : am_L} (c : hp_C cst strs D) (hM : m_P[82]? = some M) (hD : (3 : Int) ≤ (D : Int) + 1) (hy : ly_hy m_tt ly_TH h) (k0 : ly_hv cst h 6156 0 = some 75148) (k1 : ly_hv cst h 6656 0 = some 136356) (k2 : ly_hv cst h 6656 1 = some 24627347) (k3 : ly_hv cst h 6656 2 = some 4359816) (k4 : ly_hv cst h 6656 3 = some 206277) (k5 : ly_hv cst h 6656 4 = some 113428729) (k6 : ly_hv cst h 6656 5 = some 365744) (k7 : ly_hv cst h 6656 6 = some 431556) (k8 : ly_hv cst h 6656 7 = some 349785) (k9 : ly_hv cst h 6656 8 = some 394692) (k10 : ly_hv cst h 6656 9 = some 11566) (k11 : ly_hv cst h 6656 10 = some 3574901946597) (k12 : ly_hv cst h 6656 11 = some 9309407396) (k13 : ly_hv cst h 6656 12 = some 75148) (k14 : ly_hv cst h 6656 13 = some 736548) (k15 : ly_hv cst h 6656 14 = some 659105125) (k16 : ly_hv cst h 6656 15 = some 609441381) (k17 : ly_hv cst h 6656 16 = some 20579780) (l0 : hp_a l 0 40) (e0 : ∀ (l' : am_L) (h' : am_H) (y0 : Int64) (y1 : Int32), y0.toInt = 0 → y1.toInt = 12 → ly_hy m_tt ly_TH h' → ly_fr cst [6158, 6159, 6160] h h' → h.length ≤ h'.length → ly_hv cst h' 6158 0 = some 12 → ly_hv cst h' 6159 0 = some 12 → ly_hv cst h' 6160 0 = some 0 → hp_a l' 0 40 → hp_F cst strs Φ D M 90 l' [.long y0, .int y1, .ref 30] h') : hp_F cst strs Φ D M 0 l [] h := by
  refine hq_arc c hM hdA12_k hD [] rfl hy hp_Bn hp_Fn (hp_Kc (zi := (0 + 0)) (zv := (75148 + 0)) k0 rfl rfl (by omega) (by omega) (hp_Kc (zi := (0 + 0)) (zv := (136356 + 0)) k1 rfl rfl (by omega) (by omega) (hp_Kc (zi := (1 + 0)) (zv := (24627347 + 0)) k2 rfl rfl (by omega) (by omega) (hp_Kc (zi := (2 + 0)) (zv := (4359816 + 0)) k3 rfl rfl (by omega) (by omega) (hp_Kc (zi := (3 + 0)) (zv := (206277 + 0)) k4 rfl rfl (by omega) (by omega) (hp_Kc (zi := (4 + 0)) (zv := (113428729 + 0)) k5 rfl rfl (by omega) (by omega) (hp_Kc (zi := (5 + 0)) (zv := (365744 + 0)) k6 rfl rfl (by omega) (by omega) (hp_Kc (zi := (6 + 0)) (zv := (431556 + 0)) k7 rfl rfl (by omega) (by omega) (hp_Kc (zi := (7 + 0)) (zv := (349785 + 0)) k8 rfl rfl (by omega) (by omega) (hp_Kc (zi := (8 + 0)) (zv := (394692 + 0)) k9 rfl rfl (by omega) (by omega) (hp_Kc (zi := (9 + 0)) (zv := (11566 + 0)) k10 rfl rfl (by omega) (by omega) (hp_Kc (zi := (10 + 0)) (zv := (3574901946597 + 0)) k11 rfl rfl (by omega) (by omega) (hp_Kc (zi := (11 + 0)) (zv := (9309407396 + 0)) k12 rfl rfl (by omega) (by omega) (hp_Kc (zi := (12 + 0)) (zv := (75148 + 0)) k13 rfl rfl (by omega) (by omega) (hp_Kc (zi := (13 + 0)) (zv := (736548 + 0)) k14 rfl rfl (by omega) (by omega) (hp_Kc (zi := (14 + 0)) (zv := (659105125 + 0)) k15 rfl rfl (by omega) (by omega) (hp_Kc (zi := (15 + 0)) (zv := (609441381 + 0)) k16 rfl rfl (by omega) (by omega) (hp_Kc (zi := (16 + 0)) (zv := (20579780 + 0)) k17 rfl rfl (by omega) (by omega) hp_Kn)))))))))))))))))) (hp_La l0 hp_Ln) trivial ?_ ?_
  · intro p hp ys l' st' h' hys a1 a2 a3 gZ gL gS
    rcases List.mem_cons.mp hp with rfl | hp
    · obtain rfl := hp_y0 hys
      obtain ⟨y0, t0, rfl, q0, g0⟩ := hp_gSj (z := (0 + 0)) gS rfl
      obtain ⟨y1, t1, rfl, q1, g1⟩ := hp_gSi (z := (12 + 0)) g0 rfl
      obtain ⟨t2, rfl, g2⟩ := hp_gSa g1 (by decide)
      cases hp_gSn g2
      exact e0 l' h' y0 y1 (by omega) (by omega) a1 a2 a3 (hp_gK (zi := (0 + 0)) (zv := (12 + 0)) gZ.2.2.2 (List.mem_of_getElem? (i := 0) rfl) rfl rfl (by omega) (by omega)) (hp_gK (zi := (0 + 0)) (zv := (12 + 0)) gZ.2.2.2 (List.mem_of_getElem? (i := 1) rfl) rfl rfl (by omega) (by omega)) (hp_gK (zi := (0 + 0)) (zv := (0 + 0)) gZ.2.2.2 (List.mem_of_getElem? (i := 2) rfl) rfl rfl (by omega) (by omega)) (hp_gLa gL (List.mem_of_getElem? (i := 0) rfl) (by decide))
    cases hp
  · intro p hp ys v h' hys a1 a2 a3 gZ gS
    cases hp
theorem hdA13_k : hq_chk [81] 82 0 0 [] [] [(0, .inr (.inr (.inl (some 40))))] [] [(6156, (0, []), (736548, [])), (6656, (0, []), (136356, [])), (6656, (1, []), (24627347, [])), (6656, (2, []), (4359816, [])), (6656, (3, []), (206277, [])), (6656, (4, []), (113428729, [])), (6656, (5, []), (365744, [])), (6656, (6, []), (431556, [])), (6656, (7, []), (349785, [])), (6656, (8, []), (394692, [])), (6656, (9, []), (11566, [])), (6656, (10, []), (3574901946597, [])), (6656, (11, []), (9309407396, [])), (6656, (12, []), (75148, [])), (6656, (13, []), (736548, [])), (6656, (14, []), (659105125, [])), (6656, (15, []), (609441381, [])), (6656, (16, []), (20579780, []))] [6158, 6159, 6160] 3 [(90, ([], 0, [], [], [(0, .inr (.inr (.inl (some 40))))], [.inr (.inl (0, [])), .inl (13, []), .inr (.inr (.inl (some 30)))], [(6158, (0, []), (13, [])), (6159, (0, []), (13, [])), (6160, (0, []), (0, []))]))] [] = true := by decide +kernel
theorem hdA13 {cst : am_K} {strs : List Nat} {Φ : am_Q → Prop} {D : Nat} {M : am_M} {h : am_H} {l : am_L} (c : hp_C cst strs D) (hM : m_P[82]? = some M) (hD : (3 : Int) ≤ (D : Int) + 1) (hy : ly_hy m_tt ly_TH h) (k0 : ly_hv cst h 6156 0 = some 736548) (k1 : ly_hv cst h 6656 0 = some 136356) (k2 : ly_hv cst h 6656 1 = some 24627347) (k3 : ly_hv cst h 6656 2 = some 4359816) (k4 : ly_hv cst h 6656 3 = some 206277) (k5 : ly_hv cst h 6656 4 = some 113428729) (k6 : ly_hv cst h 6656 5 = some 365744) (k7 : ly_hv cst h 6656 6 = some 431556) (k8 : ly_hv cst h 6656 7 = some 349785) (k9 : ly_hv cst h 6656 8 = some 394692) (k10 : ly_hv cst h 6656 9 = some 11566) (k11 : ly_hv cst h 6656 10 = some 3574901946597) (k12 : ly_hv cst h 6656 11 = some 9309407396) (k13 : ly_hv cst h 6656 12 = some 75148) (k14 : ly_hv cst h 6656 13 = some 736548) (k15 : ly_hv cst h 6656 14 = some 659105125) (k16 : ly_hv cst h 6656 15 = some 609441381) (k17 : ly_hv cst h 6656 16 = some 20579780) (l0 : hp_a l 0 40) (e0 : ∀ (l' : am_L) (h' : am_H) (y0 : Int64) (y1 : Int32), y0.toInt = 0 → y1.toInt = 13 → ly_hy m_tt ly_TH h' → ly_fr cst [6158, 6159, 6160] h h' → h.length ≤ h'.length → ly_hv cst h' 6158 0 = some 13 → ly_hv cst h' 6159 0 = some 13 → ly_hv cst h' 6160 0 = some 0 → hp_a l' 0 40 → hp_F cst strs Φ D M 90 l' [.long y0, .int y1, .ref 30] h') : hp_F cst strs Φ D M 0 l [] h := by
  refine hq_arc c hM hdA13_k hD [] rfl hy hp_Bn hp_Fn (hp_Kc (zi := (0 + 0)) (zv := (736548 + 0)) k0 rfl rfl (by omega) (by omega) (hp_Kc (zi := (0 + 0)) (zv := (136356 + 0)) k1 rfl rfl (by omega) (by omega) (hp_Kc (zi := (1 + 0)) (zv := (24627347 + 0)) k2 rfl rfl (by omega) (by omega) (hp_Kc (zi := (2 + 0)) (zv := (4359816 + 0)) k3 rfl rfl (by omega) (by omega) (hp_Kc (zi := (3 + 0)) (zv := (206277 + 0)) k4 rfl rfl (by omega) (by omega) (hp_Kc (zi := (4 + 0)) (zv := (113428729 + 0)) k5 rfl rfl (by omega) (by omega) (hp_Kc (zi := (5 + 0)) (zv := (365744 + 0)) k6 rfl rfl (by omega) (by omega) (hp_Kc (zi := (6 + 0)) (zv := (431556 + 0)) k7 rfl rfl (by omega) (by omega) (hp_Kc (zi := (7 + 0)) (zv := (349785 + 0)) k8 rfl rfl (by omega) (by omega) (hp_Kc (zi := (8 + 0)) (zv := (394692 + 0)) k9 rfl rfl (by omega) (by omega) (hp_Kc (zi := (9 + 0)) (zv := (11566 + 0)) k10 rfl rfl (by omega) (by omega) (hp_Kc (zi := (10 + 0)) (zv := (3574901946597 + 0)) k11 rfl rfl (by omega) (by omega) (hp_Kc (zi := (11 + 0)) (zv := (9309407396 + 0)) k12 rfl rfl (by omega) (by omega) (hp_Kc (zi := (12 + 0)) (zv := (75148 + 0)) k13 rfl rfl (by omega) (by omega) (hp_Kc (zi := (13 + 0)) (zv := (736548 + 0)) k14 rfl rfl (by omega) (by omega) (hp_Kc (zi := (14 + 0)) (zv := (659105125 + 0)) k15 rfl rfl (by omega) (by omega) (hp_Kc (zi := (15 + 0)) (zv := (609441381 + 0)) k16 rfl rfl (by omega) (by omega) (hp_Kc (zi := (16 + 0)) (zv := (20579780 + 0)) k17 rfl rfl (by omega) (by omega) hp_Kn)))))))))))))))))) (hp_La l0 hp_Ln) trivial ?_ ?_
  · intro p hp ys l' st' h' hys a1 a2 a3 gZ gL gS
    rcases List.mem_cons.mp hp with rfl | hp
    · obtain rfl := hp_y0 hys
      obtain ⟨y0, t0, rfl, q0, g0⟩ := hp_gSj (z := (0 + 0)) gS rfl
      obtain ⟨y1, t1, rfl, q1, g1⟩ := hp_gSi (z := (13 + 0)) g0 rfl
      obtain ⟨t2, rfl, g2⟩ := hp_gSa g1 (by decide)
      cases hp_gSn g2
      exact e0 l' h' y0 y1 (by omega) (by omega) a1 a2 a3 (hp_gK (zi := (0 + 0)) (zv := (13 + 0)) gZ.2.2.2 (List.mem_of_getElem? (i := 0) rfl) rfl rfl (by omega) (by omega)) (hp_gK (zi := (0 + 0)) (zv := (13 + 0)) gZ.2.2.2 (List.mem_of_getElem? (i := 1) rfl) rfl rfl (by omega) (by omega)) (hp_gK (zi := (0 + 0)) (zv := (0 + 0)) gZ.2.2.2 (List.mem_of_getElem? (i := 2) rfl) rfl rfl (by omega) (by omega)) (hp_gLa gL (List.mem_of_getElem? (i := 0) rfl) (by decide))
    cases hp
  · intro p hp ys v h' hys a1 a2 a3 gZ gS
    cases hp
theorem hdA15_k : hq_chk [81] 82 0 0 [] [] [(0, .inr (.inr (.inl (some 40))))] [] [(6156, (0, []), (609441381, [])), (6656, (0, []), (136356, [])), (6656, (1, []), (24627347, [])), (6656, (2, []), (4359816, [])), (6656, (3, []), (206277, [])), (6656, (4, []), (113428729, [])), (6656, (5, []), (365744, [])), (6656, (6, []), (431556, [])), (6656, (7, []), (349785, [])), (6656, (8, []), (394692, [])), (6656, (9, []), (11566, [])), (6656, (10, []), (3574901946597, [])), (6656, (11, []), (9309407396, [])), (6656, (12, []), (75148, [])), (6656, (13, []), (736548, [])), (6656, (14, []), (659105125, [])), (6656, (15, []), (609441381, [])), (6656, (16, []), (20579780, []))] [6158, 6159, 6160] 3 [(90, ([], 0, [], [], [(0, .inr (.inr (.inl (some 40))))], [.inr (.inl (0, [])), .inl (4, []), .inr (.inr (.inl (some 30)))], [(6158, (0, []), (15, [])), (6159, (0, []), (4, [])), (6160, (0, []), (0, []))]))] [] = true := by decide +kernel
theorem hdA15 {cst : am_K} {strs : List Nat} {Φ : am_Q → Prop} {D : Nat} {M : am_M} {h : am_H} {l : am_L} (c : hp_C cst strs D) (hM : m_P[82]? = some M) (hD : (3 : Int) ≤ (D : Int) + 1) (hy : ly_hy m_tt ly_TH h) (k0 : ly_hv cst h 6156 0 = some 609441381) (k1 : ly_hv cst h 6656 0 = some 136356) (k2 : ly_hv cst h 6656 1 = some 24627347) (k3 : ly_hv cst h 6656 2 = some 4359816) (k4 : ly_hv cst h 6656 3 = some 206277) (k5 : ly_hv cst h 6656 4 = some 113428729) (k6 : ly_hv cst h 6656 5 = some 365744) (k7 : ly_hv cst h 6656 6 = some 431556) (k8 : ly_hv cst h 6656 7 = some 349785) (k9 : ly_hv cst h 6656 8 = some 394692) (k10 : ly_hv cst h 6656 9 = some 11566) (k11 : ly_hv cst h 6656 10 = some 3574901946597) (k12 : ly_hv cst h 6656 11 = some 9309407396) (k13 : ly_hv cst h 6656 12 = some 75148) (k14 : ly_hv cst h 6656 13 = some 736548) (k15 : ly_hv cst h 6656 14 = some 659105125) (k16 : ly_hv cst h 6656 15 = some 609441381) (k17 : ly_hv cst h 6656 16 = some 20579780) (l0 : hp_a l 0 40) (e0 : ∀ (l' : am_L) (h' : am_H) (y0 : Int64) (y1 : Int32), y0.toInt = 0 → y1.toInt = 4 → ly_hy m_tt ly_TH h' → ly_fr cst [6158, 6159, 6160] h h' → h.length ≤ h'.length → ly_hv cst h' 6158 0 = some 15 → ly_hv cst h' 6159 0 = some 4 → ly_hv cst h' 6160 0 = some 0 → hp_a l' 0 40 → hp_F cst strs Φ D M 90 l' [.long y0, .int y1, .ref 30] h') : hp_F cst strs Φ D M 0 l [] h := by
  refine hq_arc c hM hdA15_k hD [] rfl hy hp_Bn hp_Fn (hp_Kc (zi := (0 + 0)) (zv := (609441381 + 0)) k0 rfl rfl (by omega) (by omega) (hp_Kc (zi := (0 + 0)) (zv := (136356 + 0)) k1 rfl rfl (by omega) (by omega) (hp_Kc (zi := (1 + 0)) (zv := (24627347 + 0)) k2 rfl rfl (by omega) (by omega) (hp_Kc (zi := (2 + 0)) (zv := (4359816 + 0)) k3 rfl rfl (by omega) (by omega) (hp_Kc (zi := (3 + 0)) (zv := (206277 + 0)) k4 rfl rfl (by omega) (by omega) (hp_Kc (zi := (4 + 0)) (zv := (113428729 + 0)) k5 rfl rfl (by omega) (by omega) (hp_Kc (zi := (5 + 0)) (zv := (365744 + 0)) k6 rfl rfl (by omega) (by omega) (hp_Kc (zi := (6 + 0)) (zv := (431556 + 0)) k7 rfl rfl (by omega) (by omega) (hp_Kc (zi := (7 + 0)) (zv := (349785 + 0)) k8 rfl rfl (by omega) (by omega) (hp_Kc (zi := (8 + 0)) (zv := (394692 + 0)) k9 rfl rfl (by omega) (by omega) (hp_Kc (zi := (9 + 0)) (zv := (11566 + 0)) k10 rfl rfl (by omega) (by omega) (hp_Kc (zi := (10 + 0)) (zv := (3574901946597 + 0)) k11 rfl rfl (by omega) (by omega) (hp_Kc (zi := (11 + 0)) (zv := (9309407396 + 0)) k12 rfl rfl (by omega) (by omega) (hp_Kc (zi := (12 + 0)) (zv := (75148 + 0)) k13 rfl rfl (by omega) (by omega) (hp_Kc (zi := (13 + 0)) (zv := (736548 + 0)) k14 rfl rfl (by omega) (by omega) (hp_Kc (zi := (14 + 0)) (zv := (659105125 + 0)) k15 rfl rfl (by omega) (by omega) (hp_Kc (zi := (15 + 0)) (zv := (609441381 + 0)) k16 rfl rfl (by omega) (by omega) (hp_Kc (zi := (16 + 0)) (zv := (20579780 + 0)) k17 rfl rfl (by omega) (by omega) hp_Kn)))))))))))))))))) (hp_La l0 hp_Ln) trivial ?_ ?_
  · intro p hp ys l' st' h' hys a1 a2 a3 gZ gL gS
    rcases List.mem_cons.mp hp with rfl | hp
    · obtain rfl := hp_y0 hys
      obtain ⟨y0, t0, rfl, q0, g0⟩ := hp_gSj (z := (0 + 0)) gS rfl
      obtain ⟨y1, t1, rfl, q1, g1⟩ := hp_gSi (z := (4 + 0)) g0 rfl
      obtain ⟨t2, rfl, g2⟩ := hp_gSa g1 (by decide)
      cases hp_gSn g2
      exact e0 l' h' y0 y1 (by omega) (by omega) a1 a2 a3 (hp_gK (zi := (0 + 0)) (zv := (15 + 0)) gZ.2.2.2 (List.mem_of_getElem? (i := 0) rfl) rfl rfl (by omega) (by omega)) (hp_gK (zi := (0 + 0)) (zv := (4 + 0)) gZ.2.2.2 (List.mem_of_getElem? (i := 1) rfl) rfl rfl (by omega) (by omega)) (hp_gK (zi := (0 + 0)) (zv := (0 + 0)) gZ.2.2.2 (List.mem_of_getElem? (i := 2) rfl) rfl rfl (by omega) (by omega)) (hp_gLa gL (List.mem_of_getElem? (i := 0) rfl) (by decide))
    cases hp
  · intro p hp ys v h' hys a1 a2 a3 gZ gS
    cases hp
theorem hdA16_k : hq_chk [81] 82 0 0 [] [] [(0, .inr (.inr (.inl (some 40))))] [] [(6156, (0, []), (20579780, [])), (6656, (0, []), (136356, [])), (6656, (1, []), (24627347, [])), (6656, (2, []), (4359816, [])), (6656, (3, []), (206277, [])), (6656, (4, []), (113428729, [])), (6656, (5, []), (365744, [])), (6656, (6, []), (431556, [])), (6656, (7, []), (349785, [])), (6656, (8, []), (394692, [])), (6656, (9, []), (11566, [])), (6656, (10, []), (3574901946597, [])), (6656, (11, []), (9309407396, [])), (6656, (12, []), (75148, [])), (6656, (13, []), (736548, [])), (6656, (14, []), (659105125, [])), (6656, (15, []), (609441381, [])), (6656, (16, []), (20579780, []))] [6158, 6159, 6160] 3 [(90, ([], 0, [], [], [(0, .inr (.inr (.inl (some 40))))], [.inr (.inl (0, [])), .inl (13, []), .inr (.inr (.inl (some 30)))], [(6158, (0, []), (16, [])), (6159, (0, []), (13, [])), (6160, (0, []), (0, []))]))] [] = true := by decide +kernel
theorem hdA16 {cst : am_K} {strs : List Nat} {Φ : am_Q → Prop} {D : Nat} {M : am_M} {h : am_H} {l : am_L} (c : hp_C cst strs D) (hM : m_P[82]? = some M) (hD : (3 : Int) ≤ (D : Int) + 1) (hy : ly_hy m_tt ly_TH h) (k0 : ly_hv cst h 6156 0 = some 20579780) (k1 : ly_hv cst h 6656 0 = some 136356) (k2 : ly_hv cst h 6656 1 = some 24627347) (k3 : ly_hv cst h 6656 2 = some 4359816) (k4 : ly_hv cst h 6656 3 = some 206277) (k5 : ly_hv cst h 6656 4 = some 113428729) (k6 : ly_hv cst h 6656 5 = some 365744) (k7 : ly_hv cst h 6656 6 = some 431556) (k8 : ly_hv cst h 6656 7 = some 349785) (k9 : ly_hv cst h 6656 8 = some 394692) (k10 : ly_hv cst h 6656 9 = some 11566) (k11 : ly_hv cst h 6656 10 = some 3574901946597) (k12 : ly_hv cst h 6656 11 = some 9309407396) (k13 : ly_hv cst h 6656 12 = some 75148) (k14 : ly_hv cst h 6656 13 = some 736548) (k15 : ly_hv cst h 6656 14 = some 659105125) (k16 : ly_hv cst h 6656 15 = some 609441381) (k17 : ly_hv cst h 6656 16 = some 20579780) (l0 : hp_a l 0 40) (e0 : ∀ (l' : am_L) (h' : am_H) (y0 : Int64) (y1 : Int32), y0.toInt = 0 → y1.toInt = 13 → ly_hy m_tt ly_TH h' → ly_fr cst [6158, 6159, 6160] h h' → h.length ≤ h'.length → ly_hv cst h' 6158 0 = some 16 → ly_hv cst h' 6159 0 = some 13 → ly_hv cst h' 6160 0 = some 0 → hp_a l' 0 40 → hp_F cst strs Φ D M 90 l' [.long y0, .int y1, .ref 30] h') : hp_F cst strs Φ D M 0 l [] h := by
  refine hq_arc c hM hdA16_k hD [] rfl hy hp_Bn hp_Fn (hp_Kc (zi := (0 + 0)) (zv := (20579780 + 0)) k0 rfl rfl (by omega) (by omega) (hp_Kc (zi := (0 + 0)) (zv := (136356 + 0)) k1 rfl rfl (by omega) (by omega) (hp_Kc (zi := (1 + 0)) (zv := (24627347 + 0)) k2 rfl rfl (by omega) (by omega) (hp_Kc (zi := (2 + 0)) (zv := (4359816 + 0)) k3 rfl rfl (by omega) (by omega) (hp_Kc (zi := (3 + 0)) (zv := (206277 + 0)) k4 rfl rfl (by omega) (by omega) (hp_Kc (zi := (4 + 0)) (zv := (113428729 + 0)) k5 rfl rfl (by omega) (by omega) (hp_Kc (zi := (5 + 0)) (zv := (365744 + 0)) k6 rfl rfl (by omega) (by omega) (hp_Kc (zi := (6 + 0)) (zv := (431556 + 0)) k7 rfl rfl (by omega) (by omega) (hp_Kc (zi := (7 + 0)) (zv := (349785 + 0)) k8 rfl rfl (by omega) (by omega) (hp_Kc (zi := (8 + 0)) (zv := (394692 + 0)) k9 rfl rfl (by omega) (by omega) (hp_Kc (zi := (9 + 0)) (zv := (11566 + 0)) k10 rfl rfl (by omega) (by omega) (hp_Kc (zi := (10 + 0)) (zv := (3574901946597 + 0)) k11 rfl rfl (by omega) (by omega) (hp_Kc (zi := (11 + 0)) (zv := (9309407396 + 0)) k12 rfl rfl (by omega) (by omega) (hp_Kc (zi := (12 + 0)) (zv := (75148 + 0)) k13 rfl rfl (by omega) (by omega) (hp_Kc (zi := (13 + 0)) (zv := (736548 + 0)) k14 rfl rfl (by omega) (by omega) (hp_Kc (zi := (14 + 0)) (zv := (659105125 + 0)) k15 rfl rfl (by omega) (by omega) (hp_Kc (zi := (15 + 0)) (zv := (609441381 + 0)) k16 rfl rfl (by omega) (by omega) (hp_Kc (zi := (16 + 0)) (zv := (20579780 + 0)) k17 rfl rfl (by omega) (by omega) hp_Kn)))))))))))))))))) (hp_La l0 hp_Ln) trivial ?_ ?_
  · intro p hp ys l' st' h' hys a1 a2 a3 gZ gL gS
    rcases List.mem_cons.mp hp with rfl | hp
    · obtain rfl := hp_y0 hys
      obtain ⟨y0, t0, rfl, q0, g0⟩ := hp_gSj (z := (0 + 0)) gS rfl
      obtain ⟨y1, t1, rfl, q1, g1⟩ := hp_gSi (z := (13 + 0)) g0 rfl
      obtain ⟨t2, rfl, g2⟩ := hp_gSa g1 (by decide)
      cases hp_gSn g2
      exact e0 l' h' y0 y1 (by omega) (by omega) a1 a2 a3 (hp_gK (zi := (0 + 0)) (zv := (16 + 0)) gZ.2.2.2 (List.mem_of_getElem? (i := 0) rfl) rfl rfl (by omega) (by omega)) (hp_gK (zi := (0 + 0)) (zv := (13 + 0)) gZ.2.2.2 (List.mem_of_getElem? (i := 1) rfl) rfl rfl (by omega) (by omega)) (hp_gK (zi := (0 + 0)) (zv := (0 + 0)) gZ.2.2.2 (List.mem_of_getElem? (i := 2) rfl) rfl rfl (by omega) (by omega)) (hp_gLa gL (List.mem_of_getElem? (i := 0) rfl) (by decide))
    cases hp
  · intro p hp ys v h' hys a1 a2 a3 gZ gS
    cases hp
theorem hdS0_k : hq_chk [81, 86] 82 0 4 [(0, 0, 1199), (1, 0, 30), (2, 0, 1240), (3, 0, 1240)] [(39, [(2, 1), (3, (-1))]), (0, [(2, (-1)), (3, 1)])] [(0, .inr (.inr (.inl (some 40))))] [] [(6156, (0, []), (659105125, [])), (6154, (0, []), (0, [(0, 1)])), (3584, (0, []), (0, [(1, 1)])), (4352, (0, [(1, 1)]), (0, [(2, 1)])), (3588, (0, []), (0, [(3, 1)])), (6656, (0, []), (136356, [])), (6656, (1, []), (24627347, [])), (6656, (2, []), (4359816, [])), (6656, (3, []), (206277, [])), (6656, (4, []), (113428729, [])), (6656, (5, []), (365744, [])), (6656, (6, []), (431556, [])), (6656, (7, []), (349785, [])), (6656, (8, []), (394692, [])), (6656, (9, []), (11566, [])), (6656, (10, []), (3574901946597, [])), (6656, (11, []), (9309407396, [])), (6656, (12, []), (75148, [])), (6656, (13, []), (736548, [])), (6656, (14, []), (659105125, [])), (6656, (15, []), (609441381, [])), (6656, (16, []), (20579780, []))] [6158, 6159, 6160] 3 [(127, ([], 4, [(0, 0, 1199), (1, 0, 30), (2, 0, 1240), (3, 0, 1240)], [], [(0, .inr (.inr (.inl (some 40))))], [.inl (1, [(0, 1)]), .inr (.inr (.inl (some 40)))], [(6158, (0, []), (14, [])), (6159, (0, []), (14, [])), (6160, (0, []), (0, []))]))] [] = true := by decide +kernel
theorem hdS0 {cst : am_K} {strs : List Nat} {Φ : am_Q → Prop} {D : Nat} {M : am_M} {h : am_H} {l : am_L} (c : hp_C cst strs D) (hM : m_P[82]? = some M) (hD : (3 : Int) ≤ (D : Int) + 1) (hy : ly_hy m_tt ly_TH h) (b ac f g : Int) (b0 : 0 ≤ b) (t0 : b ≤ 1199) (b1 : 0 ≤ ac) (t1 : ac ≤ 30) (b2 : 0 ≤ f) (t2 : f ≤ 1240) (b3 : 0 ≤ g) (t3 : g ≤ 1240) (f0 : 0 ≤ (-g + f + 39)) (f1 : 0 ≤ (g - f)) (k0 : ly_hv cst h 6156 0 = some 659105125) (k1 : ly_hv cst h 6154 0 = some (b)) (k2 : ly_hv cst h 3584 0 = some (ac)) (k3 : ly_hv cst h 4352 (ac) = some (f)) (k4 : ly_hv cst h 3588 0 = some (g)) (k5 : ly_hv cst h 6656 0 = some 136356) (k6 : ly_hv cst h 6656 1 = some 24627347) (k7 : ly_hv cst h 6656 2 = some 4359816) (k8 : ly_hv cst h 6656 3 = some 206277) (k9 : ly_hv cst h 6656 4 = some 113428729) (k10 : ly_hv cst h 6656 5 = some 365744) (k11 : ly_hv cst h 6656 6 = some 431556) (k12 : ly_hv cst h 6656 7 = some 349785) (k13 : ly_hv cst h 6656 8 = some 394692) (k14 : ly_hv cst h 6656 9 = some 11566) (k15 : ly_hv cst h 6656 10 = some 3574901946597) (k16 : ly_hv cst h 6656 11 = some 9309407396) (k17 : ly_hv cst h 6656 12 = some 75148) (k18 : ly_hv cst h 6656 13 = some 736548) (k19 : ly_hv cst h 6656 14 = some 659105125) (k20 : ly_hv cst h 6656 15 = some 609441381) (k21 : ly_hv cst h 6656 16 = some 20579780) (l0 : hp_a l 0 40) (e0 : ∀ (l' : am_L) (h' : am_H) (y0 : Int32), y0.toInt = (b + 1) → ly_hy m_tt ly_TH h' → ly_fr cst [6158, 6159, 6160] h h' → h.length ≤ h'.length → ly_hv cst h' 6158 0 = some 14 → ly_hv cst h' 6159 0 = some 14 → ly_hv cst h' 6160 0 = some 0 → hp_a l' 0 40 → hp_F cst strs Φ D M 127 l' [.int y0, .ref 40] h') : hp_F cst strs Φ D M 0 l [] h := by
  refine hq_arc c hM hdS0_k hD [b, ac, f, g] rfl hy (hp_Bc (z := b) rfl b0 t0 (hp_Bc (z := ac) rfl b1 t1 (hp_Bc (z := f) rfl b2 t2 (hp_Bc (z := g) rfl b3 t3 hp_Bn)))) (hp_Fc (z := (39 + (1 * f + ((-1) * g + 0)))) rfl (by omega) (hp_Fc (z := (0 + ((-1) * f + (1 * g + 0)))) rfl (by omega) hp_Fn)) (hp_Kc (zi := (0 + 0)) (zv := (659105125 + 0)) k0 rfl rfl (by omega) (by omega) (hp_Kc (zi := (0 + 0)) (zv := (0 + (1 * b + 0))) k1 rfl rfl (by omega) (by omega) (hp_Kc (zi := (0 + 0)) (zv := (0 + (1 * ac + 0))) k2 rfl rfl (by omega) (by omega) (hp_Kc (zi := (0 + (1 * ac + 0))) (zv := (0 + (1 * f + 0))) k3 rfl rfl (by omega) (by omega) (hp_Kc (zi := (0 + 0)) (zv := (0 + (1 * g + 0))) k4 rfl rfl (by omega) (by omega) (hp_Kc (zi := (0 + 0)) (zv := (136356 + 0)) k5 rfl rfl (by omega) (by omega) (hp_Kc (zi := (1 + 0)) (zv := (24627347 + 0)) k6 rfl rfl (by omega) (by omega) (hp_Kc (zi := (2 + 0)) (zv := (4359816 + 0)) k7 rfl rfl (by omega) (by omega) (hp_Kc (zi := (3 + 0)) (zv := (206277 + 0)) k8 rfl rfl (by omega) (by omega) (hp_Kc (zi := (4 + 0)) (zv := (113428729 + 0)) k9 rfl rfl (by omega) (by omega) (hp_Kc (zi := (5 + 0)) (zv := (365744 + 0)) k10 rfl rfl (by omega) (by omega) (hp_Kc (zi := (6 + 0)) (zv := (431556 + 0)) k11 rfl rfl (by omega) (by omega) (hp_Kc (zi := (7 + 0)) (zv := (349785 + 0)) k12 rfl rfl (by omega) (by omega) (hp_Kc (zi := (8 + 0)) (zv := (394692 + 0)) k13 rfl rfl (by omega) (by omega) (hp_Kc (zi := (9 + 0)) (zv := (11566 + 0)) k14 rfl rfl (by omega) (by omega) (hp_Kc (zi := (10 + 0)) (zv := (3574901946597 + 0)) k15 rfl rfl (by omega) (by omega) (hp_Kc (zi := (11 + 0)) (zv := (9309407396 + 0)) k16 rfl rfl (by omega) (by omega) (hp_Kc (zi := (12 + 0)) (zv := (75148 + 0)) k17 rfl rfl (by omega) (by omega) (hp_Kc (zi := (13 + 0)) (zv := (736548 + 0)) k18 rfl rfl (by omega) (by omega) (hp_Kc (zi := (14 + 0)) (zv := (659105125 + 0)) k19 rfl rfl (by omega) (by omega) (hp_Kc (zi := (15 + 0)) (zv := (609441381 + 0)) k20 rfl rfl (by omega) (by omega) (hp_Kc (zi := (16 + 0)) (zv := (20579780 + 0)) k21 rfl rfl (by omega) (by omega) hp_Kn)))))))))))))))))))))) (hp_La l0 hp_Ln) trivial ?_ ?_
  · intro p hp ys l' st' h' hys a1 a2 a3 gZ gL gS
    rcases List.mem_cons.mp hp with rfl | hp
    · obtain rfl := hp_y0 hys
      obtain ⟨y0, t0, rfl, q0, g0⟩ := hp_gSi (z := (1 + (1 * b + 0))) gS rfl
      obtain ⟨t1, rfl, g1⟩ := hp_gSa g0 (by decide)
      cases hp_gSn g1
      exact e0 l' h' y0 (by omega) a1 a2 a3 (hp_gK (zi := (0 + 0)) (zv := (14 + 0)) gZ.2.2.2 (List.mem_of_getElem? (i := 0) rfl) rfl rfl (by omega) (by omega)) (hp_gK (zi := (0 + 0)) (zv := (14 + 0)) gZ.2.2.2 (List.mem_of_getElem? (i := 1) rfl) rfl rfl (by omega) (by omega)) (hp_gK (zi := (0 + 0)) (zv := (0 + 0)) gZ.2.2.2 (List.mem_of_getElem? (i := 2) rfl) rfl rfl (by omega) (by omega)) (hp_gLa gL (List.mem_of_getElem? (i := 0) rfl) (by decide))
    cases hp
  · intro p hp ys v h' hys a1 a2 a3 gZ gS
    cases hp
theorem hdS1_k : hq_chk [81, 86] 82 0 4 [(0, 0, 1199), (1, 0, 30), (2, 0, 1240), (3, 0, 1240)] [((-40), [(2, (-1)), (3, 1)])] [(0, .inr (.inr (.inl (some 40))))] [] [(6156, (0, []), (659105125, [])), (6154, (0, []), (0, [(0, 1)])), (3584, (0, []), (0, [(1, 1)])), (4352, (0, [(1, 1)]), (0, [(2, 1)])), (3588, (0, []), (0, [(3, 1)])), (6656, (0, []), (136356, [])), (6656, (1, []), (24627347, [])), (6656, (2, []), (4359816, [])), (6656, (3, []), (206277, [])), (6656, (4, []), (113428729, [])), (6656, (5, []), (365744, [])), (6656, (6, []), (431556, [])), (6656, (7, []), (349785, [])), (6656, (8, []), (394692, [])), (6656, (9, []), (11566, [])), (6656, (10, []), (3574901946597, [])), (6656, (11, []), (9309407396, [])), (6656, (12, []), (75148, [])), (6656, (13, []), (736548, [])), (6656, (14, []), (659105125, [])), (6656, (15, []), (609441381, [])), (6656, (16, []), (20579780, []))] [6158, 6159, 6160] 3 [(116, ([], 4, [(0, 0, 1199), (1, 0, 30), (2, 0, 1240), (3, 0, 1240)], [], [(0, .inr (.inr (.inl (some 40))))], [.inl (4, []), .inr (.inr (.inl (some 40)))], []))] [] = true := by decide +kernel
theorem hdS1 {cst : am_K} {strs : List Nat} {Φ : am_Q → Prop} {D : Nat} {M : am_M} {h : am_H} {l : am_L} (c : hp_C cst strs D) (hM : m_P[82]? = some M) (hD : (3 : Int) ≤ (D : Int) + 1) (hy : ly_hy m_tt ly_TH h) (b ac f g : Int) (b0 : 0 ≤ b) (t0 : b ≤ 1199) (b1 : 0 ≤ ac) (t1 : ac ≤ 30) (b2 : 0 ≤ f) (t2 : f ≤ 1240) (b3 : 0 ≤ g) (t3 : g ≤ 1240) (f0 : 0 ≤ (g - f - 40)) (k0 : ly_hv cst h 6156 0 = some 659105125) (k1 : ly_hv cst h 6154 0 = some (b)) (k2 : ly_hv cst h 3584 0 = some (ac)) (k3 : ly_hv cst h 4352 (ac) = some (f)) (k4 : ly_hv cst h 3588 0 = some (g)) (k5 : ly_hv cst h 6656 0 = some 136356) (k6 : ly_hv cst h 6656 1 = some 24627347) (k7 : ly_hv cst h 6656 2 = some 4359816) (k8 : ly_hv cst h 6656 3 = some 206277) (k9 : ly_hv cst h 6656 4 = some 113428729) (k10 : ly_hv cst h 6656 5 = some 365744) (k11 : ly_hv cst h 6656 6 = some 431556) (k12 : ly_hv cst h 6656 7 = some 349785) (k13 : ly_hv cst h 6656 8 = some 394692) (k14 : ly_hv cst h 6656 9 = some 11566) (k15 : ly_hv cst h 6656 10 = some 3574901946597) (k16 : ly_hv cst h 6656 11 = some 9309407396) (k17 : ly_hv cst h 6656 12 = some 75148) (k18 : ly_hv cst h 6656 13 = some 736548) (k19 : ly_hv cst h 6656 14 = some 659105125) (k20 : ly_hv cst h 6656 15 = some 609441381) (k21 : ly_hv cst h 6656 16 = some 20579780) (l0 : hp_a l 0 40) (e0 : ∀ (l' : am_L) (h' : am_H) (y0 : Int32), y0.toInt = 4 → ly_hy m_tt ly_TH h' → ly_fr cst [6158, 6159, 6160] h h' → h.length ≤ h'.length → hp_a l' 0 40 → hp_F cst strs Φ D M 116 l' [.int y0, .ref 40] h') : hp_F cst strs Φ D M 0 l [] h := by
  refine hq_arc c hM hdS1_k hD [b, ac, f, g] rfl hy (hp_Bc (z := b) rfl b0 t0 (hp_Bc (z := ac) rfl b1 t1 (hp_Bc (z := f) rfl b2 t2 (hp_Bc (z := g) rfl b3 t3 hp_Bn)))) (hp_Fc (z := ((-40) + ((-1) * f + (1 * g + 0)))) rfl (by omega) hp_Fn) (hp_Kc (zi := (0 + 0)) (zv := (659105125 + 0)) k0 rfl rfl (by omega) (by omega) (hp_Kc (zi := (0 + 0)) (zv := (0 + (1 * b + 0))) k1 rfl rfl (by omega) (by omega) (hp_Kc (zi := (0 + 0)) (zv := (0 + (1 * ac + 0))) k2 rfl rfl (by omega) (by omega) (hp_Kc (zi := (0 + (1 * ac + 0))) (zv := (0 + (1 * f + 0))) k3 rfl rfl (by omega) (by omega) (hp_Kc (zi := (0 + 0)) (zv := (0 + (1 * g + 0))) k4 rfl rfl (by omega) (by omega) (hp_Kc (zi := (0 + 0)) (zv := (136356 + 0)) k5 rfl rfl (by omega) (by omega) (hp_Kc (zi := (1 + 0)) (zv := (24627347 + 0)) k6 rfl rfl (by omega) (by omega) (hp_Kc (zi := (2 + 0)) (zv := (4359816 + 0)) k7 rfl rfl (by omega) (by omega) (hp_Kc (zi := (3 + 0)) (zv := (206277 + 0)) k8 rfl rfl (by omega) (by omega) (hp_Kc (zi := (4 + 0)) (zv := (113428729 + 0)) k9 rfl rfl (by omega) (by omega) (hp_Kc (zi := (5 + 0)) (zv := (365744 + 0)) k10 rfl rfl (by omega) (by omega) (hp_Kc (zi := (6 + 0)) (zv := (431556 + 0)) k11 rfl rfl (by omega) (by omega) (hp_Kc (zi := (7 + 0)) (zv := (349785 + 0)) k12 rfl rfl (by omega) (by omega) (hp_Kc (zi := (8 + 0)) (zv := (394692 + 0)) k13 rfl rfl (by omega) (by omega) (hp_Kc (zi := (9 + 0)) (zv := (11566 + 0)) k14 rfl rfl (by omega) (by omega) (hp_Kc (zi := (10 + 0)) (zv := (3574901946597 + 0)) k15 rfl rfl (by omega) (by omega) (hp_Kc (zi := (11 + 0)) (zv := (9309407396 + 0)) k16 rfl rfl (by omega) (by omega) (hp_Kc (zi := (12 + 0)) (zv := (75148 + 0)) k17 rfl rfl (by omega) (by omega) (hp_Kc (zi := (13 + 0)) (zv := (736548 + 0)) k18 rfl rfl (by omega) (by omega) (hp_Kc (zi := (14 + 0)) (zv := (659105125 + 0)) k19 rfl rfl (by omega) (by omega) (hp_Kc (zi := (15 + 0)) (zv := (609441381 + 0)) k20 rfl rfl (by omega) (by omega) (hp_Kc (zi := (16 + 0)) (zv := (20579780 + 0)) k21 rfl rfl (by omega) (by omega) hp_Kn)))))))))))))))))))))) (hp_La l0 hp_Ln) trivial ?_ ?_
  · intro p hp ys l' st' h' hys a1 a2 a3 gZ gL gS
    rcases List.mem_cons.mp hp with rfl | hp
    · obtain rfl := hp_y0 hys
      obtain ⟨y0, t0, rfl, q0, g0⟩ := hp_gSi (z := (4 + 0)) gS rfl
      obtain ⟨t1, rfl, g1⟩ := hp_gSa g0 (by decide)
      cases hp_gSn g1
      exact e0 l' h' y0 (by omega) a1 a2 a3 (hp_gLa gL (List.mem_of_getElem? (i := 0) rfl) (by decide))
    cases hp
  · intro p hp ys v h' hys a1 a2 a3 gZ gS
    cases hp
theorem hdB0_k : hq_chk [86] 82 93 4 [(0, 0, 1199), (1, 0, 30), (2, 0, 1240), (3, 0, 1240)] [(39, [(2, 1), (3, (-1))]), (0, [(2, (-1)), (3, 1)])] [(0, .inr (.inr (.inl (some 40))))] [.inl (0, [])] [(6154, (0, []), (0, [(0, 1)])), (3584, (0, []), (0, [(1, 1)])), (4352, (0, [(1, 1)]), (0, [(2, 1)])), (3588, (0, []), (0, [(3, 1)]))] [] 3 [(127, ([], 4, [(0, 0, 1199), (1, 0, 30), (2, 0, 1240), (3, 0, 1240)], [], [(0, .inr (.inr (.inl (some 40))))], [.inl (1, [(0, 1)]), .inr (.inr (.inl (some 40)))], []))] [] = true := by decide +kernel
theorem hdB0 {cst : am_K} {strs : List Nat} {Φ : am_Q → Prop} {D : Nat} {M : am_M} {h : am_H} {l : am_L} (c : hp_C cst strs D) (hM : m_P[82]? = some M) (hD : (3 : Int) ≤ (D : Int) + 1) (hy : ly_hy m_tt ly_TH h) (b ac f g : Int) (x0 : Int32) (hx0 : x0.toInt = 0) (b0 : 0 ≤ b) (t0 : b ≤ 1199) (b1 : 0 ≤ ac) (t1 : ac ≤ 30) (b2 : 0 ≤ f) (t2 : f ≤ 1240) (b3 : 0 ≤ g) (t3 : g ≤ 1240) (f0 : 0 ≤ (-g + f + 39)) (f1 : 0 ≤ (g - f)) (k0 : ly_hv cst h 6154 0 = some (b)) (k1 : ly_hv cst h 3584 0 = some (ac)) (k2 : ly_hv cst h 4352 (ac) = some (f)) (k3 : ly_hv cst h 3588 0 = some (g)) (l0 : hp_a l 0 40) (e0 : ∀ (l' : am_L) (h' : am_H) (y0 : Int32), y0.toInt = (b + 1) → ly_hy m_tt ly_TH h' → ly_fr cst [] h h' → h.length ≤ h'.length → hp_a l' 0 40 → hp_F cst strs Φ D M 127 l' [.int y0, .ref 40] h') : hp_F cst strs Φ D M 93 l [.int x0] h := by
  refine hq_arc c hM hdB0_k hD [b, ac, f, g] rfl hy (hp_Bc (z := b) rfl b0 t0 (hp_Bc (z := ac) rfl b1 t1 (hp_Bc (z := f) rfl b2 t2 (hp_Bc (z := g) rfl b3 t3 hp_Bn)))) (hp_Fc (z := (39 + (1 * f + ((-1) * g + 0)))) rfl (by omega) (hp_Fc (z := (0 + ((-1) * f + (1 * g + 0)))) rfl (by omega) hp_Fn)) (hp_Kc (zi := (0 + 0)) (zv := (0 + (1 * b + 0))) k0 rfl rfl (by omega) (by omega) (hp_Kc (zi := (0 + 0)) (zv := (0 + (1 * ac + 0))) k1 rfl rfl (by omega) (by omega) (hp_Kc (zi := (0 + (1 * ac + 0))) (zv := (0 + (1 * f + 0))) k2 rfl rfl (by omega) (by omega) (hp_Kc (zi := (0 + 0)) (zv := (0 + (1 * g + 0))) k3 rfl rfl (by omega) (by omega) hp_Kn)))) (hp_La l0 hp_Ln) (hp_Si (z := (0 + 0)) rfl (by omega) trivial) ?_ ?_
  · intro p hp ys l' st' h' hys a1 a2 a3 gZ gL gS
    rcases List.mem_cons.mp hp with rfl | hp
    · obtain rfl := hp_y0 hys
      obtain ⟨y0, t0, rfl, q0, g0⟩ := hp_gSi (z := (1 + (1 * b + 0))) gS rfl
      obtain ⟨t1, rfl, g1⟩ := hp_gSa g0 (by decide)
      cases hp_gSn g1
      exact e0 l' h' y0 (by omega) a1 a2 a3 (hp_gLa gL (List.mem_of_getElem? (i := 0) rfl) (by decide))
    cases hp
  · intro p hp ys v h' hys a1 a2 a3 gZ gS
    cases hp
theorem hdB1_k : hq_chk [86] 82 93 4 [(0, 0, 1199), (1, 0, 30), (2, 0, 1240), (3, 0, 1240)] [((-40), [(2, (-1)), (3, 1)])] [(0, .inr (.inr (.inl (some 40))))] [.inl (0, [])] [(6154, (0, []), (0, [(0, 1)])), (3584, (0, []), (0, [(1, 1)])), (4352, (0, [(1, 1)]), (0, [(2, 1)])), (3588, (0, []), (0, [(3, 1)]))] [] 3 [(116, ([], 4, [(0, 0, 1199), (1, 0, 30), (2, 0, 1240), (3, 0, 1240)], [], [(0, .inr (.inr (.inl (some 40))))], [.inl (4, []), .inr (.inr (.inl (some 40)))], []))] [] = true := by decide +kernel
theorem hdB1 {cst : am_K} {strs : List Nat} {Φ : am_Q → Prop} {D : Nat} {M : am_M} {h : am_H} {l : am_L} (c : hp_C cst strs D) (hM : m_P[82]? = some M) (hD : (3 : Int) ≤ (D : Int) + 1) (hy : ly_hy m_tt ly_TH h) (b ac f g : Int) (x0 : Int32) (hx0 : x0.toInt = 0) (b0 : 0 ≤ b) (t0 : b ≤ 1199) (b1 : 0 ≤ ac) (t1 : ac ≤ 30) (b2 : 0 ≤ f) (t2 : f ≤ 1240) (b3 : 0 ≤ g) (t3 : g ≤ 1240) (f0 : 0 ≤ (g - f - 40)) (k0 : ly_hv cst h 6154 0 = some (b)) (k1 : ly_hv cst h 3584 0 = some (ac)) (k2 : ly_hv cst h 4352 (ac) = some (f)) (k3 : ly_hv cst h 3588 0 = some (g)) (l0 : hp_a l 0 40) (e0 : ∀ (l' : am_L) (h' : am_H) (y0 : Int32), y0.toInt = 4 → ly_hy m_tt ly_TH h' → ly_fr cst [] h h' → h.length ≤ h'.length → hp_a l' 0 40 → hp_F cst strs Φ D M 116 l' [.int y0, .ref 40] h') : hp_F cst strs Φ D M 93 l [.int x0] h := by
  refine hq_arc c hM hdB1_k hD [b, ac, f, g] rfl hy (hp_Bc (z := b) rfl b0 t0 (hp_Bc (z := ac) rfl b1 t1 (hp_Bc (z := f) rfl b2 t2 (hp_Bc (z := g) rfl b3 t3 hp_Bn)))) (hp_Fc (z := ((-40) + ((-1) * f + (1 * g + 0)))) rfl (by omega) hp_Fn) (hp_Kc (zi := (0 + 0)) (zv := (0 + (1 * b + 0))) k0 rfl rfl (by omega) (by omega) (hp_Kc (zi := (0 + 0)) (zv := (0 + (1 * ac + 0))) k1 rfl rfl (by omega) (by omega) (hp_Kc (zi := (0 + (1 * ac + 0))) (zv := (0 + (1 * f + 0))) k2 rfl rfl (by omega) (by omega) (hp_Kc (zi := (0 + 0)) (zv := (0 + (1 * g + 0))) k3 rfl rfl (by omega) (by omega) hp_Kn)))) (hp_La l0 hp_Ln) (hp_Si (z := (0 + 0)) rfl (by omega) trivial) ?_ ?_
  · intro p hp ys l' st' h' hys a1 a2 a3 gZ gL gS
    rcases List.mem_cons.mp hp with rfl | hp
    · obtain rfl := hp_y0 hys
      obtain ⟨y0, t0, rfl, q0, g0⟩ := hp_gSi (z := (4 + 0)) gS rfl
      obtain ⟨t1, rfl, g1⟩ := hp_gSa g0 (by decide)
      cases hp_gSn g1
      exact e0 l' h' y0 (by omega) a1 a2 a3 (hp_gLa gL (List.mem_of_getElem? (i := 0) rfl) (by decide))
    cases hp
  · intro p hp ys v h' hys a1 a2 a3 gZ gS
    cases hp
theorem hdC_k : hp_chk 82 93 0 [] [] [(0, .inr (.inr (.inl (some 40))))] [.inl (1, [])] [] [] 2 [(98, ([], 0, [], [], [(0, .inr (.inr (.inl (some 40))))], [.inl (3, []), .inr (.inr (.inl (some 40)))], []))] [] = true := by decide +kernel
theorem hdC {cst : am_K} {strs : List Nat} {Φ : am_Q → Prop} {D : Nat} {M : am_M} {h : am_H} {l : am_L} (c : hp_C cst strs D) (hM : m_P[82]? = some M) (hD : (2 : Int) ≤ (D : Int) + 1) (hy : ly_hy m_tt ly_TH h) (x0 : Int32) (hx0 : x0.toInt = 1) (l0 : hp_a l 0 40) (e0 : ∀ (l' : am_L) (h' : am_H) (y0 : Int32), y0.toInt = 3 → ly_hy m_tt ly_TH h' → ly_fr cst [] h h' → h.length ≤ h'.length → hp_a l' 0 40 → hp_F cst strs Φ D M 98 l' [.int y0, .ref 40] h') : hp_F cst strs Φ D M 93 l [.int x0] h := by
  refine hp_arc c hM hdC_k hD [] rfl hy hp_Bn hp_Fn hp_Kn (hp_La l0 hp_Ln) (hp_Si (z := (1 + 0)) rfl (by omega) trivial) ?_ ?_
  · intro p hp ys l' st' h' hys a1 a2 a3 gZ gL gS
    rcases List.mem_cons.mp hp with rfl | hp
    · obtain rfl := hp_y0 hys
      obtain ⟨y0, t0, rfl, q0, g0⟩ := hp_gSi (z := (3 + 0)) gS rfl
      obtain ⟨t1, rfl, g1⟩ := hp_gSa g0 (by decide)
      cases hp_gSn g1
      exact e0 l' h' y0 (by omega) a1 a2 a3 (hp_gLa gL (List.mem_of_getElem? (i := 0) rfl) (by decide))
    cases hp
  · intro p hp ys v h' hys a1 a2 a3 gZ gS
    cases hp
theorem hdD_k : hp_chk 82 130 1 [(0, 7, 14)] [] [(0, .inr (.inr (.inl (some 40))))] [] [(6159, (0, []), (0, [(0, 1)]))] [] 2 [] [([], 1, [(0, 7, 14)], [], [], [.inl (1, [])], [])] = true := by decide +kernel
theorem hdD {cst : am_K} {strs : List Nat} {Φ : am_Q → Prop} {D : Nat} {M : am_M} {h : am_H} {l : am_L} (c : hp_C cst strs D) (hM : m_P[82]? = some M) (hD : (2 : Int) ≤ (D : Int) + 1) (hy : ly_hy m_tt ly_TH h) (q : Int) (b0 : 7 ≤ q) (t0 : q ≤ 14) (k0 : ly_hv cst h 6159 0 = some (q)) (l0 : hp_a l 0 40) (r0 : ∀ (h' : am_H) (y0 : Int32), y0.toInt = 1 → ly_hy m_tt ly_TH h' → ly_fr cst [] h h' → h.length ≤ h'.length → Φ (some (.int y0), h', 0, 0)) : hp_F cst strs Φ D M 130 l [] h := by
  refine hp_arc c hM hdD_k hD [q] rfl hy (hp_Bc (z := q) rfl b0 t0 hp_Bn) hp_Fn (hp_Kc (zi := (0 + 0)) (zv := (0 + (1 * q + 0))) k0 rfl rfl (by omega) (by omega) hp_Kn) (hp_La l0 hp_Ln) trivial ?_ ?_
  · intro p hp ys l' st' h' hys a1 a2 a3 gZ gL gS
    cases hp
  · intro p hp ys v h' hys a1 a2 a3 gZ gS
    rcases List.mem_cons.mp hp with rfl | hp
    · obtain rfl := hp_y0 hys
      cases v with
      | none => cases gS
      | some w =>
        obtain ⟨y0, t0, s0, q0, -⟩ := hp_gSi (z := (1 + 0)) gS rfl
        cases s0
        exact r0 h' y0 (by omega) a1 a2 a3
    cases hp
theorem hdE_k : hp_chk 82 130 1 [(0, 0, 6)] [] [(0, .inr (.inr (.inl (some 40))))] [] [(6159, (0, []), (0, [(0, 1)]))] [] 2 [(140, ([], 1, [(0, 0, 6)], [], [(0, .inr (.inr (.inl (some 40))))], [.inr (.inr (.inl (some 40)))], []))] [] = true := by decide +kernel
theorem hdE {cst : am_K} {strs : List Nat} {Φ : am_Q → Prop} {D : Nat} {M : am_M} {h : am_H} {l : am_L} (c : hp_C cst strs D) (hM : m_P[82]? = some M) (hD : (2 : Int) ≤ (D : Int) + 1) (hy : ly_hy m_tt ly_TH h) (q : Int) (b0 : 0 ≤ q) (t0 : q ≤ 6) (k0 : ly_hv cst h 6159 0 = some (q)) (l0 : hp_a l 0 40) (e0 : ∀ (l' : am_L) (h' : am_H), ly_hy m_tt ly_TH h' → ly_fr cst [] h h' → h.length ≤ h'.length → hp_a l' 0 40 → hp_F cst strs Φ D M 140 l' [.ref 40] h') : hp_F cst strs Φ D M 130 l [] h := by
  refine hp_arc c hM hdE_k hD [q] rfl hy (hp_Bc (z := q) rfl b0 t0 hp_Bn) hp_Fn (hp_Kc (zi := (0 + 0)) (zv := (0 + (1 * q + 0))) k0 rfl rfl (by omega) (by omega) hp_Kn) (hp_La l0 hp_Ln) trivial ?_ ?_
  · intro p hp ys l' st' h' hys a1 a2 a3 gZ gL gS
    rcases List.mem_cons.mp hp with rfl | hp
    · obtain rfl := hp_y0 hys
      obtain ⟨t0, rfl, g0⟩ := hp_gSa gS (by decide)
      cases hp_gSn g0
      exact e0 l' h' a1 a2 a3 (hp_gLa gL (List.mem_of_getElem? (i := 0) rfl) (by decide))
    cases hp
  · intro p hp ys v h' hys a1 a2 a3 gZ gS
    cases hp
theorem hdF_k : hp_chk 82 143 0 [] [] [(0, .inr (.inr (.inl (some 40))))] [.inl (0, [])] [] [] 2 [] [([], 0, [], [], [], [.inl (0, [])], [])] = true := by decide +kernel
theorem hdF {cst : am_K} {strs : List Nat} {Φ : am_Q → Prop} {D : Nat} {M : am_M} {h : am_H} {l : am_L} (c : hp_C cst strs D) (hM : m_P[82]? = some M) (hD : (2 : Int) ≤ (D : Int) + 1) (hy : ly_hy m_tt ly_TH h) (x0 : Int32) (hx0 : x0.toInt = 0) (l0 : hp_a l 0 40) (r0 : ∀ (h' : am_H) (y0 : Int32), y0.toInt = 0 → ly_hy m_tt ly_TH h' → ly_fr cst [] h h' → h.length ≤ h'.length → Φ (some (.int y0), h', 0, 0)) : hp_F cst strs Φ D M 143 l [.int x0] h := by
  refine hp_arc c hM hdF_k hD [] rfl hy hp_Bn hp_Fn hp_Kn (hp_La l0 hp_Ln) (hp_Si (z := (0 + 0)) rfl (by omega) trivial) ?_ ?_
  · intro p hp ys l' st' h' hys a1 a2 a3 gZ gL gS
    cases hp
  · intro p hp ys v h' hys a1 a2 a3 gZ gS
    rcases List.mem_cons.mp hp with rfl | hp
    · obtain rfl := hp_y0 hys
      cases v with
      | none => cases gS
      | some w =>
        obtain ⟨y0, t0, s0, q0, -⟩ := hp_gSi (z := (0 + 0)) gS rfl
        cases s0
        exact r0 h' y0 (by omega) a1 a2 a3
    cases hp
theorem hdG_k : hp_chk 82 143 0 [] [] [(0, .inr (.inr (.inl (some 40))))] [.inl (1, [])] [] [] 2 [] [([], 0, [], [], [], [.inl (1, [])], [])] = true := by decide +kernel
theorem hdG {cst : am_K} {strs : List Nat} {Φ : am_Q → Prop} {D : Nat} {M : am_M} {h : am_H} {l : am_L} (c : hp_C cst strs D) (hM : m_P[82]? = some M) (hD : (2 : Int) ≤ (D : Int) + 1) (hy : ly_hy m_tt ly_TH h) (x0 : Int32) (hx0 : x0.toInt = 1) (l0 : hp_a l 0 40) (r0 : ∀ (h' : am_H) (y0 : Int32), y0.toInt = 1 → ly_hy m_tt ly_TH h' → ly_fr cst [] h h' → h.length ≤ h'.length → Φ (some (.int y0), h', 0, 0)) : hp_F cst strs Φ D M 143 l [.int x0] h := by
  refine hp_arc c hM hdG_k hD [] rfl hy hp_Bn hp_Fn hp_Kn (hp_La l0 hp_Ln) (hp_Si (z := (1 + 0)) rfl (by omega) trivial) ?_ ?_
  · intro p hp ys l' st' h' hys a1 a2 a3 gZ gL gS
    cases hp
  · intro p hp ys v h' hys a1 a2 a3 gZ gS
    rcases List.mem_cons.mp hp with rfl | hp
    · obtain rfl := hp_y0 hys
      cases v with
      | none => cases gS
      | some w =>
        obtain ⟨y0, t0, s0, q0, -⟩ := hp_gSi (z := (1 + 0)) gS rfl
        cases s0
        exact r0 h' y0 (by omega) a1 a2 a3
    cases hp
theorem fr82_25_k : hp_chk 82 28 0 [] [] [] [.inl (0, [])] [] [] 2 [] [([], 0, [], [], [], [.inl (0, [])], [])] = true := by decide +kernel
theorem fr82_25 {cst : am_K} {strs : List Nat} {Φ : am_Q → Prop} {D : Nat} {M : am_M} {h : am_H} {l : am_L} (c : hp_C cst strs D) (hM : m_P[82]? = some M) (hD : (2 : Int) ≤ (D : Int) + 1) (hy : ly_hy m_tt ly_TH h) (x0 : Int32) (hx0 : x0.toInt = 0) (r0 : ∀ (h' : am_H) (y0 : Int32), y0.toInt = 0 → ly_hy m_tt ly_TH h' → ly_fr cst [] h h' → h.length ≤ h'.length → Φ (some (.int y0), h', 0, 0)) : hp_F cst strs Φ D M 28 l [.int x0] h := by
  refine hp_arc c hM fr82_25_k hD [] rfl hy hp_Bn hp_Fn hp_Kn hp_Ln (hp_Si (z := (0 + 0)) rfl (by omega) trivial) ?_ ?_
  · intro p hp ys l' st' h' hys a1 a2 a3 gZ gL gS
    cases hp
  · intro p hp ys v h' hys a1 a2 a3 gZ gS
    rcases List.mem_cons.mp hp with rfl | hp
    · obtain rfl := hp_y0 hys
      cases v with
      | none => cases gS
      | some w =>
        obtain ⟨y0, t0, s0, q0, -⟩ := hp_gSi (z := (0 + 0)) gS rfl
        cases s0
        exact r0 h' y0 (by omega) a1 a2 a3
    cases hp
theorem fr82_98_k : hp_chk 82 101 0 [] [] [] [.inl (0, [])] [] [] 2 [] [([], 0, [], [], [], [.inl (0, [])], [])] = true := by decide +kernel
theorem fr82_98 {cst : am_K} {strs : List Nat} {Φ : am_Q → Prop} {D : Nat} {M : am_M} {h : am_H} {l : am_L} (c : hp_C cst strs D) (hM : m_P[82]? = some M) (hD : (2 : Int) ≤ (D : Int) + 1) (hy : ly_hy m_tt ly_TH h) (x0 : Int32) (hx0 : x0.toInt = 0) (r0 : ∀ (h' : am_H) (y0 : Int32), y0.toInt = 0 → ly_hy m_tt ly_TH h' → ly_fr cst [] h h' → h.length ≤ h'.length → Φ (some (.int y0), h', 0, 0)) : hp_F cst strs Φ D M 101 l [.int x0] h := by
  refine hp_arc c hM fr82_98_k hD [] rfl hy hp_Bn hp_Fn hp_Kn hp_Ln (hp_Si (z := (0 + 0)) rfl (by omega) trivial) ?_ ?_
  · intro p hp ys l' st' h' hys a1 a2 a3 gZ gL gS
    cases hp
  · intro p hp ys v h' hys a1 a2 a3 gZ gS
    rcases List.mem_cons.mp hp with rfl | hp
    · obtain rfl := hp_y0 hys
      cases v with
      | none => cases gS
      | some w =>
        obtain ⟨y0, t0, s0, q0, -⟩ := hp_gSi (z := (0 + 0)) gS rfl
        cases s0
        exact r0 h' y0 (by omega) a1 a2 a3
    cases hp
theorem fr82_116_k : hp_chk 82 119 0 [] [] [] [.inl (0, [])] [] [] 2 [] [([], 0, [], [], [], [.inl (0, [])], [])] = true := by decide +kernel
theorem fr82_116 {cst : am_K} {strs : List Nat} {Φ : am_Q → Prop} {D : Nat} {M : am_M} {h : am_H} {l : am_L} (c : hp_C cst strs D) (hM : m_P[82]? = some M) (hD : (2 : Int) ≤ (D : Int) + 1) (hy : ly_hy m_tt ly_TH h) (x0 : Int32) (hx0 : x0.toInt = 0) (r0 : ∀ (h' : am_H) (y0 : Int32), y0.toInt = 0 → ly_hy m_tt ly_TH h' → ly_fr cst [] h h' → h.length ≤ h'.length → Φ (some (.int y0), h', 0, 0)) : hp_F cst strs Φ D M 119 l [.int x0] h := by
  refine hp_arc c hM fr82_116_k hD [] rfl hy hp_Bn hp_Fn hp_Kn hp_Ln (hp_Si (z := (0 + 0)) rfl (by omega) trivial) ?_ ?_
  · intro p hp ys l' st' h' hys a1 a2 a3 gZ gL gS
    cases hp
  · intro p hp ys v h' hys a1 a2 a3 gZ gS
    rcases List.mem_cons.mp hp with rfl | hp
    · obtain rfl := hp_y0 hys
      cases v with
      | none => cases gS
      | some w =>
        obtain ⟨y0, t0, s0, q0, -⟩ := hp_gSi (z := (0 + 0)) gS rfl
        cases s0
        exact r0 h' y0 (by omega) a1 a2 a3
    cases hp
theorem bo0_k : hp_chk 88 0 0 [] [] [(0, .inr (.inr (.inl (some 40))))] [] [(6159, (0, []), (0, []))] [] 2 [(81, ([], 0, [], [], [(0, .inr (.inr (.inl (some 40))))], [.inr (.inr (.inl (some 40)))], []))] [] = true := by decide +kernel
theorem bo0 {cst : am_K} {strs : List Nat} {Φ : am_Q → Prop} {D : Nat} {M : am_M} {h : am_H} {l : am_L} (c : hp_C cst strs D) (hM : m_P[88]? = some M) (hD : (2 : Int) ≤ (D : Int) + 1) (hy : ly_hy m_tt ly_TH h) (k0 : ly_hv cst h 6159 0 = some 0) (l0 : hp_a l 0 40) (e0 : ∀ (l' : am_L) (h' : am_H), ly_hy m_tt ly_TH h' → ly_fr cst [] h h' → h.length ≤ h'.length → hp_a l' 0 40 → hp_F cst strs Φ D M 81 l' [.ref 40] h') : hp_F cst strs Φ D M 0 l [] h := by
  refine hp_arc c hM bo0_k hD [] rfl hy hp_Bn hp_Fn (hp_Kc (zi := (0 + 0)) (zv := (0 + 0)) k0 rfl rfl (by omega) (by omega) hp_Kn) (hp_La l0 hp_Ln) trivial ?_ ?_
  · intro p hp ys l' st' h' hys a1 a2 a3 gZ gL gS
    rcases List.mem_cons.mp hp with rfl | hp
    · obtain rfl := hp_y0 hys
      obtain ⟨t0, rfl, g0⟩ := hp_gSa gS (by decide)
      cases hp_gSn g0
      exact e0 l' h' a1 a2 a3 (hp_gLa gL (List.mem_of_getElem? (i := 0) rfl) (by decide))
    cases hp
  · intro p hp ys v h' hys a1 a2 a3 gZ gS
    cases hp
theorem bo1_k : hp_chk 88 0 0 [] [] [(0, .inr (.inr (.inl (some 40))))] [] [(6159, (0, []), (1, []))] [] 2 [(86, ([], 0, [], [], [(0, .inr (.inr (.inl (some 40))))], [.inr (.inr (.inl (some 40)))], []))] [] = true := by decide +kernel
theorem bo1 {cst : am_K} {strs : List Nat} {Φ : am_Q → Prop} {D : Nat} {M : am_M} {h : am_H} {l : am_L} (c : hp_C cst strs D) (hM : m_P[88]? = some M) (hD : (2 : Int) ≤ (D : Int) + 1) (hy : ly_hy m_tt ly_TH h) (k0 : ly_hv cst h 6159 0 = some 1) (l0 : hp_a l 0 40) (e0 : ∀ (l' : am_L) (h' : am_H), ly_hy m_tt ly_TH h' → ly_fr cst [] h h' → h.length ≤ h'.length → hp_a l' 0 40 → hp_F cst strs Φ D M 86 l' [.ref 40] h') : hp_F cst strs Φ D M 0 l [] h := by
  refine hp_arc c hM bo1_k hD [] rfl hy hp_Bn hp_Fn (hp_Kc (zi := (0 + 0)) (zv := (1 + 0)) k0 rfl rfl (by omega) (by omega) hp_Kn) (hp_La l0 hp_Ln) trivial ?_ ?_
  · intro p hp ys l' st' h' hys a1 a2 a3 gZ gL gS
    rcases List.mem_cons.mp hp with rfl | hp
    · obtain rfl := hp_y0 hys
      obtain ⟨t0, rfl, g0⟩ := hp_gSa gS (by decide)
      cases hp_gSn g0
      exact e0 l' h' a1 a2 a3 (hp_gLa gL (List.mem_of_getElem? (i := 0) rfl) (by decide))
    cases hp
  · intro p hp ys v h' hys a1 a2 a3 gZ gS
    cases hp
theorem bo14_k : hp_chk 88 0 0 [] [] [(0, .inr (.inr (.inl (some 40))))] [] [(6159, (0, []), (14, []))] [] 2 [(91, ([], 0, [], [], [(0, .inr (.inr (.inl (some 40))))], [.inr (.inr (.inl (some 40)))], []))] [] = true := by decide +kernel
theorem bo14 {cst : am_K} {strs : List Nat} {Φ : am_Q → Prop} {D : Nat} {M : am_M} {h : am_H} {l : am_L} (c : hp_C cst strs D) (hM : m_P[88]? = some M) (hD : (2 : Int) ≤ (D : Int) + 1) (hy : ly_hy m_tt ly_TH h) (k0 : ly_hv cst h 6159 0 = some 14) (l0 : hp_a l 0 40) (e0 : ∀ (l' : am_L) (h' : am_H), ly_hy m_tt ly_TH h' → ly_fr cst [] h h' → h.length ≤ h'.length → hp_a l' 0 40 → hp_F cst strs Φ D M 91 l' [.ref 40] h') : hp_F cst strs Φ D M 0 l [] h := by
  refine hp_arc c hM bo14_k hD [] rfl hy hp_Bn hp_Fn (hp_Kc (zi := (0 + 0)) (zv := (14 + 0)) k0 rfl rfl (by omega) (by omega) hp_Kn) (hp_La l0 hp_Ln) trivial ?_ ?_
  · intro p hp ys l' st' h' hys a1 a2 a3 gZ gL gS
    rcases List.mem_cons.mp hp with rfl | hp
    · obtain rfl := hp_y0 hys
      obtain ⟨t0, rfl, g0⟩ := hp_gSa gS (by decide)
      cases hp_gSn g0
      exact e0 l' h' a1 a2 a3 (hp_gLa gL (List.mem_of_getElem? (i := 0) rfl) (by decide))
    cases hp
  · intro p hp ys v h' hys a1 a2 a3 gZ gS
    cases hp
theorem bo3_k : hp_chk 88 0 0 [] [] [(0, .inr (.inr (.inl (some 40))))] [] [(6159, (0, []), (3, []))] [] 2 [(136, ([], 0, [], [], [(0, .inr (.inr (.inl (some 40))))], [.inr (.inr (.inl (some 40)))], []))] [] = true := by decide +kernel
theorem bo3 {cst : am_K} {strs : List Nat} {Φ : am_Q → Prop} {D : Nat} {M : am_M} {h : am_H} {l : am_L} (c : hp_C cst strs D) (hM : m_P[88]? = some M) (hD : (2 : Int) ≤ (D : Int) + 1) (hy : ly_hy m_tt ly_TH h) (k0 : ly_hv cst h 6159 0 = some 3) (l0 : hp_a l 0 40) (e0 : ∀ (l' : am_L) (h' : am_H), ly_hy m_tt ly_TH h' → ly_fr cst [] h h' → h.length ≤ h'.length → hp_a l' 0 40 → hp_F cst strs Φ D M 136 l' [.ref 40] h') : hp_F cst strs Φ D M 0 l [] h := by
  refine hp_arc c hM bo3_k hD [] rfl hy hp_Bn hp_Fn (hp_Kc (zi := (0 + 0)) (zv := (3 + 0)) k0 rfl rfl (by omega) (by omega) hp_Kn) (hp_La l0 hp_Ln) trivial ?_ ?_
  · intro p hp ys l' st' h' hys a1 a2 a3 gZ gL gS
    rcases List.mem_cons.mp hp with rfl | hp
    · obtain rfl := hp_y0 hys
      obtain ⟨t0, rfl, g0⟩ := hp_gSa gS (by decide)
      cases hp_gSn g0
      exact e0 l' h' a1 a2 a3 (hp_gLa gL (List.mem_of_getElem? (i := 0) rfl) (by decide))
    cases hp
  · intro p hp ys v h' hys a1 a2 a3 gZ gS
    cases hp
theorem bo7_k : hp_chk 88 0 0 [] [] [(0, .inr (.inr (.inl (some 40))))] [] [(6159, (0, []), (7, []))] [] 2 [(136, ([], 0, [], [], [(0, .inr (.inr (.inl (some 40))))], [.inr (.inr (.inl (some 40)))], []))] [] = true := by decide +kernel
theorem bo7 {cst : am_K} {strs : List Nat} {Φ : am_Q → Prop} {D : Nat} {M : am_M} {h : am_H} {l : am_L} (c : hp_C cst strs D) (hM : m_P[88]? = some M) (hD : (2 : Int) ≤ (D : Int) + 1) (hy : ly_hy m_tt ly_TH h) (k0 : ly_hv cst h 6159 0 = some 7) (l0 : hp_a l 0 40) (e0 : ∀ (l' : am_L) (h' : am_H), ly_hy m_tt ly_TH h' → ly_fr cst [] h h' → h.length ≤ h'.length → hp_a l' 0 40 → hp_F cst strs Φ D M 136 l' [.ref 40] h') : hp_F cst strs Φ D M 0 l [] h := by
  refine hp_arc c hM bo7_k hD [] rfl hy hp_Bn hp_Fn (hp_Kc (zi := (0 + 0)) (zv := (7 + 0)) k0 rfl rfl (by omega) (by omega) hp_Kn) (hp_La l0 hp_Ln) trivial ?_ ?_
  · intro p hp ys l' st' h' hys a1 a2 a3 gZ gL gS
    rcases List.mem_cons.mp hp with rfl | hp
    · obtain rfl := hp_y0 hys
      obtain ⟨t0, rfl, g0⟩ := hp_gSa gS (by decide)
      cases hp_gSn g0
      exact e0 l' h' a1 a2 a3 (hp_gLa gL (List.mem_of_getElem? (i := 0) rfl) (by decide))
    cases hp
  · intro p hp ys v h' hys a1 a2 a3 gZ gS
    cases hp
theorem bo8_k : hp_chk 88 0 0 [] [] [(0, .inr (.inr (.inl (some 40))))] [] [(6159, (0, []), (8, []))] [] 2 [(136, ([], 0, [], [], [(0, .inr (.inr (.inl (some 40))))], [.inr (.inr (.inl (some 40)))], []))] [] = true := by decide +kernel
theorem bo8 {cst : am_K} {strs : List Nat} {Φ : am_Q → Prop} {D : Nat} {M : am_M} {h : am_H} {l : am_L} (c : hp_C cst strs D) (hM : m_P[88]? = some M) (hD : (2 : Int) ≤ (D : Int) + 1) (hy : ly_hy m_tt ly_TH h) (k0 : ly_hv cst h 6159 0 = some 8) (l0 : hp_a l 0 40) (e0 : ∀ (l' : am_L) (h' : am_H), ly_hy m_tt ly_TH h' → ly_fr cst [] h h' → h.length ≤ h'.length → hp_a l' 0 40 → hp_F cst strs Φ D M 136 l' [.ref 40] h') : hp_F cst strs Φ D M 0 l [] h := by
  refine hp_arc c hM bo8_k hD [] rfl hy hp_Bn hp_Fn (hp_Kc (zi := (0 + 0)) (zv := (8 + 0)) k0 rfl rfl (by omega) (by omega) hp_Kn) (hp_La l0 hp_Ln) trivial ?_ ?_
  · intro p hp ys l' st' h' hys a1 a2 a3 gZ gL gS
    rcases List.mem_cons.mp hp with rfl | hp
    · obtain rfl := hp_y0 hys
      obtain ⟨t0, rfl, g0⟩ := hp_gSa gS (by decide)
      cases hp_gSn g0
      exact e0 l' h' a1 a2 a3 (hp_gLa gL (List.mem_of_getElem? (i := 0) rfl) (by decide))
    cases hp
  · intro p hp ys v h' hys a1 a2 a3 gZ gS
    cases hp
theorem bo9_k : hp_chk 88 0 0 [] [] [(0, .inr (.inr (.inl (some 40))))] [] [(6159, (0, []), (9, []))] [] 2 [(136, ([], 0, [], [], [(0, .inr (.inr (.inl (some 40))))], [.inr (.inr (.inl (some 40)))], []))] [] = true := by decide +kernel
theorem bo9 {cst : am_K} {strs : List Nat} {Φ : am_Q → Prop} {D : Nat} {M : am_M} {h : am_H} {l : am_L} (c : hp_C cst strs D) (hM : m_P[88]? = some M) (hD : (2 : Int) ≤ (D : Int) + 1) (hy : ly_hy m_tt ly_TH h) (k0 : ly_hv cst h 6159 0 = some 9) (l0 : hp_a l 0 40) (e0 : ∀ (l' : am_L) (h' : am_H), ly_hy m_tt ly_TH h' → ly_fr cst [] h h' → h.length ≤ h'.length → hp_a l' 0 40 → hp_F cst strs Φ D M 136 l' [.ref 40] h') : hp_F cst strs Φ D M 0 l [] h := by
  refine hp_arc c hM bo9_k hD [] rfl hy hp_Bn hp_Fn (hp_Kc (zi := (0 + 0)) (zv := (9 + 0)) k0 rfl rfl (by omega) (by omega) hp_Kn) (hp_La l0 hp_Ln) trivial ?_ ?_
  · intro p hp ys l' st' h' hys a1 a2 a3 gZ gL gS
    rcases List.mem_cons.mp hp with rfl | hp
    · obtain rfl := hp_y0 hys
      obtain ⟨t0, rfl, g0⟩ := hp_gSa gS (by decide)
      cases hp_gSn g0
      exact e0 l' h' a1 a2 a3 (hp_gLa gL (List.mem_of_getElem? (i := 0) rfl) (by decide))
    cases hp
  · intro p hp ys v h' hys a1 a2 a3 gZ gS
    cases hp
theorem bo10_k : hp_chk 88 0 0 [] [] [(0, .inr (.inr (.inl (some 40))))] [] [(6159, (0, []), (10, []))] [] 2 [(136, ([], 0, [], [], [(0, .inr (.inr (.inl (some 40))))], [.inr (.inr (.inl (some 40)))], []))] [] = true := by decide +kernel
theorem bo10 {cst : am_K} {strs : List Nat} {Φ : am_Q → Prop} {D : Nat} {M : am_M} {h : am_H} {l : am_L} (c : hp_C cst strs D) (hM : m_P[88]? = some M) (hD : (2 : Int) ≤ (D : Int) + 1) (hy : ly_hy m_tt ly_TH h) (k0 : ly_hv cst h 6159 0 = some 10) (l0 : hp_a l 0 40) (e0 : ∀ (l' : am_L) (h' : am_H), ly_hy m_tt ly_TH h' → ly_fr cst [] h h' → h.length ≤ h'.length → hp_a l' 0 40 → hp_F cst strs Φ D M 136 l' [.ref 40] h') : hp_F cst strs Φ D M 0 l [] h := by
  refine hp_arc c hM bo10_k hD [] rfl hy hp_Bn hp_Fn (hp_Kc (zi := (0 + 0)) (zv := (10 + 0)) k0 rfl rfl (by omega) (by omega) hp_Kn) (hp_La l0 hp_Ln) trivial ?_ ?_
  · intro p hp ys l' st' h' hys a1 a2 a3 gZ gL gS
    rcases List.mem_cons.mp hp with rfl | hp
    · obtain rfl := hp_y0 hys
      obtain ⟨t0, rfl, g0⟩ := hp_gSa gS (by decide)
      cases hp_gSn g0
      exact e0 l' h' a1 a2 a3 (hp_gLa gL (List.mem_of_getElem? (i := 0) rfl) (by decide))
    cases hp
  · intro p hp ys v h' hys a1 a2 a3 gZ gS
    cases hp
theorem bo11_k : hp_chk 88 0 0 [] [] [(0, .inr (.inr (.inl (some 40))))] [] [(6159, (0, []), (11, []))] [] 2 [(136, ([], 0, [], [], [(0, .inr (.inr (.inl (some 40))))], [.inr (.inr (.inl (some 40)))], []))] [] = true := by decide +kernel
theorem bo11 {cst : am_K} {strs : List Nat} {Φ : am_Q → Prop} {D : Nat} {M : am_M} {h : am_H} {l : am_L} (c : hp_C cst strs D) (hM : m_P[88]? = some M) (hD : (2 : Int) ≤ (D : Int) + 1) (hy : ly_hy m_tt ly_TH h) (k0 : ly_hv cst h 6159 0 = some 11) (l0 : hp_a l 0 40) (e0 : ∀ (l' : am_L) (h' : am_H), ly_hy m_tt ly_TH h' → ly_fr cst [] h h' → h.length ≤ h'.length → hp_a l' 0 40 → hp_F cst strs Φ D M 136 l' [.ref 40] h') : hp_F cst strs Φ D M 0 l [] h := by
  refine hp_arc c hM bo11_k hD [] rfl hy hp_Bn hp_Fn (hp_Kc (zi := (0 + 0)) (zv := (11 + 0)) k0 rfl rfl (by omega) (by omega) hp_Kn) (hp_La l0 hp_Ln) trivial ?_ ?_
  · intro p hp ys l' st' h' hys a1 a2 a3 gZ gL gS
    rcases List.mem_cons.mp hp with rfl | hp
    · obtain rfl := hp_y0 hys
      obtain ⟨t0, rfl, g0⟩ := hp_gSa gS (by decide)
      cases hp_gSn g0
      exact e0 l' h' a1 a2 a3 (hp_gLa gL (List.mem_of_getElem? (i := 0) rfl) (by decide))
    cases hp
  · intro p hp ys v h' hys a1 a2 a3 gZ gS
    cases hp
theorem bo12_k : hp_chk 88 0 0 [] [] [(0, .inr (.inr (.inl (some 40))))] [] [(6159, (0, []), (12, []))] [] 2 [(136, ([], 0, [], [], [(0, .inr (.inr (.inl (some 40))))], [.inr (.inr (.inl (some 40)))], []))] [] = true := by decide +kernel
theorem bo12 {cst : am_K} {strs : List Nat} {Φ : am_Q → Prop} {D : Nat} {M : am_M} {h : am_H} {l : am_L} (c : hp_C cst strs D) (hM : m_P[88]? = some M) (hD : (2 : Int) ≤ (D : Int) + 1) (hy : ly_hy m_tt ly_TH h) (k0 : ly_hv cst h 6159 0 = some 12) (l0 : hp_a l 0 40) (e0 : ∀ (l' : am_L) (h' : am_H), ly_hy m_tt ly_TH h' → ly_fr cst [] h h' → h.length ≤ h'.length → hp_a l' 0 40 → hp_F cst strs Φ D M 136 l' [.ref 40] h') : hp_F cst strs Φ D M 0 l [] h := by
  refine hp_arc c hM bo12_k hD [] rfl hy hp_Bn hp_Fn (hp_Kc (zi := (0 + 0)) (zv := (12 + 0)) k0 rfl rfl (by omega) (by omega) hp_Kn) (hp_La l0 hp_Ln) trivial ?_ ?_
  · intro p hp ys l' st' h' hys a1 a2 a3 gZ gL gS
    rcases List.mem_cons.mp hp with rfl | hp
    · obtain rfl := hp_y0 hys
      obtain ⟨t0, rfl, g0⟩ := hp_gSa gS (by decide)
      cases hp_gSn g0
      exact e0 l' h' a1 a2 a3 (hp_gLa gL (List.mem_of_getElem? (i := 0) rfl) (by decide))
    cases hp
  · intro p hp ys v h' hys a1 a2 a3 gZ gS
    cases hp
theorem boP2_k : hp_chk 88 0 1 [(0, (-9223372036854775808), 9223372036854775807)] [] [(0, .inr (.inr (.inl (some 40))))] [] [(6159, (0, []), (2, [])), (6158, (0, []), (2, [])), (6160, (0, []), (0, [(0, 1)]))] [] 2 [(130, ([], 1, [(0, (-9223372036854775808), 9223372036854775807)], [], [(0, .inr (.inr (.inl (some 40))))], [.inl (1, []), .inr (.inl (0, [(0, 1)])), .inl (2, []), .inr (.inr (.inl (some 30)))], []))] [] = true := by decide +kernel
theorem boP2 {cst : am_K} {strs : List Nat} {Φ : am_Q → Prop} {D : Nat} {M : am_M} {h : am_H} {l : am_L} (c : hp_C cst strs D) (hM : m_P[88]? = some M) (hD : (2 : Int) ≤ (D : Int) + 1) (hy : ly_hy m_tt ly_TH h) (d : Int) (b0 : (-9223372036854775808) ≤ d) (t0 : d ≤ 9223372036854775807) (k0 : ly_hv cst h 6159 0 = some 2) (k1 : ly_hv cst h 6158 0 = some 2) (k2 : ly_hv cst h 6160 0 = some (d)) (l0 : hp_a l 0 40) (e0 : ∀ (l' : am_L) (h' : am_H) (y0 : Int32) (y1 : Int64) (y2 : Int32), y0.toInt = 1 → y1.toInt = (d) → y2.toInt = 2 → ly_hy m_tt ly_TH h' → ly_fr cst [] h h' → h.length ≤ h'.length → hp_a l' 0 40 → hp_F cst strs Φ D M 130 l' [.int y0, .long y1, .int y2, .ref 30] h') : hp_F cst strs Φ D M 0 l [] h := by
  refine hp_arc c hM boP2_k hD [d] rfl hy (hp_Bc (z := d) rfl b0 t0 hp_Bn) hp_Fn (hp_Kc (zi := (0 + 0)) (zv := (2 + 0)) k0 rfl rfl (by omega) (by omega) (hp_Kc (zi := (0 + 0)) (zv := (2 + 0)) k1 rfl rfl (by omega) (by omega) (hp_Kc (zi := (0 + 0)) (zv := (0 + (1 * d + 0))) k2 rfl rfl (by omega) (by omega) hp_Kn))) (hp_La l0 hp_Ln) trivial ?_ ?_
  · intro p hp ys l' st' h' hys a1 a2 a3 gZ gL gS
    rcases List.mem_cons.mp hp with rfl | hp
    · obtain rfl := hp_y0 hys
      obtain ⟨y0, t0, rfl, q0, g0⟩ := hp_gSi (z := (1 + 0)) gS rfl
      obtain ⟨y1, t1, rfl, q1, g1⟩ := hp_gSj (z := (0 + (1 * d + 0))) g0 rfl
      obtain ⟨y2, t2, rfl, q2, g2⟩ := hp_gSi (z := (2 + 0)) g1 rfl
      obtain ⟨t3, rfl, g3⟩ := hp_gSa g2 (by decide)
      cases hp_gSn g3
      exact e0 l' h' y0 y1 y2 (by omega) (by omega) (by omega) a1 a2 a3 (hp_gLa gL (List.mem_of_getElem? (i := 0) rfl) (by decide))
    cases hp
  · intro p hp ys v h' hys a1 a2 a3 gZ gS
    cases hp
theorem boP4_k : hp_chk 88 0 1 [(0, (-9223372036854775808), 9223372036854775807)] [] [(0, .inr (.inr (.inl (some 40))))] [] [(6159, (0, []), (4, [])), (6158, (0, []), (4, [])), (6160, (0, []), (0, [(0, 1)]))] [] 2 [(130, ([], 1, [(0, (-9223372036854775808), 9223372036854775807)], [], [(0, .inr (.inr (.inl (some 40))))], [.inl (1, []), .inr (.inl (0, [(0, 1)])), .inl (4, []), .inr (.inr (.inl (some 30)))], []))] [] = true := by decide +kernel
theorem boP4 {cst : am_K} {strs : List Nat} {Φ : am_Q → Prop} {D : Nat} {M : am_M} {h : am_H} {l : am_L} (c : hp_C cst strs D) (hM : m_P[88]? = some M) (hD : (2 : Int) ≤ (D : Int) + 1) (hy : ly_hy m_tt ly_TH h) (d : Int) (b0 : (-9223372036854775808) ≤ d) (t0 : d ≤ 9223372036854775807) (k0 : ly_hv cst h 6159 0 = some 4) (k1 : ly_hv cst h 6158 0 = some 4) (k2 : ly_hv cst h 6160 0 = some (d)) (l0 : hp_a l 0 40) (e0 : ∀ (l' : am_L) (h' : am_H) (y0 : Int32) (y1 : Int64) (y2 : Int32), y0.toInt = 1 → y1.toInt = (d) → y2.toInt = 4 → ly_hy m_tt ly_TH h' → ly_fr cst [] h h' → h.length ≤ h'.length → hp_a l' 0 40 → hp_F cst strs Φ D M 130 l' [.int y0, .long y1, .int y2, .ref 30] h') : hp_F cst strs Φ D M 0 l [] h := by
  refine hp_arc c hM boP4_k hD [d] rfl hy (hp_Bc (z := d) rfl b0 t0 hp_Bn) hp_Fn (hp_Kc (zi := (0 + 0)) (zv := (4 + 0)) k0 rfl rfl (by omega) (by omega) (hp_Kc (zi := (0 + 0)) (zv := (4 + 0)) k1 rfl rfl (by omega) (by omega) (hp_Kc (zi := (0 + 0)) (zv := (0 + (1 * d + 0))) k2 rfl rfl (by omega) (by omega) hp_Kn))) (hp_La l0 hp_Ln) trivial ?_ ?_
  · intro p hp ys l' st' h' hys a1 a2 a3 gZ gL gS
    rcases List.mem_cons.mp hp with rfl | hp
    · obtain rfl := hp_y0 hys
      obtain ⟨y0, t0, rfl, q0, g0⟩ := hp_gSi (z := (1 + 0)) gS rfl
      obtain ⟨y1, t1, rfl, q1, g1⟩ := hp_gSj (z := (0 + (1 * d + 0))) g0 rfl
      obtain ⟨y2, t2, rfl, q2, g2⟩ := hp_gSi (z := (4 + 0)) g1 rfl
      obtain ⟨t3, rfl, g3⟩ := hp_gSa g2 (by decide)
      cases hp_gSn g3
      exact e0 l' h' y0 y1 y2 (by omega) (by omega) (by omega) a1 a2 a3 (hp_gLa gL (List.mem_of_getElem? (i := 0) rfl) (by decide))
    cases hp
  · intro p hp ys v h' hys a1 a2 a3 gZ gS
    cases hp
theorem boP5_k : hp_chk 88 0 1 [(0, (-9223372036854775808), 9223372036854775807)] [] [(0, .inr (.inr (.inl (some 40))))] [] [(6159, (0, []), (5, [])), (6158, (0, []), (5, [])), (6160, (0, []), (0, [(0, 1)]))] [] 2 [(130, ([], 1, [(0, (-9223372036854775808), 9223372036854775807)], [], [(0, .inr (.inr (.inl (some 40))))], [.inl (1, []), .inr (.inl (0, [(0, 1)])), .inl (5, []), .inr (.inr (.inl (some 30)))], []))] [] = true := by decide +kernel
theorem boP5 {cst : am_K} {strs : List Nat} {Φ : am_Q → Prop} {D : Nat} {M : am_M} {h : am_H} {l : am_L} (c : hp_C cst strs D) (hM : m_P[88]? = some M) (hD : (2 : Int) ≤ (D : Int) + 1) (hy : ly_hy m_tt ly_TH h) (d : Int) (b0 : (-9223372036854775808) ≤ d) (t0 : d ≤ 9223372036854775807) (k0 : ly_hv cst h 6159 0 = some 5) (k1 : ly_hv cst h 6158 0 = some 5) (k2 : ly_hv cst h 6160 0 = some (d)) (l0 : hp_a l 0 40) (e0 : ∀ (l' : am_L) (h' : am_H) (y0 : Int32) (y1 : Int64) (y2 : Int32), y0.toInt = 1 → y1.toInt = (d) → y2.toInt = 5 → ly_hy m_tt ly_TH h' → ly_fr cst [] h h' → h.length ≤ h'.length → hp_a l' 0 40 → hp_F cst strs Φ D M 130 l' [.int y0, .long y1, .int y2, .ref 30] h') : hp_F cst strs Φ D M 0 l [] h := by
  refine hp_arc c hM boP5_k hD [d] rfl hy (hp_Bc (z := d) rfl b0 t0 hp_Bn) hp_Fn (hp_Kc (zi := (0 + 0)) (zv := (5 + 0)) k0 rfl rfl (by omega) (by omega) (hp_Kc (zi := (0 + 0)) (zv := (5 + 0)) k1 rfl rfl (by omega) (by omega) (hp_Kc (zi := (0 + 0)) (zv := (0 + (1 * d + 0))) k2 rfl rfl (by omega) (by omega) hp_Kn))) (hp_La l0 hp_Ln) trivial ?_ ?_
  · intro p hp ys l' st' h' hys a1 a2 a3 gZ gL gS
    rcases List.mem_cons.mp hp with rfl | hp
    · obtain rfl := hp_y0 hys
      obtain ⟨y0, t0, rfl, q0, g0⟩ := hp_gSi (z := (1 + 0)) gS rfl
      obtain ⟨y1, t1, rfl, q1, g1⟩ := hp_gSj (z := (0 + (1 * d + 0))) g0 rfl
      obtain ⟨y2, t2, rfl, q2, g2⟩ := hp_gSi (z := (5 + 0)) g1 rfl
      obtain ⟨t3, rfl, g3⟩ := hp_gSa g2 (by decide)
      cases hp_gSn g3
      exact e0 l' h' y0 y1 y2 (by omega) (by omega) (by omega) a1 a2 a3 (hp_gLa gL (List.mem_of_getElem? (i := 0) rfl) (by decide))
    cases hp
  · intro p hp ys v h' hys a1 a2 a3 gZ gS
    cases hp
theorem boP6_k : hp_chk 88 0 1 [(0, (-9223372036854775808), 9223372036854775807)] [] [(0, .inr (.inr (.inl (some 40))))] [] [(6159, (0, []), (6, [])), (6158, (0, []), (6, [])), (6160, (0, []), (0, [(0, 1)]))] [] 2 [(130, ([], 1, [(0, (-9223372036854775808), 9223372036854775807)], [], [(0, .inr (.inr (.inl (some 40))))], [.inl (1, []), .inr (.inl (0, [(0, 1)])), .inl (6, []), .inr (.inr (.inl (some 30)))], []))] [] = true := by decide +kernel
theorem boP6 {cst : am_K} {strs : List Nat} {Φ : am_Q → Prop} {D : Nat} {M : am_M} {h : am_H} {l : am_L} (c : hp_C cst strs D) (hM : m_P[88]? = some M) (hD : (2 : Int) ≤ (D : Int) + 1) (hy : ly_hy m_tt ly_TH h) (d : Int) (b0 : (-9223372036854775808) ≤ d) (t0 : d ≤ 9223372036854775807) (k0 : ly_hv cst h 6159 0 = some 6) (k1 : ly_hv cst h 6158 0 = some 6) (k2 : ly_hv cst h 6160 0 = some (d)) (l0 : hp_a l 0 40) (e0 : ∀ (l' : am_L) (h' : am_H) (y0 : Int32) (y1 : Int64) (y2 : Int32), y0.toInt = 1 → y1.toInt = (d) → y2.toInt = 6 → ly_hy m_tt ly_TH h' → ly_fr cst [] h h' → h.length ≤ h'.length → hp_a l' 0 40 → hp_F cst strs Φ D M 130 l' [.int y0, .long y1, .int y2, .ref 30] h') : hp_F cst strs Φ D M 0 l [] h := by
  refine hp_arc c hM boP6_k hD [d] rfl hy (hp_Bc (z := d) rfl b0 t0 hp_Bn) hp_Fn (hp_Kc (zi := (0 + 0)) (zv := (6 + 0)) k0 rfl rfl (by omega) (by omega) (hp_Kc (zi := (0 + 0)) (zv := (6 + 0)) k1 rfl rfl (by omega) (by omega) (hp_Kc (zi := (0 + 0)) (zv := (0 + (1 * d + 0))) k2 rfl rfl (by omega) (by omega) hp_Kn))) (hp_La l0 hp_Ln) trivial ?_ ?_
  · intro p hp ys l' st' h' hys a1 a2 a3 gZ gL gS
    rcases List.mem_cons.mp hp with rfl | hp
    · obtain rfl := hp_y0 hys
      obtain ⟨y0, t0, rfl, q0, g0⟩ := hp_gSi (z := (1 + 0)) gS rfl
      obtain ⟨y1, t1, rfl, q1, g1⟩ := hp_gSj (z := (0 + (1 * d + 0))) g0 rfl
      obtain ⟨y2, t2, rfl, q2, g2⟩ := hp_gSi (z := (6 + 0)) g1 rfl
      obtain ⟨t3, rfl, g3⟩ := hp_gSa g2 (by decide)
      cases hp_gSn g3
      exact e0 l' h' y0 y1 y2 (by omega) (by omega) (by omega) a1 a2 a3 (hp_gLa gL (List.mem_of_getElem? (i := 0) rfl) (by decide))
    cases hp
  · intro p hp ys v h' hys a1 a2 a3 gZ gS
    cases hp
theorem boP13_k : hp_chk 88 0 1 [(0, (-9223372036854775808), 9223372036854775807)] [] [(0, .inr (.inr (.inl (some 40))))] [] [(6159, (0, []), (13, [])), (6158, (0, []), (13, [])), (6160, (0, []), (0, [(0, 1)]))] [] 2 [(130, ([], 1, [(0, (-9223372036854775808), 9223372036854775807)], [], [(0, .inr (.inr (.inl (some 40))))], [.inl (1, []), .inr (.inl (0, [(0, 1)])), .inl (13, []), .inr (.inr (.inl (some 30)))], []))] [] = true := by decide +kernel
theorem boP13 {cst : am_K} {strs : List Nat} {Φ : am_Q → Prop} {D : Nat} {M : am_M} {h : am_H} {l : am_L} (c : hp_C cst strs D) (hM : m_P[88]? = some M) (hD : (2 : Int) ≤ (D : Int) + 1) (hy : ly_hy m_tt ly_TH h) (d : Int) (b0 : (-9223372036854775808) ≤ d) (t0 : d ≤ 9223372036854775807) (k0 : ly_hv cst h 6159 0 = some 13) (k1 : ly_hv cst h 6158 0 = some 13) (k2 : ly_hv cst h 6160 0 = some (d)) (l0 : hp_a l 0 40) (e0 : ∀ (l' : am_L) (h' : am_H) (y0 : Int32) (y1 : Int64) (y2 : Int32), y0.toInt = 1 → y1.toInt = (d) → y2.toInt = 13 → ly_hy m_tt ly_TH h' → ly_fr cst [] h h' → h.length ≤ h'.length → hp_a l' 0 40 → hp_F cst strs Φ D M 130 l' [.int y0, .long y1, .int y2, .ref 30] h') : hp_F cst strs Φ D M 0 l [] h := by
  refine hp_arc c hM boP13_k hD [d] rfl hy (hp_Bc (z := d) rfl b0 t0 hp_Bn) hp_Fn (hp_Kc (zi := (0 + 0)) (zv := (13 + 0)) k0 rfl rfl (by omega) (by omega) (hp_Kc (zi := (0 + 0)) (zv := (13 + 0)) k1 rfl rfl (by omega) (by omega) (hp_Kc (zi := (0 + 0)) (zv := (0 + (1 * d + 0))) k2 rfl rfl (by omega) (by omega) hp_Kn))) (hp_La l0 hp_Ln) trivial ?_ ?_
  · intro p hp ys l' st' h' hys a1 a2 a3 gZ gL gS
    rcases List.mem_cons.mp hp with rfl | hp
    · obtain rfl := hp_y0 hys
      obtain ⟨y0, t0, rfl, q0, g0⟩ := hp_gSi (z := (1 + 0)) gS rfl
      obtain ⟨y1, t1, rfl, q1, g1⟩ := hp_gSj (z := (0 + (1 * d + 0))) g0 rfl
      obtain ⟨y2, t2, rfl, q2, g2⟩ := hp_gSi (z := (13 + 0)) g1 rfl
      obtain ⟨t3, rfl, g3⟩ := hp_gSa g2 (by decide)
      cases hp_gSn g3
      exact e0 l' h' y0 y1 y2 (by omega) (by omega) (by omega) a1 a2 a3 (hp_gLa gL (List.mem_of_getElem? (i := 0) rfl) (by decide))
    cases hp
  · intro p hp ys v h' hys a1 a2 a3 gZ gS
    cases hp
theorem boP15_k : hp_chk 88 0 1 [(0, (-9223372036854775808), 9223372036854775807)] [] [(0, .inr (.inr (.inl (some 40))))] [] [(6159, (0, []), (4, [])), (6158, (0, []), (15, [])), (6160, (0, []), (0, [(0, 1)]))] [] 2 [(130, ([], 1, [(0, (-9223372036854775808), 9223372036854775807)], [], [(0, .inr (.inr (.inl (some 40))))], [.inl (0, []), .inr (.inl (0, [(0, 1)])), .inl (4, []), .inr (.inr (.inl (some 30)))], []))] [] = true := by decide +kernel
theorem boP15 {cst : am_K} {strs : List Nat} {Φ : am_Q → Prop} {D : Nat} {M : am_M} {h : am_H} {l : am_L} (c : hp_C cst strs D) (hM : m_P[88]? = some M) (hD : (2 : Int) ≤ (D : Int) + 1) (hy : ly_hy m_tt ly_TH h) (d : Int) (b0 : (-9223372036854775808) ≤ d) (t0 : d ≤ 9223372036854775807) (k0 : ly_hv cst h 6159 0 = some 4) (k1 : ly_hv cst h 6158 0 = some 15) (k2 : ly_hv cst h 6160 0 = some (d)) (l0 : hp_a l 0 40) (e0 : ∀ (l' : am_L) (h' : am_H) (y0 : Int32) (y1 : Int64) (y2 : Int32), y0.toInt = 0 → y1.toInt = (d) → y2.toInt = 4 → ly_hy m_tt ly_TH h' → ly_fr cst [] h h' → h.length ≤ h'.length → hp_a l' 0 40 → hp_F cst strs Φ D M 130 l' [.int y0, .long y1, .int y2, .ref 30] h') : hp_F cst strs Φ D M 0 l [] h := by
  refine hp_arc c hM boP15_k hD [d] rfl hy (hp_Bc (z := d) rfl b0 t0 hp_Bn) hp_Fn (hp_Kc (zi := (0 + 0)) (zv := (4 + 0)) k0 rfl rfl (by omega) (by omega) (hp_Kc (zi := (0 + 0)) (zv := (15 + 0)) k1 rfl rfl (by omega) (by omega) (hp_Kc (zi := (0 + 0)) (zv := (0 + (1 * d + 0))) k2 rfl rfl (by omega) (by omega) hp_Kn))) (hp_La l0 hp_Ln) trivial ?_ ?_
  · intro p hp ys l' st' h' hys a1 a2 a3 gZ gL gS
    rcases List.mem_cons.mp hp with rfl | hp
    · obtain rfl := hp_y0 hys
      obtain ⟨y0, t0, rfl, q0, g0⟩ := hp_gSi (z := (0 + 0)) gS rfl
      obtain ⟨y1, t1, rfl, q1, g1⟩ := hp_gSj (z := (0 + (1 * d + 0))) g0 rfl
      obtain ⟨y2, t2, rfl, q2, g2⟩ := hp_gSi (z := (4 + 0)) g1 rfl
      obtain ⟨t3, rfl, g3⟩ := hp_gSa g2 (by decide)
      cases hp_gSn g3
      exact e0 l' h' y0 y1 y2 (by omega) (by omega) (by omega) a1 a2 a3 (hp_gLa gL (List.mem_of_getElem? (i := 0) rfl) (by decide))
    cases hp
  · intro p hp ys v h' hys a1 a2 a3 gZ gS
    cases hp
theorem boP16_k : hp_chk 88 0 1 [(0, (-9223372036854775808), 9223372036854775807)] [] [(0, .inr (.inr (.inl (some 40))))] [] [(6159, (0, []), (13, [])), (6158, (0, []), (16, [])), (6160, (0, []), (0, [(0, 1)]))] [] 2 [(130, ([], 1, [(0, (-9223372036854775808), 9223372036854775807)], [], [(0, .inr (.inr (.inl (some 40))))], [.inl (0, []), .inr (.inl (0, [(0, 1)])), .inl (13, []), .inr (.inr (.inl (some 30)))], []))] [] = true := by decide +kernel
theorem boP16 {cst : am_K} {strs : List Nat} {Φ : am_Q → Prop} {D : Nat} {M : am_M} {h : am_H} {l : am_L} (c : hp_C cst strs D) (hM : m_P[88]? = some M) (hD : (2 : Int) ≤ (D : Int) + 1) (hy : ly_hy m_tt ly_TH h) (d : Int) (b0 : (-9223372036854775808) ≤ d) (t0 : d ≤ 9223372036854775807) (k0 : ly_hv cst h 6159 0 = some 13) (k1 : ly_hv cst h 6158 0 = some 16) (k2 : ly_hv cst h 6160 0 = some (d)) (l0 : hp_a l 0 40) (e0 : ∀ (l' : am_L) (h' : am_H) (y0 : Int32) (y1 : Int64) (y2 : Int32), y0.toInt = 0 → y1.toInt = (d) → y2.toInt = 13 → ly_hy m_tt ly_TH h' → ly_fr cst [] h h' → h.length ≤ h'.length → hp_a l' 0 40 → hp_F cst strs Φ D M 130 l' [.int y0, .long y1, .int y2, .ref 30] h') : hp_F cst strs Φ D M 0 l [] h := by
  refine hp_arc c hM boP16_k hD [d] rfl hy (hp_Bc (z := d) rfl b0 t0 hp_Bn) hp_Fn (hp_Kc (zi := (0 + 0)) (zv := (13 + 0)) k0 rfl rfl (by omega) (by omega) (hp_Kc (zi := (0 + 0)) (zv := (16 + 0)) k1 rfl rfl (by omega) (by omega) (hp_Kc (zi := (0 + 0)) (zv := (0 + (1 * d + 0))) k2 rfl rfl (by omega) (by omega) hp_Kn))) (hp_La l0 hp_Ln) trivial ?_ ?_
  · intro p hp ys l' st' h' hys a1 a2 a3 gZ gL gS
    rcases List.mem_cons.mp hp with rfl | hp
    · obtain rfl := hp_y0 hys
      obtain ⟨y0, t0, rfl, q0, g0⟩ := hp_gSi (z := (0 + 0)) gS rfl
      obtain ⟨y1, t1, rfl, q1, g1⟩ := hp_gSj (z := (0 + (1 * d + 0))) g0 rfl
      obtain ⟨y2, t2, rfl, q2, g2⟩ := hp_gSi (z := (13 + 0)) g1 rfl
      obtain ⟨t3, rfl, g3⟩ := hp_gSa g2 (by decide)
      cases hp_gSn g3
      exact e0 l' h' y0 y1 y2 (by omega) (by omega) (by omega) a1 a2 a3 (hp_gLa gL (List.mem_of_getElem? (i := 0) rfl) (by decide))
    cases hp
  · intro p hp ys v h' hys a1 a2 a3 gZ gS
    cases hp
theorem boR_k : hp_chk 88 133 0 [] [] [(0, .inr (.inr (.inl (some 40))))] [] [] [] 2 [] [([], 0, [], [], [], [.inl (1, [])], [])] = true := by decide +kernel
theorem boR {cst : am_K} {strs : List Nat} {Φ : am_Q → Prop} {D : Nat} {M : am_M} {h : am_H} {l : am_L} (c : hp_C cst strs D) (hM : m_P[88]? = some M) (hD : (2 : Int) ≤ (D : Int) + 1) (hy : ly_hy m_tt ly_TH h) (l0 : hp_a l 0 40) (r0 : ∀ (h' : am_H) (y0 : Int32), y0.toInt = 1 → ly_hy m_tt ly_TH h' → ly_fr cst [] h h' → h.length ≤ h'.length → Φ (some (.int y0), h', 0, 0)) : hp_F cst strs Φ D M 133 l [] h := by
  refine hp_arc c hM boR_k hD [] rfl hy hp_Bn hp_Fn hp_Kn (hp_La l0 hp_Ln) trivial ?_ ?_
  · intro p hp ys l' st' h' hys a1 a2 a3 gZ gL gS
    cases hp
  · intro p hp ys v h' hys a1 a2 a3 gZ gS
    rcases List.mem_cons.mp hp with rfl | hp
    · obtain rfl := hp_y0 hys
      cases v with
      | none => cases gS
      | some w =>
        obtain ⟨y0, t0, s0, q0, -⟩ := hp_gSi (z := (1 + 0)) gS rfl
        cases s0
        exact r0 h' y0 (by omega) a1 a2 a3
    cases hp
theorem boV84_k : hp_chk 88 84 1 [(0, 0, 1)] [] [(0, .inr (.inr (.inl (some 40))))] [.inl (0, [(0, 1)])] [] [] 2 [] [([], 1, [(0, 0, 1)], [], [], [.inl (0, [(0, 1)])], [])] = true := by decide +kernel
theorem boV84 {cst : am_K} {strs : List Nat} {Φ : am_Q → Prop} {D : Nat} {M : am_M} {h : am_H} {l : am_L} (c : hp_C cst strs D) (hM : m_P[88]? = some M) (hD : (2 : Int) ≤ (D : Int) + 1) (hy : ly_hy m_tt ly_TH h) (q : Int) (x0 : Int32) (hx0 : x0.toInt = (q)) (b0 : 0 ≤ q) (t0 : q ≤ 1) (l0 : hp_a l 0 40) (r0 : ∀ (h' : am_H) (y0 : Int32), y0.toInt = (q) → ly_hy m_tt ly_TH h' → ly_fr cst [] h h' → h.length ≤ h'.length → Φ (some (.int y0), h', 0, 0)) : hp_F cst strs Φ D M 84 l [.int x0] h := by
  refine hp_arc c hM boV84_k hD [q] rfl hy (hp_Bc (z := q) rfl b0 t0 hp_Bn) hp_Fn hp_Kn (hp_La l0 hp_Ln) (hp_Si (z := (0 + (1 * q + 0))) rfl (by omega) trivial) ?_ ?_
  · intro p hp ys l' st' h' hys a1 a2 a3 gZ gL gS
    cases hp
  · intro p hp ys v h' hys a1 a2 a3 gZ gS
    rcases List.mem_cons.mp hp with rfl | hp
    · obtain rfl := hp_y0 hys
      cases v with
      | none => cases gS
      | some w =>
        obtain ⟨y0, t0, s0, q0, -⟩ := hp_gSi (z := (0 + (1 * q + 0))) gS rfl
        cases s0
        exact r0 h' y0 (by omega) a1 a2 a3
    cases hp
theorem boV89_k : hp_chk 88 89 1 [(0, 0, 1)] [] [(0, .inr (.inr (.inl (some 40))))] [.inl (0, [(0, 1)])] [] [] 2 [] [([], 1, [(0, 0, 1)], [], [], [.inl (0, [(0, 1)])], [])] = true := by decide +kernel
theorem boV89 {cst : am_K} {strs : List Nat} {Φ : am_Q → Prop} {D : Nat} {M : am_M} {h : am_H} {l : am_L} (c : hp_C cst strs D) (hM : m_P[88]? = some M) (hD : (2 : Int) ≤ (D : Int) + 1) (hy : ly_hy m_tt ly_TH h) (q : Int) (x0 : Int32) (hx0 : x0.toInt = (q)) (b0 : 0 ≤ q) (t0 : q ≤ 1) (l0 : hp_a l 0 40) (r0 : ∀ (h' : am_H) (y0 : Int32), y0.toInt = (q) → ly_hy m_tt ly_TH h' → ly_fr cst [] h h' → h.length ≤ h'.length → Φ (some (.int y0), h', 0, 0)) : hp_F cst strs Φ D M 89 l [.int x0] h := by
  refine hp_arc c hM boV89_k hD [q] rfl hy (hp_Bc (z := q) rfl b0 t0 hp_Bn) hp_Fn hp_Kn (hp_La l0 hp_Ln) (hp_Si (z := (0 + (1 * q + 0))) rfl (by omega) trivial) ?_ ?_
  · intro p hp ys l' st' h' hys a1 a2 a3 gZ gL gS
    cases hp
  · intro p hp ys v h' hys a1 a2 a3 gZ gS
    rcases List.mem_cons.mp hp with rfl | hp
    · obtain rfl := hp_y0 hys
      cases v with
      | none => cases gS
      | some w =>
        obtain ⟨y0, t0, s0, q0, -⟩ := hp_gSi (z := (0 + (1 * q + 0))) gS rfl
        cases s0
        exact r0 h' y0 (by omega) a1 a2 a3
    cases hp
theorem boV94_k : hp_chk 88 94 1 [(0, 0, 1)] [] [(0, .inr (.inr (.inl (some 40))))] [.inl (0, [(0, 1)])] [] [] 2 [] [([], 1, [(0, 0, 1)], [], [], [.inl (0, [(0, 1)])], [])] = true := by decide +kernel
theorem boV94 {cst : am_K} {strs : List Nat} {Φ : am_Q → Prop} {D : Nat} {M : am_M} {h : am_H} {l : am_L} (c : hp_C cst strs D) (hM : m_P[88]? = some M) (hD : (2 : Int) ≤ (D : Int) + 1) (hy : ly_hy m_tt ly_TH h) (q : Int) (x0 : Int32) (hx0 : x0.toInt = (q)) (b0 : 0 ≤ q) (t0 : q ≤ 1) (l0 : hp_a l 0 40) (r0 : ∀ (h' : am_H) (y0 : Int32), y0.toInt = (q) → ly_hy m_tt ly_TH h' → ly_fr cst [] h h' → h.length ≤ h'.length → Φ (some (.int y0), h', 0, 0)) : hp_F cst strs Φ D M 94 l [.int x0] h := by
  refine hp_arc c hM boV94_k hD [q] rfl hy (hp_Bc (z := q) rfl b0 t0 hp_Bn) hp_Fn hp_Kn (hp_La l0 hp_Ln) (hp_Si (z := (0 + (1 * q + 0))) rfl (by omega) trivial) ?_ ?_
  · intro p hp ys l' st' h' hys a1 a2 a3 gZ gL gS
    cases hp
  · intro p hp ys v h' hys a1 a2 a3 gZ gS
    rcases List.mem_cons.mp hp with rfl | hp
    · obtain rfl := hp_y0 hys
      cases v with
      | none => cases gS
      | some w =>
        obtain ⟨y0, t0, s0, q0, -⟩ := hp_gSi (z := (0 + (1 * q + 0))) gS rfl
        cases s0
        exact r0 h' y0 (by omega) a1 a2 a3
    cases hp
theorem boV139_k : hp_chk 88 139 1 [(0, 0, 1)] [] [(0, .inr (.inr (.inl (some 40))))] [.inl (0, [(0, 1)])] [] [] 2 [] [([], 1, [(0, 0, 1)], [], [], [.inl (0, [(0, 1)])], [])] = true := by decide +kernel
theorem boV139 {cst : am_K} {strs : List Nat} {Φ : am_Q → Prop} {D : Nat} {M : am_M} {h : am_H} {l : am_L} (c : hp_C cst strs D) (hM : m_P[88]? = some M) (hD : (2 : Int) ≤ (D : Int) + 1) (hy : ly_hy m_tt ly_TH h) (q : Int) (x0 : Int32) (hx0 : x0.toInt = (q)) (b0 : 0 ≤ q) (t0 : q ≤ 1) (l0 : hp_a l 0 40) (r0 : ∀ (h' : am_H) (y0 : Int32), y0.toInt = (q) → ly_hy m_tt ly_TH h' → ly_fr cst [] h h' → h.length ≤ h'.length → Φ (some (.int y0), h', 0, 0)) : hp_F cst strs Φ D M 139 l [.int x0] h := by
  refine hp_arc c hM boV139_k hD [q] rfl hy (hp_Bc (z := q) rfl b0 t0 hp_Bn) hp_Fn hp_Kn (hp_La l0 hp_Ln) (hp_Si (z := (0 + (1 * q + 0))) rfl (by omega) trivial) ?_ ?_
  · intro p hp ys l' st' h' hys a1 a2 a3 gZ gL gS
    cases hp
  · intro p hp ys v h' hys a1 a2 a3 gZ gS
    rcases List.mem_cons.mp hp with rfl | hp
    · obtain rfl := hp_y0 hys
      cases v with
      | none => cases gS
      | some w =>
        obtain ⟨y0, t0, s0, q0, -⟩ := hp_gSi (z := (0 + (1 * q + 0))) gS rfl
        cases s0
        exact r0 h' y0 (by omega) a1 a2 a3
    cases hp
theorem fz87_18 {cst : am_K} {strs : List Nat} {Φ : am_Q → Prop} {D : Nat} {M : am_M} {h : am_H} {l : am_L} (c1 : hp_C cst strs D) (c : hp_C cst strs (D + 1)) (hM : m_P[87]? = some M) (hD : 3 ≤ D) (hy : ly_hy m_tt ly_TH h) {kd pl vl : Int → Int} {t : Nat} {n : Int} (t1 : (t : Int) ≤ 1200) (n0 : 0 ≤ n) (n1 : n ≤ 1200) (X : ct cst h kd pl vl t n) {y : Int32} {b : Nat} (k0 : 1 ≤ y.toInt) (k1 : y.toInt ≤ 4) (ka : ly_hv cst h 6154 0 = some (b : Int)) (b1 : (b : Int) ≤ 1200)
    (k : ∀ (h' : am_H) (w : Int32), w.toInt = 0 → ly_hy m_tt ly_TH h' → ly_fr cst [6144, 6145] h h' → ly_hv cst h' 6144 0 = some y.toInt → ly_hv cst h' 6145 0 = some (pa pl t n b) → Φ (some (.int w), h', 0, 0)) : hp_F cst strs Φ (D + 1) M 18 l [.int y, .ref 40] h := by
  obtain ⟨r, hrun, w, r1, r2, r3, rhy, rfr, e0, k2, k3⟩ := fl_run (xk := y) c1 (by omega) hy t1 n0 n1 X k0 k1 ka b1
  refine hp_call (mi := 87) (pc := 18) (tg := 83) (na := 2) (c := 24) (ci := 4) (st0 := [.int y, .ref 40]) (st := []) (av := [.int y]) hM (by decide +kernel) hy rfl rfl rfl (by decide) hrun r2 r3 ?_
  rw [r1]
  exact fr87_18 c hM (by omega) rhy w e0 (fun h5 v hv u1 u2 u3 => k h5 v hv u1 (ly_fr_tr rfr (hp_sub2 rfl u2)) (u2 _ _ _ rfl k2) (u2 _ _ _ rfl k3))
theorem fz87_42 {cst : am_K} {strs : List Nat} {Φ : am_Q → Prop} {D : Nat} {M : am_M} {h : am_H} {l : am_L} (c1 : hp_C cst strs D) (c : hp_C cst strs (D + 1)) (hM : m_P[87]? = some M) (hD : 3 ≤ D) (hy : ly_hy m_tt ly_TH h) {kd pl vl : Int → Int} {t : Nat} {n : Int} (t1 : (t : Int) ≤ 1200) (n0 : 0 ≤ n) (n1 : n ≤ 1200) (X : ct cst h kd pl vl t n) {y : Int32} {b : Nat} (k0 : 1 ≤ y.toInt) (k1 : y.toInt ≤ 4) (ka : ly_hv cst h 6154 0 = some (b : Int)) (b1 : (b : Int) ≤ 1200)
    (k : ∀ (h' : am_H) (w : Int32), w.toInt = 0 → ly_hy m_tt ly_TH h' → ly_fr cst [6144, 6145] h h' → ly_hv cst h' 6144 0 = some y.toInt → ly_hv cst h' 6145 0 = some (pa pl t n b) → Φ (some (.int w), h', 0, 0)) : hp_F cst strs Φ (D + 1) M 42 l [.int y, .ref 40] h := by
  obtain ⟨r, hrun, w, r1, r2, r3, rhy, rfr, e0, k2, k3⟩ := fl_run (xk := y) c1 (by omega) hy t1 n0 n1 X k0 k1 ka b1
  refine hp_call (mi := 87) (pc := 42) (tg := 83) (na := 2) (c := 24) (ci := 4) (st0 := [.int y, .ref 40]) (st := []) (av := [.int y]) hM (by decide +kernel) hy rfl rfl rfl (by decide) hrun r2 r3 ?_
  rw [r1]
  exact fr87_42 c hM (by omega) rhy w e0 (fun h5 v hv u1 u2 u3 => k h5 v hv u1 (ly_fr_tr rfr (hp_sub2 rfl u2)) (u2 _ _ _ rfl k2) (u2 _ _ _ rfl k3))
theorem lz87_53 {cst : am_K} {strs : List Nat} {Φ : am_Q → Prop} {D : Nat} {M : am_M} {h : am_H} {l : am_L} (c1 : hp_C cst strs D) (c : hp_C cst strs (D + 1)) (hM : m_P[87]? = some M) (hD : 3 ≤ D) (hy : ly_hy m_tt ly_TH h) {kd pl vl : Int → Int} {t : Nat} {n : Int} (t1 : (t : Int) ≤ 1200) (kb : kB kd t) (vb : vB kd vl t) (X : ct cst h kd pl vl t n) {y : Int32} {b : Nat} (e : y.toInt = (b : Int)) (b1 : (b : Int) ≤ 1200)
    (k : ∀ (h' : am_H), ly_hy m_tt ly_TH h' → ly_fr cst [6154, 6155, 6156, 6157] h h' → cs cst h' kd vl t b → hp_F cst strs Φ (D + 1) M 56 l [] h') : hp_F cst strs Φ (D + 1) M 53 l [.int y, .ref 40] h := by
  obtain ⟨r, hrun, r1, r2, r3, rhy, rfr, rC⟩ := lk_run (xb := y) c1 (by omega) hy t1 kb vb X e b1
  refine hp_call (mi := 87) (pc := 53) (tg := 78) (na := 2) (c := 24) (ci := 4) (st0 := [.int y, .ref 40]) (st := []) (av := [.int y]) hM (by decide +kernel) hy rfl rfl rfl (by decide) hrun r2 r3 ?_
  rw [r1]
  exact k _ rhy rfr rC
theorem hz87_34 {cst : am_K} {strs : List Nat} {Φ : am_Q → Prop} {D : Nat} {M : am_M} {h : am_H} {l : am_L} (c2 : hp_C cst strs D) (c1 : hp_C cst strs (D + 1)) (hM : m_P[87]? = some M) (hD : 1 ≤ D) (hy : ly_hy m_tt ly_TH h) {i0 : List Int} {c0 : List cl} {C : List cl} {A : Int} (X : dr cst h i0 c0 C) (rm : (c0.length : Int) + (C.length : Int) ≤ 1240) (a0 : 0 ≤ A) (a1 : A ≤ 30) (kA : ly_hv cst h 3584 0 = some A) (kF : ly_hv cst h 4352 A = some (c0.length : Int)) {yk : Int32} {yd : Int64} (k0 : 0 ≤ yk.toInt) (k1 : yk.toInt ≤ 14)
    (yes : tl yk.toInt yd.toInt C = true → ∀ (h' : am_H) (w : Int32), w.toInt = 1 → ly_hy m_tt ly_TH h' → ly_fr cst [] h h' → hp_F cst strs Φ (D + 1 + 1) M 37 l [.int w] h')
    (no : tl yk.toInt yd.toInt C = false → ∀ (h' : am_H) (w : Int32), w.toInt = 0 → ly_hy m_tt ly_TH h' → ly_fr cst [] h h' → hp_F cst strs Φ (D + 1 + 1) M 37 l [.int w] h') : hp_F cst strs Φ (D + 1 + 1) M 34 l [.long yd, .int yk, .ref 30] h := by
  obtain ⟨r, hrun, w, r1, r2, r3, rhy, rfr, rE⟩ := dh_run (xk := yk) (xd := yd) c2 c1 hD hy X rm a0 a1 kA kF k0 k1
  refine hp_call (mi := 87) (pc := 34) (tg := 85) (na := 3) (c := 14) (ci := 3) (st0 := [.long yd, .int yk, .ref 30]) (st := []) (av := [.int yk, .long yd]) hM (by decide +kernel) hy rfl rfl rfl (by decide) hrun r2 r3 ?_
  rw [r1]
  rcases rE with ⟨e1, e2⟩ | ⟨e1, e2⟩
  · exact yes e1 _ w e2 rhy rfr
  · exact no e1 _ w e2 rhy rfr
theorem hz82_90 {cst : am_K} {strs : List Nat} {Φ : am_Q → Prop} {D : Nat} {M : am_M} {h : am_H} {l : am_L} (c2 : hp_C cst strs D) (c1 : hp_C cst strs (D + 1)) (hM : m_P[82]? = some M) (hD : 1 ≤ D) (hy : ly_hy m_tt ly_TH h) {i0 : List Int} {c0 : List cl} {C : List cl} {A : Int} (X : dr cst h i0 c0 C) (rm : (c0.length : Int) + (C.length : Int) ≤ 1240) (a0 : 0 ≤ A) (a1 : A ≤ 30) (kA : ly_hv cst h 3584 0 = some A) (kF : ly_hv cst h 4352 A = some (c0.length : Int)) {yk : Int32} {yd : Int64} (k0 : 0 ≤ yk.toInt) (k1 : yk.toInt ≤ 14)
    (yes : tl yk.toInt yd.toInt C = true → ∀ (h' : am_H) (w : Int32), w.toInt = 1 → ly_hy m_tt ly_TH h' → ly_fr cst [] h h' → hp_F cst strs Φ (D + 1 + 1) M 93 l [.int w] h')
    (no : tl yk.toInt yd.toInt C = false → ∀ (h' : am_H) (w : Int32), w.toInt = 0 → ly_hy m_tt ly_TH h' → ly_fr cst [] h h' → hp_F cst strs Φ (D + 1 + 1) M 93 l [.int w] h') : hp_F cst strs Φ (D + 1 + 1) M 90 l [.long yd, .int yk, .ref 30] h := by
  obtain ⟨r, hrun, w, r1, r2, r3, rhy, rfr, rE⟩ := dh_run (xk := yk) (xd := yd) c2 c1 hD hy X rm a0 a1 kA kF k0 k1
  refine hp_call (mi := 82) (pc := 90) (tg := 85) (na := 3) (c := 14) (ci := 3) (st0 := [.long yd, .int yk, .ref 30]) (st := []) (av := [.int yk, .long yd]) hM (by decide +kernel) hy rfl rfl rfl (by decide) hrun r2 r3 ?_
  rw [r1]
  rcases rE with ⟨e1, e2⟩ | ⟨e1, e2⟩
  · exact yes e1 _ w e2 rhy rfr
  · exact no e1 _ w e2 rhy rfr
theorem fz82_25 {cst : am_K} {strs : List Nat} {Φ : am_Q → Prop} {D : Nat} {M : am_M} {h : am_H} {l : am_L} (c1 : hp_C cst strs D) (c : hp_C cst strs (D + 1)) (hM : m_P[82]? = some M) (hD : 3 ≤ D) (hy : ly_hy m_tt ly_TH h) {kd pl vl : Int → Int} {t : Nat} {n : Int} (t1 : (t : Int) ≤ 1200) (n0 : 0 ≤ n) (n1 : n ≤ 1200) (X : ct cst h kd pl vl t n) {y : Int32} {b : Nat} (k0 : 1 ≤ y.toInt) (k1 : y.toInt ≤ 4) (ka : ly_hv cst h 6154 0 = some (b : Int)) (b1 : (b : Int) ≤ 1200)
    (k : ∀ (h' : am_H) (w : Int32), w.toInt = 0 → ly_hy m_tt ly_TH h' → ly_fr cst [6144, 6145] h h' → ly_hv cst h' 6144 0 = some y.toInt → ly_hv cst h' 6145 0 = some (pa pl t n b) → Φ (some (.int w), h', 0, 0)) : hp_F cst strs Φ (D + 1) M 25 l [.int y, .ref 40] h := by
  obtain ⟨r, hrun, w, r1, r2, r3, rhy, rfr, e0, k2, k3⟩ := fl_run (xk := y) c1 (by omega) hy t1 n0 n1 X k0 k1 ka b1
  refine hp_call (mi := 82) (pc := 25) (tg := 83) (na := 2) (c := 24) (ci := 4) (st0 := [.int y, .ref 40]) (st := []) (av := [.int y]) hM (by decide +kernel) hy rfl rfl rfl (by decide) hrun r2 r3 ?_
  rw [r1]
  exact fr82_25 c hM (by omega) rhy w e0 (fun h5 v hv u1 u2 u3 => k h5 v hv u1 (ly_fr_tr rfr (hp_sub2 rfl u2)) (u2 _ _ _ rfl k2) (u2 _ _ _ rfl k3))
theorem fz82_98 {cst : am_K} {strs : List Nat} {Φ : am_Q → Prop} {D : Nat} {M : am_M} {h : am_H} {l : am_L} (c1 : hp_C cst strs D) (c : hp_C cst strs (D + 1)) (hM : m_P[82]? = some M) (hD : 3 ≤ D) (hy : ly_hy m_tt ly_TH h) {kd pl vl : Int → Int} {t : Nat} {n : Int} (t1 : (t : Int) ≤ 1200) (n0 : 0 ≤ n) (n1 : n ≤ 1200) (X : ct cst h kd pl vl t n) {y : Int32} {b : Nat} (k0 : 1 ≤ y.toInt) (k1 : y.toInt ≤ 4) (ka : ly_hv cst h 6154 0 = some (b : Int)) (b1 : (b : Int) ≤ 1200)
    (k : ∀ (h' : am_H) (w : Int32), w.toInt = 0 → ly_hy m_tt ly_TH h' → ly_fr cst [6144, 6145] h h' → ly_hv cst h' 6144 0 = some y.toInt → ly_hv cst h' 6145 0 = some (pa pl t n b) → Φ (some (.int w), h', 0, 0)) : hp_F cst strs Φ (D + 1) M 98 l [.int y, .ref 40] h := by
  obtain ⟨r, hrun, w, r1, r2, r3, rhy, rfr, e0, k2, k3⟩ := fl_run (xk := y) c1 (by omega) hy t1 n0 n1 X k0 k1 ka b1
  refine hp_call (mi := 82) (pc := 98) (tg := 83) (na := 2) (c := 24) (ci := 4) (st0 := [.int y, .ref 40]) (st := []) (av := [.int y]) hM (by decide +kernel) hy rfl rfl rfl (by decide) hrun r2 r3 ?_
  rw [r1]
  exact fr82_98 c hM (by omega) rhy w e0 (fun h5 v hv u1 u2 u3 => k h5 v hv u1 (ly_fr_tr rfr (hp_sub2 rfl u2)) (u2 _ _ _ rfl k2) (u2 _ _ _ rfl k3))
theorem fz82_116 {cst : am_K} {strs : List Nat} {Φ : am_Q → Prop} {D : Nat} {M : am_M} {h : am_H} {l : am_L} (c1 : hp_C cst strs D) (c : hp_C cst strs (D + 1)) (hM : m_P[82]? = some M) (hD : 3 ≤ D) (hy : ly_hy m_tt ly_TH h) {kd pl vl : Int → Int} {t : Nat} {n : Int} (t1 : (t : Int) ≤ 1200) (n0 : 0 ≤ n) (n1 : n ≤ 1200) (X : ct cst h kd pl vl t n) {y : Int32} {b : Nat} (k0 : 1 ≤ y.toInt) (k1 : y.toInt ≤ 4) (ka : ly_hv cst h 6154 0 = some (b : Int)) (b1 : (b : Int) ≤ 1200)
    (k : ∀ (h' : am_H) (w : Int32), w.toInt = 0 → ly_hy m_tt ly_TH h' → ly_fr cst [6144, 6145] h h' → ly_hv cst h' 6144 0 = some y.toInt → ly_hv cst h' 6145 0 = some (pa pl t n b) → Φ (some (.int w), h', 0, 0)) : hp_F cst strs Φ (D + 1) M 116 l [.int y, .ref 40] h := by
  obtain ⟨r, hrun, w, r1, r2, r3, rhy, rfr, e0, k2, k3⟩ := fl_run (xk := y) c1 (by omega) hy t1 n0 n1 X k0 k1 ka b1
  refine hp_call (mi := 82) (pc := 116) (tg := 83) (na := 2) (c := 24) (ci := 4) (st0 := [.int y, .ref 40]) (st := []) (av := [.int y]) hM (by decide +kernel) hy rfl rfl rfl (by decide) hrun r2 r3 ?_
  rw [r1]
  exact fr82_116 c hM (by omega) rhy w e0 (fun h5 v hv u1 u2 u3 => k h5 v hv u1 (ly_fr_tr rfr (hp_sub2 rfl u2)) (u2 _ _ _ rfl k2) (u2 _ _ _ rfl k3))
theorem lz82_127 {cst : am_K} {strs : List Nat} {Φ : am_Q → Prop} {D : Nat} {M : am_M} {h : am_H} {l : am_L} (c1 : hp_C cst strs D) (c : hp_C cst strs (D + 1)) (hM : m_P[82]? = some M) (hD : 3 ≤ D) (hy : ly_hy m_tt ly_TH h) {kd pl vl : Int → Int} {t : Nat} {n : Int} (t1 : (t : Int) ≤ 1200) (kb : kB kd t) (vb : vB kd vl t) (X : ct cst h kd pl vl t n) {y : Int32} {b : Nat} (e : y.toInt = (b : Int)) (b1 : (b : Int) ≤ 1200)
    (k : ∀ (h' : am_H), ly_hy m_tt ly_TH h' → ly_fr cst [6154, 6155, 6156, 6157] h h' → cs cst h' kd vl t b → hp_F cst strs Φ (D + 1) M 130 l [] h') : hp_F cst strs Φ (D + 1) M 127 l [.int y, .ref 40] h := by
  obtain ⟨r, hrun, r1, r2, r3, rhy, rfr, rC⟩ := lk_run (xb := y) c1 (by omega) hy t1 kb vb X e b1
  refine hp_call (mi := 82) (pc := 127) (tg := 78) (na := 2) (c := 24) (ci := 4) (st0 := [.int y, .ref 40]) (st := []) (av := [.int y]) hM (by decide +kernel) hy rfl rfl rfl (by decide) hrun r2 r3 ?_
  rw [r1]
  exact k _ rhy rfr rC
theorem cz88_130 {cst : am_K} {strs : List Nat} {Φ : am_Q → Prop} {D : Nat} {M : am_M} {h : am_H} {l : am_L} (c1 : hp_C cst strs D) (c : hp_C cst strs (D + 1)) (hM : m_P[88]? = some M) (hD : 1 ≤ D) (hy : ly_hy m_tt ly_TH h) {i0 : List Int} {c0 : List cl} {C : List cl} {L : List Int} {A : Int} (X : dr cst h i0 c0 C) (I : it cst h i0 (cit C ++ L)) (rm : (c0.length : Int) + (C.length : Int) ≤ 1239) (ri : (i0.length : Int) + ((cit C ++ L).length : Int) ≤ 10240) (a0 : 0 ≤ A) (a1 : A ≤ 30) (kA : ly_hv cst h 3584 0 = some A) {yn yk : Int32} {yd : Int64}
    (k : ∀ (h' : am_H), ly_hy m_tt ly_TH h' → ly_fr cst [3588, 4608, 4864, 5120, 5376, 5632, 60010, 60011, 60012] h h' → dr cst h' i0 c0 (C ++ [(yk.toInt, yd.toInt, yn.toInt, L)]) → hp_F cst strs Φ (D + 1) M 133 l [] h') : hp_F cst strs Φ (D + 1) M 130 l [.int yn, .long yd, .int yk, .ref 30] h := by
  obtain ⟨r, hrun, r1, r2, r3, rhy, rfr, rD⟩ := dc_run (xk := yk) (xd := yd) (xn := yn) c1 hD hy X I rm ri a0 a1 kA
  refine hp_call (mi := 88) (pc := 130) (tg := 102) (na := 4) (c := 14) (ci := 3) (st0 := [.int yn, .long yd, .int yk, .ref 30]) (st := []) (av := [.int yk, .long yd, .int yn]) hM (by decide +kernel) hy rfl rfl rfl (by decide) hrun r2 r3 ?_
  rw [r1]
  exact k _ rhy rfr rD
/-- readDeedName of the class -/
theorem dn_run {cst : am_K} {strs : List Nat} {D : Nat} {h : am_H} (c2 : hp_C cst strs D) (c1 : hp_C cst strs (D + 1)) (c : hp_C cst strs (D + 1 + 1)) (hD : 3 ≤ D) (hy : ly_hy m_tt ly_TH h) {kd pl vl : Int → Int} {t : Nat} {n : Int} (t1 : (t : Int) ≤ 1200) (n0 : 0 ≤ n) (n1 : n ≤ 1200) (kb : kB kd t) (vb : vB kd vl t) (X : ct cst h kd pl vl t n) {i0 : List Int} {c0 : List cl} {C : List cl} {A : Int} (rc : (c0.length : Int) + (C.length : Int) ≤ 1240) (A0 : 0 ≤ A) (A1 : A ≤ 30) (Dr : dr cst h i0 c0 C) (kA : ly_hv cst h 3584 0 = some A) (kF : ly_hv cst h 4352 A = some (c0.length : Int)) (Io : fn_N cst h 5888 0 i0) {a : Nat} (a1 : a ≤ t) (Cc : cs cst h kd vl t a) {q : Int} (q0 : 0 ≤ q) (q6 : q ≤ 6) (kq : ly_hv cst h 6159 0 = some q) :
    ∃ r, am_Run cst m_cl m_tt m_P strs sx_bi (D + 1 + 1 + 1) 87 [.ref 40] h r ∧ (pR cst h [6154, 6155, 6156, 6157, 6160] [6154, 6155, 6156, 6157, 6160] i0 pl t n (if fk kd t a ≠ 1 then .inl (1, a) else if tl q (vl (a : Int)) C = true then .inl (3, a) else .inr (a + 1) : (Int × Nat) ⊕ Nat) (fun (x : Nat) h' => cs cst h' kd vl t x ∧ ly_hv cst h' 6160 0 = some (vl (a : Int)))) r := by
  obtain ⟨M, hM, hl⟩ := hp_M (mi := 87) (k := 1) (by decide +kernel)
  have bb := fk_b kb a
  obtain ⟨K1, K2, K3, K4⟩ := id Cc
  have start : hp_F cst strs (pR cst h [6154, 6155, 6156, 6157, 6160] [6154, 6155, 6156, 6157, 6160] i0 pl t n (if fk kd t a ≠ 1 then .inl (1, a) else if tl q (vl (a : Int)) C = true then .inl (3, a) else .inr (a + 1) : (Int × Nat) ⊕ Nat) (fun (x : Nat) h' => cs cst h' kd vl t x ∧ ly_hv cst h' 6160 0 = some (vl (a : Int)))) (D + 1 + 1) M 0 (lv_args 0 [.ref 40]) [] h := by
    by_cases q1 : fk kd t a = 1
    rotate_left
    · have ew : wv kd vl t a = 0 := if_neg q1
      rw [ew] at K3
      have fz : ∀ (l2 : am_L) (h2 : am_H) (y0 : Int32), y0.toInt = 1 → ly_hy m_tt ly_TH h2 → ly_fr cst [6160] h h2 → hp_F cst strs (pR cst h [6154, 6155, 6156, 6157, 6160] [6154, 6155, 6156, 6157, 6160] i0 pl t n (if fk kd t a ≠ 1 then .inl (1, a) else if tl q (vl (a : Int)) C = true then .inl (3, a) else .inr (a + 1) : (Int × Nat) ⊕ Nat) (fun (x : Nat) h' => cs cst h' kd vl t x ∧ ly_hv cst h' 6160 0 = some (vl (a : Int)))) (D + 1 + 1) M 18 l2 [.int y0, .ref 40] h2 := fun l2 h2 y0 e0' u1 u2 => fz87_18 c1 c hM (by omega) u1 t1 n0 n1 (ct_mv X u2 rfl) (by omega) (by omega) (u2 _ _ _ rfl K1) (by omega) (fun h3 v hv v1 v2 z1 z2 => pR_f (by rw [if_pos q1]) hv v1 (ly_fr_tr (hp_sub2 rfl u2) (hp_sub2 rfl v2)) (fn_mv (fn_mv Io u2 rfl) v2 rfl) (by rw [← e0']; exact z1) z2)
      by_cases k9 : fk kd t a ≤ 0
      · exact dnA0 c hM (by omega) hy 0 (fk kd t a) (by decide) (by decide) bb.1 k9 K3 K2 rfl (fun l2 h2 y0 e0' u1 u2 u3 m0 => fz l2 h2 y0 e0' u1 u2)
      · exact dnA1 c hM (by omega) hy 0 (fk kd t a) (by decide) (by decide) (by omega) (by omega) K3 K2 rfl (fun l2 h2 y0 e0' u1 u2 u3 m0 => fz l2 h2 y0 e0' u1 u2)
    have lt : a < t := fk_in (kd := kd) (by rw [q1]; decide)
    have vv := (vb a lt).1 (by rw [← fk_lt (kd := kd) lt]; exact q1)
    have ew : wv kd vl t a = vl (a : Int) := if_pos q1
    rw [ew] at K3
    rw [q1] at K2
    refine dnB c hM (by omega) hy (vl (a : Int)) q (by omega) (by omega) q0 q6 K3 K2 kq rfl (fun l2 h2 y0 y1 e0' e1' u1 u2 u3 k2 m0 => ?_)
    refine hz87_34 c2 c1 hM (by omega) u1 (dr_mv Dr u2 rfl) rc A0 A1 (u2 _ _ _ rfl kA) (u2 _ _ _ rfl kF) (by omega) (by omega) (fun ey h3 w hw v1 v2 => ?_) (fun en' h3 w hw v1 v2 => ?_)
    · rw [e0', e1'] at ey
      exact dnC c hM (by omega) v1 w hw m0 (fun l4 h4 y2 e2 w1 w2 w3 g0 => fz87_42 c1 c hM (by omega) w1 t1 n0 n1 (ct_mv (ct_mv (ct_mv X u2 rfl) v2 rfl) w2 rfl) (by omega) (by omega) (w2 _ _ _ rfl (v2 _ _ _ rfl (u2 _ _ _ rfl K1))) (by omega) (fun h5 v hv p1 p2 z1 z2 => pR_f (by rw [if_neg (fun z => z q1), if_pos ey]) hv p1 (ly_fr_tr (hp_sub2 rfl u2) (ly_fr_tr (hp_sub2 rfl v2) (ly_fr_tr (hp_sub2 rfl w2) (hp_sub2 rfl p2)))) (fn_mv (fn_mv (fn_mv (fn_mv Io u2 rfl) v2 rfl) w2 rfl) p2 rfl) (by rw [← e2]; exact z1) z2))
    · rw [e0', e1'] at en'
      refine dnD c hM (by omega) v1 (a : Int) w hw (by omega) (by omega) (v2 _ _ _ rfl (u2 _ _ _ rfl K1)) m0 (fun l4 h4 y2 e2 w1 w2 w3 g0 => ?_)
      have f4 : ly_fr cst [6154, 6155, 6156, 6157, 6160] h h4 := ly_fr_tr (hp_sub2 rfl u2) (ly_fr_tr (hp_sub2 rfl v2) (hp_sub2 rfl w2))
      refine lz87_53 c1 c hM (by omega) w1 t1 kb vb (ct_mv X f4 rfl) (b := a + 1) (by omega) (by omega) (fun h5 p1 p2 C5 => ?_)
      exact dnE c hM (by omega) p1 g0 (fun h6 v hv s1 s2 s3 => pR_s (x := a + 1) (by rw [if_neg (fun z => z q1), if_neg (by rw [en']; decide)]) hv s1 (ly_fr_tr f4 (ly_fr_tr (hp_sub2 rfl p2) (hp_sub2 rfl s2))) ⟨cs_mv C5 s2 rfl, s2 _ _ _ rfl (p2 _ _ _ rfl (w2 _ _ _ rfl (v2 _ _ _ rfl k2)))⟩)
  obtain ⟨n', r, hgo, q, r1, r2, r3, r4⟩ := start
  simp only [Nat.zero_add] at r2 r3
  exact ⟨r, Or.inr ⟨M, n', hM, hl, hgo⟩, q, r1, r2, r3, r4⟩
/-- a clause's first word, and the deed's -/
def hd (kd vl : Int → Int) (t a : Nat) (C : List cl) : (Int × Nat) ⊕ (Nat × Int) := if ak kd vl t a < 0 ∨ 16 < ak kd vl t a then .inl (1, a) else if 7 ≤ kf (ak kd vl t a) ∧ kf (ak kd vl t a) ≤ 13 ∧ tl (kf (ak kd vl t a)) 0 C = true then .inl (3, a) else if C.length = 40 then .inl (4, a) else if kf (ak kd vl t a) < 7 ∧ fk kd t (a + 1) ≠ 1 then .inl (1, a + 1) else if kf (ak kd vl t a) < 7 ∧ tl (kf (ak kd vl t a)) (vl ((a + 1 : Nat) : Int)) C = true then .inl (3, a + 1) else .inr (if kf (ak kd vl t a) < 7 then a + 2 else a + 1, if kf (ak kd vl t a) < 7 then vl ((a + 1 : Nat) : Int) else 0)
theorem tx_hd {kd vl : Int → Int} {t F a : Nat} {A : Int} {C : List cl} (h : fk kd t a ≠ 0) : tx kd vl t A (F + 1) a C = match hd kd vl t a C with
    | .inl f => .inl f
    | .inr (b, d) => match bo kd vl t A (ak kd vl t a) d b with
      | .inl f => .inl f
      | .inr (e, d, n, L) => if fk kd t e ≠ 59 then .inl (1, e) else tx kd vl t A F (e + 1) (C ++ [(kf (ak kd vl t a), d, n, L)]) := by
  rw [tx, if_neg h, hd]
  by_cases q1 : ak kd vl t a < 0 ∨ 16 < ak kd vl t a
  · rw [if_pos q1, if_pos q1]
  rw [if_neg q1, if_neg q1]
  by_cases q2 : 7 ≤ kf (ak kd vl t a) ∧ kf (ak kd vl t a) ≤ 13 ∧ tl (kf (ak kd vl t a)) 0 C = true
  · rw [if_pos q2, if_pos q2]
  rw [if_neg q2, if_neg q2]
  by_cases q3 : C.length = 40
  · rw [if_pos q3, if_pos q3]
  rw [if_neg q3, if_neg q3]
  by_cases q4 : kf (ak kd vl t a) < 7 ∧ fk kd t (a + 1) ≠ 1
  · rw [if_pos q4, if_pos q4]
  rw [if_neg q4, if_neg q4]
  by_cases q5 : kf (ak kd vl t a) < 7 ∧ tl (kf (ak kd vl t a)) (vl ((a + 1 : Nat) : Int)) C = true
  · rw [if_pos q5, if_pos q5]
  rw [if_neg q5, if_neg q5]
  rfl
/-- deeds have their word -/
def wC (C : List cl) : Prop := ∀ x ∈ C, x.1 < 7 → 1 ≤ x.2.1
theorem tl_0 {C : List cl} {k : Int} (h : wC C) (k7 : k < 7) : tl k 0 C = false := by
  unfold tl
  rw [List.any_eq_false]
  intro x hx
  simp only [Bool.and_eq_true, beq_iff_eq]
  rintro ⟨e1, e2⟩
  have := h x hx (by omega)
  omega
theorem kv_0 : kw 136356 = 0 := by decide
theorem kv_1 : kw 24627347 = 1 := by decide
theorem kv_2 : kw 4359816 = 2 := by decide
theorem kv_3 : kw 206277 = 3 := by decide
theorem kv_4 : kw 113428729 = 4 := by decide
theorem kv_5 : kw 365744 = 6 := by decide
theorem kv_6 : kw 431556 = 7 := by decide
theorem kv_7 : kw 349785 = 8 := by decide
theorem kv_8 : kw 394692 = 9 := by decide
theorem kv_9 : kw 11566 = 10 := by decide
theorem kv_10 : kw 3574901946597 = 11 := by decide
theorem kv_11 : kw 9309407396 = 12 := by decide
theorem kv_12 : kw 75148 = 13 := by decide
theorem kv_13 : kw 736548 = 14 := by decide
theorem kv_14 : kw 659105125 = 16 := by decide
theorem kv_15 : kw 609441381 = 5 := by decide
theorem kv_16 : kw 20579780 = 15 := by decide
set_option maxHeartbeats 8000000 in
/-- readHead of the class -/
theorem hd_run {cst : am_K} {strs : List Nat} {D : Nat} {h : am_H} (c3 : hp_C cst strs D) (c2 : hp_C cst strs (D + 1)) (c1 : hp_C cst strs (D + 1 + 1)) (c : hp_C cst strs (D + 1 + 1 + 1)) (hD : 3 ≤ D) (hy : ly_hy m_tt ly_TH h) {kd pl vl : Int → Int} {t : Nat} {n : Int} (t1 : (t : Int) ≤ 1200) (n0 : 0 ≤ n) (n1 : n ≤ 1200) (kb : kB kd t) (vb : vB kd vl t) (X : ct cst h kd pl vl t n) {i0 : List Int} {c0 : List cl} {C : List cl} {A : Int} (rc : (c0.length : Int) + (C.length : Int) ≤ 1240) (A0 : 0 ≤ A) (A1 : A ≤ 30) (Dr : dr cst h i0 c0 C) (kA : ly_hv cst h 3584 0 = some A) (kF : ly_hv cst h 4352 A = some (c0.length : Int)) (Io : fn_N cst h 5888 0 i0) (c40 : C.length ≤ 40) (wf' : wC C) {a : Nat} (a1 : a < t) (Cc : cs cst h kd vl t a) :
    ∃ r, am_Run cst m_cl m_tt m_P strs sx_bi (D + 1 + 1 + 1 + 1) 82 [.ref 40] h r ∧ (pR cst h [6154, 6155, 6156, 6157, 6158, 6159, 6160] [6154, 6155, 6156, 6157, 6158, 6159, 6160] i0 pl t n (hd kd vl t a C) (fun (x : Nat × Int) h' => cs cst h' kd vl t x.1 ∧ ly_hv cst h' 6158 0 = some (cf (ak kd vl t a)) ∧ ly_hv cst h' 6159 0 = some (kf (ak kd vl t a)) ∧ ly_hv cst h' 6160 0 = some x.2)) r := by
  obtain ⟨M, hM, hl⟩ := hp_M (mi := 82) (k := 1) (by decide +kernel)
  have bb := fk_b kb a
  obtain ⟨K1, K2, K3, K4⟩ := id Cc
  obtain ⟨-, -, -, -, x5⟩ := id X
  have r0 : ly_hv cst h 6656 0 = some 136356 := x5 0 (by decide)
  have r1 : ly_hv cst h 6656 1 = some 24627347 := x5 1 (by decide)
  have r2 : ly_hv cst h 6656 2 = some 4359816 := x5 2 (by decide)
  have r3 : ly_hv cst h 6656 3 = some 206277 := x5 3 (by decide)
  have r4 : ly_hv cst h 6656 4 = some 113428729 := x5 4 (by decide)
  have r5 : ly_hv cst h 6656 5 = some 365744 := x5 5 (by decide)
  have r6 : ly_hv cst h 6656 6 = some 431556 := x5 6 (by decide)
  have r7 : ly_hv cst h 6656 7 = some 349785 := x5 7 (by decide)
  have r8 : ly_hv cst h 6656 8 = some 394692 := x5 8 (by decide)
  have r9 : ly_hv cst h 6656 9 = some 11566 := x5 9 (by decide)
  have r10 : ly_hv cst h 6656 10 = some 3574901946597 := x5 10 (by decide)
  have r11 : ly_hv cst h 6656 11 = some 9309407396 := x5 11 (by decide)
  have r12 : ly_hv cst h 6656 12 = some 75148 := x5 12 (by decide)
  have r13 : ly_hv cst h 6656 13 = some 736548 := x5 13 (by decide)
  have r14 : ly_hv cst h 6656 14 = some 659105125 := x5 14 (by decide)
  have r15 : ly_hv cst h 6656 15 = some 609441381 := x5 15 (by decide)
  have r16 : ly_hv cst h 6656 16 = some 20579780 := x5 16 (by decide)
  have ab := ak_b kd vl t a
  have kfb : ¬ (ak kd vl t a < 0 ∨ 16 < ak kd vl t a) → 0 ≤ kf (ak kd vl t a) ∧ kf (ak kd vl t a) ≤ 14 := fun z => by
    unfold kf
    repeat' split
    all_goals omega
  -- behind the look at the next token
  have go127 : ∀ (l2 : am_L) (h2 : am_H) (y0 : Int32), ¬ (ak kd vl t a < 0 ∨ 16 < ak kd vl t a) → ¬ (7 ≤ kf (ak kd vl t a) ∧ kf (ak kd vl t a) ≤ 13 ∧ tl (kf (ak kd vl t a)) 0 C = true) → C.length ≠ 40 → y0.toInt = (a : Int) + 1 → ly_hy m_tt ly_TH h2 → ly_fr cst [6154, 6155, 6156, 6157, 6158, 6159, 6160] h h2 → ly_hv cst h2 6158 0 = some (cf (ak kd vl t a)) → ly_hv cst h2 6159 0 = some (kf (ak kd vl t a)) → ly_hv cst h2 6160 0 = some 0 → hp_a l2 0 40 → hp_F cst strs (pR cst h [6154, 6155, 6156, 6157, 6158, 6159, 6160] [6154, 6155, 6156, 6157, 6158, 6159, 6160] i0 pl t n (hd kd vl t a C) (fun (x : Nat × Int) h' => cs cst h' kd vl t x.1 ∧ ly_hv cst h' 6158 0 = some (cf (ak kd vl t a)) ∧ ly_hv cst h' 6159 0 = some (kf (ak kd vl t a)) ∧ ly_hv cst h' 6160 0 = some x.2)) (D + 1 + 1 + 1) M 127 l2 [.int y0, .ref 40] h2 := by
    intro l2 h2 y0 z1 z2 z3 e0' u1 u2 k1 k2 k3 m0
    have kb2 := kfb z1
    refine lz82_127 c1 c hM (by omega) u1 t1 kb vb (ct_mv X u2 rfl) (b := a + 1) (by omega) (by omega) (fun h3 v1 v2 C3 => ?_)
    have f3 : ly_fr cst [6154, 6155, 6156, 6157, 6158, 6159, 6160] h h3 := ly_fr_tr u2 (hp_sub2 rfl v2)
    by_cases k7 : kf (ak kd vl t a) < 7
    rotate_left
    · have er : hd kd vl t a C = .inr (a + 1, 0) := by
        rw [hd, if_neg z1, if_neg z2, if_neg z3, if_neg (fun z => k7 z.1), if_neg (fun z => k7 z.1), if_neg k7, if_neg k7]
      exact hdD c hM (by omega) v1 (kf (ak kd vl t a)) (by omega) kb2.2 (v2 _ _ _ rfl k2) m0 (fun h4 v hv w1 w2 w3 => pR_s (x := (a + 1, 0)) er hv w1 (ly_fr_tr f3 (hp_sub2 rfl w2)) ⟨cs_mv C3 w2 rfl, w2 _ _ _ rfl (v2 _ _ _ rfl k1), w2 _ _ _ rfl (v2 _ _ _ rfl k2), w2 _ _ _ rfl (v2 _ _ _ rfl k3)⟩)
    refine hdE c hM (by omega) v1 (kf (ak kd vl t a)) kb2.1 (by omega) (v2 _ _ _ rfl k2) m0 (fun l4 h4 w1 w2 w3 g0 => ?_)
    have f4 : ly_fr cst [6154, 6155, 6156, 6157, 6158, 6159, 6160] h h4 := ly_fr_tr f3 (hp_sub2 rfl w2)
    obtain ⟨r, hrun, v, s1, s2, s3, shy, sF, sS⟩ := dn_run (a := a + 1) (q := kf (ak kd vl t a)) c3 c2 c1 hD w1 t1 n0 n1 kb vb (ct_mv X f4 rfl) rc A0 A1 (dr_mv Dr f4 rfl) (f4 _ _ _ rfl kA) (f4 _ _ _ rfl kF) (fn_mv Io f4 rfl) (by omega) (cs_mv C3 w2 rfl) kb2.1 (by omega) (w2 _ _ _ rfl (v2 _ _ _ rfl k2))
    refine hp_call (mi := 82) (pc := 140) (tg := 87) (na := 1) (c := 24) (ci := 4) (st0 := [.ref 40]) (st := []) (av := []) hM (by decide +kernel) w1 rfl rfl rfl (by decide) hrun s2 s3 ?_
    rw [s1]
    by_cases q1 : fk kd t (a + 1) = 1
    rotate_left
    · obtain ⟨y0', sfr, kp, y1', y2'⟩ := sF 1 (a + 1) (by rw [if_pos q1])
      exact hdF c hM (by omega) shy v y0' g0 (fun h5 v hv p1 p2 p3 => pR_f (by rw [hd, if_neg z1, if_neg z2, if_neg z3, if_pos ⟨k7, q1⟩]) hv p1 (ly_fr_tr (hp_sub2 rfl f4) (ly_fr_tr (hp_sub2 rfl sfr) (hp_sub2 rfl p2))) (fn_mv kp p2 rfl) (p2 _ _ _ rfl y1') (p2 _ _ _ rfl y2'))
    by_cases qt : tl (kf (ak kd vl t a)) (vl ((a + 1 : Nat) : Int)) C = true
    · obtain ⟨y0', sfr, kp, y1', y2'⟩ := sF 3 (a + 1) (by rw [if_neg (fun z => z q1), if_pos qt])
      exact hdF c hM (by omega) shy v y0' g0 (fun h5 v hv p1 p2 p3 => pR_f (by rw [hd, if_neg z1, if_neg z2, if_neg z3, if_neg (fun z => z.2 q1), if_pos ⟨k7, qt⟩]) hv p1 (ly_fr_tr (hp_sub2 rfl f4) (ly_fr_tr (hp_sub2 rfl sfr) (hp_sub2 rfl p2))) (fn_mv kp p2 rfl) (p2 _ _ _ rfl y1') (p2 _ _ _ rfl y2'))
    · obtain ⟨y0', sfr, y1', y2'⟩ := sS (a + 1 + 1) (by rw [if_neg (fun z => z q1), if_neg qt])
      have er : hd kd vl t a C = .inr (a + 2, vl ((a + 1 : Nat) : Int)) := by
        rw [hd, if_neg z1, if_neg z2, if_neg z3, if_neg (fun z => z.2 q1), if_neg (fun z => qt z.2), if_pos k7, if_pos k7]
      exact hdG c hM (by omega) shy v y0' g0 (fun h5 v hv p1 p2 p3 => pR_s (x := (a + 2, vl ((a + 1 : Nat) : Int))) er hv p1 (ly_fr_tr f4 (ly_fr_tr (hp_sub2 rfl sfr) (hp_sub2 rfl p2))) ⟨cs_mv y1' p2 rfl, p2 _ _ _ rfl (sfr _ _ _ rfl (w2 _ _ _ rfl (v2 _ _ _ rfl k1))), p2 _ _ _ rfl (sfr _ _ _ rfl (w2 _ _ _ rfl (v2 _ _ _ rfl k2))), p2 _ _ _ rfl y2'⟩)
  have go116 : ∀ (l2 : am_L) (h2 : am_H) (y0 : Int32), ¬ (ak kd vl t a < 0 ∨ 16 < ak kd vl t a) → ¬ (7 ≤ kf (ak kd vl t a) ∧ kf (ak kd vl t a) ≤ 13 ∧ tl (kf (ak kd vl t a)) 0 C = true) → C.length = 40 → y0.toInt = 4 → ly_hy m_tt ly_TH h2 → ly_fr cst [6158, 6159, 6160] h h2 → hp_F cst strs (pR cst h [6154, 6155, 6156, 6157, 6158, 6159, 6160] [6154, 6155, 6156, 6157, 6158, 6159, 6160] i0 pl t n (hd kd vl t a C) (fun (x : Nat × Int) h' => cs cst h' kd vl t x.1 ∧ ly_hv cst h' 6158 0 = some (cf (ak kd vl t a)) ∧ ly_hv cst h' 6159 0 = some (kf (ak kd vl t a)) ∧ ly_hv cst h' 6160 0 = some x.2)) (D + 1 + 1 + 1) M 116 l2 [.int y0, .ref 40] h2 := fun l2 h2 y0 z1 z2 z3 e0' u1 u2 => fz82_116 c1 c hM (by omega) u1 t1 n0 n1 (ct_mv X u2 rfl) (by omega) (by omega) (u2 _ _ _ rfl K1) (by omega) (fun h3 v hv v1 v2 y1' y2' => pR_f (by rw [hd, if_neg z1, if_neg z2, if_pos z3]) hv v1 (ly_fr_tr (hp_sub2 rfl u2) (hp_sub2 rfl v2)) (fn_mv (fn_mv Io u2 rfl) v2 rfl) (by rw [← e0']; exact y1') y2')
  -- the draft is looked through for its KIND
  have go90 : ∀ (l2 : am_L) (h2 : am_H) (y0 : Int64) (y1 : Int32), ¬ (ak kd vl t a < 0 ∨ 16 < ak kd vl t a) → kf (ak kd vl t a) ≤ 13 → y0.toInt = 0 → y1.toInt = kf (ak kd vl t a) → ly_hy m_tt ly_TH h2 → ly_fr cst [6158, 6159, 6160] h h2 → ly_hv cst h2 6158 0 = some (cf (ak kd vl t a)) → ly_hv cst h2 6159 0 = some (kf (ak kd vl t a)) → ly_hv cst h2 6160 0 = some 0 → hp_a l2 0 40 → hp_F cst strs (pR cst h [6154, 6155, 6156, 6157, 6158, 6159, 6160] [6154, 6155, 6156, 6157, 6158, 6159, 6160] i0 pl t n (hd kd vl t a C) (fun (x : Nat × Int) h' => cs cst h' kd vl t x.1 ∧ ly_hv cst h' 6158 0 = some (cf (ak kd vl t a)) ∧ ly_hv cst h' 6159 0 = some (kf (ak kd vl t a)) ∧ ly_hv cst h' 6160 0 = some x.2)) (D + 1 + 1 + 1) M 90 l2 [.long y0, .int y1, .ref 30] h2 := by
    intro l2 h2 y0 y1 z1 k13 e0' e1' u1 u2 k1 k2 k3 m0
    have kb2 := kfb z1
    refine hz82_90 c2 c1 hM (by omega) u1 (dr_mv Dr u2 rfl) rc A0 A1 (u2 _ _ _ rfl kA) (u2 _ _ _ rfl kF) (by omega) (by omega) (fun ey h3 w hw v1 v2 => ?_) (fun en' h3 w hw v1 v2 => ?_)
    · rw [e0', e1'] at ey
      have k7 : 7 ≤ kf (ak kd vl t a) := by
        by_cases z : kf (ak kd vl t a) < 7
        · rw [tl_0 wf' z] at ey
          cases ey
        · omega
      exact hdC c hM (by omega) v1 w hw m0 (fun l4 h4 y2 e2 w1 w2 w3 g0 => fz82_98 c1 c hM (by omega) w1 t1 n0 n1 (ct_mv (ct_mv (ct_mv X u2 rfl) v2 rfl) w2 rfl) (by omega) (by omega) (w2 _ _ _ rfl (v2 _ _ _ rfl (u2 _ _ _ rfl K1))) (by omega) (fun h5 v hv p1 p2 y1' y2' => pR_f (by rw [hd, if_neg z1, if_pos ⟨k7, k13, ey⟩]) hv p1 (ly_fr_tr (hp_sub2 rfl u2) (ly_fr_tr (hp_sub2 rfl v2) (ly_fr_tr (hp_sub2 rfl w2) (hp_sub2 rfl p2)))) (fn_mv (fn_mv (fn_mv (fn_mv Io u2 rfl) v2 rfl) w2 rfl) p2 rfl) (by rw [← e2]; exact y1') y2'))
    · rw [e0', e1'] at en'
      have z2 : ¬ (7 ≤ kf (ak kd vl t a) ∧ kf (ak kd vl t a) ≤ 13 ∧ tl (kf (ak kd vl t a)) 0 C = true) := fun z => by
        have := z.2.2
        rw [en'] at this
        cases this
      have f3 : ly_fr cst [6158, 6159, 6160] h h3 := ly_fr_tr u2 (hp_sub2 rfl v2)
      by_cases z3 : C.length = 40
      · exact hdB1 c hM (by omega) v1 (a : Int) A (c0.length : Int) ((c0.length : Int) + (C.length : Int)) w hw (by omega) (by omega) A0 A1 (by omega) (by omega) (by omega) (by omega) (by omega) (f3 _ _ _ rfl K1) (f3 _ _ _ rfl kA) (f3 _ _ _ rfl kF) (f3 _ _ _ rfl Dr.1) m0 (fun l4 h4 y2 e2 w1 w2 w3 g0 => go116 l4 h4 y2 z1 z2 z3 e2 w1 (ly_fr_tr f3 (hp_sub2 rfl w2)))
      · exact hdB0 c hM (by omega) v1 (a : Int) A (c0.length : Int) ((c0.length : Int) + (C.length : Int)) w hw (by omega) (by omega) A0 A1 (by omega) (by omega) (by omega) (by omega) (by omega) (by omega) (f3 _ _ _ rfl K1) (f3 _ _ _ rfl kA) (f3 _ _ _ rfl kF) (f3 _ _ _ rfl Dr.1) m0 (fun l4 h4 y2 e2 w1 w2 w3 g0 => go127 l4 h4 y2 z1 z2 z3 e2 w1 (ly_fr_tr (hp_sub2 rfl f3) (hp_sub2 rfl w2)) (w2 _ _ _ rfl (v2 _ _ _ rfl k1)) (w2 _ _ _ rfl (v2 _ _ _ rfl k2)) (w2 _ _ _ rfl (v2 _ _ _ rfl k3)) g0)
  have word : ∀ v : Int, 1 ≤ v → wv kd vl t a = v → fk kd t a = 1 ∧ ak kd vl t a = kw v := fun v v1 e => by
    unfold wv at e
    split at e
    · rename_i f1
      refine ⟨f1, ?_⟩
      unfold ak
      rw [if_pos f1, e]
    · omega
  have start : hp_F cst strs (pR cst h [6154, 6155, 6156, 6157, 6158, 6159, 6160] [6154, 6155, 6156, 6157, 6158, 6159, 6160] i0 pl t n (hd kd vl t a C) (fun (x : Nat × Int) h' => cs cst h' kd vl t x.1 ∧ ly_hv cst h' 6158 0 = some (cf (ak kd vl t a)) ∧ ly_hv cst h' 6159 0 = some (kf (ak kd vl t a)) ∧ ly_hv cst h' 6160 0 = some x.2)) (D + 1 + 1 + 1) M 0 (lv_args 0 [.ref 40]) [] h := by
    by_cases w0 : wv kd vl t a = 136356
    · obtain ⟨f1, e1⟩ := word 136356 (by decide) w0
      rw [kv_0] at e1
      have ec : cf (ak kd vl t a) = 0 := by rw [e1]; rfl
      have ek : kf (ak kd vl t a) = 0 := by rw [e1]; rfl
      rw [w0] at K3
      exact hdA0 c hM (by omega) hy K3 r0 r1 r2 r3 r4 r5 r6 r7 r8 r9 r10 r11 r12 r13 r14 r15 r16 rfl (fun l2 h2 y0 y1 e0' e1' u1 u2 u3 k1 k2 k3 m0 => go90 l2 h2 y0 y1 (by omega) (by omega) e0' (by omega) u1 (hp_sub2 rfl u2) (by rw [ec]; exact k1) (by rw [ek]; exact k2) k3 m0)
    by_cases w1 : wv kd vl t a = 24627347
    · obtain ⟨f1, e1⟩ := word 24627347 (by decide) w1
      rw [kv_1] at e1
      have ec : cf (ak kd vl t a) = 1 := by rw [e1]; rfl
      have ek : kf (ak kd vl t a) = 1 := by rw [e1]; rfl
      rw [w1] at K3
      exact hdA1 c hM (by omega) hy K3 r0 r1 r2 r3 r4 r5 r6 r7 r8 r9 r10 r11 r12 r13 r14 r15 r16 rfl (fun l2 h2 y0 y1 e0' e1' u1 u2 u3 k1 k2 k3 m0 => go90 l2 h2 y0 y1 (by omega) (by omega) e0' (by omega) u1 (hp_sub2 rfl u2) (by rw [ec]; exact k1) (by rw [ek]; exact k2) k3 m0)
    by_cases w2 : wv kd vl t a = 4359816
    · obtain ⟨f1, e1⟩ := word 4359816 (by decide) w2
      rw [kv_2] at e1
      have ec : cf (ak kd vl t a) = 2 := by rw [e1]; rfl
      have ek : kf (ak kd vl t a) = 2 := by rw [e1]; rfl
      rw [w2] at K3
      exact hdA2 c hM (by omega) hy K3 r0 r1 r2 r3 r4 r5 r6 r7 r8 r9 r10 r11 r12 r13 r14 r15 r16 rfl (fun l2 h2 y0 y1 e0' e1' u1 u2 u3 k1 k2 k3 m0 => go90 l2 h2 y0 y1 (by omega) (by omega) e0' (by omega) u1 (hp_sub2 rfl u2) (by rw [ec]; exact k1) (by rw [ek]; exact k2) k3 m0)
    by_cases w3 : wv kd vl t a = 206277
    · obtain ⟨f1, e1⟩ := word 206277 (by decide) w3
      rw [kv_3] at e1
      have ec : cf (ak kd vl t a) = 3 := by rw [e1]; rfl
      have ek : kf (ak kd vl t a) = 3 := by rw [e1]; rfl
      rw [w3] at K3
      exact hdA3 c hM (by omega) hy K3 r0 r1 r2 r3 r4 r5 r6 r7 r8 r9 r10 r11 r12 r13 r14 r15 r16 rfl (fun l2 h2 y0 y1 e0' e1' u1 u2 u3 k1 k2 k3 m0 => go90 l2 h2 y0 y1 (by omega) (by omega) e0' (by omega) u1 (hp_sub2 rfl u2) (by rw [ec]; exact k1) (by rw [ek]; exact k2) k3 m0)
    by_cases w4 : wv kd vl t a = 113428729
    · obtain ⟨f1, e1⟩ := word 113428729 (by decide) w4
      rw [kv_4] at e1
      have ec : cf (ak kd vl t a) = 4 := by rw [e1]; rfl
      have ek : kf (ak kd vl t a) = 4 := by rw [e1]; rfl
      rw [w4] at K3
      exact hdA4 c hM (by omega) hy K3 r0 r1 r2 r3 r4 r5 r6 r7 r8 r9 r10 r11 r12 r13 r14 r15 r16 rfl (fun l2 h2 y0 y1 e0' e1' u1 u2 u3 k1 k2 k3 m0 => go90 l2 h2 y0 y1 (by omega) (by omega) e0' (by omega) u1 (hp_sub2 rfl u2) (by rw [ec]; exact k1) (by rw [ek]; exact k2) k3 m0)
    by_cases w5 : wv kd vl t a = 365744
    · obtain ⟨f1, e1⟩ := word 365744 (by decide) w5
      rw [kv_5] at e1
      have ec : cf (ak kd vl t a) = 5 := by rw [e1]; rfl
      have ek : kf (ak kd vl t a) = 5 := by rw [e1]; rfl
      rw [w5] at K3
      exact hdA5 c hM (by omega) hy K3 r0 r1 r2 r3 r4 r5 r6 r7 r8 r9 r10 r11 r12 r13 r14 r15 r16 rfl (fun l2 h2 y0 y1 e0' e1' u1 u2 u3 k1 k2 k3 m0 => go90 l2 h2 y0 y1 (by omega) (by omega) e0' (by omega) u1 (hp_sub2 rfl u2) (by rw [ec]; exact k1) (by rw [ek]; exact k2) k3 m0)
    by_cases w6 : wv kd vl t a = 431556
    · obtain ⟨f1, e1⟩ := word 431556 (by decide) w6
      rw [kv_6] at e1
      have ec : cf (ak kd vl t a) = 6 := by rw [e1]; rfl
      have ek : kf (ak kd vl t a) = 6 := by rw [e1]; rfl
      rw [w6] at K3
      exact hdA6 c hM (by omega) hy K3 r0 r1 r2 r3 r4 r5 r6 r7 r8 r9 r10 r11 r12 r13 r14 r15 r16 rfl (fun l2 h2 y0 y1 e0' e1' u1 u2 u3 k1 k2 k3 m0 => go90 l2 h2 y0 y1 (by omega) (by omega) e0' (by omega) u1 (hp_sub2 rfl u2) (by rw [ec]; exact k1) (by rw [ek]; exact k2) k3 m0)
    by_cases w7 : wv kd vl t a = 349785
    · obtain ⟨f1, e1⟩ := word 349785 (by decide) w7
      rw [kv_7] at e1
      have ec : cf (ak kd vl t a) = 7 := by rw [e1]; rfl
      have ek : kf (ak kd vl t a) = 7 := by rw [e1]; rfl
      rw [w7] at K3
      exact hdA7 c hM (by omega) hy K3 r0 r1 r2 r3 r4 r5 r6 r7 r8 r9 r10 r11 r12 r13 r14 r15 r16 rfl (fun l2 h2 y0 y1 e0' e1' u1 u2 u3 k1 k2 k3 m0 => go90 l2 h2 y0 y1 (by omega) (by omega) e0' (by omega) u1 (hp_sub2 rfl u2) (by rw [ec]; exact k1) (by rw [ek]; exact k2) k3 m0)
    by_cases w8 : wv kd vl t a = 394692
    · obtain ⟨f1, e1⟩ := word 394692 (by decide) w8
      rw [kv_8] at e1
      have ec : cf (ak kd vl t a) = 8 := by rw [e1]; rfl
      have ek : kf (ak kd vl t a) = 8 := by rw [e1]; rfl
      rw [w8] at K3
      exact hdA8 c hM (by omega) hy K3 r0 r1 r2 r3 r4 r5 r6 r7 r8 r9 r10 r11 r12 r13 r14 r15 r16 rfl (fun l2 h2 y0 y1 e0' e1' u1 u2 u3 k1 k2 k3 m0 => go90 l2 h2 y0 y1 (by omega) (by omega) e0' (by omega) u1 (hp_sub2 rfl u2) (by rw [ec]; exact k1) (by rw [ek]; exact k2) k3 m0)
    by_cases w9 : wv kd vl t a = 11566
    · obtain ⟨f1, e1⟩ := word 11566 (by decide) w9
      rw [kv_9] at e1
      have ec : cf (ak kd vl t a) = 9 := by rw [e1]; rfl
      have ek : kf (ak kd vl t a) = 9 := by rw [e1]; rfl
      rw [w9] at K3
      exact hdA9 c hM (by omega) hy K3 r0 r1 r2 r3 r4 r5 r6 r7 r8 r9 r10 r11 r12 r13 r14 r15 r16 rfl (fun l2 h2 y0 y1 e0' e1' u1 u2 u3 k1 k2 k3 m0 => go90 l2 h2 y0 y1 (by omega) (by omega) e0' (by omega) u1 (hp_sub2 rfl u2) (by rw [ec]; exact k1) (by rw [ek]; exact k2) k3 m0)
    by_cases w10 : wv kd vl t a = 3574901946597
    · obtain ⟨f1, e1⟩ := word 3574901946597 (by decide) w10
      rw [kv_10] at e1
      have ec : cf (ak kd vl t a) = 10 := by rw [e1]; rfl
      have ek : kf (ak kd vl t a) = 10 := by rw [e1]; rfl
      rw [w10] at K3
      exact hdA10 c hM (by omega) hy K3 r0 r1 r2 r3 r4 r5 r6 r7 r8 r9 r10 r11 r12 r13 r14 r15 r16 rfl (fun l2 h2 y0 y1 e0' e1' u1 u2 u3 k1 k2 k3 m0 => go90 l2 h2 y0 y1 (by omega) (by omega) e0' (by omega) u1 (hp_sub2 rfl u2) (by rw [ec]; exact k1) (by rw [ek]; exact k2) k3 m0)
    by_cases w11 : wv kd vl t a = 9309407396
    · obtain ⟨f1, e1⟩ := word 9309407396 (by decide) w11
      rw [kv_11] at e1
      have ec : cf (ak kd vl t a) = 11 := by rw [e1]; rfl
      have ek : kf (ak kd vl t a) = 11 := by rw [e1]; rfl
      rw [w11] at K3
      exact hdA11 c hM (by omega) hy K3 r0 r1 r2 r3 r4 r5 r6 r7 r8 r9 r10 r11 r12 r13 r14 r15 r16 rfl (fun l2 h2 y0 y1 e0' e1' u1 u2 u3 k1 k2 k3 m0 => go90 l2 h2 y0 y1 (by omega) (by omega) e0' (by omega) u1 (hp_sub2 rfl u2) (by rw [ec]; exact k1) (by rw [ek]; exact k2) k3 m0)
    by_cases w12 : wv kd vl t a = 75148
    · obtain ⟨f1, e1⟩ := word 75148 (by decide) w12
      rw [kv_12] at e1
      have ec : cf (ak kd vl t a) = 12 := by rw [e1]; rfl
      have ek : kf (ak kd vl t a) = 12 := by rw [e1]; rfl
      rw [w12] at K3
      exact hdA12 c hM (by omega) hy K3 r0 r1 r2 r3 r4 r5 r6 r7 r8 r9 r10 r11 r12 r13 r14 r15 r16 rfl (fun l2 h2 y0 y1 e0' e1' u1 u2 u3 k1 k2 k3 m0 => go90 l2 h2 y0 y1 (by omega) (by omega) e0' (by omega) u1 (hp_sub2 rfl u2) (by rw [ec]; exact k1) (by rw [ek]; exact k2) k3 m0)
    by_cases w13 : wv kd vl t a = 736548
    · obtain ⟨f1, e1⟩ := word 736548 (by decide) w13
      rw [kv_13] at e1
      have ec : cf (ak kd vl t a) = 13 := by rw [e1]; rfl
      have ek : kf (ak kd vl t a) = 13 := by rw [e1]; rfl
      rw [w13] at K3
      exact hdA13 c hM (by omega) hy K3 r0 r1 r2 r3 r4 r5 r6 r7 r8 r9 r10 r11 r12 r13 r14 r15 r16 rfl (fun l2 h2 y0 y1 e0' e1' u1 u2 u3 k1 k2 k3 m0 => go90 l2 h2 y0 y1 (by omega) (by omega) e0' (by omega) u1 (hp_sub2 rfl u2) (by rw [ec]; exact k1) (by rw [ek]; exact k2) k3 m0)
    by_cases w14 : wv kd vl t a = 659105125
    · obtain ⟨f1, e1⟩ := word 659105125 (by decide) w14
      rw [kv_14] at e1
      have ec : cf (ak kd vl t a) = 14 := by rw [e1]; rfl
      have ek : kf (ak kd vl t a) = 14 := by rw [e1]; rfl
      rw [w14] at K3
      have z2 : ¬ (7 ≤ kf (ak kd vl t a) ∧ kf (ak kd vl t a) ≤ 13 ∧ tl (kf (ak kd vl t a)) 0 C = true) := fun z => by
        have := z.2.1
        omega
      by_cases z3 : C.length = 40
      · exact hdS1 c hM (by omega) hy (a : Int) A (c0.length : Int) ((c0.length : Int) + (C.length : Int)) (by omega) (by omega) A0 A1 (by omega) (by omega) (by omega) (by omega) (by omega) K3 K1 kA kF Dr.1 r0 r1 r2 r3 r4 r5 r6 r7 r8 r9 r10 r11 r12 r13 r14 r15 r16 rfl (fun l2 h2 y0 e0' u1 u2 u3 m0 => go116 l2 h2 y0 (by omega) z2 z3 e0' u1 (hp_sub2 rfl u2))
      · exact hdS0 c hM (by omega) hy (a : Int) A (c0.length : Int) ((c0.length : Int) + (C.length : Int)) (by omega) (by omega) A0 A1 (by omega) (by omega) (by omega) (by omega) (by omega) (by omega) K3 K1 kA kF Dr.1 r0 r1 r2 r3 r4 r5 r6 r7 r8 r9 r10 r11 r12 r13 r14 r15 r16 rfl (fun l2 h2 y0 e0' u1 u2 u3 k1 k2 k3 m0 => go127 l2 h2 y0 (by omega) z2 z3 e0' u1 (hp_sub2 rfl u2) (by rw [ec]; exact k1) (by rw [ek]; exact k2) k3 m0)
    by_cases w15 : wv kd vl t a = 609441381
    · obtain ⟨f1, e1⟩ := word 609441381 (by decide) w15
      rw [kv_15] at e1
      have ec : cf (ak kd vl t a) = 15 := by rw [e1]; rfl
      have ek : kf (ak kd vl t a) = 4 := by rw [e1]; rfl
      rw [w15] at K3
      exact hdA15 c hM (by omega) hy K3 r0 r1 r2 r3 r4 r5 r6 r7 r8 r9 r10 r11 r12 r13 r14 r15 r16 rfl (fun l2 h2 y0 y1 e0' e1' u1 u2 u3 k1 k2 k3 m0 => go90 l2 h2 y0 y1 (by omega) (by omega) e0' (by omega) u1 (hp_sub2 rfl u2) (by rw [ec]; exact k1) (by rw [ek]; exact k2) k3 m0)
    by_cases w16 : wv kd vl t a = 20579780
    · obtain ⟨f1, e1⟩ := word 20579780 (by decide) w16
      rw [kv_16] at e1
      have ec : cf (ak kd vl t a) = 16 := by rw [e1]; rfl
      have ek : kf (ak kd vl t a) = 13 := by rw [e1]; rfl
      rw [w16] at K3
      exact hdA16 c hM (by omega) hy K3 r0 r1 r2 r3 r4 r5 r6 r7 r8 r9 r10 r11 r12 r13 r14 r15 r16 rfl (fun l2 h2 y0 y1 e0' e1' u1 u2 u3 k1 k2 k3 m0 => go90 l2 h2 y0 y1 (by omega) (by omega) e0' (by omega) u1 (hp_sub2 rfl u2) (by rw [ec]; exact k1) (by rw [ek]; exact k2) k3 m0)
    have wb : 0 ≤ wv kd vl t a ∧ wv kd vl t a ≤ 1152921504606846976 := by
      unfold wv
      split
      · rename_i f1
        have := (vb a a1).1 (by rw [← fk_lt (kd := kd) a1]; exact f1)
        omega
      · omega
    have nk : ak kd vl t a < 0 ∨ 16 < ak kd vl t a := by
      by_cases f1 : fk kd t a = 1
      · have ew : wv kd vl t a = vl (a : Int) := if_pos f1
        have ea : ak kd vl t a = kw (vl (a : Int)) := if_pos f1
        rw [ew] at w0 w1 w2 w3 w4 w5 w6 w7 w8 w9 w10 w11 w12 w13 w14 w15 w16
        have := cf_n w0 w1 w2 w3 w4 w5 w6 w7 w8 w9 w10 w11 w12 w13 w14 w15 w16
        rw [← ea] at this
        unfold cf at this
        split at this
        · assumption
        · split at this
          · omega
          · split at this
            · omega
            · split at this
              · omega
              · split at this <;> omega
      · exact Or.inl (by rw [ak_n f1]; decide)
    exact hdN c hM (by omega) hy (wv kd vl t a) wb.1 wb.2 K3 (hp_ne (by omega)) (hp_ne (by omega)) (hp_ne (by omega)) (hp_ne (by omega)) (hp_ne (by omega)) (hp_ne (by omega)) (hp_ne (by omega)) (hp_ne (by omega)) (hp_ne (by omega)) (hp_ne (by omega)) (hp_ne (by omega)) (hp_ne (by omega)) (hp_ne (by omega)) (hp_ne (by omega)) (hp_ne (by omega)) (hp_ne (by omega)) (hp_ne (by omega)) r0 r1 r2 r3 r4 r5 r6 r7 r8 r9 r10 r11 r12 r13 r14 r15 r16 rfl (fun l2 h2 y0 e0' u1 u2 u3 m0 => fz82_25 c1 c hM (by omega) u1 t1 n0 n1 (ct_mv X u2 rfl) (by omega) (by omega) (u2 _ _ _ rfl K1) (by omega) (fun h3 v hv v1 v2 y1' y2' => pR_f (by rw [hd, if_pos nk]) hv v1 (ly_fr_tr (hp_sub2 rfl u2) (hp_sub2 rfl v2)) (fn_mv (fn_mv Io u2 rfl) v2 rfl) (by rw [← e0']; exact y1') y2'))
  obtain ⟨n', r, hgo, q, r1, r2, r3, r4⟩ := start
  simp only [Nat.zero_add] at r2 r3
  exact ⟨r, Or.inr ⟨M, n', hM, hl, hgo⟩, q, r1, r2, r3, r4⟩
theorem pR_w {cst : am_K} {h0 : am_H} {ms mf : List Nat} {i0 : List Int} {pl : Int → Int} {t : Nat} {n : Int} {Y : Type} {res : (Int × Nat) ⊕ Y} {ok : Y → am_H → Prop} {r : am_Q} (A : pR cst h0 ms mf i0 pl t n res ok r) : ∃ w : Int32, r.1 = some (.int w) ∧ 0 ≤ w.toInt ∧ w.toInt ≤ 1 := by
  obtain ⟨w, w1, -, -, -, wF, wS⟩ := A
  refine ⟨w, w1, ?_⟩
  cases res with
  | inl f =>
    have := (wF f.1 f.2 rfl).1
    omega
  | inr x =>
    have := (wS x rfl).1
    omega
/-- a result handed on -/
theorem pR_on {cst : am_K} {h h0 : am_H} {ms ms' mf mf' : List Nat} {i0 : List Int} {pl : Int → Int} {t : Nat} {n : Int} {Y Z : Type} {res : (Int × Nat) ⊕ Y} {res' : (Int × Nat) ⊕ Z} {ok : Y → am_H → Prop} {ok' : Z → am_H → Prop} {r : am_Q} {h5 : am_H} {v w : Int32} (A : pR cst h0 ms mf i0 pl t n res ok r) (ew : r.1 = some (.int w)) (ev : v.toInt = w.toInt) (f0 : ly_fr cst [] h h0) (f1 : ∀ a b, ly_fr cst ms a b → ly_fr cst ms' a b) (f2 : ∀ a b, ly_fr cst (6144 :: 6145 :: mf) a b → ly_fr cst (6144 :: 6145 :: mf') a b) (hy5 : ly_hy m_tt ly_TH h5) (f5 : ly_fr cst [] r.2.1 h5) (sf : ∀ f, res = .inl f → res' = .inl f) (so : ∀ x, res = .inr x → ok x r.2.1 → ∃ y, res' = .inr y ∧ ok' y h5) : pR cst h ms' mf' i0 pl t n res' ok' (some (.int v), h5, 0, 0) := by
  obtain ⟨w', w1, -, -, -, wF, wS⟩ := A
  rw [ew] at w1
  cases w1
  cases e : res with
  | inl f =>
    obtain ⟨k, b⟩ := f
    obtain ⟨z0, w5, kp, z1, z2⟩ := wF k b e
    exact pR_f (sf _ e) (by omega) hy5 (ly_fr_tr (hp_sub2 rfl f0) (ly_fr_tr (f2 _ _ w5) (hp_sub2 rfl f5))) (fn_mv kp f5 rfl) (f5 _ _ _ rfl z1) (f5 _ _ _ rfl z2)
  | inr x =>
    obtain ⟨z0, zf, z1⟩ := wS x e
    obtain ⟨y, ey, oy⟩ := so x e z1
    exact pR_s ey (by omega) hy5 (ly_fr_tr (hp_sub2 rfl f0) (ly_fr_tr (f1 _ _ zf) (hp_sub2 rfl f5))) oy
set_option maxHeartbeats 8000000 in
/-- readBody of the class -/
theorem bo_run {cst : am_K} {strs : List Nat} {D : Nat} {h : am_H} (c4 : hp_C cst strs D) (c3 : hp_C cst strs (D + 1)) (c2 : hp_C cst strs (D + 1 + 1)) (c1 : hp_C cst strs (D + 1 + 1 + 1)) (c : hp_C cst strs (D + 1 + 1 + 1 + 1)) (hD : 3 ≤ D) (hy : ly_hy m_tt ly_TH h) {kd pl vl : Int → Int} {t : Nat} {n : Int} {f : Int → Int} {en : Nat → Int} (T : tkT f n t kd pl vl en) (t1 : (t : Int) ≤ 1200) (n0 : 0 ≤ n) (n1 : n ≤ 1200) (kb : kB kd t) (vb : vB kd vl t) (X : ct cst h kd pl vl t n) {i0 : List Int} {c0 : List cl} {C : List cl} {A d e0 : Int} (ri : (i0.length : Int) + n ≤ 10220) (ci : ((cit C).length : Int) ≤ e0) (e00 : 0 ≤ e0) (rc : (c0.length : Int) + (C.length : Int) ≤ 1239) (A0 : 0 ≤ A) (A1 : A ≤ 30) (d0 : -9223372036854775808 ≤ d) (d1 : d ≤ 9223372036854775807) (Dr : dr cst h i0 c0 C) (I : it cst h i0 (cit C)) (kA : ly_hv cst h 3584 0 = some A) (kD : ly_hv cst h 6160 0 = some d) {b : Nat} (b1 : b ≤ t) (be : e0 ≤ en b) (Cc : cs cst h kd vl t b) {k : Int} (k0 : 0 ≤ k) (k16 : k ≤ 16) (kq : ly_hv cst h 6159 0 = some (kf k)) (kc : ly_hv cst h 6158 0 = some (cf k)) :
    ∃ r, am_Run cst m_cl m_tt m_P strs sx_bi (D + 1 + 1 + 1 + 1 + 1) 88 [.ref 40] h r ∧ (pR cst h [3588, 3594, 4608, 4864, 5120, 5376, 5632, 5888, 6151, 6152, 6153, 6154, 6155, 6156, 6157, 6400, 60010, 60011, 60012, 60080, 60081, 60082] [3594, 5888, 6151, 6152, 6153, 6154, 6155, 6156, 6157, 6400, 60080, 60081, 60082] i0 pl t n (bo kd vl t A k d b) (fun (x : Nat × Int × Int × List Int) h' => cs cst h' kd vl t x.1 ∧ dr cst h' i0 c0 (C ++ [(kf k, x.2.1, x.2.2.1, x.2.2.2)]) ∧ it cst h' i0 (cit C ++ x.2.2.2) ∧ (x.2.2.2.length : Int) ≤ en x.1 - e0 ∧ b ≤ x.1 ∧ x.1 ≤ t)) r := by
  obtain ⟨M, hM, hl⟩ := hp_M (mi := 88) (k := 1) (by decide +kernel)
  have enb := tkT_end T b b1
  -- a number
  have num : (k = 3 ∨ (8 ≤ k ∧ k ≤ 13)) → ∀ (l2 : am_L) (h2 : am_H), ly_hy m_tt ly_TH h2 → ly_fr cst [] h h2 → hp_a l2 0 40 → hp_F cst strs (pR cst h [3588, 3594, 4608, 4864, 5120, 5376, 5632, 5888, 6151, 6152, 6153, 6154, 6155, 6156, 6157, 6400, 60010, 60011, 60012, 60080, 60081, 60082] [3594, 5888, 6151, 6152, 6153, 6154, 6155, 6156, 6157, 6400, 60080, 60081, 60082] i0 pl t n (bo kd vl t A k d b) (fun (x : Nat × Int × Int × List Int) h' => cs cst h' kd vl t x.1 ∧ dr cst h' i0 c0 (C ++ [(kf k, x.2.1, x.2.2.1, x.2.2.2)]) ∧ it cst h' i0 (cit C ++ x.2.2.2) ∧ (x.2.2.2.length : Int) ≤ en x.1 - e0 ∧ b ≤ x.1 ∧ x.1 ≤ t)) (D + 1 + 1 + 1 + 1) M 136 l2 [.ref 40] h2 := by
    intro hk l2 h2 u1 u2 m0
    obtain ⟨r, hrun, R⟩ := nu_run (k := k) c2 c1 (by omega) u1 T t1 n0 n1 kb vb (ct_mv X u2 rfl) ri ci e00 rc A0 A1 d0 d1 (dr_mv Dr u2 rfl) (it_mv I u2 rfl) (u2 _ _ _ rfl kA) (u2 _ _ _ rfl kD) b1 be (cs_mv Cc u2 rfl) hk (u2 _ _ _ rfl kq)
    obtain ⟨w, s1, s2, s3, shy, -⟩ := id R
    obtain ⟨w', e1, w0, w1⟩ := pR_w R
    rw [s1] at e1
    cases e1
    refine hp_call (mi := 88) (pc := 136) (tg := 105) (na := 1) (c := 24) (ci := 4) (st0 := [.ref 40]) (st := []) (av := []) hM (by decide +kernel) u1 rfl rfl rfl (by decide) hrun s2 s3 ?_
    rw [s1]
    exact boV139 c hM (by omega) shy w.toInt w rfl w0 w1 m0 (fun h5 v hv p1 p2 p3 => pR_on R s1 hv u2 (fun _ _ f => hp_sub2 rfl f) (fun _ _ f => hp_sub2 rfl f) p1 p2 (fun f e => e) (fun x e o' => ⟨x, e, cs_mv o'.1 p2 rfl, dr_mv o'.2.1 p2 rfl, it_mv o'.2.2.1 p2 rfl, o'.2.2.2⟩))
  -- one that is told by its word alone
  have pln : ∀ (v0 : Int), bo kd vl t A k d b = .inr (b, d, v0, []) → ∀ (l2 : am_L) (h2 : am_H) (y0 : Int32) (y1 : Int64) (y2 : Int32), y0.toInt = v0 → y1.toInt = d → y2.toInt = kf k → ly_hy m_tt ly_TH h2 → ly_fr cst [] h h2 → hp_a l2 0 40 → hp_F cst strs (pR cst h [3588, 3594, 4608, 4864, 5120, 5376, 5632, 5888, 6151, 6152, 6153, 6154, 6155, 6156, 6157, 6400, 60010, 60011, 60012, 60080, 60081, 60082] [3594, 5888, 6151, 6152, 6153, 6154, 6155, 6156, 6157, 6400, 60080, 60081, 60082] i0 pl t n (bo kd vl t A k d b) (fun (x : Nat × Int × Int × List Int) h' => cs cst h' kd vl t x.1 ∧ dr cst h' i0 c0 (C ++ [(kf k, x.2.1, x.2.2.1, x.2.2.2)]) ∧ it cst h' i0 (cit C ++ x.2.2.2) ∧ (x.2.2.2.length : Int) ≤ en x.1 - e0 ∧ b ≤ x.1 ∧ x.1 ≤ t)) (D + 1 + 1 + 1 + 1) M 130 l2 [.int y0, .long y1, .int y2, .ref 30] h2 := by
    intro v0 er l2 h2 y0 y1 y2 e0' e1' e2' u1 u2 m0
    refine cz88_130 (L := []) (A := A) c1 c hM (by omega) u1 (dr_mv Dr u2 rfl) (by rw [List.append_nil]; exact it_mv I u2 rfl) rc (by rw [List.append_nil]; omega) A0 A1 (u2 _ _ _ rfl kA) (fun h3 v1 v2 D3 => ?_)
    rw [e0', e1', e2'] at D3
    exact boR c hM (by omega) v1 m0 (fun h4 v hv w1 w2 w3 => pR_s (x := (b, d, v0, [])) er hv w1 (ly_fr_tr (hp_sub2 rfl u2) (ly_fr_tr (hp_sub2 rfl v2) (hp_sub2 rfl w2))) ⟨cs_mv (cs_mv (cs_mv Cc u2 rfl) v2 rfl) w2 rfl, dr_mv D3 w2 rfl, by
      rw [List.append_nil]
      exact it_mv (it_mv (it_mv I u2 rfl) v2 rfl) w2 rfl, by
      show ((0 : Nat) : Int) ≤ en b - e0
      omega, Nat.le_refl _, b1⟩)
  have start : hp_F cst strs (pR cst h [3588, 3594, 4608, 4864, 5120, 5376, 5632, 5888, 6151, 6152, 6153, 6154, 6155, 6156, 6157, 6400, 60010, 60011, 60012, 60080, 60081, 60082] [3594, 5888, 6151, 6152, 6153, 6154, 6155, 6156, 6157, 6400, 60080, 60081, 60082] i0 pl t n (bo kd vl t A k d b) (fun (x : Nat × Int × Int × List Int) h' => cs cst h' kd vl t x.1 ∧ dr cst h' i0 c0 (C ++ [(kf k, x.2.1, x.2.2.1, x.2.2.2)]) ∧ it cst h' i0 (cit C ++ x.2.2.2) ∧ (x.2.2.2.length : Int) ≤ en x.1 - e0 ∧ b ≤ x.1 ∧ x.1 ≤ t)) (D + 1 + 1 + 1 + 1) M 0 (lv_args 0 [.ref 40]) [] h := by
    by_cases w0 : k = 0
    · subst w0
      refine bo0 c hM (by omega) hy kq rfl (fun l2 h2 u1 u2 u3 m0 => ?_)
      obtain ⟨r, hrun, R⟩ := de_run c4 c3 c2 c1 hD u1 T t1 n0 n1 kb vb (ct_mv X u2 rfl) ri ci e00 rc A0 A1 d0 d1 (dr_mv Dr u2 rfl) (it_mv I u2 rfl) (u2 _ _ _ rfl kA) (u2 _ _ _ rfl kD) b1 be (cs_mv Cc u2 rfl)
      obtain ⟨w, s1, s2, s3, shy, -⟩ := id R
      obtain ⟨w', e1, w0, w1⟩ := pR_w R
      rw [s1] at e1
      cases e1
      refine hp_call (mi := 88) (pc := 81) (tg := 89) (na := 1) (c := 24) (ci := 4) (st0 := [.ref 40]) (st := []) (av := []) hM (by decide +kernel) u1 rfl rfl rfl (by decide) hrun s2 s3 ?_
      rw [s1]
      refine boV84 c hM (by omega) shy w.toInt w rfl w0 w1 m0 (fun h5 v hv p1 p2 p3 => pR_on R s1 hv u2 (fun _ _ f => hp_sub2 rfl f) (fun _ _ f => hp_sub2 rfl f) p1 p2 (fun f e => ?_) (fun x e o' => ?_))
      · rw [bo, if_pos rfl]
        by_cases q : fk kd t b ≠ 61
        · rw [if_pos q] at e ⊢
          cases e
          rfl
        · rw [if_neg q] at e ⊢
          unfold cx at e
          rw [e]
      · obtain ⟨e', n', L'⟩ := x
        refine ⟨(e', d, (n' : Int), L'), ?_, cs_mv o'.1 p2 rfl, dr_mv o'.2.1 p2 rfl, it_mv o'.2.2.1 p2 rfl, o'.2.2.2.1, ?_, ?_⟩
        · rw [bo, if_pos rfl]
          by_cases q : fk kd t b ≠ 61
          · rw [if_pos q] at e
            cases e
          · rw [if_neg q] at e ⊢
            unfold cx at e
            rw [e]
        · exact Nat.le_of_lt o'.2.2.2.2.2
        · exact Nat.le_of_lt o'.2.2.2.2.1
    by_cases w1 : k = 1
    · subst w1
      refine bo1 c hM (by omega) hy kq rfl (fun l2 h2 u1 u2 u3 m0 => ?_)
      obtain ⟨r, hrun, R⟩ := wr_run (k := 1) c2 c1 (by omega) u1 T t1 n0 n1 kb vb (ct_mv X u2 rfl) ri ci e00 rc A0 A1 d0 d1 (dr_mv Dr u2 rfl) (it_mv I u2 rfl) (u2 _ _ _ rfl kA) (u2 _ _ _ rfl kD) b1 be (cs_mv Cc u2 rfl) rfl
      obtain ⟨w, s1, s2, s3, shy, -⟩ := id R
      obtain ⟨w', e1, w0, w1⟩ := pR_w R
      rw [s1] at e1
      cases e1
      refine hp_call (mi := 88) (pc := 86) (tg := 103) (na := 1) (c := 24) (ci := 4) (st0 := [.ref 40]) (st := []) (av := []) hM (by decide +kernel) u1 rfl rfl rfl (by decide) hrun s2 s3 ?_
      rw [s1]
      exact boV89 c hM (by omega) shy w.toInt w rfl w0 w1 m0 (fun h5 v hv p1 p2 p3 => pR_on R s1 hv u2 (fun _ _ f => hp_sub2 rfl f) (fun _ _ f => hp_sub2 rfl f) p1 p2 (fun f e => e) (fun x e o' => ⟨x, e, cs_mv o'.1 p2 rfl, dr_mv o'.2.1 p2 rfl, it_mv o'.2.2.1 p2 rfl, o'.2.2.2⟩))
    by_cases w16 : k = 16
    · subst w16
      refine bo14 c hM (by omega) hy kq rfl (fun l2 h2 u1 u2 u3 m0 => ?_)
      obtain ⟨r, hrun, R⟩ := st_run (k := 16) c2 c1 (by omega) u1 T t1 n0 n1 kb vb (ct_mv X u2 rfl) ri ci e00 rc A0 A1 d0 d1 (dr_mv Dr u2 rfl) (it_mv I u2 rfl) (u2 _ _ _ rfl kA) b1 be (cs_mv Cc u2 rfl) rfl
      obtain ⟨w, s1, s2, s3, shy, -⟩ := id R
      obtain ⟨w', e1, w0, w1⟩ := pR_w R
      rw [s1] at e1
      cases e1
      refine hp_call (mi := 88) (pc := 91) (tg := 104) (na := 1) (c := 24) (ci := 4) (st0 := [.ref 40]) (st := []) (av := []) hM (by decide +kernel) u1 rfl rfl rfl (by decide) hrun s2 s3 ?_
      rw [s1]
      exact boV94 c hM (by omega) shy w.toInt w rfl w0 w1 m0 (fun h5 v hv p1 p2 p3 => pR_on R s1 hv u2 (fun _ _ f => hp_sub2 rfl f) (fun _ _ f => hp_sub2 rfl f) p1 p2 (fun f e => e) (fun x e o' => ⟨x, e, cs_mv o'.1 p2 rfl, dr_mv o'.2.1 p2 rfl, it_mv o'.2.2.1 p2 rfl, o'.2.2.2⟩))
    by_cases w3 : k = 3
    · have kq' : ly_hv cst h 6159 0 = some 3 := by rw [w3] at kq; exact kq
      exact bo3 c hM (by omega) hy kq' rfl (fun l2 h2 u1 u2 u3 m0 => num (by omega) l2 h2 u1 u2 m0)
    by_cases w8 : k = 8
    · have kq' : ly_hv cst h 6159 0 = some 7 := by rw [w8] at kq; exact kq
      exact bo7 c hM (by omega) hy kq' rfl (fun l2 h2 u1 u2 u3 m0 => num (by omega) l2 h2 u1 u2 m0)
    by_cases w9 : k = 9
    · have kq' : ly_hv cst h 6159 0 = some 8 := by rw [w9] at kq; exact kq
      exact bo8 c hM (by omega) hy kq' rfl (fun l2 h2 u1 u2 u3 m0 => num (by omega) l2 h2 u1 u2 m0)
    by_cases w10 : k = 10
    · have kq' : ly_hv cst h 6159 0 = some 9 := by rw [w10] at kq; exact kq
      exact bo9 c hM (by omega) hy kq' rfl (fun l2 h2 u1 u2 u3 m0 => num (by omega) l2 h2 u1 u2 m0)
    by_cases w11 : k = 11
    · have kq' : ly_hv cst h 6159 0 = some 10 := by rw [w11] at kq; exact kq
      exact bo10 c hM (by omega) hy kq' rfl (fun l2 h2 u1 u2 u3 m0 => num (by omega) l2 h2 u1 u2 m0)
    by_cases w12 : k = 12
    · have kq' : ly_hv cst h 6159 0 = some 11 := by rw [w12] at kq; exact kq
      exact bo11 c hM (by omega) hy kq' rfl (fun l2 h2 u1 u2 u3 m0 => num (by omega) l2 h2 u1 u2 m0)
    by_cases w13 : k = 13
    · have kq' : ly_hv cst h 6159 0 = some 12 := by rw [w13] at kq; exact kq
      exact bo12 c hM (by omega) hy kq' rfl (fun l2 h2 u1 u2 u3 m0 => num (by omega) l2 h2 u1 u2 m0)
    by_cases w2 : k = 2
    · subst w2
      exact boP2 c hM (by omega) hy d d0 d1 kq kc kD rfl (fun l2 h2 y0 y1 y2 e0' e1' e2' u1 u2 u3 m0 => pln 1 (by rw [bo, if_neg (by decide), if_neg (by decide), if_neg (by decide), if_neg (by decide)]; rfl) l2 h2 y0 y1 y2 e0' e1' e2' u1 u2 m0)
    by_cases w4 : k = 4
    · subst w4
      exact boP4 c hM (by omega) hy d d0 d1 kq kc kD rfl (fun l2 h2 y0 y1 y2 e0' e1' e2' u1 u2 u3 m0 => pln 1 (by rw [bo, if_neg (by decide), if_neg (by decide), if_neg (by decide), if_neg (by decide)]; rfl) l2 h2 y0 y1 y2 e0' e1' e2' u1 u2 m0)
    by_cases w6 : k = 6
    · subst w6
      exact boP5 c hM (by omega) hy d d0 d1 kq kc kD rfl (fun l2 h2 y0 y1 y2 e0' e1' e2' u1 u2 u3 m0 => pln 1 (by rw [bo, if_neg (by decide), if_neg (by decide), if_neg (by decide), if_neg (by decide)]; rfl) l2 h2 y0 y1 y2 e0' e1' e2' u1 u2 m0)
    by_cases w7 : k = 7
    · subst w7
      exact boP6 c hM (by omega) hy d d0 d1 kq kc kD rfl (fun l2 h2 y0 y1 y2 e0' e1' e2' u1 u2 u3 m0 => pln 1 (by rw [bo, if_neg (by decide), if_neg (by decide), if_neg (by decide), if_neg (by decide)]; rfl) l2 h2 y0 y1 y2 e0' e1' e2' u1 u2 m0)
    by_cases w14 : k = 14
    · subst w14
      exact boP13 c hM (by omega) hy d d0 d1 kq kc kD rfl (fun l2 h2 y0 y1 y2 e0' e1' e2' u1 u2 u3 m0 => pln 1 (by rw [bo, if_neg (by decide), if_neg (by decide), if_neg (by decide), if_neg (by decide)]; rfl) l2 h2 y0 y1 y2 e0' e1' e2' u1 u2 m0)
    by_cases w5 : k = 5
    · subst w5
      exact boP15 c hM (by omega) hy d d0 d1 kq kc kD rfl (fun l2 h2 y0 y1 y2 e0' e1' e2' u1 u2 u3 m0 => pln 0 (by rw [bo, if_neg (by decide), if_neg (by decide), if_neg (by decide), if_neg (by decide)]; rfl) l2 h2 y0 y1 y2 e0' e1' e2' u1 u2 m0)
    by_cases w15 : k = 15
    · subst w15
      exact boP16 c hM (by omega) hy d d0 d1 kq kc kD rfl (fun l2 h2 y0 y1 y2 e0' e1' e2' u1 u2 u3 m0 => pln 0 (by rw [bo, if_neg (by decide), if_neg (by decide), if_neg (by decide), if_neg (by decide)]; rfl) l2 h2 y0 y1 y2 e0' e1' e2' u1 u2 m0)
    omega
  obtain ⟨n', r, hgo, q, r1, r2, r3, r4⟩ := start
  simp only [Nat.zero_add] at r2 r3
  exact ⟨r, Or.inr ⟨M, n', hM, hl, hgo⟩, q, r1, r2, r3, r4⟩
